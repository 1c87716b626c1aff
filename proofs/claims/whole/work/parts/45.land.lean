theorem c_X0_set {l : Launch} {D : va_G} {aC : Nat → ClassId} {B t sz : Nat} {S : sS} {r : sR} {h : sH} {s p : Nat} {g : Int → Int} {n a w d : Int} (hs : LX0 S r s) (hp : LX3 S r p) (hg : nmC h p g n) (ne : p ≠ s + 1) : CtV l yX0_set cX0_set 5 none 1 22 [.ref s, .ref p, .int (iI a), .int (iI w), .int (iI d)] D aC B t sz S r h (fun h1 => (∀ x : Nat, x ≠ s → x ≠ s + 1 → x ≠ s + 2 → h1 x = h x) ∧ h1 s = up (up (up (h s) 1 a) 2 w) 3 d ∧ h1 (s + 1) = up (h (s + 1)) 1 n ∧ ∀ j : Int, 0 ≤ j → j < n → h1 (s + 2) j = g j) := by
  unfold CtV
  refine Ct.of (lv := [some (.ref s), some (.ref p), some (.int (iI a)), some (.int (iI w)), some (.int (iI d))]) (by decide +kernel) rfl (Nat.le_of_ble_eq_true rfl) (fun X hl q rt hnm => ?_)
  have n2 : p ≠ s + 1 + 1 := sNe hp.o hs.n_name.s_letters (by decide)
  have n3 : p + 1 ≠ s + 1 := sNe hp.s_letters hs.n_name.o (by decide)
  refine r_aload_0 (pc := 0) q dX0_set_0 ?_
  refine r_getr (pc := 1) q fX0_10 (kz := 0) rfl (by decide) rfl hs.o hs.r_name dX0_set_1 ?_
  refine r_aload_1 (pc := 4) q dX0_set_4 ?_
  refine r_cV1 (pc := 5) q (c_X3_copy hs.n_name hp hg ne n2 n3) mX0_16 hs.n_name.o (by decide) (Nat.le_of_ble_eq_true rfl) rfl dX0_set_5 (fun h1 hz1 => ?_)
  refine r_aload_0 (pc := 8) q dX0_set_8 ?_
  refine r_iload_2 (pc := 9) q dX0_set_9 ?_
  refine r_puti (pc := 10) q fX0_20 (kz := 1) rfl (by decide) rfl hs.o dX0_set_10 (fun h2 eh2 => ?_)
  refine r_aload_0 (pc := 13) q dX0_set_13 ?_
  refine r_iload_3 (pc := 14) q dX0_set_14 ?_
  refine r_puti (pc := 15) q fX0_24 (kz := 2) rfl (by decide) rfl hs.o dX0_set_15 (fun h3 eh3 => ?_)
  refine r_aload_0 (pc := 18) q dX0_set_18 ?_
  refine r_iload_4 (pc := 19) q dX0_set_19 ?_
  refine r_puti (pc := 21) q fX0_27 (kz := 3) rfl (by decide) rfl hs.o dX0_set_21 (fun h4 eh4 => ?_)
  refine r_return (pc := 24) q rt dX0_set_24 ?_
  obtain ⟨f1, f2, f3⟩ := hz1
  have o4 : ∀ x : Nat, x ≠ s → h4 x = h1 x := fun x e => by rw [eh4, up_n _ _ e, eh3, up_n _ _ e, eh2, up_n _ _ e]
  have es : h1 s = h s := f1 s (by omega) (by omega)
  refine ⟨fun x x0 x1 x2 => by rw [o4 x x0]; exact f1 x x1 (by omega), ?_, by rw [o4 _ (by omega)]; exact f2, fun j j0 j1 => by rw [o4 _ (by omega)]; exact f3 j j0 j1⟩
  rw [eh4, up_s, eh3, up_s, eh2, up_s, es]
/-- the land at y -/
def lnC (h : sH) (y : Nat) (rg : Int → Int → Int) (rn : Int → Int) (sg : Int → Int → Int) (sn : Int → Int) : Prop :=
  (0 ≤ h y 2 ∧ h y 2 ≤ 12) ∧ (∀ k : Int, 0 ≤ k → k < h y 2 → (0 ≤ h (y + 3 + 6 * k.toNat) 1 ∧ h (y + 3 + 6 * k.toNat) 1 ≤ 600) ∧ nmC h (y + 3 + 6 * k.toNat + 1) (rg k) (rn k) ∧ 0 ≤ h (y + 3 + 6 * k.toNat) 3 ∧ h (y + 3 + 6 * k.toNat) 3 ≤ 100000) ∧
  (0 ≤ h y 3 ∧ h y 3 ≤ 12) ∧ (∀ k : Int, 0 ≤ k → k < h y 3 → (0 ≤ h (y + 6 + 6 * k.toNat) 1 ∧ h (y + 6 + 6 * k.toNat) 1 ≤ 600) ∧ nmC h (y + 6 + 6 * k.toNat + 1) (sg k) (sn k) ∧ (0 ≤ h (y + 6 + 6 * k.toNat) 2 ∧ h (y + 6 + 6 * k.toNat) 2 ≤ 600) ∧ 0 ≤ h (y + 6 + 6 * k.toNat) 3 ∧ h (y + 6 + 6 * k.toNat) 3 ≤ 100000) ∧
  (0 ≤ h y 4 ∧ h y 4 ≤ 50) ∧ (0 ≤ h y 5 ∧ h y 5 ≤ 50)
theorem c_X2_hasRuinAt {l : Launch} {D : va_G} {aC : Nat → ClassId} {B t sz : Nat} {S : sS} {r : sR} {h : sH} {y : Nat} {p : Int} (hy : LX2 S r y) (c0 : 0 ≤ h y 2) (c1 : h y 2 ≤ 12) (hk : ∀ k : Int, 0 ≤ k → k < h y 2 → 0 ≤ h (y + 3 + 6 * k.toNat) 1 ∧ h (y + 3 + 6 * k.toNat) 1 ≤ 600) (hp : inR p) : CtI l yX2_hasRuinAt cX2_hasRuinAt 3 (some .boolean) 0 0 [.ref y, .int (iI p)] D aC B t sz S r h (fun z h1 => ((z = 1 ∧ ∃ k : Int, 0 ≤ k ∧ k < h y 2 ∧ h (y + 3 + 6 * k.toNat) 1 = p) ∨ (z = 0 ∧ ∀ k : Int, 0 ≤ k → k < h y 2 → h (y + 3 + 6 * k.toNat) 1 ≠ p)) ∧ h = h1) := by
  unfold CtI
  refine Ct.of (lv := [some (.ref y), some (.int (iI p)), none]) (by decide +kernel) rfl (Nat.le_of_ble_eq_true rfl) (fun X hl q rt hnm => ?_)
  obtain ⟨p0, p9⟩ := hp
  have lp : ∀ (d j : Nat), (j : Int) + d = h y 2 → (∀ k : Int, 0 ≤ k → k < j → h (y + 3 + 6 * k.toNat) 1 ≠ p) → G X 0 0 2 [some (.ref y), some (.int (iI p)), some (.int (iI j))] [] sz S r h := by
    intro d
    induction d with
    | zero =>
      intro j hj hn
      refine r_iload_2 (pc := 2) q dX2_hasRuinAt_2 ?_
      refine r_aload_0 (pc := 3) q dX2_hasRuinAt_3 ?_
      refine r_geti (pc := 4) q fX2_28 (kz := 2) rfl (by decide) rfl hy.o dX2_hasRuinAt_4 ?_
      refine r_icmp_ge (pc := 7) q 31 dX2_hasRuinAt_7 (by decide) ⟨by omega, by omega⟩ ⟨by omega, by omega⟩ (fun c7 => ?_) (fun c7 => ?_)
      · refine r_iconst (pc := 31) q dX2_hasRuinAt_31 ?_
        refine r_zreturn (pc := 32) q rt dX2_hasRuinAt_32 (by decide) ?_
        exact ⟨Or.inr ⟨rfl, fun k k0 k1 => hn k k0 (by omega)⟩, rfl⟩
      exact absurd (by omega) c7
    | succ d ih =>
      intro j hj hn
      have b := hk j (by omega) (by omega)
      refine r_iload_2 (pc := 2) q dX2_hasRuinAt_2 ?_
      refine r_aload_0 (pc := 3) q dX2_hasRuinAt_3 ?_
      refine r_geti (pc := 4) q fX2_28 (kz := 2) rfl (by decide) rfl hy.o dX2_hasRuinAt_4 ?_
      refine r_icmp_ge (pc := 7) q 31 dX2_hasRuinAt_7 (by decide) ⟨by omega, by omega⟩ ⟨by omega, by omega⟩ (fun c7 => ?_) (fun c7 => ?_)
      · exact absurd c7 (by omega)
      refine r_aload_0 (pc := 10) q dX2_hasRuinAt_10 ?_
      refine r_getr (pc := 11) q fX2_11 (kz := 0) rfl (by decide) rfl hy.o hy.r_ruins dX2_hasRuinAt_11 ?_
      refine r_iload_2 (pc := 14) q dX2_hasRuinAt_14 ?_
      refine r_aald27 (pc := 15) q hy.s_ruins (by omega) (by omega) (hy.e_ruins (by omega) (by omega)) dX2_hasRuinAt_15 ?_
      refine r_geti (pc := 16) q fX2_31 (kz := 1) rfl (by decide) rfl ((hy.n_ruins (by omega) (by omega))).o dX2_hasRuinAt_16 ?_
      refine r_iload_1 (pc := 19) q dX2_hasRuinAt_19 ?_
      refine r_icmp_ne (pc := 20) q 25 dX2_hasRuinAt_20 (by decide) ⟨by omega, by omega⟩ ⟨by omega, by omega⟩ (fun c20 => ?_) (fun c20 => ?_)
      · refine r_iinc_2 (pc := 25) q dX2_hasRuinAt_25 rfl ?_
        refine r_goto (pc := 28) (tgt := 2) q dX2_hasRuinAt_28 (by decide) ?_
        refine ih (j + 1) (by omega) (fun k k0 k1 => ?_)
        by_cases ek : k = j
        · rw [ek]; exact c20
        · exact hn k k0 (by omega)
      refine r_iconst (pc := 23) q dX2_hasRuinAt_23 ?_
      refine r_zreturn (pc := 24) q rt dX2_hasRuinAt_24 (by decide) ?_
      exact ⟨Or.inl ⟨rfl, j, by omega, by omega, by omega⟩, rfl⟩
  refine r_iconst (pc := 0) q dX2_hasRuinAt_0 ?_
  refine r_istore_2 (pc := 1) q dX2_hasRuinAt_1 rfl ?_
  exact lp (h y 2).toNat 0 (by omega) (fun k k0 k1 => by omega)
theorem c_X2_addRuin {l : Launch} {D : va_G} {aC : Nat → ClassId} {B t sz : Nat} {S : sS} {r : sR} {h : sH} {y p : Nat} {g : Int → Int} {n a d : Int} (hy : LX2 S r y) (hp : LX3 S r p) (hg : nmC h p g n) (ne : p < y ∨ y + 100 < p) (c0 : 0 ≤ h y 2) (c1 : h y 2 ≤ 12) : CtI l yX2_addRuin cX2_addRuin 4 (some .int) 2 46 [.ref y, .ref p, .int (iI a), .int (iI d)] D aC B t sz S r h (fun z h1 => (12 ≤ h y 2 ∧ z = -1 ∧ h1 = h) ∨ (h y 2 < 12 ∧ z = h y 2 ∧ (∀ x : Nat, x ≠ y → x ≠ y + 3 + 6 * (h y 2).toNat → x ≠ y + 3 + 6 * (h y 2).toNat + 1 → x ≠ y + 3 + 6 * (h y 2).toNat + 2 → h1 x = h x) ∧ h1 y = up (h y) 2 (h y 2 + 1) ∧ h1 (y + 3 + 6 * (h y 2).toNat) = up (up (up (h (y + 3 + 6 * (h y 2).toNat)) 1 a) 2 0) 3 d ∧ h1 (y + 3 + 6 * (h y 2).toNat + 1) = up (h (y + 3 + 6 * (h y 2).toNat + 1)) 1 n ∧ ∀ j : Int, 0 ≤ j → j < n → h1 (y + 3 + 6 * (h y 2).toNat + 2) j = g j)) := by
  unfold CtI
  refine Ct.of (lv := [some (.ref y), some (.ref p), some (.int (iI a)), some (.int (iI d))]) (by decide +kernel) rfl (Nat.le_of_ble_eq_true rfl) (fun X hl q rt hnm => ?_)
  refine r_aload_0 (pc := 0) q dX2_addRuin_0 ?_
  refine r_geti (pc := 1) q fX2_28 (kz := 2) rfl (by decide) rfl hy.o dX2_addRuin_1 ?_
  refine r_bipush (pc := 4) q dX2_addRuin_4 (by decide) ?_
  refine r_icmp_lt (pc := 6) q 11 dX2_addRuin_6 (by decide) ⟨by omega, by omega⟩ ⟨by omega, by omega⟩ (fun c6 => ?_) (fun c6 => ?_)
  · refine r_aload_0 (pc := 11) q dX2_addRuin_11 ?_
    refine r_getr (pc := 12) q fX2_11 (kz := 0) rfl (by decide) rfl hy.o hy.r_ruins dX2_addRuin_12 ?_
    refine r_aload_0 (pc := 15) q dX2_addRuin_15 ?_
    refine r_geti (pc := 16) q fX2_28 (kz := 2) rfl (by decide) rfl hy.o dX2_addRuin_16 ?_
    refine r_aald27 (pc := 19) q hy.s_ruins (by omega) (by omega) (hy.e_ruins (by omega) (by omega)) dX2_addRuin_19 ?_
    refine r_aload_1 (pc := 20) q dX2_addRuin_20 ?_
    refine r_iload_2 (pc := 21) q dX2_addRuin_21 ?_
    refine r_iconst (pc := 22) q dX2_addRuin_22 ?_
    refine r_iload_3 (pc := 23) q dX2_addRuin_23 ?_
    refine r_cV4 (pc := 24) q (c_X0_set (hy.n_ruins (by omega) (by omega)) hp hg (by omega)) mX2_34 ((hy.n_ruins (by omega) (by omega))).o (by decide) (Nat.le_of_ble_eq_true rfl) rfl dX2_addRuin_24 (fun h1 hz1 => ?_)
    obtain ⟨f1, f2, f3, f4⟩ := hz1
    refine r_aload_0 (pc := 27) q dX2_addRuin_27 ?_
    refine r_dup (pc := 28) q dX2_addRuin_28 rfl ?_
    refine r_geti (pc := 29) q fX2_28 (kz := 2) rfl (by decide) rfl hy.o dX2_addRuin_29 ?_
    have e1 : h1 y = h y := f1 y (by omega) (by omega) (by omega)
    rw [e1]
    refine r_iconst (pc := 32) q dX2_addRuin_32 ?_
    refine r_iadd (pc := 33) q dX2_addRuin_33 ?_
    refine r_puti (pc := 34) q fX2_28 (kz := 2) rfl (by decide) rfl hy.o dX2_addRuin_34 (fun h2 eh2 => ?_)
    refine r_aload_0 (pc := 37) q dX2_addRuin_37 ?_
    refine r_geti (pc := 38) q fX2_28 (kz := 2) rfl (by decide) rfl hy.o dX2_addRuin_38 ?_
    have e2 : h2 y 2 = h y 2 + 1 := by rw [eh2, up_s, up_s]
    rw [e2]
    refine r_iconst (pc := 41) q dX2_addRuin_41 ?_
    refine r_isub (pc := 42) q dX2_addRuin_42 ?_
    refine r_ireturn (pc := 43) q rt dX2_addRuin_43 ?_
    have o2 : ∀ x : Nat, x ≠ y → h2 x = h1 x := fun x e => by rw [eh2, up_n _ _ e]
    refine Or.inr ⟨by omega, by omega, fun x x0 x1 x2 x3 => by rw [o2 x x0]; exact f1 x x1 x2 x3, by rw [eh2, up_s, e1], by rw [o2 _ (by omega)]; exact f2, by rw [o2 _ (by omega)]; exact f3, fun j j0 j1 => by rw [o2 _ (by omega)]; exact f4 j j0 j1⟩
  refine r_iconst (pc := 9) q dX2_addRuin_9 ?_
  refine r_ireturn (pc := 10) q rt dX2_addRuin_10 ?_
  exact Or.inl ⟨by omega, rfl, rfl⟩
theorem c_X2_addStone {l : Launch} {D : va_G} {aC : Nat → ClassId} {B t sz : Nat} {S : sS} {r : sR} {h : sH} {y p : Nat} {g : Int → Int} {n a w d : Int} (hy : LX2 S r y) (hp : LX3 S r p) (hg : nmC h p g n) (ne : p < y ∨ y + 100 < p) (c0 : 0 ≤ h y 3) (c1 : h y 3 ≤ 12) : CtI l yX2_addStone cX2_addStone 5 (some .int) 2 46 [.ref y, .ref p, .int (iI a), .int (iI w), .int (iI d)] D aC B t sz S r h (fun z h1 => (12 ≤ h y 3 ∧ z = -1 ∧ h1 = h) ∨ (h y 3 < 12 ∧ z = h y 3 ∧ (∀ x : Nat, x ≠ y → x ≠ y + 6 + 6 * (h y 3).toNat → x ≠ y + 6 + 6 * (h y 3).toNat + 1 → x ≠ y + 6 + 6 * (h y 3).toNat + 2 → h1 x = h x) ∧ h1 y = up (h y) 3 (h y 3 + 1) ∧ h1 (y + 6 + 6 * (h y 3).toNat) = up (up (up (h (y + 6 + 6 * (h y 3).toNat)) 1 a) 2 w) 3 d ∧ h1 (y + 6 + 6 * (h y 3).toNat + 1) = up (h (y + 6 + 6 * (h y 3).toNat + 1)) 1 n ∧ ∀ j : Int, 0 ≤ j → j < n → h1 (y + 6 + 6 * (h y 3).toNat + 2) j = g j)) := by
  unfold CtI
  refine Ct.of (lv := [some (.ref y), some (.ref p), some (.int (iI a)), some (.int (iI w)), some (.int (iI d))]) (by decide +kernel) rfl (Nat.le_of_ble_eq_true rfl) (fun X hl q rt hnm => ?_)
  refine r_aload_0 (pc := 0) q dX2_addStone_0 ?_
  refine r_geti (pc := 1) q fX2_38 (kz := 3) rfl (by decide) rfl hy.o dX2_addStone_1 ?_
  refine r_bipush (pc := 4) q dX2_addStone_4 (by decide) ?_
  refine r_icmp_lt (pc := 6) q 11 dX2_addStone_6 (by decide) ⟨by omega, by omega⟩ ⟨by omega, by omega⟩ (fun c6 => ?_) (fun c6 => ?_)
  · refine r_aload_0 (pc := 11) q dX2_addStone_11 ?_
    refine r_getr (pc := 12) q fX2_17 (kz := 1) rfl (by decide) rfl hy.o hy.r_stones dX2_addStone_12 ?_
    refine r_aload_0 (pc := 15) q dX2_addStone_15 ?_
    refine r_geti (pc := 16) q fX2_38 (kz := 3) rfl (by decide) rfl hy.o dX2_addStone_16 ?_
    refine r_aald27 (pc := 19) q hy.s_stones (by omega) (by omega) (hy.e_stones (by omega) (by omega)) dX2_addStone_19 ?_
    refine r_aload_1 (pc := 20) q dX2_addStone_20 ?_
    refine r_iload_2 (pc := 21) q dX2_addStone_21 ?_
    refine r_iload_3 (pc := 22) q dX2_addStone_22 ?_
    refine r_iload_4 (pc := 23) q dX2_addStone_23 ?_
    refine r_cV4 (pc := 25) q (c_X0_set (hy.n_stones (by omega) (by omega)) hp hg (by omega)) mX2_34 ((hy.n_stones (by omega) (by omega))).o (by decide) (Nat.le_of_ble_eq_true rfl) rfl dX2_addStone_25 (fun h1 hz1 => ?_)
    obtain ⟨f1, f2, f3, f4⟩ := hz1
    refine r_aload_0 (pc := 28) q dX2_addStone_28 ?_
    refine r_dup (pc := 29) q dX2_addStone_29 rfl ?_
    refine r_geti (pc := 30) q fX2_38 (kz := 3) rfl (by decide) rfl hy.o dX2_addStone_30 ?_
    have e1 : h1 y = h y := f1 y (by omega) (by omega) (by omega)
    rw [e1]
    refine r_iconst (pc := 33) q dX2_addStone_33 ?_
    refine r_iadd (pc := 34) q dX2_addStone_34 ?_
    refine r_puti (pc := 35) q fX2_38 (kz := 3) rfl (by decide) rfl hy.o dX2_addStone_35 (fun h2 eh2 => ?_)
    refine r_aload_0 (pc := 38) q dX2_addStone_38 ?_
    refine r_geti (pc := 39) q fX2_38 (kz := 3) rfl (by decide) rfl hy.o dX2_addStone_39 ?_
    have e2 : h2 y 3 = h y 3 + 1 := by rw [eh2, up_s, up_s]
    rw [e2]
    refine r_iconst (pc := 42) q dX2_addStone_42 ?_
    refine r_isub (pc := 43) q dX2_addStone_43 ?_
    refine r_ireturn (pc := 44) q rt dX2_addStone_44 ?_
    have o2 : ∀ x : Nat, x ≠ y → h2 x = h1 x := fun x e => by rw [eh2, up_n _ _ e]
    refine Or.inr ⟨by omega, by omega, fun x x0 x1 x2 x3 => by rw [o2 x x0]; exact f1 x x1 x2 x3, by rw [eh2, up_s, e1], by rw [o2 _ (by omega)]; exact f2, by rw [o2 _ (by omega)]; exact f3, fun j j0 j1 => by rw [o2 _ (by omega)]; exact f4 j j0 j1⟩
  refine r_iconst (pc := 9) q dX2_addStone_9 ?_
  refine r_ireturn (pc := 10) q rt dX2_addStone_10 ?_
  exact Or.inl ⟨by omega, rfl, rfl⟩
