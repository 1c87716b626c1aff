/-- a name at x: n letters g -/
def nmC (h : sH) (x : Nat) (g : Int → Int) (n : Int) : Prop := h x 1 = n ∧ (0 ≤ n ∧ n ≤ 8) ∧ ∀ j : Int, 0 ≤ j → j < n → h (x + 1) j = g j ∧ isL (g j)
/-- a numeral at x: n signs g -/
def nuC (h : sH) (x : Nat) (g : Int → Int) (n : Int) : Prop := h x 1 = n ∧ (0 ≤ n ∧ n ≤ 8) ∧ ∀ j : Int, 0 ≤ j → j < n → h (x + 1) j = g j ∧ 1 ≤ g j ∧ g j ≤ 4
theorem nmC_fr {h h1 : sH} {x : Nat} {g : Int → Int} {n : Int} (c : nmC h x g n) (e0 : h1 x = h x) (e1 : h1 (x + 1) = h (x + 1)) : nmC h1 x g n := by unfold nmC at c ⊢; rw [e0, e1]; exact c
theorem nuC_fr {h h1 : sH} {x : Nat} {g : Int → Int} {n : Int} (c : nuC h x g n) (e0 : h1 x = h x) (e1 : h1 (x + 1) = h (x + 1)) : nuC h1 x g n := by unfold nuC at c ⊢; rw [e0, e1]; exact c
theorem tpI_fr {h h1 : sH} {x : Nat} {b : Int → Int} {T : Int} (c : tpI h x b T) (e0 : h1 x = h x) (e1 : h1 (x + 1) = h (x + 1)) : tpI h1 x b T := by unfold tpI at c ⊢; rw [e0, e1]; exact c
theorem sNe {S : sS} {a b : Nat} {p q : Nat × Nat} (h1 : S a = some p) (h2 : S b = some q) (e : p ≠ q) : a ≠ b := fun z => by rw [z, h2] at h1; exact e (Option.some.inj h1).symm
theorem c_X3_take {l : Launch} {D : va_G} {aC : Nat → ClassId} {B t sz : Nat} {S : sS} {r : sR} {h : sH} {x tt : Nat} {i L T : Int} {b : Int → Int} (hx : LX3 S r x) (hT : LX10 S r tt) (ht : tpI h tt b T) (i0 : 0 ≤ i) (L0 : 0 ≤ L) (L8 : L ≤ 8) (iL : i + L ≤ T) : CtV l yX3_take cX3_take 5 none 0 0 [.ref x, .ref tt, .int (iI i), .int (iI L)] D aC B t sz S r h (fun h1 => (∀ a : Nat, a ≠ x → a ≠ x + 1 → h1 a = h a) ∧ h1 x = up (h x) 1 L ∧ ∀ j : Int, 0 ≤ j → j < L → h1 (x + 1) j = b (i + j)) := by
  unfold CtV
  refine Ct.of (lv := [some (.ref x), some (.ref tt), some (.int (iI i)), some (.int (iI L)), none]) (by decide +kernel) rfl (Nat.le_of_ble_eq_true rfl) (fun X hl q rt hnm => ?_)
  have n1 : tt ≠ x := sNe hT.o hx.o (by decide)
  have n2 : tt ≠ x + 1 := sNe hT.o hx.s_letters (by decide)
  have n3 : tt + 1 ≠ x := sNe hT.s_bytes hx.o (by decide)
  have n4 : tt + 1 ≠ x + 1 := sNe hT.s_bytes hx.s_letters (by decide)
  obtain ⟨e1, ⟨T0, T1⟩, hb, -⟩ := ht
  have lp : ∀ (d j : Nat), (j : Int) + d = L → ∀ h2 : sH, (∀ a : Nat, a ≠ x → a ≠ x + 1 → h2 a = h a) → h2 x = up (h x) 1 j → (∀ y : Int, 0 ≤ y → y < j → h2 (x + 1) y = b (i + y)) → G X 0 0 8 [some (.ref x), some (.ref tt), some (.int (iI i)), some (.int (iI L)), some (.int (iI (i + j)))] [] sz S r h2 := by
    intro d
    induction d with
    | zero =>
      intro j hj h2 f1 f2 f3
      have ej : (j : Int) = L := by omega
      rw [ej] at f2 f3 ⊢
      refine r_iload_4 (pc := 8) q dX3_take_8 ?_
      refine r_iload_2 (pc := 10) q dX3_take_10 ?_
      refine r_iload_3 (pc := 11) q dX3_take_11 ?_
      refine r_iadd (pc := 12) q dX3_take_12 ?_
      refine r_icmp_ge (pc := 13) q 74 dX3_take_13 (by decide) ⟨by omega, by omega⟩ ⟨by omega, by omega⟩ (fun c13 => ?_) (fun c13 => ?_)
      · refine r_return (pc := 74) q rt dX3_take_74 ?_
        exact ⟨f1, f2, f3⟩
      exact absurd (by omega) c13
    | succ d ih =>
      intro j hj h2 f1 f2 f3
      have s1 : h2 x 1 = j := by rw [f2, up_s]
      have s2 : h2 tt 1 = T := by rw [f1 tt n1 n2]; exact e1
      have s3 : h2 (tt + 1) (i + j) = b (i + j) := by rw [f1 _ n3 n4]; exact (hb (i + j) (by omega) (by omega)).1
      refine r_iload_4 (pc := 8) q dX3_take_8 ?_
      refine r_iload_2 (pc := 10) q dX3_take_10 ?_
      refine r_iload_3 (pc := 11) q dX3_take_11 ?_
      refine r_iadd (pc := 12) q dX3_take_12 ?_
      refine r_icmp_ge (pc := 13) q 74 dX3_take_13 (by decide) ⟨by omega, by omega⟩ ⟨by omega, by omega⟩ (fun c13 => ?_) (fun c13 => ?_)
      · exact absurd c13 (by omega)
      refine r_iload_4 (pc := 16) q dX3_take_16 ?_
      refine r_if_lt (pc := 18) q 68 dX3_take_18 (by decide) ⟨by omega, by omega⟩ (fun c18 => ?_) (fun c18 => ?_)
      · exact absurd c18 (by omega)
      refine r_iload_4 (pc := 21) q dX3_take_21 ?_
      refine r_aload_1 (pc := 23) q dX3_take_23 ?_
      refine r_geti (pc := 24) q fX3_19 (kz := 1) rfl (by decide) rfl hT.o dX3_take_24 ?_
      rw [s2]
      refine r_icmp_ge (pc := 27) q 68 dX3_take_27 (by decide) ⟨by omega, by omega⟩ ⟨by omega, by omega⟩ (fun c27 => ?_) (fun c27 => ?_)
      · exact absurd c27 (by omega)
      refine r_aload_0 (pc := 30) q dX3_take_30 ?_
      refine r_geti (pc := 31) q fX3_15 (kz := 1) rfl (by decide) rfl hx.o dX3_take_31 ?_
      rw [s1]
      refine r_aload_0 (pc := 34) q dX3_take_34 ?_
      refine r_getr (pc := 35) q fX3_9 (kz := 0) rfl (by decide) rfl hx.o hx.r_letters dX3_take_35 ?_
      refine r_alen20 (pc := 38) q hx.s_letters dX3_take_38 ?_
      refine r_icmp_ge (pc := 39) q 68 dX3_take_39 (by decide) ⟨by omega, by omega⟩ ⟨by omega, by omega⟩ (fun c39 => ?_) (fun c39 => ?_)
      · exact absurd c39 (by omega)
      refine r_aload_0 (pc := 42) q dX3_take_42 ?_
      refine r_getr (pc := 43) q fX3_9 (kz := 0) rfl (by decide) rfl hx.o hx.r_letters dX3_take_43 ?_
      refine r_aload_0 (pc := 46) q dX3_take_46 ?_
      refine r_geti (pc := 47) q fX3_15 (kz := 1) rfl (by decide) rfl hx.o dX3_take_47 ?_
      rw [s1]
      refine r_aload_1 (pc := 50) q dX3_take_50 ?_
      refine r_getr (pc := 51) q fX3_22 (kz := 0) rfl (by decide) rfl hT.o hT.r_bytes dX3_take_51 ?_
      refine r_iload_4 (pc := 54) q dX3_take_54 ?_
      refine r_iald (pc := 56) q hT.s_bytes (by omega) (by omega) dX3_take_56 ?_
      rw [s3]
      refine r_iast (pc := 57) q hx.s_letters (by omega) (by omega) dX3_take_57 (fun h3 eh3 => ?_)
      refine r_aload_0 (pc := 58) q dX3_take_58 ?_
      refine r_dup (pc := 59) q dX3_take_59 rfl ?_
      refine r_geti (pc := 60) q fX3_15 (kz := 1) rfl (by decide) rfl hx.o dX3_take_60 ?_
      have s1' : h3 x 1 = j := by rw [eh3, up_n _ _ (by omega)]; exact s1
      rw [s1']
      refine r_iconst (pc := 63) q dX3_take_63 ?_
      refine r_iadd (pc := 64) q dX3_take_64 ?_
      refine r_puti (pc := 65) q fX3_15 (kz := 1) rfl (by decide) rfl hx.o dX3_take_65 (fun h4 eh4 => ?_)
      refine r_iinc_4 (pc := 68) q dX3_take_68 rfl ?_
      refine r_goto (pc := 71) (tgt := 8) q dX3_take_71 (by decide) ?_
      have e41 : h4 (x + 1) = up (h2 (x + 1)) j (b (i + j)) := by rw [eh4, up_n _ _ (by omega), eh3, up_s]
      have q3 := ih (j + 1) (by omega) h4 (fun a a0 a1 => by rw [eh4, up_n _ _ a0, eh3, up_n _ _ a1]; exact f1 a a0 a1) (by
        rw [eh4, up_s, eh3, up_n _ _ (by omega), f2, up_uu]
        congr 1) (fun y y0 y1 => by
        rw [e41]
        by_cases ey : y = j
        · rw [ey, up_s]
        · rw [up_n _ _ ey]; exact f3 y y0 (by omega))
      rw [show i + ((j + 1 : Nat) : Int) = i + j + 1 by omega] at q3
      exact q3
  refine r_aload_0 (pc := 0) q dX3_take_0 ?_
  refine r_iconst (pc := 1) q dX3_take_1 ?_
  refine r_puti (pc := 2) q fX3_15 (kz := 1) rfl (by decide) rfl hx.o dX3_take_2 (fun h1 eh1 => ?_)
  refine r_iload_2 (pc := 5) q dX3_take_5 ?_
  refine r_istore_4 (pc := 6) q dX3_take_6 rfl ?_
  have q3 := lp L.toNat 0 (by omega) h1 (fun a a0 a1 => by rw [eh1, up_n _ _ a0]) (by rw [eh1, up_s]; rfl) (fun y y0 y1 => by omega)
  rw [show i + ((0 : Nat) : Int) = i by omega] at q3
  exact q3
theorem c_X3_copy {l : Launch} {D : va_G} {aC : Nat → ClassId} {B t sz : Nat} {S : sS} {r : sR} {h : sH} {x y : Nat} {g : Int → Int} {n : Int} (hx : LX3 S r x) (hy : LX3 S r y) (hg : nmC h y g n) (n1 : y ≠ x) (n2 : y ≠ x + 1) (n3 : y + 1 ≠ x) : CtV l yX3_copy cX3_copy 3 none 0 0 [.ref x, .ref y] D aC B t sz S r h (fun h1 => (∀ a : Nat, a ≠ x → a ≠ x + 1 → h1 a = h a) ∧ h1 x = up (h x) 1 n ∧ ∀ j : Int, 0 ≤ j → j < n → h1 (x + 1) j = g j) := by
  unfold CtV
  refine Ct.of (lv := [some (.ref x), some (.ref y), none]) (by decide +kernel) rfl (Nat.le_of_ble_eq_true rfl) (fun X hl q rt hnm => ?_)
  obtain ⟨e1, ⟨T0, T1⟩, hb⟩ := hg
  have lp : ∀ (d j : Nat), (j : Int) + d = n → ∀ h2 : sH, (∀ a : Nat, a ≠ x → a ≠ x + 1 → h2 a = h a) → h2 x = up (h x) 1 n → (∀ z : Int, 0 ≤ z → z < j → h2 (x + 1) z = g z) → G X 0 0 10 [some (.ref x), some (.ref y), some (.int (iI j))] [] sz S r h2 := by
    intro d
    induction d with
    | zero =>
      intro j hj h2 f1 f2 f3
      have s1 : h2 x 1 = n := by rw [f2, up_s]
      refine r_iload_2 (pc := 10) q dX3_copy_10 ?_
      refine r_aload_0 (pc := 11) q dX3_copy_11 ?_
      refine r_geti (pc := 12) q fX3_15 (kz := 1) rfl (by decide) rfl hx.o dX3_copy_12 ?_
      rw [s1]
      refine r_icmp_ge (pc := 15) q 36 dX3_copy_15 (by decide) ⟨by omega, by omega⟩ ⟨by omega, by omega⟩ (fun c15 => ?_) (fun c15 => ?_)
      · refine r_return (pc := 36) q rt dX3_copy_36 ?_
        exact ⟨f1, f2, fun z z0 z1 => f3 z z0 (by omega)⟩
      exact absurd (by omega) c15
    | succ d ih =>
      intro j hj h2 f1 f2 f3
      have s1 : h2 x 1 = n := by rw [f2, up_s]
      have s3 : h2 (y + 1) j = g j := by rw [f1 _ n3 (by omega)]; exact (hb j (by omega) (by omega)).1
      refine r_iload_2 (pc := 10) q dX3_copy_10 ?_
      refine r_aload_0 (pc := 11) q dX3_copy_11 ?_
      refine r_geti (pc := 12) q fX3_15 (kz := 1) rfl (by decide) rfl hx.o dX3_copy_12 ?_
      rw [s1]
      refine r_icmp_ge (pc := 15) q 36 dX3_copy_15 (by decide) ⟨by omega, by omega⟩ ⟨by omega, by omega⟩ (fun c15 => ?_) (fun c15 => ?_)
      · exact absurd c15 (by omega)
      refine r_aload_0 (pc := 18) q dX3_copy_18 ?_
      refine r_getr (pc := 19) q fX3_9 (kz := 0) rfl (by decide) rfl hx.o hx.r_letters dX3_copy_19 ?_
      refine r_iload_2 (pc := 22) q dX3_copy_22 ?_
      refine r_aload_1 (pc := 23) q dX3_copy_23 ?_
      refine r_getr (pc := 24) q fX3_9 (kz := 0) rfl (by decide) rfl hy.o hy.r_letters dX3_copy_24 ?_
      refine r_iload_2 (pc := 27) q dX3_copy_27 ?_
      refine r_iald (pc := 28) q hy.s_letters (by omega) (by omega) dX3_copy_28 ?_
      rw [s3]
      refine r_iast (pc := 29) q hx.s_letters (by omega) (by omega) dX3_copy_29 (fun h3 eh3 => ?_)
      refine r_iinc_2 (pc := 30) q dX3_copy_30 rfl ?_
      refine r_goto (pc := 33) (tgt := 10) q dX3_copy_33 (by decide) ?_
      refine ih (j + 1) (by omega) h3 (fun a a0 a1 => by rw [eh3, up_n _ _ a1]; exact f1 a a0 a1) (by rw [eh3, up_n _ _ (by omega)]; exact f2) (fun z z0 z1 => ?_)
      rw [eh3, up_s]
      by_cases ez : z = j
      · rw [ez, up_s]
      · rw [up_n _ _ ez]; exact f3 z z0 (by omega)
  refine r_aload_0 (pc := 0) q dX3_copy_0 ?_
  refine r_aload_1 (pc := 1) q dX3_copy_1 ?_
  refine r_geti (pc := 2) q fX3_15 (kz := 1) rfl (by decide) rfl hy.o dX3_copy_2 ?_
  rw [e1]
  refine r_puti (pc := 5) q fX3_15 (kz := 1) rfl (by decide) rfl hx.o dX3_copy_5 (fun h1 eh1 => ?_)
  refine r_iconst (pc := 8) q dX3_copy_8 ?_
  refine r_istore_2 (pc := 9) q dX3_copy_9 rfl ?_
  exact lp n.toNat 0 (by omega) h1 (fun a a0 a1 => by rw [eh1, up_n _ _ a0]) (by rw [eh1, up_s]) (fun z z0 z1 => by omega)
def eqN (g f : Int → Int) (n k : Int) : Prop := n = k ∧ ∀ j : Int, 0 ≤ j → j < n → g j = f j
theorem c_X3_same {l : Launch} {D : va_G} {aC : Nat → ClassId} {B t sz : Nat} {S : sS} {r : sR} {h : sH} {x y : Nat} {g f : Int → Int} {n k : Int} (hx : LX3 S r x) (hy : LX3 S r y) (hg : nmC h x g n) (hf : nmC h y f k) : CtI l yX3_same cX3_same 3 (some .boolean) 0 0 [.ref x, .ref y] D aC B t sz S r h (fun z h1 => ((z = 1 ∧ eqN g f n k) ∨ (z = 0 ∧ ¬ eqN g f n k)) ∧ h = h1) := by
  unfold CtI
  refine Ct.of (lv := [some (.ref x), some (.ref y), none]) (by decide +kernel) rfl (Nat.le_of_ble_eq_true rfl) (fun X hl q rt hnm => ?_)
  obtain ⟨e1, ⟨n0, n8⟩, hb⟩ := hg
  obtain ⟨e2, ⟨k0, k8⟩, hc⟩ := hf
  have lp : n = k → ∀ (d j : Nat), (j : Int) + d = n → (∀ z : Int, 0 ≤ z → z < j → g z = f z) → G X 0 0 15 [some (.ref x), some (.ref y), some (.int (iI j))] [] sz S r h := by
    intro nk d
    induction d with
    | zero =>
      intro j hj f3
      refine r_iload_2 (pc := 15) q dX3_same_15 ?_
      refine r_aload_0 (pc := 16) q dX3_same_16 ?_
      refine r_geti (pc := 17) q fX3_15 (kz := 1) rfl (by decide) rfl hx.o dX3_same_17 ?_
      rw [e1]
      refine r_icmp_ge (pc := 20) q 46 dX3_same_20 (by decide) ⟨by omega, by omega⟩ ⟨by omega, by omega⟩ (fun c20 => ?_) (fun c20 => ?_)
      · refine r_iconst (pc := 46) q dX3_same_46 ?_
        refine r_zreturn (pc := 47) q rt dX3_same_47 (by decide) ?_
        exact ⟨Or.inl ⟨rfl, nk, fun z z0 z1 => f3 z z0 (by omega)⟩, rfl⟩
      exact absurd (by omega) c20
    | succ d ih =>
      intro j hj f3
      have s2 := hb j (by omega) (by omega)
      have s3 := hc j (by omega) (by omega)
      unfold isL at s2 s3
      refine r_iload_2 (pc := 15) q dX3_same_15 ?_
      refine r_aload_0 (pc := 16) q dX3_same_16 ?_
      refine r_geti (pc := 17) q fX3_15 (kz := 1) rfl (by decide) rfl hx.o dX3_same_17 ?_
      rw [e1]
      refine r_icmp_ge (pc := 20) q 46 dX3_same_20 (by decide) ⟨by omega, by omega⟩ ⟨by omega, by omega⟩ (fun c20 => ?_) (fun c20 => ?_)
      · exact absurd c20 (by omega)
      refine r_aload_0 (pc := 23) q dX3_same_23 ?_
      refine r_getr (pc := 24) q fX3_9 (kz := 0) rfl (by decide) rfl hx.o hx.r_letters dX3_same_24 ?_
      refine r_iload_2 (pc := 27) q dX3_same_27 ?_
      refine r_iald (pc := 28) q hx.s_letters (by omega) (by omega) dX3_same_28 ?_
      rw [s2.1]
      refine r_aload_1 (pc := 29) q dX3_same_29 ?_
      refine r_getr (pc := 30) q fX3_9 (kz := 0) rfl (by decide) rfl hy.o hy.r_letters dX3_same_30 ?_
      refine r_iload_2 (pc := 33) q dX3_same_33 ?_
      refine r_iald (pc := 34) q hy.s_letters (by omega) (by omega) dX3_same_34 ?_
      rw [s3.1]
      refine r_icmp_eq (pc := 35) q 40 dX3_same_35 (by decide) ⟨by omega, by omega⟩ ⟨by omega, by omega⟩ (fun c35 => ?_) (fun c35 => ?_)
      · refine r_iinc_2 (pc := 40) q dX3_same_40 rfl ?_
        refine r_goto (pc := 43) (tgt := 15) q dX3_same_43 (by decide) ?_
        refine ih (j + 1) (by omega) (fun z z0 z1 => ?_)
        by_cases ez : z = j
        · rw [ez]; exact c35
        · exact f3 z z0 (by omega)
      refine r_iconst (pc := 38) q dX3_same_38 ?_
      refine r_zreturn (pc := 39) q rt dX3_same_39 (by decide) ?_
      exact ⟨Or.inr ⟨rfl, fun z => c35 (z.2 j (by omega) (by omega))⟩, rfl⟩
  refine r_aload_0 (pc := 0) q dX3_same_0 ?_
  refine r_geti (pc := 1) q fX3_15 (kz := 1) rfl (by decide) rfl hx.o dX3_same_1 ?_
  rw [e1]
  refine r_aload_1 (pc := 4) q dX3_same_4 ?_
  refine r_geti (pc := 5) q fX3_15 (kz := 1) rfl (by decide) rfl hy.o dX3_same_5 ?_
  rw [e2]
  refine r_icmp_eq (pc := 8) q 13 dX3_same_8 (by decide) ⟨by omega, by omega⟩ ⟨by omega, by omega⟩ (fun c8 => ?_) (fun c8 => ?_)
  · refine r_iconst (pc := 13) q dX3_same_13 ?_
    refine r_istore_2 (pc := 14) q dX3_same_14 rfl ?_
    exact lp c8 n.toNat 0 (by omega) (fun z z0 z1 => by omega)
  refine r_iconst (pc := 11) q dX3_same_11 ?_
  refine r_zreturn (pc := 12) q rt dX3_same_12 (by decide) ?_
  exact ⟨Or.inr ⟨rfl, fun z => c8 z.1⟩, rfl⟩
theorem c_X4_same {l : Launch} {D : va_G} {aC : Nat → ClassId} {B t sz : Nat} {S : sS} {r : sR} {h : sH} {x y : Nat} {g f : Int → Int} {n k : Int} (hx : LX4 S r x) (hy : LX4 S r y) (hg : nuC h x g n) (hf : nuC h y f k) : CtI l yX4_same cX4_same 3 (some .boolean) 0 0 [.ref x, .ref y] D aC B t sz S r h (fun z h1 => ((z = 1 ∧ eqN g f n k) ∨ (z = 0 ∧ ¬ eqN g f n k)) ∧ h = h1) := by
  unfold CtI
  refine Ct.of (lv := [some (.ref x), some (.ref y), none]) (by decide +kernel) rfl (Nat.le_of_ble_eq_true rfl) (fun X hl q rt hnm => ?_)
  obtain ⟨e1, ⟨n0, n8⟩, hb⟩ := hg
  obtain ⟨e2, ⟨k0, k8⟩, hc⟩ := hf
  have lp : n = k → ∀ (d j : Nat), (j : Int) + d = n → (∀ z : Int, 0 ≤ z → z < j → g z = f z) → G X 0 0 15 [some (.ref x), some (.ref y), some (.int (iI j))] [] sz S r h := by
    intro nk d
    induction d with
    | zero =>
      intro j hj f3
      refine r_iload_2 (pc := 15) q dX4_same_15 ?_
      refine r_aload_0 (pc := 16) q dX4_same_16 ?_
      refine r_geti (pc := 17) q fX4_15 (kz := 1) rfl (by decide) rfl hx.o dX4_same_17 ?_
      rw [e1]
      refine r_icmp_ge (pc := 20) q 46 dX4_same_20 (by decide) ⟨by omega, by omega⟩ ⟨by omega, by omega⟩ (fun c20 => ?_) (fun c20 => ?_)
      · refine r_iconst (pc := 46) q dX4_same_46 ?_
        refine r_zreturn (pc := 47) q rt dX4_same_47 (by decide) ?_
        exact ⟨Or.inl ⟨rfl, nk, fun z z0 z1 => f3 z z0 (by omega)⟩, rfl⟩
      exact absurd (by omega) c20
    | succ d ih =>
      intro j hj f3
      have s2 := hb j (by omega) (by omega)
      have s3 := hc j (by omega) (by omega)
      refine r_iload_2 (pc := 15) q dX4_same_15 ?_
      refine r_aload_0 (pc := 16) q dX4_same_16 ?_
      refine r_geti (pc := 17) q fX4_15 (kz := 1) rfl (by decide) rfl hx.o dX4_same_17 ?_
      rw [e1]
      refine r_icmp_ge (pc := 20) q 46 dX4_same_20 (by decide) ⟨by omega, by omega⟩ ⟨by omega, by omega⟩ (fun c20 => ?_) (fun c20 => ?_)
      · exact absurd c20 (by omega)
      refine r_aload_0 (pc := 23) q dX4_same_23 ?_
      refine r_getr (pc := 24) q fX4_9 (kz := 0) rfl (by decide) rfl hx.o hx.r_signs dX4_same_24 ?_
      refine r_iload_2 (pc := 27) q dX4_same_27 ?_
      refine r_iald (pc := 28) q hx.s_signs (by omega) (by omega) dX4_same_28 ?_
      rw [s2.1]
      refine r_aload_1 (pc := 29) q dX4_same_29 ?_
      refine r_getr (pc := 30) q fX4_9 (kz := 0) rfl (by decide) rfl hy.o hy.r_signs dX4_same_30 ?_
      refine r_iload_2 (pc := 33) q dX4_same_33 ?_
      refine r_iald (pc := 34) q hy.s_signs (by omega) (by omega) dX4_same_34 ?_
      rw [s3.1]
      refine r_icmp_eq (pc := 35) q 40 dX4_same_35 (by decide) ⟨by omega, by omega⟩ ⟨by omega, by omega⟩ (fun c35 => ?_) (fun c35 => ?_)
      · refine r_iinc_2 (pc := 40) q dX4_same_40 rfl ?_
        refine r_goto (pc := 43) (tgt := 15) q dX4_same_43 (by decide) ?_
        refine ih (j + 1) (by omega) (fun z z0 z1 => ?_)
        by_cases ez : z = j
        · rw [ez]; exact c35
        · exact f3 z z0 (by omega)
      refine r_iconst (pc := 38) q dX4_same_38 ?_
      refine r_zreturn (pc := 39) q rt dX4_same_39 (by decide) ?_
      exact ⟨Or.inr ⟨rfl, fun z => c35 (z.2 j (by omega) (by omega))⟩, rfl⟩
  refine r_aload_0 (pc := 0) q dX4_same_0 ?_
  refine r_geti (pc := 1) q fX4_15 (kz := 1) rfl (by decide) rfl hx.o dX4_same_1 ?_
  rw [e1]
  refine r_aload_1 (pc := 4) q dX4_same_4 ?_
  refine r_geti (pc := 5) q fX4_15 (kz := 1) rfl (by decide) rfl hy.o dX4_same_5 ?_
  rw [e2]
  refine r_icmp_eq (pc := 8) q 13 dX4_same_8 (by decide) ⟨by omega, by omega⟩ ⟨by omega, by omega⟩ (fun c8 => ?_) (fun c8 => ?_)
  · refine r_iconst (pc := 13) q dX4_same_13 ?_
    refine r_istore_2 (pc := 14) q dX4_same_14 rfl ?_
    exact lp c8 n.toNat 0 (by omega) (fun z z0 z1 => by omega)
  refine r_iconst (pc := 11) q dX4_same_11 ?_
  refine r_zreturn (pc := 12) q rt dX4_same_12 (by decide) ?_
  exact ⟨Or.inr ⟨rfl, fun z => c8 z.1⟩, rfl⟩
theorem c_X4_value {l : Launch} {D : va_G} {aC : Nat → ClassId} {B t sz : Nat} {S : sS} {r : sR} {h : sH} {x : Nat} {g : Int → Int} {n : Int} (hx : LX4 S r x) (hg : nuC h x g n) : CtI l yX4_value cX4_value 3 (some .int) 0 0 [.ref x] D aC B t sz S r h (fun z h1 => vS g n.toNat = z ∧ h = h1) := by
  unfold CtI
  refine Ct.of (lv := [some (.ref x), none, none]) (by decide +kernel) rfl (Nat.le_of_ble_eq_true rfl) (fun X hl q rt hnm => ?_)
  obtain ⟨e1, ⟨n0, n8⟩, hb⟩ := hg
  have lp : ∀ (d j : Nat), (j : Int) + d = n → G X 0 0 4 [some (.ref x), some (.int (iI (vS g j))), some (.int (iI j))] [] sz S r h := by
    intro d
    induction d with
    | zero =>
      intro j hj
      refine r_iload_2 (pc := 4) q dX4_value_4 ?_
      refine r_aload_0 (pc := 5) q dX4_value_5 ?_
      refine r_geti (pc := 6) q fX4_15 (kz := 1) rfl (by decide) rfl hx.o dX4_value_6 ?_
      rw [e1]
      refine r_icmp_ge (pc := 9) q 31 dX4_value_9 (by decide) ⟨by omega, by omega⟩ ⟨by omega, by omega⟩ (fun c9 => ?_) (fun c9 => ?_)
      · refine r_iload_1 (pc := 31) q dX4_value_31 ?_
        refine r_ireturn (pc := 32) q rt dX4_value_32 ?_
        exact ⟨by rw [show n.toNat = j by omega], rfl⟩
      exact absurd (by omega) c9
    | succ d ih =>
      intro j hj
      have s2 := hb j (by omega) (by omega)
      refine r_iload_2 (pc := 4) q dX4_value_4 ?_
      refine r_aload_0 (pc := 5) q dX4_value_5 ?_
      refine r_geti (pc := 6) q fX4_15 (kz := 1) rfl (by decide) rfl hx.o dX4_value_6 ?_
      rw [e1]
      refine r_icmp_ge (pc := 9) q 31 dX4_value_9 (by decide) ⟨by omega, by omega⟩ ⟨by omega, by omega⟩ (fun c9 => ?_) (fun c9 => ?_)
      · exact absurd c9 (by omega)
      refine r_iload_1 (pc := 12) q dX4_value_12 ?_
      refine r_svN (pc := 13) q (by decide +kernel) dX4_value_13 ?_
      refine r_aload_0 (pc := 16) q dX4_value_16 ?_
      refine r_getr (pc := 17) q fX4_9 (kz := 0) rfl (by decide) rfl hx.o hx.r_signs dX4_value_17 ?_
      refine r_iload_2 (pc := 20) q dX4_value_20 ?_
      refine r_iald (pc := 21) q hx.s_signs (by omega) (by omega) dX4_value_21 ?_
      rw [s2.1]
      refine r_svld (pc := 22) q (by omega) (by omega) dX4_value_22 ?_
      refine r_iadd (pc := 23) q dX4_value_23 ?_
      refine r_istore_1 (pc := 24) q dX4_value_24 rfl ?_
      refine r_iinc_2 (pc := 25) q dX4_value_25 rfl ?_
      refine r_goto (pc := 28) (tgt := 4) q dX4_value_28 (by decide) ?_
      exact ih (j + 1) (by omega)
  refine r_iconst (pc := 0) q dX4_value_0 ?_
  refine r_istore_1 (pc := 1) q dX4_value_1 rfl ?_
  refine r_iconst (pc := 2) q dX4_value_2 ?_
  refine r_istore_2 (pc := 3) q dX4_value_3 rfl ?_
  exact lp n.toNat 0 (by omega)
theorem c_X4_holds {l : Launch} {D : va_G} {aC : Nat → ClassId} {B t sz : Nat} {S : sS} {r : sR} {h : sH} {x : Nat} {s : Int} {g : Int → Int} {n : Int} (hx : LX4 S r x) (hg : nuC h x g n) (hs : inR s) : CtI l yX4_holds cX4_holds 3 (some .boolean) 0 0 [.ref x, .int (iI s)] D aC B t sz S r h (fun z h1 => ((z = 1 ∧ ∃ j : Int, 0 ≤ j ∧ j < n ∧ g j = s) ∨ (z = 0 ∧ ¬ ∃ j : Int, 0 ≤ j ∧ j < n ∧ g j = s)) ∧ h = h1) := by
  unfold CtI
  refine Ct.of (lv := [some (.ref x), some (.int (iI s)), none]) (by decide +kernel) rfl (Nat.le_of_ble_eq_true rfl) (fun X hl q rt hnm => ?_)
  obtain ⟨e1, ⟨n0, n8⟩, hb⟩ := hg
  obtain ⟨s0, s9⟩ := hs
  have lp : ∀ (d j : Nat), (j : Int) + d = n → (∀ y : Int, 0 ≤ y → y < j → g y ≠ s) → G X 0 0 2 [some (.ref x), some (.int (iI s)), some (.int (iI j))] [] sz S r h := by
    intro d
    induction d with
    | zero =>
      intro j hj hn
      refine r_iload_2 (pc := 2) q dX4_holds_2 ?_
      refine r_aload_0 (pc := 3) q dX4_holds_3 ?_
      refine r_geti (pc := 4) q fX4_15 (kz := 1) rfl (by decide) rfl hx.o dX4_holds_4 ?_
      rw [e1]
      refine r_icmp_ge (pc := 7) q 28 dX4_holds_7 (by decide) ⟨by omega, by omega⟩ ⟨by omega, by omega⟩ (fun c7 => ?_) (fun c7 => ?_)
      · refine r_iconst (pc := 28) q dX4_holds_28 ?_
        refine r_zreturn (pc := 29) q rt dX4_holds_29 (by decide) ?_
        exact ⟨Or.inr ⟨rfl, fun ⟨y, y0, y1, y2⟩ => hn y y0 (by omega) y2⟩, rfl⟩
      exact absurd (by omega) c7
    | succ d ih =>
      intro j hj hn
      have s2 := hb j (by omega) (by omega)
      refine r_iload_2 (pc := 2) q dX4_holds_2 ?_
      refine r_aload_0 (pc := 3) q dX4_holds_3 ?_
      refine r_geti (pc := 4) q fX4_15 (kz := 1) rfl (by decide) rfl hx.o dX4_holds_4 ?_
      rw [e1]
      refine r_icmp_ge (pc := 7) q 28 dX4_holds_7 (by decide) ⟨by omega, by omega⟩ ⟨by omega, by omega⟩ (fun c7 => ?_) (fun c7 => ?_)
      · exact absurd c7 (by omega)
      refine r_aload_0 (pc := 10) q dX4_holds_10 ?_
      refine r_getr (pc := 11) q fX4_9 (kz := 0) rfl (by decide) rfl hx.o hx.r_signs dX4_holds_11 ?_
      refine r_iload_2 (pc := 14) q dX4_holds_14 ?_
      refine r_iald (pc := 15) q hx.s_signs (by omega) (by omega) dX4_holds_15 ?_
      rw [s2.1]
      refine r_iload_1 (pc := 16) q dX4_holds_16 ?_
      refine r_icmp_ne (pc := 17) q 22 dX4_holds_17 (by decide) ⟨by omega, by omega⟩ ⟨by omega, by omega⟩ (fun c17 => ?_) (fun c17 => ?_)
      · refine r_iinc_2 (pc := 22) q dX4_holds_22 rfl ?_
        refine r_goto (pc := 25) (tgt := 2) q dX4_holds_25 (by decide) ?_
        refine ih (j + 1) (by omega) (fun y y0 y1 => ?_)
        by_cases ey : y = j
        · rw [ey]; exact c17
        · exact hn y y0 (by omega)
      refine r_iconst (pc := 20) q dX4_holds_20 ?_
      refine r_zreturn (pc := 21) q rt dX4_holds_21 (by decide) ?_
      exact ⟨Or.inl ⟨rfl, j, by omega, by omega, by omega⟩, rfl⟩
  refine r_iconst (pc := 0) q dX4_holds_0 ?_
  refine r_istore_2 (pc := 1) q dX4_holds_1 rfl ?_
  exact lp n.toNat 0 (by omega) (fun y y0 y1 => by omega)
def cswP (g : Int → Int) (n o f j : Int) : Prop := g j = o ∧ (j = 0 ∨ f ≤ g (j - 1)) ∧ (j = n - 1 ∨ g (j + 1) ≤ f)
theorem c_X4_canSwap {l : Launch} {D : va_G} {aC : Nat → ClassId} {B t sz : Nat} {S : sS} {r : sR} {h : sH} {x : Nat} {o f : Int} {g : Int → Int} {n : Int} (hx : LX4 S r x) (hg : nuC h x g n) (ho : inR o) (hf : inR f) : CtI l yX4_canSwap cX4_canSwap 6 (some .boolean) 0 0 [.ref x, .int (iI o), .int (iI f)] D aC B t sz S r h (fun z h1 => ((z = 1 ∧ ∃ j : Int, 0 ≤ j ∧ j < n ∧ cswP g n o f j) ∨ (z = 0 ∧ ¬ ∃ j : Int, 0 ≤ j ∧ j < n ∧ cswP g n o f j)) ∧ h = h1) := by
  unfold CtI
  refine Ct.of (lv := [some (.ref x), some (.int (iI o)), some (.int (iI f)), none, none, none]) (by decide +kernel) rfl (Nat.le_of_ble_eq_true rfl) (fun X hl q rt hnm => ?_)
  obtain ⟨e1, ⟨n0, n8⟩, hb⟩ := hg
  obtain ⟨o0, o9⟩ := ho
  obtain ⟨f0, f9⟩ := hf
  have lp : ∀ (d j : Nat), (j : Int) + d = n → (∀ y : Int, 0 ≤ y → y < j → ¬ cswP g n o f y) → ∀ o4 o5 : Option Value, noL o4 = true → G X 0 0 2 [some (.ref x), some (.int (iI o)), some (.int (iI f)), some (.int (iI j)), o4, o5] [] sz S r h := by
    intro d
    induction d with
    | zero =>
      intro j hj hn o4 o5 n4
      refine r_iload_3 (pc := 2) q dX4_canSwap_2 ?_
      refine r_aload_0 (pc := 3) q dX4_canSwap_3 ?_
      refine r_geti (pc := 4) q fX4_15 (kz := 1) rfl (by decide) rfl hx.o dX4_canSwap_4 ?_
      rw [e1]
      refine r_icmp_ge (pc := 7) q 90 dX4_canSwap_7 (by decide) ⟨by omega, by omega⟩ ⟨by omega, by omega⟩ (fun c7 => ?_) (fun c7 => ?_)
      · refine r_iconst (pc := 90) q dX4_canSwap_90 ?_
        refine r_zreturn (pc := 91) q rt dX4_canSwap_91 (by decide) ?_
        exact ⟨Or.inr ⟨rfl, fun ⟨y, y0, y1, y2⟩ => hn y y0 (by omega) y2⟩, rfl⟩
      exact absurd (by omega) c7
    | succ d ih =>
      intro j hj hn o4 o5 n4
      have s2 := hb j (by omega) (by omega)
      have nx : ¬ cswP g n o f j → ∀ o4 o5 : Option Value, noL o4 = true → G X 0 0 84 [some (.ref x), some (.int (iI o)), some (.int (iI f)), some (.int (iI j)), o4, o5] [] sz S r h := by
        intro hj2 o4 o5 n4
        refine r_iinc_3 (pc := 84) q dX4_canSwap_84 rfl ?_
        refine r_goto (pc := 87) (tgt := 2) q dX4_canSwap_87 (by decide) ?_
        refine ih (j + 1) (by omega) (fun y y0 y1 => ?_) _ _ n4
        by_cases ey : y = j
        · rw [ey]; exact hj2
        · exact hn y y0 (by omega)
      have J60 : ∀ (w v : Int), ((w = 1 ∧ ((j : Int) = 0 ∨ f ≤ g (j - 1))) ∨ (w = 0 ∧ ¬ ((j : Int) = 0 ∨ f ≤ g (j - 1)))) → ((v = 1 ∧ ((j : Int) = n - 1 ∨ g (j + 1) ≤ f)) ∨ (v = 0 ∧ ¬ ((j : Int) = n - 1 ∨ g (j + 1) ≤ f))) → G X 0 0 60 [some (.ref x), some (.int (iI o)), some (.int (iI f)), some (.int (iI j)), some (.int (iI w)), o5] [.int (iI v)] sz S r h := by
        intro w v hw hv
        refine r_istore_5 (pc := 60) q dX4_canSwap_60 rfl ?_
        refine r_aload_0 (pc := 62) q dX4_canSwap_62 ?_
        refine r_getr (pc := 63) q fX4_9 (kz := 0) rfl (by decide) rfl hx.o hx.r_signs dX4_canSwap_63 ?_
        refine r_iload_3 (pc := 66) q dX4_canSwap_66 ?_
        refine r_iald (pc := 67) q hx.s_signs (by omega) (by omega) dX4_canSwap_67 ?_
        rw [s2.1]
        refine r_iload_1 (pc := 68) q dX4_canSwap_68 ?_
        refine r_icmp_ne (pc := 69) q 84 dX4_canSwap_69 (by decide) ⟨by omega, by omega⟩ ⟨by omega, by omega⟩ (fun c69 => ?_) (fun c69 => ?_)
        · exact nx (fun z => c69 z.1) _ _ rfl
        refine r_iload_4 (pc := 72) q dX4_canSwap_72 ?_
        refine r_if_eq (pc := 74) q 84 dX4_canSwap_74 (by decide) ⟨by omega, by omega⟩ (fun c74 => ?_) (fun c74 => ?_)
        · exact nx (fun z => by rcases hw with ⟨y, -⟩ | ⟨-, y⟩ <;> first | omega | exact y z.2.1) _ _ rfl
        refine r_iload_5 (pc := 77) q dX4_canSwap_77 ?_
        refine r_if_eq (pc := 79) q 84 dX4_canSwap_79 (by decide) ⟨by omega, by omega⟩ (fun c79 => ?_) (fun c79 => ?_)
        · exact nx (fun z => by rcases hv with ⟨y, -⟩ | ⟨-, y⟩ <;> first | omega | exact y z.2.2) _ _ rfl
        refine r_iconst (pc := 82) q dX4_canSwap_82 ?_
        refine r_zreturn (pc := 83) q rt dX4_canSwap_83 (by decide) ?_
        refine ⟨Or.inl ⟨rfl, j, by omega, by omega, by omega, ?_, ?_⟩, rfl⟩
        · rcases hw with ⟨-, y⟩ | ⟨y, -⟩ <;> first | exact y | omega
        · rcases hv with ⟨-, y⟩ | ⟨y, -⟩ <;> first | exact y | omega
      have J31 : ∀ w : Int, ((w = 1 ∧ ((j : Int) = 0 ∨ f ≤ g (j - 1))) ∨ (w = 0 ∧ ¬ ((j : Int) = 0 ∨ f ≤ g (j - 1)))) → G X 0 0 31 [some (.ref x), some (.int (iI o)), some (.int (iI f)), some (.int (iI j)), o4, o5] [.int (iI w)] sz S r h := by
        intro w hw
        refine r_istore_4 (pc := 31) q dX4_canSwap_31 rfl ?_
        refine r_iload_3 (pc := 33) q dX4_canSwap_33 ?_
        refine r_aload_0 (pc := 34) q dX4_canSwap_34 ?_
        refine r_geti (pc := 35) q fX4_15 (kz := 1) rfl (by decide) rfl hx.o dX4_canSwap_35 ?_
        rw [e1]
        refine r_iconst (pc := 38) q dX4_canSwap_38 ?_
        refine r_isub (pc := 39) q dX4_canSwap_39 ?_
        refine r_icmp_eq (pc := 40) q 55 dX4_canSwap_40 (by decide) ⟨by omega, by omega⟩ ⟨by omega, by omega⟩ (fun c40 => ?_) (fun c40 => ?_)
        · refine r_iconst (pc := 55) q dX4_canSwap_55 ?_
          refine r_goto (pc := 56) (tgt := 60) q dX4_canSwap_56 (by decide) ?_
          exact J60 w 1 hw (Or.inl ⟨rfl, Or.inl c40⟩)
        have s3 := hb (j + 1) (by omega) (by omega)
        refine r_aload_0 (pc := 43) q dX4_canSwap_43 ?_
        refine r_getr (pc := 44) q fX4_9 (kz := 0) rfl (by decide) rfl hx.o hx.r_signs dX4_canSwap_44 ?_
        refine r_iload_3 (pc := 47) q dX4_canSwap_47 ?_
        refine r_iconst (pc := 48) q dX4_canSwap_48 ?_
        refine r_iadd (pc := 49) q dX4_canSwap_49 ?_
        refine r_iald (pc := 50) q hx.s_signs (by omega) (by omega) dX4_canSwap_50 ?_
        rw [s3.1]
        refine r_iload_2 (pc := 51) q dX4_canSwap_51 ?_
        refine r_icmp_gt (pc := 52) q 59 dX4_canSwap_52 (by decide) ⟨by omega, by omega⟩ ⟨by omega, by omega⟩ (fun c52 => ?_) (fun c52 => ?_)
        · refine r_iconst (pc := 59) q dX4_canSwap_59 ?_
          exact J60 w 0 hw (Or.inr ⟨rfl, by omega⟩)
        refine r_iconst (pc := 55) q dX4_canSwap_55 ?_
        refine r_goto (pc := 56) (tgt := 60) q dX4_canSwap_56 (by decide) ?_
        exact J60 w 1 hw (Or.inl ⟨rfl, by omega⟩)
      refine r_iload_3 (pc := 2) q dX4_canSwap_2 ?_
      refine r_aload_0 (pc := 3) q dX4_canSwap_3 ?_
      refine r_geti (pc := 4) q fX4_15 (kz := 1) rfl (by decide) rfl hx.o dX4_canSwap_4 ?_
      rw [e1]
      refine r_icmp_ge (pc := 7) q 90 dX4_canSwap_7 (by decide) ⟨by omega, by omega⟩ ⟨by omega, by omega⟩ (fun c7 => ?_) (fun c7 => ?_)
      · exact absurd c7 (by omega)
      refine r_iload_3 (pc := 10) q dX4_canSwap_10 ?_
      refine r_if_eq (pc := 11) q 26 dX4_canSwap_11 (by decide) ⟨by omega, by omega⟩ (fun c11 => ?_) (fun c11 => ?_)
      · refine r_iconst (pc := 26) q dX4_canSwap_26 ?_
        refine r_goto (pc := 27) (tgt := 31) q dX4_canSwap_27 (by decide) ?_
        exact J31 1 (Or.inl ⟨rfl, Or.inl c11⟩)
      have s3 := hb (j - 1) (by omega) (by omega)
      refine r_aload_0 (pc := 14) q dX4_canSwap_14 ?_
      refine r_getr (pc := 15) q fX4_9 (kz := 0) rfl (by decide) rfl hx.o hx.r_signs dX4_canSwap_15 ?_
      refine r_iload_3 (pc := 18) q dX4_canSwap_18 ?_
      refine r_iconst (pc := 19) q dX4_canSwap_19 ?_
      refine r_isub (pc := 20) q dX4_canSwap_20 ?_
      refine r_iald (pc := 21) q hx.s_signs (by omega) (by omega) dX4_canSwap_21 ?_
      rw [s3.1]
      refine r_iload_2 (pc := 22) q dX4_canSwap_22 ?_
      refine r_icmp_lt (pc := 23) q 30 dX4_canSwap_23 (by decide) ⟨by omega, by omega⟩ ⟨by omega, by omega⟩ (fun c23 => ?_) (fun c23 => ?_)
      · refine r_iconst (pc := 30) q dX4_canSwap_30 ?_
        exact J31 0 (Or.inr ⟨rfl, by omega⟩)
      refine r_iconst (pc := 26) q dX4_canSwap_26 ?_
      refine r_goto (pc := 27) (tgt := 31) q dX4_canSwap_27 (by decide) ?_
      exact J31 1 (Or.inl ⟨rfl, by omega⟩)
  refine r_iconst (pc := 0) q dX4_canSwap_0 ?_
  refine r_istore_3 (pc := 1) q dX4_canSwap_1 rfl ?_
  exact lp n.toNat 0 (by omega) (fun y y0 y1 => by omega) _ _ rfl
