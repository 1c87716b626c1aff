def awI (aw : Bool) : Int := if aw = true then 1 else 0
/-- what the scribe at c and the route at y hold while a text b is read -/
def rdS (h : sH) (c y : Nat) (b : Int → Int) (aw : Bool) (n : Int) (ns nl us ul : Int → Int) : Prop := h c 2 = awI aw ∧ h y 4 = n ∧ (0 ≤ n ∧ n ≤ 10) ∧ (aw = false → 1 ≤ n) ∧ (∀ i : Int, 0 ≤ i → i < n → nmC h (y + 4 + 4 * i.toNat) (fun j => b (ns i + j)) (nl i) ∧ 1 ≤ nl i) ∧ ∀ i : Int, 0 ≤ i → i < n - 1 + awI aw → nuC h (y + 6 + 4 * i.toNat) (fun j => signC (b (us i + j))) (ul i) ∧ 1 ≤ ul i
def rdF (h h2 : sH) (c y : Nat) : Prop := (∀ a : Nat, a ≠ c → a ≠ y → (a < y + 4 ∨ y + 44 ≤ a) → h2 a = h a) ∧ ∀ k : Int, k ≠ 4 → h2 y k = h y k
theorem rdF_t {h h2 h3 : sH} {c y : Nat} (e1 : rdF h h2 c y) (e2 : rdF h2 h3 c y) : rdF h h3 c y := ⟨fun a a0 a1 a2 => by rw [e2.1 a a0 a1 a2]; exact e1.1 a a0 a1 a2, fun k k0 => by rw [e2.2 k k0]; exact e1.2 k k0⟩
def stC (h h1 : sH) (c y : Nat) (b : Int → Int) (T a : Int) (aw : Bool) (n : Int) (ns nl us ul : Int → Int) (z : Int) : Prop := rdF h h1 c y ∧ ((∃ k : Int, (1 ≤ k ∧ k ≤ 3) ∧ h1 c 0 = k ∧ h1 c 1 = a ∧ PR b T a aw n ns nl us ul = (k, a, n, ns, nl, us, ul)) ∨ (h1 c 0 = h c 0 ∧ h1 c 1 = h c 1 ∧ ∃ (aw' : Bool) (n' : Int) (ns' nl' us' ul' : Int → Int), rdS h1 c y b aw' n' ns' nl' us' ul' ∧ PR b T a aw n ns nl us ul = PR b T (a + z) aw' n' ns' nl' us' ul'))
theorem c_X8_blame {l : Launch} {D : va_G} {aC : Nat → ClassId} {B t sz : Nat} {S : sS} {r : sR} {h : sH} {c : Nat} {k p : Int} (hc : LX8 S r c) : CtV l yX8_blame cX8_blame 3 none 0 0 [.ref c, .int (iI k), .int (iI p)] D aC B t sz S r h (fun h1 => h1 = pf (pf h c 0 k) c 1 p) := by
  unfold CtV
  refine Ct.of (lv := [some (.ref c), some (.int (iI k)), some (.int (iI p))]) (by decide +kernel) rfl (Nat.le_of_ble_eq_true rfl) (fun X hl q rt hnm => ?_)
  refine r_aload_0 (pc := 0) q dX8_blame_0 ?_
  refine r_iload_1 (pc := 1) q dX8_blame_1 ?_
  refine r_puti (pc := 2) q fX8_9 (kz := 0) rfl (by decide) rfl hc.o dX8_blame_2 (fun h1 eh1 => ?_)
  refine r_aload_0 (pc := 5) q dX8_blame_5 ?_
  refine r_iload_2 (pc := 6) q dX8_blame_6 ?_
  refine r_puti (pc := 7) q fX8_15 (kz := 1) rfl (by decide) rfl hc.o dX8_blame_7 (fun h2 eh2 => ?_)
  refine r_return (pc := 10) q rt dX8_blame_10 ?_
  rw [eh2, eh1]
theorem stC_bl {h h1 : sH} {c y : Nat} {b : Int → Int} {T a k : Int} {aw : Bool} {n : Int} {ns nl us ul : Int → Int} {z : Int} (ne : c ≠ y) (k1 : 1 ≤ k) (k3 : k ≤ 3) (e : h1 = pf (pf h c 0 k) c 1 a) (hP : PR b T a aw n ns nl us ul = (k, a, n, ns, nl, us, ul)) : stC h h1 c y b T a aw n ns nl us ul z := by
  refine ⟨⟨fun x x0 _ _ => by rw [e, pf_o _ 1 a x0, pf_o _ 0 k x0], fun x _ => by rw [e, pf_o _ 1 a (Ne.symm ne), pf_o _ 0 k (Ne.symm ne)]⟩, Or.inl ⟨k, ⟨k1, k3⟩, ?_, ?_, hP⟩⟩
  · rw [e, pf_f _ c a (by decide)]; exact pf_s _ _ _ _
  · rw [e]; exact pf_s _ _ _ _
theorem c_X8_takeWord {l : Launch} {D : va_G} {aC : Nat → ClassId} {B t sz : Nat} {S : sS} {r : sR} {h : sH} {c t2 y : Nat} {a L T n : Int} {b ns nl us ul : Int → Int} {aw : Bool} (hc : LX8 S r c) (hT : LX10 S r t2) (hy : LX7 S r y) (ht : tpI h t2 b T) (hs : rdS h c y b aw n ns nl us ul) (o1 : t2 + 1 < y) (o2 : c < y) (a0 : 0 ≤ a) (aT : a + L ≤ T) (hr : isRun (fun x => isL (b x)) a L) (L1 : 1 ≤ L) : CtV l yX8_takeWord cX8_takeWord 6 none 2 44 [.ref c, .ref t2, .int (iI a), .int (iI L), .ref y] D aC B t sz S r h (fun h1 => stC h h1 c y b T a aw n ns nl us ul L) := by
  unfold CtV
  refine Ct.of (lv := [some (.ref c), some (.ref t2), some (.int (iI a)), some (.int (iI L)), some (.ref y), none]) (by decide +kernel) rfl (Nat.le_of_ble_eq_true rfl) (fun X hl q rt hnm => ?_)
  have nct : c ≠ t2 := sNe hc.o hT.o (by decide)
  have nct1 : c ≠ t2 + 1 := sNe hc.o hT.s_bytes (by decide)
  obtain ⟨q1, q2, ⟨n0, n10⟩, q4, q5, q6⟩ := id hs
  obtain ⟨T1, ⟨T0, T2⟩, hb, hbz⟩ := id ht
  have prw := PR_wrd (aw := aw) (n := n) (ns := ns) (nl := nl) (us := us) (ul := ul) (show a < T by omega) hbz hr (by omega)
  have awb : 0 ≤ awI aw ∧ awI aw ≤ 1 := by unfold awI; split <;> omega
  have aw1 : awI aw ≠ 0 → aw = true := by unfold awI; intro z; by_cases e : aw = true; exact e; rw [if_neg e] at z; exact absurd rfl z
  have aw0 : awI aw = 0 → aw = false := by unfold awI; intro z; by_cases e : aw = true; rw [if_pos e] at z; exact absurd z (by decide); exact Bool.eq_false_iff.mpr e
  refine r_aload_4 (pc := 0) q dX8_takeWord_0 ?_
  refine r_geti (pc := 2) q fX8_22 (kz := 4) rfl (by decide) rfl hy.o dX8_takeWord_2 ?_
  rw [q2]
  refine r_istore_5 (pc := 5) q dX8_takeWord_5 rfl ?_
  refine r_aload_0 (pc := 7) q dX8_takeWord_7 ?_
  refine r_geti (pc := 8) q fX8_18 (kz := 2) rfl (by decide) rfl hc.o dX8_takeWord_8 ?_
  rw [q1]
  refine r_if_eq (pc := 11) q 20 dX8_takeWord_11 (by decide) ⟨by omega, by omega⟩ (fun c11 => ?_) (fun c11 => ?_)
  · refine r_aload_0 (pc := 20) q dX8_takeWord_20 ?_
    refine r_iconst (pc := 21) q dX8_takeWord_21 ?_
    refine r_iload_2 (pc := 22) q dX8_takeWord_22 ?_
    refine r_cV2 (pc := 23) q (c_X8_blame hc) mX8_46 hc.o (by decide) (Nat.le_of_ble_eq_true rfl) rfl dX8_takeWord_23 (fun h1 hz1 => ?_)
    refine r_return (pc := 26) q rt dX8_takeWord_26 ?_
    exact stC_bl (by omega) (by omega) (by omega) hz1 (by rw [prw, if_pos (Or.inl (aw0 c11))])
  refine r_iload_3 (pc := 14) q dX8_takeWord_14 ?_
  refine r_bipush (pc := 15) q dX8_takeWord_15 (by decide) ?_
  refine r_icmp_le (pc := 17) q 27 dX8_takeWord_17 (by decide) ⟨by omega, by omega⟩ ⟨by omega, by omega⟩ (fun c17 => ?_) (fun c17 => ?_)
  · refine r_iload_5 (pc := 27) q dX8_takeWord_27 ?_
    refine r_if_lt (pc := 29) q 39 dX8_takeWord_29 (by decide) ⟨by omega, by omega⟩ (fun c29 => ?_) (fun c29 => ?_)
    · exact absurd c29 (by omega)
    refine r_iload_5 (pc := 32) q dX8_takeWord_32 ?_
    refine r_bipush (pc := 34) q dX8_takeWord_34 (by decide) ?_
    refine r_icmp_lt (pc := 36) q 46 dX8_takeWord_36 (by decide) ⟨by omega, by omega⟩ ⟨by omega, by omega⟩ (fun c36 => ?_) (fun c36 => ?_)
    · refine r_aload_4 (pc := 46) q dX8_takeWord_46 ?_
      refine r_getr (pc := 48) q fX8_64 (kz := 0) rfl (by decide) rfl hy.o hy.r_names dX8_takeWord_48 ?_
      refine r_iload_5 (pc := 51) q dX8_takeWord_51 ?_
      refine r_aald24 (pc := 53) q hy.s_names (by omega) (by omega) (hy.e_names (by omega) (by omega)) dX8_takeWord_53 ?_
      refine r_aload_1 (pc := 54) q dX8_takeWord_54 ?_
      refine r_iload_2 (pc := 55) q dX8_takeWord_55 ?_
      refine r_iload_3 (pc := 56) q dX8_takeWord_56 ?_
      have hNm := hy.n_names (j := n) (by omega) (by omega)
      refine r_cV3 (pc := 57) q (c_X3_take hNm hT ht a0 (by omega) (by omega) aT) mX8_68 ((hy.n_names (by omega) (by omega))).o (by decide) (Nat.le_of_ble_eq_true rfl) rfl dX8_takeWord_57 (fun h3 hz3 => ?_)
      obtain ⟨g1, g2, g3⟩ := hz3
      have gy : h3 y = h y := g1 y (by omega) (by omega)
      have gc : h3 c = h c := g1 c (by omega) (by omega)
      have hF3 : rdF h h3 c y := ⟨fun x x0 x1 x2 => g1 x (by omega) (by omega), fun k _ => by rw [gy]⟩
      have nmn : nmC h3 (y + 4 + 4 * n.toNat) (fun j => b (a + j)) L := ⟨by rw [g2, up_s], ⟨by omega, by omega⟩, fun j j0 j1 => ⟨g3 j j0 j1, hr.2.1 j j0 j1⟩⟩
      have nmo : ∀ i : Int, 0 ≤ i → i < n → nmC h3 (y + 4 + 4 * i.toNat) (fun j => b (ns i + j)) (nl i) := fun i i0 i1 => nmC_fr (q5 i i0 i1).1 (g1 _ (by omega) (by omega)) (g1 _ (by omega) (by omega))
      refine r_aload_4 (pc := 60) q dX8_takeWord_60 ?_
      refine r_iload_5 (pc := 62) q dX8_takeWord_62 ?_
      refine r_cI1 (pc := 64) q (c_X7_hasNameAhead (g := fun i => if i = n then (fun j => b (a + j)) else (fun j => b (ns i + j))) (n := fun i => if i = n then L else nl i) hy n0 (by omega) (fun i i0 i1 => by
        by_cases ei : i = n
        · subst ei; simp only [if_pos]; exact nmn
        · simp only [if_neg ei]; exact nmo i i0 (by omega))) mX8_74 hy.o (by decide) (Nat.le_of_ble_eq_true rfl) rfl dX8_takeWord_64 (fun z4 h4 hz4 => ?_)
      obtain ⟨hz4, rfl⟩ := hz4
      have awt1 : aw = true := aw1 c11
      have dq : (∃ i : Int, 0 ≤ i ∧ i < n ∧ eqN ((fun i => if i = n then (fun j => b (a + j)) else (fun j => b (ns i + j))) i) ((fun i => if i = n then (fun j => b (a + j)) else (fun j => b (ns i + j))) n) ((fun i => if i = n then L else nl i) i) ((fun i => if i = n then L else nl i) n)) ↔ dupN b ns nl n a L := by
        constructor
        · rintro ⟨i, i0, i1, i2⟩
          simp only [if_neg (show ¬ i = n by omega), if_pos] at i2
          exact ⟨i, i0, i1, i2.1, fun j j0 j1 => i2.2 j j0 (by have := i2.1; omega)⟩
        · rintro ⟨i, i0, i1, i2, i3⟩
          refine ⟨i, i0, i1, ?_⟩
          simp only [if_neg (show ¬ i = n by omega), if_pos]
          exact ⟨i2, fun j j0 j1 => i3 j j0 (by omega)⟩
      rw [dq] at hz4
      have nd8 : ¬ (aw = false ∨ 8 < L) := by
        rintro (z | z)
        · rw [awt1] at z; exact absurd z (by decide)
        · omega
      refine r_if_eq (pc := 67) q 77 dX8_takeWord_67 (by decide) ⟨by omega, by omega⟩ (fun c67 => ?_) (fun c67 => ?_)
      · refine r_aload_4 (pc := 77) q dX8_takeWord_77 ?_
        refine r_dup (pc := 79) q dX8_takeWord_79 rfl ?_
        refine r_geti (pc := 80) q fX8_22 (kz := 4) rfl (by decide) rfl hy.o dX8_takeWord_80 ?_
        rw [gy, q2]
        refine r_iconst (pc := 83) q dX8_takeWord_83 ?_
        refine r_iadd (pc := 84) q dX8_takeWord_84 ?_
        refine r_puti (pc := 85) q fX8_22 (kz := 4) rfl (by decide) rfl hy.o dX8_takeWord_85 (fun h5 eh5 => ?_)
        refine r_aload_0 (pc := 88) q dX8_takeWord_88 ?_
        refine r_iconst (pc := 89) q dX8_takeWord_89 ?_
        refine r_putz (pc := 90) q fX8_18 (kz := 2) rfl (by decide) rfl hc.o (by decide) dX8_takeWord_90 (fun h6 eh6 => ?_)
        refine r_return (pc := 93) q rt dX8_takeWord_93 ?_
        have hnd : ¬ dupN b ns nl n a L := by
          rcases hz4 with ⟨z, -⟩ | ⟨-, z⟩
          · omega
          · exact z
        have o6 : ∀ x : Nat, x ≠ y → x ≠ c → h6 x = h3 x := fun x x0 x1 => by rw [eh6, up_n _ _ x1, eh5, up_n _ _ x0]
        have e6c : h6 c = up (h c) 2 0 := by rw [eh6, up_s, eh5, up_n _ _ (by omega), gc]
        have e6y : h6 y = up (h y) 4 (n + 1) := by rw [eh6, up_n _ _ (by omega), eh5, up_s, gy]
        refine ⟨⟨fun x x0 x1 x2 => by rw [o6 x x1 x0]; exact hF3.1 x x0 x1 x2, fun k k4 => by rw [e6y, up_n _ _ k4]⟩, Or.inr ⟨by rw [e6c, up_n _ _ (by decide)], by rw [e6c, up_n _ _ (by decide)], false, n + 1, up ns n a, up nl n L, us, ul, ?_, ?_⟩⟩
        · refine ⟨by rw [e6c, up_s]; rfl, by rw [e6y, up_s], ⟨by omega, by omega⟩, fun _ => by omega, fun i i0 i1 => ?_, fun i i0 i1 => ?_⟩
          · by_cases ei : i = n
            · subst ei
              rw [up_s, up_s]
              exact ⟨nmC_fr nmn (o6 _ (by omega) (by omega)) (o6 _ (by omega) (by omega)), L1⟩
            · rw [up_n _ _ ei, up_n _ _ ei]
              exact ⟨nmC_fr (nmo i i0 (by omega)) (o6 _ (by omega) (by omega)) (o6 _ (by omega) (by omega)), (q5 i i0 (by omega)).2⟩
          · have e1 : awI false = 0 := rfl
            have e2 : awI aw = 1 := by rw [awt1]; rfl
            have q6' := q6 i i0 (by omega)
            exact ⟨nuC_fr q6'.1 (by rw [o6 _ (by omega) (by omega)]; exact g1 _ (by omega) (by omega)) (by rw [o6 _ (by omega) (by omega)]; exact g1 _ (by omega) (by omega)), q6'.2⟩
        · rw [prw, if_neg nd8, if_neg (by omega), cif_f hnd]
      refine r_aload_0 (pc := 70) q dX8_takeWord_70 ?_
      refine r_iconst (pc := 71) q dX8_takeWord_71 ?_
      refine r_iload_2 (pc := 72) q dX8_takeWord_72 ?_
      refine r_cV2 (pc := 73) q (c_X8_blame hc) mX8_46 hc.o (by decide) (Nat.le_of_ble_eq_true rfl) rfl dX8_takeWord_73 (fun h7 hz7 => ?_)
      refine r_return (pc := 76) q rt dX8_takeWord_76 ?_
      have hdu : dupN b ns nl n a L := by
        rcases hz4 with ⟨-, z⟩ | ⟨z, -⟩
        · exact z
        · exact absurd z c67
      have s1 := stC_bl (b := b) (T := T) (aw := aw) (n := n) (ns := ns) (nl := nl) (us := us) (ul := ul) (z := L) (show c ≠ y by omega) (by omega) (by omega) hz7 (by rw [prw, if_neg nd8, if_neg (by omega), cif_t hdu])
      refine ⟨rdF_t hF3 s1.1, Or.inl ⟨3, ⟨by omega, by omega⟩, ?_, ?_, by rw [prw, if_neg nd8, if_neg (by omega), cif_t hdu]⟩⟩
      · rw [hz7, pf_f _ c a (by decide)]; exact pf_s _ _ _ _
      · rw [hz7]; exact pf_s _ _ _ _
    refine r_aload_0 (pc := 39) q dX8_takeWord_39 ?_
    refine r_iconst (pc := 40) q dX8_takeWord_40 ?_
    refine r_iload_2 (pc := 41) q dX8_takeWord_41 ?_
    refine r_cV2 (pc := 42) q (c_X8_blame hc) mX8_46 hc.o (by decide) (Nat.le_of_ble_eq_true rfl) rfl dX8_takeWord_42 (fun h8 hz8 => ?_)
    refine r_return (pc := 45) q rt dX8_takeWord_45 ?_
    have awt1 : aw = true := aw1 c11
    have nd8 : ¬ (aw = false ∨ 8 < L) := by
      rintro (z | z)
      · rw [awt1] at z; exact absurd z (by decide)
      · omega
    exact stC_bl (by omega) (by omega) (by omega) hz8 (by rw [prw, if_neg nd8, if_pos (by omega)])
  refine r_aload_0 (pc := 20) q dX8_takeWord_20 ?_
  refine r_iconst (pc := 21) q dX8_takeWord_21 ?_
  refine r_iload_2 (pc := 22) q dX8_takeWord_22 ?_
  refine r_cV2 (pc := 23) q (c_X8_blame hc) mX8_46 hc.o (by decide) (Nat.le_of_ble_eq_true rfl) rfl dX8_takeWord_23 (fun h9 hz9 => ?_)
  refine r_return (pc := 26) q rt dX8_takeWord_26 ?_
  exact stC_bl (by omega) (by omega) (by omega) hz9 (by rw [prw, if_pos (Or.inr (by omega))])
