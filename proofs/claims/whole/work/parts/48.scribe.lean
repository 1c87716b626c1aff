def awI (aw : Bool) : Int := if aw = true then 1 else 0
/-- what the scribe at c and the route at y hold while a text b is read -/
def rdS (h : sH) (c y : Nat) (b : Int → Int) (aw : Bool) (n : Int) (ns nl us ul : Int → Int) : Prop := h c 2 = awI aw ∧ h y 4 = n ∧ (0 ≤ n ∧ n ≤ 10) ∧ (aw = false → 1 ≤ n) ∧ (∀ i : Int, 0 ≤ i → i < n → nmC h (y + 4 + 4 * i.toNat) (fun j => b (ns i + j)) (nl i) ∧ 1 ≤ nl i) ∧ ∀ i : Int, 0 ≤ i → i < n - 1 + awI aw → nuC h (y + 6 + 4 * i.toNat) (fun j => signC (b (us i + j))) (ul i) ∧ 1 ≤ ul i
def rdF (h h2 : sH) (c y : Nat) : Prop := (∀ a : Nat, a ≠ c → a ≠ y → (a < y + 4 ∨ y + 44 ≤ a) → h2 a = h a) ∧ ∀ k : Int, k ≠ 4 → h2 y k = h y k
theorem rdF_t {h h2 h3 : sH} {c y : Nat} (e1 : rdF h h2 c y) (e2 : rdF h2 h3 c y) : rdF h h3 c y := ⟨fun a a0 a1 a2 => by rw [e2.1 a a0 a1 a2]; exact e1.1 a a0 a1 a2, fun k k0 => by rw [e2.2 k k0]; exact e1.2 k k0⟩
def stC (h h1 : sH) (c y : Nat) (b : Int → Int) (T a : Int) (aw : Bool) (n : Int) (ns nl us ul : Int → Int) (z : Int) : Prop := rdF h h1 c y ∧ ((∃ k : Int, (1 ≤ k ∧ k ≤ 3) ∧ h1 c 0 = k ∧ h1 c 1 = a ∧ PR b T a aw n ns nl us ul = (k, a, n, ns, nl, us, ul)) ∨ (h1 c 0 = h c 0 ∧ h1 c 1 = h c 1 ∧ ∃ (aw' : Bool) (n' : Int) (ns' nl' us' ul' : Int → Int), rdS h1 c y b aw' n' ns' nl' us' ul' ∧ PR b T a aw n ns nl us ul = PR b T (a + z) aw' n' ns' nl' us' ul'))
theorem c_X8_blame {l : Launch} {D : va_G} {aC : Nat → ClassId} {B t sz : Nat} {S : sS} {r : sR} {h : sH} {c : Nat} {k p : Int} (hc : LX8 S r c) : CtV l yX8_blame cX8_blame 3 none 0 0 [.ref c, .int (iI k), .int (iI p)] D aC B t sz S r h (fun h1 => h1 = pf (pf h c 0 k) c 1 p) := by
  unfold CtV
  refine Ct.of (lv := [some (.ref c), some (.int (iI k)), some (.int (iI p))]) (by decide +kernel) rfl (Nat.le_of_ble_eq_true rfl) (fun X hl q rt hnm => ?_)
  refine r_aload_0 (pc := 0) q dX8_blame_0 ?_
  refine r_iload_1 (pc := 1) q dX8_blame_1 ?_
  refine r_puti (pc := 2) q fX8_9 (kz := 0) rfl (by decide) rfl hc.o dX8_blame_2 (fun h1 eh1 => ?_)
  refine r_aload_0 (pc := 5) q dX8_blame_5 ?_
  refine r_iload_2 (pc := 6) q dX8_blame_6 ?_
  refine r_puti (pc := 7) q fX8_15 (kz := 1) rfl (by decide) rfl hc.o dX8_blame_7 (fun h2 eh2 => ?_)
  refine r_return (pc := 10) q rt dX8_blame_10 ?_
  rw [eh2, eh1]
theorem stC_bl {h h1 : sH} {c y : Nat} {b : Int → Int} {T a k : Int} {aw : Bool} {n : Int} {ns nl us ul : Int → Int} {z : Int} (ne : c ≠ y) (k1 : 1 ≤ k) (k3 : k ≤ 3) (e : h1 = pf (pf h c 0 k) c 1 a) (hP : PR b T a aw n ns nl us ul = (k, a, n, ns, nl, us, ul)) : stC h h1 c y b T a aw n ns nl us ul z := by
  refine ⟨⟨fun x x0 _ _ => by rw [e, pf_o _ 1 a x0, pf_o _ 0 k x0], fun x _ => by rw [e, pf_o _ 1 a (Ne.symm ne), pf_o _ 0 k (Ne.symm ne)]⟩, Or.inl ⟨k, ⟨k1, k3⟩, ?_, ?_, hP⟩⟩
  · rw [e, pf_f _ c a (by decide)]; exact pf_s _ _ _ _
  · rw [e]; exact pf_s _ _ _ _
theorem c_X8_takeWord {l : Launch} {D : va_G} {aC : Nat → ClassId} {B t sz : Nat} {S : sS} {r : sR} {h : sH} {c t2 y : Nat} {a L T n : Int} {b ns nl us ul : Int → Int} {aw : Bool} (hc : LX8 S r c) (hT : LX10 S r t2) (hy : LX7 S r y) (ht : tpI h t2 b T) (hs : rdS h c y b aw n ns nl us ul) (o1 : t2 + 1 < y) (o2 : c < y) (a0 : 0 ≤ a) (aT : a + L ≤ T) (hr : isRun (fun x => isL (b x)) a L) (L1 : 1 ≤ L) : CtV l yX8_takeWord cX8_takeWord 6 none 2 44 [.ref c, .ref t2, .int (iI a), .int (iI L), .ref y] D aC B t sz S r h (fun h1 => stC h h1 c y b T a aw n ns nl us ul L) := by
  unfold CtV
  refine Ct.of (lv := [some (.ref c), some (.ref t2), some (.int (iI a)), some (.int (iI L)), some (.ref y), none]) (by decide +kernel) rfl (Nat.le_of_ble_eq_true rfl) (fun X hl q rt hnm => ?_)
  have nct : c ≠ t2 := sNe hc.o hT.o (by decide)
  have nct1 : c ≠ t2 + 1 := sNe hc.o hT.s_bytes (by decide)
  obtain ⟨q1, q2, ⟨n0, n10⟩, q4, q5, q6⟩ := id hs
  obtain ⟨T1, ⟨T0, T2⟩, hb, hbz⟩ := id ht
  have prw := PR_wrd (aw := aw) (n := n) (ns := ns) (nl := nl) (us := us) (ul := ul) (show a < T by omega) hbz hr (by omega)
  have awb : 0 ≤ awI aw ∧ awI aw ≤ 1 := by unfold awI; split <;> omega
  have aw1 : awI aw ≠ 0 → aw = true := by unfold awI; intro z; by_cases e : aw = true; exact e; rw [if_neg e] at z; exact absurd rfl z
  have aw0 : awI aw = 0 → aw = false := by unfold awI; intro z; by_cases e : aw = true; rw [if_pos e] at z; exact absurd z (by decide); exact Bool.eq_false_iff.mpr e
  refine r_aload_4 (pc := 0) q dX8_takeWord_0 ?_
  refine r_geti (pc := 2) q fX8_22 (kz := 4) rfl (by decide) rfl hy.o dX8_takeWord_2 ?_
  rw [q2]
  refine r_istore_5 (pc := 5) q dX8_takeWord_5 rfl ?_
  refine r_aload_0 (pc := 7) q dX8_takeWord_7 ?_
  refine r_geti (pc := 8) q fX8_18 (kz := 2) rfl (by decide) rfl hc.o dX8_takeWord_8 ?_
  rw [q1]
  refine r_if_eq (pc := 11) q 20 dX8_takeWord_11 (by decide) ⟨by omega, by omega⟩ (fun c11 => ?_) (fun c11 => ?_)
  · refine r_aload_0 (pc := 20) q dX8_takeWord_20 ?_
    refine r_iconst (pc := 21) q dX8_takeWord_21 ?_
    refine r_iload_2 (pc := 22) q dX8_takeWord_22 ?_
    refine r_cV2 (pc := 23) q (c_X8_blame hc) mX8_46 hc.o (by decide) (Nat.le_of_ble_eq_true rfl) rfl dX8_takeWord_23 (fun h1 hz1 => ?_)
    refine r_return (pc := 26) q rt dX8_takeWord_26 ?_
    exact stC_bl (by omega) (by omega) (by omega) hz1 (by rw [prw, if_pos (Or.inl (aw0 c11))])
  refine r_iload_3 (pc := 14) q dX8_takeWord_14 ?_
  refine r_bipush (pc := 15) q dX8_takeWord_15 (by decide) ?_
  refine r_icmp_le (pc := 17) q 27 dX8_takeWord_17 (by decide) ⟨by omega, by omega⟩ ⟨by omega, by omega⟩ (fun c17 => ?_) (fun c17 => ?_)
  · refine r_iload_5 (pc := 27) q dX8_takeWord_27 ?_
    refine r_if_lt (pc := 29) q 39 dX8_takeWord_29 (by decide) ⟨by omega, by omega⟩ (fun c29 => ?_) (fun c29 => ?_)
    · exact absurd c29 (by omega)
    refine r_iload_5 (pc := 32) q dX8_takeWord_32 ?_
    refine r_bipush (pc := 34) q dX8_takeWord_34 (by decide) ?_
    refine r_icmp_lt (pc := 36) q 46 dX8_takeWord_36 (by decide) ⟨by omega, by omega⟩ ⟨by omega, by omega⟩ (fun c36 => ?_) (fun c36 => ?_)
    · refine r_aload_4 (pc := 46) q dX8_takeWord_46 ?_
      refine r_getr (pc := 48) q fX8_64 (kz := 0) rfl (by decide) rfl hy.o hy.r_names dX8_takeWord_48 ?_
      refine r_iload_5 (pc := 51) q dX8_takeWord_51 ?_
      refine r_aald24 (pc := 53) q hy.s_names (by omega) (by omega) (hy.e_names (by omega) (by omega)) dX8_takeWord_53 ?_
      refine r_aload_1 (pc := 54) q dX8_takeWord_54 ?_
      refine r_iload_2 (pc := 55) q dX8_takeWord_55 ?_
      refine r_iload_3 (pc := 56) q dX8_takeWord_56 ?_
      have hNm := hy.n_names (j := n) (by omega) (by omega)
      refine r_cV3 (pc := 57) q (c_X3_take hNm hT ht a0 (by omega) (by omega) aT) mX8_68 ((hy.n_names (by omega) (by omega))).o (by decide) (Nat.le_of_ble_eq_true rfl) rfl dX8_takeWord_57 (fun h3 hz3 => ?_)
      obtain ⟨g1, g2, g3⟩ := hz3
      have gy : h3 y = h y := g1 y (by omega) (by omega)
      have gc : h3 c = h c := g1 c (by omega) (by omega)
      have hF3 : rdF h h3 c y := ⟨fun x x0 x1 x2 => g1 x (by omega) (by omega), fun k _ => by rw [gy]⟩
      have nmn : nmC h3 (y + 4 + 4 * n.toNat) (fun j => b (a + j)) L := ⟨by rw [g2, up_s], ⟨by omega, by omega⟩, fun j j0 j1 => ⟨g3 j j0 j1, hr.2.1 j j0 j1⟩⟩
      have nmo : ∀ i : Int, 0 ≤ i → i < n → nmC h3 (y + 4 + 4 * i.toNat) (fun j => b (ns i + j)) (nl i) := fun i i0 i1 => nmC_fr (q5 i i0 i1).1 (g1 _ (by omega) (by omega)) (g1 _ (by omega) (by omega))
      refine r_aload_4 (pc := 60) q dX8_takeWord_60 ?_
      refine r_iload_5 (pc := 62) q dX8_takeWord_62 ?_
      refine r_cI1 (pc := 64) q (c_X7_hasNameAhead (g := fun i => if i = n then (fun j => b (a + j)) else (fun j => b (ns i + j))) (n := fun i => if i = n then L else nl i) hy n0 (by omega) (fun i i0 i1 => by
        by_cases ei : i = n
        · subst ei; simp only [if_pos]; exact nmn
        · simp only [if_neg ei]; exact nmo i i0 (by omega))) mX8_74 hy.o (by decide) (Nat.le_of_ble_eq_true rfl) rfl dX8_takeWord_64 (fun z4 h4 hz4 => ?_)
      obtain ⟨hz4, rfl⟩ := hz4
      have awt1 : aw = true := aw1 c11
      have dq : (∃ i : Int, 0 ≤ i ∧ i < n ∧ eqN ((fun i => if i = n then (fun j => b (a + j)) else (fun j => b (ns i + j))) i) ((fun i => if i = n then (fun j => b (a + j)) else (fun j => b (ns i + j))) n) ((fun i => if i = n then L else nl i) i) ((fun i => if i = n then L else nl i) n)) ↔ dupN b ns nl n a L := by
        constructor
        · rintro ⟨i, i0, i1, i2⟩
          simp only [if_neg (show ¬ i = n by omega), if_pos] at i2
          exact ⟨i, i0, i1, i2.1, fun j j0 j1 => i2.2 j j0 (by have := i2.1; omega)⟩
        · rintro ⟨i, i0, i1, i2, i3⟩
          refine ⟨i, i0, i1, ?_⟩
          simp only [if_neg (show ¬ i = n by omega), if_pos]
          exact ⟨i2, fun j j0 j1 => i3 j j0 (by omega)⟩
      rw [dq] at hz4
      have nd8 : ¬ (aw = false ∨ 8 < L) := by
        rintro (z | z)
        · rw [awt1] at z; exact absurd z (by decide)
        · omega
      refine r_if_eq (pc := 67) q 77 dX8_takeWord_67 (by decide) ⟨by omega, by omega⟩ (fun c67 => ?_) (fun c67 => ?_)
      · refine r_aload_4 (pc := 77) q dX8_takeWord_77 ?_
        refine r_dup (pc := 79) q dX8_takeWord_79 rfl ?_
        refine r_geti (pc := 80) q fX8_22 (kz := 4) rfl (by decide) rfl hy.o dX8_takeWord_80 ?_
        rw [gy, q2]
        refine r_iconst (pc := 83) q dX8_takeWord_83 ?_
        refine r_iadd (pc := 84) q dX8_takeWord_84 ?_
        refine r_puti (pc := 85) q fX8_22 (kz := 4) rfl (by decide) rfl hy.o dX8_takeWord_85 (fun h5 eh5 => ?_)
        refine r_aload_0 (pc := 88) q dX8_takeWord_88 ?_
        refine r_iconst (pc := 89) q dX8_takeWord_89 ?_
        refine r_putz (pc := 90) q fX8_18 (kz := 2) rfl (by decide) rfl hc.o (by decide) dX8_takeWord_90 (fun h6 eh6 => ?_)
        refine r_return (pc := 93) q rt dX8_takeWord_93 ?_
        have hnd : ¬ dupN b ns nl n a L := by
          rcases hz4 with ⟨z, -⟩ | ⟨-, z⟩
          · omega
          · exact z
        have o6 : ∀ x : Nat, x ≠ y → x ≠ c → h6 x = h3 x := fun x x0 x1 => by rw [eh6, up_n _ _ x1, eh5, up_n _ _ x0]
        have e6c : h6 c = up (h c) 2 0 := by rw [eh6, up_s, eh5, up_n _ _ (by omega), gc]
        have e6y : h6 y = up (h y) 4 (n + 1) := by rw [eh6, up_n _ _ (by omega), eh5, up_s, gy]
        refine ⟨⟨fun x x0 x1 x2 => by rw [o6 x x1 x0]; exact hF3.1 x x0 x1 x2, fun k k4 => by rw [e6y, up_n _ _ k4]⟩, Or.inr ⟨by rw [e6c, up_n _ _ (by decide)], by rw [e6c, up_n _ _ (by decide)], false, n + 1, up ns n a, up nl n L, us, ul, ?_, ?_⟩⟩
        · refine ⟨by rw [e6c, up_s]; rfl, by rw [e6y, up_s], ⟨by omega, by omega⟩, fun _ => by omega, fun i i0 i1 => ?_, fun i i0 i1 => ?_⟩
          · by_cases ei : i = n
            · subst ei
              rw [up_s, up_s]
              exact ⟨nmC_fr nmn (o6 _ (by omega) (by omega)) (o6 _ (by omega) (by omega)), L1⟩
            · rw [up_n _ _ ei, up_n _ _ ei]
              exact ⟨nmC_fr (nmo i i0 (by omega)) (o6 _ (by omega) (by omega)) (o6 _ (by omega) (by omega)), (q5 i i0 (by omega)).2⟩
          · have e1 : awI false = 0 := rfl
            have e2 : awI aw = 1 := by rw [awt1]; rfl
            have q6' := q6 i i0 (by omega)
            exact ⟨nuC_fr q6'.1 (by rw [o6 _ (by omega) (by omega)]; exact g1 _ (by omega) (by omega)) (by rw [o6 _ (by omega) (by omega)]; exact g1 _ (by omega) (by omega)), q6'.2⟩
        · rw [prw, if_neg nd8, if_neg (by omega), cif_f hnd]
      refine r_aload_0 (pc := 70) q dX8_takeWord_70 ?_
      refine r_iconst (pc := 71) q dX8_takeWord_71 ?_
      refine r_iload_2 (pc := 72) q dX8_takeWord_72 ?_
      refine r_cV2 (pc := 73) q (c_X8_blame hc) mX8_46 hc.o (by decide) (Nat.le_of_ble_eq_true rfl) rfl dX8_takeWord_73 (fun h7 hz7 => ?_)
      refine r_return (pc := 76) q rt dX8_takeWord_76 ?_
      have hdu : dupN b ns nl n a L := by
        rcases hz4 with ⟨-, z⟩ | ⟨z, -⟩
        · exact z
        · exact absurd z c67
      have s1 := stC_bl (b := b) (T := T) (aw := aw) (n := n) (ns := ns) (nl := nl) (us := us) (ul := ul) (z := L) (show c ≠ y by omega) (by omega) (by omega) hz7 (by rw [prw, if_neg nd8, if_neg (by omega), cif_t hdu])
      refine ⟨rdF_t hF3 s1.1, Or.inl ⟨3, ⟨by omega, by omega⟩, ?_, ?_, by rw [prw, if_neg nd8, if_neg (by omega), cif_t hdu]⟩⟩
      · rw [hz7, pf_f _ c a (by decide)]; exact pf_s _ _ _ _
      · rw [hz7]; exact pf_s _ _ _ _
    refine r_aload_0 (pc := 39) q dX8_takeWord_39 ?_
    refine r_iconst (pc := 40) q dX8_takeWord_40 ?_
    refine r_iload_2 (pc := 41) q dX8_takeWord_41 ?_
    refine r_cV2 (pc := 42) q (c_X8_blame hc) mX8_46 hc.o (by decide) (Nat.le_of_ble_eq_true rfl) rfl dX8_takeWord_42 (fun h8 hz8 => ?_)
    refine r_return (pc := 45) q rt dX8_takeWord_45 ?_
    have awt1 : aw = true := aw1 c11
    have nd8 : ¬ (aw = false ∨ 8 < L) := by
      rintro (z | z)
      · rw [awt1] at z; exact absurd z (by decide)
      · omega
    exact stC_bl (by omega) (by omega) (by omega) hz8 (by rw [prw, if_neg nd8, if_pos (by omega)])
  refine r_aload_0 (pc := 20) q dX8_takeWord_20 ?_
  refine r_iconst (pc := 21) q dX8_takeWord_21 ?_
  refine r_iload_2 (pc := 22) q dX8_takeWord_22 ?_
  refine r_cV2 (pc := 23) q (c_X8_blame hc) mX8_46 hc.o (by decide) (Nat.le_of_ble_eq_true rfl) rfl dX8_takeWord_23 (fun h9 hz9 => ?_)
  refine r_return (pc := 26) q rt dX8_takeWord_26 ?_
  exact stC_bl (by omega) (by omega) (by omega) hz9 (by rw [prw, if_pos (Or.inr (by omega))])
theorem c_X8_takeSigns {l : Launch} {D : va_G} {aC : Nat → ClassId} {B t sz : Nat} {S : sS} {r : sR} {h : sH} {c t2 y : Nat} {a L T n : Int} {b ns nl us ul : Int → Int} {aw : Bool} (hc : LX8 S r c) (hT : LX10 S r t2) (hy : LX7 S r y) (ht : tpI h t2 b T) (hs : rdS h c y b aw n ns nl us ul) (o1 : t2 + 1 < y) (o2 : c < y) (a0 : 0 ≤ a) (aT : a + L ≤ T) (hr : isRun (fun x => signC (b x) ≠ 0) a L) (L1 : 1 ≤ L) : CtV l yX8_takeSigns cX8_takeSigns 7 none 2 44 [.ref c, .ref t2, .int (iI a), .int (iI L), .ref y] D aC B t sz S r h (fun h1 => stC h h1 c y b T a aw n ns nl us ul L) := by
  unfold CtV
  refine Ct.of (lv := [some (.ref c), some (.ref t2), some (.int (iI a)), some (.int (iI L)), some (.ref y), none, none]) (by decide +kernel) rfl (Nat.le_of_ble_eq_true rfl) (fun X hl q rt hnm => ?_)
  have nct : c ≠ t2 := sNe hc.o hT.o (by decide)
  have nct1 : c ≠ t2 + 1 := sNe hc.o hT.s_bytes (by decide)
  obtain ⟨q1, q2, ⟨n0, n10⟩, q4, q5, q6⟩ := id hs
  obtain ⟨T1, ⟨T0, T2⟩, hb, hbz⟩ := id ht
  have prw := PR_sgn (aw := aw) (n := n) (ns := ns) (nl := nl) (us := us) (ul := ul) (show a < T by omega) hbz hr (by omega)
  have awb : 0 ≤ awI aw ∧ awI aw ≤ 1 := by unfold awI; split <;> omega
  have aw1 : awI aw ≠ 0 → aw = true := by unfold awI; intro z; by_cases e : aw = true; exact e; rw [if_neg e] at z; exact absurd rfl z
  have aw0 : awI aw = 0 → aw = false := by unfold awI; intro z; by_cases e : aw = true; rw [if_pos e] at z; exact absurd z (by decide); exact Bool.eq_false_iff.mpr e
  have no : aw = true → G X 0 0 33 [some (.ref c), some (.ref t2), some (.int (iI a)), some (.int (iI L)), some (.ref y), some (.int (iI (n - 1))), none] [.int (iI 0)] sz S r h := by
    intro awt1
    refine r_istore_6 (pc := 33) q dX8_takeSigns_33 rfl ?_
    refine r_iload_6 (pc := 35) q dX8_takeSigns_35 ?_
    refine r_if_eq (pc := 37) q 57 dX8_takeSigns_37 (by decide) ⟨by omega, by omega⟩ (fun c37 => ?_) (fun c37 => ?_)
    · refine r_aload_0 (pc := 57) q dX8_takeSigns_57 ?_
      refine r_iconst (pc := 58) q dX8_takeSigns_58 ?_
      refine r_iload_2 (pc := 59) q dX8_takeSigns_59 ?_
      refine r_cV2 (pc := 60) q (c_X8_blame hc) mX8_46 hc.o (by decide) (Nat.le_of_ble_eq_true rfl) rfl dX8_takeSigns_60 (fun h7 hz7 => ?_)
      refine r_return (pc := 63) q rt dX8_takeSigns_63 ?_
      exact stC_bl (by omega) (by omega) (by omega) hz7 (by rw [prw, if_pos awt1])
    exact absurd rfl c37
  have yes : aw = false → G X 0 0 33 [some (.ref c), some (.ref t2), some (.int (iI a)), some (.int (iI L)), some (.ref y), some (.int (iI (n - 1))), none] [.int (iI 1)] sz S r h := by
    intro awf
    have n1 := q4 awf
    have e0 : awI aw = 0 := by rw [awf]; rfl
    have hNu := hy.n_numerals (j := n - 1) (by omega) (by omega)
    refine r_istore_6 (pc := 33) q dX8_takeSigns_33 rfl ?_
    refine r_iload_6 (pc := 35) q dX8_takeSigns_35 ?_
    refine r_if_eq (pc := 37) q 57 dX8_takeSigns_37 (by decide) ⟨by omega, by omega⟩ (fun c37 => ?_) (fun c37 => ?_)
    · exact absurd c37 (by decide)
    refine r_aload_4 (pc := 40) q dX8_takeSigns_40 ?_
    refine r_getr (pc := 42) q fX8_77 (kz := 1) rfl (by decide) rfl hy.o hy.r_numerals dX8_takeSigns_42 ?_
    refine r_iload_5 (pc := 45) q dX8_takeSigns_45 ?_
    refine r_aald25 (pc := 47) q hy.s_numerals (by omega) (by omega) (hy.e_numerals (by omega) (by omega)) dX8_takeSigns_47 ?_
    refine r_aload_1 (pc := 48) q dX8_takeSigns_48 ?_
    refine r_iload_2 (pc := 49) q dX8_takeSigns_49 ?_
    refine r_iload_3 (pc := 50) q dX8_takeSigns_50 ?_
    refine r_cI3 (pc := 51) q (c_X4_take hNu hT ht a0 L1 aT) mX8_81 ((hy.n_numerals (by omega) (by omega))).o (by decide) (Nat.le_of_ble_eq_true rfl) rfl dX8_takeSigns_51 (fun z3 h3 hz3 => ?_)
    obtain ⟨g1, g2⟩ := hz3
    have gy : h3 y = h y := g1 y (by omega) (by omega)
    have gc : h3 c = h c := g1 c (by omega) (by omega)
    have hF3 : rdF h h3 c y := ⟨fun x x0 x1 x2 => g1 x (by omega) (by omega), fun k _ => by rw [gy]⟩
    refine r_if_ne (pc := 54) q 64 dX8_takeSigns_54 (by decide) (by rcases g2 with ⟨z, -⟩ | ⟨z, -⟩ <;> rw [z] <;> exact ⟨by decide, by decide⟩) (fun c54 => ?_) (fun c54 => ?_)
    · refine r_aload_0 (pc := 64) q dX8_takeSigns_64 ?_
      refine r_iconst (pc := 65) q dX8_takeSigns_65 ?_
      refine r_putz (pc := 66) q fX8_18 (kz := 2) rfl (by decide) rfl hc.o (by decide) dX8_takeSigns_66 (fun h6 eh6 => ?_)
      refine r_return (pc := 69) q rt dX8_takeSigns_69 ?_
      have gg : sgN b a L ∧ h3 (y + 6 + 4 * (n - 1).toNat) = up (h (y + 6 + 4 * (n - 1).toNat)) 1 L ∧ ∀ j : Int, 0 ≤ j → j < L → h3 (y + 6 + 4 * (n - 1).toNat + 1) j = signC (b (a + j)) := by
        rcases g2 with ⟨-, z⟩ | ⟨z, -⟩
        · exact z
        · exact absurd z c54
      obtain ⟨sg, g3, g4⟩ := gg
      have o6 : ∀ x : Nat, x ≠ c → h6 x = h3 x := fun x x1 => by rw [eh6, up_n _ _ x1]
      have e6c : h6 c = up (h c) 2 1 := by rw [eh6, up_s, gc]
      refine ⟨⟨fun x x0 x1 x2 => by rw [o6 x x0]; exact hF3.1 x x0 x1 x2, fun k k4 => by rw [o6 y (by omega), gy]⟩, Or.inr ⟨by rw [e6c, up_n _ _ (by decide)], by rw [e6c, up_n _ _ (by decide)], true, n, ns, nl, up us (n - 1) a, up ul (n - 1) L, ?_, ?_⟩⟩
      · refine ⟨by rw [e6c, up_s]; rfl, by rw [o6 y (by omega), gy]; exact q2, ⟨by omega, by omega⟩, fun _ => by omega, fun i i0 i1 => ?_, fun i i0 i1 => ?_⟩
        · have q5' := q5 i i0 i1
          exact ⟨nmC_fr q5'.1 (by rw [o6 _ (by omega)]; exact g1 _ (by omega) (by omega)) (by rw [o6 _ (by omega)]; exact g1 _ (by omega) (by omega)), q5'.2⟩
        · have e1 : awI true = 1 := rfl
          by_cases ei : i = n - 1
          · subst ei
            rw [up_s, up_s]
            refine ⟨⟨by rw [o6 _ (by omega), g3, up_s], ⟨by omega, sg.1⟩, fun j j0 j1 => ⟨by rw [o6 _ (by omega)]; exact g4 j j0 j1, ?_⟩⟩, L1⟩
            have y1 := hr.2.1 j j0 j1
            have y2 := signC_in (b (a + j))
            simp only at y1
            show 1 ≤ signC (b (a + j)) ∧ signC (b (a + j)) ≤ 4
            omega
          · rw [up_n _ _ ei, up_n _ _ ei]
            have q6' := q6 i i0 (by omega)
            exact ⟨nuC_fr q6'.1 (by rw [o6 _ (by omega)]; exact g1 _ (by omega) (by omega)) (by rw [o6 _ (by omega)]; exact g1 _ (by omega) (by omega)), q6'.2⟩
      · rw [prw, if_neg (by rw [awf]; decide), cif_t sg]
    refine r_aload_0 (pc := 57) q dX8_takeSigns_57 ?_
    refine r_iconst (pc := 58) q dX8_takeSigns_58 ?_
    refine r_iload_2 (pc := 59) q dX8_takeSigns_59 ?_
    refine r_cV2 (pc := 60) q (c_X8_blame hc) mX8_46 hc.o (by decide) (Nat.le_of_ble_eq_true rfl) rfl dX8_takeSigns_60 (fun h7 hz7 => ?_)
    refine r_return (pc := 63) q rt dX8_takeSigns_63 ?_
    have gg : ¬ sgN b a L := by
      rcases g2 with ⟨z, -⟩ | ⟨-, z⟩
      · exact absurd z (by rw [c54]; decide)
      · exact z
    have hP : PR b T a aw n ns nl us ul = (1, a, n, ns, nl, us, ul) := by rw [prw, if_neg (by rw [awf]; decide), cif_f gg]
    have s1 := stC_bl (b := b) (T := T) (aw := aw) (n := n) (ns := ns) (nl := nl) (us := us) (ul := ul) (z := L) (show c ≠ y by omega) (by omega) (by omega) hz7 hP
    refine ⟨rdF_t hF3 s1.1, Or.inl ⟨1, ⟨by omega, by omega⟩, ?_, ?_, hP⟩⟩
    · rw [hz7, pf_f _ c a (by decide)]; exact pf_s _ _ _ _
    · rw [hz7]; exact pf_s _ _ _ _
  refine r_aload_4 (pc := 0) q dX8_takeSigns_0 ?_
  refine r_geti (pc := 2) q fX8_22 (kz := 4) rfl (by decide) rfl hy.o dX8_takeSigns_2 ?_
  rw [q2]
  refine r_iconst (pc := 5) q dX8_takeSigns_5 ?_
  refine r_isub (pc := 6) q dX8_takeSigns_6 ?_
  refine r_istore_5 (pc := 7) q dX8_takeSigns_7 rfl ?_
  refine r_aload_0 (pc := 9) q dX8_takeSigns_9 ?_
  refine r_geti (pc := 10) q fX8_18 (kz := 2) rfl (by decide) rfl hc.o dX8_takeSigns_10 ?_
  rw [q1]
  refine r_if_ne (pc := 13) q 32 dX8_takeSigns_13 (by decide) ⟨by omega, by omega⟩ (fun c13 => ?_) (fun c13 => ?_)
  · refine r_iconst (pc := 32) q dX8_takeSigns_32 ?_
    exact no (aw1 c13)
  refine r_iload_5 (pc := 16) q dX8_takeSigns_16 ?_
  refine r_if_lt (pc := 18) q 32 dX8_takeSigns_18 (by decide) ⟨by omega, by omega⟩ (fun c18 => ?_) (fun c18 => ?_)
  · exact absurd c18 (by have := q4 (aw0 (by omega)); omega)
  refine r_iload_5 (pc := 21) q dX8_takeSigns_21 ?_
  refine r_bipush (pc := 23) q dX8_takeSigns_23 (by decide) ?_
  refine r_icmp_ge (pc := 25) q 32 dX8_takeSigns_25 (by decide) ⟨by omega, by omega⟩ ⟨by omega, by omega⟩ (fun c25 => ?_) (fun c25 => ?_)
  · exact absurd c25 (by omega)
  refine r_iconst (pc := 28) q dX8_takeSigns_28 ?_
  refine r_goto (pc := 29) (tgt := 33) q dX8_takeSigns_29 (by decide) ?_
  exact yes (aw0 (by omega))
theorem c_X8_takeToken {l : Launch} {D : va_G} {aC : Nat → ClassId} {B t sz : Nat} {S : sS} {r : sR} {h : sH} {c t2 y : Nat} {a T n : Int} {b ns nl us ul : Int → Int} {aw : Bool} (hc : LX8 S r c) (hT : LX10 S r t2) (hy : LX7 S r y) (ht : tpI h t2 b T) (hs : rdS h c y b aw n ns nl us ul) (o1 : t2 + 1 < y) (o2 : c < y) (a0 : 0 ≤ a) (aT : a < T) (nb : ¬ (b a = 32 ∨ b a = 10)) : CtI l yX8_takeToken cX8_takeToken 6 (some .int) 3 70 [.ref c, .ref t2, .int (iI a), .ref y] D aC B t sz S r h (fun z h1 => (1 ≤ z ∧ a + z ≤ T) ∧ stC h h1 c y b T a aw n ns nl us ul z) := by
  unfold CtI
  refine Ct.of (lv := [some (.ref c), some (.ref t2), some (.int (iI a)), some (.ref y), none, none]) (by decide +kernel) rfl (Nat.le_of_ble_eq_true rfl) (fun X hl q rt hnm => ?_)
  obtain ⟨T1, ⟨T0, T2⟩, hb, hbz⟩ := id ht
  refine r_aload_1 (pc := 0) q dX8_takeToken_0 ?_
  refine r_iload_2 (pc := 1) q dX8_takeToken_1 ?_
  refine r_cI1 (pc := 2) q (c_X10_lettersFrom hT ht a0 (by omega)) mX8_50 hT.o (by decide) (Nat.le_of_ble_eq_true rfl) rfl dX8_takeToken_2 (fun z1 h1 hz1 => ?_)
  obtain ⟨hz1, rfl⟩ := hz1
  obtain ⟨hr, rT⟩ := hz1
  have z1n := hr.1
  refine r_istore_4 (pc := 5) q dX8_takeToken_5 rfl ?_
  refine r_iload_4 (pc := 7) q dX8_takeToken_7 ?_
  refine r_if_le (pc := 9) q 24 dX8_takeToken_9 (by decide) ⟨by omega, by omega⟩ (fun c9 => ?_) (fun c9 => ?_)
  · refine r_aload_1 (pc := 24) q dX8_takeToken_24 ?_
    refine r_iload_2 (pc := 25) q dX8_takeToken_25 ?_
    refine r_cI1 (pc := 26) q (c_X10_signsFrom hT ht a0 (by omega)) mX8_58 hT.o (by decide) (Nat.le_of_ble_eq_true rfl) rfl dX8_takeToken_26 (fun z2 h2 hz2 => ?_)
    obtain ⟨hz2, rfl⟩ := hz2
    obtain ⟨hr2, rT2⟩ := hz2
    have z2n := hr2.1
    refine r_istore_5 (pc := 29) q dX8_takeToken_29 rfl ?_
    refine r_iload_5 (pc := 31) q dX8_takeToken_31 ?_
    refine r_if_le (pc := 33) q 48 dX8_takeToken_33 (by decide) ⟨by omega, by omega⟩ (fun c33 => ?_) (fun c33 => ?_)
    · refine r_aload_0 (pc := 48) q dX8_takeToken_48 ?_
      refine r_iconst (pc := 49) q dX8_takeToken_49 ?_
      refine r_iload_2 (pc := 50) q dX8_takeToken_50 ?_
      refine r_cV2 (pc := 51) q (c_X8_blame hc) mX8_46 hc.o (by decide) (Nat.le_of_ble_eq_true rfl) rfl dX8_takeToken_51 (fun h3 hz3 => ?_)
      refine r_iconst (pc := 54) q dX8_takeToken_54 ?_
      refine r_ireturn (pc := 55) q rt dX8_takeToken_55 ?_
      refine ⟨by omega, stC_bl (by omega) (by omega) (by omega) hz3 (PR_bad aT hbz nb ?_ ?_)⟩
      · have := hr.2.2
        rw [show z1 = 0 by omega, Int.add_zero] at this
        exact this
      · have := hr2.2.2
        rw [show z2 = 0 by omega, Int.add_zero] at this
        by_cases e : signC (b a) = 0
        · exact e
        · exact absurd e this
    refine r_aload_0 (pc := 36) q dX8_takeToken_36 ?_
    refine r_aload_1 (pc := 37) q dX8_takeToken_37 ?_
    refine r_iload_2 (pc := 38) q dX8_takeToken_38 ?_
    refine r_iload_5 (pc := 39) q dX8_takeToken_39 ?_
    refine r_aload_3 (pc := 41) q dX8_takeToken_41 ?_
    refine r_cV4 (pc := 42) q (c_X8_takeSigns hc hT hy ht hs o1 o2 a0 rT2 hr2 (by omega)) mX8_61 hc.o (by decide) (Nat.le_of_ble_eq_true rfl) rfl dX8_takeToken_42 (fun h4 hz4 => ?_)
    refine r_iload_5 (pc := 45) q dX8_takeToken_45 ?_
    refine r_ireturn (pc := 47) q rt dX8_takeToken_47 ?_
    exact ⟨by omega, hz4⟩
  refine r_aload_0 (pc := 12) q dX8_takeToken_12 ?_
  refine r_aload_1 (pc := 13) q dX8_takeToken_13 ?_
  refine r_iload_2 (pc := 14) q dX8_takeToken_14 ?_
  refine r_iload_4 (pc := 15) q dX8_takeToken_15 ?_
  refine r_aload_3 (pc := 17) q dX8_takeToken_17 ?_
  refine r_cV4 (pc := 18) q (c_X8_takeWord hc hT hy ht hs o1 o2 a0 rT hr (by omega)) mX8_54 hc.o (by decide) (Nat.le_of_ble_eq_true rfl) rfl dX8_takeToken_18 (fun h5 hz5 => ?_)
  refine r_iload_4 (pc := 21) q dX8_takeToken_21 ?_
  refine r_ireturn (pc := 23) q rt dX8_takeToken_23 ?_
  exact ⟨by omega, hz5⟩
/-- what readText leaves -/
def rtP (h h1 : sH) (c y : Nat) (b : Int → Int) (T : Int) : Prop := rdF h h1 c y ∧ ∃ (k p n : Int) (ns nl us ul : Int → Int), PR b T 0 true 0 fn0 fn0 fn0 fn0 = (k, p, n, ns, nl, us, ul) ∧ h1 c 0 = k ∧ h1 c 1 = p ∧ ((1 ≤ k ∧ k ≤ 3) ∨ (k = 0 ∧ p = -1 ∧ 2 ≤ n ∧ rdS h1 c y b false n ns nl us ul))
theorem c_X8_readText {l : Launch} {D : va_G} {aC : Nat → ClassId} {B t sz : Nat} {S : sS} {r : sR} {h : sH} {c t2 y : Nat} {T : Int} {b : Int → Int} (hc : LX8 S r c) (hT : LX10 S r t2) (hy : LX7 S r y) (ht : tpI h t2 b T) (o1 : t2 + 1 < y) (o2 : c < y) : CtV l yX8_readText cX8_readText 4 none 4 95 [.ref c, .ref t2, .ref y] D aC B t sz S r h (fun h1 => rtP h h1 c y b T) := by
  unfold CtV
  refine Ct.of (lv := [some (.ref c), some (.ref t2), some (.ref y), none]) (by decide +kernel) rfl (Nat.le_of_ble_eq_true rfl) (fun X hl q rt hnm => ?_)
  have nct : c ≠ t2 := sNe hc.o hT.o (by decide)
  have nct1 : c ≠ t2 + 1 := sNe hc.o hT.s_bytes (by decide)
  obtain ⟨T1, ⟨T0, T2⟩, hb, hbz⟩ := id ht
  have tfr : ∀ h2 : sH, rdF h h2 c y → tpI h2 t2 b T := fun h2 f => tpI_fr ht (f.1 t2 (fun z => nct z.symm) (by omega) (by omega)) (f.1 _ (fun z => nct1 z.symm) (by omega) (by omega))
  have bad : ∀ (a : Int) (h2 : sH) (k p n : Int) (ns nl us ul : Int → Int), rdF h h2 c y → PR b T 0 true 0 fn0 fn0 fn0 fn0 = (k, p, n, ns, nl, us, ul) → h2 c 0 = k → h2 c 1 = p → 1 ≤ k → k ≤ 3 → G X 0 0 66 [some (.ref c), some (.ref t2), some (.ref y), some (.int (iI a))] [] sz S r h2 := by
    intro a h2 k p n ns nl us ul f hP e0 e1 k1 k3
    refine r_aload_0 (pc := 66) q dX8_readText_66 ?_
    refine r_geti (pc := 67) q fX8_9 (kz := 0) rfl (by decide) rfl hc.o dX8_readText_67 ?_
    rw [e0]
    refine r_if_ne (pc := 70) q 97 dX8_readText_70 (by decide) ⟨by omega, by omega⟩ (fun c70 => ?_) (fun c70 => ?_)
    · refine r_return (pc := 97) q rt dX8_readText_97 ?_
      exact ⟨f, k, p, n, ns, nl, us, ul, hP, e0, e1, Or.inl ⟨k1, k3⟩⟩
    exact absurd c70 (by omega)
  have badL : ∀ (a : Int), 0 ≤ a ∧ a ≤ T → ∀ (h2 : sH) (k p n : Int) (ns nl us ul : Int → Int), rdF h h2 c y → PR b T 0 true 0 fn0 fn0 fn0 fn0 = (k, p, n, ns, nl, us, ul) → h2 c 0 = k → h2 c 1 = p → 1 ≤ k → k ≤ 3 → G X 0 0 22 [some (.ref c), some (.ref t2), some (.ref y), some (.int (iI a))] [] sz S r h2 := by
    intro a ab h2 k p n ns nl us ul f hP e0 e1 k1 k3
    have ht2 := tfr h2 f
    refine r_iload_3 (pc := 22) q dX8_readText_22 ?_
    refine r_aload_1 (pc := 23) q dX8_readText_23 ?_
    refine r_geti (pc := 24) q fX8_27 (kz := 1) rfl (by decide) rfl hT.o dX8_readText_24 ?_
    rw [ht2.1]
    refine r_icmp_ge (pc := 27) q 66 dX8_readText_27 (by decide) ⟨by omega, by omega⟩ ⟨by omega, by omega⟩ (fun c27 => ?_) (fun c27 => ?_)
    · exact bad a h2 k p n ns nl us ul f hP e0 e1 k1 k3
    refine r_aload_0 (pc := 30) q dX8_readText_30 ?_
    refine r_geti (pc := 31) q fX8_9 (kz := 0) rfl (by decide) rfl hc.o dX8_readText_31 ?_
    rw [e0]
    refine r_if_ne (pc := 34) q 66 dX8_readText_34 (by decide) ⟨by omega, by omega⟩ (fun c34 => ?_) (fun c34 => ?_)
    · exact bad a h2 k p n ns nl us ul f hP e0 e1 k1 k3
    exact absurd c34 (by omega)
  have lp : ∀ (d : Nat) (a : Int), T - a ≤ d → 0 ≤ a → a ≤ T → ∀ (h2 : sH) (aw : Bool) (n : Int) (ns nl us ul : Int → Int), rdF h h2 c y → h2 c 0 = 0 → h2 c 1 = -1 → rdS h2 c y b aw n ns nl us ul → PR b T 0 true 0 fn0 fn0 fn0 fn0 = PR b T a aw n ns nl us ul → G X 0 0 22 [some (.ref c), some (.ref t2), some (.ref y), some (.int (iI a))] [] sz S r h2 := by
    intro d
    induction d with
    | zero =>
      intro a ha a0 aT h2 aw n ns nl us ul f e0 e1 hs hP
      have ea : a = T := by omega
      have ht2 := tfr h2 f
      obtain ⟨q1, q2, ⟨n0, n10⟩, -⟩ := id hs
      have awb : 0 ≤ awI aw ∧ awI aw ≤ 1 := by unfold awI; split <;> omega
      rw [PR_end (a := a) (by omega)] at hP
      have bl : (aw = true ∨ n < 2) → ∀ h5 : sH, h5 = pf (pf h2 c 0 1) c 1 T → rtP h h5 c y b T := by
        intro z h5 e5
        rw [if_pos z] at hP
        refine ⟨rdF_t f ⟨fun x x0 _ _ => by rw [e5, pf_o _ 1 T x0, pf_o _ 0 1 x0], fun x _ => by rw [e5, pf_o _ 1 T (by omega), pf_o _ 0 1 (by omega)]⟩, 1, T, n, ns, nl, us, ul, hP, ?_, ?_, Or.inl ⟨by omega, by omega⟩⟩
        · rw [e5, pf_f _ c T (by decide)]; exact pf_s _ _ _ _
        · rw [e5]; exact pf_s _ _ _ _
      have aw1 : awI aw ≠ 0 → aw = true := by unfold awI; intro z; by_cases e : aw = true; exact e; rw [if_neg e] at z; exact absurd rfl z
      have aw0 : awI aw = 0 → aw = false := by unfold awI; intro z; by_cases e : aw = true; rw [if_pos e] at z; exact absurd z (by decide); exact Bool.eq_false_iff.mpr e
      refine r_iload_3 (pc := 22) q dX8_readText_22 ?_
      refine r_aload_1 (pc := 23) q dX8_readText_23 ?_
      refine r_geti (pc := 24) q fX8_27 (kz := 1) rfl (by decide) rfl hT.o dX8_readText_24 ?_
      rw [ht2.1]
      refine r_icmp_ge (pc := 27) q 66 dX8_readText_27 (by decide) ⟨by omega, by omega⟩ ⟨by omega, by omega⟩ (fun c27 => ?_) (fun c27 => ?_)
      · refine r_aload_0 (pc := 66) q dX8_readText_66 ?_
        refine r_geti (pc := 67) q fX8_9 (kz := 0) rfl (by decide) rfl hc.o dX8_readText_67 ?_
        rw [e0]
        refine r_if_ne (pc := 70) q 97 dX8_readText_70 (by decide) ⟨by omega, by omega⟩ (fun c70 => ?_) (fun c70 => ?_)
        · exact absurd rfl c70
        refine r_aload_0 (pc := 73) q dX8_readText_73 ?_
        refine r_geti (pc := 74) q fX8_18 (kz := 2) rfl (by decide) rfl hc.o dX8_readText_74 ?_
        rw [q1]
        refine r_if_ne (pc := 77) q 88 dX8_readText_77 (by decide) ⟨by omega, by omega⟩ (fun c77 => ?_) (fun c77 => ?_)
        · refine r_aload_0 (pc := 88) q dX8_readText_88 ?_
          refine r_iconst (pc := 89) q dX8_readText_89 ?_
          refine r_aload_1 (pc := 90) q dX8_readText_90 ?_
          refine r_geti (pc := 91) q fX8_27 (kz := 1) rfl (by decide) rfl hT.o dX8_readText_91 ?_
          rw [ht2.1]
          refine r_cV2 (pc := 94) q (c_X8_blame hc) mX8_46 hc.o (by decide) (Nat.le_of_ble_eq_true rfl) rfl dX8_readText_94 (fun h5 hz5 => ?_)
          refine r_return (pc := 97) q rt dX8_readText_97 ?_
          exact bl (Or.inl (aw1 c77)) h5 hz5
        refine r_aload_2 (pc := 80) q dX8_readText_80 ?_
        refine r_geti (pc := 81) q fX8_22 (kz := 4) rfl (by decide) rfl hy.o dX8_readText_81 ?_
        rw [q2]
        refine r_iconst (pc := 84) q dX8_readText_84 ?_
        refine r_icmp_ge (pc := 85) q 97 dX8_readText_85 (by decide) ⟨by omega, by omega⟩ ⟨by omega, by omega⟩ (fun c85 => ?_) (fun c85 => ?_)
        · refine r_return (pc := 97) q rt dX8_readText_97 ?_
          have awf := aw0 (by omega)
          rw [if_neg (by rintro (z | z); rw [awf] at z; exact absurd z (by decide); omega)] at hP
          rw [awf] at hs
          exact ⟨f, 0, -1, n, ns, nl, us, ul, hP, e0, e1, Or.inr ⟨rfl, rfl, by omega, hs⟩⟩
        refine r_aload_0 (pc := 88) q dX8_readText_88 ?_
        refine r_iconst (pc := 89) q dX8_readText_89 ?_
        refine r_aload_1 (pc := 90) q dX8_readText_90 ?_
        refine r_geti (pc := 91) q fX8_27 (kz := 1) rfl (by decide) rfl hT.o dX8_readText_91 ?_
        rw [ht2.1]
        refine r_cV2 (pc := 94) q (c_X8_blame hc) mX8_46 hc.o (by decide) (Nat.le_of_ble_eq_true rfl) rfl dX8_readText_94 (fun h6 hz6 => ?_)
        refine r_return (pc := 97) q rt dX8_readText_97 ?_
        exact bl (Or.inr (by omega)) h6 hz6
      exact absurd (by omega) c27
    | succ d ih =>
      intro a ha a0 aT h2 aw n ns nl us ul f e0 e1 hs hP
      have ht2 := tfr h2 f
      by_cases ea : a = T
      · exact ih a (by omega) a0 aT h2 aw n ns nl us ul f e0 e1 hs hP
      · skip
        refine r_iload_3 (pc := 22) q dX8_readText_22 ?_
        refine r_aload_1 (pc := 23) q dX8_readText_23 ?_
        refine r_geti (pc := 24) q fX8_27 (kz := 1) rfl (by decide) rfl hT.o dX8_readText_24 ?_
        rw [ht2.1]
        refine r_icmp_ge (pc := 27) q 66 dX8_readText_27 (by decide) ⟨by omega, by omega⟩ ⟨by omega, by omega⟩ (fun c27 => ?_) (fun c27 => ?_)
        · exact absurd c27 (by omega)
        refine r_aload_0 (pc := 30) q dX8_readText_30 ?_
        refine r_geti (pc := 31) q fX8_9 (kz := 0) rfl (by decide) rfl hc.o dX8_readText_31 ?_
        rw [e0]
        refine r_if_ne (pc := 34) q 66 dX8_readText_34 (by decide) ⟨by omega, by omega⟩ (fun c34 => ?_) (fun c34 => ?_)
        · exact absurd rfl c34
        refine r_iload_3 (pc := 37) q dX8_readText_37 ?_
        refine r_aload_1 (pc := 38) q dX8_readText_38 ?_
        refine r_iload_3 (pc := 39) q dX8_readText_39 ?_
        refine r_cI1 (pc := 40) q (c_X10_isBlank hT ht2 ⟨by omega, by omega⟩) mX8_32 hT.o (by decide) (Nat.le_of_ble_eq_true rfl) rfl dX8_readText_40 (fun z5 h5 hz5 => ?_)
        obtain ⟨hz5, rfl⟩ := hz5
        refine r_if_eq (pc := 43) q 50 dX8_readText_43 (by decide) ⟨by omega, by omega⟩ (fun c43 => ?_) (fun c43 => ?_)
        · have nb : ¬ (b a = 32 ∨ b a = 10) := by
            rcases hz5 with ⟨z, -⟩ | ⟨-, z⟩
            · omega
            · exact fun w => z ⟨a0, by omega, w⟩
          refine r_iconst (pc := 50) q dX8_readText_50 ?_
          refine r_aload_0 (pc := 51) q dX8_readText_51 ?_
          refine r_aload_1 (pc := 52) q dX8_readText_52 ?_
          refine r_iload_3 (pc := 53) q dX8_readText_53 ?_
          refine r_aload_2 (pc := 54) q dX8_readText_54 ?_
          refine r_cI3 (pc := 55) q (c_X8_takeToken hc hT hy ht2 hs o1 o2 a0 (by omega) nb) mX8_36 hc.o (by decide) (Nat.le_of_ble_eq_true rfl) rfl dX8_readText_55 (fun z6 h6 hz6 => ?_)
          obtain ⟨zb, hf6, hst⟩ := hz6
          refine r_max (pc := 58) q mX8_40 ⟨by omega, by omega⟩ ⟨by omega, by omega⟩ ⟨Nat.le_of_ble_eq_true rfl, Nat.le_of_ble_eq_true rfl, Nat.le_of_ble_eq_true rfl, Nat.le_of_ble_eq_true rfl⟩ rfl dX8_readText_58 ?_
          rw [show max 1 z6 = z6 by omega]
          refine r_iadd (pc := 61) q dX8_readText_61 ?_
          refine r_istore_3 (pc := 62) q dX8_readText_62 rfl ?_
          refine r_goto (pc := 63) (tgt := 22) q dX8_readText_63 (by decide) ?_
          rcases hst with ⟨k, k1, k2, k3, k4⟩ | ⟨k0, k1, aw', n', ns', nl', us', ul', hs', hP'⟩
          · exact badL (a + z6) (by omega) h6 k a n ns nl us ul (rdF_t f hf6) (by rw [hP, k4]) k2 k3 k1.1 k1.2
          · exact ih (a + z6) (by omega) (by omega) (by omega) h6 aw' n' ns' nl' us' ul' (rdF_t f hf6) (by rw [k0]; exact e0) (by rw [k1]; exact e1) hs' (by rw [hP, hP'])
        refine r_iconst (pc := 46) q dX8_readText_46 ?_
        refine r_goto (pc := 47) (tgt := 61) q dX8_readText_47 (by decide) ?_
        refine r_iadd (pc := 61) q dX8_readText_61 ?_
        refine r_istore_3 (pc := 62) q dX8_readText_62 rfl ?_
        refine r_goto (pc := 63) (tgt := 22) q dX8_readText_63 (by decide) ?_
        refine ih (a + 1) (by omega) (by omega) (by omega) h2 aw n ns nl us ul f e0 e1 hs ?_
        rw [hP, PR_blk (by omega)]
        rcases hz5 with ⟨-, -, -, z⟩ | ⟨z, -⟩
        · exact z
        · exact absurd z c43
  refine r_aload_0 (pc := 0) q dX8_readText_0 ?_
  refine r_iconst (pc := 1) q dX8_readText_1 ?_
  refine r_puti (pc := 2) q fX8_9 (kz := 0) rfl (by decide) rfl hc.o dX8_readText_2 (fun h1 eh1 => ?_)
  refine r_aload_0 (pc := 5) q dX8_readText_5 ?_
  refine r_iconst (pc := 6) q dX8_readText_6 ?_
  refine r_puti (pc := 7) q fX8_15 (kz := 1) rfl (by decide) rfl hc.o dX8_readText_7 (fun h2 eh2 => ?_)
  refine r_aload_0 (pc := 10) q dX8_readText_10 ?_
  refine r_iconst (pc := 11) q dX8_readText_11 ?_
  refine r_putz (pc := 12) q fX8_18 (kz := 2) rfl (by decide) rfl hc.o (by decide) dX8_readText_12 (fun h3 eh3 => ?_)
  refine r_aload_2 (pc := 15) q dX8_readText_15 ?_
  refine r_iconst (pc := 16) q dX8_readText_16 ?_
  refine r_puti (pc := 17) q fX8_22 (kz := 4) rfl (by decide) rfl hy.o dX8_readText_17 (fun h4 eh4 => ?_)
  refine r_iconst (pc := 20) q dX8_readText_20 ?_
  refine r_istore_3 (pc := 21) q dX8_readText_21 rfl ?_
  have o4 : ∀ x : Nat, x ≠ c → x ≠ y → h4 x = h x := fun x x0 x1 => by rw [eh4, up_n _ _ x1, eh3, up_n _ _ x0, eh2, up_n _ _ x0, eh1, up_n _ _ x0]
  have e4c : h4 c = up (up (up (h c) 0 0) 1 (-1)) 2 1 := by rw [eh4, up_n _ _ (by omega), eh3, up_s, eh2, up_s, eh1, up_s]
  have e4y : h4 y = up (h y) 4 0 := by rw [eh4, up_s, eh3, up_n _ _ (by omega), eh2, up_n _ _ (by omega), eh1, up_n _ _ (by omega)]
  exact lp T.toNat 0 (by omega) (by omega) (by omega) h4 true 0 fn0 fn0 fn0 fn0 ⟨fun x x0 x1 _ => o4 x x0 x1, fun k k4 => by rw [e4y, up_n _ _ k4]⟩ (by rw [e4c, up_n _ _ (by decide), up_n _ _ (by decide), up_s]) (by rw [e4c, up_n _ _ (by decide), up_s]) ⟨by rw [e4c, up_s]; rfl, by rw [e4y, up_s], ⟨by omega, by omega⟩, fun z => absurd z (by decide), fun i i0 i1 => by omega, fun i i0 i1 => by have : awI true = 1 := rfl; omega⟩ rfl
