theorem c_X7_hasStation {l : Launch} {D : va_G} {aC : Nat → ClassId} {B t sz : Nat} {S : sS} {r : sR} {h : sH} {y : Nat} {i : Int} (hy : LX7 S r y) (hi : inR i) (n0 : 0 ≤ h y 4) (n1 : h y 4 ≤ 10) : CtI l yX7_hasStation cX7_hasStation 2 (some .boolean) 0 0 [.ref y, .int (iI i)] D aC B t sz S r h (fun z h1 => ((z = 1 ∧ 0 ≤ i ∧ i < h y 4) ∨ (z = 0 ∧ ¬ (0 ≤ i ∧ i < h y 4))) ∧ h = h1) := by
  unfold CtI
  refine Ct.of (lv := [some (.ref y), some (.int (iI i))]) (by decide +kernel) rfl (Nat.le_of_ble_eq_true rfl) (fun X hl q rt hnm => ?_)
  obtain ⟨i0, i9⟩ := hi
  refine r_iload_1 (pc := 0) q dX7_hasStation_0 ?_
  refine r_if_lt (pc := 1) q 16 dX7_hasStation_1 (by decide) ⟨by omega, by omega⟩ (fun c1 => ?_) (fun c1 => ?_)
  · refine r_iconst (pc := 16) q dX7_hasStation_16 ?_
    refine r_zreturn (pc := 17) q rt dX7_hasStation_17 (by decide) ?_
    exact ⟨by omega, rfl⟩
  refine r_iload_1 (pc := 4) q dX7_hasStation_4 ?_
  refine r_aload_0 (pc := 5) q dX7_hasStation_5 ?_
  refine r_geti (pc := 6) q fX7_29 (kz := 4) rfl (by decide) rfl hy.o dX7_hasStation_6 ?_
  refine r_icmp_ge (pc := 9) q 16 dX7_hasStation_9 (by decide) ⟨by omega, by omega⟩ ⟨by omega, by omega⟩ (fun c9 => ?_) (fun c9 => ?_)
  · refine r_iconst (pc := 16) q dX7_hasStation_16 ?_
    refine r_zreturn (pc := 17) q rt dX7_hasStation_17 (by decide) ?_
    exact ⟨by omega, rfl⟩
  refine r_iconst (pc := 12) q dX7_hasStation_12 ?_
  refine r_goto (pc := 13) (tgt := 17) q dX7_hasStation_13 (by decide) ?_
  refine r_zreturn (pc := 17) q rt dX7_hasStation_17 (by decide) ?_
  exact ⟨by omega, rfl⟩
theorem c_X7_hasNumeral {l : Launch} {D : va_G} {aC : Nat → ClassId} {B t sz : Nat} {S : sS} {r : sR} {h : sH} {y : Nat} {i : Int} (hy : LX7 S r y) (hi : inR i) (n0 : 0 ≤ h y 4) (n1 : h y 4 ≤ 10) : CtI l yX7_hasNumeral cX7_hasNumeral 2 (some .boolean) 0 0 [.ref y, .int (iI i)] D aC B t sz S r h (fun z h1 => ((z = 1 ∧ 0 ≤ i ∧ i + 1 < h y 4) ∨ (z = 0 ∧ ¬ (0 ≤ i ∧ i + 1 < h y 4))) ∧ h = h1) := by
  unfold CtI
  refine Ct.of (lv := [some (.ref y), some (.int (iI i))]) (by decide +kernel) rfl (Nat.le_of_ble_eq_true rfl) (fun X hl q rt hnm => ?_)
  obtain ⟨i0, i9⟩ := hi
  refine r_iload_1 (pc := 0) q dX7_hasNumeral_0 ?_
  refine r_if_lt (pc := 1) q 18 dX7_hasNumeral_1 (by decide) ⟨by omega, by omega⟩ (fun c1 => ?_) (fun c1 => ?_)
  · refine r_iconst (pc := 18) q dX7_hasNumeral_18 ?_
    refine r_zreturn (pc := 19) q rt dX7_hasNumeral_19 (by decide) ?_
    exact ⟨by omega, rfl⟩
  refine r_iload_1 (pc := 4) q dX7_hasNumeral_4 ?_
  refine r_aload_0 (pc := 5) q dX7_hasNumeral_5 ?_
  refine r_geti (pc := 6) q fX7_29 (kz := 4) rfl (by decide) rfl hy.o dX7_hasNumeral_6 ?_
  refine r_iconst (pc := 9) q dX7_hasNumeral_9 ?_
  refine r_isub (pc := 10) q dX7_hasNumeral_10 ?_
  refine r_icmp_ge (pc := 11) q 18 dX7_hasNumeral_11 (by decide) ⟨by omega, by omega⟩ ⟨by omega, by omega⟩ (fun c11 => ?_) (fun c11 => ?_)
  · refine r_iconst (pc := 18) q dX7_hasNumeral_18 ?_
    refine r_zreturn (pc := 19) q rt dX7_hasNumeral_19 (by decide) ?_
    exact ⟨by omega, rfl⟩
  refine r_iconst (pc := 14) q dX7_hasNumeral_14 ?_
  refine r_goto (pc := 15) (tgt := 19) q dX7_hasNumeral_15 (by decide) ?_
  refine r_zreturn (pc := 19) q rt dX7_hasNumeral_19 (by decide) ?_
  exact ⟨by omega, rfl⟩
theorem c_X7_hasNameAhead {l : Launch} {D : va_G} {aC : Nat → ClassId} {B t sz : Nat} {S : sS} {r : sR} {h : sH} {y : Nat} {s : Int} {g : Int → Int → Int} {n : Int → Int} (hy : LX7 S r y) (s0 : 0 ≤ s) (s9 : s ≤ 9) (hN : ∀ i : Int, 0 ≤ i → i ≤ s → nmC h (y + 4 + 4 * i.toNat) (g i) (n i)) : CtI l yX7_hasNameAhead cX7_hasNameAhead 3 (some .boolean) 1 22 [.ref y, .int (iI s)] D aC B t sz S r h (fun z h1 => ((z = 1 ∧ ∃ i : Int, 0 ≤ i ∧ i < s ∧ eqN (g i) (g s) (n i) (n s)) ∨ (z = 0 ∧ ¬ ∃ i : Int, 0 ≤ i ∧ i < s ∧ eqN (g i) (g s) (n i) (n s))) ∧ h = h1) := by
  unfold CtI
  refine Ct.of (lv := [some (.ref y), some (.int (iI s)), none]) (by decide +kernel) rfl (Nat.le_of_ble_eq_true rfl) (fun X hl q rt hnm => ?_)
  have lp : ∀ (d j : Nat), (j : Int) + d = s → (∀ k : Int, 0 ≤ k → k < j → ¬ eqN (g k) (g s) (n k) (n s)) → G X 0 0 2 [some (.ref y), some (.int (iI s)), some (.int (iI j))] [] sz S r h := by
    intro d
    induction d with
    | zero =>
      intro j hj hn
      refine r_iload_2 (pc := 2) q dX7_hasNameAhead_2 ?_
      refine r_iload_1 (pc := 3) q dX7_hasNameAhead_3 ?_
      refine r_icmp_ge (pc := 4) q 33 dX7_hasNameAhead_4 (by decide) ⟨by omega, by omega⟩ ⟨by omega, by omega⟩ (fun c4 => ?_) (fun c4 => ?_)
      · refine r_iconst (pc := 33) q dX7_hasNameAhead_33 ?_
        refine r_zreturn (pc := 34) q rt dX7_hasNameAhead_34 (by decide) ?_
        exact ⟨Or.inr ⟨rfl, fun ⟨k, k0, k1, k2⟩ => hn k k0 (by omega) k2⟩, rfl⟩
      exact absurd (by omega) c4
    | succ d ih =>
      intro j hj hn
      refine r_iload_2 (pc := 2) q dX7_hasNameAhead_2 ?_
      refine r_iload_1 (pc := 3) q dX7_hasNameAhead_3 ?_
      refine r_icmp_ge (pc := 4) q 33 dX7_hasNameAhead_4 (by decide) ⟨by omega, by omega⟩ ⟨by omega, by omega⟩ (fun c4 => ?_) (fun c4 => ?_)
      · exact absurd c4 (by omega)
      refine r_aload_0 (pc := 7) q dX7_hasNameAhead_7 ?_
      refine r_getr (pc := 8) q fX7_11 (kz := 0) rfl (by decide) rfl hy.o hy.r_names dX7_hasNameAhead_8 ?_
      refine r_iload_2 (pc := 11) q dX7_hasNameAhead_11 ?_
      refine r_aald24 (pc := 12) q hy.s_names (by omega) (by omega) (hy.e_names (by omega) (by omega)) dX7_hasNameAhead_12 ?_
      refine r_aload_0 (pc := 13) q dX7_hasNameAhead_13 ?_
      refine r_getr (pc := 14) q fX7_11 (kz := 0) rfl (by decide) rfl hy.o hy.r_names dX7_hasNameAhead_14 ?_
      refine r_iload_1 (pc := 17) q dX7_hasNameAhead_17 ?_
      refine r_aald24 (pc := 18) q hy.s_names (by omega) (by omega) (hy.e_names (by omega) (by omega)) dX7_hasNameAhead_18 ?_
      refine r_cI1 (pc := 19) q (c_X3_same (hy.n_names (by omega) (by omega)) (hy.n_names s0 (by omega)) (hN j (by omega) (by omega)) (hN s s0 (by omega))) mX7_33 ((hy.n_names (by omega) (by omega))).o (by decide) (Nat.le_of_ble_eq_true rfl) rfl dX7_hasNameAhead_19 (fun z5 h5 hz5 => ?_)
      obtain ⟨hz5, rfl⟩ := hz5
      refine r_if_eq (pc := 22) q 27 dX7_hasNameAhead_22 (by decide) ⟨by omega, by omega⟩ (fun c22 => ?_) (fun c22 => ?_)
      · refine r_iinc_2 (pc := 27) q dX7_hasNameAhead_27 rfl ?_
        refine r_goto (pc := 30) (tgt := 2) q dX7_hasNameAhead_30 (by decide) ?_
        refine ih (j + 1) (by omega) (fun k k0 k1 => ?_)
        rcases hz5 with ⟨z, -⟩ | ⟨-, z⟩
        · omega
        · by_cases ek : k = j
          · rw [ek]; exact z
          · exact hn k k0 (by omega)
      refine r_iconst (pc := 25) q dX7_hasNameAhead_25 ?_
      refine r_zreturn (pc := 26) q rt dX7_hasNameAhead_26 (by decide) ?_
      rcases hz5 with ⟨-, z⟩ | ⟨z, -⟩
      · exact ⟨Or.inl ⟨rfl, j, by omega, by omega, z⟩, rfl⟩
      · exact absurd z c22
  refine r_iconst (pc := 0) q dX7_hasNameAhead_0 ?_
  refine r_istore_2 (pc := 1) q dX7_hasNameAhead_1 rfl ?_
  exact lp s.toNat 0 (by omega) (fun k k0 k1 => by omega)
theorem c_X7_markMisread {l : Launch} {D : va_G} {aC : Nat → ClassId} {B t sz : Nat} {S : sS} {r : sR} {h : sH} {y P : Nat} {N : Int} {u : Int → Int → Int} {un : Int → Int} (hy : LX7 S r y) (hP : S P = some (20, 10)) (hN : h y 4 = N) (N2 : 2 ≤ N) (N10 : N ≤ 10) (hU : h y 3 = 2 ∨ h y 3 = 3) (hp : ∀ i : Int, 0 ≤ i → i < N → 0 ≤ h P i ∧ h P i ≤ 600) (hnu : ∀ i : Int, 0 ≤ i → i + 1 < N → nuC h (y + 6 + 4 * i.toNat) (u i) (un i)) : CtV l yX7_markMisread cX7_markMisread 3 none 1 22 [.ref y, .ref P] D aC B t sz S r h (fun h1 => (∀ a : Nat, a ≠ y + 3 → h1 a = h a) ∧ ∀ i : Int, 0 ≤ i → i + 1 < N → (h1 (y + 3) i = 1 ∧ misP (h y 3) (h P) (fun k => vS (u k) (un k).toNat) i) ∨ (h1 (y + 3) i = 0 ∧ ¬ misP (h y 3) (h P) (fun k => vS (u k) (un k).toNat) i)) := by
  unfold CtV
  refine Ct.of (lv := [some (.ref y), some (.ref P), none]) (by decide +kernel) rfl (Nat.le_of_ble_eq_true rfl) (fun X hl q rt hnm => ?_)
  have nP : P ≠ y + 3 := sNe hP hy.s_misread (by decide)
  have lp : ∀ (d j : Nat), (j : Int) + d = N - 1 → ∀ h2 : sH, (∀ a : Nat, a ≠ y + 3 → h2 a = h a) → (∀ i : Int, 0 ≤ i → i < j → (h2 (y + 3) i = 1 ∧ misP (h y 3) (h P) (fun k => vS (u k) (un k).toNat) i) ∨ (h2 (y + 3) i = 0 ∧ ¬ misP (h y 3) (h P) (fun k => vS (u k) (un k).toNat) i)) → G X 0 0 2 [some (.ref y), some (.ref P), some (.int (iI j))] [] sz S r h2 := by
    intro d
    induction d with
    | zero =>
      intro j hj h2 fr hx
      have s1 := fr y (by omega)
      refine r_iload_2 (pc := 2) q dX7_markMisread_2 ?_
      refine r_aload_0 (pc := 3) q dX7_markMisread_3 ?_
      refine r_geti (pc := 4) q fX7_29 (kz := 4) rfl (by decide) rfl hy.o dX7_markMisread_4 ?_
      rw [s1, hN]
      refine r_iconst (pc := 7) q dX7_markMisread_7 ?_
      refine r_isub (pc := 8) q dX7_markMisread_8 ?_
      refine r_icmp_ge (pc := 9) q 55 dX7_markMisread_9 (by decide) ⟨by omega, by omega⟩ ⟨by omega, by omega⟩ (fun c9 => ?_) (fun c9 => ?_)
      · refine r_return (pc := 55) q rt dX7_markMisread_55 ?_
        exact ⟨fr, fun i i0 i1 => hx i i0 (by omega)⟩
      exact absurd (by omega) c9
    | succ d ih =>
      intro j hj h2 fr hx
      have s1 := fr y (by omega)
      have s2 := fr P nP
      have b0 := hp j (by omega) (by omega)
      have b1 := hp (j + 1) (by omega) (by omega)
      have hnj := hnu j (by omega) (by omega)
      have hL := hy.n_numerals (j := j) (by omega) (by omega)
      have hn2 := nuC_fr hnj (fr _ (sNe hL.o hy.s_misread (by decide))) (fr _ (sNe hL.s_signs hy.s_misread (by decide)))
      have vb := vS_in (u j) (un j).toNat
      have n8 := hnj.2.1
      have mb : 0 ≤ h y 3 * vS (u j) (un j).toNat ∧ h y 3 * vS (u j) (un j).toNat ≤ 1200 := by
        rcases hU with e | e <;> rw [e] <;> omega
      have J : ∀ w : Int, (w = 1 ∧ misP (h y 3) (h P) (fun k => vS (u k) (un k).toNat) j) ∨ (w = 0 ∧ ¬ misP (h y 3) (h P) (fun k => vS (u k) (un k).toNat) j) → G X 0 0 48 [some (.ref y), some (.ref P), some (.int (iI j))] [.int (iI w), .int (iI j), .ref (y + 3)] sz S r h2 := by
        intro w hw
        refine r_zast (pc := 48) q hy.s_misread (by omega) (by omega) (by omega) dX7_markMisread_48 (fun h3 eh3 => ?_)
        refine r_iinc_2 (pc := 49) q dX7_markMisread_49 rfl ?_
        refine r_goto (pc := 52) (tgt := 2) q dX7_markMisread_52 (by decide) ?_
        refine ih (j + 1) (by omega) h3 (fun a a0 => by rw [eh3, up_n _ _ a0]; exact fr a a0) (fun i i0 i1 => ?_)
        rw [eh3, up_s]
        by_cases ei : i = j
        · rw [ei, up_s]; exact hw
        · rw [up_n _ _ ei]; exact hx i i0 (by omega)
      refine r_iload_2 (pc := 2) q dX7_markMisread_2 ?_
      refine r_aload_0 (pc := 3) q dX7_markMisread_3 ?_
      refine r_geti (pc := 4) q fX7_29 (kz := 4) rfl (by decide) rfl hy.o dX7_markMisread_4 ?_
      rw [s1, hN]
      refine r_iconst (pc := 7) q dX7_markMisread_7 ?_
      refine r_isub (pc := 8) q dX7_markMisread_8 ?_
      refine r_icmp_ge (pc := 9) q 55 dX7_markMisread_9 (by decide) ⟨by omega, by omega⟩ ⟨by omega, by omega⟩ (fun c9 => ?_) (fun c9 => ?_)
      · exact absurd c9 (by omega)
      refine r_aload_0 (pc := 12) q dX7_markMisread_12 ?_
      refine r_getr (pc := 13) q fX7_23 (kz := 2) rfl (by decide) rfl hy.o hy.r_misread dX7_markMisread_13 ?_
      refine r_iload_2 (pc := 16) q dX7_markMisread_16 ?_
      refine r_aload_1 (pc := 17) q dX7_markMisread_17 ?_
      refine r_iload_2 (pc := 18) q dX7_markMisread_18 ?_
      refine r_iconst (pc := 19) q dX7_markMisread_19 ?_
      refine r_iadd (pc := 20) q dX7_markMisread_20 ?_
      refine r_iald (pc := 21) q hP (by omega) (by omega) dX7_markMisread_21 ?_
      rw [s2]
      refine r_aload_1 (pc := 22) q dX7_markMisread_22 ?_
      refine r_iload_2 (pc := 23) q dX7_markMisread_23 ?_
      refine r_iald (pc := 24) q hP (by omega) (by omega) dX7_markMisread_24 ?_
      rw [s2]
      refine r_isub (pc := 25) q dX7_markMisread_25 ?_
      refine r_aload_0 (pc := 26) q dX7_markMisread_26 ?_
      refine r_geti (pc := 27) q fX7_37 (kz := 3) rfl (by decide) rfl hy.o dX7_markMisread_27 ?_
      rw [s1]
      refine r_aload_0 (pc := 30) q dX7_markMisread_30 ?_
      refine r_getr (pc := 31) q fX7_19 (kz := 1) rfl (by decide) rfl hy.o hy.r_numerals dX7_markMisread_31 ?_
      refine r_iload_2 (pc := 34) q dX7_markMisread_34 ?_
      refine r_aald25 (pc := 35) q hy.s_numerals (by omega) (by omega) (hy.e_numerals (by omega) (by omega)) dX7_markMisread_35 ?_
      refine r_cI0 (pc := 36) q (c_X4_value hL hn2) mX7_40 ((hy.n_numerals (by omega) (by omega))).o (by decide) (Nat.le_of_ble_eq_true rfl) rfl dX7_markMisread_36 (fun z1 h1 hz1 => ?_)
      obtain ⟨rfl, rfl⟩ := hz1
      refine r_imul (pc := 39) q dX7_markMisread_39 ?_
      refine r_icmp_eq (pc := 40) q 47 dX7_markMisread_40 (by decide) ⟨by omega, by omega⟩ ⟨by omega, by omega⟩ (fun c40 => ?_) (fun c40 => ?_)
      · refine r_iconst (pc := 47) q dX7_markMisread_47 ?_
        exact J 0 (Or.inr ⟨rfl, fun z => z c40⟩)
      refine r_iconst (pc := 43) q dX7_markMisread_43 ?_
      refine r_goto (pc := 44) (tgt := 48) q dX7_markMisread_44 (by decide) ?_
      exact J 1 (Or.inl ⟨rfl, c40⟩)
  refine r_iconst (pc := 0) q dX7_markMisread_0 ?_
  refine r_istore_2 (pc := 1) q dX7_markMisread_1 rfl ?_
  exact lp (N - 1).toNat 0 (by omega) h (fun _ _ => rfl) (fun i i0 i1 => by omega)
/-- step i of one list is step j of the other -/
def smC (g : Int → Int → Int) (n : Int → Int) (u : Int → Int → Int) (un : Int → Int) (f : Int → Int → Int) (k : Int → Int) (v : Int → Int → Int) (vn : Int → Int) (i j : Int) : Prop := eqN (g i) (f j) (n i) (k j) ∧ eqN (g (i + 1)) (f (j + 1)) (n (i + 1)) (k (j + 1)) ∧ eqN (u i) (v j) (un i) (vn j)
theorem c_X7_sameStep {l : Launch} {D : va_G} {aC : Nat → ClassId} {B t sz : Nat} {S : sS} {r : sR} {h : sH} {y o : Nat} {i j N M : Int} {g u f v : Int → Int → Int} {n un k vn : Int → Int} (hy : LX7 S r y) (ho : LX7 S r o) (i0 : 0 ≤ i) (i1 : i + 1 < N) (j0 : 0 ≤ j) (j1 : j + 1 < M) (N10 : N ≤ 10) (M10 : M ≤ 10) (hg : ∀ i : Int, 0 ≤ i → i < N → nmC h (y + 4 + 4 * i.toNat) (g i) (n i)) (hu : ∀ i : Int, 0 ≤ i → i + 1 < N → nuC h (y + 6 + 4 * i.toNat) (u i) (un i)) (hf : ∀ i : Int, 0 ≤ i → i < M → nmC h (o + 4 + 4 * i.toNat) (f i) (k i)) (hv : ∀ i : Int, 0 ≤ i → i + 1 < M → nuC h (o + 6 + 4 * i.toNat) (v i) (vn i)) : CtI l yX7_sameStep cX7_sameStep 4 (some .boolean) 1 22 [.ref y, .int (iI i), .ref o, .int (iI j)] D aC B t sz S r h (fun z h1 => ((z = 1 ∧ smC g n u un f k v vn i j) ∨ (z = 0 ∧ ¬ smC g n u un f k v vn i j)) ∧ h = h1) := by
  unfold CtI
  refine Ct.of (lv := [some (.ref y), some (.int (iI i)), some (.ref o), some (.int (iI j))]) (by decide +kernel) rfl (Nat.le_of_ble_eq_true rfl) (fun X hl q rt hnm => ?_)
  refine r_aload_0 (pc := 0) q dX7_sameStep_0 ?_
  refine r_getr (pc := 1) q fX7_11 (kz := 0) rfl (by decide) rfl hy.o hy.r_names dX7_sameStep_1 ?_
  refine r_iload_1 (pc := 4) q dX7_sameStep_4 ?_
  refine r_aald24 (pc := 5) q hy.s_names (by omega) (by omega) (hy.e_names (by omega) (by omega)) dX7_sameStep_5 ?_
  refine r_aload_2 (pc := 6) q dX7_sameStep_6 ?_
  refine r_getr (pc := 7) q fX7_11 (kz := 0) rfl (by decide) rfl ho.o ho.r_names dX7_sameStep_7 ?_
  refine r_iload_3 (pc := 10) q dX7_sameStep_10 ?_
  refine r_aald24 (pc := 11) q ho.s_names (by omega) (by omega) (ho.e_names (by omega) (by omega)) dX7_sameStep_11 ?_
  refine r_cI1 (pc := 12) q (c_X3_same (hy.n_names (by omega) (by omega)) (ho.n_names (by omega) (by omega)) (hg i i0 (by omega)) (hf j j0 (by omega))) mX7_33 ((hy.n_names (by omega) (by omega))).o (by decide) (Nat.le_of_ble_eq_true rfl) rfl dX7_sameStep_12 (fun z1 h1 hz1 => ?_)
  obtain ⟨hz1, rfl⟩ := hz1
  refine r_if_eq (pc := 15) q 62 dX7_sameStep_15 (by decide) ⟨by omega, by omega⟩ (fun c15 => ?_) (fun c15 => ?_)
  · refine r_iconst (pc := 62) q dX7_sameStep_62 ?_
    refine r_zreturn (pc := 63) q rt dX7_sameStep_63 (by decide) ?_
    rcases hz1 with ⟨z, -⟩ | ⟨-, z⟩
    · omega
    · exact ⟨Or.inr ⟨rfl, fun w => z w.1⟩, rfl⟩
  refine r_aload_0 (pc := 18) q dX7_sameStep_18 ?_
  refine r_getr (pc := 19) q fX7_11 (kz := 0) rfl (by decide) rfl hy.o hy.r_names dX7_sameStep_19 ?_
  refine r_iload_1 (pc := 22) q dX7_sameStep_22 ?_
  refine r_iconst (pc := 23) q dX7_sameStep_23 ?_
  refine r_iadd (pc := 24) q dX7_sameStep_24 ?_
  refine r_aald24 (pc := 25) q hy.s_names (by omega) (by omega) (hy.e_names (by omega) (by omega)) dX7_sameStep_25 ?_
  refine r_aload_2 (pc := 26) q dX7_sameStep_26 ?_
  refine r_getr (pc := 27) q fX7_11 (kz := 0) rfl (by decide) rfl ho.o ho.r_names dX7_sameStep_27 ?_
  refine r_iload_3 (pc := 30) q dX7_sameStep_30 ?_
  refine r_iconst (pc := 31) q dX7_sameStep_31 ?_
  refine r_iadd (pc := 32) q dX7_sameStep_32 ?_
  refine r_aald24 (pc := 33) q ho.s_names (by omega) (by omega) (ho.e_names (by omega) (by omega)) dX7_sameStep_33 ?_
  refine r_cI1 (pc := 34) q (c_X3_same (hy.n_names (by omega) (by omega)) (ho.n_names (by omega) (by omega)) (hg (i + 1) (by omega) (by omega)) (hf (j + 1) (by omega) (by omega))) mX7_33 ((hy.n_names (by omega) (by omega))).o (by decide) (Nat.le_of_ble_eq_true rfl) rfl dX7_sameStep_34 (fun z2 h2 hz2 => ?_)
  obtain ⟨hz2, rfl⟩ := hz2
  refine r_if_eq (pc := 37) q 62 dX7_sameStep_37 (by decide) ⟨by omega, by omega⟩ (fun c37 => ?_) (fun c37 => ?_)
  · refine r_iconst (pc := 62) q dX7_sameStep_62 ?_
    refine r_zreturn (pc := 63) q rt dX7_sameStep_63 (by decide) ?_
    rcases hz2 with ⟨z, -⟩ | ⟨-, z⟩
    · omega
    · exact ⟨Or.inr ⟨rfl, fun w => z w.2.1⟩, rfl⟩
  refine r_aload_0 (pc := 40) q dX7_sameStep_40 ?_
  refine r_getr (pc := 41) q fX7_19 (kz := 1) rfl (by decide) rfl hy.o hy.r_numerals dX7_sameStep_41 ?_
  refine r_iload_1 (pc := 44) q dX7_sameStep_44 ?_
  refine r_aald25 (pc := 45) q hy.s_numerals (by omega) (by omega) (hy.e_numerals (by omega) (by omega)) dX7_sameStep_45 ?_
  refine r_aload_2 (pc := 46) q dX7_sameStep_46 ?_
  refine r_getr (pc := 47) q fX7_19 (kz := 1) rfl (by decide) rfl ho.o ho.r_numerals dX7_sameStep_47 ?_
  refine r_iload_3 (pc := 50) q dX7_sameStep_50 ?_
  refine r_aald25 (pc := 51) q ho.s_numerals (by omega) (by omega) (ho.e_numerals (by omega) (by omega)) dX7_sameStep_51 ?_
  refine r_cI1 (pc := 52) q (c_X4_same (hy.n_numerals (by omega) (by omega)) (ho.n_numerals (by omega) (by omega)) (hu i i0 i1) (hv j j0 j1)) mX7_48 ((hy.n_numerals (by omega) (by omega))).o (by decide) (Nat.le_of_ble_eq_true rfl) rfl dX7_sameStep_52 (fun z3 h3 hz3 => ?_)
  obtain ⟨hz3, rfl⟩ := hz3
  refine r_if_eq (pc := 55) q 62 dX7_sameStep_55 (by decide) ⟨by omega, by omega⟩ (fun c55 => ?_) (fun c55 => ?_)
  · refine r_iconst (pc := 62) q dX7_sameStep_62 ?_
    refine r_zreturn (pc := 63) q rt dX7_sameStep_63 (by decide) ?_
    rcases hz3 with ⟨z, -⟩ | ⟨-, z⟩
    · omega
    · exact ⟨Or.inr ⟨rfl, fun w => z w.2.2⟩, rfl⟩
  refine r_iconst (pc := 58) q dX7_sameStep_58 ?_
  refine r_goto (pc := 59) (tgt := 63) q dX7_sameStep_59 (by decide) ?_
  refine r_zreturn (pc := 63) q rt dX7_sameStep_63 (by decide) ?_
  rcases hz1 with ⟨-, w1⟩ | ⟨w1, -⟩
  · rcases hz2 with ⟨-, w2⟩ | ⟨w2, -⟩
    · rcases hz3 with ⟨-, w3⟩ | ⟨w3, -⟩
      · exact ⟨Or.inl ⟨rfl, w1, w2, w3⟩, rfl⟩
      · exact absurd w3 c55
    · exact absurd w2 c37
  · exact absurd w1 c15
theorem c_X7_countShared {l : Launch} {D : va_G} {aC : Nat → ClassId} {B t sz : Nat} {S : sS} {r : sR} {h : sH} {y o : Nat} {N M : Int} {g u f v : Int → Int → Int} {n un k vn : Int → Int} {A B2 : Int → Prop} (hy : LX7 S r y) (ho : LX7 S r o) (hN : h y 4 = N) (hM : h o 4 = M) (N2 : 2 ≤ N) (N10 : N ≤ 10) (M2 : 2 ≤ M) (M10 : M ≤ 10) (hg : ∀ i : Int, 0 ≤ i → i < N → nmC h (y + 4 + 4 * i.toNat) (g i) (n i)) (hu : ∀ i : Int, 0 ≤ i → i + 1 < N → nuC h (y + 6 + 4 * i.toNat) (u i) (un i)) (hf : ∀ i : Int, 0 ≤ i → i < M → nmC h (o + 4 + 4 * i.toNat) (f i) (k i)) (hv : ∀ i : Int, 0 ≤ i → i + 1 < M → nuC h (o + 6 + 4 * i.toNat) (v i) (vn i)) (hA : ∀ i : Int, 0 ≤ i → i + 1 < N → (h (y + 3) i = 1 ∧ A i) ∨ (h (y + 3) i = 0 ∧ ¬ A i)) (hB : ∀ i : Int, 0 ≤ i → i + 1 < M → (h (o + 3) i = 1 ∧ B2 i) ∨ (h (o + 3) i = 0 ∧ ¬ B2 i)) : CtI l yX7_countShared cX7_countShared 5 (some .int) 2 45 [.ref y, .ref o] D aC B t sz S r h (fun z h1 => cIJ (fun i j => A i ∧ B2 j ∧ smC g n u un f k v vn i j) (M - 1).toNat (N - 1).toNat = z ∧ h = h1) := by
  unfold CtI
  refine Ct.of (lv := [some (.ref y), some (.ref o), none, none, none]) (by decide +kernel) rfl (Nat.le_of_ble_eq_true rfl) (fun X hl q rt hnm => ?_)
  obtain ⟨P, hP⟩ : ∃ P : Int → Int → Prop, P = fun i j => A i ∧ B2 j ∧ smC g n u un f k v vn i j := ⟨_, rfl⟩
  have outer : ∀ (d i : Nat), (i : Int) + d = N - 1 → ∀ o4 : Option Value, G X 0 0 4 [some (.ref y), some (.ref o), some (.int (iI (cIJ P (M - 1).toNat i))), some (.int (iI i)), o4] [] sz S r h := by
    intro d
    induction d with
    | zero =>
      intro i hi o4
      refine r_iload_3 (pc := 4) q dX7_countShared_4 ?_
      refine r_aload_0 (pc := 5) q dX7_countShared_5 ?_
      refine r_geti (pc := 6) q fX7_29 (kz := 4) rfl (by decide) rfl hy.o dX7_countShared_6 ?_
      rw [hN]
      refine r_iconst (pc := 9) q dX7_countShared_9 ?_
      refine r_isub (pc := 10) q dX7_countShared_10 ?_
      refine r_icmp_ge (pc := 11) q 73 dX7_countShared_11 (by decide) ⟨by omega, by omega⟩ ⟨by omega, by omega⟩ (fun c11 => ?_) (fun c11 => ?_)
      · refine r_iload_2 (pc := 73) q dX7_countShared_73 ?_
        refine r_ireturn (pc := 74) q rt dX7_countShared_74 ?_
        exact ⟨by rw [← hP, show (N - 1).toNat = i by omega], rfl⟩
      exact absurd (by omega) c11
    | succ d ih =>
      intro i hi o4
      have ai := hA i (by omega) (by omega)
      have inner : ∀ (e j : Nat), (j : Int) + e = M - 1 → G X 0 0 17 [some (.ref y), some (.ref o), some (.int (iI (cIJ P (M - 1).toNat i + cJ (P i) j))), some (.int (iI i)), some (.int (iI j))] [] sz S r h := by
        intro e
        induction e with
        | zero =>
          intro j hj
          refine r_iload_4 (pc := 17) q dX7_countShared_17 ?_
          refine r_aload_1 (pc := 19) q dX7_countShared_19 ?_
          refine r_geti (pc := 20) q fX7_29 (kz := 4) rfl (by decide) rfl ho.o dX7_countShared_20 ?_
          rw [hM]
          refine r_iconst (pc := 23) q dX7_countShared_23 ?_
          refine r_isub (pc := 24) q dX7_countShared_24 ?_
          refine r_icmp_ge (pc := 25) q 67 dX7_countShared_25 (by decide) ⟨by omega, by omega⟩ ⟨by omega, by omega⟩ (fun c25 => ?_) (fun c25 => ?_)
          · refine r_iinc_3 (pc := 67) q dX7_countShared_67 rfl ?_
            refine r_goto (pc := 70) (tgt := 4) q dX7_countShared_70 (by decide) ?_
            have q3 := ih (i + 1) (by omega) (some (.int (iI j)))
            rw [show cIJ P (M - 1).toNat (i + 1) = cIJ P (M - 1).toNat i + cJ (P i) j by rw [show (M - 1).toNat = j by omega]; rfl] at q3
            exact q3
          exact absurd (by omega) c25
        | succ e ih2 =>
          intro j hj
          have bj := hB j (by omega) (by omega)
          have nx : ∀ w : Int, w = cIJ P (M - 1).toNat i + cJ (P i) (j + 1) → G X 0 0 61 [some (.ref y), some (.ref o), some (.int (iI w)), some (.int (iI i)), some (.int (iI j))] [] sz S r h := by
            intro w hw
            subst hw
            refine r_iinc_4 (pc := 61) q dX7_countShared_61 rfl ?_
            refine r_goto (pc := 64) (tgt := 17) q dX7_countShared_64 (by decide) ?_
            exact ih2 (j + 1) (by omega)
          have no : ¬ P i j → cIJ P (M - 1).toNat i + cJ (P i) j = cIJ P (M - 1).toNat i + cJ (P i) (j + 1) := fun z => by simp only [cJ]; rw [cif_f z]; omega
          have yes : P i j → cIJ P (M - 1).toNat i + cJ (P i) j + 1 = cIJ P (M - 1).toNat i + cJ (P i) (j + 1) := fun z => by simp only [cJ]; rw [cif_t z]; omega
          refine r_iload_4 (pc := 17) q dX7_countShared_17 ?_
          refine r_aload_1 (pc := 19) q dX7_countShared_19 ?_
          refine r_geti (pc := 20) q fX7_29 (kz := 4) rfl (by decide) rfl ho.o dX7_countShared_20 ?_
          rw [hM]
          refine r_iconst (pc := 23) q dX7_countShared_23 ?_
          refine r_isub (pc := 24) q dX7_countShared_24 ?_
          refine r_icmp_ge (pc := 25) q 67 dX7_countShared_25 (by decide) ⟨by omega, by omega⟩ ⟨by omega, by omega⟩ (fun c25 => ?_) (fun c25 => ?_)
          · exact absurd c25 (by omega)
          refine r_aload_0 (pc := 28) q dX7_countShared_28 ?_
          refine r_getr (pc := 29) q fX7_23 (kz := 2) rfl (by decide) rfl hy.o hy.r_misread dX7_countShared_29 ?_
          refine r_iload_3 (pc := 32) q dX7_countShared_32 ?_
          refine r_zald (pc := 33) q hy.s_misread (by omega) (by omega) dX7_countShared_33 ?_
          refine r_if_eq (pc := 34) q 61 dX7_countShared_34 (by decide) ⟨by omega, by omega⟩ (fun c34 => ?_) (fun c34 => ?_)
          · refine nx _ (no (fun z => ?_))
            rw [hP] at z
            rcases ai with ⟨w, -⟩ | ⟨-, w⟩
            · omega
            · exact w z.1
          refine r_aload_1 (pc := 37) q dX7_countShared_37 ?_
          refine r_getr (pc := 38) q fX7_23 (kz := 2) rfl (by decide) rfl ho.o ho.r_misread dX7_countShared_38 ?_
          refine r_iload_4 (pc := 41) q dX7_countShared_41 ?_
          refine r_zald (pc := 43) q ho.s_misread (by omega) (by omega) dX7_countShared_43 ?_
          refine r_if_eq (pc := 44) q 61 dX7_countShared_44 (by decide) ⟨by omega, by omega⟩ (fun c44 => ?_) (fun c44 => ?_)
          · refine nx _ (no (fun z => ?_))
            rw [hP] at z
            rcases bj with ⟨w, -⟩ | ⟨-, w⟩
            · omega
            · exact w z.2.1
          refine r_aload_0 (pc := 47) q dX7_countShared_47 ?_
          refine r_iload_3 (pc := 48) q dX7_countShared_48 ?_
          refine r_aload_1 (pc := 49) q dX7_countShared_49 ?_
          refine r_iload_4 (pc := 50) q dX7_countShared_50 ?_
          refine r_cI3 (pc := 52) q (c_X7_sameStep (g := g) (n := n) (u := u) (un := un) (f := f) (k := k) (v := v) (vn := vn) hy ho (by omega) (by omega) (by omega) (by omega) N10 M10 hg hu hf hv) mX7_44 hy.o (by decide) (Nat.le_of_ble_eq_true rfl) rfl dX7_countShared_52 (fun z5 h5 hz5 => ?_)
          obtain ⟨hz5, rfl⟩ := hz5
          refine r_if_eq (pc := 55) q 61 dX7_countShared_55 (by decide) ⟨by omega, by omega⟩ (fun c55 => ?_) (fun c55 => ?_)
          · refine nx _ (no (fun z => ?_))
            rw [hP] at z
            rcases hz5 with ⟨w, -⟩ | ⟨-, w⟩
            · omega
            · exact w z.2.2
          refine r_iinc_2 (pc := 58) q dX7_countShared_58 rfl ?_
          refine nx _ (yes ?_)
          rw [hP]
          rcases ai with ⟨-, w1⟩ | ⟨w1, -⟩
          · rcases bj with ⟨-, w2⟩ | ⟨w2, -⟩
            · rcases hz5 with ⟨-, w3⟩ | ⟨w3, -⟩
              · exact ⟨w1, w2, w3⟩
              · exact absurd w3 c55
            · exact absurd w2 c44
          · exact absurd w1 c34
      refine r_iload_3 (pc := 4) q dX7_countShared_4 ?_
      refine r_aload_0 (pc := 5) q dX7_countShared_5 ?_
      refine r_geti (pc := 6) q fX7_29 (kz := 4) rfl (by decide) rfl hy.o dX7_countShared_6 ?_
      rw [hN]
      refine r_iconst (pc := 9) q dX7_countShared_9 ?_
      refine r_isub (pc := 10) q dX7_countShared_10 ?_
      refine r_icmp_ge (pc := 11) q 73 dX7_countShared_11 (by decide) ⟨by omega, by omega⟩ ⟨by omega, by omega⟩ (fun c11 => ?_) (fun c11 => ?_)
      · exact absurd c11 (by omega)
      refine r_iconst (pc := 14) q dX7_countShared_14 ?_
      refine r_istore_4 (pc := 15) q dX7_countShared_15 rfl ?_
      have q3 := inner (M - 1).toNat 0 (by omega)
      rw [show cIJ P (M - 1).toNat i + cJ (P i) 0 = cIJ P (M - 1).toNat i by simp only [cJ]; omega] at q3
      exact q3
  refine r_iconst (pc := 0) q dX7_countShared_0 ?_
  refine r_istore_2 (pc := 1) q dX7_countShared_1 rfl ?_
  refine r_iconst (pc := 2) q dX7_countShared_2 ?_
  refine r_istore_3 (pc := 3) q dX7_countShared_3 rfl ?_
  exact outer (N - 1).toNat 0 (by omega) _
