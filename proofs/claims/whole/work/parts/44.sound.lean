theorem c_X9_alike {l : Launch} {D : va_G} {aC : Nat → ClassId} {B t sz : Nat} {S : sS} {r : sR} {h : sH} {y : Nat} {a b : Int} (hy : LX9 S r y) (hs : soR (h (y + 1))) (ha : inR a) (hb : inR b) : CtI l yX9_alike cX9_alike 4 (some .boolean) 0 0 [.ref y, .int (iI a), .int (iI b)] D aC B t sz S r h (fun z h1 => ((z = 1 ∧ (0 ≤ a ∧ a ≤ 25 ∧ 0 ≤ b ∧ b ≤ 25) ∧ h (y + 1) a = h (y + 1) b) ∨ (z = 0 ∧ ¬ ((0 ≤ a ∧ a ≤ 25 ∧ 0 ≤ b ∧ b ≤ 25) ∧ h (y + 1) a = h (y + 1) b))) ∧ h = h1) := by
  unfold CtI
  refine Ct.of (lv := [some (.ref y), some (.int (iI a)), some (.int (iI b)), none]) (by decide +kernel) rfl (Nat.le_of_ble_eq_true rfl) (fun X hl q rt hnm => ?_)
  obtain ⟨a0, a9⟩ := ha
  obtain ⟨b0, b9⟩ := hb
  have no : ¬ (0 ≤ a ∧ a ≤ 25 ∧ 0 ≤ b ∧ b ≤ 25) → G X 0 0 25 [some (.ref y), some (.int (iI a)), some (.int (iI b)), none] [.int (iI 0)] sz S r h := by
    intro hn
    refine r_istore_3 (pc := 25) q dX9_alike_25 rfl ?_
    refine r_iload_3 (pc := 26) q dX9_alike_26 ?_
    refine r_if_eq (pc := 27) q 49 dX9_alike_27 (by decide) ⟨by omega, by omega⟩ (fun c27 => ?_) (fun c27 => ?_)
    · refine r_iconst (pc := 49) q dX9_alike_49 ?_
      refine r_zreturn (pc := 50) q rt dX9_alike_50 (by decide) ?_
      exact ⟨Or.inr ⟨rfl, fun z => hn z.1⟩, rfl⟩
    exact absurd rfl c27
  refine r_iload_1 (pc := 0) q dX9_alike_0 ?_
  refine r_if_lt (pc := 1) q 24 dX9_alike_1 (by decide) ⟨by omega, by omega⟩ (fun c1 => ?_) (fun c1 => ?_)
  · refine r_iconst (pc := 24) q dX9_alike_24 ?_
    exact no (by omega)
  refine r_iload_1 (pc := 4) q dX9_alike_4 ?_
  refine r_bipush (pc := 5) q dX9_alike_5 (by decide) ?_
  refine r_icmp_ge (pc := 7) q 24 dX9_alike_7 (by decide) ⟨by omega, by omega⟩ ⟨by omega, by omega⟩ (fun c7 => ?_) (fun c7 => ?_)
  · refine r_iconst (pc := 24) q dX9_alike_24 ?_
    exact no (by omega)
  refine r_iload_2 (pc := 10) q dX9_alike_10 ?_
  refine r_if_lt (pc := 11) q 24 dX9_alike_11 (by decide) ⟨by omega, by omega⟩ (fun c11 => ?_) (fun c11 => ?_)
  · refine r_iconst (pc := 24) q dX9_alike_24 ?_
    exact no (by omega)
  refine r_iload_2 (pc := 14) q dX9_alike_14 ?_
  refine r_bipush (pc := 15) q dX9_alike_15 (by decide) ?_
  refine r_icmp_ge (pc := 17) q 24 dX9_alike_17 (by decide) ⟨by omega, by omega⟩ ⟨by omega, by omega⟩ (fun c17 => ?_) (fun c17 => ?_)
  · refine r_iconst (pc := 24) q dX9_alike_24 ?_
    exact no (by omega)
  refine r_iconst (pc := 20) q dX9_alike_20 ?_
  refine r_goto (pc := 21) (tgt := 25) q dX9_alike_21 (by decide) ?_
  refine r_istore_3 (pc := 25) q dX9_alike_25 rfl ?_
  refine r_iload_3 (pc := 26) q dX9_alike_26 ?_
  refine r_if_eq (pc := 27) q 49 dX9_alike_27 (by decide) ⟨by omega, by omega⟩ (fun c27 => ?_) (fun c27 => ?_)
  · exact absurd c27 (by decide)
  have sa := hs a (by omega) (by omega)
  have sb := hs b (by omega) (by omega)
  refine r_aload_0 (pc := 30) q dX9_alike_30 ?_
  refine r_getr (pc := 31) q fX9_9 (kz := 0) rfl (by decide) rfl hy.o hy.r_groups dX9_alike_31 ?_
  refine r_iload_1 (pc := 34) q dX9_alike_34 ?_
  refine r_iald (pc := 35) q hy.s_groups (by omega) (by omega) dX9_alike_35 ?_
  refine r_aload_0 (pc := 36) q dX9_alike_36 ?_
  refine r_getr (pc := 37) q fX9_9 (kz := 0) rfl (by decide) rfl hy.o hy.r_groups dX9_alike_37 ?_
  refine r_iload_2 (pc := 40) q dX9_alike_40 ?_
  refine r_iald (pc := 41) q hy.s_groups (by omega) (by omega) dX9_alike_41 ?_
  refine r_icmp_ne (pc := 42) q 49 dX9_alike_42 (by decide) ⟨by omega, by omega⟩ ⟨by omega, by omega⟩ (fun c42 => ?_) (fun c42 => ?_)
  · refine r_iconst (pc := 49) q dX9_alike_49 ?_
    refine r_zreturn (pc := 50) q rt dX9_alike_50 (by decide) ?_
    exact ⟨Or.inr ⟨rfl, fun z => c42 z.2⟩, rfl⟩
  refine r_iconst (pc := 45) q dX9_alike_45 ?_
  refine r_goto (pc := 46) (tgt := 50) q dX9_alike_46 (by decide) ?_
  refine r_zreturn (pc := 50) q rt dX9_alike_50 (by decide) ?_
  exact ⟨Or.inl ⟨rfl, by omega, by omega⟩, rfl⟩
theorem c_X9_swapCost {l : Launch} {D : va_G} {aC : Nat → ClassId} {B t sz : Nat} {S : sS} {r : sR} {h : sH} {y : Nat} {a b : Int} (hy : LX9 S r y) (hs : soR (h (y + 1))) (ha : isL a) (hb : isL b) : CtI l yX9_swapCost cX9_swapCost 3 (some .int) 1 23 [.ref y, .int (iI a), .int (iI b)] D aC B t sz S r h (fun z h1 => cs (h (y + 1)) a b = z ∧ h = h1) := by
  unfold CtI
  refine Ct.of (lv := [some (.ref y), some (.int (iI a)), some (.int (iI b))]) (by decide +kernel) rfl (Nat.le_of_ble_eq_true rfl) (fun X hl q rt hnm => ?_)
  unfold isL at ha hb
  refine r_iload_1 (pc := 0) q dX9_swapCost_0 ?_
  refine r_iload_2 (pc := 1) q dX9_swapCost_1 ?_
  refine r_icmp_ne (pc := 2) q 7 dX9_swapCost_2 (by decide) ⟨by omega, by omega⟩ ⟨by omega, by omega⟩ (fun c2 => ?_) (fun c2 => ?_)
  · refine r_aload_0 (pc := 7) q dX9_swapCost_7 ?_
    refine r_iload_1 (pc := 8) q dX9_swapCost_8 ?_
    refine r_bipush (pc := 9) q dX9_swapCost_9 (by decide) ?_
    refine r_isub (pc := 11) q dX9_swapCost_11 ?_
    refine r_iload_2 (pc := 12) q dX9_swapCost_12 ?_
    refine r_bipush (pc := 13) q dX9_swapCost_13 (by decide) ?_
    refine r_isub (pc := 15) q dX9_swapCost_15 ?_
    refine r_cI2 (pc := 16) q (c_X9_alike hy hs ⟨by omega, by omega⟩ ⟨by omega, by omega⟩) mX9_36 hy.o (by decide) (Nat.le_of_ble_eq_true rfl) rfl dX9_swapCost_16 (fun z5 h5 hz5 => ?_)
    obtain ⟨hz5, rfl⟩ := hz5
    refine r_if_eq (pc := 19) q 26 dX9_swapCost_19 (by decide) ⟨by omega, by omega⟩ (fun c19 => ?_) (fun c19 => ?_)
    · refine r_iconst (pc := 26) q dX9_swapCost_26 ?_
      refine r_ireturn (pc := 27) q rt dX9_swapCost_27 ?_
      refine ⟨?_, rfl⟩
      unfold cs
      rcases hz5 with ⟨z, -⟩ | ⟨-, z⟩
      · omega
      · rw [if_neg c2, if_neg (fun e => z ⟨by omega, e⟩)]
    refine r_iconst (pc := 22) q dX9_swapCost_22 ?_
    refine r_goto (pc := 23) (tgt := 27) q dX9_swapCost_23 (by decide) ?_
    refine r_ireturn (pc := 27) q rt dX9_swapCost_27 ?_
    refine ⟨?_, rfl⟩
    unfold cs
    rcases hz5 with ⟨-, -, z⟩ | ⟨z, -⟩
    · rw [if_neg c2, if_pos z]
    · omega
  refine r_iconst (pc := 5) q dX9_swapCost_5 ?_
  refine r_ireturn (pc := 6) q rt dX9_swapCost_6 ?_
  exact ⟨by unfold cs; rw [if_pos (by omega)], rfl⟩
theorem c_X9_join {l : Launch} {D : va_G} {aC : Nat → ClassId} {B t sz : Nat} {S : sS} {r : sR} {h : sH} {y : Nat} {a b : Int} (hy : LX9 S r y) (hs : soR (h (y + 1))) (a0 : 0 ≤ a) (a1 : a ≤ 25) (b0 : 0 ≤ b) (b1 : b ≤ 25) (ne : h (y + 1) a ≠ h (y + 1) b) : CtV l yX9_join cX9_join 6 none 0 0 [.ref y, .int (iI a), .int (iI b)] D aC B t sz S r h (fun h1 => h1 = up h (y + 1) (soF (h (y + 1)) a b 26)) := by
  unfold CtV
  refine Ct.of (lv := [some (.ref y), some (.int (iI a)), some (.int (iI b)), none, none, none]) (by decide +kernel) rfl (Nat.le_of_ble_eq_true rfl) (fun X hl q rt hnm => ?_)
  have sb := hs b (by omega) (by omega)
  have sa := hs a (by omega) (by omega)
  have lp : ∀ (d j : Nat), (j : Int) + d = 26 → ∀ h2 : sH, h2 = up h (y + 1) (soF (h (y + 1)) a b j) → G X 0 0 39 [some (.ref y), some (.int (iI a)), some (.int (iI b)), some (.int (iI (h (y + 1) b))), some (.int (iI (h (y + 1) a))), some (.int (iI j))] [] sz S r h2 := by
    intro d
    induction d with
    | zero =>
      intro j hj h2 e2
      have ej : (j : Int) = 26 := by omega
      rw [ej] at e2 ⊢
      refine r_iload_5 (pc := 39) q dX9_join_39 ?_
      refine r_bipush (pc := 41) q dX9_join_41 (by decide) ?_
      refine r_icmp_ge (pc := 43) q 72 dX9_join_43 (by decide) ⟨by omega, by omega⟩ ⟨by omega, by omega⟩ (fun c43 => ?_) (fun c43 => ?_)
      · refine r_return (pc := 72) q rt dX9_join_72 ?_
        exact e2
      exact absurd (by omega) c43
    | succ d ih =>
      intro j hj h2 e2
      have s1 : h2 (y + 1) = soF (h (y + 1)) a b j := by rw [e2, up_s]
      have s2 : h2 (y + 1) j = h (y + 1) j := by rw [s1]; exact soF_n (Int.le_refl _)
      have sj := hs j (by omega) (by omega)
      refine r_iload_5 (pc := 39) q dX9_join_39 ?_
      refine r_bipush (pc := 41) q dX9_join_41 (by decide) ?_
      refine r_icmp_ge (pc := 43) q 72 dX9_join_43 (by decide) ⟨by omega, by omega⟩ ⟨by omega, by omega⟩ (fun c43 => ?_) (fun c43 => ?_)
      · exact absurd c43 (by omega)
      refine r_aload_0 (pc := 46) q dX9_join_46 ?_
      refine r_getr (pc := 47) q fX9_9 (kz := 0) rfl (by decide) rfl hy.o hy.r_groups dX9_join_47 ?_
      refine r_iload_5 (pc := 50) q dX9_join_50 ?_
      refine r_iald (pc := 52) q hy.s_groups (by omega) (by omega) dX9_join_52 ?_
      rw [s2]
      refine r_iload_3 (pc := 53) q dX9_join_53 ?_
      refine r_icmp_ne (pc := 54) q 66 dX9_join_54 (by decide) ⟨by omega, by omega⟩ ⟨by omega, by omega⟩ (fun c54 => ?_) (fun c54 => ?_)
      · refine r_iinc_5 (pc := 66) q dX9_join_66 rfl ?_
        refine r_goto (pc := 69) (tgt := 39) q dX9_join_69 (by decide) ?_
        refine ih (j + 1) (by omega) h2 ?_
        rw [e2, soF_x c54]; rfl
      refine r_aload_0 (pc := 57) q dX9_join_57 ?_
      refine r_getr (pc := 58) q fX9_9 (kz := 0) rfl (by decide) rfl hy.o hy.r_groups dX9_join_58 ?_
      refine r_iload_5 (pc := 61) q dX9_join_61 ?_
      refine r_iload_4 (pc := 63) q dX9_join_63 ?_
      refine r_iast (pc := 65) q hy.s_groups (by omega) (by omega) dX9_join_65 (fun h3 eh3 => ?_)
      refine r_iinc_5 (pc := 66) q dX9_join_66 rfl ?_
      refine r_goto (pc := 69) (tgt := 39) q dX9_join_69 (by decide) ?_
      refine ih (j + 1) (by omega) h3 ?_
      rw [eh3, s1, e2, up_uu, soF_y (by omega) (by omega)]; rfl
  refine r_iload_1 (pc := 0) q dX9_join_0 ?_
  refine r_if_lt (pc := 1) q 20 dX9_join_1 (by decide) ⟨by omega, by omega⟩ (fun c1 => ?_) (fun c1 => ?_)
  · exact absurd c1 (by omega)
  refine r_iload_1 (pc := 4) q dX9_join_4 ?_
  refine r_bipush (pc := 5) q dX9_join_5 (by decide) ?_
  refine r_icmp_ge (pc := 7) q 20 dX9_join_7 (by decide) ⟨by omega, by omega⟩ ⟨by omega, by omega⟩ (fun c7 => ?_) (fun c7 => ?_)
  · exact absurd c7 (by omega)
  refine r_iload_2 (pc := 10) q dX9_join_10 ?_
  refine r_if_lt (pc := 11) q 20 dX9_join_11 (by decide) ⟨by omega, by omega⟩ (fun c11 => ?_) (fun c11 => ?_)
  · exact absurd c11 (by omega)
  refine r_iload_2 (pc := 14) q dX9_join_14 ?_
  refine r_bipush (pc := 15) q dX9_join_15 (by decide) ?_
  refine r_icmp_lt (pc := 17) q 21 dX9_join_17 (by decide) ⟨by omega, by omega⟩ ⟨by omega, by omega⟩ (fun c17 => ?_) (fun c17 => ?_)
  · refine r_aload_0 (pc := 21) q dX9_join_21 ?_
    refine r_getr (pc := 22) q fX9_9 (kz := 0) rfl (by decide) rfl hy.o hy.r_groups dX9_join_22 ?_
    refine r_iload_2 (pc := 25) q dX9_join_25 ?_
    refine r_iald (pc := 26) q hy.s_groups (by omega) (by omega) dX9_join_26 ?_
    refine r_istore_3 (pc := 27) q dX9_join_27 rfl ?_
    refine r_aload_0 (pc := 28) q dX9_join_28 ?_
    refine r_getr (pc := 29) q fX9_9 (kz := 0) rfl (by decide) rfl hy.o hy.r_groups dX9_join_29 ?_
    refine r_iload_1 (pc := 32) q dX9_join_32 ?_
    refine r_iald (pc := 33) q hy.s_groups (by omega) (by omega) dX9_join_33 ?_
    refine r_istore_4 (pc := 34) q dX9_join_34 rfl ?_
    refine r_iconst (pc := 36) q dX9_join_36 ?_
    refine r_istore_5 (pc := 37) q dX9_join_37 rfl ?_
    refine lp 26 0 (by omega) h ?_
    have : soF (h (y + 1)) a b ((0 : Nat) : Int) = h (y + 1) := by
      funext k; unfold soF; rw [if_neg (by omega)]
    rw [this, up_id]
  exact absurd (by omega) c17
theorem c_X9_distance {l : Launch} {D : va_G} {aC : Nat → ClassId} {B t sz : Nat} {S : sS} {r : sR} {h : sH} {y p q2 : Nat} {g f : Int → Int} {n k : Int} (hy : LX9 S r y) (hp : LX3 S r p) (hq : LX3 S r q2) (hs : soR (h (y + 1))) (hg : nmC h p g n) (hf : nmC h q2 f k) : CtI l yX9_distance cX9_distance 7 (some .int) 2 45 [.ref y, .ref p, .ref q2] D aC B t sz S r h (fun z h1 => z = dst (h (y + 1)) g n f k ∧ ∀ a : Nat, a ≠ y + 2 → h1 a = h a) := by
  unfold CtI
  refine Ct.of (lv := [some (.ref y), some (.ref p), some (.ref q2), none, none, none, none]) (by decide +kernel) rfl (Nat.le_of_ble_eq_true rfl) (fun X hl q rt hnm => ?_)
  have np0 : p ≠ y + 2 := sNe hp.o hy.s_row (by decide)
  have np1 : p + 1 ≠ y + 2 := sNe hp.s_letters hy.s_row (by decide)
  have nq0 : q2 ≠ y + 2 := sNe hq.o hy.s_row (by decide)
  have nq1 : q2 + 1 ≠ y + 2 := sNe hq.s_letters hy.s_row (by decide)
  obtain ⟨e1, ⟨n0, n8⟩, hb⟩ := id hg
  obtain ⟨e2, ⟨k0, k8⟩, hc⟩ := id hf
  obtain ⟨c, hcc⟩ : ∃ c : Int → Int → Int, (fun a b => cs (h (y + 1)) (g a) (f b)) = c := ⟨_, rfl⟩
  have cnn : ∀ i j : Int, 0 ≤ c i j := fun i j => by rw [← hcc]; exact (cs_in _ _ _).1
  have out : ∀ (i : Nat), (i : Int) = n → ∀ (h2 : sH) (o4 o5 o6 : Option Value), (∀ a : Nat, a ≠ y + 2 → h2 a = h a) → (∀ x : Nat, (x : Int) ≤ k → h2 (y + 2) x = DD c i x) → G X 0 0 143 [some (.ref y), some (.ref p), some (.ref q2), some (.int (iI i)), o4, o5, o6] [] sz S r h2 := by
    intro i hi h2 o4 o5 o6 fr hx
    have s2 : h2 q2 1 = k := by rw [fr q2 nq0]; exact e2
    refine r_aload_0 (pc := 143) q dX9_distance_143 ?_
    refine r_getr (pc := 144) q fX9_15 (kz := 1) rfl (by decide) rfl hy.o hy.r_row dX9_distance_144 ?_
    refine r_aload_2 (pc := 147) q dX9_distance_147 ?_
    refine r_geti (pc := 148) q fX9_18 (kz := 1) rfl (by decide) rfl hq.o dX9_distance_148 ?_
    rw [s2]
    refine r_iald (pc := 151) q hy.s_row (by omega) (by omega) dX9_distance_151 ?_
    refine r_ireturn (pc := 152) q rt dX9_distance_152 ?_
    refine ⟨?_, fr⟩
    have := hx k.toNat (by omega)
    rw [show ((k.toNat : Nat) : Int) = k by omega] at this
    rw [this]
    unfold dst
    rw [hcc, show n.toNat = i by omega]
  have outer : ∀ (d i : Nat), (i : Int) + d = n → ∀ (h2 : sH) (o4 o5 o6 : Option Value), noL o4 = true → noL o5 = true → (∀ a : Nat, a ≠ y + 2 → h2 a = h a) → (∀ x : Nat, (x : Int) ≤ k → h2 (y + 2) x = DD c i x) → G X 0 0 27 [some (.ref y), some (.ref p), some (.ref q2), some (.int (iI i)), o4, o5, o6] [] sz S r h2 := by
    intro d
    induction d with
    | zero =>
      intro i hi h2 o4 o5 o6 n4 n5 fr hx
      have s1 : h2 p 1 = n := by rw [fr p np0]; exact e1
      refine r_iload_3 (pc := 27) q dX9_distance_27 ?_
      refine r_aload_1 (pc := 28) q dX9_distance_28 ?_
      refine r_geti (pc := 29) q fX9_18 (kz := 1) rfl (by decide) rfl hp.o dX9_distance_29 ?_
      rw [s1]
      refine r_icmp_ge (pc := 32) q 143 dX9_distance_32 (by decide) ⟨by omega, by omega⟩ ⟨by omega, by omega⟩ (fun c32 => ?_) (fun c32 => ?_)
      · exact out i (by omega) h2 _ _ _ fr hx
      exact absurd (by omega) c32
    | succ d ih =>
      intro i hi h2 o4 o5 o6 n4 n5 fr hx
      have s1 : h2 p 1 = n := by rw [fr p np0]; exact e1
      have hgi := hb i (by omega) (by omega)
      have inner : ∀ (e j : Nat), (j : Int) + e = k + 1 → 1 ≤ j → ∀ (h3 : sH) (o6 : Option Value), (∀ a : Nat, a ≠ y + 2 → h3 a = h a) → (∀ x : Nat, x < j → h3 (y + 2) x = DD c (i + 1) x) → (∀ x : Nat, j ≤ x → (x : Int) ≤ k → h3 (y + 2) x = DD c i x) → G X 0 0 56 [some (.ref y), some (.ref p), some (.ref q2), some (.int (iI i)), some (.int (iI (DD c i (j - 1)))), some (.int (iI j)), o6] [] sz S r h3 := by
        intro e
        induction e with
        | zero =>
          intro j hj j1 h3 o6 fr3 hx1 hx2
          have s2 : h3 q2 1 = k := by rw [fr3 q2 nq0]; exact e2
          refine r_iload_5 (pc := 56) q dX9_distance_56 ?_
          refine r_aload_2 (pc := 58) q dX9_distance_58 ?_
          refine r_geti (pc := 59) q fX9_18 (kz := 1) rfl (by decide) rfl hq.o dX9_distance_59 ?_
          rw [s2]
          refine r_icmp_gt (pc := 62) q 137 dX9_distance_62 (by decide) ⟨by omega, by omega⟩ ⟨by omega, by omega⟩ (fun c62 => ?_) (fun c62 => ?_)
          · refine r_iinc_3 (pc := 137) q dX9_distance_137 rfl ?_
            refine r_goto (pc := 140) (tgt := 27) q dX9_distance_140 (by decide) ?_
            exact ih (i + 1) (by omega) h3 _ _ _ rfl rfl fr3 (fun x xk => hx1 x (by omega))
          exact absurd (by omega) c62
        | succ e ih2 =>
          intro j hj j1 h3 o6 fr3 hx1 hx2
          have s2 : h3 q2 1 = k := by rw [fr3 q2 nq0]; exact e2
          have hfj := hc ((j : Int) - 1) (by omega) (by omega)
          have sp : h3 (p + 1) i = g i := by rw [fr3 _ np1]; exact hgi.1
          have sq : h3 (q2 + 1) ((j : Int) - 1) = f ((j : Int) - 1) := by rw [fr3 _ nq1]; exact hfj.1
          have sg : h3 (y + 1) = h (y + 1) := fr3 _ (by omega)
          have hc2 : cs (h3 (y + 1)) (g i) (f ((j : Int) - 1)) = c i ((j : Int) - 1) := by rw [sg, ← hcc]
          have cb : 0 ≤ c i ((j : Int) - 1) ∧ c i ((j : Int) - 1) ≤ 3 := by rw [← hc2]; exact cs_in _ _ _
          have d1 := DD_le c i (j - 1)
          have d2 := DD_nn cnn i (j - 1)
          have d3 := DD_le c i j
          have d4 := DD_nn cnn i j
          have d5 := DD_le c (i + 1) (j - 1)
          have d6 := DD_nn cnn (i + 1) (j - 1)
          have rj : h3 (y + 2) j = DD c i j := hx2 j (by omega) (by omega)
          have rj1 : h3 (y + 2) ((j : Int) - 1) = DD c (i + 1) (j - 1) := by
            have := hx1 (j - 1) (by omega)
            rw [show (((j - 1 : Nat)) : Int) = (j : Int) - 1 by omega] at this
            exact this
          have hs3 : soR (h3 (y + 1)) := by rw [sg]; exact hs
          have ds := DD_ss c i (j - 1)
          rw [show j - 1 + 1 = j by omega, show ((j - 1 : Nat) : Int) = (j : Int) - 1 by omega] at ds
          refine r_iload_5 (pc := 56) q dX9_distance_56 ?_
          refine r_aload_2 (pc := 58) q dX9_distance_58 ?_
          refine r_geti (pc := 59) q fX9_18 (kz := 1) rfl (by decide) rfl hq.o dX9_distance_59 ?_
          rw [s2]
          refine r_icmp_gt (pc := 62) q 137 dX9_distance_62 (by decide) ⟨by omega, by omega⟩ ⟨by omega, by omega⟩ (fun c62 => ?_) (fun c62 => ?_)
          · exact absurd c62 (by omega)
          refine r_iload_4 (pc := 65) q dX9_distance_65 ?_
          refine r_aload_0 (pc := 67) q dX9_distance_67 ?_
          refine r_aload_1 (pc := 68) q dX9_distance_68 ?_
          refine r_getr (pc := 69) q fX9_24 (kz := 0) rfl (by decide) rfl hp.o hp.r_letters dX9_distance_69 ?_
          refine r_iload_3 (pc := 72) q dX9_distance_72 ?_
          refine r_iald (pc := 73) q hp.s_letters (by omega) (by omega) dX9_distance_73 ?_
          rw [sp]
          refine r_aload_2 (pc := 74) q dX9_distance_74 ?_
          refine r_getr (pc := 75) q fX9_24 (kz := 0) rfl (by decide) rfl hq.o hq.r_letters dX9_distance_75 ?_
          refine r_iload_5 (pc := 78) q dX9_distance_78 ?_
          refine r_iconst (pc := 80) q dX9_distance_80 ?_
          refine r_isub (pc := 81) q dX9_distance_81 ?_
          refine r_iald (pc := 82) q hq.s_letters (by omega) (by omega) dX9_distance_82 ?_
          rw [sq]
          refine r_cI2 (pc := 83) q (c_X9_swapCost hy hs3 hgi.2 hfj.2) mX9_27 hy.o (by decide) (Nat.le_of_ble_eq_true rfl) rfl dX9_distance_83 (fun z1 h1 hz1 => ?_)
          obtain ⟨rfl, rfl⟩ := hz1
          rw [hc2]
          refine r_iadd (pc := 86) q dX9_distance_86 ?_
          refine r_istore_6 (pc := 87) q dX9_distance_87 rfl ?_
          refine r_aload_0 (pc := 89) q dX9_distance_89 ?_
          refine r_getr (pc := 90) q fX9_15 (kz := 1) rfl (by decide) rfl hy.o hy.r_row dX9_distance_90 ?_
          refine r_iload_5 (pc := 93) q dX9_distance_93 ?_
          refine r_iald (pc := 95) q hy.s_row (by omega) (by omega) dX9_distance_95 ?_
          rw [rj]
          refine r_istore_4 (pc := 96) q dX9_distance_96 rfl ?_
          refine r_aload_0 (pc := 98) q dX9_distance_98 ?_
          refine r_getr (pc := 99) q fX9_15 (kz := 1) rfl (by decide) rfl hy.o hy.r_row dX9_distance_99 ?_
          refine r_iload_5 (pc := 102) q dX9_distance_102 ?_
          refine r_iload_6 (pc := 104) q dX9_distance_104 ?_
          refine r_iconst (pc := 106) q dX9_distance_106 ?_
          refine r_aload_0 (pc := 107) q dX9_distance_107 ?_
          refine r_getr (pc := 108) q fX9_15 (kz := 1) rfl (by decide) rfl hy.o hy.r_row dX9_distance_108 ?_
          refine r_iload_5 (pc := 111) q dX9_distance_111 ?_
          refine r_iald (pc := 113) q hy.s_row (by omega) (by omega) dX9_distance_113 ?_
          rw [rj]
          refine r_aload_0 (pc := 114) q dX9_distance_114 ?_
          refine r_getr (pc := 115) q fX9_15 (kz := 1) rfl (by decide) rfl hy.o hy.r_row dX9_distance_115 ?_
          refine r_iload_5 (pc := 118) q dX9_distance_118 ?_
          refine r_iconst (pc := 120) q dX9_distance_120 ?_
          refine r_isub (pc := 121) q dX9_distance_121 ?_
          refine r_iald (pc := 122) q hy.s_row (by omega) (by omega) dX9_distance_122 ?_
          rw [rj1]
          refine r_min (pc := 123) q mX9_31 ⟨by omega, by omega⟩ ⟨by omega, by omega⟩ ⟨Nat.le_of_ble_eq_true rfl, Nat.le_of_ble_eq_true rfl, Nat.le_of_ble_eq_true rfl, Nat.le_of_ble_eq_true rfl⟩ rfl dX9_distance_123 ?_
          refine r_iadd (pc := 126) q dX9_distance_126 ?_
          refine r_min (pc := 127) q mX9_31 ⟨by omega, by omega⟩ ⟨by omega, by omega⟩ ⟨Nat.le_of_ble_eq_true rfl, Nat.le_of_ble_eq_true rfl, Nat.le_of_ble_eq_true rfl, Nat.le_of_ble_eq_true rfl⟩ rfl dX9_distance_127 ?_
          refine r_iast (pc := 130) q hy.s_row (by omega) (by omega) dX9_distance_130 (fun h4 eh4 => ?_)
          refine r_iinc_5 (pc := 131) q dX9_distance_131 rfl ?_
          refine r_goto (pc := 134) (tgt := 56) q dX9_distance_134 (by decide) ?_
          have e4 : h4 (y + 2) = up (h3 (y + 2)) j (min (DD c i (j - 1) + c i ((j : Int) - 1)) (2 + min (DD c i j) (DD c (i + 1) (j - 1)))) := by rw [eh4, up_s]
          refine ih2 (j + 1) (by omega) (by omega) h4 _ (fun a a0 => by rw [eh4, up_n _ _ a0]; exact fr3 a a0) (fun x x0 => ?_) (fun x x0 x1 => ?_)
          · rw [e4]
            by_cases ex : x = j
            · subst ex; rw [up_s, ds]; omega
            · rw [up_n _ _ (by omega)]; exact hx1 x (by omega)
          · rw [e4, up_n _ _ (by omega)]; exact hx2 x (by omega) x1
      have r0 : h2 (y + 2) 0 = DD c i 0 := hx 0 (by omega)
      refine r_iload_3 (pc := 27) q dX9_distance_27 ?_
      refine r_aload_1 (pc := 28) q dX9_distance_28 ?_
      refine r_geti (pc := 29) q fX9_18 (kz := 1) rfl (by decide) rfl hp.o dX9_distance_29 ?_
      rw [s1]
      refine r_icmp_ge (pc := 32) q 143 dX9_distance_32 (by decide) ⟨by omega, by omega⟩ ⟨by omega, by omega⟩ (fun c32 => ?_) (fun c32 => ?_)
      · exact absurd c32 (by omega)
      refine r_aload_0 (pc := 35) q dX9_distance_35 ?_
      refine r_getr (pc := 36) q fX9_15 (kz := 1) rfl (by decide) rfl hy.o hy.r_row dX9_distance_36 ?_
      refine r_iconst (pc := 39) q dX9_distance_39 ?_
      refine r_iald (pc := 40) q hy.s_row (by omega) (by omega) dX9_distance_40 ?_
      rw [r0]
      refine r_istore_4 (pc := 41) q dX9_distance_41 rfl ?_
      refine r_aload_0 (pc := 43) q dX9_distance_43 ?_
      refine r_getr (pc := 44) q fX9_15 (kz := 1) rfl (by decide) rfl hy.o hy.r_row dX9_distance_44 ?_
      refine r_iconst (pc := 47) q dX9_distance_47 ?_
      refine r_dup2 (pc := 48) q dX9_distance_48 rfl rfl ?_
      refine r_iald (pc := 49) q hy.s_row (by omega) (by omega) dX9_distance_49 ?_
      rw [r0]
      refine r_iconst (pc := 50) q dX9_distance_50 ?_
      refine r_iadd (pc := 51) q dX9_distance_51 ?_
      refine r_iast (pc := 52) q hy.s_row (by omega) (by omega) dX9_distance_52 (fun h3 eh3 => ?_)
      refine r_iconst (pc := 53) q dX9_distance_53 ?_
      refine r_istore_5 (pc := 54) q dX9_distance_54 rfl ?_
      have e3 : h3 (y + 2) = up (h2 (y + 2)) 0 (DD c i 0 + 2) := by rw [eh3, up_s]
      refine inner k.toNat 1 (by omega) (by omega) h3 _ (fun a a0 => by rw [eh3, up_n _ _ a0]; exact fr a a0) (fun x x0 => ?_) (fun x x0 x1 => ?_)
      · rw [show x = 0 by omega, e3]; exact up_s _ _ _
      · rw [e3, up_n _ _ (by omega)]; exact hx x x1
  have init : ∀ (d j : Nat), (j : Int) + d = k + 1 → ∀ h2 : sH, (∀ a : Nat, a ≠ y + 2 → h2 a = h a) → (∀ x : Nat, x < j → h2 (y + 2) x = DD c 0 x) → G X 0 0 2 [some (.ref y), some (.ref p), some (.ref q2), some (.int (iI j)), none, none, none] [] sz S r h2 := by
    intro d
    induction d with
    | zero =>
      intro j hj h2 fr hx
      have s2 : h2 q2 1 = k := by rw [fr q2 nq0]; exact e2
      refine r_iload_3 (pc := 2) q dX9_distance_2 ?_
      refine r_aload_2 (pc := 3) q dX9_distance_3 ?_
      refine r_geti (pc := 4) q fX9_18 (kz := 1) rfl (by decide) rfl hq.o dX9_distance_4 ?_
      rw [s2]
      refine r_icmp_gt (pc := 7) q 25 dX9_distance_7 (by decide) ⟨by omega, by omega⟩ ⟨by omega, by omega⟩ (fun c7 => ?_) (fun c7 => ?_)
      · refine r_iconst (pc := 25) q dX9_distance_25 ?_
        refine r_istore_3 (pc := 26) q dX9_distance_26 rfl ?_
        exact outer n.toNat 0 (by omega) h2 _ _ _ rfl rfl fr (fun x x0 => hx x (by omega))
      exact absurd (by omega) c7
    | succ d ih =>
      intro j hj h2 fr hx
      have s2 : h2 q2 1 = k := by rw [fr q2 nq0]; exact e2
      refine r_iload_3 (pc := 2) q dX9_distance_2 ?_
      refine r_aload_2 (pc := 3) q dX9_distance_3 ?_
      refine r_geti (pc := 4) q fX9_18 (kz := 1) rfl (by decide) rfl hq.o dX9_distance_4 ?_
      rw [s2]
      refine r_icmp_gt (pc := 7) q 25 dX9_distance_7 (by decide) ⟨by omega, by omega⟩ ⟨by omega, by omega⟩ (fun c7 => ?_) (fun c7 => ?_)
      · exact absurd c7 (by omega)
      refine r_aload_0 (pc := 10) q dX9_distance_10 ?_
      refine r_getr (pc := 11) q fX9_15 (kz := 1) rfl (by decide) rfl hy.o hy.r_row dX9_distance_11 ?_
      refine r_iload_3 (pc := 14) q dX9_distance_14 ?_
      refine r_iconst (pc := 15) q dX9_distance_15 ?_
      refine r_iload_3 (pc := 16) q dX9_distance_16 ?_
      refine r_imul (pc := 17) q dX9_distance_17 ?_
      refine r_iast (pc := 18) q hy.s_row (by omega) (by omega) dX9_distance_18 (fun h3 eh3 => ?_)
      refine r_iinc_3 (pc := 19) q dX9_distance_19 rfl ?_
      refine r_goto (pc := 22) (tgt := 2) q dX9_distance_22 (by decide) ?_
      refine ih (j + 1) (by omega) h3 (fun a a0 => by rw [eh3, up_n _ _ a0]; exact fr a a0) (fun x x0 => ?_)
      rw [eh3, up_s]
      by_cases ex : x = j
      · subst ex; rw [up_s, DD_0]
      · rw [up_n _ _ (by omega)]; exact hx x (by omega)
  refine r_iconst (pc := 0) q dX9_distance_0 ?_
  refine r_istore_3 (pc := 1) q dX9_distance_1 rfl ?_
  exact init (k + 1).toNat 0 (by omega) h (fun _ _ => rfl) (fun x x0 => by omega)
