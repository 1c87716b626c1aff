theorem c_X4_take {l : Launch} {D : va_G} {aC : Nat → ClassId} {B t sz : Nat} {S : sS} {r : sR} {h : sH} {x tt : Nat} {i L T : Int} {b : Int → Int} (hx : LX4 S r x) (hT : LX10 S r tt) (ht : tpI h tt b T) (i0 : 0 ≤ i) (L1 : 1 ≤ L) (iL : i + L ≤ T) : CtI l yX4_take cX4_take 5 (some .boolean) 1 20 [.ref x, .ref tt, .int (iI i), .int (iI L)] D aC B t sz S r h (fun z h1 => (∀ a : Nat, a ≠ x → a ≠ x + 1 → h1 a = h a) ∧ ((z = 1 ∧ sgN b i L ∧ h1 x = up (h x) 1 L ∧ ∀ j : Int, 0 ≤ j → j < L → h1 (x + 1) j = signC (b (i + j))) ∨ (z = 0 ∧ ¬ sgN b i L))) := by
  unfold CtI
  refine Ct.of (lv := [some (.ref x), some (.ref tt), some (.int (iI i)), some (.int (iI L)), none]) (by decide +kernel) rfl (Nat.le_of_ble_eq_true rfl) (fun X hl q rt hnm => ?_)
  have n1 : tt ≠ x := sNe hT.o hx.o (by decide)
  have n2 : tt ≠ x + 1 := sNe hT.o hx.s_signs (by decide)
  have n3 : tt + 1 ≠ x := sNe hT.s_bytes hx.o (by decide)
  have n4 : tt + 1 ≠ x + 1 := sNe hT.s_bytes hx.s_signs (by decide)
  obtain ⟨e1, ⟨T0, T1⟩, hb, -⟩ := ht
  have lp : L ≤ 8 → ∀ (d j : Nat), (j : Int) + d = L → ∀ h2 : sH, (∀ a : Nat, a ≠ x → a ≠ x + 1 → h2 a = h a) → h2 x = up (h x) 1 j → (∀ y : Int, 0 ≤ y → y < j → h2 (x + 1) y = signC (b (i + y))) → (∀ y : Int, 0 ≤ y → y + 1 < j → signC (b (i + y + 1)) ≤ signC (b (i + y))) → G X 0 0 21 [some (.ref x), some (.ref tt), some (.int (iI i)), some (.int (iI L)), some (.int (iI (i + j)))] [] sz S r h2 := by
    intro L8 d
    induction d with
    | zero =>
      intro j hj h2 f1 f2 f3 f4
      have ej : (j : Int) = L := by omega
      rw [ej] at f2 f3 f4 ⊢
      refine r_iload_4 (pc := 21) q dX4_take_21 ?_
      refine r_iload_2 (pc := 23) q dX4_take_23 ?_
      refine r_iload_3 (pc := 24) q dX4_take_24 ?_
      refine r_iadd (pc := 25) q dX4_take_25 ?_
      refine r_icmp_ge (pc := 26) q 124 dX4_take_26 (by decide) ⟨by omega, by omega⟩ ⟨by omega, by omega⟩ (fun c26 => ?_) (fun c26 => ?_)
      · refine r_iconst (pc := 124) q dX4_take_124 ?_
        refine r_zreturn (pc := 125) q rt dX4_take_125 (by decide) ?_
        exact ⟨f1, Or.inl ⟨rfl, ⟨L8, f4⟩, f2, f3⟩⟩
      exact absurd (by omega) c26
    | succ d ih =>
      intro j hj h2 f1 f2 f3 f4
      have s1 : h2 x 1 = j := by rw [f2, up_s]
      have s2 : h2 tt 1 = T := by rw [f1 tt n1 n2]; exact e1
      have hbj := hb (i + j) (by omega) (by omega)
      have s3 : h2 (tt + 1) (i + j) = b (i + j) := by rw [f1 _ n3 n4]; exact hbj.1
      have sb := signC_in (b (i + j))
      have nx : ∀ h3 : sH, h3 = up h2 (x + 1) (up (h2 (x + 1)) j (signC (b (i + j)))) → (∀ y : Int, 0 ≤ y → y + 1 < (j + 1 : Nat) → signC (b (i + y + 1)) ≤ signC (b (i + y))) → G X 0 0 108 [some (.ref x), some (.ref tt), some (.int (iI i)), some (.int (iI L)), some (.int (iI (i + j)))] [] sz S r h3 := by
        intro h3 eh3 mono
        have s1' : h3 x 1 = j := by rw [eh3, up_n _ _ (by omega)]; exact s1
        refine r_aload_0 (pc := 108) q dX4_take_108 ?_
        refine r_dup (pc := 109) q dX4_take_109 rfl ?_
        refine r_geti (pc := 110) q fX4_15 (kz := 1) rfl (by decide) rfl hx.o dX4_take_110 ?_
        rw [s1']
        refine r_iconst (pc := 113) q dX4_take_113 ?_
        refine r_iadd (pc := 114) q dX4_take_114 ?_
        refine r_puti (pc := 115) q fX4_15 (kz := 1) rfl (by decide) rfl hx.o dX4_take_115 (fun h4 eh4 => ?_)
        refine r_iinc_4 (pc := 118) q dX4_take_118 rfl ?_
        refine r_goto (pc := 121) (tgt := 21) q dX4_take_121 (by decide) ?_
        have e41 : h4 (x + 1) = up (h2 (x + 1)) j (signC (b (i + j))) := by rw [eh4, up_n _ _ (by omega), eh3, up_s]
        have q3 := ih (j + 1) (by omega) h4 (fun a a0 a1 => by rw [eh4, up_n _ _ a0, eh3, up_n _ _ a1]; exact f1 a a0 a1) (by
          rw [eh4, up_s, eh3, up_n _ _ (by omega), f2, up_uu]
          congr 1) (fun y y0 y1 => by
          rw [e41]
          by_cases ey : y = j
          · rw [ey, up_s]
          · rw [up_n _ _ ey]; exact f3 y y0 (by omega)) mono
        rw [show i + ((j + 1 : Nat) : Int) = i + j + 1 by omega] at q3
        exact q3
      refine r_iload_4 (pc := 21) q dX4_take_21 ?_
      refine r_iload_2 (pc := 23) q dX4_take_23 ?_
      refine r_iload_3 (pc := 24) q dX4_take_24 ?_
      refine r_iadd (pc := 25) q dX4_take_25 ?_
      refine r_icmp_ge (pc := 26) q 124 dX4_take_26 (by decide) ⟨by omega, by omega⟩ ⟨by omega, by omega⟩ (fun c26 => ?_) (fun c26 => ?_)
      · exact absurd c26 (by omega)
      refine r_iload_4 (pc := 29) q dX4_take_29 ?_
      refine r_if_lt (pc := 31) q 55 dX4_take_31 (by decide) ⟨by omega, by omega⟩ (fun c31 => ?_) (fun c31 => ?_)
      · exact absurd c31 (by omega)
      refine r_iload_4 (pc := 34) q dX4_take_34 ?_
      refine r_aload_1 (pc := 36) q dX4_take_36 ?_
      refine r_geti (pc := 37) q fX4_19 (kz := 1) rfl (by decide) rfl hT.o dX4_take_37 ?_
      rw [s2]
      refine r_icmp_ge (pc := 40) q 55 dX4_take_40 (by decide) ⟨by omega, by omega⟩ ⟨by omega, by omega⟩ (fun c40 => ?_) (fun c40 => ?_)
      · exact absurd c40 (by omega)
      refine r_aload_0 (pc := 43) q dX4_take_43 ?_
      refine r_geti (pc := 44) q fX4_15 (kz := 1) rfl (by decide) rfl hx.o dX4_take_44 ?_
      rw [s1]
      refine r_aload_0 (pc := 47) q dX4_take_47 ?_
      refine r_getr (pc := 48) q fX4_9 (kz := 0) rfl (by decide) rfl hx.o hx.r_signs dX4_take_48 ?_
      refine r_alen20 (pc := 51) q hx.s_signs dX4_take_51 ?_
      refine r_icmp_lt (pc := 52) q 57 dX4_take_52 (by decide) ⟨by omega, by omega⟩ ⟨by omega, by omega⟩ (fun c52 => ?_) (fun c52 => ?_)
      · refine r_aload_0 (pc := 57) q dX4_take_57 ?_
        refine r_getr (pc := 58) q fX4_9 (kz := 0) rfl (by decide) rfl hx.o hx.r_signs dX4_take_58 ?_
        refine r_aload_0 (pc := 61) q dX4_take_61 ?_
        refine r_geti (pc := 62) q fX4_15 (kz := 1) rfl (by decide) rfl hx.o dX4_take_62 ?_
        rw [s1]
        refine r_aload_1 (pc := 65) q dX4_take_65 ?_
        refine r_getr (pc := 66) q fX4_22 (kz := 0) rfl (by decide) rfl hT.o hT.r_bytes dX4_take_66 ?_
        refine r_iload_4 (pc := 69) q dX4_take_69 ?_
        refine r_iald (pc := 71) q hT.s_bytes (by omega) (by omega) dX4_take_71 ?_
        rw [s3]
        refine r_sI1 (pc := 72) q (c_X10_signOf (by first | assumption | exact ⟨by omega, by omega⟩ | omega)) mX4_25 (by decide) (Nat.le_of_ble_eq_true rfl) rfl dX4_take_72 (fun z1 h1 hz1 => ?_)
        obtain ⟨rfl, rfl⟩ := hz1
        refine r_iast (pc := 75) q hx.s_signs (by omega) (by omega) dX4_take_75 (fun h3 eh3 => ?_)
        have s1' : h3 x 1 = j := by rw [eh3, up_n _ _ (by omega)]; exact s1
        have s5 : h3 (x + 1) j = signC (b (i + j)) := by rw [eh3, up_s, up_s]
        refine r_aload_0 (pc := 76) q dX4_take_76 ?_
        refine r_geti (pc := 77) q fX4_15 (kz := 1) rfl (by decide) rfl hx.o dX4_take_77 ?_
        rw [s1']
        refine r_if_le (pc := 80) q 108 dX4_take_80 (by decide) ⟨by omega, by omega⟩ (fun c80 => ?_) (fun c80 => ?_)
        · exact nx h3 eh3 (fun y y0 y1 => by omega)
        refine r_aload_0 (pc := 83) q dX4_take_83 ?_
        refine r_getr (pc := 84) q fX4_9 (kz := 0) rfl (by decide) rfl hx.o hx.r_signs dX4_take_84 ?_
        refine r_aload_0 (pc := 87) q dX4_take_87 ?_
        refine r_geti (pc := 88) q fX4_15 (kz := 1) rfl (by decide) rfl hx.o dX4_take_88 ?_
        rw [s1']
        refine r_iald (pc := 91) q hx.s_signs (by omega) (by omega) dX4_take_91 ?_
        rw [s5]
        refine r_aload_0 (pc := 92) q dX4_take_92 ?_
        refine r_getr (pc := 93) q fX4_9 (kz := 0) rfl (by decide) rfl hx.o hx.r_signs dX4_take_93 ?_
        refine r_aload_0 (pc := 96) q dX4_take_96 ?_
        refine r_geti (pc := 97) q fX4_15 (kz := 1) rfl (by decide) rfl hx.o dX4_take_97 ?_
        rw [s1']
        refine r_iconst (pc := 100) q dX4_take_100 ?_
        refine r_isub (pc := 101) q dX4_take_101 ?_
        refine r_iald (pc := 102) q hx.s_signs (by omega) (by omega) dX4_take_102 ?_
        have s6 : h3 (x + 1) ((j : Int) - 1) = signC (b (i + ((j : Int) - 1))) := by rw [eh3, up_s, up_n _ _ (by omega)]; exact f3 _ (by omega) (by omega)
        rw [s6]
        have sb2 := signC_in (b (i + ((j : Int) - 1)))
        refine r_icmp_le (pc := 103) q 108 dX4_take_103 (by decide) ⟨by omega, by omega⟩ ⟨by omega, by omega⟩ (fun c103 => ?_) (fun c103 => ?_)
        · refine nx h3 eh3 (fun y y0 y1 => ?_)
          by_cases ey : y + 1 = j
          · rw [show y = (j : Int) - 1 by omega, show i + ((j : Int) - 1) + 1 = i + j by omega]; exact c103
          · exact f4 y y0 (by omega)
        refine r_iconst (pc := 106) q dX4_take_106 ?_
        refine r_zreturn (pc := 107) q rt dX4_take_107 (by decide) ?_
        refine ⟨fun a a0 a1 => by rw [eh3, up_n _ _ a1]; exact f1 a a0 a1, Or.inr ⟨rfl, fun z => ?_⟩⟩
        have y := z.2 ((j : Int) - 1) (by omega) (by omega)
        rw [show i + ((j : Int) - 1) + 1 = i + j by omega] at y
        omega
      exact absurd (by omega) c52
  refine r_aload_0 (pc := 0) q dX4_take_0 ?_
  refine r_iconst (pc := 1) q dX4_take_1 ?_
  refine r_puti (pc := 2) q fX4_15 (kz := 1) rfl (by decide) rfl hx.o dX4_take_2 (fun h1 eh1 => ?_)
  refine r_iload_3 (pc := 5) q dX4_take_5 ?_
  refine r_iconst (pc := 6) q dX4_take_6 ?_
  refine r_icmp_lt (pc := 7) q 16 dX4_take_7 (by decide) ⟨by omega, by omega⟩ ⟨by omega, by omega⟩ (fun c7 => ?_) (fun c7 => ?_)
  · exact absurd c7 (by omega)
  refine r_iload_3 (pc := 10) q dX4_take_10 ?_
  refine r_bipush (pc := 11) q dX4_take_11 (by decide) ?_
  refine r_icmp_le (pc := 13) q 18 dX4_take_13 (by decide) ⟨by omega, by omega⟩ ⟨by omega, by omega⟩ (fun c13 => ?_) (fun c13 => ?_)
  · refine r_iload_2 (pc := 18) q dX4_take_18 ?_
    refine r_istore_4 (pc := 19) q dX4_take_19 rfl ?_
    have q3 := lp (by omega) L.toNat 0 (by omega) h1 (fun a a0 a1 => by rw [eh1, up_n _ _ a0]) (by rw [eh1, up_s]; rfl) (fun y y0 y1 => by omega) (fun y y0 y1 => by omega)
    rw [show i + ((0 : Nat) : Int) = i by omega] at q3
    exact q3
  refine r_iconst (pc := 16) q dX4_take_16 ?_
  refine r_zreturn (pc := 17) q rt dX4_take_17 (by decide) ?_
  exact ⟨fun a a0 a1 => by rw [eh1, up_n _ _ a0], Or.inr ⟨rfl, fun z => by have := z.1; omega⟩⟩
/-- the habits at y -/
def hbC (h : sH) (y : Nat) : Prop := 0 ≤ h y 3 ∧ h y 3 ≤ 20 ∧ ∀ k : Int, 0 ≤ k → k < h y 3 → (0 ≤ h (y + 1) k ∧ h (y + 1) k ≤ 4) ∧ (0 ≤ h (y + 2) k ∧ h (y + 2) k ≤ 4) ∧ (1 ≤ h (y + 3) k ∧ h (y + 3) k ≤ 20) ∧ h (y + 1) k ≠ h (y + 2) k
theorem c_X1_add {l : Launch} {D : va_G} {aC : Nat → ClassId} {B t sz : Nat} {S : sS} {r : sR} {h : sH} {y : Nat} {a b c : Int} (hy : LX1 S r y) (s0 : 0 ≤ h y 3) (s1 : h y 3 ≤ 20) : CtI l yX1_add cX1_add 4 (some .int) 0 0 [.ref y, .int (iI a), .int (iI b), .int (iI c)] D aC B t sz S r h (fun z h1 => (20 ≤ h y 3 ∧ z = -1 ∧ h1 = h) ∨ (h y 3 < 20 ∧ z = h y 3 ∧ h1 = pf (pf (pf (pf h (y + 1) (h y 3) a) (y + 2) (h y 3) b) (y + 3) (h y 3) c) y 3 (h y 3 + 1))) := by
  unfold CtI
  refine Ct.of (lv := [some (.ref y), some (.int (iI a)), some (.int (iI b)), some (.int (iI c))]) (by decide +kernel) rfl (Nat.le_of_ble_eq_true rfl) (fun X hl q rt hnm => ?_)
  refine r_aload_0 (pc := 0) q dX1_add_0 ?_
  refine r_geti (pc := 1) q fX1_21 (kz := 3) rfl (by decide) rfl hy.o dX1_add_1 ?_
  refine r_bipush (pc := 4) q dX1_add_4 (by decide) ?_
  refine r_icmp_lt (pc := 6) q 11 dX1_add_6 (by decide) ⟨by omega, by omega⟩ ⟨by omega, by omega⟩ (fun c6 => ?_) (fun c6 => ?_)
  · refine r_aload_0 (pc := 11) q dX1_add_11 ?_
    refine r_getr (pc := 12) q fX1_9 (kz := 0) rfl (by decide) rfl hy.o hy.r_truly dX1_add_12 ?_
    refine r_aload_0 (pc := 15) q dX1_add_15 ?_
    refine r_geti (pc := 16) q fX1_21 (kz := 3) rfl (by decide) rfl hy.o dX1_add_16 ?_
    refine r_iload_1 (pc := 19) q dX1_add_19 ?_
    refine r_iast (pc := 20) q hy.s_truly (by omega) (by omega) dX1_add_20 (fun h1 eh1 => ?_)
    refine r_aload_0 (pc := 21) q dX1_add_21 ?_
    refine r_getr (pc := 22) q fX1_15 (kz := 1) rfl (by decide) rfl hy.o hy.r_written dX1_add_22 ?_
    refine r_aload_0 (pc := 25) q dX1_add_25 ?_
    refine r_geti (pc := 26) q fX1_21 (kz := 3) rfl (by decide) rfl hy.o dX1_add_26 ?_
    have e1 : h1 y = h y := by rw [eh1, up_n _ _ (by omega)]
    rw [e1]
    refine r_iload_2 (pc := 29) q dX1_add_29 ?_
    refine r_iast (pc := 30) q hy.s_written (by omega) (by omega) dX1_add_30 (fun h2 eh2 => ?_)
    refine r_aload_0 (pc := 31) q dX1_add_31 ?_
    refine r_getr (pc := 32) q fX1_18 (kz := 2) rfl (by decide) rfl hy.o hy.r_costs dX1_add_32 ?_
    refine r_aload_0 (pc := 35) q dX1_add_35 ?_
    refine r_geti (pc := 36) q fX1_21 (kz := 3) rfl (by decide) rfl hy.o dX1_add_36 ?_
    have e2 : h2 y = h y := by rw [eh2, up_n _ _ (by omega)]; exact e1
    rw [e2]
    refine r_iload_3 (pc := 39) q dX1_add_39 ?_
    refine r_iast (pc := 40) q hy.s_costs (by omega) (by omega) dX1_add_40 (fun h3 eh3 => ?_)
    refine r_aload_0 (pc := 41) q dX1_add_41 ?_
    refine r_dup (pc := 42) q dX1_add_42 rfl ?_
    refine r_geti (pc := 43) q fX1_21 (kz := 3) rfl (by decide) rfl hy.o dX1_add_43 ?_
    have e3 : h3 y = h y := by rw [eh3, up_n _ _ (by omega)]; exact e2
    rw [e3]
    refine r_iconst (pc := 46) q dX1_add_46 ?_
    refine r_iadd (pc := 47) q dX1_add_47 ?_
    refine r_puti (pc := 48) q fX1_21 (kz := 3) rfl (by decide) rfl hy.o dX1_add_48 (fun h4 eh4 => ?_)
    refine r_aload_0 (pc := 51) q dX1_add_51 ?_
    refine r_geti (pc := 52) q fX1_21 (kz := 3) rfl (by decide) rfl hy.o dX1_add_52 ?_
    have e4 : h4 y 3 = h y 3 + 1 := by rw [eh4, up_s, up_s]
    rw [e4]
    refine r_iconst (pc := 55) q dX1_add_55 ?_
    refine r_isub (pc := 56) q dX1_add_56 ?_
    refine r_ireturn (pc := 57) q rt dX1_add_57 ?_
    exact Or.inr ⟨by omega, by omega, by rw [eh4, eh3, eh2, eh1]⟩
  refine r_iconst (pc := 9) q dX1_add_9 ?_
  refine r_ireturn (pc := 10) q rt dX1_add_10 ?_
  exact Or.inl ⟨by omega, rfl, rfl⟩
theorem c_X1_worksIn {l : Launch} {D : va_G} {aC : Nat → ClassId} {B t sz : Nat} {S : sS} {r : sR} {h : sH} {y x : Nat} {b n : Int} {g : Int → Int} (hy : LX1 S r y) (hx : LX4 S r x) (hH : hbC h y) (hg : nuC h x g n) (b0 : 0 ≤ b) (b1 : b < h y 3) : CtI l yX1_worksIn cX1_worksIn 3 (some .boolean) 1 25 [.ref y, .int (iI b), .ref x] D aC B t sz S r h (fun z h1 => ((z = 1 ∧ wks g n (h (y + 2) b) (h (y + 1) b)) ∨ (z = 0 ∧ ¬ wks g n (h (y + 2) b) (h (y + 1) b))) ∧ h = h1) := by
  unfold CtI
  refine Ct.of (lv := [some (.ref y), some (.int (iI b)), some (.ref x)]) (by decide +kernel) rfl (Nat.le_of_ble_eq_true rfl) (fun X hl q rt hnm => ?_)
  obtain ⟨H0, H20, hh⟩ := hH
  obtain ⟨ht, hw, hc, hne⟩ := hh b b0 b1
  obtain ⟨e1, ⟨n0, n8⟩, hb⟩ := id hg
  refine r_iload_1 (pc := 0) q dX1_worksIn_0 ?_
  refine r_if_lt (pc := 1) q 12 dX1_worksIn_1 (by decide) ⟨by omega, by omega⟩ (fun c1 => ?_) (fun c1 => ?_)
  · exact absurd c1 (by omega)
  refine r_iload_1 (pc := 4) q dX1_worksIn_4 ?_
  refine r_aload_0 (pc := 5) q dX1_worksIn_5 ?_
  refine r_geti (pc := 6) q fX1_21 (kz := 3) rfl (by decide) rfl hy.o dX1_worksIn_6 ?_
  refine r_icmp_lt (pc := 9) q 14 dX1_worksIn_9 (by decide) ⟨by omega, by omega⟩ ⟨by omega, by omega⟩ (fun c9 => ?_) (fun c9 => ?_)
  · refine r_aload_0 (pc := 14) q dX1_worksIn_14 ?_
    refine r_getr (pc := 15) q fX1_15 (kz := 1) rfl (by decide) rfl hy.o hy.r_written dX1_worksIn_15 ?_
    refine r_iload_1 (pc := 18) q dX1_worksIn_18 ?_
    refine r_iald (pc := 19) q hy.s_written (by omega) (by omega) dX1_worksIn_19 ?_
    refine r_if_ne (pc := 20) q 25 dX1_worksIn_20 (by decide) ⟨by omega, by omega⟩ (fun c20 => ?_) (fun c20 => ?_)
    · refine r_aload_0 (pc := 25) q dX1_worksIn_25 ?_
      refine r_getr (pc := 26) q fX1_9 (kz := 0) rfl (by decide) rfl hy.o hy.r_truly dX1_worksIn_26 ?_
      refine r_iload_1 (pc := 29) q dX1_worksIn_29 ?_
      refine r_iald (pc := 30) q hy.s_truly (by omega) (by omega) dX1_worksIn_30 ?_
      refine r_if_ne (pc := 31) q 61 dX1_worksIn_31 (by decide) ⟨by omega, by omega⟩ (fun c31 => ?_) (fun c31 => ?_)
      · refine r_aload_2 (pc := 61) q dX1_worksIn_61 ?_
        refine r_aload_0 (pc := 62) q dX1_worksIn_62 ?_
        refine r_getr (pc := 63) q fX1_15 (kz := 1) rfl (by decide) rfl hy.o hy.r_written dX1_worksIn_63 ?_
        refine r_iload_1 (pc := 66) q dX1_worksIn_66 ?_
        refine r_iald (pc := 67) q hy.s_written (by omega) (by omega) dX1_worksIn_67 ?_
        refine r_aload_0 (pc := 68) q dX1_worksIn_68 ?_
        refine r_getr (pc := 69) q fX1_9 (kz := 0) rfl (by decide) rfl hy.o hy.r_truly dX1_worksIn_69 ?_
        refine r_iload_1 (pc := 72) q dX1_worksIn_72 ?_
        refine r_iald (pc := 73) q hy.s_truly (by omega) (by omega) dX1_worksIn_73 ?_
        refine r_cI2 (pc := 74) q (c_X4_canSwap hx hg ⟨by omega, by omega⟩ ⟨by omega, by omega⟩) mX1_32 hx.o (by decide) (Nat.le_of_ble_eq_true rfl) rfl dX1_worksIn_74 (fun z6 h6 hz6 => ?_)
        obtain ⟨hz6, rfl⟩ := hz6
        refine r_zreturn (pc := 77) q rt dX1_worksIn_77 (by rcases hz6 with ⟨z, -⟩ | ⟨z, -⟩ <;> omega) ?_
        rcases hz6 with ⟨z, j, j0, j1, j2⟩ | ⟨z, hn⟩
        · exact ⟨Or.inl ⟨z, Or.inr (Or.inr ⟨c20, c31, j, j0, j1, j2⟩)⟩, rfl⟩
        · refine ⟨Or.inr ⟨z, ?_⟩, rfl⟩
          rintro (z | ⟨-, z, -⟩ | ⟨-, -, j, j0, j1, j2⟩)
          · exact c20 z
          · exact c31 z
          · exact hn ⟨j, j0, j1, j2⟩
      refine r_aload_2 (pc := 34) q dX1_worksIn_34 ?_
      refine r_geti (pc := 35) q fX1_25 (kz := 1) rfl (by decide) rfl hx.o dX1_worksIn_35 ?_
      rw [e1]
      refine r_iconst (pc := 38) q dX1_worksIn_38 ?_
      refine r_icmp_le (pc := 39) q 59 dX1_worksIn_39 (by decide) ⟨by omega, by omega⟩ ⟨by omega, by omega⟩ (fun c39 => ?_) (fun c39 => ?_)
      · refine r_iconst (pc := 59) q dX1_worksIn_59 ?_
        refine r_zreturn (pc := 60) q rt dX1_worksIn_60 (by decide) ?_
        refine ⟨Or.inr ⟨rfl, ?_⟩, rfl⟩
        rintro (z | ⟨-, -, z, -⟩ | ⟨-, z, -⟩)
        · exact c20 z
        · omega
        · omega
      refine r_aload_2 (pc := 42) q dX1_worksIn_42 ?_
      refine r_aload_0 (pc := 43) q dX1_worksIn_43 ?_
      refine r_getr (pc := 44) q fX1_15 (kz := 1) rfl (by decide) rfl hy.o hy.r_written dX1_worksIn_44 ?_
      refine r_iload_1 (pc := 47) q dX1_worksIn_47 ?_
      refine r_iald (pc := 48) q hy.s_written (by omega) (by omega) dX1_worksIn_48 ?_
      refine r_cI1 (pc := 49) q (c_X4_holds hx hg ⟨by omega, by omega⟩) mX1_28 hx.o (by decide) (Nat.le_of_ble_eq_true rfl) rfl dX1_worksIn_49 (fun z5 h5 hz5 => ?_)
      obtain ⟨hz5, rfl⟩ := hz5
      refine r_if_eq (pc := 52) q 59 dX1_worksIn_52 (by decide) ⟨by omega, by omega⟩ (fun c52 => ?_) (fun c52 => ?_)
      · refine r_iconst (pc := 59) q dX1_worksIn_59 ?_
        refine r_zreturn (pc := 60) q rt dX1_worksIn_60 (by decide) ?_
        refine ⟨Or.inr ⟨rfl, ?_⟩, rfl⟩
        rcases hz5 with ⟨z, -⟩ | ⟨-, hn⟩
        · omega
        · rintro (z | ⟨-, -, -, z⟩ | ⟨-, z, -⟩)
          · exact c20 z
          · exact hn z
          · omega
      refine r_iconst (pc := 55) q dX1_worksIn_55 ?_
      refine r_goto (pc := 56) (tgt := 60) q dX1_worksIn_56 (by decide) ?_
      refine r_zreturn (pc := 60) q rt dX1_worksIn_60 (by decide) ?_
      rcases hz5 with ⟨-, z⟩ | ⟨z, -⟩
      · exact ⟨Or.inl ⟨rfl, Or.inr (Or.inl ⟨c20, by omega, by omega, z⟩)⟩, rfl⟩
      · omega
    refine r_iconst (pc := 23) q dX1_worksIn_23 ?_
    refine r_zreturn (pc := 24) q rt dX1_worksIn_24 (by decide) ?_
    exact ⟨Or.inl ⟨rfl, Or.inl (by omega)⟩, rfl⟩
  exact absurd (by omega) c9
theorem c_X1_gainBy {l : Launch} {D : va_G} {aC : Nat → ClassId} {B t sz : Nat} {S : sS} {r : sR} {h : sH} {y : Nat} {b : Int} (hy : LX1 S r y) (hH : hbC h y) (b0 : 0 ≤ b) (b1 : b < h y 3) : CtI l yX1_gainBy cX1_gainBy 2 (some .int) 0 0 [.ref y, .int (iI b)] D aC B t sz S r h (fun z h1 => svI (h (y + 1) b) - svI (h (y + 2) b) = z ∧ h = h1) := by
  unfold CtI
  refine Ct.of (lv := [some (.ref y), some (.int (iI b))]) (by decide +kernel) rfl (Nat.le_of_ble_eq_true rfl) (fun X hl q rt hnm => ?_)
  obtain ⟨H0, H20, hh⟩ := hH
  obtain ⟨ht, hw, hc, hne⟩ := hh b b0 b1
  refine r_iload_1 (pc := 0) q dX1_gainBy_0 ?_
  refine r_if_lt (pc := 1) q 36 dX1_gainBy_1 (by decide) ⟨by omega, by omega⟩ (fun c1 => ?_) (fun c1 => ?_)
  · exact absurd c1 (by omega)
  refine r_iload_1 (pc := 4) q dX1_gainBy_4 ?_
  refine r_aload_0 (pc := 5) q dX1_gainBy_5 ?_
  refine r_geti (pc := 6) q fX1_21 (kz := 3) rfl (by decide) rfl hy.o dX1_gainBy_6 ?_
  refine r_icmp_ge (pc := 9) q 36 dX1_gainBy_9 (by decide) ⟨by omega, by omega⟩ ⟨by omega, by omega⟩ (fun c9 => ?_) (fun c9 => ?_)
  · exact absurd c9 (by omega)
  refine r_svN (pc := 12) q (by decide +kernel) dX1_gainBy_12 ?_
  refine r_aload_0 (pc := 15) q dX1_gainBy_15 ?_
  refine r_getr (pc := 16) q fX1_9 (kz := 0) rfl (by decide) rfl hy.o hy.r_truly dX1_gainBy_16 ?_
  refine r_iload_1 (pc := 19) q dX1_gainBy_19 ?_
  refine r_iald (pc := 20) q hy.s_truly (by omega) (by omega) dX1_gainBy_20 ?_
  refine r_svld (pc := 21) q (by omega) (by omega) dX1_gainBy_21 ?_
  refine r_svN (pc := 22) q (by decide +kernel) dX1_gainBy_22 ?_
  refine r_aload_0 (pc := 25) q dX1_gainBy_25 ?_
  refine r_getr (pc := 26) q fX1_15 (kz := 1) rfl (by decide) rfl hy.o hy.r_written dX1_gainBy_26 ?_
  refine r_iload_1 (pc := 29) q dX1_gainBy_29 ?_
  refine r_iald (pc := 30) q hy.s_written (by omega) (by omega) dX1_gainBy_30 ?_
  refine r_svld (pc := 31) q (by omega) (by omega) dX1_gainBy_31 ?_
  refine r_isub (pc := 32) q dX1_gainBy_32 ?_
  refine r_goto (pc := 33) (tgt := 37) q dX1_gainBy_33 (by decide) ?_
  refine r_ireturn (pc := 37) q rt dX1_gainBy_37 ?_
  exact ⟨rfl, rfl⟩
theorem c_X6_find {l : Launch} {D : va_G} {aC : Nat → ClassId} {B t sz : Nat} {S : sS} {r : sR} {h : sH} {x : Nat} {v : Int} {s : Nat} {vl : Int → Int} (hx : LX6 S r x) (hs : h x 2 = s) (s21 : s ≤ 21) (hvl : ∀ k : Int, 0 ≤ k → k < s → h (x + 1) k = vl k ∧ inR (vl k)) (hv : inR v) : CtI l yX6_find cX6_find 3 (some .int) 0 0 [.ref x, .int (iI v)] D aC B t sz S r h (fun z h1 => ((z = -1 ∧ ∀ k : Int, 0 ≤ k → k < s → vl k ≠ v) ∨ (0 ≤ z ∧ z < s ∧ vl z = v)) ∧ h = h1) := by
  unfold CtI
  refine Ct.of (lv := [some (.ref x), some (.int (iI v)), none]) (by decide +kernel) rfl (Nat.le_of_ble_eq_true rfl) (fun X hl q rt hnm => ?_)
  have lp : ∀ (d j : Nat), j + d = s → (∀ y : Int, 0 ≤ y → y < j → vl y ≠ v) → G X 0 0 2 [some (.ref x), some (.int (iI v)), some (.int (iI j))] [] sz S r h := by
    intro d
    induction d with
    | zero =>
      intro j hj hn
      refine r_iload_2 (pc := 2) q dX6_find_2 ?_
      refine r_aload_0 (pc := 3) q dX6_find_3 ?_
      refine r_geti (pc := 4) q fX6_18 (kz := 2) rfl (by decide) rfl hx.o dX6_find_4 ?_
      rw [hs]
      refine r_icmp_ge (pc := 7) q 28 dX6_find_7 (by decide) ⟨by omega, by omega⟩ ⟨by omega, by omega⟩ (fun c7 => ?_) (fun c7 => ?_)
      · refine r_iconst (pc := 28) q dX6_find_28 ?_
        refine r_ireturn (pc := 29) q rt dX6_find_29 ?_
        exact ⟨Or.inl ⟨rfl, fun k k0 k1 => hn k k0 (by omega)⟩, rfl⟩
      exact absurd (by omega) c7
    | succ d ih =>
      intro j hj hn
      have s2 := hvl j (by omega) (by omega)
      refine r_iload_2 (pc := 2) q dX6_find_2 ?_
      refine r_aload_0 (pc := 3) q dX6_find_3 ?_
      refine r_geti (pc := 4) q fX6_18 (kz := 2) rfl (by decide) rfl hx.o dX6_find_4 ?_
      rw [hs]
      refine r_icmp_ge (pc := 7) q 28 dX6_find_7 (by decide) ⟨by omega, by omega⟩ ⟨by omega, by omega⟩ (fun c7 => ?_) (fun c7 => ?_)
      · exact absurd c7 (by omega)
      refine r_aload_0 (pc := 10) q dX6_find_10 ?_
      refine r_getr (pc := 11) q fX6_9 (kz := 0) rfl (by decide) rfl hx.o hx.r_values dX6_find_11 ?_
      refine r_iload_2 (pc := 14) q dX6_find_14 ?_
      refine r_iald (pc := 15) q hx.s_values (by omega) (by omega) dX6_find_15 ?_
      rw [s2.1]
      refine r_iload_1 (pc := 16) q dX6_find_16 ?_
      refine r_icmp_ne (pc := 17) q 22 dX6_find_17 (by decide) s2.2 hv (fun c17 => ?_) (fun c17 => ?_)
      · refine r_iinc_2 (pc := 22) q dX6_find_22 rfl ?_
        refine r_goto (pc := 25) (tgt := 2) q dX6_find_25 (by decide) ?_
        refine ih (j + 1) (by omega) (fun y y0 y1 => ?_)
        by_cases ey : y = j
        · rw [ey]; exact c17
        · exact hn y y0 (by omega)
      refine r_iload_2 (pc := 20) q dX6_find_20 ?_
      refine r_ireturn (pc := 21) q rt dX6_find_21 ?_
      exact ⟨Or.inr ⟨by omega, by omega, by omega⟩, rfl⟩
  refine r_iconst (pc := 0) q dX6_find_0 ?_
  refine r_istore_2 (pc := 1) q dX6_find_1 rfl ?_
  exact lp s 0 (by omega) (fun y y0 y1 => by omega)
theorem c_X6_costOf {l : Launch} {D : va_G} {aC : Nat → ClassId} {B t sz : Nat} {S : sS} {r : sR} {h : sH} {x : Nat} {v : Int} {s : Nat} {vl : Int → Int} (hx : LX6 S r x) (hs : h x 2 = s) (s21 : s ≤ 21) (hvl : ∀ k : Int, 0 ≤ k → k < s → h (x + 1) k = vl k ∧ inR (vl k)) (hv : inR v) : CtI l yX6_costOf cX6_costOf 3 (some .int) 1 22 [.ref x, .int (iI v)] D aC B t sz S r h (fun z h1 => ((z = -1 ∧ ∀ k : Int, 0 ≤ k → k < s → vl k ≠ v) ∨ ∃ k : Int, (0 ≤ k ∧ k < s ∧ vl k = v) ∧ z = h (x + 2) k) ∧ h = h1) := by
  unfold CtI
  refine Ct.of (lv := [some (.ref x), some (.int (iI v)), none]) (by decide +kernel) rfl (Nat.le_of_ble_eq_true rfl) (fun X hl q rt hnm => ?_)
  refine r_aload_0 (pc := 0) q dX6_costOf_0 ?_
  refine r_iload_1 (pc := 1) q dX6_costOf_1 ?_
  refine r_cI1 (pc := 2) q (c_X6_find hx hs s21 hvl hv) mX6_44 hx.o (by decide) (Nat.le_of_ble_eq_true rfl) rfl dX6_costOf_2 (fun z5 h5 hz5 => ?_)
  obtain ⟨hz5, rfl⟩ := hz5
  refine r_istore_2 (pc := 5) q dX6_costOf_5 rfl ?_
  refine r_iload_2 (pc := 6) q dX6_costOf_6 ?_
  refine r_iconst (pc := 7) q dX6_costOf_7 ?_
  refine r_icmp_ne (pc := 8) q 15 dX6_costOf_8 (by decide) (by rcases hz5 with ⟨z, -⟩ | ⟨z, z2, -⟩ <;> exact ⟨by omega, by omega⟩) ⟨by omega, by omega⟩ (fun c8 => ?_) (fun c8 => ?_)
  · have hk : 0 ≤ z5 ∧ z5 < s ∧ vl z5 = v := by
      rcases hz5 with ⟨z, -⟩ | z
      · exact absurd z c8
      · exact z
    refine r_aload_0 (pc := 15) q dX6_costOf_15 ?_
    refine r_getr (pc := 16) q fX6_15 (kz := 1) rfl (by decide) rfl hx.o hx.r_costs dX6_costOf_16 ?_
    refine r_iload_2 (pc := 19) q dX6_costOf_19 ?_
    refine r_iald (pc := 20) q hx.s_costs (by omega) (by omega) dX6_costOf_20 ?_
    refine r_ireturn (pc := 21) q rt dX6_costOf_21 ?_
    exact ⟨Or.inr ⟨z5, hk, rfl⟩, rfl⟩
  refine r_iconst (pc := 11) q dX6_costOf_11 ?_
  refine r_goto (pc := 12) (tgt := 21) q dX6_costOf_12 (by decide) ?_
  refine r_ireturn (pc := 21) q rt dX6_costOf_21 ?_
  rcases hz5 with ⟨-, z⟩ | z
  · exact ⟨Or.inl ⟨rfl, z⟩, rfl⟩
  · omega
theorem c_X6_put {l : Launch} {D : va_G} {aC : Nat → ClassId} {B t sz : Nat} {S : sS} {r : sR} {h : sH} {x : Nat} {v c : Int} {s : Nat} {vl : Int → Int} (hx : LX6 S r x) (hs : h x 2 = s) (s20 : s ≤ 20) (hvl : ∀ k : Int, 0 ≤ k → k < s → h (x + 1) k = vl k ∧ inR (vl k)) (hcl : ∀ k : Int, 0 ≤ k → k < s → inR (h (x + 2) k)) (hv : inR v) (hc : inR c) : CtV l yX6_put cX6_put 4 none 1 22 [.ref x, .int (iI v), .int (iI c)] D aC B t sz S r h (fun h1 => (∃ k : Int, (0 ≤ k ∧ k < s ∧ vl k = v) ∧ h1 = pf h (x + 2) k (min (h (x + 2) k) c)) ∨ ((∀ k : Int, 0 ≤ k → k < s → vl k ≠ v) ∧ h1 = pf (pf (pf h (x + 1) s v) (x + 2) s c) x 2 (s + 1))) := by
  unfold CtV
  refine Ct.of (lv := [some (.ref x), some (.int (iI v)), some (.int (iI c)), none]) (by decide +kernel) rfl (Nat.le_of_ble_eq_true rfl) (fun X hl q rt hnm => ?_)
  refine r_aload_0 (pc := 0) q dX6_put_0 ?_
  refine r_iload_1 (pc := 1) q dX6_put_1 ?_
  refine r_cI1 (pc := 2) q (c_X6_find hx hs (by omega) hvl hv) mX6_44 hx.o (by decide) (Nat.le_of_ble_eq_true rfl) rfl dX6_put_2 (fun z5 h5 hz5 => ?_)
  obtain ⟨hz5, rfl⟩ := hz5
  refine r_istore_3 (pc := 5) q dX6_put_5 rfl ?_
  refine r_iload_3 (pc := 6) q dX6_put_6 ?_
  refine r_iconst (pc := 7) q dX6_put_7 ?_
  refine r_icmp_eq (pc := 8) q 30 dX6_put_8 (by decide) (by rcases hz5 with ⟨z, -⟩ | ⟨z, z2, -⟩ <;> exact ⟨by omega, by omega⟩) ⟨by omega, by omega⟩ (fun c8 => ?_) (fun c8 => ?_)
  · refine r_aload_0 (pc := 30) q dX6_put_30 ?_
    refine r_geti (pc := 31) q fX6_18 (kz := 2) rfl (by decide) rfl hx.o dX6_put_31 ?_
    rw [hs]
    refine r_aload_0 (pc := 34) q dX6_put_34 ?_
    refine r_getr (pc := 35) q fX6_9 (kz := 0) rfl (by decide) rfl hx.o hx.r_values dX6_put_35 ?_
    refine r_alen20 (pc := 38) q hx.s_values dX6_put_38 ?_
    refine r_icmp_ge (pc := 39) q 72 dX6_put_39 (by decide) ⟨by omega, by omega⟩ ⟨by omega, by omega⟩ (fun c39 => ?_) (fun c39 => ?_)
    · exact absurd c39 (by omega)
    refine r_aload_0 (pc := 42) q dX6_put_42 ?_
    refine r_getr (pc := 43) q fX6_9 (kz := 0) rfl (by decide) rfl hx.o hx.r_values dX6_put_43 ?_
    refine r_aload_0 (pc := 46) q dX6_put_46 ?_
    refine r_geti (pc := 47) q fX6_18 (kz := 2) rfl (by decide) rfl hx.o dX6_put_47 ?_
    rw [hs]
    refine r_iload_1 (pc := 50) q dX6_put_50 ?_
    refine r_iast (pc := 51) q hx.s_values (by omega) (by omega) dX6_put_51 (fun h6 eh6 => ?_)
    refine r_aload_0 (pc := 52) q dX6_put_52 ?_
    refine r_getr (pc := 53) q fX6_15 (kz := 1) rfl (by decide) rfl hx.o hx.r_costs dX6_put_53 ?_
    refine r_aload_0 (pc := 56) q dX6_put_56 ?_
    refine r_geti (pc := 57) q fX6_18 (kz := 2) rfl (by decide) rfl hx.o dX6_put_57 ?_
    have e6 : h6 x 2 = s := by rw [eh6, up_n _ _ (by omega)]; exact hs
    rw [e6]
    refine r_iload_2 (pc := 60) q dX6_put_60 ?_
    refine r_iast (pc := 61) q hx.s_costs (by omega) (by omega) dX6_put_61 (fun h7 eh7 => ?_)
    refine r_aload_0 (pc := 62) q dX6_put_62 ?_
    refine r_dup (pc := 63) q dX6_put_63 rfl ?_
    refine r_geti (pc := 64) q fX6_18 (kz := 2) rfl (by decide) rfl hx.o dX6_put_64 ?_
    have e7 : h7 x 2 = s := by rw [eh7, up_n _ _ (by omega)]; exact e6
    rw [e7]
    refine r_iconst (pc := 67) q dX6_put_67 ?_
    refine r_iadd (pc := 68) q dX6_put_68 ?_
    refine r_puti (pc := 69) q fX6_18 (kz := 2) rfl (by decide) rfl hx.o dX6_put_69 (fun h8 eh8 => ?_)
    refine r_return (pc := 72) q rt dX6_put_72 ?_
    rcases hz5 with ⟨-, z⟩ | z
    · exact Or.inr ⟨z, by rw [eh8, eh7, eh6]⟩
    · omega
  have hk : 0 ≤ z5 ∧ z5 < s ∧ vl z5 = v := by
    rcases hz5 with ⟨z, -⟩ | z
    · exact absurd z c8
    · exact z
  refine r_aload_0 (pc := 11) q dX6_put_11 ?_
  refine r_getr (pc := 12) q fX6_15 (kz := 1) rfl (by decide) rfl hx.o hx.r_costs dX6_put_12 ?_
  refine r_iload_3 (pc := 15) q dX6_put_15 ?_
  refine r_aload_0 (pc := 16) q dX6_put_16 ?_
  refine r_getr (pc := 17) q fX6_15 (kz := 1) rfl (by decide) rfl hx.o hx.r_costs dX6_put_17 ?_
  refine r_iload_3 (pc := 20) q dX6_put_20 ?_
  refine r_iald (pc := 21) q hx.s_costs (by omega) (by omega) dX6_put_21 ?_
  refine r_iload_2 (pc := 22) q dX6_put_22 ?_
  refine r_min (pc := 23) q mX6_47 (hcl z5 (by omega) (by omega)) hc ⟨Nat.le_of_ble_eq_true rfl, Nat.le_of_ble_eq_true rfl, Nat.le_of_ble_eq_true rfl, Nat.le_of_ble_eq_true rfl⟩ rfl dX6_put_23 ?_
  refine r_iast (pc := 26) q hx.s_costs (by omega) (by omega) dX6_put_26 (fun h9 eh9 => ?_)
  refine r_goto (pc := 27) (tgt := 72) q dX6_put_27 (by decide) ?_
  refine r_return (pc := 72) q rt dX6_put_72 ?_
  exact Or.inl ⟨z5, hk, eh9⟩
