/-- what count answers -/
def cntM (h : sH) (m : Nat) (w : Int) : Int := if w = 0 then h m 5 else if w = 1 then h m 14 else if w = 2 then h m 18 else if w = 3 then h m 23 else if w = 4 then h m 29 else if w = 5 then h m 2 else if w = 6 then h m 27 else if w = 7 then h m 28 else if 10 ≤ w ∧ w < 10 + h m 14 then h (m + 9) (w - 10) else if 30 ≤ w ∧ w < 30 + h m 14 then h (m + 11) (w - 30) else -1
theorem c_X12_count {l : Launch} {D : va_G} {aC : Nat → ClassId} {B t sz : Nat} {S : sS} {r : sR} {h : sH} {m : Nat} {w : Int} (hM : LX12 S r m) (hw : inR w) (R0 : 0 ≤ h m 14) (R1 : h m 14 ≤ 12) : CtI l yX12_count cX12_count 2 (some .int) 1 22 [.ref m, .int (iI w)] D aC B t sz S r h (fun z h1 => z = cntM h m w ∧ h1 = pf h m 0 0) := by
  unfold CtI
  refine Ct.of (lv := [some (.ref m), some (.int (iI w))]) (by decide +kernel) rfl (Nat.le_of_ble_eq_true rfl) (fun X hl q rt hnm => ?_)
  obtain ⟨w0, w1⟩ := id hw
  refine r_aload_0 (pc := 0) q dX12_count_0 ?_
  refine r_iconst (pc := 1) q dX12_count_1 ?_
  refine r_puti (pc := 2) q fX12_106 (kz := 0) rfl (by decide) rfl hM.o dX12_count_2 (fun h0 eh0 => ?_)
  obtain ⟨f0, f1⟩ := th0 eh0
  have f14 := f1 14 (by decide)
  refine r_iload_1 (pc := 5) q dX12_count_5 ?_
  rcases (show w = 0 ∨ w = 1 ∨ w = 2 ∨ w = 3 ∨ w = 4 ∨ w = 5 ∨ w = 6 ∨ w = 7 ∨ (w < 0 ∨ 7 < w) by omega) with c6 | c6 | c6 | c6 | c6 | c6 | c6 | c6 | c6
  · refine r_topi c6 ?_
    refine r_tswI (pc := 6) q 52 dX12_count_6 ⟨by decide, by decide⟩ (by decide) (by decide) rfl (by decide) ?_
    refine r_aload_0 (pc := 52) q dX12_count_52 ?_
    refine r_geti (pc := 53) q fX12_157 (kz := 5) rfl (by decide) rfl hM.o dX12_count_53 ?_
    refine r_ireturn (pc := 56) q rt dX12_count_56 ?_
    exact ⟨by subst c6; rw [f1 5 (by decide)]; rfl, eh0⟩
  · refine r_topi c6 ?_
    refine r_tswI (pc := 6) q 57 dX12_count_6 ⟨by decide, by decide⟩ (by decide) (by decide) rfl (by decide) ?_
    refine r_aload_0 (pc := 57) q dX12_count_57 ?_
    refine r_geti (pc := 58) q fX12_178 (kz := 14) rfl (by decide) rfl hM.o dX12_count_58 ?_
    refine r_ireturn (pc := 61) q rt dX12_count_61 ?_
    exact ⟨by subst c6; rw [f1 14 (by decide)]; rfl, eh0⟩
  · refine r_topi c6 ?_
    refine r_tswI (pc := 6) q 62 dX12_count_6 ⟨by decide, by decide⟩ (by decide) (by decide) rfl (by decide) ?_
    refine r_aload_0 (pc := 62) q dX12_count_62 ?_
    refine r_geti (pc := 63) q fX12_184 (kz := 18) rfl (by decide) rfl hM.o dX12_count_63 ?_
    refine r_ireturn (pc := 66) q rt dX12_count_66 ?_
    exact ⟨by subst c6; rw [f1 18 (by decide)]; rfl, eh0⟩
  · refine r_topi c6 ?_
    refine r_tswI (pc := 6) q 67 dX12_count_6 ⟨by decide, by decide⟩ (by decide) (by decide) rfl (by decide) ?_
    refine r_aload_0 (pc := 67) q dX12_count_67 ?_
    refine r_geti (pc := 68) q fX12_187 (kz := 23) rfl (by decide) rfl hM.o dX12_count_68 ?_
    refine r_ireturn (pc := 71) q rt dX12_count_71 ?_
    exact ⟨by subst c6; rw [f1 23 (by decide)]; rfl, eh0⟩
  · refine r_topi c6 ?_
    refine r_tswI (pc := 6) q 72 dX12_count_6 ⟨by decide, by decide⟩ (by decide) (by decide) rfl (by decide) ?_
    refine r_aload_0 (pc := 72) q dX12_count_72 ?_
    refine r_geti (pc := 73) q fX12_181 (kz := 29) rfl (by decide) rfl hM.o dX12_count_73 ?_
    refine r_ireturn (pc := 76) q rt dX12_count_76 ?_
    exact ⟨by subst c6; rw [f1 29 (by decide)]; rfl, eh0⟩
  · refine r_topi c6 ?_
    refine r_tswI (pc := 6) q 77 dX12_count_6 ⟨by decide, by decide⟩ (by decide) (by decide) rfl (by decide) ?_
    refine r_aload_0 (pc := 77) q dX12_count_77 ?_
    refine r_geti (pc := 78) q fX12_109 (kz := 2) rfl (by decide) rfl hM.o dX12_count_78 ?_
    refine r_ireturn (pc := 81) q rt dX12_count_81 ?_
    exact ⟨by subst c6; rw [f1 2 (by decide)]; rfl, eh0⟩
  · refine r_topi c6 ?_
    refine r_tswI (pc := 6) q 82 dX12_count_6 ⟨by decide, by decide⟩ (by decide) (by decide) rfl (by decide) ?_
    refine r_aload_0 (pc := 82) q dX12_count_82 ?_
    refine r_geti (pc := 83) q fX12_70 (kz := 27) rfl (by decide) rfl hM.o dX12_count_83 ?_
    refine r_ireturn (pc := 86) q rt dX12_count_86 ?_
    exact ⟨by subst c6; rw [f1 27 (by decide)]; rfl, eh0⟩
  · refine r_topi c6 ?_
    refine r_tswI (pc := 6) q 87 dX12_count_6 ⟨by decide, by decide⟩ (by decide) (by decide) rfl (by decide) ?_
    refine r_aload_0 (pc := 87) q dX12_count_87 ?_
    refine r_geti (pc := 88) q fX12_73 (kz := 28) rfl (by decide) rfl hM.o dX12_count_88 ?_
    refine r_ireturn (pc := 91) q rt dX12_count_91 ?_
    exact ⟨by subst c6; rw [f1 28 (by decide)]; rfl, eh0⟩
  refine r_tswO (pc := 6) q 92 dX12_count_6 ⟨by omega, by omega⟩ c6 (by decide) ?_
  refine r_iload_1 (pc := 92) q dX12_count_92 ?_
  refine r_bipush (pc := 93) q dX12_count_93 (by decide) ?_
  refine r_bipush (pc := 95) q dX12_count_95 (by decide) ?_
  refine r_aload_0 (pc := 97) q dX12_count_97 ?_
  refine r_geti (pc := 98) q fX12_178 (kz := 14) rfl (by decide) rfl hM.o dX12_count_98 ?_
  refine r_iadd (pc := 101) q dX12_count_101 ?_
  refine r_sI3 (pc := 102) q (c_X12_within (by first | assumption | exact ⟨by omega, by omega⟩ | omega) (by first | assumption | exact ⟨by omega, by omega⟩ | omega) (by first | assumption | exact ⟨by omega, by omega⟩ | omega)) mX12_112 (by decide) (Nat.le_of_ble_eq_true rfl) rfl dX12_count_102 (fun z1 h1 hz1 => ?_)
  obtain ⟨hz1, rfl⟩ := hz1
  refine r_if_eq (pc := 105) q 118 dX12_count_105 (by decide) ⟨by omega, by omega⟩ (fun c105 => ?_) (fun c105 => ?_)
  · refine r_iload_1 (pc := 118) q dX12_count_118 ?_
    refine r_bipush (pc := 119) q dX12_count_119 (by decide) ?_
    refine r_bipush (pc := 121) q dX12_count_121 (by decide) ?_
    refine r_aload_0 (pc := 123) q dX12_count_123 ?_
    refine r_geti (pc := 124) q fX12_178 (kz := 14) rfl (by decide) rfl hM.o dX12_count_124 ?_
    refine r_iadd (pc := 127) q dX12_count_127 ?_
    refine r_sI3 (pc := 128) q (c_X12_within (by first | assumption | exact ⟨by omega, by omega⟩ | omega) (by first | assumption | exact ⟨by omega, by omega⟩ | omega) (by first | assumption | exact ⟨by omega, by omega⟩ | omega)) mX12_112 (by decide) (Nat.le_of_ble_eq_true rfl) rfl dX12_count_128 (fun z2 h2 hz2 => ?_)
    obtain ⟨hz2, rfl⟩ := hz2
    refine r_if_eq (pc := 131) q 146 dX12_count_131 (by decide) ⟨by omega, by omega⟩ (fun c131 => ?_) (fun c131 => ?_)
    · refine r_iconst (pc := 146) q dX12_count_146 ?_
      refine r_ireturn (pc := 147) q rt dX12_count_147 ?_
      exact ⟨by unfold cntM; rw [if_neg (by omega), if_neg (by omega), if_neg (by omega), if_neg (by omega), if_neg (by omega), if_neg (by omega), if_neg (by omega), if_neg (by omega), if_neg (by omega), if_neg (by omega)], eh0⟩
    refine r_aload_0 (pc := 134) q dX12_count_134 ?_
    refine r_getr (pc := 135) q fX12_46 (kz := 17) rfl (by decide) rfl hM.o hM.r_ruinDay dX12_count_135 ?_
    refine r_iload_1 (pc := 138) q dX12_count_138 ?_
    refine r_bipush (pc := 139) q dX12_count_139 (by decide) ?_
    refine r_isub (pc := 141) q dX12_count_141 ?_
    refine r_iald (pc := 142) q hM.s_ruinDay (by omega) (by omega) dX12_count_142 ?_
    refine r_goto (pc := 143) (tgt := 147) q dX12_count_143 (by decide) ?_
    refine r_ireturn (pc := 147) q rt dX12_count_147 ?_
    exact ⟨by unfold cntM; rw [if_neg (by omega), if_neg (by omega), if_neg (by omega), if_neg (by omega), if_neg (by omega), if_neg (by omega), if_neg (by omega), if_neg (by omega), if_neg (by omega), if_pos (by omega), f0 (m + 11) (by omega)], eh0⟩
  refine r_aload_0 (pc := 108) q dX12_count_108 ?_
  refine r_getr (pc := 109) q fX12_40 (kz := 15) rfl (by decide) rfl hM.o hM.r_ruinAt dX12_count_109 ?_
  refine r_iload_1 (pc := 112) q dX12_count_112 ?_
  refine r_bipush (pc := 113) q dX12_count_113 (by decide) ?_
  refine r_isub (pc := 115) q dX12_count_115 ?_
  refine r_iald (pc := 116) q hM.s_ruinAt (by omega) (by omega) dX12_count_116 ?_
  refine r_ireturn (pc := 117) q rt dX12_count_117 ?_
  exact ⟨by unfold cntM; rw [if_neg (by omega), if_neg (by omega), if_neg (by omega), if_neg (by omega), if_neg (by omega), if_neg (by omega), if_neg (by omega), if_neg (by omega), if_pos (by omega), f0 (m + 9) (by omega)], eh0⟩
/-- the names that the lists hold -/
def nmR (h : sH) (m : Nat) (g : Int → Int → Int → Int) (n : Int → Int → Int) : Prop := ∀ l i : Int, 0 ≤ l → l < h m 5 → 0 ≤ i → i < h (m + 5) l → NmP (h (m + 6) (10 * l + i)) (g l i) (n l i)
theorem c_X12_letter {l : Launch} {D : va_G} {aC : Nat → ClassId} {B t sz : Nat} {S : sS} {r : sR} {h : sH} {m : Nat} {l1 i k : Int} {g : Int → Int → Int → Int} {n : Int → Int → Int} (hM : LX12 S r m) (hl1 : inR l1) (hi : inR i) (hk : inR k) (hL : lsR h m) (hN : nmR h m g n) : CtI l yX12_letter cX12_letter 4 (some .int) 3 65 [.ref m, .int (iI l1), .int (iI i), .int (iI k)] D aC B t sz S r h (fun z h1 => h1 = pf h m 0 0 ∧ ((¬ (0 ≤ l1 ∧ l1 < h m 5 ∧ 0 ≤ i ∧ i < h (m + 5) l1 ∧ 0 ≤ k ∧ k < n l1 i) ∧ z = -1) ∨ ((0 ≤ l1 ∧ l1 < h m 5 ∧ 0 ≤ i ∧ i < h (m + 5) l1 ∧ 0 ≤ k ∧ k < n l1 i) ∧ z = g l1 i k))) := by
  unfold CtI
  refine Ct.of (lv := [some (.ref m), some (.int (iI l1)), some (.int (iI i)), some (.int (iI k))]) (by decide +kernel) rfl (Nat.le_of_ble_eq_true rfl) (fun X hl q rt hnm => ?_)
  obtain ⟨L0, L1, L2⟩ := id hL
  refine r_aload_0 (pc := 0) q dX12_letter_0 ?_
  refine r_iconst (pc := 1) q dX12_letter_1 ?_
  refine r_puti (pc := 2) q fX12_106 (kz := 0) rfl (by decide) rfl hM.o dX12_letter_2 (fun h0 eh0 => ?_)
  obtain ⟨f0, f1⟩ := th0 eh0
  have hL' : lsR h0 m := by
    unfold lsR
    rw [f1 5 (by decide), f0 (m + 4) (by omega), f0 (m + 5) (by omega)]
    exact hL
  refine r_aload_0 (pc := 5) q dX12_letter_5 ?_
  refine r_iload_1 (pc := 6) q dX12_letter_6 ?_
  refine r_iload_2 (pc := 7) q dX12_letter_7 ?_
  refine r_cI2 (pc := 8) q (c_X12_isStation (by first | assumption | exact ⟨by omega, by omega⟩ | omega) (by first | assumption | exact ⟨by omega, by omega⟩ | omega) (by first | assumption | exact ⟨by omega, by omega⟩ | omega) (by first | assumption | exact ⟨by omega, by omega⟩ | omega)) mX12_191 hM.o (by decide) (Nat.le_of_ble_eq_true rfl) rfl dX12_letter_8 (fun z1 h1 hz1 => ?_)
  obtain ⟨hz1, rfl⟩ := hz1
  rw [f1 5 (by decide), f0 (m + 5) (by omega)] at hz1
  refine r_if_eq (pc := 11) q 38 dX12_letter_11 (by decide) ⟨by omega, by omega⟩ (fun c11 => ?_) (fun c11 => ?_)
  · refine r_iconst (pc := 38) q dX12_letter_38 ?_
    refine r_ireturn (pc := 39) q rt dX12_letter_39 ?_
    exact ⟨eh0, Or.inl ⟨by omega, rfl⟩⟩
  have b := L2 l1 (by omega) (by omega)
  have hv := hN l1 i (by omega) (by omega) (by omega) (by omega)
  have n1 := hv.1
  have n8 := hv.2.1
  have f6 := f0 (m + 6) (by omega)
  refine r_iload_3 (pc := 14) q dX12_letter_14 ?_
  refine r_iconst (pc := 15) q dX12_letter_15 ?_
  refine r_aload_0 (pc := 16) q dX12_letter_16 ?_
  refine r_getr (pc := 17) q fX12_26 (kz := 8) rfl (by decide) rfl hM.o hM.r_name dX12_letter_17 ?_
  refine r_bipush (pc := 20) q dX12_letter_20 (by decide) ?_
  refine r_iload_1 (pc := 22) q dX12_letter_22 ?_
  refine r_imul (pc := 23) q dX12_letter_23 ?_
  refine r_iload_2 (pc := 24) q dX12_letter_24 ?_
  refine r_iadd (pc := 25) q dX12_letter_25 ?_
  refine r_lald (pc := 26) q hM.s_name (by omega) (by omega) dX12_letter_26 ?_
  rw [f6]
  refine r_sI1 (pc := 27) q (c_X12_letters hv) mX12_124 (by decide) (Nat.le_of_ble_eq_true rfl) rfl dX12_letter_27 (fun z1 h1 hz1 => ?_)
  obtain ⟨rfl, rfl⟩ := hz1
  refine r_iconst (pc := 30) q dX12_letter_30 ?_
  refine r_isub (pc := 31) q dX12_letter_31 ?_
  refine r_sI3 (pc := 32) q (c_X12_within (by first | assumption | exact ⟨by omega, by omega⟩ | omega) (by first | assumption | exact ⟨by omega, by omega⟩ | omega) (by first | assumption | exact ⟨by omega, by omega⟩ | omega)) mX12_112 (by decide) (Nat.le_of_ble_eq_true rfl) rfl dX12_letter_32 (fun z2 h2 hz2 => ?_)
  obtain ⟨hz2, rfl⟩ := hz2
  refine r_if_ne (pc := 35) q 40 dX12_letter_35 (by decide) ⟨by omega, by omega⟩ (fun c35 => ?_) (fun c35 => ?_)
  · refine r_aload_0 (pc := 40) q dX12_letter_40 ?_
    refine r_getr (pc := 41) q fX12_26 (kz := 8) rfl (by decide) rfl hM.o hM.r_name dX12_letter_41 ?_
    refine r_bipush (pc := 44) q dX12_letter_44 (by decide) ?_
    refine r_iload_1 (pc := 46) q dX12_letter_46 ?_
    refine r_imul (pc := 47) q dX12_letter_47 ?_
    refine r_iload_2 (pc := 48) q dX12_letter_48 ?_
    refine r_iadd (pc := 49) q dX12_letter_49 ?_
    refine r_lald (pc := 50) q hM.s_name (by omega) (by omega) dX12_letter_50 ?_
    rw [f6]
    refine r_iload_3 (pc := 51) q dX12_letter_51 ?_
    refine r_sI2 (pc := 52) q (c_X12_letterOf hv (by omega) (by omega)) mX12_134 (by decide) (Nat.le_of_ble_eq_true rfl) rfl dX12_letter_52 (fun z2 h2 hz2 => ?_)
    obtain ⟨rfl, rfl⟩ := hz2
    refine r_ireturn (pc := 55) q rt dX12_letter_55 ?_
    exact ⟨eh0, Or.inr ⟨by omega, rfl⟩⟩
  refine r_iconst (pc := 38) q dX12_letter_38 ?_
  refine r_ireturn (pc := 39) q rt dX12_letter_39 ?_
  exact ⟨eh0, Or.inl ⟨by omega, rfl⟩⟩
theorem c_X12_of {l : Launch} {D : va_G} {aC : Nat → ClassId} {B t sz : Nat} {S : sS} {r : sR} {h : sH} {m : Nat} {l1 w : Int} {g : Int → Int → Int → Int} {n : Int → Int → Int} (hM : LX12 S r m) (hl1 : inR l1) (hw : inR w) (hL : lsR h m) (hN : nmR h m g n) (hU : ∀ l i : Int, 0 ≤ l → l < h m 5 → 0 ≤ i → i + 1 < h (m + 5) l → nuR h m (10 * l + i)) : CtI l yX12_of cX12_of 4 (some .int) 2 44 [.ref m, .int (iI l1), .int (iI w)] D aC B t sz S r h (fun z h1 => (¬ (0 ≤ l1 ∧ l1 < h m 5 ∧ ((0 ≤ w ∧ w ≤ 1) ∨ (10 ≤ w ∧ w < 9 + h (m + 5) l1) ∨ (20 ≤ w ∧ w < 20 + h (m + 5) l1))) ∧ h1 = pf h m 0 1) ∨ ((0 ≤ l1 ∧ l1 < h m 5 ∧ ((0 ≤ w ∧ w ≤ 1) ∨ (10 ≤ w ∧ w < 9 + h (m + 5) l1) ∨ (20 ≤ w ∧ w < 20 + h (m + 5) l1))) ∧ h1 = pf h m 0 0 ∧ z = (if w = 0 then h (m + 4) l1 else if w = 1 then h (m + 5) l1 else if w < 20 then vS (fun j => h (m + 7) (9 * (10 * l1 + (w - 10)) + j)) (h (m + 8) (10 * l1 + (w - 10))).toNat else n l1 (w - 20)))) := by
  unfold CtI
  refine Ct.of (lv := [some (.ref m), some (.int (iI l1)), some (.int (iI w)), none]) (by decide +kernel) rfl (Nat.le_of_ble_eq_true rfl) (fun X hl q rt hnm => ?_)
  obtain ⟨L0, L1, L2⟩ := id hL
  obtain ⟨w0, w1⟩ := id hw
  have no : ¬ (0 ≤ l1 ∧ l1 < h m 5 ∧ ((0 ≤ w ∧ w ≤ 1) ∨ (10 ≤ w ∧ w < 9 + h (m + 5) l1) ∨ (20 ≤ w ∧ w < 20 + h (m + 5) l1))) → G X 0 0 58 [some (.ref m), some (.int (iI l1)), some (.int (iI w)), none] [.int (iI 0)] sz S r h := by
    intro hn
    refine r_istore_3 (pc := 58) q dX12_of_58 rfl ?_
    refine r_aload_0 (pc := 59) q dX12_of_59 ?_
    refine r_iload_3 (pc := 60) q dX12_of_60 ?_
    refine r_if_eq (pc := 61) q 68 dX12_of_61 (by decide) ⟨by omega, by omega⟩ (fun c61 => ?_) (fun c61 => ?_)
    · refine r_iconst (pc := 68) q dX12_of_68 ?_
      refine r_puti (pc := 69) q fX12_106 (kz := 0) rfl (by decide) rfl hM.o dX12_of_69 (fun h0 eh0 => ?_)
      refine r_iload_3 (pc := 72) q dX12_of_72 ?_
      refine r_if_ne (pc := 73) q 78 dX12_of_73 (by decide) ⟨by omega, by omega⟩ (fun c73 => ?_) (fun c73 => ?_)
      · exact absurd rfl c73
      refine r_iconst (pc := 76) q dX12_of_76 ?_
      refine r_ireturn (pc := 77) q rt dX12_of_77 ?_
      exact Or.inl ⟨hn, eh0⟩
    exact absurd rfl c61
  have yes : (0 ≤ l1 ∧ l1 < h m 5 ∧ ((0 ≤ w ∧ w ≤ 1) ∨ (10 ≤ w ∧ w < 9 + h (m + 5) l1) ∨ (20 ≤ w ∧ w < 20 + h (m + 5) l1))) → G X 0 0 58 [some (.ref m), some (.int (iI l1)), some (.int (iI w)), none] [.int (iI 1)] sz S r h := by
    intro hy
    have b := L2 l1 hy.1 hy.2.1
    refine r_istore_3 (pc := 58) q dX12_of_58 rfl ?_
    refine r_aload_0 (pc := 59) q dX12_of_59 ?_
    refine r_iload_3 (pc := 60) q dX12_of_60 ?_
    refine r_if_eq (pc := 61) q 68 dX12_of_61 (by decide) ⟨by omega, by omega⟩ (fun c61 => ?_) (fun c61 => ?_)
    · exact absurd c61 (by decide)
    refine r_iconst (pc := 64) q dX12_of_64 ?_
    refine r_goto (pc := 65) (tgt := 69) q dX12_of_65 (by decide) ?_
    refine r_puti (pc := 69) q fX12_106 (kz := 0) rfl (by decide) rfl hM.o dX12_of_69 (fun h0 eh0 => ?_)
    obtain ⟨f0, f1⟩ := th0 eh0
    refine r_iload_3 (pc := 72) q dX12_of_72 ?_
    refine r_if_ne (pc := 73) q 78 dX12_of_73 (by decide) ⟨by omega, by omega⟩ (fun c73 => ?_) (fun c73 => ?_)
    · refine r_iload_2 (pc := 78) q dX12_of_78 ?_
      refine r_if_ne (pc := 79) q 91 dX12_of_79 (by decide) ⟨by omega, by omega⟩ (fun c79 => ?_) (fun c79 => ?_)
      · refine r_iload_2 (pc := 91) q dX12_of_91 ?_
        refine r_iconst (pc := 92) q dX12_of_92 ?_
        refine r_icmp_ne (pc := 93) q 105 dX12_of_93 (by decide) ⟨by omega, by omega⟩ ⟨by omega, by omega⟩ (fun c93 => ?_) (fun c93 => ?_)
        · refine r_iload_2 (pc := 105) q dX12_of_105 ?_
          refine r_bipush (pc := 106) q dX12_of_106 (by decide) ?_
          refine r_icmp_ge (pc := 108) q 123 dX12_of_108 (by decide) ⟨by omega, by omega⟩ ⟨by omega, by omega⟩ (fun c108 => ?_) (fun c108 => ?_)
          · refine r_aload_0 (pc := 123) q dX12_of_123 ?_
            refine r_getr (pc := 124) q fX12_26 (kz := 8) rfl (by decide) rfl hM.o hM.r_name dX12_of_124 ?_
            refine r_bipush (pc := 127) q dX12_of_127 (by decide) ?_
            refine r_iload_1 (pc := 129) q dX12_of_129 ?_
            refine r_imul (pc := 130) q dX12_of_130 ?_
            refine r_iload_2 (pc := 131) q dX12_of_131 ?_
            refine r_iadd (pc := 132) q dX12_of_132 ?_
            refine r_bipush (pc := 133) q dX12_of_133 (by decide) ?_
            refine r_isub (pc := 135) q dX12_of_135 ?_
            refine r_lald (pc := 136) q hM.s_name (by omega) (by omega) dX12_of_136 ?_
            refine r_top (v2 := .long (lI (h (m + 6) (10 * l1 + (w - 20))))) (by rw [f0 (m + 6) (by omega), show 10 * l1 + w - 20 = 10 * l1 + (w - 20) by omega]) ?_
            refine r_sI1 (pc := 137) q (c_X12_letters (hN l1 (w - 20) hy.1 hy.2.1 (by omega) (by omega))) mX12_124 (by decide) (Nat.le_of_ble_eq_true rfl) rfl dX12_of_137 (fun z1 h1 hz1 => ?_)
            obtain ⟨rfl, rfl⟩ := hz1
            refine r_ireturn (pc := 140) q rt dX12_of_140 ?_
            exact Or.inr ⟨hy, eh0, by rw [if_neg (by omega), if_neg (by omega), if_neg (by omega)]⟩
          refine r_aload_0 (pc := 111) q dX12_of_111 ?_
          refine r_iload_1 (pc := 112) q dX12_of_112 ?_
          refine r_iload_2 (pc := 113) q dX12_of_113 ?_
          refine r_bipush (pc := 114) q dX12_of_114 (by decide) ?_
          refine r_isub (pc := 116) q dX12_of_116 ?_
          refine r_cI2 (pc := 117) q (c_X12_valueOf hM (by omega) (by omega) (by omega) (by omega) (by have := hU l1 (w - 10) hy.1 hy.2.1 (by omega) (by omega); unfold nuR at this ⊢; rw [f0 (m + 7) (by omega), f0 (m + 8) (by omega)]; exact this)) mX12_201 hM.o (by decide) (Nat.le_of_ble_eq_true rfl) rfl dX12_of_117 (fun z2 h2 hz2 => ?_)
          obtain ⟨rfl, rfl⟩ := hz2
          refine r_goto (pc := 120) (tgt := 140) q dX12_of_120 (by decide) ?_
          refine r_ireturn (pc := 140) q rt dX12_of_140 ?_
          exact Or.inr ⟨hy, eh0, by rw [if_neg (by omega), if_neg (by omega), if_pos (by omega), f0 (m + 7) (by omega), f0 (m + 8) (by omega)]⟩
        refine r_aload_0 (pc := 96) q dX12_of_96 ?_
        refine r_getr (pc := 97) q fX12_23 (kz := 7) rfl (by decide) rfl hM.o hM.r_stations dX12_of_97 ?_
        refine r_iload_1 (pc := 100) q dX12_of_100 ?_
        refine r_iald (pc := 101) q hM.s_stations (by omega) (by omega) dX12_of_101 ?_
        rw [f0 (m + 5) (by omega)]
        refine r_goto (pc := 102) (tgt := 140) q dX12_of_102 (by decide) ?_
        refine r_ireturn (pc := 140) q rt dX12_of_140 ?_
        exact Or.inr ⟨hy, eh0, by rw [if_neg (by omega), if_pos (by omega)]⟩
      refine r_aload_0 (pc := 82) q dX12_of_82 ?_
      refine r_getr (pc := 83) q fX12_20 (kz := 6) rfl (by decide) rfl hM.o hM.r_unit dX12_of_83 ?_
      refine r_iload_1 (pc := 86) q dX12_of_86 ?_
      refine r_iald (pc := 87) q hM.s_unit (by omega) (by omega) dX12_of_87 ?_
      rw [f0 (m + 4) (by omega)]
      refine r_goto (pc := 88) (tgt := 140) q dX12_of_88 (by decide) ?_
      refine r_ireturn (pc := 140) q rt dX12_of_140 ?_
      exact Or.inr ⟨hy, eh0, by rw [if_pos (by omega)]⟩
    exact absurd c73 (by decide)
  refine r_aload_0 (pc := 0) q dX12_of_0 ?_
  refine r_iload_1 (pc := 1) q dX12_of_1 ?_
  refine r_cI1 (pc := 2) q (c_X12_isList (by first | assumption | exact ⟨by omega, by omega⟩ | omega) (by first | assumption | exact ⟨by omega, by omega⟩ | omega) (by first | assumption | exact ⟨by omega, by omega⟩ | omega) (by first | assumption | exact ⟨by omega, by omega⟩ | omega)) mX12_167 hM.o (by decide) (Nat.le_of_ble_eq_true rfl) rfl dX12_of_2 (fun z1 h1 hz1 => ?_)
  obtain ⟨hz1, rfl⟩ := hz1
  refine r_if_eq (pc := 5) q 57 dX12_of_5 (by decide) ⟨by omega, by omega⟩ (fun c5 => ?_) (fun c5 => ?_)
  · refine r_iconst (pc := 57) q dX12_of_57 ?_
    exact no (by omega)
  have b := L2 l1 (by omega) (by omega)
  refine r_iload_2 (pc := 8) q dX12_of_8 ?_
  refine r_iconst (pc := 9) q dX12_of_9 ?_
  refine r_iconst (pc := 10) q dX12_of_10 ?_
  refine r_sI3 (pc := 11) q (c_X12_within (by first | assumption | exact ⟨by omega, by omega⟩ | omega) (by first | assumption | exact ⟨by omega, by omega⟩ | omega) (by first | assumption | exact ⟨by omega, by omega⟩ | omega)) mX12_112 (by decide) (Nat.le_of_ble_eq_true rfl) rfl dX12_of_11 (fun z2 h2 hz2 => ?_)
  obtain ⟨hz2, rfl⟩ := hz2
  refine r_if_ne (pc := 14) q 53 dX12_of_14 (by decide) ⟨by omega, by omega⟩ (fun c14 => ?_) (fun c14 => ?_)
  · refine r_iconst (pc := 53) q dX12_of_53 ?_
    refine r_goto (pc := 54) (tgt := 58) q dX12_of_54 (by decide) ?_
    exact yes (by omega)
  refine r_iload_2 (pc := 17) q dX12_of_17 ?_
  refine r_bipush (pc := 18) q dX12_of_18 (by decide) ?_
  refine r_bipush (pc := 20) q dX12_of_20 (by decide) ?_
  refine r_aload_0 (pc := 22) q dX12_of_22 ?_
  refine r_getr (pc := 23) q fX12_23 (kz := 7) rfl (by decide) rfl hM.o hM.r_stations dX12_of_23 ?_
  refine r_iload_1 (pc := 26) q dX12_of_26 ?_
  refine r_iald (pc := 27) q hM.s_stations (by omega) (by omega) dX12_of_27 ?_
  refine r_iadd (pc := 28) q dX12_of_28 ?_
  refine r_sI3 (pc := 29) q (c_X12_within (by first | assumption | exact ⟨by omega, by omega⟩ | omega) (by first | assumption | exact ⟨by omega, by omega⟩ | omega) (by first | assumption | exact ⟨by omega, by omega⟩ | omega)) mX12_112 (by decide) (Nat.le_of_ble_eq_true rfl) rfl dX12_of_29 (fun z3 h3 hz3 => ?_)
  obtain ⟨hz3, rfl⟩ := hz3
  refine r_if_ne (pc := 32) q 53 dX12_of_32 (by decide) ⟨by omega, by omega⟩ (fun c32 => ?_) (fun c32 => ?_)
  · refine r_iconst (pc := 53) q dX12_of_53 ?_
    refine r_goto (pc := 54) (tgt := 58) q dX12_of_54 (by decide) ?_
    exact yes (by omega)
  refine r_iload_2 (pc := 35) q dX12_of_35 ?_
  refine r_bipush (pc := 36) q dX12_of_36 (by decide) ?_
  refine r_bipush (pc := 38) q dX12_of_38 (by decide) ?_
  refine r_aload_0 (pc := 40) q dX12_of_40 ?_
  refine r_getr (pc := 41) q fX12_23 (kz := 7) rfl (by decide) rfl hM.o hM.r_stations dX12_of_41 ?_
  refine r_iload_1 (pc := 44) q dX12_of_44 ?_
  refine r_iald (pc := 45) q hM.s_stations (by omega) (by omega) dX12_of_45 ?_
  refine r_iadd (pc := 46) q dX12_of_46 ?_
  refine r_sI3 (pc := 47) q (c_X12_within (by first | assumption | exact ⟨by omega, by omega⟩ | omega) (by first | assumption | exact ⟨by omega, by omega⟩ | omega) (by first | assumption | exact ⟨by omega, by omega⟩ | omega)) mX12_112 (by decide) (Nat.le_of_ble_eq_true rfl) rfl dX12_of_47 (fun z4 h4 hz4 => ?_)
  obtain ⟨hz4, rfl⟩ := hz4
  refine r_if_eq (pc := 50) q 57 dX12_of_50 (by decide) ⟨by omega, by omega⟩ (fun c50 => ?_) (fun c50 => ?_)
  · refine r_iconst (pc := 57) q dX12_of_57 ?_
    exact no (by omega)
  refine r_iconst (pc := 53) q dX12_of_53 ?_
  refine r_goto (pc := 54) (tgt := 58) q dX12_of_54 (by decide) ?_
  exact yes (by omega)
