theorem c_X12_place {l : Launch} {D : va_G} {aC : Nat → ClassId} {B t sz : Nat} {S : sS} {r : sR} {h : sH} {m : Nat} (hM : LX12 S r m) : CtI l yX12_place cX12_place 1 (some .int) 0 0 [.ref m] D aC B t sz S r h (fun z h1 => z = h m 12 ∧ h1 = pf h m 0 0) := by
  unfold CtI
  refine Ct.of (lv := [some (.ref m)]) (by decide +kernel) rfl (Nat.le_of_ble_eq_true rfl) (fun X hl q rt hnm => ?_)
  refine r_aload_0 (pc := 0) q dX12_place_0 ?_
  refine r_iconst (pc := 1) q dX12_place_1 ?_
  refine r_puti (pc := 2) q fX12_106 (kz := 0) rfl (by decide) rfl hM.o dX12_place_2 (fun h0 eh0 => ?_)
  refine r_aload_0 (pc := 5) q dX12_place_5 ?_
  refine r_geti (pc := 6) q fX12_36 (kz := 12) rfl (by decide) rfl hM.o dX12_place_6 ?_
  refine r_ireturn (pc := 9) q rt dX12_place_9 ?_
  exact ⟨(th0 eh0).2 12 (by decide), eh0⟩
theorem c_X12_thrown {l : Launch} {D : va_G} {aC : Nat → ClassId} {B t sz : Nat} {S : sS} {r : sR} {h : sH} {m : Nat} (hM : LX12 S r m) : CtI l yX12_thrown cX12_thrown 1 (some .int) 0 0 [.ref m] D aC B t sz S r h (fun z h1 => h m 0 = z ∧ h = h1) := by
  unfold CtI
  refine Ct.of (lv := [some (.ref m)]) (by decide +kernel) rfl (Nat.le_of_ble_eq_true rfl) (fun X hl q rt hnm => ?_)
  refine r_aload_0 (pc := 0) q dX12_thrown_0 ?_
  refine r_geti (pc := 1) q fX12_106 (kz := 0) rfl (by decide) rfl hM.o dX12_thrown_1 ?_
  refine r_ireturn (pc := 4) q rt dX12_thrown_4 ?_
  exact ⟨rfl, rfl⟩
theorem c_X12_wrong {l : Launch} {D : va_G} {aC : Nat → ClassId} {B t sz : Nat} {S : sS} {r : sR} {h : sH} {m : Nat} {k p : Int} (hM : LX12 S r m) : CtI l yX12_wrong cX12_wrong 3 (some .boolean) 0 0 [.ref m, .int (iI k), .int (iI p)] D aC B t sz S r h (fun z h1 => z = 0 ∧ h1 = pf (pf h m 11 k) m 12 p) := by
  unfold CtI
  refine Ct.of (lv := [some (.ref m), some (.int (iI k)), some (.int (iI p))]) (by decide +kernel) rfl (Nat.le_of_ble_eq_true rfl) (fun X hl q rt hnm => ?_)
  refine r_aload_0 (pc := 0) q dX12_wrong_0 ?_
  refine r_iload_1 (pc := 1) q dX12_wrong_1 ?_
  refine r_puti (pc := 2) q fX12_141 (kz := 11) rfl (by decide) rfl hM.o dX12_wrong_2 (fun h0 eh0 => ?_)
  refine r_aload_0 (pc := 5) q dX12_wrong_5 ?_
  refine r_iload_2 (pc := 6) q dX12_wrong_6 ?_
  refine r_puti (pc := 7) q fX12_36 (kz := 12) rfl (by decide) rfl hM.o dX12_wrong_7 (fun h1 eh1 => ?_)
  refine r_iconst (pc := 10) q dX12_wrong_10 ?_
  refine r_zreturn (pc := 11) q rt dX12_wrong_11 (by decide) ?_
  exact ⟨rfl, by rw [eh1, eh0]⟩
theorem c_X12_costs {l : Launch} {D : va_G} {aC : Nat → ClassId} {B t sz : Nat} {S : sS} {r : sR} {h : sH} {m : Nat} {a b : Int} (hM : LX12 S r m) (ha : inR a) (hb : inR b) : CtI l yX12_costs cX12_costs 3 (some .boolean) 1 22 [.ref m, .int (iI a), .int (iI b)] D aC B t sz S r h (fun z h1 => (0 ≤ a ∧ a ≤ 50 ∧ 0 ≤ b ∧ b ≤ 50 ∧ z = 1 ∧ h1 = pf (pf (pf h m 0 0) m 27 a) m 28 b) ∨ (¬ (0 ≤ a ∧ a ≤ 50 ∧ 0 ≤ b ∧ b ≤ 50) ∧ z = 0 ∧ h1 = pf h m 0 0)) := by
  unfold CtI
  refine Ct.of (lv := [some (.ref m), some (.int (iI a)), some (.int (iI b))]) (by decide +kernel) rfl (Nat.le_of_ble_eq_true rfl) (fun X hl q rt hnm => ?_)
  refine r_aload_0 (pc := 0) q dX12_costs_0 ?_
  refine r_iconst (pc := 1) q dX12_costs_1 ?_
  refine r_puti (pc := 2) q fX12_106 (kz := 0) rfl (by decide) rfl hM.o dX12_costs_2 (fun h0 eh0 => ?_)
  refine r_iload_1 (pc := 5) q dX12_costs_5 ?_
  refine r_iconst (pc := 6) q dX12_costs_6 ?_
  refine r_bipush (pc := 7) q dX12_costs_7 (by decide) ?_
  refine r_sI3 (pc := 9) q (c_X12_within (by first | assumption | exact ⟨by omega, by omega⟩ | omega) (by first | assumption | exact ⟨by omega, by omega⟩ | omega) (by first | assumption | exact ⟨by omega, by omega⟩ | omega)) mX12_112 (by decide) (Nat.le_of_ble_eq_true rfl) rfl dX12_costs_9 (fun z1 h1 hz1 => ?_)
  obtain ⟨hz1, rfl⟩ := hz1
  refine r_if_eq (pc := 12) q 25 dX12_costs_12 (by decide) ⟨by omega, by omega⟩ (fun c12 => ?_) (fun c12 => ?_)
  · refine r_iconst (pc := 25) q dX12_costs_25 ?_
    refine r_zreturn (pc := 26) q rt dX12_costs_26 (by decide) ?_
    exact Or.inr ⟨by omega, rfl, eh0⟩
  refine r_iload_2 (pc := 15) q dX12_costs_15 ?_
  refine r_iconst (pc := 16) q dX12_costs_16 ?_
  refine r_bipush (pc := 17) q dX12_costs_17 (by decide) ?_
  refine r_sI3 (pc := 19) q (c_X12_within (by first | assumption | exact ⟨by omega, by omega⟩ | omega) (by first | assumption | exact ⟨by omega, by omega⟩ | omega) (by first | assumption | exact ⟨by omega, by omega⟩ | omega)) mX12_112 (by decide) (Nat.le_of_ble_eq_true rfl) rfl dX12_costs_19 (fun z2 h2 hz2 => ?_)
  obtain ⟨hz2, rfl⟩ := hz2
  refine r_if_ne (pc := 22) q 27 dX12_costs_22 (by decide) ⟨by omega, by omega⟩ (fun c22 => ?_) (fun c22 => ?_)
  · refine r_aload_0 (pc := 27) q dX12_costs_27 ?_
    refine r_iload_1 (pc := 28) q dX12_costs_28 ?_
    refine r_puti (pc := 29) q fX12_70 (kz := 27) rfl (by decide) rfl hM.o dX12_costs_29 (fun h1 eh1 => ?_)
    refine r_aload_0 (pc := 32) q dX12_costs_32 ?_
    refine r_iload_2 (pc := 33) q dX12_costs_33 ?_
    refine r_puti (pc := 34) q fX12_73 (kz := 28) rfl (by decide) rfl hM.o dX12_costs_34 (fun h2 eh2 => ?_)
    refine r_iconst (pc := 37) q dX12_costs_37 ?_
    refine r_zreturn (pc := 38) q rt dX12_costs_38 (by decide) ?_
    exact Or.inl ⟨by omega, by omega, by omega, by omega, rfl, by rw [eh2, eh1, eh0]⟩
  refine r_iconst (pc := 25) q dX12_costs_25 ?_
  refine r_zreturn (pc := 26) q rt dX12_costs_26 (by decide) ?_
  exact Or.inr ⟨by omega, rfl, eh0⟩
theorem c_X12_day {l : Launch} {D : va_G} {aC : Nat → ClassId} {B t sz : Nat} {S : sS} {r : sR} {h : sH} {m : Nat} {n : Int} (hM : LX12 S r m) (hn : inR n) (N0 : 0 ≤ h m 29) (N1 : h m 29 ≤ 100000) : CtI l yX12_day cX12_day 2 (some .int) 1 22 [.ref m, .int (iI n)] D aC B t sz S r h (fun z h1 => (0 ≤ n ∧ n ≤ 1000 ∧ h m 29 + n ≤ 100000 ∧ z = h m 29 + n ∧ h1 = pf (pf h m 0 0) m 29 (h m 29 + n)) ∨ (¬ (0 ≤ n ∧ n ≤ 1000 ∧ h m 29 + n ≤ 100000) ∧ z = -1 ∧ h1 = pf h m 0 0)) := by
  unfold CtI
  refine Ct.of (lv := [some (.ref m), some (.int (iI n))]) (by decide +kernel) rfl (Nat.le_of_ble_eq_true rfl) (fun X hl q rt hnm => ?_)
  refine r_aload_0 (pc := 0) q dX12_day_0 ?_
  refine r_iconst (pc := 1) q dX12_day_1 ?_
  refine r_puti (pc := 2) q fX12_106 (kz := 0) rfl (by decide) rfl hM.o dX12_day_2 (fun h0 eh0 => ?_)
  obtain ⟨f0, f1⟩ := th0 eh0
  have f29 := f1 29 (by decide)
  refine r_iload_1 (pc := 5) q dX12_day_5 ?_
  refine r_iconst (pc := 6) q dX12_day_6 ?_
  refine r_sipush (pc := 7) q dX12_day_7 (by decide) ?_
  refine r_sI3 (pc := 10) q (c_X12_within (by first | assumption | exact ⟨by omega, by omega⟩ | omega) (by first | assumption | exact ⟨by omega, by omega⟩ | omega) (by first | assumption | exact ⟨by omega, by omega⟩ | omega)) mX12_112 (by decide) (Nat.le_of_ble_eq_true rfl) rfl dX12_day_10 (fun z1 h1 hz1 => ?_)
  obtain ⟨hz1, rfl⟩ := hz1
  refine r_if_eq (pc := 13) q 27 dX12_day_13 (by decide) ⟨by omega, by omega⟩ (fun c13 => ?_) (fun c13 => ?_)
  · refine r_iconst (pc := 27) q dX12_day_27 ?_
    refine r_ireturn (pc := 28) q rt dX12_day_28 ?_
    exact Or.inr ⟨by omega, rfl, eh0⟩
  refine r_aload_0 (pc := 16) q dX12_day_16 ?_
  refine r_geti (pc := 17) q fX12_181 (kz := 29) rfl (by decide) rfl hM.o dX12_day_17 ?_
  refine r_iload_1 (pc := 20) q dX12_day_20 ?_
  refine r_iadd (pc := 21) q dX12_day_21 ?_
  refine r_ldc (pc := 22) q kX12_190 dX12_day_22 ?_
  refine r_icmp_le (pc := 24) q 29 dX12_day_24 (by decide) ⟨by omega, by omega⟩ ⟨by omega, by omega⟩ (fun c24 => ?_) (fun c24 => ?_)
  · refine r_aload_0 (pc := 29) q dX12_day_29 ?_
    refine r_dup (pc := 30) q dX12_day_30 rfl ?_
    refine r_geti (pc := 31) q fX12_181 (kz := 29) rfl (by decide) rfl hM.o dX12_day_31 ?_
    refine r_iload_1 (pc := 34) q dX12_day_34 ?_
    refine r_iadd (pc := 35) q dX12_day_35 ?_
    refine r_puti (pc := 36) q fX12_181 (kz := 29) rfl (by decide) rfl hM.o dX12_day_36 (fun h1 eh1 => ?_)
    have g29 : h1 m 29 = h0 m 29 + n := by rw [eh1]; exact pf_s _ _ _ _
    refine r_aload_0 (pc := 39) q dX12_day_39 ?_
    refine r_geti (pc := 40) q fX12_181 (kz := 29) rfl (by decide) rfl hM.o dX12_day_40 ?_
    refine r_ireturn (pc := 43) q rt dX12_day_43 ?_
    exact Or.inl ⟨by omega, by omega, by omega, by omega, by rw [eh1, f29, eh0]⟩
  refine r_iconst (pc := 27) q dX12_day_27 ?_
  refine r_ireturn (pc := 28) q rt dX12_day_28 ?_
  exact Or.inr ⟨by omega, rfl, eh0⟩
theorem c_X12_habit {l : Launch} {D : va_G} {aC : Nat → ClassId} {B t sz : Nat} {S : sS} {r : sR} {h : sH} {m : Nat} {a b c : Int} (hM : LX12 S r m) (ha : inR a) (hb : inR b) (hc : inR c) (H0 : 0 ≤ h m 23) (H1 : h m 23 ≤ 20) : CtI l yX12_habit cX12_habit 4 (some .int) 1 22 [.ref m, .int (iI a), .int (iI b), .int (iI c)] D aC B t sz S r h (fun z h1 => ((0 ≤ a ∧ a ≤ 4 ∧ 0 ≤ b ∧ b ≤ 4 ∧ a ≠ b ∧ 1 ≤ c ∧ c ≤ 20 ∧ h m 23 < 20) ∧ z = h m 23 ∧ h1 = pf (pf (pf (pf (pf h m 0 0) (m + 16) (h m 23) a) (m + 17) (h m 23) b) (m + 18) (h m 23) c) m 23 (h m 23 + 1)) ∨ (¬ (0 ≤ a ∧ a ≤ 4 ∧ 0 ≤ b ∧ b ≤ 4 ∧ a ≠ b ∧ 1 ≤ c ∧ c ≤ 20 ∧ h m 23 < 20) ∧ z = -1 ∧ h1 = pf h m 0 0)) := by
  unfold CtI
  refine Ct.of (lv := [some (.ref m), some (.int (iI a)), some (.int (iI b)), some (.int (iI c))]) (by decide +kernel) rfl (Nat.le_of_ble_eq_true rfl) (fun X hl q rt hnm => ?_)
  obtain ⟨a0, a1⟩ := id ha
  obtain ⟨b0, b1⟩ := id hb
  refine r_aload_0 (pc := 0) q dX12_habit_0 ?_
  refine r_iconst (pc := 1) q dX12_habit_1 ?_
  refine r_puti (pc := 2) q fX12_106 (kz := 0) rfl (by decide) rfl hM.o dX12_habit_2 (fun h0 eh0 => ?_)
  obtain ⟨f0, f1⟩ := th0 eh0
  have f23 := f1 23 (by decide)
  refine r_iload_1 (pc := 5) q dX12_habit_5 ?_
  refine r_iconst (pc := 6) q dX12_habit_6 ?_
  refine r_iconst (pc := 7) q dX12_habit_7 ?_
  refine r_sI3 (pc := 8) q (c_X12_within (by first | assumption | exact ⟨by omega, by omega⟩ | omega) (by first | assumption | exact ⟨by omega, by omega⟩ | omega) (by first | assumption | exact ⟨by omega, by omega⟩ | omega)) mX12_112 (by decide) (Nat.le_of_ble_eq_true rfl) rfl dX12_habit_8 (fun z1 h1 hz1 => ?_)
  obtain ⟨hz1, rfl⟩ := hz1
  refine r_if_eq (pc := 11) q 47 dX12_habit_11 (by decide) ⟨by omega, by omega⟩ (fun c11 => ?_) (fun c11 => ?_)
  · refine r_iconst (pc := 47) q dX12_habit_47 ?_
    refine r_ireturn (pc := 48) q rt dX12_habit_48 ?_
    exact Or.inr ⟨by omega, rfl, eh0⟩
  refine r_iload_2 (pc := 14) q dX12_habit_14 ?_
  refine r_iconst (pc := 15) q dX12_habit_15 ?_
  refine r_iconst (pc := 16) q dX12_habit_16 ?_
  refine r_sI3 (pc := 17) q (c_X12_within (by first | assumption | exact ⟨by omega, by omega⟩ | omega) (by first | assumption | exact ⟨by omega, by omega⟩ | omega) (by first | assumption | exact ⟨by omega, by omega⟩ | omega)) mX12_112 (by decide) (Nat.le_of_ble_eq_true rfl) rfl dX12_habit_17 (fun z2 h2 hz2 => ?_)
  obtain ⟨hz2, rfl⟩ := hz2
  refine r_if_eq (pc := 20) q 47 dX12_habit_20 (by decide) ⟨by omega, by omega⟩ (fun c20 => ?_) (fun c20 => ?_)
  · refine r_iconst (pc := 47) q dX12_habit_47 ?_
    refine r_ireturn (pc := 48) q rt dX12_habit_48 ?_
    exact Or.inr ⟨by omega, rfl, eh0⟩
  refine r_iload_1 (pc := 23) q dX12_habit_23 ?_
  refine r_iload_2 (pc := 24) q dX12_habit_24 ?_
  refine r_icmp_eq (pc := 25) q 47 dX12_habit_25 (by decide) ⟨by omega, by omega⟩ ⟨by omega, by omega⟩ (fun c25 => ?_) (fun c25 => ?_)
  · refine r_iconst (pc := 47) q dX12_habit_47 ?_
    refine r_ireturn (pc := 48) q rt dX12_habit_48 ?_
    exact Or.inr ⟨by omega, rfl, eh0⟩
  refine r_iload_3 (pc := 28) q dX12_habit_28 ?_
  refine r_iconst (pc := 29) q dX12_habit_29 ?_
  refine r_bipush (pc := 30) q dX12_habit_30 (by decide) ?_
  refine r_sI3 (pc := 32) q (c_X12_within (by first | assumption | exact ⟨by omega, by omega⟩ | omega) (by first | assumption | exact ⟨by omega, by omega⟩ | omega) (by first | assumption | exact ⟨by omega, by omega⟩ | omega)) mX12_112 (by decide) (Nat.le_of_ble_eq_true rfl) rfl dX12_habit_32 (fun z3 h3 hz3 => ?_)
  obtain ⟨hz3, rfl⟩ := hz3
  refine r_if_eq (pc := 35) q 47 dX12_habit_35 (by decide) ⟨by omega, by omega⟩ (fun c35 => ?_) (fun c35 => ?_)
  · refine r_iconst (pc := 47) q dX12_habit_47 ?_
    refine r_ireturn (pc := 48) q rt dX12_habit_48 ?_
    exact Or.inr ⟨by omega, rfl, eh0⟩
  refine r_aload_0 (pc := 38) q dX12_habit_38 ?_
  refine r_geti (pc := 39) q fX12_187 (kz := 23) rfl (by decide) rfl hM.o dX12_habit_39 ?_
  refine r_bipush (pc := 42) q dX12_habit_42 (by decide) ?_
  refine r_icmp_ne (pc := 44) q 49 dX12_habit_44 (by decide) ⟨by omega, by omega⟩ ⟨by omega, by omega⟩ (fun c44 => ?_) (fun c44 => ?_)
  · refine r_aload_0 (pc := 49) q dX12_habit_49 ?_
    refine r_getr (pc := 50) q fX12_61 (kz := 24) rfl (by decide) rfl hM.o hM.r_truly dX12_habit_50 ?_
    refine r_aload_0 (pc := 53) q dX12_habit_53 ?_
    refine r_geti (pc := 54) q fX12_187 (kz := 23) rfl (by decide) rfl hM.o dX12_habit_54 ?_
    refine r_iload_1 (pc := 57) q dX12_habit_57 ?_
    refine r_iast (pc := 58) q hM.s_truly (by omega) (by omega) dX12_habit_58 (fun h1 eh1 => ?_)
    have g1 : h1 m 23 = h m 23 := by rw [eh1]; simp [up, f23]
    refine r_aload_0 (pc := 59) q dX12_habit_59 ?_
    refine r_getr (pc := 60) q fX12_64 (kz := 25) rfl (by decide) rfl hM.o hM.r_written dX12_habit_60 ?_
    refine r_aload_0 (pc := 63) q dX12_habit_63 ?_
    refine r_geti (pc := 64) q fX12_187 (kz := 23) rfl (by decide) rfl hM.o dX12_habit_64 ?_
    refine r_iload_2 (pc := 67) q dX12_habit_67 ?_
    refine r_iast (pc := 68) q hM.s_written (by omega) (by omega) dX12_habit_68 (fun h2 eh2 => ?_)
    have g2 : h2 m 23 = h m 23 := by rw [eh2]; simp [up, g1]
    refine r_aload_0 (pc := 69) q dX12_habit_69 ?_
    refine r_getr (pc := 70) q fX12_67 (kz := 26) rfl (by decide) rfl hM.o hM.r_habitCost dX12_habit_70 ?_
    refine r_aload_0 (pc := 73) q dX12_habit_73 ?_
    refine r_geti (pc := 74) q fX12_187 (kz := 23) rfl (by decide) rfl hM.o dX12_habit_74 ?_
    refine r_iload_3 (pc := 77) q dX12_habit_77 ?_
    refine r_iast (pc := 78) q hM.s_habitCost (by omega) (by omega) dX12_habit_78 (fun h3 eh3 => ?_)
    have g3 : h3 m 23 = h m 23 := by rw [eh3]; simp [up, g2]
    refine r_aload_0 (pc := 79) q dX12_habit_79 ?_
    refine r_dup (pc := 80) q dX12_habit_80 rfl ?_
    refine r_geti (pc := 81) q fX12_187 (kz := 23) rfl (by decide) rfl hM.o dX12_habit_81 ?_
    refine r_iconst (pc := 84) q dX12_habit_84 ?_
    refine r_iadd (pc := 85) q dX12_habit_85 ?_
    refine r_puti (pc := 86) q fX12_187 (kz := 23) rfl (by decide) rfl hM.o dX12_habit_86 (fun h4 eh4 => ?_)
    have g4 : h4 m 23 = h3 m 23 + 1 := by rw [eh4]; exact pf_s _ _ _ _
    refine r_aload_0 (pc := 89) q dX12_habit_89 ?_
    refine r_geti (pc := 90) q fX12_187 (kz := 23) rfl (by decide) rfl hM.o dX12_habit_90 ?_
    refine r_iconst (pc := 93) q dX12_habit_93 ?_
    refine r_isub (pc := 94) q dX12_habit_94 ?_
    refine r_ireturn (pc := 95) q rt dX12_habit_95 ?_
    exact Or.inl ⟨by omega, by omega, by rw [eh4, g3, eh3, g2, eh2, g1, eh1, f23, eh0]⟩
  refine r_iconst (pc := 47) q dX12_habit_47 ?_
  refine r_ireturn (pc := 48) q rt dX12_habit_48 ?_
  exact Or.inr ⟨by omega, rfl, eh0⟩
