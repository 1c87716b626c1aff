theorem isNm_NmP {f : Int → Int} {n : Int} (e : isNm f 0 n) : NmP (nk f n.toNat) f n := ⟨by have := e.1; omega, by have := e.2.1; omega, fun i i0 i1 => e.2.2 i i0 i1, rfl⟩
/-- what the tape's name is -/
def tnP (f : Int → Int) (n z : Int) : Prop := (¬ isNm f 0 n ∧ z = 0) ∨ (isNm f 0 n ∧ NmP z f n ∧ 0 < z ∧ z ≤ 9223372036854775807)
theorem tnP_of {f : Int → Int} {n z : Int} (a : isNm f 0 n → z = nk f n.toNat) (b : ¬ isNm f 0 n → z = 0) : tnP f n z := by
  by_cases e : isNm f 0 n
  · have := isNm_NmP e
    rw [← a e] at this
    exact Or.inr ⟨e, this, this.nn, this.lt⟩
  · exact Or.inl ⟨e, b e⟩
theorem bA_th {h h0 : sH} {m : Nat} (e : h0 = up h m (up (h m) 0 0)) : bA h0 m = bA h m := by
  obtain ⟨f0, f1⟩ := th0 e
  funext k
  unfold bA
  rw [f1 2 (by decide), f0 (m + 1) (by omega)]
def rnR (h : sH) (m : Nat) : Prop := 0 ≤ h m 14 ∧ h m 14 ≤ 12 ∧ ∀ k : Int, 0 ≤ k → k < h m 14 → 0 ≤ h (m + 9) k ∧ h (m + 9) k ≤ 600
theorem c_X12_ruin {l : Launch} {D : va_G} {aC : Nat → ClassId} {B t sz : Nat} {S : sS} {r : sR} {h : sH} {m : Nat} {p : Int} (hM : LX12 S r m) (t0 : 0 ≤ h m 2) (t1 : h m 2 ≤ 200) (hR : rnR h m) (hp : inR p) : CtI l yX12_ruin cX12_ruin 5 (some .int) 3 70 [.ref m, .int (iI p)] D aC B t sz S r h (fun z h1 => ((isNm (bA h m) 0 (h m 2) ∧ 0 ≤ p ∧ p ≤ 600 ∧ h m 14 < 12 ∧ ∀ k : Int, 0 ≤ k → k < h m 14 → h (m + 9) k ≠ p) ∧ z = h m 14 ∧ ∃ v : Int, NmP v (bA h m) (h m 2) ∧ h1 = pf (pf (pf (pf (pf (pf h m 0 0) m 2 0) (m + 9) (h m 14) p) (m + 10) (h m 14) v) (m + 11) (h m 14) (h m 29)) m 14 (h m 14 + 1)) ∨ (¬ (isNm (bA h m) 0 (h m 2) ∧ 0 ≤ p ∧ p ≤ 600 ∧ h m 14 < 12 ∧ ∀ k : Int, 0 ≤ k → k < h m 14 → h (m + 9) k ≠ p) ∧ z = -1 ∧ h1 = pf (pf h m 0 0) m 2 0)) := by
  unfold CtI
  refine Ct.of (lv := [some (.ref m), some (.int (iI p)), none, none, none]) (by decide +kernel) rfl (Nat.le_of_ble_eq_true rfl) (fun X hl q rt hnm => ?_)
  obtain ⟨R0, R1, R2⟩ := hR
  obtain ⟨p0, p1⟩ := id hp
  have lp : ∀ (v : Int) (h2 : sH), h2 = pf (pf h m 0 0) m 2 0 → isNm (bA h m) 0 (h m 2) → NmP v (bA h m) (h m 2) → 0 ≤ p → p ≤ 600 → h m 14 < 12 → ∀ (d j : Nat), (j : Int) + d = h m 14 → (∀ k : Int, 0 ≤ k → k < j → h (m + 9) k ≠ p) → G X 0 0 41 [some (.ref m), some (.int (iI p)), some (.long (lI v)), none, some (.int (iI j))] [] sz S r h2 := by
    intro v h2 eh2 hN hv q0 q1 r12
    have e14 : h2 m 14 = h m 14 := by rw [eh2]; simp [up]
    have e29 : h2 m 29 = h m 29 := by rw [eh2]; simp [up]
    have e9 : h2 (m + 9) = h (m + 9) := by rw [eh2]; simp [up]
    intro d
    induction d with
    | zero =>
      intro j hj hk
      refine r_iload_4 (pc := 41) q dX12_ruin_41 ?_
      refine r_aload_0 (pc := 43) q dX12_ruin_43 ?_
      refine r_geti (pc := 44) q fX12_178 (kz := 14) rfl (by decide) rfl hM.o dX12_ruin_44 ?_
      refine r_icmp_ge (pc := 47) q 69 dX12_ruin_47 (by decide) ⟨by omega, by omega⟩ ⟨by omega, by omega⟩ (fun c47 => ?_) (fun c47 => ?_)
      · refine r_aload_0 (pc := 69) q dX12_ruin_69 ?_
        refine r_getr (pc := 70) q fX12_40 (kz := 15) rfl (by decide) rfl hM.o hM.r_ruinAt dX12_ruin_70 ?_
        refine r_aload_0 (pc := 73) q dX12_ruin_73 ?_
        refine r_geti (pc := 74) q fX12_178 (kz := 14) rfl (by decide) rfl hM.o dX12_ruin_74 ?_
        refine r_iload_1 (pc := 77) q dX12_ruin_77 ?_
        refine r_iast (pc := 78) q hM.s_ruinAt (by omega) (by omega) dX12_ruin_78 (fun h3 eh3 => ?_)
        have g3 : h3 m 14 = h m 14 := by rw [eh3]; simp [up, e14]
        refine r_aload_0 (pc := 79) q dX12_ruin_79 ?_
        refine r_getr (pc := 80) q fX12_43 (kz := 16) rfl (by decide) rfl hM.o hM.r_ruinName dX12_ruin_80 ?_
        refine r_aload_0 (pc := 83) q dX12_ruin_83 ?_
        refine r_geti (pc := 84) q fX12_178 (kz := 14) rfl (by decide) rfl hM.o dX12_ruin_84 ?_
        refine r_lload_2 (pc := 87) q dX12_ruin_87 ?_
        refine r_last (pc := 88) q hM.s_ruinName (by omega) (by omega) dX12_ruin_88 (fun h4 eh4 => ?_)
        have g4 : h4 m 14 = h m 14 := by rw [eh4]; simp [up, g3]
        have g4b : h4 m 29 = h m 29 := by rw [eh4, eh3]; simp [up, e29]
        refine r_aload_0 (pc := 89) q dX12_ruin_89 ?_
        refine r_getr (pc := 90) q fX12_46 (kz := 17) rfl (by decide) rfl hM.o hM.r_ruinDay dX12_ruin_90 ?_
        refine r_aload_0 (pc := 93) q dX12_ruin_93 ?_
        refine r_geti (pc := 94) q fX12_178 (kz := 14) rfl (by decide) rfl hM.o dX12_ruin_94 ?_
        refine r_aload_0 (pc := 97) q dX12_ruin_97 ?_
        refine r_geti (pc := 98) q fX12_181 (kz := 29) rfl (by decide) rfl hM.o dX12_ruin_98 ?_
        refine r_iast (pc := 101) q hM.s_ruinDay (by omega) (by omega) dX12_ruin_101 (fun h5 eh5 => ?_)
        have g5 : h5 m 14 = h m 14 := by rw [eh5]; simp [up, g4]
        refine r_aload_0 (pc := 102) q dX12_ruin_102 ?_
        refine r_dup (pc := 103) q dX12_ruin_103 rfl ?_
        refine r_geti (pc := 104) q fX12_178 (kz := 14) rfl (by decide) rfl hM.o dX12_ruin_104 ?_
        refine r_iconst (pc := 107) q dX12_ruin_107 ?_
        refine r_iadd (pc := 108) q dX12_ruin_108 ?_
        refine r_puti (pc := 109) q fX12_178 (kz := 14) rfl (by decide) rfl hM.o dX12_ruin_109 (fun h6 eh6 => ?_)
        have g6 : h6 m 14 = h5 m 14 + 1 := by rw [eh6]; exact pf_s _ _ _ _
        refine r_aload_0 (pc := 112) q dX12_ruin_112 ?_
        refine r_geti (pc := 113) q fX12_178 (kz := 14) rfl (by decide) rfl hM.o dX12_ruin_113 ?_
        refine r_iconst (pc := 116) q dX12_ruin_116 ?_
        refine r_isub (pc := 117) q dX12_ruin_117 ?_
        refine r_ireturn (pc := 118) q rt dX12_ruin_118 ?_
        exact Or.inl ⟨⟨hN, q0, q1, r12, fun k k0 k1 => hk k k0 (by omega)⟩, by omega, v, hv, by rw [eh6, g5, eh5, g4, g4b, eh4, g3, eh3, e14, eh2]⟩
      exact absurd (show h2 m 14 ≤ (j : Int) by omega) c47
    | succ d ih =>
      intro j hj hk
      have b := R2 j (by omega) (by omega)
      refine r_iload_4 (pc := 41) q dX12_ruin_41 ?_
      refine r_aload_0 (pc := 43) q dX12_ruin_43 ?_
      refine r_geti (pc := 44) q fX12_178 (kz := 14) rfl (by decide) rfl hM.o dX12_ruin_44 ?_
      refine r_icmp_ge (pc := 47) q 69 dX12_ruin_47 (by decide) ⟨by omega, by omega⟩ ⟨by omega, by omega⟩ (fun c47 => ?_) (fun c47 => ?_)
      · exact absurd c47 (by omega)
      refine r_aload_0 (pc := 50) q dX12_ruin_50 ?_
      refine r_getr (pc := 51) q fX12_40 (kz := 15) rfl (by decide) rfl hM.o hM.r_ruinAt dX12_ruin_51 ?_
      refine r_iload_4 (pc := 54) q dX12_ruin_54 ?_
      refine r_iald (pc := 56) q hM.s_ruinAt (by omega) (by omega) dX12_ruin_56 ?_
      refine r_topi (congrFun e9 _) ?_
      refine r_iload_1 (pc := 57) q dX12_ruin_57 ?_
      refine r_icmp_ne (pc := 58) q 63 dX12_ruin_58 (by decide) ⟨by omega, by omega⟩ ⟨by omega, by omega⟩ (fun c58 => ?_) (fun c58 => ?_)
      · refine r_iinc_4 (pc := 63) q dX12_ruin_63 rfl ?_
        refine r_goto (pc := 66) (tgt := 41) q dX12_ruin_66 (by decide) ?_
        exact ih (j + 1) (by omega) (fun k k0 k1 => by
          by_cases e : k = j
          · rw [e]; exact c58
          · exact hk k k0 (by omega))
      refine r_iconst (pc := 61) q dX12_ruin_61 ?_
      refine r_ireturn (pc := 62) q rt dX12_ruin_62 ?_
      exact Or.inr ⟨fun e => e.2.2.2.2 j (by omega) (by omega) c58, rfl, eh2⟩
  refine r_aload_0 (pc := 0) q dX12_ruin_0 ?_
  refine r_iconst (pc := 1) q dX12_ruin_1 ?_
  refine r_puti (pc := 2) q fX12_106 (kz := 0) rfl (by decide) rfl hM.o dX12_ruin_2 (fun h0 eh0 => ?_)
  obtain ⟨f0, f1⟩ := th0 eh0
  have f2 := f1 2 (by decide)
  refine r_aload_0 (pc := 5) q dX12_ruin_5 ?_
  refine r_cL0 (pc := 6) q (c_X12_tapeName (by first | assumption | exact ⟨by omega, by omega⟩ | omega) (by first | assumption | exact ⟨by omega, by omega⟩ | omega) (by first | assumption | exact ⟨by omega, by omega⟩ | omega)) mX12_174 hM.o (by decide) (Nat.le_of_ble_eq_true rfl) rfl dX12_ruin_6 (fun z1 h1 hz1 => ?_)
  rw [bA_th eh0, f2] at hz1
  obtain ⟨⟨y1, y2⟩, eh1⟩ := hz1
  have zt := tnP_of y1 y2
  rw [eh0] at eh1
  have e14 : h1 m 14 = h m 14 := by rw [eh1]; simp [up]
  have zb : 0 ≤ z1 ∧ z1 ≤ 9223372036854775807 := by rcases zt with ⟨-, e⟩ | ⟨-, -, e1, e2⟩ <;> omega
  refine r_lstore_2 (pc := 9) q dX12_ruin_9 rfl ?_
  refine r_lload_2 (pc := 10) q dX12_ruin_10 ?_
  refine r_lconst (pc := 11) q dX12_ruin_11 (by decide) ?_
  refine r_lcmp (pc := 12) q dX12_ruin_12 ⟨by omega, by omega⟩ ⟨by decide, by decide⟩ ?_
  refine r_if_eq (pc := 13) q 36 dX12_ruin_13 (by decide) ⟨by have := cmpI_in z1 ((0 : Fin 2) : Nat); omega, by have := cmpI_in z1 ((0 : Fin 2) : Nat); omega⟩ (fun c13 => ?_) (fun c13 => ?_)
  · rw [cmpI_0] at c13
    have c13' : z1 = 0 := c13
    refine r_iconst (pc := 36) q dX12_ruin_36 ?_
    refine r_ireturn (pc := 37) q rt dX12_ruin_37 ?_
    refine Or.inr ⟨fun e => ?_, rfl, eh1⟩
    rcases zt with ⟨y3, -⟩ | ⟨-, -, y3, -⟩
    · exact y3 e.1
    · omega
  rw [cmpI_0] at c13
  have c13' : ¬ z1 = 0 := c13
  have zt2 : isNm (bA h m) 0 (h m 2) ∧ NmP z1 (bA h m) (h m 2) := by
    rcases zt with ⟨-, y3⟩ | ⟨y3, y4, -, -⟩
    · exact absurd y3 c13'
    · exact ⟨y3, y4⟩
  refine r_iload_1 (pc := 16) q dX12_ruin_16 ?_
  refine r_iconst (pc := 17) q dX12_ruin_17 ?_
  refine r_sipush (pc := 18) q dX12_ruin_18 (by decide) ?_
  refine r_sI3 (pc := 21) q (c_X12_within (by first | assumption | exact ⟨by omega, by omega⟩ | omega) (by first | assumption | exact ⟨by omega, by omega⟩ | omega) (by first | assumption | exact ⟨by omega, by omega⟩ | omega)) mX12_112 (by decide) (Nat.le_of_ble_eq_true rfl) rfl dX12_ruin_21 (fun z7 h7 hz7 => ?_)
  obtain ⟨hz7, rfl⟩ := hz7
  refine r_if_eq (pc := 24) q 36 dX12_ruin_24 (by decide) ⟨by omega, by omega⟩ (fun c24 => ?_) (fun c24 => ?_)
  · refine r_iconst (pc := 36) q dX12_ruin_36 ?_
    refine r_ireturn (pc := 37) q rt dX12_ruin_37 ?_
    exact Or.inr ⟨fun e => by omega, rfl, eh1⟩
  refine r_aload_0 (pc := 27) q dX12_ruin_27 ?_
  refine r_geti (pc := 28) q fX12_178 (kz := 14) rfl (by decide) rfl hM.o dX12_ruin_28 ?_
  refine r_bipush (pc := 31) q dX12_ruin_31 (by decide) ?_
  refine r_icmp_ne (pc := 33) q 38 dX12_ruin_33 (by decide) ⟨by omega, by omega⟩ ⟨by omega, by omega⟩ (fun c33 => ?_) (fun c33 => ?_)
  · refine r_iconst (pc := 38) q dX12_ruin_38 ?_
    refine r_istore_4 (pc := 39) q dX12_ruin_39 rfl ?_
    exact lp z1 h1 eh1 zt2.1 zt2.2 (by omega) (by omega) (by omega) (h m 14).toNat 0 (by omega) (fun k k0 k1 => by omega)
  refine r_iconst (pc := 36) q dX12_ruin_36 ?_
  refine r_ireturn (pc := 37) q rt dX12_ruin_37 ?_
  exact Or.inr ⟨fun e => by omega, rfl, eh1⟩
theorem c_X12_stone {l : Launch} {D : va_G} {aC : Nat → ClassId} {B t sz : Nat} {S : sS} {r : sR} {h : sH} {m : Nat} {p a u : Int} (hM : LX12 S r m) (t0 : 0 ≤ h m 2) (t1 : h m 2 ≤ 200) (S0 : 0 ≤ h m 18) (S1 : h m 18 ≤ 12) (hp : inR p) (ha : inR a) (hu : inR u) : CtI l yX12_stone cX12_stone 6 (some .int) 3 70 [.ref m, .int (iI p), .int (iI a), .int (iI u)] D aC B t sz S r h (fun z h1 => ((isNm (bA h m) 0 (h m 2) ∧ 0 ≤ p ∧ p ≤ 600 ∧ 1 ≤ a ∧ a ≤ 200 ∧ 2 ≤ u ∧ u ≤ 3 ∧ h m 18 < 12) ∧ z = h m 18 ∧ ∃ v : Int, NmP v (bA h m) (h m 2) ∧ h1 = pf (pf (pf (pf (pf (pf (pf h m 0 0) m 2 0) (m + 12) (h m 18) p) (m + 13) (h m 18) v) (m + 14) (h m 18) (a * u)) (m + 15) (h m 18) (h m 29)) m 18 (h m 18 + 1)) ∨ (¬ (isNm (bA h m) 0 (h m 2) ∧ 0 ≤ p ∧ p ≤ 600 ∧ 1 ≤ a ∧ a ≤ 200 ∧ 2 ≤ u ∧ u ≤ 3 ∧ h m 18 < 12) ∧ z = -1 ∧ h1 = pf (pf h m 0 0) m 2 0)) := by
  unfold CtI
  refine Ct.of (lv := [some (.ref m), some (.int (iI p)), some (.int (iI a)), some (.int (iI u)), none, none]) (by decide +kernel) rfl (Nat.le_of_ble_eq_true rfl) (fun X hl q rt hnm => ?_)
  obtain ⟨p0, p1⟩ := id hp
  obtain ⟨a0, a1⟩ := id ha
  obtain ⟨u0, u1⟩ := id hu
  refine r_aload_0 (pc := 0) q dX12_stone_0 ?_
  refine r_iconst (pc := 1) q dX12_stone_1 ?_
  refine r_puti (pc := 2) q fX12_106 (kz := 0) rfl (by decide) rfl hM.o dX12_stone_2 (fun h0 eh0 => ?_)
  obtain ⟨f0, f1⟩ := th0 eh0
  have f2 := f1 2 (by decide)
  refine r_aload_0 (pc := 5) q dX12_stone_5 ?_
  refine r_cL0 (pc := 6) q (c_X12_tapeName (by first | assumption | exact ⟨by omega, by omega⟩ | omega) (by first | assumption | exact ⟨by omega, by omega⟩ | omega) (by first | assumption | exact ⟨by omega, by omega⟩ | omega)) mX12_174 hM.o (by decide) (Nat.le_of_ble_eq_true rfl) rfl dX12_stone_6 (fun z1 h1 hz1 => ?_)
  rw [bA_th eh0, f2] at hz1
  obtain ⟨⟨y1, y2⟩, eh1⟩ := hz1
  have zt := tnP_of y1 y2
  rw [eh0] at eh1
  have e18 : h1 m 18 = h m 18 := by rw [eh1]; simp [up]
  have e29 : h1 m 29 = h m 29 := by rw [eh1]; simp [up]
  have zb : 0 ≤ z1 ∧ z1 ≤ 9223372036854775807 := by rcases zt with ⟨-, e⟩ | ⟨-, -, e1, e2⟩ <;> omega
  refine r_lstore_4 (pc := 9) q dX12_stone_9 rfl ?_
  refine r_lload_4 (pc := 11) q dX12_stone_11 ?_
  refine r_lconst (pc := 13) q dX12_stone_13 (by decide) ?_
  refine r_lcmp (pc := 14) q dX12_stone_14 ⟨by omega, by omega⟩ ⟨by decide, by decide⟩ ?_
  refine r_if_eq (pc := 15) q 58 dX12_stone_15 (by decide) ⟨by have := cmpI_in z1 ((0 : Fin 2) : Nat); omega, by have := cmpI_in z1 ((0 : Fin 2) : Nat); omega⟩ (fun c15 => ?_) (fun c15 => ?_)
  · rw [cmpI_0] at c15
    have c13' : z1 = 0 := c15
    refine r_iconst (pc := 58) q dX12_stone_58 ?_
    refine r_ireturn (pc := 59) q rt dX12_stone_59 ?_
    refine Or.inr ⟨fun e => ?_, rfl, eh1⟩
    rcases zt with ⟨y3, -⟩ | ⟨-, -, y3, -⟩
    · exact y3 e.1
    · omega
  rw [cmpI_0] at c15
  have c13' : ¬ z1 = 0 := c15
  have zt2 : isNm (bA h m) 0 (h m 2) ∧ NmP z1 (bA h m) (h m 2) := by
    rcases zt with ⟨-, y3⟩ | ⟨y3, y4, -, -⟩
    · exact absurd y3 c13'
    · exact ⟨y3, y4⟩
  refine r_iload_1 (pc := 18) q dX12_stone_18 ?_
  refine r_iconst (pc := 19) q dX12_stone_19 ?_
  refine r_sipush (pc := 20) q dX12_stone_20 (by decide) ?_
  refine r_sI3 (pc := 23) q (c_X12_within (by first | assumption | exact ⟨by omega, by omega⟩ | omega) (by first | assumption | exact ⟨by omega, by omega⟩ | omega) (by first | assumption | exact ⟨by omega, by omega⟩ | omega)) mX12_112 (by decide) (Nat.le_of_ble_eq_true rfl) rfl dX12_stone_23 (fun z7 h7 hz7 => ?_)
  obtain ⟨hz7, rfl⟩ := hz7
  refine r_if_eq (pc := 26) q 58 dX12_stone_26 (by decide) ⟨by omega, by omega⟩ (fun c26 => ?_) (fun c26 => ?_)
  · refine r_iconst (pc := 58) q dX12_stone_58 ?_
    refine r_ireturn (pc := 59) q rt dX12_stone_59 ?_
    exact Or.inr ⟨fun e => by omega, rfl, eh1⟩
  refine r_iload_2 (pc := 29) q dX12_stone_29 ?_
  refine r_iconst (pc := 30) q dX12_stone_30 ?_
  refine r_sipush (pc := 31) q dX12_stone_31 (by decide) ?_
  refine r_sI3 (pc := 34) q (c_X12_within (by first | assumption | exact ⟨by omega, by omega⟩ | omega) (by first | assumption | exact ⟨by omega, by omega⟩ | omega) (by first | assumption | exact ⟨by omega, by omega⟩ | omega)) mX12_112 (by decide) (Nat.le_of_ble_eq_true rfl) rfl dX12_stone_34 (fun z8 h8 hz8 => ?_)
  obtain ⟨hz8, rfl⟩ := hz8
  refine r_if_eq (pc := 37) q 58 dX12_stone_37 (by decide) ⟨by omega, by omega⟩ (fun c37 => ?_) (fun c37 => ?_)
  · refine r_iconst (pc := 58) q dX12_stone_58 ?_
    refine r_ireturn (pc := 59) q rt dX12_stone_59 ?_
    exact Or.inr ⟨fun e => by omega, rfl, eh1⟩
  refine r_iload_3 (pc := 40) q dX12_stone_40 ?_
  refine r_iconst (pc := 41) q dX12_stone_41 ?_
  refine r_iconst (pc := 42) q dX12_stone_42 ?_
  refine r_sI3 (pc := 43) q (c_X12_within (by first | assumption | exact ⟨by omega, by omega⟩ | omega) (by first | assumption | exact ⟨by omega, by omega⟩ | omega) (by first | assumption | exact ⟨by omega, by omega⟩ | omega)) mX12_112 (by decide) (Nat.le_of_ble_eq_true rfl) rfl dX12_stone_43 (fun z9 h9 hz9 => ?_)
  obtain ⟨hz9, rfl⟩ := hz9
  refine r_if_eq (pc := 46) q 58 dX12_stone_46 (by decide) ⟨by omega, by omega⟩ (fun c46 => ?_) (fun c46 => ?_)
  · refine r_iconst (pc := 58) q dX12_stone_58 ?_
    refine r_ireturn (pc := 59) q rt dX12_stone_59 ?_
    exact Or.inr ⟨fun e => by omega, rfl, eh1⟩
  refine r_aload_0 (pc := 49) q dX12_stone_49 ?_
  refine r_geti (pc := 50) q fX12_184 (kz := 18) rfl (by decide) rfl hM.o dX12_stone_50 ?_
  refine r_bipush (pc := 53) q dX12_stone_53 (by decide) ?_
  refine r_icmp_ne (pc := 55) q 60 dX12_stone_55 (by decide) ⟨by omega, by omega⟩ ⟨by omega, by omega⟩ (fun c55 => ?_) (fun c55 => ?_)
  · refine r_aload_0 (pc := 60) q dX12_stone_60 ?_
    refine r_getr (pc := 61) q fX12_49 (kz := 19) rfl (by decide) rfl hM.o hM.r_stoneAt dX12_stone_61 ?_
    refine r_aload_0 (pc := 64) q dX12_stone_64 ?_
    refine r_geti (pc := 65) q fX12_184 (kz := 18) rfl (by decide) rfl hM.o dX12_stone_65 ?_
    refine r_iload_1 (pc := 68) q dX12_stone_68 ?_
    refine r_iast (pc := 69) q hM.s_stoneAt (by omega) (by omega) dX12_stone_69 (fun h3 eh3 => ?_)
    have g3 : h3 m 18 = h m 18 := by rw [eh3]; simp [up, e18]
    refine r_aload_0 (pc := 70) q dX12_stone_70 ?_
    refine r_getr (pc := 71) q fX12_52 (kz := 20) rfl (by decide) rfl hM.o hM.r_stoneName dX12_stone_71 ?_
    refine r_aload_0 (pc := 74) q dX12_stone_74 ?_
    refine r_geti (pc := 75) q fX12_184 (kz := 18) rfl (by decide) rfl hM.o dX12_stone_75 ?_
    refine r_lload_4 (pc := 78) q dX12_stone_78 ?_
    refine r_last (pc := 80) q hM.s_stoneName (by omega) (by omega) dX12_stone_80 (fun h4 eh4 => ?_)
    have g4 : h4 m 18 = h m 18 := by rw [eh4]; simp [up, g3]
    refine r_aload_0 (pc := 81) q dX12_stone_81 ?_
    refine r_getr (pc := 82) q fX12_55 (kz := 21) rfl (by decide) rfl hM.o hM.r_stoneFar dX12_stone_82 ?_
    refine r_aload_0 (pc := 85) q dX12_stone_85 ?_
    refine r_geti (pc := 86) q fX12_184 (kz := 18) rfl (by decide) rfl hM.o dX12_stone_86 ?_
    refine r_iload_2 (pc := 89) q dX12_stone_89 ?_
    refine r_iload_3 (pc := 90) q dX12_stone_90 ?_
    refine r_imul (pc := 91) q dX12_stone_91 ?_
    refine r_iast (pc := 92) q hM.s_stoneFar (by omega) (by omega) dX12_stone_92 (fun h5 eh5 => ?_)
    have g5 : h5 m 18 = h m 18 := by rw [eh5]; simp [up, g4]
    have g5b : h5 m 29 = h m 29 := by rw [eh5, eh4, eh3]; simp [up, e29]
    refine r_aload_0 (pc := 93) q dX12_stone_93 ?_
    refine r_getr (pc := 94) q fX12_58 (kz := 22) rfl (by decide) rfl hM.o hM.r_stoneDay dX12_stone_94 ?_
    refine r_aload_0 (pc := 97) q dX12_stone_97 ?_
    refine r_geti (pc := 98) q fX12_184 (kz := 18) rfl (by decide) rfl hM.o dX12_stone_98 ?_
    refine r_aload_0 (pc := 101) q dX12_stone_101 ?_
    refine r_geti (pc := 102) q fX12_181 (kz := 29) rfl (by decide) rfl hM.o dX12_stone_102 ?_
    refine r_iast (pc := 105) q hM.s_stoneDay (by omega) (by omega) dX12_stone_105 (fun h6 eh6 => ?_)
    have g6 : h6 m 18 = h m 18 := by rw [eh6]; simp [up, g5]
    refine r_aload_0 (pc := 106) q dX12_stone_106 ?_
    refine r_dup (pc := 107) q dX12_stone_107 rfl ?_
    refine r_geti (pc := 108) q fX12_184 (kz := 18) rfl (by decide) rfl hM.o dX12_stone_108 ?_
    refine r_iconst (pc := 111) q dX12_stone_111 ?_
    refine r_iadd (pc := 112) q dX12_stone_112 ?_
    refine r_puti (pc := 113) q fX12_184 (kz := 18) rfl (by decide) rfl hM.o dX12_stone_113 (fun h2 eh2 => ?_)
    have g7 : h2 m 18 = h6 m 18 + 1 := by rw [eh2]; exact pf_s _ _ _ _
    refine r_aload_0 (pc := 116) q dX12_stone_116 ?_
    refine r_geti (pc := 117) q fX12_184 (kz := 18) rfl (by decide) rfl hM.o dX12_stone_117 ?_
    refine r_iconst (pc := 120) q dX12_stone_120 ?_
    refine r_isub (pc := 121) q dX12_stone_121 ?_
    refine r_ireturn (pc := 122) q rt dX12_stone_122 ?_
    exact Or.inl ⟨⟨zt2.1, by omega, by omega, by omega, by omega, by omega, by omega, by omega⟩, by omega, z1, zt2.2, by rw [eh2, g6, eh6, g5, g5b, eh5, g4, eh4, g3, eh3, e18, eh1]⟩
  refine r_iconst (pc := 58) q dX12_stone_58 ?_
  refine r_ireturn (pc := 59) q rt dX12_stone_59 ?_
  exact Or.inr ⟨fun e => by omega, rfl, eh1⟩
