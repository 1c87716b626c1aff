noncomputable def cif {α : Type} (P : Prop) (a b : α) : α := @ite α P (Classical.propDecidable P) a b
theorem cif_t {α : Type} {P : Prop} {a b : α} (h : P) : cif P a b = a := by unfold cif; exact if_pos h
theorem cif_f {α : Type} {P : Prop} {a b : α} (h : ¬ P) : cif P a b = b := by unfold cif; exact if_neg h
/-- what the value v costs, by the first habits; V the numeral's own value, W T C the habits, wk whether one works -/
noncomputable def CO (V : Int) (W T C : Int → Int) (wk : Int → Prop) (v : Int) : Nat → Int
  | 0 => if v = V then 0 else 1000000
  | k + 1 => cif (V - svI (W k) + svI (T k) = v ∧ C k < CO V W T C wk v k ∧ wk k) (C k) (CO V W T C wk v k)
theorem CO_in {V : Int} {W T C : Int → Int} {wk : Int → Prop} {v : Int} : ∀ {n : Nat}, (∀ k : Int, 0 ≤ k → k < n → 1 ≤ C k ∧ C k ≤ 20) → 0 ≤ CO V W T C wk v n ∧ CO V W T C wk v n ≤ 1000000
  | 0, _ => by simp only [CO]; split <;> omega
  | n + 1, h => by
    have a := CO_in (V := V) (W := W) (T := T) (C := C) (wk := wk) (v := v) (n := n) (fun k k0 k1 => h k k0 (by omega))
    have b := h n (by omega) (by omega)
    simp only [CO]
    by_cases e : V - svI (W n) + svI (T n) = v ∧ C n < CO V W T C wk v n ∧ wk n
    · rw [cif_t e]; omega
    · rw [cif_f e]; omega
noncomputable def COM (h : sH) (m : Nat) (k v : Int) (n : Nat) : Int := CO (vS (fun j => h (m + 7) (9 * k + j)) (h (m + 8) k).toNat) (h (m + 17)) (h (m + 16)) (h (m + 18)) (fun b => wks (fun j => h (m + 7) (9 * k + j)) (h (m + 8) k) (h (m + 17) b) (h (m + 16) b)) v n
theorem c_X12_costOf {l : Launch} {D : va_G} {aC : Nat → ClassId} {B t sz : Nat} {S : sS} {r : sR} {h : sH} {m : Nat} {l1 i v : Int} (hM : LX12 S r m) (l0 : 0 ≤ l1) (l3 : l1 ≤ 4) (i0 : 0 ≤ i) (i9 : i ≤ 9) (hN : nuR h m (10 * l1 + i)) (hH : hbR h m) (hv : inR v) : CtI l yX12_costOf cX12_costOf 7 (some .int) 2 49 [.ref m, .int (iI l1), .int (iI i), .int (iI v)] D aC B t sz S r h (fun z h1 => COM h m (10 * l1 + i) v (h m 23).toNat = z ∧ h = h1) := by
  unfold CtI
  refine Ct.of (lv := [some (.ref m), some (.int (iI l1)), some (.int (iI i)), some (.int (iI v)), none, none, none]) (by decide +kernel) rfl (Nat.le_of_ble_eq_true rfl) (fun X hl q rt hnm => ?_)
  obtain ⟨n1, n8, hs⟩ := id hN
  obtain ⟨H0, H20, hh⟩ := id hH
  obtain ⟨v0, v1⟩ := id hv
  have vb := vS_in (fun j => h (m + 7) (9 * (10 * l1 + i) + j)) (h (m + 8) (10 * l1 + i)).toNat
  obtain ⟨V, hV⟩ : ∃ V, vS (fun j => h (m + 7) (9 * (10 * l1 + i) + j)) (h (m + 8) (10 * l1 + i)).toNat = V := ⟨_, rfl⟩
  rw [hV] at vb
  have lp : ∀ (d j : Nat), (j : Int) + d = h m 23 → G X 0 0 25 [some (.ref m), some (.int (iI l1)), some (.int (iI i)), some (.int (iI v)), some (.int (iI V)), some (.int (iI (COM h m (10 * l1 + i) v j))), some (.int (iI j))] [] sz S r h := by
    intro d
    induction d with
    | zero =>
      intro j hj
      refine r_iload_6 (pc := 25) q dX12_costOf_25 ?_
      refine r_aload_0 (pc := 27) q dX12_costOf_27 ?_
      refine r_geti (pc := 28) q fX12_187 (kz := 23) rfl (by decide) rfl hM.o dX12_costOf_28 ?_
      refine r_icmp_ge (pc := 31) q 100 dX12_costOf_31 (by decide) ⟨by omega, by omega⟩ ⟨by omega, by omega⟩ (fun c31 => ?_) (fun c31 => ?_)
      · refine r_iload_5 (pc := 100) q dX12_costOf_100 ?_
        refine r_ireturn (pc := 102) q rt dX12_costOf_102 ?_
        exact ⟨by rw [show (h m 23).toNat = j by omega], rfl⟩
      exact absurd (show h m 23 ≤ (j : Int) by omega) c31
    | succ d ih =>
      intro j hj
      have hb := hh j (by omega) (by omega)
      have cb := CO_in (V := V) (W := h (m + 17)) (T := h (m + 16)) (C := h (m + 18)) (wk := fun b => wks (fun j => h (m + 7) (9 * (10 * l1 + i) + j)) (h (m + 8) (10 * l1 + i)) (h (m + 17) b) (h (m + 16) b)) (v := v) (n := j) (fun k k0 k1 => (hh k k0 (by omega)).2.2.1)
      have ec : COM h m (10 * l1 + i) v j = CO V (h (m + 17)) (h (m + 16)) (h (m + 18)) (fun b => wks (fun j => h (m + 7) (9 * (10 * l1 + i) + j)) (h (m + 8) (10 * l1 + i)) (h (m + 17) b) (h (m + 16) b)) v j := by unfold COM; rw [hV]
      rw [← ec] at cb
      have s1 := svI_in (h (m + 17) j)
      have s2 := svI_in (h (m + 16) j)
      have nxt : ∀ c : Int, (V - svI (h (m + 17) j) + svI (h (m + 16) j) = v ∧ h (m + 18) j < COM h m (10 * l1 + i) v j ∧ wks (fun j => h (m + 7) (9 * (10 * l1 + i) + j)) (h (m + 8) (10 * l1 + i)) (h (m + 17) j) (h (m + 16) j) → c = h (m + 18) j) → (¬ (V - svI (h (m + 17) j) + svI (h (m + 16) j) = v ∧ h (m + 18) j < COM h m (10 * l1 + i) v j ∧ wks (fun j => h (m + 7) (9 * (10 * l1 + i) + j)) (h (m + 8) (10 * l1 + i)) (h (m + 17) j) (h (m + 16) j)) → c = COM h m (10 * l1 + i) v j) → G X 0 0 94 [some (.ref m), some (.int (iI l1)), some (.int (iI i)), some (.int (iI v)), some (.int (iI V)), some (.int (iI c)), some (.int (iI j))] [] sz S r h := by
        intro c e1 e2
        have ecc : c = COM h m (10 * l1 + i) v (j + 1) := by
          unfold COM
          rw [hV]
          simp only [CO]
          rw [← ec]
          by_cases e : V - svI (h (m + 17) j) + svI (h (m + 16) j) = v ∧ h (m + 18) j < COM h m (10 * l1 + i) v j ∧ wks (fun j => h (m + 7) (9 * (10 * l1 + i) + j)) (h (m + 8) (10 * l1 + i)) (h (m + 17) j) (h (m + 16) j)
          · rw [cif_t e]; exact e1 e
          · rw [cif_f e]; exact e2 e
        subst ecc
        refine r_iinc_6 (pc := 94) q dX12_costOf_94 rfl ?_
        refine r_goto (pc := 97) (tgt := 25) q dX12_costOf_97 (by decide) ?_
        exact ih (j + 1) (by omega)
      refine r_iload_6 (pc := 25) q dX12_costOf_25 ?_
      refine r_aload_0 (pc := 27) q dX12_costOf_27 ?_
      refine r_geti (pc := 28) q fX12_187 (kz := 23) rfl (by decide) rfl hM.o dX12_costOf_28 ?_
      refine r_icmp_ge (pc := 31) q 100 dX12_costOf_31 (by decide) ⟨by omega, by omega⟩ ⟨by omega, by omega⟩ (fun c31 => ?_) (fun c31 => ?_)
      · exact absurd c31 (by omega)
      refine r_iload_4 (pc := 34) q dX12_costOf_34 ?_
      refine r_aload_0 (pc := 36) q dX12_costOf_36 ?_
      refine r_getr (pc := 37) q fX12_64 (kz := 25) rfl (by decide) rfl hM.o hM.r_written dX12_costOf_37 ?_
      refine r_iload_6 (pc := 40) q dX12_costOf_40 ?_
      refine r_iald (pc := 42) q hM.s_written (by omega) (by omega) dX12_costOf_42 ?_
      refine r_sI1 (pc := 43) q (c_X12_worth (by first | assumption | exact ⟨by omega, by omega⟩ | omega)) mX12_171 (by decide) (Nat.le_of_ble_eq_true rfl) rfl dX12_costOf_43 (fun z1 h1 hz1 => ?_)
      obtain ⟨rfl, rfl⟩ := hz1
      refine r_isub (pc := 46) q dX12_costOf_46 ?_
      refine r_aload_0 (pc := 47) q dX12_costOf_47 ?_
      refine r_getr (pc := 48) q fX12_61 (kz := 24) rfl (by decide) rfl hM.o hM.r_truly dX12_costOf_48 ?_
      refine r_iload_6 (pc := 51) q dX12_costOf_51 ?_
      refine r_iald (pc := 53) q hM.s_truly (by omega) (by omega) dX12_costOf_53 ?_
      refine r_sI1 (pc := 54) q (c_X12_worth (by first | assumption | exact ⟨by omega, by omega⟩ | omega)) mX12_171 (by decide) (Nat.le_of_ble_eq_true rfl) rfl dX12_costOf_54 (fun z2 h2 hz2 => ?_)
      obtain ⟨rfl, rfl⟩ := hz2
      refine r_iadd (pc := 57) q dX12_costOf_57 ?_
      refine r_iload_3 (pc := 58) q dX12_costOf_58 ?_
      refine r_icmp_ne (pc := 59) q 94 dX12_costOf_59 (by decide) ⟨by omega, by omega⟩ ⟨by omega, by omega⟩ (fun c59 => ?_) (fun c59 => ?_)
      · exact nxt _ (fun e => absurd e.1 c59) (fun _ => rfl)
      refine r_aload_0 (pc := 62) q dX12_costOf_62 ?_
      refine r_getr (pc := 63) q fX12_67 (kz := 26) rfl (by decide) rfl hM.o hM.r_habitCost dX12_costOf_63 ?_
      refine r_iload_6 (pc := 66) q dX12_costOf_66 ?_
      refine r_iald (pc := 68) q hM.s_habitCost (by omega) (by omega) dX12_costOf_68 ?_
      refine r_iload_5 (pc := 69) q dX12_costOf_69 ?_
      refine r_icmp_ge (pc := 71) q 94 dX12_costOf_71 (by decide) ⟨by omega, by omega⟩ ⟨by omega, by omega⟩ (fun c71 => ?_) (fun c71 => ?_)
      · exact nxt _ (fun e => by omega) (fun _ => rfl)
      refine r_aload_0 (pc := 74) q dX12_costOf_74 ?_
      refine r_iload_1 (pc := 75) q dX12_costOf_75 ?_
      refine r_iload_2 (pc := 76) q dX12_costOf_76 ?_
      refine r_iload_6 (pc := 77) q dX12_costOf_77 ?_
      refine r_cI3 (pc := 79) q (c_X12_canBe (by first | assumption | exact ⟨by omega, by omega⟩ | omega) (by first | assumption | exact ⟨by omega, by omega⟩ | omega) (by first | assumption | exact ⟨by omega, by omega⟩ | omega) (by first | assumption | exact ⟨by omega, by omega⟩ | omega) (by first | assumption | exact ⟨by omega, by omega⟩ | omega) (by first | assumption | exact ⟨by omega, by omega⟩ | omega) (by first | assumption | exact ⟨by omega, by omega⟩ | omega) (by first | assumption | exact ⟨by omega, by omega⟩ | omega) (by first | assumption | exact ⟨by omega, by omega⟩ | omega)) mX12_205 hM.o (by decide) (Nat.le_of_ble_eq_true rfl) rfl dX12_costOf_79 (fun z8 h8 hz8 => ?_)
      obtain ⟨hz8, rfl⟩ := hz8
      refine r_if_eq (pc := 82) q 94 dX12_costOf_82 (by decide) ⟨by omega, by omega⟩ (fun c82 => ?_) (fun c82 => ?_)
      · rcases hz8 with ⟨y1, y2⟩ | ⟨y1, y2⟩
        · omega
        · exact nxt _ (fun e => absurd e.2.2 y2) (fun _ => rfl)
      refine r_aload_0 (pc := 85) q dX12_costOf_85 ?_
      refine r_getr (pc := 86) q fX12_67 (kz := 26) rfl (by decide) rfl hM.o hM.r_habitCost dX12_costOf_86 ?_
      refine r_iload_6 (pc := 89) q dX12_costOf_89 ?_
      refine r_iald (pc := 91) q hM.s_habitCost (by omega) (by omega) dX12_costOf_91 ?_
      refine r_istore_5 (pc := 92) q dX12_costOf_92 rfl ?_
      rcases hz8 with ⟨y1, y2⟩ | ⟨y1, y2⟩
      · exact nxt _ (fun _ => rfl) (fun e => absurd ⟨c59, by omega, y2⟩ e)
      · omega
  have lp0 := lp (h m 23).toNat 0 (by omega)
  refine r_aload_0 (pc := 0) q dX12_costOf_0 ?_
  refine r_iload_1 (pc := 1) q dX12_costOf_1 ?_
  refine r_iload_2 (pc := 2) q dX12_costOf_2 ?_
  refine r_cI2 (pc := 3) q (c_X12_valueOf (by first | assumption | exact ⟨by omega, by omega⟩ | omega) (by first | assumption | exact ⟨by omega, by omega⟩ | omega) (by first | assumption | exact ⟨by omega, by omega⟩ | omega) (by first | assumption | exact ⟨by omega, by omega⟩ | omega) (by first | assumption | exact ⟨by omega, by omega⟩ | omega) (by first | assumption | exact ⟨by omega, by omega⟩ | omega)) mX12_201 hM.o (by decide) (Nat.le_of_ble_eq_true rfl) rfl dX12_costOf_3 (fun z1 h1 hz1 => ?_)
  obtain ⟨rfl, rfl⟩ := hz1
  refine r_topi hV ?_
  refine r_istore_4 (pc := 6) q dX12_costOf_6 rfl ?_
  refine r_iload_3 (pc := 8) q dX12_costOf_8 ?_
  refine r_iload_4 (pc := 9) q dX12_costOf_9 ?_
  refine r_icmp_ne (pc := 11) q 18 dX12_costOf_11 (by decide) ⟨by omega, by omega⟩ ⟨by omega, by omega⟩ (fun c11 => ?_) (fun c11 => ?_)
  · refine r_ldc (pc := 18) q kX12_204 dX12_costOf_18 ?_
    refine r_istore_5 (pc := 20) q dX12_costOf_20 rfl ?_
    refine r_iconst (pc := 22) q dX12_costOf_22 ?_
    refine r_istore_6 (pc := 23) q dX12_costOf_23 rfl ?_
    refine r_pc rfl ?_
    have e : COM h m (10 * l1 + i) v 0 = 1000000 := by unfold COM; rw [hV]; simp only [CO]; rw [if_neg c11]
    rw [e] at lp0
    exact lp0
  refine r_iconst (pc := 14) q dX12_costOf_14 ?_
  refine r_goto (pc := 15) (tgt := 20) q dX12_costOf_15 (by decide) ?_
  refine r_istore_5 (pc := 20) q dX12_costOf_20 rfl ?_
  refine r_iconst (pc := 22) q dX12_costOf_22 ?_
  refine r_istore_6 (pc := 23) q dX12_costOf_23 rfl ?_
  have e : COM h m (10 * l1 + i) v 0 = 0 := by unfold COM; rw [hV]; simp only [CO]; rw [if_pos c11]
  rw [e] at lp0
  exact lp0
theorem th0 {h h0 : sH} {m : Nat} (e : h0 = up h m (up (h m) 0 0)) : (∀ a : Nat, a ≠ m → h0 a = h a) ∧ ∀ k : Int, k ≠ 0 → h0 m k = h m k := ⟨fun a g => by rw [e]; exact pf_o h 0 0 g, fun k g => by rw [e]; exact pf_f h m 0 g⟩
theorem c_X12_reading {l : Launch} {D : va_G} {aC : Nat → ClassId} {B t sz : Nat} {S : sS} {r : sR} {h : sH} {m : Nat} {l1 i v : Int} (hM : LX12 S r m) (hl1 : inR l1) (hi : inR i) (hv : inR v) (hL : lsR h m) (hN : ∀ l i : Int, 0 ≤ l → l < h m 5 → 0 ≤ i → i + 1 < h (m + 5) l → nuR h m (10 * l + i)) (hH : hbR h m) : CtI l yX12_reading cX12_reading 5 (some .int) 3 75 [.ref m, .int (iI l1), .int (iI i), .int (iI v)] D aC B t sz S r h (fun z h1 => h1 = pf h m 0 0 ∧ ((¬ (0 ≤ l1 ∧ l1 < h m 5 ∧ 0 ≤ i ∧ i + 1 < h (m + 5) l1) ∧ z = -1) ∨ ((0 ≤ l1 ∧ l1 < h m 5 ∧ 0 ≤ i ∧ i + 1 < h (m + 5) l1) ∧ z = (if COM h m (10 * l1 + i) v (h m 23).toNat = 1000000 then -1 else COM h m (10 * l1 + i) v (h m 23).toNat)))) := by
  unfold CtI
  refine Ct.of (lv := [some (.ref m), some (.int (iI l1)), some (.int (iI i)), some (.int (iI v)), none]) (by decide +kernel) rfl (Nat.le_of_ble_eq_true rfl) (fun X hl q rt hnm => ?_)
  obtain ⟨L0, L1, L2⟩ := id hL
  obtain ⟨H0, H20, hh⟩ := id hH
  refine r_aload_0 (pc := 0) q dX12_reading_0 ?_
  refine r_iconst (pc := 1) q dX12_reading_1 ?_
  refine r_puti (pc := 2) q fX12_106 (kz := 0) rfl (by decide) rfl hM.o dX12_reading_2 (fun h0 eh0 => ?_)
  obtain ⟨f0, f1⟩ := th0 eh0
  have hL' : lsR h0 m := by
    unfold lsR
    rw [f1 5 (by decide), f0 (m + 4) (by omega), f0 (m + 5) (by omega)]
    exact hL
  have hH' : hbR h0 m := by
    unfold hbR
    rw [f1 23 (by decide), f0 (m + 16) (by omega), f0 (m + 17) (by omega), f0 (m + 18) (by omega)]
    exact hH
  have eC : ∀ k n, COM h0 m k v n = COM h m k v n := fun k n => by
    unfold COM
    rw [f0 (m + 7) (by omega), f0 (m + 8) (by omega), f0 (m + 16) (by omega), f0 (m + 17) (by omega), f0 (m + 18) (by omega)]
  refine r_aload_0 (pc := 5) q dX12_reading_5 ?_
  refine r_iload_1 (pc := 6) q dX12_reading_6 ?_
  refine r_iload_2 (pc := 7) q dX12_reading_7 ?_
  refine r_cI2 (pc := 8) q (c_X12_isStation (by first | assumption | exact ⟨by omega, by omega⟩ | omega) (by first | assumption | exact ⟨by omega, by omega⟩ | omega) (by first | assumption | exact ⟨by omega, by omega⟩ | omega) (by first | assumption | exact ⟨by omega, by omega⟩ | omega)) mX12_191 hM.o (by decide) (Nat.le_of_ble_eq_true rfl) rfl dX12_reading_8 (fun z1 h1 hz1 => ?_)
  obtain ⟨hz1, rfl⟩ := hz1
  rw [f1 5 (by decide), f0 (m + 5) (by omega)] at hz1
  refine r_if_eq (pc := 11) q 26 dX12_reading_11 (by decide) ⟨by omega, by omega⟩ (fun c11 => ?_) (fun c11 => ?_)
  · refine r_iconst (pc := 26) q dX12_reading_26 ?_
    refine r_ireturn (pc := 27) q rt dX12_reading_27 ?_
    exact ⟨eh0, Or.inl ⟨by omega, rfl⟩⟩
  have b := L2 l1 (by omega) (by omega)
  have b2 := f0 (m + 5) (by omega)
  refine r_iload_2 (pc := 14) q dX12_reading_14 ?_
  refine r_aload_0 (pc := 15) q dX12_reading_15 ?_
  refine r_getr (pc := 16) q fX12_23 (kz := 7) rfl (by decide) rfl hM.o hM.r_stations dX12_reading_16 ?_
  refine r_iload_1 (pc := 19) q dX12_reading_19 ?_
  refine r_iald (pc := 20) q hM.s_stations (by omega) (by omega) dX12_reading_20 ?_
  refine r_topi (congrFun b2 l1) ?_
  refine r_iconst (pc := 21) q dX12_reading_21 ?_
  refine r_isub (pc := 22) q dX12_reading_22 ?_
  refine r_icmp_ne (pc := 23) q 28 dX12_reading_23 (by decide) ⟨by omega, by omega⟩ ⟨by omega, by omega⟩ (fun c23 => ?_) (fun c23 => ?_)
  · have hn : nuR h0 m (10 * l1 + i) := by
      have := hN l1 i (by omega) (by omega) (by omega) (by omega)
      unfold nuR at this ⊢
      rw [f0 (m + 7) (by omega), f0 (m + 8) (by omega)]
      exact this
    refine r_aload_0 (pc := 28) q dX12_reading_28 ?_
    refine r_iload_1 (pc := 29) q dX12_reading_29 ?_
    refine r_iload_2 (pc := 30) q dX12_reading_30 ?_
    refine r_iload_3 (pc := 31) q dX12_reading_31 ?_
    refine r_cI3 (pc := 32) q (c_X12_costOf (by first | assumption | exact ⟨by omega, by omega⟩ | omega) (by first | assumption | exact ⟨by omega, by omega⟩ | omega) (by first | assumption | exact ⟨by omega, by omega⟩ | omega) (by first | assumption | exact ⟨by omega, by omega⟩ | omega) (by first | assumption | exact ⟨by omega, by omega⟩ | omega) (by first | assumption | exact ⟨by omega, by omega⟩ | omega) (by first | assumption | exact ⟨by omega, by omega⟩ | omega) (by first | assumption | exact ⟨by omega, by omega⟩ | omega)) mX12_208 hM.o (by decide) (Nat.le_of_ble_eq_true rfl) rfl dX12_reading_32 (fun z1 h1 hz1 => ?_)
    obtain ⟨rfl, rfl⟩ := hz1
    rw [f1 23 (by decide), eC] 
    have cb : 0 ≤ COM h m (10 * l1 + i) v (h m 23).toNat ∧ COM h m (10 * l1 + i) v (h m 23).toNat ≤ 1000000 := CO_in (fun k k0 k1 => (hh k k0 (by omega)).2.2.1)
    refine r_istore_4 (pc := 35) q dX12_reading_35 rfl ?_
    refine r_iload_4 (pc := 37) q dX12_reading_37 ?_
    refine r_ldc (pc := 39) q kX12_204 dX12_reading_39 ?_
    refine r_icmp_ne (pc := 41) q 48 dX12_reading_41 (by decide) ⟨by omega, by omega⟩ ⟨by omega, by omega⟩ (fun c41 => ?_) (fun c41 => ?_)
    · refine r_iload_4 (pc := 48) q dX12_reading_48 ?_
      refine r_ireturn (pc := 50) q rt dX12_reading_50 ?_
      exact ⟨eh0, Or.inr ⟨by omega, by rw [if_neg c41]⟩⟩
    refine r_iconst (pc := 44) q dX12_reading_44 ?_
    refine r_goto (pc := 45) (tgt := 50) q dX12_reading_45 (by decide) ?_
    refine r_ireturn (pc := 50) q rt dX12_reading_50 ?_
    exact ⟨eh0, Or.inr ⟨by omega, by rw [if_pos c41]⟩⟩
  refine r_iconst (pc := 26) q dX12_reading_26 ?_
  refine r_ireturn (pc := 27) q rt dX12_reading_27 ?_
  exact ⟨eh0, Or.inl ⟨by omega, rfl⟩⟩
