/-! ===== the readings of a numeral: each value once, in the order of the habits ===== -/
/-- how many values, and which; V the own value, W T the habits, wk whether one works -/
noncomputable def rlS (V : Int) (W T : Int → Int) (wk : Int → Prop) : Nat → Nat × (Int → Int)
  | 0 => (1, fun _ => V)
  | b + 1 => cif (wk b ∧ ∀ k : Int, 0 ≤ k → k < (rlS V W T wk b).1 → (rlS V W T wk b).2 k ≠ V - svI (W b) + svI (T b)) ((rlS V W T wk b).1 + 1, up (rlS V W T wk b).2 ((rlS V W T wk b).1 : Int) (V - svI (W b) + svI (T b))) (rlS V W T wk b)
theorem rlS_sz (V : Int) (W T : Int → Int) (wk : Int → Prop) : ∀ b : Nat, 1 ≤ (rlS V W T wk b).1 ∧ (rlS V W T wk b).1 ≤ b + 1
  | 0 => by simp [rlS]
  | b + 1 => by
    have a := rlS_sz V W T wk b
    simp only [rlS]
    by_cases e : wk b ∧ ∀ k : Int, 0 ≤ k → k < (rlS V W T wk b).1 → (rlS V W T wk b).2 k ≠ V - svI (W b) + svI (T b)
    · rw [cif_t e]; dsimp only; omega
    · rw [cif_f e]; omega
theorem rlS_all {V : Int} {W T : Int → Int} {wk : Int → Prop} {P : Int → Prop} (hV : P V) : ∀ b : Nat, (∀ k : Int, 0 ≤ k → k < b → wk k → P (V - svI (W k) + svI (T k))) → ∀ k : Int, 0 ≤ k → k < (rlS V W T wk b).1 → P ((rlS V W T wk b).2 k)
  | 0, _ => by intro k k0 k1; simp only [rlS]; exact hV
  | b + 1, h => by
    have a := rlS_all hV b (fun k k0 k1 => h k k0 (by omega))
    intro k k0 k1
    simp only [rlS] at k1 ⊢
    by_cases e : wk b ∧ ∀ k : Int, 0 ≤ k → k < (rlS V W T wk b).1 → (rlS V W T wk b).2 k ≠ V - svI (W b) + svI (T b)
    · rw [cif_t e] at k1 ⊢
      dsimp only at k1 ⊢
      by_cases q : k = (rlS V W T wk b).1
      · rw [q, up_s]; exact h b (by omega) (by omega) e.1
      · rw [up_n _ _ q]; exact a k k0 (by omega)
    · rw [cif_f e] at k1 ⊢
      exact a k k0 k1
theorem svI_pos {c : Int} (h1 : 1 ≤ c) (h2 : c ≤ 4) : 1 ≤ svI c := by
  rcases (show c = 1 ∨ c = 2 ∨ c = 3 ∨ c = 4 by omega) with rfl | rfl | rfl | rfl <;> decide
theorem vS_ge {g : Int → Int} : ∀ {n : Nat} {j : Int}, (∀ i : Int, 0 ≤ i → i < n → 1 ≤ g i ∧ g i ≤ 4) → 0 ≤ j → j < n → svI (g j) + (n - 1) ≤ vS g n
  | 0, j, _, j0, j1 => by omega
  | n + 1, j, h, j0, j1 => by
    simp only [vS]
    have b := h n (by omega) (by omega)
    have c := svI_pos b.1 b.2
    by_cases q : j = n
    · subst q
      have : ∀ {k : Nat}, (∀ i : Int, 0 ≤ i → i < k → 1 ≤ g i ∧ g i ≤ 4) → (k : Int) ≤ vS g k := by
        intro k
        induction k with
        | zero => intro _; simp [vS]
        | succ k ih =>
          intro hk
          have a1 := ih (fun i i0 i1 => hk i i0 (by omega))
          have a2 := hk k (by omega) (by omega)
          have a3 := svI_pos a2.1 a2.2
          simp only [vS]; omega
      have := this (k := n) (fun i i0 i1 => h i i0 (by omega))
      omega
    · have a := vS_ge (g := g) (n := n) (j := j) (fun i i0 i1 => h i i0 (by omega)) j0 (by omega)
      omega
/-- a reading by a habit that works is above 0 -/
theorem wks_pos {g : Int → Int} {n w t : Int} (n1 : 1 ≤ n) (hg : ∀ i : Int, 0 ≤ i → i < n → 1 ≤ g i ∧ g i ≤ 4) (t0 : 0 ≤ t) (t4 : t ≤ 4) (hw : wks g n w t) : 1 ≤ vS g n.toNat - svI w + svI t := by
  have st := svI_in t
  have hge : ∀ j : Int, 0 ≤ j → j < n → svI (g j) + (n - 1) ≤ vS g n.toNat := fun j j0 j1 => by
    have := vS_ge (g := g) (n := n.toNat) (j := j) (fun i i0 i1 => hg i i0 (by omega)) j0 (by omega)
    omega
  rcases hw with rfl | ⟨-, -, n2, j, j0, j1, e⟩ | ⟨-, t1, j, j0, j1, e, -⟩
  · have := hge 0 (by omega) (by omega)
    have b := hg 0 (by omega) (by omega)
    have := svI_pos b.1 b.2
    have : svI 0 = 0 := by decide
    omega
  · have := hge j j0 j1
    rw [e] at this
    omega
  · have := hge j j0 j1
    rw [e] at this
    have := svI_pos (c := t) (by omega) t4
    omega
theorem CO_own {V : Int} {W T C : Int → Int} {wk : Int → Prop} : ∀ {n : Nat}, (∀ k : Int, 0 ≤ k → k < n → 1 ≤ C k) → CO V W T C wk V n = 0
  | 0, _ => by simp [CO]
  | n + 1, h => by
    have a := CO_own (V := V) (W := W) (T := T) (C := C) (wk := wk) (n := n) (fun k k0 k1 => h k k0 (by omega))
    have b := h n (by omega) (by omega)
    simp only [CO]
    rw [cif_f (by rw [a]; omega), a]
noncomputable def RLM (h : sH) (m : Nat) (k : Int) (b : Nat) : Nat × (Int → Int) := rlS (vS (fun j => h (m + 7) (9 * k + j)) (h (m + 8) k).toNat) (h (m + 17)) (h (m + 16)) (fun b => wks (fun j => h (m + 7) (9 * k + j)) (h (m + 8) k) (h (m + 17) b) (h (m + 16) b)) b
theorem c_X12_adds {l : Launch} {D : va_G} {aC : Nat → ClassId} {B t sz : Nat} {S : sS} {r : sR} {h : sH} {m : Nat} {i v c : Int} {s : Nat} {vl : Int → Int} (hM : LX12 S r m) (i0 : 0 ≤ i) (i9 : i ≤ 9) (hv : inR v) (hc : inR c) (s21 : s ≤ 20) (hs : h (m + 21) i = s) (hvl : ∀ k : Int, 0 ≤ k → k < s → h (m + 19) (21 * i + k) = vl k ∧ inR (vl k)) : CtV l yX12_adds cX12_adds 5 none 0 0 [.ref m, .int (iI i), .int (iI v), .int (iI c)] D aC B t sz S r h (fun h1 => ((∃ k : Int, 0 ≤ k ∧ k < s ∧ vl k = v) ∧ h1 = h) ∨ ((∀ k : Int, 0 ≤ k → k < s → vl k ≠ v) ∧ h1 = pf (pf (pf h (m + 19) (21 * i + s) v) (m + 20) (21 * i + s) c) (m + 21) i (s + 1))) := by
  unfold CtV
  refine Ct.of (lv := [some (.ref m), some (.int (iI i)), some (.int (iI v)), some (.int (iI c)), none]) (by decide +kernel) rfl (Nat.le_of_ble_eq_true rfl) (fun X hl q rt hnm => ?_)
  have lp : ∀ (d j : Nat), (j : Int) + d = s → (∀ k : Int, 0 ≤ k → k < j → vl k ≠ v) → G X 0 0 3 [some (.ref m), some (.int (iI i)), some (.int (iI v)), some (.int (iI c)), some (.int (iI j))] [] sz S r h := by
    intro d
    induction d with
    | zero =>
      intro j hj hn
      refine r_iload_4 (pc := 3) q dX12_adds_3 ?_
      refine r_aload_0 (pc := 5) q dX12_adds_5 ?_
      refine r_getr (pc := 6) q fX12_82 (kz := 32) rfl (by decide) rfl hM.o hM.r_values dX12_adds_6 ?_
      refine r_iload_1 (pc := 9) q dX12_adds_9 ?_
      refine r_iald (pc := 10) q hM.s_values (by omega) (by omega) dX12_adds_10 ?_
      refine r_icmp_ge (pc := 11) q 37 dX12_adds_11 (by decide) ⟨by omega, by omega⟩ ⟨by omega, by omega⟩ (fun c11 => ?_) (fun c11 => ?_)
      · refine r_aload_0 (pc := 37) q dX12_adds_37 ?_
        refine r_getr (pc := 38) q fX12_76 (kz := 30) rfl (by decide) rfl hM.o hM.r_value dX12_adds_38 ?_
        refine r_bipush (pc := 41) q dX12_adds_41 (by decide) ?_
        refine r_iload_1 (pc := 43) q dX12_adds_43 ?_
        refine r_imul (pc := 44) q dX12_adds_44 ?_
        refine r_aload_0 (pc := 45) q dX12_adds_45 ?_
        refine r_getr (pc := 46) q fX12_82 (kz := 32) rfl (by decide) rfl hM.o hM.r_values dX12_adds_46 ?_
        refine r_iload_1 (pc := 49) q dX12_adds_49 ?_
        refine r_iald (pc := 50) q hM.s_values (by omega) (by omega) dX12_adds_50 ?_
        refine r_iadd (pc := 51) q dX12_adds_51 ?_
        refine r_iload_2 (pc := 52) q dX12_adds_52 ?_
        refine r_iast (pc := 53) q hM.s_value (by omega) (by omega) dX12_adds_53 (fun h1 eh1 => ?_)
        have g1 : h1 (m + 21) i = h (m + 21) i := by rw [eh1]; simp [up]
        refine r_aload_0 (pc := 54) q dX12_adds_54 ?_
        refine r_getr (pc := 55) q fX12_79 (kz := 31) rfl (by decide) rfl hM.o hM.r_cost dX12_adds_55 ?_
        refine r_bipush (pc := 58) q dX12_adds_58 (by decide) ?_
        refine r_iload_1 (pc := 60) q dX12_adds_60 ?_
        refine r_imul (pc := 61) q dX12_adds_61 ?_
        refine r_aload_0 (pc := 62) q dX12_adds_62 ?_
        refine r_getr (pc := 63) q fX12_82 (kz := 32) rfl (by decide) rfl hM.o hM.r_values dX12_adds_63 ?_
        refine r_iload_1 (pc := 66) q dX12_adds_66 ?_
        refine r_iald (pc := 67) q hM.s_values (by omega) (by omega) dX12_adds_67 ?_
        refine r_iadd (pc := 68) q dX12_adds_68 ?_
        refine r_iload_3 (pc := 69) q dX12_adds_69 ?_
        refine r_iast (pc := 70) q hM.s_cost (by omega) (by omega) dX12_adds_70 (fun h2 eh2 => ?_)
        have g2 : h2 (m + 21) i = h (m + 21) i := by rw [eh2]; simp [up, g1]
        refine r_aload_0 (pc := 71) q dX12_adds_71 ?_
        refine r_getr (pc := 72) q fX12_82 (kz := 32) rfl (by decide) rfl hM.o hM.r_values dX12_adds_72 ?_
        refine r_iload_1 (pc := 75) q dX12_adds_75 ?_
        refine r_dup2 (pc := 76) q dX12_adds_76 rfl rfl ?_
        refine r_iald (pc := 77) q hM.s_values (by omega) (by omega) dX12_adds_77 ?_
        refine r_iconst (pc := 78) q dX12_adds_78 ?_
        refine r_iadd (pc := 79) q dX12_adds_79 ?_
        refine r_iast (pc := 80) q hM.s_values (by omega) (by omega) dX12_adds_80 (fun h3 eh3 => ?_)
        refine r_return (pc := 81) q rt dX12_adds_81 ?_
        refine Or.inr ⟨fun k k0 k1 => hn k k0 (by omega), ?_⟩
        rw [eh3, g2, eh2, g1, eh1, hs]
      exact absurd (show h (m + 21) i ≤ (j : Int) by omega) c11
    | succ d ih =>
      intro j hj hn
      have b := hvl j (by omega) (by omega)
      obtain ⟨b1, b2, b3⟩ := b
      refine r_iload_4 (pc := 3) q dX12_adds_3 ?_
      refine r_aload_0 (pc := 5) q dX12_adds_5 ?_
      refine r_getr (pc := 6) q fX12_82 (kz := 32) rfl (by decide) rfl hM.o hM.r_values dX12_adds_6 ?_
      refine r_iload_1 (pc := 9) q dX12_adds_9 ?_
      refine r_iald (pc := 10) q hM.s_values (by omega) (by omega) dX12_adds_10 ?_
      refine r_icmp_ge (pc := 11) q 37 dX12_adds_11 (by decide) ⟨by omega, by omega⟩ ⟨by omega, by omega⟩ (fun c11 => ?_) (fun c11 => ?_)
      · exact absurd c11 (by omega)
      refine r_aload_0 (pc := 14) q dX12_adds_14 ?_
      refine r_getr (pc := 15) q fX12_76 (kz := 30) rfl (by decide) rfl hM.o hM.r_value dX12_adds_15 ?_
      refine r_bipush (pc := 18) q dX12_adds_18 (by decide) ?_
      refine r_iload_1 (pc := 20) q dX12_adds_20 ?_
      refine r_imul (pc := 21) q dX12_adds_21 ?_
      refine r_iload_4 (pc := 22) q dX12_adds_22 ?_
      refine r_iadd (pc := 24) q dX12_adds_24 ?_
      refine r_iald (pc := 25) q hM.s_value (by omega) (by omega) dX12_adds_25 ?_
      refine r_topi b1 ?_
      refine r_iload_2 (pc := 26) q dX12_adds_26 ?_
      refine r_icmp_ne (pc := 27) q 31 dX12_adds_27 (by decide) ⟨by omega, by omega⟩ hv (fun c27 => ?_) (fun c27 => ?_)
      · refine r_iinc_4 (pc := 31) q dX12_adds_31 rfl ?_
        refine r_goto (pc := 34) (tgt := 3) q dX12_adds_34 (by decide) ?_
        exact ih (j + 1) (by omega) (fun k k0 k1 => by
          by_cases e : k = j
          · rw [e]; exact c27
          · exact hn k k0 (by omega))
      refine r_return (pc := 30) q rt dX12_adds_30 ?_
      exact Or.inl ⟨⟨j, by omega, by omega, c27⟩, rfl⟩
  refine r_iconst (pc := 0) q dX12_adds_0 ?_
  refine r_istore_4 (pc := 1) q dX12_adds_1 rfl ?_
  exact lp s 0 (by omega) (fun k k0 k1 => by omega)
/-- the row of station i: s values vl, each with what it costs -/
def rowP (h : sH) (m : Nat) (i : Int) (s : Nat) (vl cst : Int → Int) : Prop := h (m + 21) i = s ∧ ∀ k : Int, 0 ≤ k → k < s → h (m + 19) (21 * i + k) = vl k ∧ h (m + 20) (21 * i + k) = cst (vl k)
theorem rowP_add {h h3 : sH} {m s : Nat} {i v : Int} {vl cst : Int → Int} (hr : rowP h m i s vl cst) (e : h3 = pf (pf (pf h (m + 19) (21 * i + s) v) (m + 20) (21 * i + s) (cst v)) (m + 21) i (s + 1)) : rowP h3 m i (s + 1) (up vl (s : Int) v) cst := by
  have a19 : h3 (m + 19) = up (h (m + 19)) (21 * i + s) v := by rw [e]; simp [up]
  have a20 : h3 (m + 20) = up (h (m + 20)) (21 * i + s) (cst v) := by rw [e]; simp [up]
  have a21 : h3 (m + 21) i = s + 1 := by rw [e]; simp [up]
  refine ⟨by rw [a21]; omega, fun k k0 k1 => ?_⟩
  rw [a19, a20]
  by_cases q : k = s
  · rw [q, up_s, up_s, up_s]; exact ⟨rfl, rfl⟩
  · rw [up_n (h (m + 19)) v (by omega), up_n (h (m + 20)) (cst v) (by omega), up_n vl v q]
    exact hr.2 k k0 (by omega)
theorem rowP_ne {h h3 : sH} {m s s2 : Nat} {i i2 v c : Int} {vl cst : Int → Int} (hr : rowP h m i2 s2 vl cst) (hs : s2 ≤ 21) (hs1 : s ≤ 20) (hi : i ≠ i2) (e : h3 = pf (pf (pf h (m + 19) (21 * i + s) v) (m + 20) (21 * i + s) c) (m + 21) i (s + 1)) : rowP h3 m i2 s2 vl cst := by
  have a19 : h3 (m + 19) = up (h (m + 19)) (21 * i + s) v := by rw [e]; simp [up]
  have a20 : h3 (m + 20) = up (h (m + 20)) (21 * i + s) c := by rw [e]; simp [up]
  have a21 : h3 (m + 21) = up (h (m + 21)) i (s + 1) := by rw [e]; simp [up]
  refine ⟨by rw [a21, up_n _ _ (Ne.symm hi)]; exact hr.1, fun k k0 k1 => ?_⟩
  rw [a19, a20, up_n _ _ (by omega), up_n _ _ (by omega)]
  exact hr.2 k k0 k1
theorem rowP_kp {h h3 : sH} {m s : Nat} {i : Int} {vl cst : Int → Int} (hr : rowP h m i s vl cst) (e1 : h3 (m + 19) = h (m + 19)) (e2 : h3 (m + 20) = h (m + 20)) (e3 : h3 (m + 21) i = h (m + 21) i) : rowP h3 m i s vl cst := by
  unfold rowP
  rw [e1, e2, e3]
  exact hr
/-- the readings of station i of list l1 stand in the rows -/
def rdM (h0 h : sH) (m : Nat) (l1 i : Int) : Prop := rowP h m i (RLM h0 m (10 * l1 + i) (h0 m 23).toNat).1 (RLM h0 m (10 * l1 + i) (h0 m 23).toNat).2 (fun v => COM h0 m (10 * l1 + i) v (h0 m 23).toNat)
theorem c_X12_reads {l : Launch} {D : va_G} {aC : Nat → ClassId} {B t sz : Nat} {S : sS} {r : sR} {h : sH} {m : Nat} {l1 : Int} (hM : LX12 S r m) (l0 : 0 ≤ l1) (l3 : l1 ≤ 3) (N2 : 2 ≤ h (m + 5) l1) (N10 : h (m + 5) l1 ≤ 10) (hU : ∀ i : Int, 0 ≤ i → i + 1 < h (m + 5) l1 → nuR h m (10 * l1 + i)) (hH : hbR h m) : CtV l yX12_reads cX12_reads 6 none 3 75 [.ref m, .int (iI l1)] D aC B t sz S r h (fun h1 => (∀ a : Nat, a ≠ m + 19 → a ≠ m + 20 → a ≠ m + 21 → h1 a = h a) ∧ ∀ i : Int, 0 ≤ i → i + 1 < h (m + 5) l1 → rdM h h1 m l1 i) := by
  unfold CtV
  refine Ct.of (lv := [some (.ref m), some (.int (iI l1)), none, none, none, none]) (by decide +kernel) rfl (Nat.le_of_ble_eq_true rfl) (fun X hl q rt hnm => ?_)
  obtain ⟨H0, H20, hh⟩ := id hH
  have keep : ∀ (h2 : sH), (∀ a : Nat, a ≠ m + 19 → a ≠ m + 20 → a ≠ m + 21 → h2 a = h a) → (∀ i : Int, 0 ≤ i → i + 1 < h (m + 5) l1 → nuR h2 m (10 * l1 + i)) ∧ hbR h2 m ∧ (∀ k v n, COM h2 m k v n = COM h m k v n) ∧ h2 m = h m ∧ h2 (m + 5) = h (m + 5) ∧ h2 (m + 7) = h (m + 7) ∧ h2 (m + 8) = h (m + 8) ∧ h2 (m + 16) = h (m + 16) ∧ h2 (m + 17) = h (m + 17) := by
    intro h2 hA
    have a0 := hA m (by omega) (by omega) (by omega)
    have a5 := hA (m + 5) (by omega) (by omega) (by omega)
    have a7 := hA (m + 7) (by omega) (by omega) (by omega)
    have a8 := hA (m + 8) (by omega) (by omega) (by omega)
    have a16 := hA (m + 16) (by omega) (by omega) (by omega)
    have a17 := hA (m + 17) (by omega) (by omega) (by omega)
    have a18 := hA (m + 18) (by omega) (by omega) (by omega)
    refine ⟨fun i i0 i1 => ?_, ?_, fun k v n => ?_, a0, a5, a7, a8, a16, a17⟩
    · unfold nuR; rw [a7, a8]; exact hU i i0 i1
    · unfold hbR; rw [a0, a16, a17, a18]; exact hH
    · unfold COM; rw [a7, a8, a16, a17, a18]
  have hsz : ∀ k b, 1 ≤ (RLM h m k b).1 ∧ (RLM h m k b).1 ≤ b + 1 := fun k b => rlS_sz _ _ _ _ b
  have outer : ∀ (d j : Nat), (j : Int) + d = h (m + 5) l1 - 1 → ∀ (h2 : sH) (o3 o4 o5 : Option Value), noL o3 = true → noL o4 = true → (∀ a : Nat, a ≠ m + 19 → a ≠ m + 20 → a ≠ m + 21 → h2 a = h a) → (∀ i : Int, 0 ≤ i → i < j → rdM h h2 m l1 i) → G X 0 0 2 [some (.ref m), some (.int (iI l1)), some (.int (iI j)), o3, o4, o5] [] sz S r h2 := by
    intro d
    induction d with
    | zero =>
      intro j hj h2 o3 o4 o5 n3 n4 hA hR
      obtain ⟨k1, k2, k3, k4, k5, k6, k7, k8, k9⟩ := keep h2 hA
      refine r_iload_2 (pc := 2) q dX12_reads_2 ?_
      refine r_iconst (pc := 3) q dX12_reads_3 ?_
      refine r_iadd (pc := 4) q dX12_reads_4 ?_
      refine r_aload_0 (pc := 5) q dX12_reads_5 ?_
      refine r_getr (pc := 6) q fX12_23 (kz := 7) rfl (by decide) rfl hM.o hM.r_stations dX12_reads_6 ?_
      refine r_iload_1 (pc := 9) q dX12_reads_9 ?_
      refine r_iald (pc := 10) q hM.s_stations (by omega) (by omega) dX12_reads_10 ?_
      rw [k5]
      refine r_icmp_ge (pc := 11) q 115 dX12_reads_11 (by decide) ⟨by omega, by omega⟩ ⟨by omega, by omega⟩ (fun c11 => ?_) (fun c11 => ?_)
      · refine r_return (pc := 115) q rt dX12_reads_115 ?_
        exact ⟨hA, fun i i0 i1 => hR i i0 (by omega)⟩
      exact absurd (show h (m + 5) l1 ≤ (j : Int) + 1 by omega) c11
    | succ d ih =>
      intro j hj h2 o3 o4 o5 n3 n4 hA hR
      obtain ⟨k1, k2, k3, k4, k5, k6, k7, k8, k9⟩ := keep h2 hA
      have hu := hU j (by omega) (by omega)
      obtain ⟨u1, u8, us⟩ := id hu
      have vb := vS_in (fun x => h (m + 7) (9 * (10 * l1 + j) + x)) (h (m + 8) (10 * l1 + j)).toNat
      obtain ⟨V, hV⟩ : ∃ V, vS (fun x => h (m + 7) (9 * (10 * l1 + j) + x)) (h (m + 8) (10 * l1 + j)).toNat = V := ⟨_, rfl⟩
      rw [hV] at vb
      have rl0 : RLM h m (10 * l1 + j) 0 = (1, fun _ => V) := by unfold RLM; rw [hV]; rfl
      have inR_rl : ∀ b : Nat, (b : Int) ≤ h m 23 → ∀ k : Int, 0 ≤ k → k < (RLM h m (10 * l1 + j) b).1 → inR ((RLM h m (10 * l1 + j) b).2 k) := by
        intro b hb k q0 q1
        unfold RLM at q1 ⊢
        rw [hV] at q1 ⊢
        refine rlS_all (P := inR) ⟨by omega, by omega⟩ b (fun x x0 x1 _ => ?_) k q0 q1
        have s1 := svI_in (h (m + 17) x)
        have s2 := svI_in (h (m + 16) x)
        exact ⟨by omega, by omega⟩
      have inner : ∀ (e b : Nat), (b : Int) + e = h m 23 → ∀ (h3 : sH) (o : Option Value), (∀ a : Nat, a ≠ m + 19 → a ≠ m + 20 → a ≠ m + 21 → h3 a = h a) → (∀ i : Int, 0 ≤ i → i < j → rdM h h3 m l1 i) → rowP h3 m j (RLM h m (10 * l1 + j) b).1 (RLM h m (10 * l1 + j) b).2 (fun v => COM h m (10 * l1 + j) v (h m 23).toNat) → G X 0 0 38 [some (.ref m), some (.int (iI l1)), some (.int (iI j)), some (.int (iI V)), some (.int (iI b)), o] [] sz S r h3 := by
        intro e
        induction e with
        | zero =>
          intro b hb h3 o hA3 hR3 hrow
          obtain ⟨y1, y2, y3, y4, y5, y6, y7, y8, y9⟩ := keep h3 hA3
          refine r_iload_4 (pc := 38) q dX12_reads_38 ?_
          refine r_aload_0 (pc := 40) q dX12_reads_40 ?_
          refine r_geti (pc := 41) q fX12_187 (kz := 23) rfl (by decide) rfl hM.o dX12_reads_41 ?_
          rw [y4]
          refine r_icmp_ge (pc := 44) q 109 dX12_reads_44 (by decide) ⟨by omega, by omega⟩ ⟨by omega, by omega⟩ (fun c44 => ?_) (fun c44 => ?_)
          · refine r_iinc_2 (pc := 109) q dX12_reads_109 rfl ?_
            refine r_goto (pc := 112) (tgt := 2) q dX12_reads_112 (by decide) ?_
            refine ih (j + 1) (by omega) h3 _ _ _ rfl rfl hA3 (fun i i0 i1 => ?_)
            by_cases q1 : i = j
            · rw [q1]; unfold rdM; rw [show (h m 23).toNat = b by omega] at hrow ⊢; exact hrow
            · exact hR3 i i0 (by omega)
          exact absurd (show h m 23 ≤ (b : Int) by omega) c44
        | succ e ih2 =>
          intro b hb h3 o hA3 hR3 hrow
          obtain ⟨y1, y2, y3, y4, y5, y6, y7, y8, y9⟩ := keep h3 hA3
          have hbb := hh b (by omega) (by omega)
          have s1 := svI_in (h (m + 17) b)
          have s2 := svI_in (h (m + 16) b)
          have szb := hsz (10 * l1 + j) b
          have step : RLM h m (10 * l1 + j) (b + 1) = cif (wks (fun x => h (m + 7) (9 * (10 * l1 + j) + x)) (h (m + 8) (10 * l1 + j)) (h (m + 17) b) (h (m + 16) b) ∧ ∀ k : Int, 0 ≤ k → k < (RLM h m (10 * l1 + j) b).1 → (RLM h m (10 * l1 + j) b).2 k ≠ V - svI (h (m + 17) b) + svI (h (m + 16) b)) ((RLM h m (10 * l1 + j) b).1 + 1, up (RLM h m (10 * l1 + j) b).2 ((RLM h m (10 * l1 + j) b).1 : Int) (V - svI (h (m + 17) b) + svI (h (m + 16) b))) (RLM h m (10 * l1 + j) b) := by
            unfold RLM
            rw [hV]
            rfl
          have same : ∀ (o : Option Value), ¬ (wks (fun x => h (m + 7) (9 * (10 * l1 + j) + x)) (h (m + 8) (10 * l1 + j)) (h (m + 17) b) (h (m + 16) b) ∧ ∀ k : Int, 0 ≤ k → k < (RLM h m (10 * l1 + j) b).1 → (RLM h m (10 * l1 + j) b).2 k ≠ V - svI (h (m + 17) b) + svI (h (m + 16) b)) → G X 0 0 103 [some (.ref m), some (.int (iI l1)), some (.int (iI j)), some (.int (iI V)), some (.int (iI b)), o] [] sz S r h3 := by
            intro o hn
            rw [cif_f hn] at step
            refine r_iinc_4 (pc := 103) q dX12_reads_103 rfl ?_
            refine r_goto (pc := 106) (tgt := 38) q dX12_reads_106 (by decide) ?_
            exact ih2 (b + 1) (by omega) h3 o hA3 hR3 (by rw [step]; exact hrow)
          have hcb : ∀ v, 0 ≤ COM h m (10 * l1 + j) v (h m 23).toNat ∧ COM h m (10 * l1 + j) v (h m 23).toNat ≤ 1000000 := fun v => CO_in (fun k k0 k1 => (hh k k0 (by omega)).2.2.1)
          refine r_iload_4 (pc := 38) q dX12_reads_38 ?_
          refine r_aload_0 (pc := 40) q dX12_reads_40 ?_
          refine r_geti (pc := 41) q fX12_187 (kz := 23) rfl (by decide) rfl hM.o dX12_reads_41 ?_
          rw [y4]
          refine r_icmp_ge (pc := 44) q 109 dX12_reads_44 (by decide) ⟨by omega, by omega⟩ ⟨by omega, by omega⟩ (fun c44 => ?_) (fun c44 => ?_)
          · exact absurd c44 (by omega)
          refine r_iload_3 (pc := 47) q dX12_reads_47 ?_
          refine r_aload_0 (pc := 48) q dX12_reads_48 ?_
          refine r_getr (pc := 49) q fX12_64 (kz := 25) rfl (by decide) rfl hM.o hM.r_written dX12_reads_49 ?_
          refine r_iload_4 (pc := 52) q dX12_reads_52 ?_
          refine r_iald (pc := 54) q hM.s_written (by omega) (by omega) dX12_reads_54 ?_
          rw [y9]
          refine r_sI1 (pc := 55) q (c_X12_worth (by first | assumption | exact ⟨by omega, by omega⟩ | omega)) mX12_171 (by decide) (Nat.le_of_ble_eq_true rfl) rfl dX12_reads_55 (fun z1 h1 hz1 => ?_)
          obtain ⟨rfl, rfl⟩ := hz1
          refine r_isub (pc := 58) q dX12_reads_58 ?_
          refine r_aload_0 (pc := 59) q dX12_reads_59 ?_
          refine r_getr (pc := 60) q fX12_61 (kz := 24) rfl (by decide) rfl hM.o hM.r_truly dX12_reads_60 ?_
          refine r_iload_4 (pc := 63) q dX12_reads_63 ?_
          refine r_iald (pc := 65) q hM.s_truly (by omega) (by omega) dX12_reads_65 ?_
          rw [y8]
          refine r_sI1 (pc := 66) q (c_X12_worth (by first | assumption | exact ⟨by omega, by omega⟩ | omega)) mX12_171 (by decide) (Nat.le_of_ble_eq_true rfl) rfl dX12_reads_66 (fun z2 h2 hz2 => ?_)
          obtain ⟨rfl, rfl⟩ := hz2
          refine r_iadd (pc := 69) q dX12_reads_69 ?_
          refine r_istore_5 (pc := 70) q dX12_reads_70 rfl ?_
          refine r_iload_5 (pc := 72) q dX12_reads_72 ?_
          refine r_if_le (pc := 74) q 103 dX12_reads_74 (by decide) ⟨by omega, by omega⟩ (fun c74 => ?_) (fun c74 => ?_)
          · refine same _ (fun q1 => ?_)
            have := wks_pos (by omega) (fun i i0 i1 => us i i0 i1) (by omega) (by omega) q1.1
            omega
          refine r_aload_0 (pc := 77) q dX12_reads_77 ?_
          refine r_iload_1 (pc := 78) q dX12_reads_78 ?_
          refine r_iload_2 (pc := 79) q dX12_reads_79 ?_
          refine r_iload_4 (pc := 80) q dX12_reads_80 ?_
          refine r_cI3 (pc := 82) q (c_X12_canBe hM (by omega) (by omega) (by omega) (by omega) (y1 j (by omega) (by omega)) y2 (by omega) (by rw [y4]; omega)) mX12_205 hM.o (by decide) (Nat.le_of_ble_eq_true rfl) rfl dX12_reads_82 (fun z5 h5 hz5 => ?_)
          obtain ⟨hz5, rfl⟩ := hz5
          rw [y6, y7, y8, y9] at hz5
          refine r_if_eq (pc := 85) q 103 dX12_reads_85 (by decide) ⟨by omega, by omega⟩ (fun c85 => ?_) (fun c85 => ?_)
          · refine same _ (fun q1 => ?_)
            rcases hz5 with ⟨q2, -⟩ | ⟨-, q2⟩
            · omega
            · exact q2 q1.1
          refine r_aload_0 (pc := 88) q dX12_reads_88 ?_
          refine r_iload_2 (pc := 89) q dX12_reads_89 ?_
          refine r_iload_5 (pc := 90) q dX12_reads_90 ?_
          refine r_aload_0 (pc := 92) q dX12_reads_92 ?_
          refine r_iload_1 (pc := 93) q dX12_reads_93 ?_
          refine r_iload_2 (pc := 94) q dX12_reads_94 ?_
          refine r_iload_5 (pc := 95) q dX12_reads_95 ?_
          refine r_cI3 (pc := 97) q (c_X12_costOf hM (by omega) (by omega) (by omega) (by omega) (y1 j (by omega) (by omega)) y2 ⟨by omega, by omega⟩) mX12_208 hM.o (by decide) (Nat.le_of_ble_eq_true rfl) rfl dX12_reads_97 (fun z3 h3 hz3 => ?_)
          obtain ⟨rfl, rfl⟩ := hz3
          rw [y4, y3]
          have hcv := hcb (V - svI (h (m + 17) b) + svI (h (m + 16) b))
          refine r_cV3 (pc := 100) q (c_X12_adds (s := (RLM h m (10 * l1 + j) b).1) (vl := (RLM h m (10 * l1 + j) b).2) hM (by omega) (by omega) ⟨by omega, by omega⟩ ⟨by omega, by omega⟩ (by omega) hrow.1 (fun k k0 k1 => ⟨(hrow.2 k k0 k1).1, inR_rl b (by omega) k k0 k1⟩)) mX12_212 hM.o (by decide) (Nat.le_of_ble_eq_true rfl) rfl dX12_reads_100 (fun h6 hz6 => ?_)
          rcases hz5 with ⟨-, q2⟩ | ⟨q2, -⟩
          · rcases hz6 with ⟨⟨k, q3, q4, q5⟩, rfl⟩ | ⟨q3, eh6⟩
            · exact same _ (fun q1 => q1.2 k q3 q4 q5)
            · rw [cif_t ⟨q2, q3⟩] at step
              refine r_iinc_4 (pc := 103) q dX12_reads_103 rfl ?_
              refine r_goto (pc := 106) (tgt := 38) q dX12_reads_106 (by decide) ?_
              refine ih2 (b + 1) (by omega) h6 _ (fun a a1 a2 a3 => ?_) (fun i i0 i1 => ?_) ?_
              · rw [eh6, pf_o _ _ _ a3, pf_o _ _ _ a2, pf_o _ _ _ a1]; exact hA3 a a1 a2 a3
              · have szn := hsz (10 * l1 + i) (h m 23).toNat
                exact rowP_ne (hR3 i i0 i1) (by omega) (by omega) (by omega) eh6
              · rw [step]; exact rowP_add hrow eh6
          · exact absurd q2 (by omega)
      refine r_iload_2 (pc := 2) q dX12_reads_2 ?_
      refine r_iconst (pc := 3) q dX12_reads_3 ?_
      refine r_iadd (pc := 4) q dX12_reads_4 ?_
      refine r_aload_0 (pc := 5) q dX12_reads_5 ?_
      refine r_getr (pc := 6) q fX12_23 (kz := 7) rfl (by decide) rfl hM.o hM.r_stations dX12_reads_6 ?_
      refine r_iload_1 (pc := 9) q dX12_reads_9 ?_
      refine r_iald (pc := 10) q hM.s_stations (by omega) (by omega) dX12_reads_10 ?_
      rw [k5]
      refine r_icmp_ge (pc := 11) q 115 dX12_reads_11 (by decide) ⟨by omega, by omega⟩ ⟨by omega, by omega⟩ (fun c11 => ?_) (fun c11 => ?_)
      · exact absurd c11 (by omega)
      refine r_aload_0 (pc := 14) q dX12_reads_14 ?_
      refine r_getr (pc := 15) q fX12_82 (kz := 32) rfl (by decide) rfl hM.o hM.r_values dX12_reads_15 ?_
      refine r_iload_2 (pc := 18) q dX12_reads_18 ?_
      refine r_iconst (pc := 19) q dX12_reads_19 ?_
      refine r_iast (pc := 20) q hM.s_values (by omega) (by omega) dX12_reads_20 (fun h3 eh3 => ?_)
      have g3 : ∀ a : Nat, a ≠ m + 19 → a ≠ m + 20 → a ≠ m + 21 → h3 a = h a := fun a a1 a2 a3 => by rw [eh3, up_n _ _ a3]; exact hA a a1 a2 a3
      obtain ⟨y1, y2, y3, y4, y5, y6, y7, y8, y9⟩ := keep h3 g3
      have r3 : ∀ i : Int, 0 ≤ i → i < j → rdM h h3 m l1 i := fun i i0 i1 => rowP_kp (hR i i0 i1) (by rw [eh3, up_n _ _ (by omega)]) (by rw [eh3, up_n _ _ (by omega)]) (by rw [eh3, up_s, up_n _ _ (by omega)])
      refine r_aload_0 (pc := 21) q dX12_reads_21 ?_
      refine r_iload_1 (pc := 22) q dX12_reads_22 ?_
      refine r_iload_2 (pc := 23) q dX12_reads_23 ?_
      refine r_cI2 (pc := 24) q (c_X12_valueOf hM (by omega) (by omega) (by omega) (by omega) (y1 j (by omega) (by omega))) mX12_201 hM.o (by decide) (Nat.le_of_ble_eq_true rfl) rfl dX12_reads_24 (fun z1 h1 hz1 => ?_)
      obtain ⟨rfl, rfl⟩ := hz1
      rw [y6, y7, hV]
      refine r_istore_3 (pc := 27) q dX12_reads_27 rfl ?_
      refine r_aload_0 (pc := 28) q dX12_reads_28 ?_
      refine r_iload_2 (pc := 29) q dX12_reads_29 ?_
      refine r_iload_3 (pc := 30) q dX12_reads_30 ?_
      refine r_iconst (pc := 31) q dX12_reads_31 ?_
      refine r_cV3 (pc := 32) q (c_X12_adds (s := 0) (vl := fun _ => 0) hM (by omega) (by omega) ⟨by omega, by omega⟩ ⟨by omega, by omega⟩ (by omega) (by rw [eh3, up_s, up_s]; rfl) (fun k k0 k1 => by omega)) mX12_212 hM.o (by decide) (Nat.le_of_ble_eq_true rfl) rfl dX12_reads_32 (fun h4 hz4 => ?_)
      refine r_iconst (pc := 35) q dX12_reads_35 ?_
      refine r_istore_4 (pc := 36) q dX12_reads_36 rfl ?_
      rcases hz4 with ⟨⟨k, q1, q2, -⟩, -⟩ | ⟨-, eh4⟩
      · omega
      · have hco : COM h m (10 * l1 + j) V (h m 23).toNat = 0 := by unfold COM; rw [hV]; exact CO_own (fun k k0 k1 => by have := (hh k k0 (by omega)).2.2.1.1; omega)
        refine inner (h m 23).toNat 0 (by omega) h4 _ (fun a a1 a2 a3 => ?_) (fun i i0 i1 => ?_) ?_
        · rw [eh4, pf_o _ _ _ a3, pf_o _ _ _ a2, pf_o _ _ _ a1]; exact g3 a a1 a2 a3
        · have szn := hsz (10 * l1 + i) (h m 23).toNat
          exact rowP_ne (r3 i i0 i1) (by omega) (by omega) (by omega) eh4
        · rw [rl0]
          have r0 : rowP h3 m j 0 (fun _ => V) (fun v => COM h m (10 * l1 + j) v (h m 23).toNat) := ⟨by rw [eh3, up_s, up_s]; rfl, fun k k0 k1 => by omega⟩
          have := rowP_add (h3 := h4) (v := V) r0 (by rw [hco]; exact eh4)
          rw [show up (fun _ : Int => V) ((0 : Nat) : Int) V = fun _ => V by funext x; unfold up; split <;> rfl] at this
          exact this
  refine r_iconst (pc := 0) q dX12_reads_0 ?_
  refine r_istore_2 (pc := 1) q dX12_reads_1 rfl ?_
  exact outer (h (m + 5) l1 - 1).toNat 0 (by omega) h _ _ _ rfl rfl (fun _ _ _ _ => rfl) (fun i i0 i1 => by omega)
