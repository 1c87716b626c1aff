abbrev pf (h : sH) (a : Nat) (k z : Int) : sH := up h a (up (h a) k z)
theorem pf_s (h : sH) (a : Nat) (k z : Int) : pf h a k z a k = z := by simp [up]
theorem pf_f (h : sH) (a : Nat) {k j : Int} (z : Int) (e : j ≠ k) : pf h a k z a j = h a j := by simp [up, e]
theorem pf_o (h : sH) {a b : Nat} (k z : Int) (e : b ≠ a) : pf h a k z b = h b := by simp [up, e]
theorem cmpI_in (x y : Int) : -1 ≤ cmpI x y ∧ cmpI x y ≤ 1 := by unfold cmpI; split <;> (try split) <;> omega
theorem cmpI_0 {x y : Int} : cmpI x y = 0 ↔ x = y := by
  unfold cmpI
  split
  · constructor <;> intro <;> omega
  · split
    · constructor <;> intro <;> omega
    · constructor <;> intro <;> omega
theorem c_X12_letters {l : Launch} {D : va_G} {aC : Nat → ClassId} {B t sz : Nat} {S : sS} {r : sR} {h : sH} {v n : Int} {g : Int → Int} (hN : NmP v g n) : CtI l yX12_letters cX12_letters 5 (some .int) 0 0 [.long (lI v)] D aC B t sz S r h (fun z h1 => n = z ∧ h = h1) := by
  unfold CtI
  refine Ct.of (lv := [some (.long (lI v)), none, none, none, none]) (by decide +kernel) rfl (Nat.le_of_ble_eq_true rfl) (fun X hl q rt hnm => ?_)
  obtain ⟨n1, n8, hg, rfl⟩ := hN
  have lp : ∀ (k : Nat), (k : Int) ≤ n → G X 0 0 4 [some (.long (lI (nk g n.toNat))), none, some (.int (iI (n - k))), some (.long (lI (nk g k))), none] [] sz S r h := by
    intro k
    induction k with
    | zero =>
      intro hk
      refine r_lload_3 (pc := 4) q dX12_letters_4 ?_
      refine r_lconst (pc := 5) q dX12_letters_5 (by decide) ?_
      refine r_lcmp (pc := 6) q dX12_letters_6 ⟨by show (-9223372036854775808 : Int) ≤ 0; decide, by show (0 : Int) ≤ 9223372036854775807; decide⟩ ⟨by decide, by decide⟩ ?_
      refine r_if_eq (pc := 7) q 21 dX12_letters_7 (by decide) ⟨by have := cmpI_in (nk g 0) ((0 : Fin 2) : Nat); omega, by have := cmpI_in (nk g 0) ((0 : Fin 2) : Nat); omega⟩ (fun c7 => ?_) (fun c7 => ?_)
      · refine r_iload_2 (pc := 21) q dX12_letters_21 ?_
        refine r_ireturn (pc := 22) q rt dX12_letters_22 ?_
        exact ⟨by omega, rfl⟩
      exact absurd (cmpI_0.mpr rfl) c7
    | succ k ih =>
      intro hk
      have hl : ∀ i : Int, 0 ≤ i → i < (k + 1 : Nat) → isL (g i) := fun i h0 h1 => hg i h0 (by omega)
      have p0 := nk_pos (g := g) (n := k + 1) (by omega) (fun i h0 h1 => by have := (hl i h0 h1).1; omega)
      have p1 := nk_lt (g := g) (n := k + 1) (by omega) (fun i h0 h1 => by have := (hl i h0 h1).2; omega)
      have ps := nk_shift hl 1 (by omega)
      have hc := cmpI_in (nk g (k + 1)) ((0 : Fin 2) : Nat)
      refine r_lload_3 (pc := 4) q dX12_letters_4 ?_
      refine r_lconst (pc := 5) q dX12_letters_5 (by decide) ?_
      refine r_lcmp (pc := 6) q dX12_letters_6 ⟨by omega, by omega⟩ ⟨by decide, by decide⟩ ?_
      refine r_if_eq (pc := 7) q 21 dX12_letters_7 (by decide) ⟨by omega, by omega⟩ (fun c7 => ?_) (fun c7 => ?_)
      · rw [cmpI_0] at c7
        exact absurd c7 (by show ¬ nk g (k + 1) = 0; omega)
      refine r_iinc_2 (pc := 10) q dX12_letters_10 rfl ?_
      refine r_lload_3 (pc := 13) q dX12_letters_13 ?_
      refine r_bipush (pc := 14) q dX12_letters_14 (by decide) ?_
      refine r_lushr (pc := 16) (z := nk g k) q dX12_letters_16 (by rw [lI_ushr (by omega) (by omega) (by decide) (by decide)]; exact congrArg lI ps) ?_
      refine r_lstore_3 (pc := 17) q dX12_letters_17 rfl ?_
      refine r_goto (pc := 18) (tgt := 4) q dX12_letters_18 (by decide) ?_
      rw [show n - ((k + 1 : Nat) : Int) + 1 = n - k by omega]
      exact ih (by omega)
  refine r_iconst (pc := 0) q dX12_letters_0 ?_
  refine r_istore_2 (pc := 1) q dX12_letters_1 rfl ?_
  refine r_lload_0 (pc := 2) q dX12_letters_2 ?_
  refine r_lstore_3 (pc := 3) q dX12_letters_3 rfl ?_
  have := lp n.toNat (by omega)
  rw [show n - (n.toNat : Int) = 0 by omega] at this
  exact this
theorem c_X12_letterOf {l : Launch} {D : va_G} {aC : Nat → ClassId} {B t sz : Nat} {S : sS} {r : sR} {h : sH} {v n i : Int} {g : Int → Int} (hN : NmP v g n) (i0 : 0 ≤ i) (i1 : i < n) : CtI l yX12_letterOf cX12_letterOf 3 (some .int) 1 24 [.long (lI v), .int (iI i)] D aC B t sz S r h (fun z h1 => g i = z ∧ h = h1) := by
  unfold CtI
  refine Ct.of (lv := [some (.long (lI v)), none, some (.int (iI i))]) (by decide +kernel) rfl (Nat.le_of_ble_eq_true rfl) (fun X hl q rt hnm => ?_)
  obtain ⟨n1, n8, hg, e⟩ := id hN
  have p0 := hN.nn
  have p1 := hN.lt
  have ps := nk_shift (g := g) (n := n.toNat) (fun i h0 h1 => hg i h0 (by omega)) (n - 1 - i).toNat (by omega)
  obtain ⟨j, hj⟩ : ∃ j : Nat, n.toNat - (n - 1 - i).toNat = j + 1 := ⟨i.toNat, by omega⟩
  have hji : (j : Int) = i := by omega
  rw [hj] at ps
  simp only [nk] at ps
  have q0 := nk_nn (g := g) (n := j) (fun i h0 h1 => by have := (hg i h0 (by omega)).1; omega)
  have hgi := hg i i0 i1
  unfold isL at hgi
  rw [hji] at ps
  refine r_lload_0 (pc := 0) q dX12_letterOf_0 ?_
  refine r_bipush (pc := 1) q dX12_letterOf_1 (by decide) ?_
  refine r_lload_0 (pc := 3) q dX12_letterOf_3 ?_
  refine r_sI1 (pc := 4) q (c_X12_letters (by first | assumption | exact ⟨by omega, by omega⟩ | omega)) mX12_124 (by decide) (Nat.le_of_ble_eq_true rfl) rfl dX12_letterOf_4 (fun z1 h1 hz1 => ?_)
  obtain ⟨rfl, rfl⟩ := hz1
  refine r_iconst (pc := 7) q dX12_letterOf_7 ?_
  refine r_isub (pc := 8) q dX12_letterOf_8 ?_
  refine r_iload_2 (pc := 9) q dX12_letterOf_9 ?_
  refine r_isub (pc := 10) q dX12_letterOf_10 ?_
  refine r_imul (pc := 11) q dX12_letterOf_11 ?_
  refine r_lushr (pc := 12) (z := nk g j * 256 + g i) q dX12_letterOf_12 (by rw [lI_ushr (by omega) (by omega) (by omega) (by omega)]; refine congrArg lI ?_; rw [show (8 * (n - 1 - i)).toNat = 8 * (n - 1 - i).toNat by omega, e]; exact ps) ?_
  refine r_ldc2_w (pc := 13) q kX12_128 dX12_letterOf_13 ?_
  refine r_land (pc := 16) (z := g i) q dX12_letterOf_16 (by
    have hle : nk g j * 256 + g i ≤ v := by rw [← ps, ← e]; exact Int.ediv_le_self _ (by omega)
    rw [lI_and255 (by omega) (by omega)]; refine congrArg lI ?_; omega) ?_
  refine r_l2i (pc := 17) q dX12_letterOf_17 ⟨by omega, by omega⟩ ?_
  refine r_ireturn (pc := 18) q rt dX12_letterOf_18 ?_
  exact ⟨rfl, rfl⟩
theorem c_X12_tapeName {l : Launch} {D : va_G} {aC : Nat → ClassId} {B t sz : Nat} {S : sS} {r : sR} {h : sH} {m : Nat} (hM : LX12 S r m) (t0 : 0 ≤ h m 2) (t1 : h m 2 ≤ 200) : CtL l yX12_tapeName cX12_tapeName 3 (some .long) 2 48 [.ref m] D aC B t sz S r h (fun z h1 => ((isNm (bA h m) 0 (h m 2) → z = nk (bA h m) (h m 2).toNat) ∧ (¬ isNm (bA h m) 0 (h m 2) → z = 0)) ∧ h1 = pf h m 2 0) := by
  unfold CtL
  refine Ct.of (lv := [some (.ref m), none, none]) (by decide +kernel) rfl (Nat.le_of_ble_eq_true rfl) (fun X hl q rt hnm => ?_)
  refine r_aload_0 (pc := 0) q dX12_tapeName_0 ?_
  refine r_iconst (pc := 1) q dX12_tapeName_1 ?_
  refine r_aload_0 (pc := 2) q dX12_tapeName_2 ?_
  refine r_geti (pc := 3) q fX12_109 (kz := 2) rfl (by decide) rfl hM.o dX12_tapeName_3 ?_
  refine r_cL2 (pc := 6) q (c_X12_nameOf (by first | assumption | exact ⟨by omega, by omega⟩ | omega) (by first | assumption | exact ⟨by omega, by omega⟩ | omega) (by first | assumption | exact ⟨by omega, by omega⟩ | omega) (by first | assumption | exact ⟨by omega, by omega⟩ | omega) (by first | assumption | exact ⟨by omega, by omega⟩ | omega) (by first | assumption | exact ⟨by omega, by omega⟩ | omega) (by first | assumption | exact ⟨by omega, by omega⟩ | omega)) mX12_120 hM.o (by decide) (Nat.le_of_ble_eq_true rfl) rfl dX12_tapeName_6 (fun z1 h1 hz1 => ?_)
  obtain ⟨hz1, rfl⟩ := hz1
  refine r_lstore_1 (pc := 9) q dX12_tapeName_9 rfl ?_
  refine r_aload_0 (pc := 10) q dX12_tapeName_10 ?_
  refine r_iconst (pc := 11) q dX12_tapeName_11 ?_
  refine r_puti (pc := 12) q fX12_109 (kz := 2) rfl (by decide) rfl hM.o dX12_tapeName_12 (fun h2 eh2 => ?_)
  refine r_lload_1 (pc := 15) q dX12_tapeName_15 ?_
  refine r_lreturn (pc := 16) q rt dX12_tapeName_16 ?_
  refine ⟨⟨fun e => ?_, hz1.2⟩, eh2⟩
  have := hz1.1 e
  rw [this, Int.sub_zero]
  exact nk_congr (fun i _ _ => by rw [Int.zero_add])
def cs (so : Int → Int) (a b : Int) : Int := if a = b then 0 else if so (a - 97) = so (b - 97) then 1 else 3
theorem cs_in (so : Int → Int) (a b : Int) : 0 ≤ cs so a b ∧ cs so a b ≤ 3 := by unfold cs; split <;> (try split) <;> omega
def soR (f : Int → Int) : Prop := ∀ k : Int, 0 ≤ k → k < 26 → 0 ≤ f k ∧ f k ≤ 25
theorem c_X12_swap {l : Launch} {D : va_G} {aC : Nat → ClassId} {B t sz : Nat} {S : sS} {r : sR} {h : sH} {m : Nat} {a b : Int} (hM : LX12 S r m) (hs : soR (h (m + 2))) (ha : isL a) (hb : isL b) : CtI l yX12_swap cX12_swap 3 (some .int) 0 0 [.ref m, .int (iI a), .int (iI b)] D aC B t sz S r h (fun z h1 => cs (h (m + 2)) a b = z ∧ h = h1) := by
  unfold CtI
  refine Ct.of (lv := [some (.ref m), some (.int (iI a)), some (.int (iI b))]) (by decide +kernel) rfl (Nat.le_of_ble_eq_true rfl) (fun X hl q rt hnm => ?_)
  obtain ⟨a0, a1⟩ := ha
  obtain ⟨b0, b1⟩ := hb
  have s1 := hs (a - 97) (by omega) (by omega)
  have s2 := hs (b - 97) (by omega) (by omega)
  refine r_iload_1 (pc := 0) q dX12_swap_0 ?_
  refine r_iload_2 (pc := 1) q dX12_swap_1 ?_
  refine r_icmp_ne (pc := 2) q 9 dX12_swap_2 (by decide) ⟨by omega, by omega⟩ ⟨by omega, by omega⟩ (fun c2 => ?_) (fun c2 => ?_)
  · refine r_aload_0 (pc := 9) q dX12_swap_9 ?_
    refine r_getr (pc := 10) q fX12_13 (kz := 3) rfl (by decide) rfl hM.o hM.r_sound dX12_swap_10 ?_
    refine r_iload_1 (pc := 13) q dX12_swap_13 ?_
    refine r_bipush (pc := 14) q dX12_swap_14 (by decide) ?_
    refine r_isub (pc := 16) q dX12_swap_16 ?_
    refine r_iald (pc := 17) q hM.s_sound (by omega) (by omega) dX12_swap_17 ?_
    refine r_aload_0 (pc := 18) q dX12_swap_18 ?_
    refine r_getr (pc := 19) q fX12_13 (kz := 3) rfl (by decide) rfl hM.o hM.r_sound dX12_swap_19 ?_
    refine r_iload_2 (pc := 22) q dX12_swap_22 ?_
    refine r_bipush (pc := 23) q dX12_swap_23 (by decide) ?_
    refine r_isub (pc := 25) q dX12_swap_25 ?_
    refine r_iald (pc := 26) q hM.s_sound (by omega) (by omega) dX12_swap_26 ?_
    refine r_icmp_ne (pc := 27) q 34 dX12_swap_27 (by decide) ⟨by omega, by omega⟩ ⟨by omega, by omega⟩ (fun c27 => ?_) (fun c27 => ?_)
    · refine r_iconst (pc := 34) q dX12_swap_34 ?_
      refine r_ireturn (pc := 35) q rt dX12_swap_35 ?_
      exact ⟨by unfold cs; rw [if_neg c2, if_neg c27], rfl⟩
    refine r_iconst (pc := 30) q dX12_swap_30 ?_
    refine r_goto (pc := 31) (tgt := 35) q dX12_swap_31 (by decide) ?_
    refine r_ireturn (pc := 35) q rt dX12_swap_35 ?_
    exact ⟨by unfold cs; rw [if_neg c2, if_pos c27], rfl⟩
  refine r_iconst (pc := 5) q dX12_swap_5 ?_
  refine r_goto (pc := 6) (tgt := 35) q dX12_swap_6 (by decide) ?_
  refine r_ireturn (pc := 35) q rt dX12_swap_35 ?_
  exact ⟨by unfold cs; rw [if_pos c2], rfl⟩
theorem c_X12_end {l : Launch} {D : va_G} {aC : Nat → ClassId} {B t sz : Nat} {S : sS} {r : sR} {h : sH} {m : Nat} {n : Int} (hM : LX12 S r m) (t0 : 0 ≤ h m 2) (t1 : h m 2 ≤ 200) (hn : inR n) : CtI l yX12_end cX12_end 2 (some .int) 1 22 [.ref m, .int (iI n)] D aC B t sz S r h (fun z h1 => (0 ≤ n ∧ n ≤ h m 2 ∧ z = n ∧ h1 = pf (pf h m 0 0) m 2 n) ∨ ((n < 0 ∨ h m 2 < n) ∧ z = -1 ∧ h1 = pf h m 0 0)) := by
  unfold CtI
  refine Ct.of (lv := [some (.ref m), some (.int (iI n))]) (by decide +kernel) rfl (Nat.le_of_ble_eq_true rfl) (fun X hl q rt hnm => ?_)
  obtain ⟨n0, n1⟩ := id hn
  refine r_aload_0 (pc := 0) q dX12_end_0 ?_
  refine r_iconst (pc := 1) q dX12_end_1 ?_
  refine r_puti (pc := 2) q fX12_106 (kz := 0) rfl (by decide) rfl hM.o dX12_end_2 (fun h1 eh1 => ?_)
  have e2 : h1 m 2 = h m 2 := by rw [eh1]; exact pf_f _ _ _ (by decide)
  refine r_iload_1 (pc := 5) q dX12_end_5 ?_
  refine r_iconst (pc := 6) q dX12_end_6 ?_
  refine r_aload_0 (pc := 7) q dX12_end_7 ?_
  refine r_geti (pc := 8) q fX12_109 (kz := 2) rfl (by decide) rfl hM.o dX12_end_8 ?_
  refine r_sI3 (pc := 11) q (c_X12_within (by first | assumption | exact ⟨by omega, by omega⟩ | omega) (by first | assumption | exact ⟨by omega, by omega⟩ | omega) (by first | assumption | exact ⟨by omega, by omega⟩ | omega)) mX12_112 (by decide) (Nat.le_of_ble_eq_true rfl) rfl dX12_end_11 (fun z3 h3 hz3 => ?_)
  obtain ⟨hz3, rfl⟩ := hz3
  refine r_if_ne (pc := 14) q 19 dX12_end_14 (by decide) ⟨by omega, by omega⟩ (fun c14 => ?_) (fun c14 => ?_)
  · refine r_aload_0 (pc := 19) q dX12_end_19 ?_
    refine r_iload_1 (pc := 20) q dX12_end_20 ?_
    refine r_puti (pc := 21) q fX12_109 (kz := 2) rfl (by decide) rfl hM.o dX12_end_21 (fun h2 eh2 => ?_)
    refine r_iload_1 (pc := 24) q dX12_end_24 ?_
    refine r_ireturn (pc := 25) q rt dX12_end_25 ?_
    exact Or.inl ⟨by omega, by omega, rfl, by rw [eh2, eh1]⟩
  refine r_iconst (pc := 17) q dX12_end_17 ?_
  refine r_ireturn (pc := 18) q rt dX12_end_18 ?_
  exact Or.inr ⟨by omega, rfl, eh1⟩
