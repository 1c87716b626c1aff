theorem c_X12_within {l : Launch} {D : va_G} {aC : Nat → ClassId} {B t sz : Nat} {S : sS} {r : sR} {h : sH} {v lo hi : Int} (h1 : inR v) (h2 : inR lo) (h3 : inR hi) : CtI l yX12_within cX12_within 3 (some .boolean) 0 0 [.int (iI v), .int (iI lo), .int (iI hi)] D aC B t sz S r h (fun z h1 => ((z = 1 ∧ lo ≤ v ∧ v ≤ hi) ∨ (z = 0 ∧ (v < lo ∨ hi < v))) ∧ h = h1) := by
  unfold CtI
  refine Ct.of (lv := [some (.int (iI v)), some (.int (iI lo)), some (.int (iI hi))]) (by decide +kernel) rfl (Nat.le_of_ble_eq_true rfl) (fun X hl q rt hnm => ?_)
  refine r_iload_0 (pc := 0) q dX12_within_0 ?_
  refine r_iload_1 (pc := 1) q dX12_within_1 ?_
  refine r_icmp_lt (pc := 2) q 14 dX12_within_2 (by decide) h1 h2 (fun c2 => ?_) (fun c2 => ?_)
  · refine r_iconst (pc := 14) q dX12_within_14 ?_
    refine r_zreturn (pc := 15) q rt dX12_within_15 (by decide) ?_
    exact ⟨by omega, rfl⟩
  refine r_iload_0 (pc := 5) q dX12_within_5 ?_
  refine r_iload_2 (pc := 6) q dX12_within_6 ?_
  refine r_icmp_gt (pc := 7) q 14 dX12_within_7 (by decide) h1 h3 (fun c7 => ?_) (fun c7 => ?_)
  · refine r_iconst (pc := 14) q dX12_within_14 ?_
    refine r_zreturn (pc := 15) q rt dX12_within_15 (by decide) ?_
    exact ⟨by omega, rfl⟩
  refine r_iconst (pc := 10) q dX12_within_10 ?_
  refine r_goto (pc := 11) (tgt := 15) q dX12_within_11 (by decide) ?_
  refine r_zreturn (pc := 15) q rt dX12_within_15 (by decide) ?_
  exact ⟨by omega, rfl⟩
theorem c_X12_less {l : Launch} {D : va_G} {aC : Nat → ClassId} {B t sz : Nat} {S : sS} {r : sR} {h : sH} {a b : Int} (h1 : inR a) (h2 : inR b) : CtI l yX12_less cX12_less 2 (some .int) 0 0 [.int (iI a), .int (iI b)] D aC B t sz S r h (fun z h1 => min a b = z ∧ h = h1) := by
  unfold CtI
  refine Ct.of (lv := [some (.int (iI a)), some (.int (iI b))]) (by decide +kernel) rfl (Nat.le_of_ble_eq_true rfl) (fun X hl q rt hnm => ?_)
  refine r_iload_0 (pc := 0) q dX12_less_0 ?_
  refine r_iload_1 (pc := 1) q dX12_less_1 ?_
  refine r_icmp_ge (pc := 2) q 9 dX12_less_2 (by decide) h1 h2 (fun c2 => ?_) (fun c2 => ?_)
  · refine r_iload_1 (pc := 9) q dX12_less_9 ?_
    refine r_ireturn (pc := 10) q rt dX12_less_10 ?_
    exact ⟨by omega, rfl⟩
  refine r_iload_0 (pc := 5) q dX12_less_5 ?_
  refine r_goto (pc := 6) (tgt := 10) q dX12_less_6 (by decide) ?_
  refine r_ireturn (pc := 10) q rt dX12_less_10 ?_
  exact ⟨by omega, rfl⟩
def signC (c : Int) : Int := if c = 73 then 1 else if c = 86 then 2 else if c = 88 then 3 else if c = 76 then 4 else 0
theorem signC_in (c : Int) : 0 ≤ signC c ∧ signC c ≤ 4 := by unfold signC; split <;> (try split) <;> (try split) <;> (try split) <;> omega
theorem c_X12_signOf {l : Launch} {D : va_G} {aC : Nat → ClassId} {B t sz : Nat} {S : sS} {r : sR} {h : sH} {c : Int} (h1 : inR c) : CtI l yX12_signOf cX12_signOf 1 (some .int) 0 0 [.int (iI c)] D aC B t sz S r h (fun z h1 => signC c = z ∧ h = h1) := by
  unfold CtI
  refine Ct.of (lv := [some (.int (iI c))]) (by decide +kernel) rfl (Nat.le_of_ble_eq_true rfl) (fun X hl q rt hnm => ?_)
  refine r_iload_0 (pc := 0) q dX12_signOf_0 ?_
  refine r_bipush (pc := 1) q dX12_signOf_1 (by decide) ?_
  refine r_icmp_ne (pc := 3) q 10 dX12_signOf_3 (by decide) h1 ⟨by omega, by omega⟩ (fun c3 => ?_) (fun c3 => ?_)
  · refine r_iload_0 (pc := 10) q dX12_signOf_10 ?_
    refine r_bipush (pc := 11) q dX12_signOf_11 (by decide) ?_
    refine r_icmp_ne (pc := 13) q 20 dX12_signOf_13 (by decide) h1 ⟨by omega, by omega⟩ (fun c13 => ?_) (fun c13 => ?_)
    · refine r_iload_0 (pc := 20) q dX12_signOf_20 ?_
      refine r_bipush (pc := 21) q dX12_signOf_21 (by decide) ?_
      refine r_icmp_ne (pc := 23) q 30 dX12_signOf_23 (by decide) h1 ⟨by omega, by omega⟩ (fun c23 => ?_) (fun c23 => ?_)
      · refine r_iload_0 (pc := 30) q dX12_signOf_30 ?_
        refine r_bipush (pc := 31) q dX12_signOf_31 (by decide) ?_
        refine r_icmp_ne (pc := 33) q 40 dX12_signOf_33 (by decide) h1 ⟨by omega, by omega⟩ (fun c33 => ?_) (fun c33 => ?_)
        · refine r_iconst (pc := 40) q dX12_signOf_40 ?_
          refine r_ireturn (pc := 41) q rt dX12_signOf_41 ?_
          exact ⟨by unfold signC; simp [*], rfl⟩
        refine r_iconst (pc := 36) q dX12_signOf_36 ?_
        refine r_goto (pc := 37) (tgt := 41) q dX12_signOf_37 (by decide) ?_
        refine r_ireturn (pc := 41) q rt dX12_signOf_41 ?_
        exact ⟨by unfold signC; simp [*], rfl⟩
      refine r_iconst (pc := 26) q dX12_signOf_26 ?_
      refine r_goto (pc := 27) (tgt := 41) q dX12_signOf_27 (by decide) ?_
      refine r_ireturn (pc := 41) q rt dX12_signOf_41 ?_
      exact ⟨by unfold signC; simp [*], rfl⟩
    refine r_iconst (pc := 16) q dX12_signOf_16 ?_
    refine r_goto (pc := 17) (tgt := 41) q dX12_signOf_17 (by decide) ?_
    refine r_ireturn (pc := 41) q rt dX12_signOf_41 ?_
    exact ⟨by unfold signC; simp [*], rfl⟩
  refine r_iconst (pc := 6) q dX12_signOf_6 ?_
  refine r_goto (pc := 7) (tgt := 41) q dX12_signOf_7 (by decide) ?_
  refine r_ireturn (pc := 41) q rt dX12_signOf_41 ?_
  exact ⟨by unfold signC; simp [*], rfl⟩
theorem svI_in (c : Int) : 0 ≤ svI c ∧ svI c ≤ 50 := by unfold svI; split <;> (try split) <;> (try split) <;> (try split) <;> omega
theorem c_X12_worth {l : Launch} {D : va_G} {aC : Nat → ClassId} {B t sz : Nat} {S : sS} {r : sR} {h : sH} {c : Int} (h1 : inR c) : CtI l yX12_worth cX12_worth 1 (some .int) 0 0 [.int (iI c)] D aC B t sz S r h (fun z h1 => svI c = z ∧ h = h1) := by
  unfold CtI
  refine Ct.of (lv := [some (.int (iI c))]) (by decide +kernel) rfl (Nat.le_of_ble_eq_true rfl) (fun X hl q rt hnm => ?_)
  refine r_iload_0 (pc := 0) q dX12_worth_0 ?_
  refine r_iconst (pc := 1) q dX12_worth_1 ?_
  refine r_icmp_ne (pc := 2) q 9 dX12_worth_2 (by decide) h1 ⟨by omega, by omega⟩ (fun c2 => ?_) (fun c2 => ?_)
  · refine r_iload_0 (pc := 9) q dX12_worth_9 ?_
    refine r_iconst (pc := 10) q dX12_worth_10 ?_
    refine r_icmp_ne (pc := 11) q 18 dX12_worth_11 (by decide) h1 ⟨by omega, by omega⟩ (fun c11 => ?_) (fun c11 => ?_)
    · refine r_iload_0 (pc := 18) q dX12_worth_18 ?_
      refine r_iconst (pc := 19) q dX12_worth_19 ?_
      refine r_icmp_ne (pc := 20) q 28 dX12_worth_20 (by decide) h1 ⟨by omega, by omega⟩ (fun c20 => ?_) (fun c20 => ?_)
      · refine r_iload_0 (pc := 28) q dX12_worth_28 ?_
        refine r_iconst (pc := 29) q dX12_worth_29 ?_
        refine r_icmp_ne (pc := 30) q 38 dX12_worth_30 (by decide) h1 ⟨by omega, by omega⟩ (fun c30 => ?_) (fun c30 => ?_)
        · refine r_iconst (pc := 38) q dX12_worth_38 ?_
          refine r_ireturn (pc := 39) q rt dX12_worth_39 ?_
          exact ⟨by unfold svI; simp [*], rfl⟩
        refine r_bipush (pc := 33) q dX12_worth_33 (by decide) ?_
        refine r_goto (pc := 35) (tgt := 39) q dX12_worth_35 (by decide) ?_
        refine r_ireturn (pc := 39) q rt dX12_worth_39 ?_
        exact ⟨by unfold svI; simp [*], rfl⟩
      refine r_bipush (pc := 23) q dX12_worth_23 (by decide) ?_
      refine r_goto (pc := 25) (tgt := 39) q dX12_worth_25 (by decide) ?_
      refine r_ireturn (pc := 39) q rt dX12_worth_39 ?_
      exact ⟨by unfold svI; simp [*], rfl⟩
    refine r_iconst (pc := 14) q dX12_worth_14 ?_
    refine r_goto (pc := 15) (tgt := 39) q dX12_worth_15 (by decide) ?_
    refine r_ireturn (pc := 39) q rt dX12_worth_39 ?_
    exact ⟨by unfold svI; simp [*], rfl⟩
  refine r_iconst (pc := 5) q dX12_worth_5 ?_
  refine r_goto (pc := 6) (tgt := 39) q dX12_worth_6 (by decide) ?_
  refine r_ireturn (pc := 39) q rt dX12_worth_39 ?_
  exact ⟨by unfold svI; simp [*], rfl⟩
def bA (h : sH) (m : Nat) (k : Int) : Int := if k < h m 2 then h (m + 1) k % 256 else 0
theorem bA_in (h : sH) (m : Nat) (k : Int) : 0 ≤ bA h m k ∧ bA h m k ≤ 255 := by unfold bA; split <;> omega
theorem c_X12_byteAt {l : Launch} {D : va_G} {aC : Nat → ClassId} {B t sz : Nat} {S : sS} {r : sR} {h : sH} {m : Nat} {k : Int} (hM : LX12 S r m) (k0 : 0 ≤ k) (k1 : k ≤ 1000) (t0 : 0 ≤ h m 2) (t1 : h m 2 ≤ 200) : CtI l yX12_byteAt cX12_byteAt 2 (some .int) 0 0 [.ref m, .int (iI k)] D aC B t sz S r h (fun z h1 => bA h m k = z ∧ h = h1) := by
  unfold CtI
  refine Ct.of (lv := [some (.ref m), some (.int (iI k))]) (by decide +kernel) rfl (Nat.le_of_ble_eq_true rfl) (fun X hl q rt hnm => ?_)
  refine r_iload_1 (pc := 0) q dX12_byteAt_0 ?_
  refine r_aload_0 (pc := 1) q dX12_byteAt_1 ?_
  refine r_geti (pc := 2) q fX12_109 (kz := 2) rfl (by decide) rfl hM.o dX12_byteAt_2 ?_
  refine r_icmp_ge (pc := 5) q 21 dX12_byteAt_5 (by decide) ⟨by omega, by omega⟩ ⟨by omega, by omega⟩ (fun c5 => ?_) (fun c5 => ?_)
  · refine r_iconst (pc := 21) q dX12_byteAt_21 ?_
    refine r_ireturn (pc := 22) q rt dX12_byteAt_22 ?_
    exact ⟨by unfold bA; rw [if_neg (by omega)], rfl⟩
  refine r_aload_0 (pc := 8) q dX12_byteAt_8 ?_
  refine r_getr (pc := 9) q fX12_7 (kz := 1) rfl (by decide) rfl hM.o hM.r_tape dX12_byteAt_9 ?_
  refine r_iload_1 (pc := 12) q dX12_byteAt_12 ?_
  refine r_bald (pc := 13) q hM.s_tape (by omega) (by omega) dX12_byteAt_13 ?_
  refine r_sipush (pc := 14) q dX12_byteAt_14 (by decide) ?_
  refine r_iand (pc := 17) (z := h (m + 1) k % 256) q dX12_byteAt_17 (iI_and255 _) ?_
  refine r_goto (pc := 18) (tgt := 22) q dX12_byteAt_18 (by decide) ?_
  refine r_ireturn (pc := 22) q rt dX12_byteAt_22 ?_
  exact ⟨by unfold bA; rw [if_pos (by omega)], rfl⟩
def isNm (f : Int → Int) (a b : Int) : Prop := 1 ≤ b - a ∧ b - a ≤ 8 ∧ ∀ k, a ≤ k → k < b → isL (f k)
theorem c_X12_nameOf {l : Launch} {D : va_G} {aC : Nat → ClassId} {B t sz : Nat} {S : sS} {r : sR} {h : sH} {m : Nat} {a b : Int} (hM : LX12 S r m) (t0 : 0 ≤ h m 2) (t1 : h m 2 ≤ 200) (a0 : 0 ≤ a) (a1 : a ≤ 300) (b0 : 0 ≤ b) (b1 : b ≤ 300) : CtL l yX12_nameOf cX12_nameOf 7 (some .long) 1 22 [.ref m, .int (iI a), .int (iI b)] D aC B t sz S r h (fun z h1 => ((isNm (bA h m) a b → z = nk (fun j => bA h m (a + j)) (b - a).toNat) ∧ (¬ isNm (bA h m) a b → z = 0)) ∧ h = h1) := by
  unfold CtL
  refine Ct.of (lv := [some (.ref m), some (.int (iI a)), some (.int (iI b)), none, none, none, none]) (by decide +kernel) rfl (Nat.le_of_ble_eq_true rfl) (fun X hl q rt hnm => ?_)
  have z0 : ∀ (k v : Int), inR k → ¬ isNm (bA h m) a b → G X 0 0 25 [some (.ref m), some (.int (iI a)), some (.int (iI b)), some (.long (lI v)), none, some (.int (iI 0)), some (.int (iI k))] [] sz S r h := by
    intro k v hk hn
    refine r_iload_6 (pc := 25) q dX12_nameOf_25 ?_
    refine r_iload_2 (pc := 27) q dX12_nameOf_27 ?_
    refine r_icmp_ge (pc := 28) q 70 dX12_nameOf_28 (by decide) hk ⟨by omega, by omega⟩ (fun c28 => ?_) (fun c28 => ?_)
    · refine r_iload_5 (pc := 70) q dX12_nameOf_70 ?_
      refine r_if_eq (pc := 72) q 79 dX12_nameOf_72 (by decide) ⟨by omega, by omega⟩ (fun c72 => ?_) (fun c72 => ?_)
      · refine r_lconst (pc := 79) q dX12_nameOf_79 (by decide) ?_
        refine r_lreturn (pc := 80) q rt dX12_nameOf_80 ?_
        exact ⟨⟨fun e => absurd e hn, fun _ => rfl⟩, rfl⟩
      exact absurd rfl c72
    refine r_iload_5 (pc := 31) q dX12_nameOf_31 ?_
    refine r_if_eq (pc := 33) q 70 dX12_nameOf_33 (by decide) ⟨by omega, by omega⟩ (fun c33 => ?_) (fun c33 => ?_)
    · refine r_iload_5 (pc := 70) q dX12_nameOf_70 ?_
      refine r_if_eq (pc := 72) q 79 dX12_nameOf_72 (by decide) ⟨by omega, by omega⟩ (fun c72 => ?_) (fun c72 => ?_)
      · refine r_lconst (pc := 79) q dX12_nameOf_79 (by decide) ?_
        refine r_lreturn (pc := 80) q rt dX12_nameOf_80 ?_
        exact ⟨⟨fun e => absurd e hn, fun _ => rfl⟩, rfl⟩
      exact absurd rfl c72
    exact absurd rfl c33
  have lp : ∀ (n i : Nat), (i : Int) + n = b - a → b - a ≤ 8 → 1 ≤ b - a → (∀ j : Int, a ≤ j → j < a + i → isL (bA h m j)) → G X 0 0 25 [some (.ref m), some (.int (iI a)), some (.int (iI b)), some (.long (lI (nk (fun j => bA h m (a + j)) i))), none, some (.int (iI 1)), some (.int (iI (a + i)))] [] sz S r h := by
    intro n
    induction n with
    | zero =>
      intro i hi h8 h1 hL
      have hnm : isNm (bA h m) a b := ⟨h1, h8, fun k k0 k1 => hL k k0 (by omega)⟩
      refine r_iload_6 (pc := 25) q dX12_nameOf_25 ?_
      refine r_iload_2 (pc := 27) q dX12_nameOf_27 ?_
      refine r_icmp_ge (pc := 28) q 70 dX12_nameOf_28 (by decide) ⟨by omega, by omega⟩ ⟨by omega, by omega⟩ (fun c28 => ?_) (fun c28 => ?_)
      · refine r_iload_5 (pc := 70) q dX12_nameOf_70 ?_
        refine r_if_eq (pc := 72) q 79 dX12_nameOf_72 (by decide) ⟨by omega, by omega⟩ (fun c72 => ?_) (fun c72 => ?_)
        · exact absurd c72 (by decide)
        refine r_lload_3 (pc := 75) q dX12_nameOf_75 ?_
        refine r_goto (pc := 76) (tgt := 80) q dX12_nameOf_76 (by decide) ?_
        refine r_lreturn (pc := 80) q rt dX12_nameOf_80 ?_
        exact ⟨⟨fun _ => by rw [show (b - a).toNat = i by omega], fun e => absurd hnm e⟩, rfl⟩
      exact absurd (show b ≤ a + i by omega) c28
    | succ n ih =>
      intro i hi h8 h1 hL
      have hb0 : 0 ≤ nk (fun j => bA h m (a + j)) i := nk_nn (fun j _ _ => (bA_in h m (a + j)).1)
      have hb1 := nk_bd (g := fun j => bA h m (a + j)) (n := i) (fun j j0 j1 => by have := (hL (a + j) (by omega) (by omega)).2; omega)
      have hb2 := p256 (n := i) (by omega)
      have hb3 : (256 : Int) ^ i ≤ 72057594037927936 := by
        rcases (show i = 0 ∨ i = 1 ∨ i = 2 ∨ i = 3 ∨ i = 4 ∨ i = 5 ∨ i = 6 ∨ i = 7 by omega) with rfl | rfl | rfl | rfl | rfl | rfl | rfl | rfl <;> decide
      have hbb := bA_in h m (a + i)
      refine r_iload_6 (pc := 25) q dX12_nameOf_25 ?_
      refine r_iload_2 (pc := 27) q dX12_nameOf_27 ?_
      refine r_icmp_ge (pc := 28) q 70 dX12_nameOf_28 (by decide) ⟨by omega, by omega⟩ ⟨by omega, by omega⟩ (fun c28 => ?_) (fun c28 => ?_)
      · exact absurd c28 (by omega)
      refine r_iload_5 (pc := 31) q dX12_nameOf_31 ?_
      refine r_if_eq (pc := 33) q 70 dX12_nameOf_33 (by decide) ⟨by omega, by omega⟩ (fun c33 => ?_) (fun c33 => ?_)
      · exact absurd c33 (by decide)
      refine r_aload_0 (pc := 36) q dX12_nameOf_36 ?_
      refine r_iload_6 (pc := 37) q dX12_nameOf_37 ?_
      refine r_cI1 (pc := 39) q (c_X12_byteAt (by first | assumption | exact ⟨by omega, by omega⟩ | omega) (by first | assumption | exact ⟨by omega, by omega⟩ | omega) (by first | assumption | exact ⟨by omega, by omega⟩ | omega) (by first | assumption | exact ⟨by omega, by omega⟩ | omega) (by first | assumption | exact ⟨by omega, by omega⟩ | omega)) mX12_116 hM.o (by decide) (Nat.le_of_ble_eq_true rfl) rfl dX12_nameOf_39 (fun z1 h1 hz1 => ?_)
      obtain ⟨rfl, rfl⟩ := hz1
      refine r_bipush (pc := 42) q dX12_nameOf_42 (by decide) ?_
      refine r_bipush (pc := 44) q dX12_nameOf_44 (by decide) ?_
      refine r_sI3 (pc := 46) q (c_X12_within (by first | assumption | exact ⟨by omega, by omega⟩ | omega) (by first | assumption | exact ⟨by omega, by omega⟩ | omega) (by first | assumption | exact ⟨by omega, by omega⟩ | omega)) mX12_112 (by decide) (Nat.le_of_ble_eq_true rfl) rfl dX12_nameOf_46 (fun z9 h9 hz9 => ?_)
      obtain ⟨hz9, rfl⟩ := hz9
      refine r_istore_5 (pc := 49) q dX12_nameOf_49 rfl ?_
      refine r_lload_3 (pc := 51) q dX12_nameOf_51 ?_
      refine r_bipush (pc := 52) q dX12_nameOf_52 (by decide) ?_
      refine r_lshl (pc := 54) (z := nk (fun j => bA h m (a + j)) i * 256) q dX12_nameOf_54 (lI_shl8 hb0) ?_
      refine r_aload_0 (pc := 55) q dX12_nameOf_55 ?_
      refine r_iload_6 (pc := 56) q dX12_nameOf_56 ?_
      refine r_cI1 (pc := 58) q (c_X12_byteAt (by first | assumption | exact ⟨by omega, by omega⟩ | omega) (by first | assumption | exact ⟨by omega, by omega⟩ | omega) (by first | assumption | exact ⟨by omega, by omega⟩ | omega) (by first | assumption | exact ⟨by omega, by omega⟩ | omega) (by first | assumption | exact ⟨by omega, by omega⟩ | omega)) mX12_116 hM.o (by decide) (Nat.le_of_ble_eq_true rfl) rfl dX12_nameOf_58 (fun z2 h2 hz2 => ?_)
      obtain ⟨rfl, rfl⟩ := hz2
      refine r_i2l (pc := 61) q dX12_nameOf_61 ⟨by omega, by omega⟩ ?_
      refine r_lor (pc := 62) (z := nk (fun j => bA h m (a + j)) i * 256 + bA h m (a + i)) q dX12_nameOf_62 (lI_or8 hb0 (by omega) hbb.1 (by omega)) ?_
      refine r_lstore_3 (pc := 63) q dX12_nameOf_63 rfl ?_
      refine r_iinc_6 (pc := 64) q dX12_nameOf_64 rfl ?_
      refine r_goto (pc := 67) (tgt := 25) q dX12_nameOf_67 (by decide) ?_
      rw [show a + (i : Int) + 1 = a + ((i + 1 : Nat) : Int) by omega]
      rcases hz9 with ⟨rfl, g1, g2⟩ | ⟨rfl, g1⟩
      · exact ih (i + 1) (by omega) h8 h1 (fun j j0 j1 => by
          by_cases e : j = a + i
          · rw [e]; exact ⟨g1, g2⟩
          · exact hL j j0 (by omega))
      · exact z0 _ _ ⟨by omega, by omega⟩ (fun e => by
          have := e.2.2 (a + i) (by omega) (by omega)
          unfold isL at this
          omega)
  refine r_lconst (pc := 0) q dX12_nameOf_0 (by decide) ?_
  refine r_lstore_3 (pc := 1) q dX12_nameOf_1 rfl ?_
  refine r_iload_2 (pc := 2) q dX12_nameOf_2 ?_
  refine r_iload_1 (pc := 3) q dX12_nameOf_3 ?_
  refine r_icmp_le (pc := 4) q 19 dX12_nameOf_4 (by decide) ⟨by omega, by omega⟩ ⟨by omega, by omega⟩ (fun c4 => ?_) (fun c4 => ?_)
  · refine r_iconst (pc := 19) q dX12_nameOf_19 ?_
    refine r_istore_5 (pc := 20) q dX12_nameOf_20 rfl ?_
    refine r_iload_1 (pc := 22) q dX12_nameOf_22 ?_
    refine r_istore_6 (pc := 23) q dX12_nameOf_23 rfl ?_
    exact z0 _ _ ⟨by omega, by omega⟩ (fun e => by have := e.1; omega)
  refine r_iload_2 (pc := 7) q dX12_nameOf_7 ?_
  refine r_iload_1 (pc := 8) q dX12_nameOf_8 ?_
  refine r_isub (pc := 9) q dX12_nameOf_9 ?_
  refine r_bipush (pc := 10) q dX12_nameOf_10 (by decide) ?_
  refine r_icmp_gt (pc := 12) q 19 dX12_nameOf_12 (by decide) ⟨by omega, by omega⟩ ⟨by omega, by omega⟩ (fun c12 => ?_) (fun c12 => ?_)
  · refine r_iconst (pc := 19) q dX12_nameOf_19 ?_
    refine r_istore_5 (pc := 20) q dX12_nameOf_20 rfl ?_
    refine r_iload_1 (pc := 22) q dX12_nameOf_22 ?_
    refine r_istore_6 (pc := 23) q dX12_nameOf_23 rfl ?_
    exact z0 _ _ ⟨by omega, by omega⟩ (fun e => by have := e.2.1; omega)
  refine r_iconst (pc := 15) q dX12_nameOf_15 ?_
  refine r_goto (pc := 16) (tgt := 20) q dX12_nameOf_16 (by decide) ?_
  refine r_istore_5 (pc := 20) q dX12_nameOf_20 rfl ?_
  refine r_iload_1 (pc := 22) q dX12_nameOf_22 ?_
  refine r_istore_6 (pc := 23) q dX12_nameOf_23 rfl ?_
  have := lp (b - a).toNat 0 (by omega) (by omega) (by omega) (fun j j0 j1 => by omega)
  rw [show a + ((0 : Nat) : Int) = a by omega] at this
  exact this
