/-! ===== the land's constructor ===== -/
def eX2 (h : sH) (a : Nat) : Prop := h a 2 = 0 ∧ h a 3 = 0 ∧ h a 4 = 10 ∧ h a 5 = 6
def inv2 (S0 : sS) (r0 : sR) (h0 : sH) (a j : Nat) (S : sS) (r : sR) (h : sH) : Prop := (∀ b : Nat, b < a → S b = S0 b ∧ r b = r0 b ∧ h b = h0 b) ∧ eX2 h a ∧ S a = some (2, 0) ∧ (r a 0 = some (a + 1) ∧ r a 1 = some (a + 2)) ∧ (S (a + 1) = some (27, 12) ∧ S (a + 2) = some (27, 12)) ∧ ∀ i : Int, 0 ≤ i → i < j → (r (a + 1) i = some (a + 3 + 6 * i.toNat) ∧ LX0 S r (a + 3 + 6 * i.toNat)) ∧ r (a + 2) i = some (a + 6 + 6 * i.toNat) ∧ LX0 S r (a + 6 + 6 * i.toNat)
theorem inv2_s {S0 : sS} {r0 : sR} {h0 : sH} {a j : Nat} {S S1 S3 : sS} {r r1 r2 r3 r4 : sR} {h h1 h3 : sH} (i : inv2 S0 r0 h0 a j S r h) (f1 : ∀ b : Nat, b < a + 3 + 6 * j → S1 b = S b ∧ r1 b = r b ∧ h1 b = h b) (L1 : LX0 S1 r1 (a + 3 + 6 * j)) (e2 : r2 = up r1 (a + 1) (up (r1 (a + 1)) (j : Int) (some (a + 3 + 6 * j)))) (f3 : ∀ b : Nat, b < a + 3 + 6 * j + 3 → S3 b = S1 b ∧ r3 b = r2 b ∧ h3 b = h1 b) (L3 : LX0 S3 r3 (a + 3 + 6 * j + 3)) (e4 : r4 = up r3 (a + 2) (up (r3 (a + 2)) (j : Int) (some (a + 3 + 6 * j + 3)))) : inv2 S0 r0 h0 a (j + 1) S3 r4 h3 := by
  obtain ⟨i1, i2, i3, ⟨i4, i5⟩, ⟨i7, i8⟩, i10⟩ := i
  have fS : ∀ b : Nat, b < a + 3 + 6 * j → S3 b = S b ∧ h3 b = h b := fun b hb => by
    obtain ⟨u1, u2, u3⟩ := f1 b hb
    obtain ⟨v1, v2, v3⟩ := f3 b (by omega)
    exact ⟨v1.trans u1, v3.trans u3⟩
  have fr : ∀ b : Nat, b < a + 3 + 6 * j → b ≠ a + 1 → b ≠ a + 2 → r4 b = r b := fun b hb b1 b2 => by
    rw [e4, up_n _ _ b2, (f3 b (by omega)).2.1, e2, up_n _ _ b1, (f1 b hb).2.1]
  have fr1 : r4 (a + 1) = up (r (a + 1)) (j : Int) (some (a + 3 + 6 * j)) := by rw [e4, up_n _ _ (show a + 1 ≠ a + 2 by omega), (f3 _ (by omega)).2.1, e2, up_s, (f1 _ (by omega)).2.1]
  have fr2 : r4 (a + 2) = up (r (a + 2)) (j : Int) (some (a + 3 + 6 * j + 3)) := by rw [e4, up_s, (f3 _ (by omega)).2.1, e2, up_n _ _ (show a + 2 ≠ a + 1 by omega), (f1 _ (by omega)).2.1]
  refine ⟨fun b hb => ?_, by unfold eX2; rw [(fS a (by omega)).2]; exact i2, by rw [(fS a (by omega)).1]; exact i3, ?_, ?_, fun x x0 x1 => ?_⟩
  · rw [(fS b (by omega)).1, (fS b (by omega)).2, fr b (by omega) (by omega) (by omega)]; exact i1 b hb
  · rw [fr a (by omega) (by omega) (by omega)]; exact ⟨i4, i5⟩
  · rw [(fS (a + 1) (by omega)).1, (fS (a + 2) (by omega)).1]; exact ⟨i7, i8⟩
  · by_cases e : x = j
    · subst e
      have ej : ((j : Int)).toNat = j := by omega
      rw [fr1, fr2, up_s, up_s, ej]
      refine ⟨⟨rfl, L1.fr fun c c0 c1 => ⟨(f3 c (by omega)).1, ?_⟩⟩, by rw [show a + 3 + 6 * j + 3 = a + 6 + 6 * j by omega], ?_⟩
      · rw [e4, up_n _ _ (show c ≠ a + 2 by omega), (f3 c (by omega)).2.1, e2, up_n _ _ (show c ≠ a + 1 by omega)]
      · rw [show a + 6 + 6 * j = a + 3 + 6 * j + 3 by omega]
        exact L3.fr fun c c0 c1 => ⟨rfl, by rw [e4, up_n _ _ (show c ≠ a + 2 by omega)]⟩
    · obtain ⟨⟨y1, y2⟩, y3, y4⟩ := i10 x x0 (by omega)
      rw [fr1, fr2, up_n _ _ e, up_n _ _ e]
      exact ⟨⟨y1, y2.fr fun c c0 c1 => ⟨(fS c (by omega)).1, fr c (by omega) (by omega) (by omega)⟩⟩, y3, y4.fr fun c c0 c1 => ⟨(fS c (by omega)).1, fr c (by omega) (by omega) (by omega)⟩⟩
theorem c_X2_init {l : Launch} {D : va_G} {aC : Nat → ClassId} {B t sz : Nat} {S : sS} {r : sR} {h : sH} {a : Nat} (ha : S a = some (2, 0)) (hs : sz = a + 1) (hz : ∀ k : Int, h a k = 0) : CtN l yX2_init cX2_init 2 3 52 74 360 [.ref a] D aC B t sz S r h (mkP 75 LX2 eX2 a S r h) := by
  refine CtN.of (lv := [some (.ref a), none]) (by decide +kernel) rfl (Nat.le_of_ble_eq_true rfl) (fun X hl q rt hnm ao _ _ _ _ => ?_)
  subst hs
  refine r_aload_0 (pc := 0) q dX2_init_0 ?_
  refine r_oinit (pc := 1) q mX2_3 (by decide) (by decide) rfl dX2_init_1 ?_
  refine r_aload_0 (pc := 4) q dX2_init_4 ?_
  refine r_bipush (pc := 5) q dX2_init_5 (by decide) ?_
  refine r_anew (pc := 7) (kd := 27) (t0 := 7) q rfl ao.2.2.2.1 xX2_9 (by decide) (by decide) rfl (by decide) (by decide) dX2_init_7 (fun S1 r1 h1 n1 => ?_)
  refine r_putrF (pc := 10) q hnm fX2_11 (kz := 0) rfl rfl (by decide) rfl (fun _ => rfl) (fun _ => rfl) (by rw [(n1.2.2.2 a (by omega)).1]; exact ha) dX2_init_10 (fun r2 e2 => ?_)
  refine r_aload_0 (pc := 13) q dX2_init_13 ?_
  refine r_bipush (pc := 14) q dX2_init_14 (by decide) ?_
  refine r_anew (pc := 16) (kd := 27) (t0 := 7) q rfl ao.2.2.2.1 xX2_9 (by decide) (by decide) rfl (by decide) (by decide) dX2_init_16 (fun S3 r3 h3 n3 => ?_)
  have s3 : S3 a = some (2, 0) := by rw [(n3.2.2.2 a (by omega)).1, (n1.2.2.2 a (by omega)).1]; exact ha
  refine r_putrF (pc := 19) q hnm fX2_17 (kz := 1) rfl rfl (by decide) rfl (fun _ => rfl) (fun _ => rfl) s3 dX2_init_19 (fun r4 e4 => ?_)
  refine r_aload_0 (pc := 22) q dX2_init_22 ?_
  refine r_bipush (pc := 23) q dX2_init_23 (by decide) ?_
  refine r_puti (pc := 25) q fX2_20 (kz := 4) rfl (by decide) rfl s3 dX2_init_25 (fun h5 e5 => ?_)
  refine r_aload_0 (pc := 28) q dX2_init_28 ?_
  refine r_bipush (pc := 29) q dX2_init_29 (by decide) ?_
  refine r_puti (pc := 31) q fX2_24 (kz := 5) rfl (by decide) rfl s3 dX2_init_31 (fun h6 e6 => ?_)
  refine r_iconst (pc := 34) q dX2_init_34 ?_
  refine r_istore_1 (pc := 35) q dX2_init_35 rfl ?_
  have i0 : inv2 S r h a 0 S3 r4 h6 := by
    have fr : ∀ b : Nat, b < a + 1 → S3 b = S b ∧ h3 b = h b := fun b hb => by
      rw [(n3.2.2.2 b (by omega)).1, (n1.2.2.2 b (by omega)).1, (n3.2.2.2 b (by omega)).2.2, (n1.2.2.2 b (by omega)).2.2]; exact ⟨rfl, rfl⟩
    have ra : r4 a = up (up (r a) 0 (some (a + 1))) 1 (some (a + 2)) := by
      rw [e4, up_s, (n3.2.2.2 a (by omega)).2.1, e2, up_s, (n1.2.2.2 a (by omega)).2.1]
    have hha : h6 a = up (up (h a) 4 10) 5 6 := by rw [e6, up_s, e5, up_s, (fr a (by omega)).2]
    refine ⟨fun b hb => ⟨(fr b (by omega)).1, ?_, ?_⟩, ?_, s3, ?_, ⟨?_, n3.1⟩, fun i i0 i1 => absurd i1 (by omega)⟩
    · rw [e4, up_n _ _ (show b ≠ a by omega), (n3.2.2.2 b (by omega)).2.1, e2, up_n _ _ (show b ≠ a by omega), (n1.2.2.2 b (by omega)).2.1]
    · rw [e6, up_n _ _ (show b ≠ a by omega), e5, up_n _ _ (show b ≠ a by omega)]; exact (fr b (by omega)).2
    · unfold eX2
      rw [hha]
      exact ⟨by rw [up_n _ _ (by decide), up_n _ _ (by decide)]; exact hz 2, by rw [up_n _ _ (by decide), up_n _ _ (by decide)]; exact hz 3, by rw [up_n _ _ (by decide), up_s], by rw [up_s]⟩
    · rw [ra]
      exact ⟨by rw [up_n _ _ (by decide), up_s], by rw [up_s]⟩
    · rw [(n3.2.2.2 (a + 1) (by omega)).1]; exact n1.1
  have lp : ∀ (d j : Nat) (S' : sS) (r' : sR) (h' : sH), j + d = 12 → inv2 S r h a j S' r' h' → G X (2 + 6 * j) (24 + 28 * j) 36 [some (.ref a), some (.int (iI (j : Int)))] [] (a + 3 + 6 * j) S' r' h' := by
    intro d
    induction d with
    | zero =>
      intro j S' r' h' hj i
      refine r_iload_1 (pc := 36) q dX2_init_36 ?_
      refine r_bipush (pc := 37) q dX2_init_37 (by decide) ?_
      refine r_icmp_ge (pc := 39) q 74 dX2_init_39 (by decide) ⟨by omega, by omega⟩ ⟨by omega, by omega⟩ (fun c => ?_) (fun c => absurd (by omega) c)
      obtain ⟨i1, i2, i3, ⟨i4, i5⟩, ⟨i7, i8⟩, i10⟩ := i
      exact g_return (pc := 74) q rt (by omega) (by omega) dX2_init_74 ⟨rfl, by omega, i1, ⟨i3, ⟨i4, i7, fun x x0 x1 => (i10 x x0 (by omega)).1⟩, i5, i8, fun x x0 x1 => (i10 x x0 (by omega)).2⟩, i2⟩
    | succ d ih =>
      intro j S' r' h' hj i
      refine r_iload_1 (pc := 36) q dX2_init_36 ?_
      refine r_bipush (pc := 37) q dX2_init_37 (by decide) ?_
      refine r_icmp_ge (pc := 39) q 74 dX2_init_39 (by decide) ⟨by omega, by omega⟩ ⟨by omega, by omega⟩ (fun c => absurd c (by omega)) (fun c => ?_)
      refine r_aload_0 (pc := 42) q dX2_init_42 ?_
      refine r_getr (pc := 43) q fX2_11 (kz := 0) rfl (by decide) rfl i.2.2.1 i.2.2.2.1.1 dX2_init_43 ?_
      refine r_iload_1 (pc := 46) q dX2_init_46 ?_
      refine r_mkN (pc := 47) q ao fcX0 (by decide) xX2_9 wn_X0 wi_X0 dv_X0 (fun S' r' h' g1 g2 => c_X0_init g1 rfl g2) mX2_27 ⟨by decide, by decide, by omega, by omega⟩ (Nat.le_of_ble_eq_true rfl) rfl dX2_init_47 dX2_init_50 dX2_init_51 (fun S1 r1 h1 f1 L1 E1 => ?_)
      refine r_aast (pc := 54) (kd := 27) (t0 := 7) (ci := 0) q rfl rfl (by decide) (by decide) (by rw [(f1 _ (by omega)).1]; exact i.2.2.2.2.1.1) L1.o (by omega) (by omega) dX2_init_54 (fun r2 e2 => ?_)
      refine r_aload_0 (pc := 55) q dX2_init_55 ?_
      refine r_getr (pc := 56) q fX2_17 (kz := 1) rfl (by decide) rfl (by rw [(f1 a (by omega)).1]; exact i.2.2.1) (by rw [e2, up_n _ _ (show a ≠ a + 1 by omega), (f1 a (by omega)).2.1]; exact i.2.2.2.1.2) dX2_init_56 ?_
      refine r_iload_1 (pc := 59) q dX2_init_59 ?_
      refine r_mkN (pc := 60) q ao fcX0 (by decide) xX2_9 wn_X0 wi_X0 dv_X0 (fun S' r' h' g1 g2 => c_X0_init g1 rfl g2) mX2_27 ⟨by decide, by decide, by omega, by omega⟩ (Nat.le_of_ble_eq_true rfl) rfl dX2_init_60 dX2_init_63 dX2_init_64 (fun S3 r3 h3 f3 L3 E3 => ?_)
      refine r_aast (pc := 67) (kd := 27) (t0 := 7) (ci := 0) q rfl rfl (by decide) (by decide) (by rw [(f3 _ (by omega)).1, (f1 _ (by omega)).1]; exact i.2.2.2.2.1.2) L3.o (by omega) (by omega) dX2_init_67 (fun r4 e4 => ?_)
      refine r_iinc_1 (pc := 68) q dX2_init_68 rfl ?_
      refine r_goto (pc := 71) (tgt := 36) q dX2_init_71 (by decide) ?_
      refine G.c (show _ = a + 3 + 6 * (j + 1) by omega) (G.w (show _ ≤ 2 + 6 * (j + 1) by omega) (show _ ≤ 24 + 28 * (j + 1) by omega) ?_)
      exact ih (j + 1) S3 r4 h3 (by omega) (inv2_s i f1 L1 e2 f3 L3 e4)
  exact lp 12 0 S3 r4 h6 (by omega) i0
