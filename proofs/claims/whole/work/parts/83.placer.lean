/-! ===== the placer's constructor ===== -/
def K5 (S : sS) (r : sR) (a : Nat) : Prop := S a = some (5, 0) ∧ (r a 0 = some (a + 1) ∧ S (a + 1) = some (29, 10) ∧ ∀ j : Int, 0 ≤ j → j < 10 → r (a + 1) j = some (a + 2 + j.toNat) ∧ S (a + 2 + j.toNat) = some (20, 601)) ∧ (r a 1 = some (a + 12) ∧ S (a + 12) = some (29, 10) ∧ ∀ j : Int, 0 ≤ j → j < 10 → r (a + 12) j = some (a + 13 + j.toNat) ∧ S (a + 13 + j.toNat) = some (20, 601)) ∧ (r a 2 = some (a + 23) ∧ S (a + 23) = some (20, 601)) ∧ (r a 3 = some (a + 24) ∧ S (a + 24) = some (23, 12621)) ∧ (r a 4 = some (a + 25) ∧ S (a + 25) = some (28, 10)) ∧ (r a 5 = some (a + 26) ∧ LX6 S r (a + 26)) ∧ (r a 6 = some (a + 29) ∧ S (a + 29) = some (20, 10))
theorem K5.fr {S S2 : sS} {r r2 : sR} {a : Nat} (k : K5 S r a) (f : ∀ c : Nat, a ≤ c → c < a + 30 → S2 c = S c ∧ (c ≠ a + 25 → r2 c = r c)) : K5 S2 r2 a := by
  obtain ⟨k1, ⟨k2, k3, k4⟩, ⟨k5, k6, k7⟩, ⟨k8, k9⟩, ⟨k10, k11⟩, ⟨k12, k13⟩, ⟨k14, k15⟩, k16, k17⟩ := k
  have fs : ∀ c : Nat, a ≤ c → c < a + 30 → S2 c = S c := fun c c0 c1 => (f c c0 c1).1
  have fr : ∀ c : Nat, a ≤ c → c < a + 30 → c ≠ a + 25 → r2 c = r c := fun c c0 c1 c2 => (f c c0 c1).2 c2
  have ra := fr a (by omega) (by omega) (by omega)
  refine ⟨by rw [fs a (by omega) (by omega)]; exact k1, ⟨by rw [ra]; exact k2, by rw [fs (a + 1) (by omega) (by omega)]; exact k3, fun j j0 j1 => ?_⟩, ⟨by rw [ra]; exact k5, by rw [fs (a + 12) (by omega) (by omega)]; exact k6, fun j j0 j1 => ?_⟩, ⟨by rw [ra]; exact k8, by rw [fs (a + 23) (by omega) (by omega)]; exact k9⟩, ⟨by rw [ra]; exact k10, by rw [fs (a + 24) (by omega) (by omega)]; exact k11⟩, ⟨by rw [ra]; exact k12, by rw [fs (a + 25) (by omega) (by omega)]; exact k13⟩, ⟨by rw [ra]; exact k14, k15.fr fun c c0 c1 => ⟨fs c (by omega) (by omega), fr c (by omega) (by omega) (by omega)⟩⟩, by rw [ra]; exact k16, by rw [fs (a + 29) (by omega) (by omega)]; exact k17⟩
  · rw [fr (a + 1) (by omega) (by omega) (by omega), fs (a + 2 + j.toNat) (by omega) (by omega)]; exact k4 j j0 j1
  · rw [fr (a + 12) (by omega) (by omega) (by omega), fs (a + 13 + j.toNat) (by omega) (by omega)]; exact k7 j j0 j1
def inv5 (S0 : sS) (r0 : sR) (h0 : sH) (a j : Nat) (S : sS) (r : sR) (h : sH) : Prop := (∀ b : Nat, b < a → S b = S0 b ∧ r b = r0 b ∧ h b = h0 b) ∧ K5 S r a ∧ ∀ i : Int, 0 ≤ i → i < j → r (a + 25) i = some (a + 30 + 3 * i.toNat) ∧ LX6 S r (a + 30 + 3 * i.toNat)
theorem inv5_s {S0 : sS} {r0 : sR} {h0 : sH} {a j : Nat} {S S1 : sS} {r r1 r2 : sR} {h h1 : sH} (i : inv5 S0 r0 h0 a j S r h) (f1 : ∀ b : Nat, b < a + 30 + 3 * j → S1 b = S b ∧ r1 b = r b ∧ h1 b = h b) (L1 : LX6 S1 r1 (a + 30 + 3 * j)) (e2 : r2 = up r1 (a + 25) (up (r1 (a + 25)) (j : Int) (some (a + 30 + 3 * j)))) : inv5 S0 r0 h0 a (j + 1) S1 r2 h1 := by
  obtain ⟨i1, i2, i3⟩ := i
  have fr : ∀ b : Nat, b < a + 30 + 3 * j → b ≠ a + 25 → r2 b = r b := fun b hb b1 => by rw [e2, up_n _ _ b1, (f1 b hb).2.1]
  refine ⟨fun b hb => ?_, i2.fr fun c c0 c1 => ⟨(f1 c (by omega)).1, fun c2 => fr c (by omega) c2⟩, fun x x0 x1 => ?_⟩
  · rw [(f1 b (by omega)).1, (f1 b (by omega)).2.2, fr b (by omega) (by omega)]; exact i1 b hb
  · have ra : r2 (a + 25) = up (r (a + 25)) (j : Int) (some (a + 30 + 3 * j)) := by rw [e2, up_s, (f1 _ (by omega)).2.1]
    by_cases e : x = j
    · subst e
      have ej : ((j : Int)).toNat = j := by omega
      rw [ra, up_s, ej]
      exact ⟨rfl, L1.fr fun c c0 c1 => ⟨rfl, by rw [e2, up_n _ _ (show c ≠ a + 25 by omega)]⟩⟩
    · obtain ⟨y1, y2⟩ := i3 x x0 (by omega)
      rw [ra, up_n _ _ e]
      exact ⟨y1, y2.fr fun c c0 c1 => ⟨(f1 c (by omega)).1, fr c (by omega) (by omega)⟩⟩
/-- a step that makes a thing at sz and puts it into field kz of a -/
def st5 (S S2 : sS) (r r2 : sR) (h h2 : sH) (a sz : Nat) (kz : Int) : Prop := (∀ b : Nat, b < sz → S2 b = S b ∧ h2 b = h b ∧ (b ≠ a → r2 b = r b)) ∧ r2 a = up (r a) kz (some sz)
theorem st5_n {S S1 : sS} {r r1 r2 : sR} {h h1 : sH} {a sz : Nat} {kz : Int} {e : Nat × Nat} (n1 : nw1 S S1 r r1 h h1 sz e) (ha : a < sz) (e2 : r2 = up r1 a (up (r1 a) kz (some sz))) : st5 S S1 r r2 h h1 a sz kz := by
  refine ⟨fun b hb => ⟨(n1.2.2.2 b (by omega)).1, (n1.2.2.2 b (by omega)).2.2, fun c => by rw [e2, up_n _ _ c, (n1.2.2.2 b (by omega)).2.1]⟩, ?_⟩
  rw [e2, up_s, (n1.2.2.2 a (by omega)).2.1]
theorem st5_m {S S1 : sS} {r r1 r2 : sR} {h h1 : sH} {a sz : Nat} {kz : Int} (n1 : ∀ b : Nat, b < sz → S1 b = S b ∧ r1 b = r b ∧ h1 b = h b) (ha : a < sz) (e2 : r2 = up r1 a (up (r1 a) kz (some sz))) : st5 S S1 r r2 h h1 a sz kz := by
  refine ⟨fun b hb => ⟨(n1 b hb).1, (n1 b hb).2.2, fun c => by rw [e2, up_n _ _ c, (n1 b hb).2.1]⟩, ?_⟩
  rw [e2, up_s, (n1 a ha).2.1]
/-- all that a later state keeps of an earlier one, below sz -/
def kp5 (S S2 : sS) (r r2 : sR) (h h2 : sH) (a sz : Nat) : Prop := ∀ b : Nat, b < sz → S2 b = S b ∧ h2 b = h b ∧ (b ≠ a → r2 b = r b)
theorem kp5.t {S S1 S2 : sS} {r r1 r2 : sR} {h h1 h2 : sH} {a sz sz1 : Nat} (k1 : kp5 S S1 r r1 h h1 a sz) (k2 : kp5 S1 S2 r1 r2 h1 h2 a sz1) (e : sz ≤ sz1) : kp5 S S2 r r2 h h2 a sz := fun b hb => by
  obtain ⟨u1, u2, u3⟩ := k1 b hb
  obtain ⟨v1, v2, v3⟩ := k2 b (by omega)
  exact ⟨v1.trans u1, v2.trans u2, fun c => (v3 c).trans (u3 c)⟩
theorem c_X5_init {l : Launch} {D : va_G} {aC : Nat → ClassId} {B t sz : Nat} {S : sS} {r : sR} {h : sH} {a : Nat} (ha : S a = some (5, 0)) (hs : sz = a + 1) : CtN l yX5_init cX5_init 2 2 32 59 25777 [.ref a] D aC B t sz S r h (mkP 60 LX5 (fun _ _ => True) a S r h) := by
  refine CtN.of (lv := [some (.ref a), none]) (by decide +kernel) rfl (Nat.le_of_ble_eq_true rfl) (fun X hl q rt hnm ao _ _ _ _ => ?_)
  subst hs
  refine r_aload_0 (pc := 0) q dX5_init_0 ?_
  refine r_oinit (pc := 1) q mX5_3 (by decide) (by decide) rfl dX5_init_1 ?_
  refine r_aload_0 (pc := 4) q dX5_init_4 ?_
  refine r_bipush (pc := 5) q dX5_init_5 (by decide) ?_
  refine r_sipush (pc := 7) q dX5_init_7 (by decide) ?_
  refine r_mna (pc := 10) q ao xX5_9 (by decide) rfl (by decide) (by decide) rfl (by decide) (by decide) dX5_init_10 (fun S1 r1 h1 m1 m2 m3 => ?_)
  have s1 : S1 a = some (5, 0) := by rw [(m1 a (by omega)).1]; exact ha
  refine r_putrF (pc := 14) q hnm fX5_11 (kz := 0) rfl rfl (by decide) rfl (fun _ => rfl) (fun _ => rfl) s1 dX5_init_14 (fun r1' e1 => ?_)
  have t1 := st5_m m1 (by omega) e1
  refine r_aload_0 (pc := 17) q dX5_init_17 ?_
  refine r_bipush (pc := 18) q dX5_init_18 (by decide) ?_
  refine r_sipush (pc := 20) q dX5_init_20 (by decide) ?_
  refine r_mna (pc := 23) q ao xX5_9 (by decide) rfl (by decide) (by decide) rfl (by decide) (by decide) dX5_init_23 (fun S2 r2 h2 m4 m5 m6 => ?_)
  have s2 : S2 a = some (5, 0) := by rw [(m4 a (by omega)).1]; exact s1
  refine r_putrF (pc := 27) q hnm fX5_16 (kz := 1) rfl rfl (by decide) rfl (fun _ => rfl) (fun _ => rfl) s2 dX5_init_27 (fun r2' e2 => ?_)
  have t2 := st5_m m4 (by omega) e2
  refine r_aload_0 (pc := 30) q dX5_init_30 ?_
  refine r_sipush (pc := 31) q dX5_init_31 (by decide) ?_
  refine r_newI (pc := 34) q (by decide) rfl (by decide) (by decide) dX5_init_34 (fun S3 r3 h3 n3 => ?_)
  have s3 : S3 a = some (5, 0) := by rw [(n3.2.2.2 a (by omega)).1]; exact s2
  refine r_putrF (pc := 36) q hnm fX5_19 (kz := 2) rfl rfl (by decide) rfl (fun _ => rfl) (fun _ => rfl) s3 dX5_init_36 (fun r3' e3 => ?_)
  have t3 := st5_n n3 (by omega) e3
  refine r_aload_0 (pc := 39) q dX5_init_39 ?_
  refine r_sipush (pc := 40) q dX5_init_40 (by decide) ?_
  refine r_newL (pc := 43) q (by decide) rfl (by decide) (by decide) dX5_init_43 (fun S4 r4 h4 n4 => ?_)
  have s4 : S4 a = some (5, 0) := by rw [(n4.2.2.2 a (by omega)).1]; exact s3
  refine r_putrF (pc := 45) q hnm fX5_23 (kz := 3) rfl rfl (by decide) rfl (fun _ => rfl) (fun _ => rfl) s4 dX5_init_45 (fun r4' e4 => ?_)
  have t4 := st5_n n4 (by omega) e4
  refine r_aload_0 (pc := 48) q dX5_init_48 ?_
  refine r_bipush (pc := 49) q dX5_init_49 (by decide) ?_
  refine r_anew (pc := 51) (kd := 28) (t0 := 8) q rfl ao.2.2.2.2.1 xX5_27 (by decide) (by decide) rfl (by decide) (by decide) dX5_init_51 (fun S5 r5 h5 n5 => ?_)
  have s5 : S5 a = some (5, 0) := by rw [(n5.2.2.2 a (by omega)).1]; exact s4
  refine r_putrF (pc := 54) q hnm fX5_29 (kz := 4) rfl rfl (by decide) rfl (fun _ => rfl) (fun _ => rfl) s5 dX5_init_54 (fun r5' e5 => ?_)
  have t5 := st5_n n5 (by omega) e5
  refine r_aload_0 (pc := 57) q dX5_init_57 ?_
  refine r_mkN (pc := 58) q ao fcX6 (by decide) xX5_27 wn_X6 wi_X6 dv_X6 (fun S' r' h' g1 g2 => c_X6_init g1 rfl g2) mX5_33 (by decide) (Nat.le_of_ble_eq_true rfl) rfl dX5_init_58 dX5_init_61 dX5_init_62 (fun S6 r6 h6 f6 L6 E6 => ?_)
  have s6 : S6 a = some (5, 0) := by rw [(f6 a (by omega)).1]; exact s5
  refine r_putrF (pc := 65) q hnm fX5_34 (kz := 5) rfl rfl (by decide) rfl (fun _ => rfl) (fun _ => rfl) s6 dX5_init_65 (fun r6' e6 => ?_)
  have t6 := st5_m f6 (by omega) e6
  refine r_aload_0 (pc := 68) q dX5_init_68 ?_
  refine r_bipush (pc := 69) q dX5_init_69 (by decide) ?_
  refine r_newI (pc := 71) q (by decide) rfl (by decide) (by decide) dX5_init_71 (fun S7 r7 h7 n7 => ?_)
  have s7 : S7 a = some (5, 0) := by rw [(n7.2.2.2 a (by omega)).1]; exact s6
  refine r_putrF (pc := 73) q hnm fX5_38 (kz := 6) rfl rfl (by decide) rfl (fun _ => rfl) (fun _ => rfl) s7 dX5_init_73 (fun r7' e7 => ?_)
  have t7 := st5_n n7 (by omega) e7
  refine r_iconst (pc := 76) q dX5_init_76 ?_
  refine r_istore_1 (pc := 77) q dX5_init_77 rfl ?_
  have i0 : inv5 S r h a 0 S7 r7' h7 := by
    have g6 : kp5 S6 S7 r6' r7' h6 h7 a (a + 29) := t7.1
    have g5 : kp5 S5 S7 r5' r7' h5 h7 a (a + 26) := kp5.t t6.1 g6 (by omega)
    have g4 : kp5 S4 S7 r4' r7' h4 h7 a (a + 25) := kp5.t t5.1 g5 (by omega)
    have g3 : kp5 S3 S7 r3' r7' h3 h7 a (a + 24) := kp5.t t4.1 g4 (by omega)
    have g2 : kp5 S2 S7 r2' r7' h2 h7 a (a + 23) := kp5.t t3.1 g3 (by omega)
    have g1 : kp5 S1 S7 r1' r7' h1 h7 a (a + 12) := kp5.t t2.1 g2 (by omega)
    have g0 : kp5 S S7 r r7' h h7 a (a + 1) := kp5.t t1.1 g1 (by omega)
    have ra : r7' a = up (up (up (up (up (up (up (r a) 0 (some (a + 1))) 1 (some (a + 12))) 2 (some (a + 23))) 3 (some (a + 24))) 4 (some (a + 25))) 5 (some (a + 26))) 6 (some (a + 29)) := by
      have u7 := t7.2
      rw [t6.2, t5.2, t4.2, t3.2, t2.2, t1.2] at u7
      exact u7
    refine ⟨fun b hb => ⟨(g0 b (by omega)).1, (g0 b (by omega)).2.2 (by omega), (g0 b (by omega)).2.1⟩, ⟨s7, ⟨?_, ?_, fun j j0 j1 => ?_⟩, ⟨?_, ?_, fun j j0 j1 => ?_⟩, ⟨?_, ?_⟩, ⟨?_, ?_⟩, ⟨?_, ?_⟩, ⟨?_, ?_⟩, ?_, n7.1⟩, fun i i0 i1 => absurd i1 (by omega)⟩
    · rw [ra, up_n _ _ (by decide), up_n _ _ (by decide), up_n _ _ (by decide), up_n _ _ (by decide), up_n _ _ (by decide), up_n _ _ (by decide), up_s]
    · rw [(g1 _ (by omega)).1]; exact m2
    · obtain ⟨y1, y2⟩ := m3 j j0 j1
      rw [(g1 (a + 1) (by omega)).2.2 (by omega), (g1 (a + 2 + j.toNat) (by omega)).1, e1, up_n _ _ (show a + 1 ≠ a by omega)]
      exact ⟨y1, y2⟩
    · rw [ra, up_n _ _ (by decide), up_n _ _ (by decide), up_n _ _ (by decide), up_n _ _ (by decide), up_n _ _ (by decide), up_s]
    · rw [(g2 _ (by omega)).1]; exact m5
    · obtain ⟨y1, y2⟩ := m6 j j0 j1
      rw [(g2 (a + 12) (by omega)).2.2 (by omega), (g2 (a + 13 + j.toNat) (by omega)).1, e2, up_n _ _ (show a + 12 ≠ a by omega)]
      exact ⟨y1, y2⟩
    · rw [ra, up_n _ _ (by decide), up_n _ _ (by decide), up_n _ _ (by decide), up_n _ _ (by decide), up_s]
    · rw [(g3 _ (by omega)).1]; exact n3.1
    · rw [ra, up_n _ _ (by decide), up_n _ _ (by decide), up_n _ _ (by decide), up_s]
    · rw [(g4 _ (by omega)).1]; exact n4.1
    · rw [ra, up_n _ _ (by decide), up_n _ _ (by decide), up_s]
    · rw [(g5 _ (by omega)).1]; exact n5.1
    · rw [ra, up_n _ _ (by decide), up_s]
    · exact LX6.fr (show LX6 S6 r6 (a + 26) from L6) fun c c0 c1 => ⟨(g6 c (by omega)).1, by rw [(g6 c (by omega)).2.2 (by omega), e6, up_n _ _ (show c ≠ a by omega)]⟩
    · rw [ra, up_s]
  have lp : ∀ (d j : Nat) (S' : sS) (r' : sR) (h' : sH), j + d = 10 → inv5 S r h a j S' r' h' → G X (29 + 3 * j) (25327 + 45 * j) 78 [some (.ref a), some (.int (iI (j : Int)))] [] (a + 30 + 3 * j) S' r' h' := by
    intro d
    induction d with
    | zero =>
      intro j S' r' h' hj i
      refine r_iload_1 (pc := 78) q dX5_init_78 ?_
      refine r_bipush (pc := 79) q dX5_init_79 (by decide) ?_
      refine r_icmp_ge (pc := 81) q 103 dX5_init_81 (by decide) ⟨by omega, by omega⟩ ⟨by omega, by omega⟩ (fun c => ?_) (fun c => absurd (by omega) c)
      obtain ⟨i1, ⟨k1, k2, k3, k4, k5, ⟨k6, k7⟩, k8, k9⟩, i3⟩ := i
      exact g_return (pc := 103) q rt (by omega) (by omega) dX5_init_103 ⟨rfl, by omega, i1, ⟨k1, k2, k3, k4, k5, ⟨k6, k7, fun x x0 x1 => i3 x x0 (by omega)⟩, k8, k9⟩, trivial⟩
    | succ d ih =>
      intro j S' r' h' hj i
      refine r_iload_1 (pc := 78) q dX5_init_78 ?_
      refine r_bipush (pc := 79) q dX5_init_79 (by decide) ?_
      refine r_icmp_ge (pc := 81) q 103 dX5_init_81 (by decide) ⟨by omega, by omega⟩ ⟨by omega, by omega⟩ (fun c => absurd c (by omega)) (fun c => ?_)
      refine r_aload_0 (pc := 84) q dX5_init_84 ?_
      refine r_getr (pc := 85) q fX5_29 (kz := 4) rfl (by decide) rfl i.2.1.1 i.2.1.2.2.2.2.2.1.1 dX5_init_85 ?_
      refine r_iload_1 (pc := 88) q dX5_init_88 ?_
      refine r_mkN (pc := 89) q ao fcX6 (by decide) xX5_27 wn_X6 wi_X6 dv_X6 (fun S' r' h' g1 g2 => c_X6_init g1 rfl g2) mX5_33 ⟨by decide, by decide, by omega, by omega⟩ (Nat.le_of_ble_eq_true rfl) rfl dX5_init_89 dX5_init_92 dX5_init_93 (fun S1 r1 h1 f1 L1 E1 => ?_)
      refine r_aast (pc := 96) (kd := 28) (t0 := 8) (ci := 6) q rfl rfl (by decide) (by decide) (by rw [(f1 _ (by omega)).1]; exact i.2.1.2.2.2.2.2.1.2) L1.o (by omega) (by omega) dX5_init_96 (fun r2 e2 => ?_)
      refine r_iinc_1 (pc := 97) q dX5_init_97 rfl ?_
      refine r_goto (pc := 100) (tgt := 78) q dX5_init_100 (by decide) ?_
      refine G.c (show _ = a + 30 + 3 * (j + 1) by omega) (G.w (show _ ≤ 29 + 3 * (j + 1) by omega) (show _ ≤ 25327 + 45 * (j + 1) by omega) ?_)
      exact ih (j + 1) S1 r2 h1 (by omega) (inv5_s i f1 L1 e2)
  exact lp 10 0 S7 r7' h7 (by omega) i0
