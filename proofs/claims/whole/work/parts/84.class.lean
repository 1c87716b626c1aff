/-! ===== the class's own constructor ===== -/
def eX11 (h : sH) (a : Nat) : Prop := h a 4 = 0 ∧ h a 5 = -1 ∧ h a 10 = 0 ∧ h (a + 1) 1 = 0 ∧ eX2 h (a + 183) ∧ h (a + 258) 3 = 0 ∧ ∀ k : Int, 0 ≤ k → k < 26 → h (a + 263) k = k
def K11 (S : sS) (r : sR) (h : sH) (a : Nat) : Prop := S a = some (11, 0) ∧ (r a 0 = some (a + 1) ∧ LX10 S r (a + 1)) ∧ (r a 1 = some (a + 3) ∧ LX3 S r (a + 3)) ∧ (r a 2 = some (a + 5) ∧ LX8 S r (a + 5)) ∧ (r a 3 = some (a + 6) ∧ S (a + 6) = some (26, 4)) ∧ h (a + 1) 1 = 0
theorem K11.fr {S S2 : sS} {r r2 : sR} {h h2 : sH} {a : Nat} (k : K11 S r h a) (f : ∀ c : Nat, a ≤ c → c < a + 7 → S2 c = S c ∧ (c ≠ a + 6 → c ≠ a → r2 c = r c ∧ h2 c = h c)) (f0 : r2 a 0 = r a 0 ∧ r2 a 1 = r a 1 ∧ r2 a 2 = r a 2 ∧ r2 a 3 = r a 3) : K11 S2 r2 h2 a := by
  obtain ⟨k1, ⟨k2, k3⟩, ⟨k4, k5⟩, ⟨k6, k7⟩, ⟨k8, k9⟩, k10⟩ := k
  obtain ⟨w0, w1, w2, w3⟩ := f0
  refine ⟨by rw [(f a (by omega) (by omega)).1]; exact k1, ⟨by rw [w0]; exact k2, k3.fr fun c c0 c1 => ⟨(f c (by omega) (by omega)).1, ((f c (by omega) (by omega)).2 (by omega) (by omega)).1⟩⟩, ⟨by rw [w1]; exact k4, k5.fr fun c c0 c1 => ⟨(f c (by omega) (by omega)).1, ((f c (by omega) (by omega)).2 (by omega) (by omega)).1⟩⟩, ⟨by rw [w2]; exact k6, k7.fr fun c c0 c1 => ⟨(f c (by omega) (by omega)).1, ((f c (by omega) (by omega)).2 (by omega) (by omega)).1⟩⟩, ⟨by rw [w3]; exact k8, by rw [(f (a + 6) (by omega) (by omega)).1]; exact k9⟩, by rw [((f (a + 1) (by omega) (by omega)).2 (by omega) (by omega)).2]; exact k10⟩
def inv11 (S0 : sS) (r0 : sR) (h0 : sH) (a j : Nat) (S : sS) (r : sR) (h : sH) : Prop := (∀ b : Nat, b < a → S b = S0 b ∧ r b = r0 b ∧ h b = h0 b) ∧ K11 S r h a ∧ ∀ i : Int, 0 ≤ i → i < j → r (a + 6) i = some (a + 7 + 44 * i.toNat) ∧ LX7 S r (a + 7 + 44 * i.toNat)
theorem inv11_s {S0 : sS} {r0 : sR} {h0 : sH} {a j : Nat} {S S1 : sS} {r r1 r2 : sR} {h h1 : sH} (i : inv11 S0 r0 h0 a j S r h) (f1 : ∀ b : Nat, b < a + 7 + 44 * j → S1 b = S b ∧ r1 b = r b ∧ h1 b = h b) (L1 : LX7 S1 r1 (a + 7 + 44 * j)) (e2 : r2 = up r1 (a + 6) (up (r1 (a + 6)) (j : Int) (some (a + 7 + 44 * j)))) : inv11 S0 r0 h0 a (j + 1) S1 r2 h1 := by
  obtain ⟨i1, i2, i3⟩ := i
  have fr : ∀ b : Nat, b < a + 7 + 44 * j → b ≠ a + 6 → r2 b = r b := fun b hb b1 => by rw [e2, up_n _ _ b1, (f1 b hb).2.1]
  refine ⟨fun b hb => ?_, i2.fr (fun c c0 c1 => ⟨(f1 c (by omega)).1, fun c2 _ => ⟨fr c (by omega) c2, (f1 c (by omega)).2.2⟩⟩) (by rw [fr a (by omega) (by omega)]; exact ⟨rfl, rfl, rfl, rfl⟩), fun x x0 x1 => ?_⟩
  · rw [(f1 b (by omega)).1, (f1 b (by omega)).2.2, fr b (by omega) (by omega)]; exact i1 b hb
  · have ra : r2 (a + 6) = up (r (a + 6)) (j : Int) (some (a + 7 + 44 * j)) := by rw [e2, up_s, (f1 _ (by omega)).2.1]
    by_cases e : x = j
    · subst e
      have ej : ((j : Int)).toNat = j := by omega
      rw [ra, up_s, ej]
      exact ⟨rfl, L1.fr fun c c0 c1 => ⟨rfl, by rw [e2, up_n _ _ (show c ≠ a + 6 by omega)]⟩⟩
    · obtain ⟨y1, y2⟩ := i3 x x0 (by omega)
      rw [ra, up_n _ _ e]
      exact ⟨y1, y2.fr fun c c0 c1 => ⟨(f1 c (by omega)).1, fr c (by omega) (by omega)⟩⟩
/-- .. with int fields of a written too -/
def kp6 (S S2 : sS) (r r2 : sR) (h h2 : sH) (a sz : Nat) : Prop := ∀ b : Nat, b < sz → S2 b = S b ∧ (b ≠ a → r2 b = r b ∧ h2 b = h b)
theorem kp6.t {S S1 S2 : sS} {r r1 r2 : sR} {h h1 h2 : sH} {a sz sz1 : Nat} (k1 : kp6 S S1 r r1 h h1 a sz) (k2 : kp6 S1 S2 r1 r2 h1 h2 a sz1) (e : sz ≤ sz1) : kp6 S S2 r r2 h h2 a sz := fun b hb => by
  obtain ⟨u1, u2⟩ := k1 b hb
  obtain ⟨v1, v2⟩ := k2 b (by omega)
  exact ⟨v1.trans u1, fun c => ⟨(v2 c).1.trans (u2 c).1, (v2 c).2.trans (u2 c).2⟩⟩
theorem kp6.s {S S2 : sS} {r r2 : sR} {h h2 : sH} {a sz : Nat} {kz : Int} (s : st5 S S2 r r2 h h2 a sz kz) : kp6 S S2 r r2 h h2 a sz := fun b hb => ⟨(s.1 b hb).1, fun c => ⟨(s.1 b hb).2.2 c, (s.1 b hb).2.1⟩⟩
theorem kp6.p {S : sS} {r : sR} {h h2 : sH} {a sz : Nat} {kz z : Int} (e : h2 = up h a (up (h a) kz z)) : kp6 S S r r h h2 a sz := fun b _ => ⟨rfl, fun c => ⟨rfl, by rw [e, up_n _ _ c]⟩⟩
theorem c_X11_init {l : Launch} {D : va_G} {aC : Nat → ClassId} {B t sz : Nat} {S : sS} {r : sR} {h : sH} {a : Nat} (ha : S a = some (11, 0)) (hs : sz = a + 1) (hz : ∀ k : Int, h a k = 0) : CtN l yX11_init cX11_init 2 4 73 324 27413 [.ref a] D aC B t sz S r h (mkP 325 LX11 eX11 a S r h) := by
  refine CtN.of (lv := [some (.ref a), none]) (by decide +kernel) rfl (Nat.le_of_ble_eq_true rfl) (fun X hl q rt hnm ao _ _ _ _ => ?_)
  subst hs
  refine r_aload_0 (pc := 0) q dX11_init_0 ?_
  refine r_oinit (pc := 1) q mX11_3 (by decide) (by decide) rfl dX11_init_1 ?_
  refine r_aload_0 (pc := 4) q dX11_init_4 ?_
  refine r_mkN (pc := 5) q ao fcX10 (by decide) xX11_9 wn_X10 wi_X10 dv_X10 (fun S' r' h' g1 g2 => c_X10_init g1 rfl g2) mX11_11 (by decide) (Nat.le_of_ble_eq_true rfl) rfl dX11_init_5 dX11_init_8 dX11_init_9 (fun S1 r1 h1 f1 L1 E1 => ?_)
  have s1 : S1 a = some (11, 0) := by rw [(f1 a (by omega)).1]; exact ha
  refine r_putrF (pc := 12) q hnm fX11_12 (kz := 0) rfl rfl (by decide) rfl (fun _ => rfl) (fun _ => rfl) s1 dX11_init_12 (fun r1' e1 => ?_)
  have t1 := st5_m f1 (by omega) e1
  refine r_aload_0 (pc := 15) q dX11_init_15 ?_
  refine r_mkN (pc := 16) q ao fcX3 (by decide) xX11_16 wn_X3 wi_X3 dv_X3 (fun S' r' h' g1 g2 => c_X3_init g1 rfl g2) mX11_18 (by decide) (Nat.le_of_ble_eq_true rfl) rfl dX11_init_16 dX11_init_19 dX11_init_20 (fun S2 r2 h2 f2 L2 E2 => ?_)
  have s2 : S2 a = some (11, 0) := by rw [(f2 a (by omega)).1]; exact s1
  refine r_putrF (pc := 23) q hnm fX11_19 (kz := 1) rfl rfl (by decide) rfl (fun _ => rfl) (fun _ => rfl) s2 dX11_init_23 (fun r2' e2 => ?_)
  have t2 := st5_m f2 (by omega) e2
  refine r_aload_0 (pc := 26) q dX11_init_26 ?_
  refine r_mkN (pc := 27) q ao fcX8 (by decide) xX11_23 wn_X8 wi_X8 dv_X8 (fun S' r' h' g1 g2 => c_X8_init g1 rfl) mX11_25 (by decide) (Nat.le_of_ble_eq_true rfl) rfl dX11_init_27 dX11_init_30 dX11_init_31 (fun S3 r3 h3 f3 L3 E3 => ?_)
  have s3 : S3 a = some (11, 0) := by rw [(f3 a (by omega)).1]; exact s2
  refine r_putrF (pc := 34) q hnm fX11_26 (kz := 2) rfl rfl (by decide) rfl (fun _ => rfl) (fun _ => rfl) s3 dX11_init_34 (fun r3' e3 => ?_)
  have t3 := st5_m f3 (by omega) e3
  refine r_aload_0 (pc := 37) q dX11_init_37 ?_
  refine r_iconst (pc := 38) q dX11_init_38 ?_
  refine r_anew (pc := 39) (kd := 26) (t0 := 6) q rfl ao.2.2.1 xX11_30 (by decide) (by decide) rfl (by decide) (by decide) dX11_init_39 (fun S4 r4 h4 n4 => ?_)
  have s4 : S4 a = some (11, 0) := by rw [(n4.2.2.2 a (by omega)).1]; exact s3
  refine r_putrF (pc := 42) q hnm fX11_32 (kz := 3) rfl rfl (by decide) rfl (fun _ => rfl) (fun _ => rfl) s4 dX11_init_42 (fun r4' e4 => ?_)
  have t4 := st5_n n4 (by omega) e4
  refine r_iconst (pc := 45) q dX11_init_45 ?_
  refine r_istore_1 (pc := 46) q dX11_init_46 rfl ?_
  have i0 : inv11 S r h a 0 S4 r4' h4 := by
    have g3 : kp5 S3 S4 r3' r4' h3 h4 a (a + 6) := t4.1
    have g2 : kp5 S2 S4 r2' r4' h2 h4 a (a + 5) := kp5.t t3.1 g3 (by omega)
    have g1 : kp5 S1 S4 r1' r4' h1 h4 a (a + 3) := kp5.t t2.1 g2 (by omega)
    have g0 : kp5 S S4 r r4' h h4 a (a + 1) := kp5.t t1.1 g1 (by omega)
    have ra : r4' a = up (up (up (up (r a) 0 (some (a + 1))) 1 (some (a + 3))) 2 (some (a + 5))) 3 (some (a + 6)) := by
      have u4 := t4.2
      rw [t3.2, t2.2, t1.2] at u4
      exact u4
    refine ⟨fun b hb => ⟨(g0 b (by omega)).1, (g0 b (by omega)).2.2 (by omega), (g0 b (by omega)).2.1⟩, ⟨s4, ⟨?_, ?_⟩, ⟨?_, ?_⟩, ⟨?_, ?_⟩, ⟨?_, n4.1⟩, ?_⟩, fun i i0 i1 => absurd i1 (by omega)⟩
    · rw [ra, up_n _ _ (by decide), up_n _ _ (by decide), up_n _ _ (by decide), up_s]
    · exact LX10.fr (show LX10 S1 r1 (a + 1) from L1) fun c c0 c1 => ⟨(g1 c (by omega)).1, by rw [(g1 c (by omega)).2.2 (by omega), e1, up_n _ _ (show c ≠ a by omega)]⟩
    · rw [ra, up_n _ _ (by decide), up_n _ _ (by decide), up_s]
    · exact LX3.fr (show LX3 S2 r2 (a + 3) from L2) fun c c0 c1 => ⟨(g2 c (by omega)).1, by rw [(g2 c (by omega)).2.2 (by omega), e2, up_n _ _ (show c ≠ a by omega)]⟩
    · rw [ra, up_n _ _ (by decide), up_s]
    · exact LX8.fr (show LX8 S3 r3 (a + 5) from L3) fun c c0 c1 => ⟨(g3 c (by omega)).1, by rw [(g3 c (by omega)).2.2 (by omega), e3, up_n _ _ (show c ≠ a by omega)]⟩
    · rw [ra, up_s]
    · rw [(g1 (a + 1) (by omega)).2.1]; exact E1 1
  have hfin : ∀ (v : Option Value) (S' : sS) (r' : sR) (h' : sH), inv11 S r h a 4 S' r' h' → G X 182 1159 71 [some (.ref a), v] [] (a + 183) S' r' h' := by
    intro v S' r' h' i
    obtain ⟨i1, i2, i3⟩ := i
    have s5 : S' a = some (11, 0) := i2.1
    refine r_aload_0 (pc := 71) q dX11_init_71 ?_
    refine r_iconst (pc := 72) q dX11_init_72 ?_
    refine r_puti (pc := 73) q fX11_37 (kz := 4) rfl (by decide) rfl s5 dX11_init_73 (fun h5 e5 => ?_)
    refine r_aload_0 (pc := 76) q dX11_init_76 ?_
    refine r_iconst (pc := 77) q dX11_init_77 ?_
    refine r_puti (pc := 78) q fX11_41 (kz := 5) rfl (by decide) rfl s5 dX11_init_78 (fun h6 e6 => ?_)
    refine r_aload_0 (pc := 81) q dX11_init_81 ?_
    refine r_mkI (pc := 82) q ao fcX2 (by decide) xX11_44 wn_X2 wi_X2 dv_X2 (fun S' r' h' g1 g2 => c_X2_init g1 rfl g2) mX11_46 (by decide) (Nat.le_of_ble_eq_true rfl) rfl dX11_init_82 dX11_init_85 dX11_init_86 (fun S7 r7 h7 f7 L7 E7 => ?_)
    have s7 : S7 a = some (11, 0) := by rw [(f7 a (by omega)).1]; exact s5
    refine r_putrF (pc := 89) q hnm fX11_47 (kz := 6) rfl rfl (by decide) rfl (fun _ => rfl) (fun _ => rfl) s7 dX11_init_89 (fun r7' e7 => ?_)
    have t7 := st5_m f7 (by omega) e7
    refine r_aload_0 (pc := 92) q dX11_init_92 ?_
    refine r_mkN (pc := 93) q ao fcX1 (by decide) xX11_51 wn_X1 wi_X1 dv_X1 (fun S' r' h' g1 g2 => c_X1_init g1 rfl g2) mX11_53 (by decide) (Nat.le_of_ble_eq_true rfl) rfl dX11_init_93 dX11_init_96 dX11_init_97 (fun S8 r8 h8 f8 L8 E8 => ?_)
    have s8 : S8 a = some (11, 0) := by rw [(f8 a (by omega)).1]; exact s7
    refine r_putrF (pc := 100) q hnm fX11_54 (kz := 7) rfl rfl (by decide) rfl (fun _ => rfl) (fun _ => rfl) s8 dX11_init_100 (fun r8' e8 => ?_)
    have t8 := st5_m f8 (by omega) e8
    refine r_aload_0 (pc := 103) q dX11_init_103 ?_
    refine r_mkI (pc := 104) q ao fcX9 (by decide) xX11_58 wn_X9 wi_X9 dv_X9 (fun S' r' h' g1 g2 => c_X9_init g1 rfl) mX11_60 (by decide) (Nat.le_of_ble_eq_true rfl) rfl dX11_init_104 dX11_init_107 dX11_init_108 (fun S9 r9 h9 f9 L9 E9 => ?_)
    have s9 : S9 a = some (11, 0) := by rw [(f9 a (by omega)).1]; exact s8
    refine r_putrF (pc := 111) q hnm fX11_61 (kz := 8) rfl rfl (by decide) rfl (fun _ => rfl) (fun _ => rfl) s9 dX11_init_111 (fun r9' e9 => ?_)
    have t9 := st5_m f9 (by omega) e9
    refine r_aload_0 (pc := 114) q dX11_init_114 ?_
    refine r_mkI (pc := 115) q ao fcX5 (by decide) xX11_65 wn_X5 wi_X5 dv_X5 (fun S' r' h' g1 g2 => c_X5_init g1 rfl) mX11_67 (by decide) (Nat.le_of_ble_eq_true rfl) rfl dX11_init_115 dX11_init_118 dX11_init_119 (fun S10 r10 h10 f10 L10 E10 => ?_)
    have s10 : S10 a = some (11, 0) := by rw [(f10 a (by omega)).1]; exact s9
    refine r_putrF (pc := 122) q hnm fX11_68 (kz := 9) rfl rfl (by decide) rfl (fun _ => rfl) (fun _ => rfl) s10 dX11_init_122 (fun r10' e10 => ?_)
    have t10 := st5_m f10 (by omega) e10
    refine r_aload_0 (pc := 125) q dX11_init_125 ?_
    refine r_iconst (pc := 126) q dX11_init_126 ?_
    refine r_puti (pc := 127) q fX11_72 (kz := 10) rfl (by decide) rfl s10 dX11_init_127 (fun h11 e11 => ?_)
    have g10 : kp6 S10 S10 r10' r10' h10 h11 a (a + 325) := kp6.p e11
    have g9 : kp6 S9 S10 r9' r10' h9 h11 a (a + 265) := kp6.t (kp6.s t10) g10 (by omega)
    have g8 : kp6 S8 S10 r8' r10' h8 h11 a (a + 262) := kp6.t (kp6.s t9) g9 (by omega)
    have g7 : kp6 S7 S10 r7' r10' h7 h11 a (a + 258) := kp6.t (kp6.s t8) g8 (by omega)
    have g6 : kp6 S' S10 r' r10' h6 h11 a (a + 183) := kp6.t (kp6.s t7) g7 (by omega)
    have g5 : kp6 S' S10 r' r10' h' h11 a (a + 183) := kp6.t (kp6.t (kp6.p e5) (kp6.p (sz := a + 183) e6) (by omega)) g6 (by omega)
    have ra : r10' a = up (up (up (up (r' a) 6 (some (a + 183))) 7 (some (a + 258))) 8 (some (a + 262))) 9 (some (a + 265)) := by
      have u := t10.2
      rw [t9.2, t8.2, t7.2] at u
      exact u
    have hha : h11 a = up (up (up (h' a) 4 0) 5 (-1)) 10 0 := by
      rw [e11, up_s, (t10.1 a (by omega)).2.1, (t9.1 a (by omega)).2.1, (t8.1 a (by omega)).2.1, (t7.1 a (by omega)).2.1, e6, up_s, e5, up_s]
    have kk := i2.fr (S2 := S10) (r2 := r10') (h2 := h11) (fun c c0 c1 => ⟨(g5 c (by omega)).1, fun c2 c3 => (g5 c (by omega)).2 c3⟩) (by rw [ra]; exact ⟨by rw [up_n _ _ (by decide), up_n _ _ (by decide), up_n _ _ (by decide), up_n _ _ (by decide)], by rw [up_n _ _ (by decide), up_n _ _ (by decide), up_n _ _ (by decide), up_n _ _ (by decide)], by rw [up_n _ _ (by decide), up_n _ _ (by decide), up_n _ _ (by decide), up_n _ _ (by decide)], by rw [up_n _ _ (by decide), up_n _ _ (by decide), up_n _ _ (by decide), up_n _ _ (by decide)]⟩)
    obtain ⟨k1, k2, k3, k4, ⟨k5, k6⟩, k7⟩ := kk
    refine g_return (pc := 130) q rt (by decide) (by decide) dX11_init_130 ⟨rfl, rfl, fun b hb => ?_, ⟨k1, k2, k3, k4, ⟨k5, k6, fun j j0 j1 => ?_⟩, ⟨?_, ?_⟩, ⟨?_, ?_⟩, ⟨?_, ?_⟩, ?_, ?_⟩, ?_, ?_, ?_, k7, ?_, ?_, fun k k0 k1 => ?_⟩
    · obtain ⟨u1, u2⟩ := g5 b (by omega)
      rw [u1, (u2 (by omega)).1, (u2 (by omega)).2]
      exact i1 b hb
    · rw [((g5 (a + 6) (by omega)).2 (by omega)).1]
      exact ⟨(i3 j j0 j1).1, (i3 j j0 j1).2.fr fun c c0 c1 => ⟨(g5 c (by omega)).1, ((g5 c (by omega)).2 (by omega)).1⟩⟩
    · rw [ra, up_n _ _ (by decide), up_n _ _ (by decide), up_n _ _ (by decide), up_s]
    · exact LX2.fr (show LX2 S7 r7 (a + 183) from L7) fun c c0 c1 => ⟨(g7 c (by omega)).1, by rw [((g7 c (by omega)).2 (by omega)).1, e7, up_n _ _ (show c ≠ a by omega)]⟩
    · rw [ra, up_n _ _ (by decide), up_n _ _ (by decide), up_s]
    · exact LX1.fr (show LX1 S8 r8 (a + 258) from L8) fun c c0 c1 => ⟨(g8 c (by omega)).1, by rw [((g8 c (by omega)).2 (by omega)).1, e8, up_n _ _ (show c ≠ a by omega)]⟩
    · rw [ra, up_n _ _ (by decide), up_s]
    · exact LX9.fr (show LX9 S9 r9 (a + 262) from L9) fun c c0 c1 => ⟨(g9 c (by omega)).1, by rw [((g9 c (by omega)).2 (by omega)).1, e9, up_n _ _ (show c ≠ a by omega)]⟩
    · rw [ra, up_s]
    · have : LX5 S10 r10 (a + 265) := L10
      obtain ⟨p1, ⟨p2, p3, p4⟩, ⟨p5, p6, p7⟩, ⟨p8, p9⟩, ⟨p10, p11⟩, ⟨p12, p13, p14⟩, ⟨p15, p16⟩, p17, p18⟩ := this
      have e : ∀ c : Nat, c ≠ a → r10' c = r10 c := fun c hc => by rw [e10, up_n _ _ hc]
      refine ⟨p1, ⟨by rw [e _ (by omega)]; exact p2, p3, fun j j0 j1 => by rw [e _ (by omega)]; exact p4 j j0 j1⟩, ⟨by rw [e _ (by omega)]; exact p5, p6, fun j j0 j1 => by rw [e _ (by omega)]; exact p7 j j0 j1⟩, ⟨by rw [e _ (by omega)]; exact p8, p9⟩, ⟨by rw [e _ (by omega)]; exact p10, p11⟩, ⟨by rw [e _ (by omega)]; exact p12, p13, fun j j0 j1 => ⟨by rw [e _ (by omega)]; exact (p14 j j0 j1).1, (p14 j j0 j1).2.fr fun c c0 c1 => ⟨rfl, e c (by omega)⟩⟩⟩, ⟨by rw [e _ (by omega)]; exact p15, p16.fr fun c c0 c1 => ⟨rfl, e c (by omega)⟩⟩, by rw [e _ (by omega)]; exact p17, p18⟩
    · rw [hha, up_n _ _ (by decide), up_n _ _ (by decide), up_s]
    · rw [hha, up_n _ _ (by decide), up_s]
    · rw [hha, up_s]
    · unfold eX2
      rw [((g7 (a + 183) (by omega)).2 (by omega)).2]
      exact E7
    · rw [((g8 (a + 258) (by omega)).2 (by omega)).2]
      exact E8 3
    · rw [((g9 (a + 263) (by omega)).2 (by omega)).2]
      exact E9 k k0 k1
  have lp : ∀ (d j : Nat) (S' : sS) (r' : sR) (h' : sH), j + d = 4 → inv11 S r h a j S' r' h' → G X (6 + 44 * j) (219 + 235 * j) 47 [some (.ref a), some (.int (iI (j : Int)))] [] (a + 7 + 44 * j) S' r' h' := by
    intro d
    induction d with
    | zero =>
      intro j S' r' h' hj i
      obtain rfl : j = 4 := by omega
      refine r_iload_1 (pc := 47) q dX11_init_47 ?_
      refine r_iconst (pc := 48) q dX11_init_48 ?_
      refine r_icmp_ge (pc := 49) q 71 dX11_init_49 (by decide) ⟨by omega, by omega⟩ ⟨by omega, by omega⟩ (fun c => ?_) (fun c => absurd (by omega) c)
      exact hfin _ S' r' h' i
    | succ d ih =>
      intro j S' r' h' hj i
      refine r_iload_1 (pc := 47) q dX11_init_47 ?_
      refine r_iconst (pc := 48) q dX11_init_48 ?_
      refine r_icmp_ge (pc := 49) q 71 dX11_init_49 (by decide) ⟨by omega, by omega⟩ ⟨by omega, by omega⟩ (fun c => absurd c (by omega)) (fun c => ?_)
      refine r_aload_0 (pc := 52) q dX11_init_52 ?_
      refine r_getr (pc := 53) q fX11_32 (kz := 3) rfl (by decide) rfl i.2.1.1 i.2.1.2.2.2.2.1.1 dX11_init_53 ?_
      refine r_iload_1 (pc := 56) q dX11_init_56 ?_
      refine r_mkI (pc := 57) q ao fcX7 (by decide) xX11_30 wn_X7 wi_X7 dv_X7 (fun S' r' h' g1 g2 => c_X7_init g1 rfl g2) mX11_36 ⟨by decide, by decide, by omega, by omega⟩ (Nat.le_of_ble_eq_true rfl) rfl dX11_init_57 dX11_init_60 dX11_init_61 (fun S1 r1 h1 f1 L1 E1 => ?_)
      refine r_aast (pc := 64) (kd := 26) (t0 := 6) (ci := 7) q rfl rfl (by decide) (by decide) (by rw [(f1 _ (by omega)).1]; exact i.2.1.2.2.2.2.1.2) L1.o (by omega) (by omega) dX11_init_64 (fun r2 e2 => ?_)
      refine r_iinc_1 (pc := 65) q dX11_init_65 rfl ?_
      refine r_goto (pc := 68) (tgt := 47) q dX11_init_68 (by decide) ?_
      refine G.c (show _ = a + 7 + 44 * (j + 1) by omega) (G.w (show _ ≤ 6 + 44 * (j + 1) by omega) (show _ ≤ 219 + 235 * (j + 1) by omega) ?_)
      exact ih (j + 1) S1 r2 h1 (by omega) (inv11_s i f1 L1 e2)
  exact lp 4 0 S4 r4' h4 (by omega) i0
