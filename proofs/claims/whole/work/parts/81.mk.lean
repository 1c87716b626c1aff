/-! ===== constructors: objects in objects ===== -/
def sm (S S2 : sS) (r r2 : sR) (a b : Nat) : Prop := ∀ c : Nat, a ≤ c → c < b → S2 c = S c ∧ r2 c = r c
theorem LX3.fr {S S2 : sS} {r r2 : sR} {a : Nat} (h : LX3 S r a) (f : sm S S2 r r2 a (a + 2)) : LX3 S2 r2 a := by
  obtain ⟨h1, h2, h3⟩ := h
  obtain ⟨f1, f2⟩ := f a (by omega) (by omega)
  exact ⟨by rw [f1]; exact h1, by rw [f2]; exact h2, by rw [(f (a + 1) (by omega) (by omega)).1]; exact h3⟩
theorem LX4.fr {S S2 : sS} {r r2 : sR} {a : Nat} (h : LX4 S r a) (f : sm S S2 r r2 a (a + 2)) : LX4 S2 r2 a := by
  obtain ⟨h1, h2, h3⟩ := h
  obtain ⟨f1, f2⟩ := f a (by omega) (by omega)
  exact ⟨by rw [f1]; exact h1, by rw [f2]; exact h2, by rw [(f (a + 1) (by omega) (by omega)).1]; exact h3⟩
theorem LX10.fr {S S2 : sS} {r r2 : sR} {a : Nat} (h : LX10 S r a) (f : sm S S2 r r2 a (a + 2)) : LX10 S2 r2 a := by
  obtain ⟨h1, h2, h3⟩ := h
  obtain ⟨f1, f2⟩ := f a (by omega) (by omega)
  exact ⟨by rw [f1]; exact h1, by rw [f2]; exact h2, by rw [(f (a + 1) (by omega) (by omega)).1]; exact h3⟩
theorem LX8.fr {S S2 : sS} {r r2 : sR} {a : Nat} (h : LX8 S r a) (f : sm S S2 r r2 a (a + 1)) : LX8 S2 r2 a := by
  unfold LX8 at h ⊢
  rw [(f a (by omega) (by omega)).1]; exact h
theorem LX0.fr {S S2 : sS} {r r2 : sR} {a : Nat} (h : LX0 S r a) (f : sm S S2 r r2 a (a + 3)) : LX0 S2 r2 a := by
  obtain ⟨h1, h2, h3⟩ := h
  obtain ⟨f1, f2⟩ := f a (by omega) (by omega)
  exact ⟨by rw [f1]; exact h1, by rw [f2]; exact h2, h3.fr fun c c0 c1 => f c (by omega) (by omega)⟩
theorem LX1.fr {S S2 : sS} {r r2 : sR} {a : Nat} (h : LX1 S r a) (f : sm S S2 r r2 a (a + 4)) : LX1 S2 r2 a := by
  obtain ⟨h1, ⟨h2, h3⟩, ⟨h4, h5⟩, h6, h7⟩ := h
  obtain ⟨f1, f2⟩ := f a (by omega) (by omega)
  exact ⟨by rw [f1]; exact h1, ⟨by rw [f2]; exact h2, by rw [(f (a + 1) (by omega) (by omega)).1]; exact h3⟩, ⟨by rw [f2]; exact h4, by rw [(f (a + 2) (by omega) (by omega)).1]; exact h5⟩, by rw [f2]; exact h6, by rw [(f (a + 3) (by omega) (by omega)).1]; exact h7⟩
theorem LX6.fr {S S2 : sS} {r r2 : sR} {a : Nat} (h : LX6 S r a) (f : sm S S2 r r2 a (a + 3)) : LX6 S2 r2 a := by
  obtain ⟨h1, ⟨h2, h3⟩, h4, h5⟩ := h
  obtain ⟨f1, f2⟩ := f a (by omega) (by omega)
  exact ⟨by rw [f1]; exact h1, ⟨by rw [f2]; exact h2, by rw [(f (a + 1) (by omega) (by omega)).1]; exact h3⟩, by rw [f2]; exact h4, by rw [(f (a + 2) (by omega) (by omega)).1]; exact h5⟩
theorem LX9.fr {S S2 : sS} {r r2 : sR} {a : Nat} (h : LX9 S r a) (f : sm S S2 r r2 a (a + 3)) : LX9 S2 r2 a := by
  obtain ⟨h1, ⟨h2, h3⟩, h4, h5⟩ := h
  obtain ⟨f1, f2⟩ := f a (by omega) (by omega)
  exact ⟨by rw [f1]; exact h1, ⟨by rw [f2]; exact h2, by rw [(f (a + 1) (by omega) (by omega)).1]; exact h3⟩, by rw [f2]; exact h4, by rw [(f (a + 2) (by omega) (by omega)).1]; exact h5⟩
theorem LX7.fr {S S2 : sS} {r r2 : sR} {a : Nat} (h : LX7 S r a) (f : sm S S2 r r2 a (a + 44)) : LX7 S2 r2 a := by
  obtain ⟨h1, ⟨h2, h3, h4⟩, ⟨h5, h6, h7⟩, h8, h9⟩ := h
  obtain ⟨f1, f2⟩ := f a (by omega) (by omega)
  refine ⟨by rw [f1]; exact h1, ⟨by rw [f2]; exact h2, by rw [(f (a + 1) (by omega) (by omega)).1]; exact h3, fun j j0 j1 => ?_⟩, ⟨by rw [f2]; exact h5, by rw [(f (a + 2) (by omega) (by omega)).1]; exact h6, fun j j0 j1 => ?_⟩, by rw [f2]; exact h8, by rw [(f (a + 3) (by omega) (by omega)).1]; exact h9⟩
  · exact ⟨by rw [(f (a + 1) (by omega) (by omega)).2]; exact (h4 j j0 j1).1, (h4 j j0 j1).2.fr fun c c0 c1 => f c (by omega) (by omega)⟩
  · exact ⟨by rw [(f (a + 2) (by omega) (by omega)).2]; exact (h7 j j0 j1).1, (h7 j j0 j1).2.fr fun c c0 c1 => f c (by omega) (by omega)⟩
theorem LX2.fr {S S2 : sS} {r r2 : sR} {a : Nat} (h : LX2 S r a) (f : sm S S2 r r2 a (a + 75)) : LX2 S2 r2 a := by
  obtain ⟨h1, ⟨h2, h3, h4⟩, h5, h6, h7⟩ := h
  obtain ⟨f1, f2⟩ := f a (by omega) (by omega)
  refine ⟨by rw [f1]; exact h1, ⟨by rw [f2]; exact h2, by rw [(f (a + 1) (by omega) (by omega)).1]; exact h3, fun j j0 j1 => ?_⟩, by rw [f2]; exact h5, by rw [(f (a + 2) (by omega) (by omega)).1]; exact h6, fun j j0 j1 => ?_⟩
  · exact ⟨by rw [(f (a + 1) (by omega) (by omega)).2]; exact (h4 j j0 j1).1, (h4 j j0 j1).2.fr fun c c0 c1 => f c (by omega) (by omega)⟩
  · exact ⟨by rw [(f (a + 2) (by omega) (by omega)).2]; exact (h7 j j0 j1).1, (h7 j j0 j1).2.fr fun c c0 c1 => f c (by omega) (by omega)⟩
section RK
variable {X : CX} {k n pc : Nat} {lv : List (Option Value)} {st : List Value} {sz : Nat} {S : sS} {r : sR} {h : sH} {cc : ByteArray} {own : String} {nL fr lo mc ms : Nat}
/-- new C(): new, dup, its constructor (of the nest) -/
theorem r_mkN (q : Ok X cc own nL fr lo mc ms) (ao : AO (xs X)) {idx ci N : Nat} {C : String} {T : u_T} (f : FC C T N ci) (hci : ci < 20) (hl : Cond.classLink own idx C ∈ UG) (hi : Cond.instantiable C N ∈ UG) (hini : Cond.initialized C ∈ UG) (hdv : ∀ j, j < N → defaultValue (tyc ci j) = fv ci j (fun _ => none) (fun _ => 0))
    {idx2 maxL1 fr1 lo1 mc1 ms1 nn : Nat} {y : MethodName} {c1 : ByteArray} {L : sS → sR → Nat → Prop} {E : sH → Nat → Prop} (hC : ∀ (S' : sS) (r' : sR) (h' : sH), S' sz = some (ci, 0) → (∀ k : Int, h' sz k = 0) → CtN (xl X) y c1 maxL1 fr1 lo1 mc1 ms1 [.ref sz] (xD X) (xA X) (xB X) (xt X) (sz + 1) S' r' h' (mkP nn L E sz S' r' h')) (hm : MLN own idx2 y c1 maxL1 0)
    (hrm : fr1 + 1 ≤ fr ∧ 8 + (maxL1 + 11) + lo1 ≤ lo ∧ k + 1 + mc1 ≤ mc ∧ n + N + ms1 ≤ ms) (hst : (st.map fun v => v.category).sum + 1 ≤ 8) (hll : lv.length = nL) (d1 : decode cc pc = .ok (.new idx, 3)) (d2 : decode cc (pc + 3) = .ok (.dup, 1)) (d3 : decode cc (pc + 3 + 1) = .ok (.invokespecial idx2, 3))
    (kk : ∀ (S1 : sS) (r1 : sR) (h1 : sH), (∀ b : Nat, b < sz → S1 b = S b ∧ r1 b = r b ∧ h1 b = h b) → L S1 r1 sz → E h1 sz → G X (k + 1 + mc1) (n + N + ms1) (pc + 3 + 1 + 3) lv (.ref sz :: st) (sz + nn) S1 r1 h1) : G X k n pc lv st sz S r h := by
  refine r_new q f hci hl hi hini hdv ⟨by omega, by omega⟩ d1 fun S1 r1 h1 n1 => ?_
  refine r_dup q d2 rfl ?_
  refine g_cnN q ao (hC S1 r1 h1 n1.1 n1.2.1) hm hrm (by simp only [List.map_cons, List.sum_cons]; show 1 + _ ≤ 8; omega) hll d3 fun sz2 S2 r2 h2 hQ => ?_
  obtain ⟨rfl, g1, g2, g3⟩ := hQ
  exact kk S2 r2 h2 (fun b hb => by obtain ⟨u1, u2, u3⟩ := g1 b hb; obtain ⟨v1, v2, v3⟩ := n1.2.2.2 b (by omega); exact ⟨u1.trans v1, u2.trans v2, u3.trans v3⟩) g2 g3
theorem r_mkI (q : Ok X cc own nL fr lo mc ms) (ao : AO (xs X)) {idx ci N : Nat} {C : String} {T : u_T} (f : FC C T N ci) (hci : ci < 20) (hl : Cond.classLink own idx C ∈ UG) (hi : Cond.instantiable C N ∈ UG) (hini : Cond.initialized C ∈ UG) (hdv : ∀ j, j < N → defaultValue (tyc ci j) = fv ci j (fun _ => none) (fun _ => 0))
    {idx2 maxL1 fr1 lo1 mc1 ms1 nn : Nat} {y : MethodName} {c1 : ByteArray} {L : sS → sR → Nat → Prop} {E : sH → Nat → Prop} (hC : ∀ (S' : sS) (r' : sR) (h' : sH), S' sz = some (ci, 0) → (∀ k : Int, h' sz k = 0) → CtN (xl X) y c1 maxL1 fr1 lo1 mc1 ms1 [.ref sz] (xD X) (xA X) (xB X) (xt X) (sz + 1) S' r' h' (mkP nn L E sz S' r' h')) (hm : MLI own idx2 y c1 maxL1 0)
    (hrm : fr1 + 1 ≤ fr ∧ 8 + (maxL1 + 11) + lo1 ≤ lo ∧ k + 1 + mc1 ≤ mc ∧ n + N + ms1 ≤ ms) (hst : (st.map fun v => v.category).sum + 1 ≤ 8) (hll : lv.length = nL) (d1 : decode cc pc = .ok (.new idx, 3)) (d2 : decode cc (pc + 3) = .ok (.dup, 1)) (d3 : decode cc (pc + 3 + 1) = .ok (.invokespecial idx2, 3))
    (kk : ∀ (S1 : sS) (r1 : sR) (h1 : sH), (∀ b : Nat, b < sz → S1 b = S b ∧ r1 b = r b ∧ h1 b = h b) → L S1 r1 sz → E h1 sz → G X (k + 1 + mc1) (n + N + ms1) (pc + 3 + 1 + 3) lv (.ref sz :: st) (sz + nn) S1 r1 h1) : G X k n pc lv st sz S r h := by
  refine r_new q f hci hl hi hini hdv ⟨by omega, by omega⟩ d1 fun S1 r1 h1 n1 => ?_
  refine r_dup q d2 rfl ?_
  refine g_ciN q ao (hC S1 r1 h1 n1.1 n1.2.1) hm hrm (by simp only [List.map_cons, List.sum_cons]; show 1 + _ ≤ 8; omega) hll d3 fun sz2 S2 r2 h2 hQ => ?_
  obtain ⟨rfl, g1, g2, g3⟩ := hQ
  exact kk S2 r2 h2 (fun b hb => by obtain ⟨u1, u2, u3⟩ := g1 b hb; obtain ⟨v1, v2, v3⟩ := n1.2.2.2 b (by omega); exact ⟨u1.trans v1, u2.trans v2, u3.trans v3⟩) g2 g3
theorem G.c {sz' : Nat} (e : sz = sz') (kk : G X k n pc lv st sz' S r h) : G X k n pc lv st sz S r h := by subst e; exact kk
end RK
theorem dv_X0 : ∀ j, j < 4 → defaultValue (tyc 0 j) = fv 0 j (fun _ => none) (fun _ => 0) := by intro j hj; (match j, hj with | 0, _ => rfl | 1, _ => rfl | 2, _ => rfl | 3, _ => rfl)
theorem dv_X3 : ∀ j, j < 2 → defaultValue (tyc 3 j) = fv 3 j (fun _ => none) (fun _ => 0) := by intro j hj; (match j, hj with | 0, _ => rfl | 1, _ => rfl)
theorem dv_X4 : ∀ j, j < 2 → defaultValue (tyc 4 j) = fv 4 j (fun _ => none) (fun _ => 0) := by intro j hj; (match j, hj with | 0, _ => rfl | 1, _ => rfl)
theorem dv_X6 : ∀ j, j < 3 → defaultValue (tyc 6 j) = fv 6 j (fun _ => none) (fun _ => 0) := by intro j hj; (match j, hj with | 0, _ => rfl | 1, _ => rfl | 2, _ => rfl)
theorem dv_X1 : ∀ j, j < 4 → defaultValue (tyc 1 j) = fv 1 j (fun _ => none) (fun _ => 0) := by intro j hj; (match j, hj with | 0, _ => rfl | 1, _ => rfl | 2, _ => rfl | 3, _ => rfl)
theorem dv_X2 : ∀ j, j < 6 → defaultValue (tyc 2 j) = fv 2 j (fun _ => none) (fun _ => 0) := by intro j hj; (match j, hj with | 0, _ => rfl | 1, _ => rfl | 2, _ => rfl | 3, _ => rfl | 4, _ => rfl | 5, _ => rfl)
theorem dv_X5 : ∀ j, j < 10 → defaultValue (tyc 5 j) = fv 5 j (fun _ => none) (fun _ => 0) := by intro j hj; (match j, hj with | 0, _ => rfl | 1, _ => rfl | 2, _ => rfl | 3, _ => rfl | 4, _ => rfl | 5, _ => rfl | 6, _ => rfl | 7, _ => rfl | 8, _ => rfl | 9, _ => rfl)
theorem dv_X7 : ∀ j, j < 5 → defaultValue (tyc 7 j) = fv 7 j (fun _ => none) (fun _ => 0) := by intro j hj; (match j, hj with | 0, _ => rfl | 1, _ => rfl | 2, _ => rfl | 3, _ => rfl | 4, _ => rfl)
theorem dv_X8 : ∀ j, j < 3 → defaultValue (tyc 8 j) = fv 8 j (fun _ => none) (fun _ => 0) := by intro j hj; (match j, hj with | 0, _ => rfl | 1, _ => rfl | 2, _ => rfl)
theorem dv_X9 : ∀ j, j < 2 → defaultValue (tyc 9 j) = fv 9 j (fun _ => none) (fun _ => 0) := by intro j hj; (match j, hj with | 0, _ => rfl | 1, _ => rfl)
theorem dv_X10 : ∀ j, j < 2 → defaultValue (tyc 10 j) = fv 10 j (fun _ => none) (fun _ => 0) := by intro j hj; (match j, hj with | 0, _ => rfl | 1, _ => rfl)
theorem dv_X11 : ∀ j, j < 11 → defaultValue (tyc 11 j) = fv 11 j (fun _ => none) (fun _ => 0) := by intro j hj; (match j, hj with | 0, _ => rfl | 1, _ => rfl | 2, _ => rfl | 3, _ => rfl | 4, _ => rfl | 5, _ => rfl | 6, _ => rfl | 7, _ => rfl | 8, _ => rfl | 9, _ => rfl | 10, _ => rfl)
theorem dv_X12 : ∀ j, j < 40 → defaultValue (tyc 12 j) = fv 12 j (fun _ => none) (fun _ => 0) := by
  have hh : ∀ j : Fin 40, defaultValue (tyc 12 j.val) = fv 12 j.val (fun _ => none) (fun _ => 0) := by decide +kernel
  exact fun j hj => hh ⟨j, hj⟩
theorem c_X0_init {l : Launch} {D : va_G} {aC : Nat → ClassId} {B t sz : Nat} {S : sS} {r : sR} {h : sH} {a : Nat} (ha : S a = some (0, 0)) (hs : sz = a + 1) (hz : ∀ k : Int, h a k = 0) : CtN l yX0_init cX0_init 1 2 32 2 10 [.ref a] D aC B t sz S r h (mkP 3 LX0 zc a S r h) := by
  refine CtN.of (lv := [some (.ref a)]) (by decide +kernel) rfl (Nat.le_of_ble_eq_true rfl) (fun X hl q rt hnm ao _ _ _ _ => ?_)
  subst hs
  refine r_aload_0 (pc := 0) q dX0_init_0 ?_
  refine r_oinit (pc := 1) q mX0_1 (by decide) (by decide) rfl dX0_init_1 ?_
  refine r_aload_0 (pc := 4) q dX0_init_4 ?_
  refine r_mkN (pc := 5) q ao fcX3 (by decide) xX0_7 wn_X3 wi_X3 dv_X3 (fun S' r' h' g1 g2 => c_X3_init g1 rfl g2) mX0_9 (by decide) (Nat.le_of_ble_eq_true rfl) rfl dX0_init_5 dX0_init_8 dX0_init_9 (fun S1 r1 h1 f1 L1 E1 => ?_)
  refine r_putrF (pc := 12) q hnm fX0_10 (kz := 0) rfl rfl (by decide) rfl (fun _ => rfl) (fun _ => rfl) (by rw [(f1 a (by omega)).1]; exact ha) dX0_init_12 (fun r2 e2 => ?_)
  refine g_return (pc := 15) q rt (by decide) (by decide) dX0_init_15 ⟨rfl, rfl, fun b hb => ?_, ⟨by rw [(f1 a (by omega)).1]; exact ha, by rw [e2, up_s, up_s], L1.fr fun c c0 c1 => ⟨rfl, by rw [e2, up_n _ _ (show c ≠ a by omega)]⟩⟩, fun k => by rw [(f1 a (by omega)).2.2]; exact hz k⟩
  obtain ⟨u1, u2, u3⟩ := f1 b (by omega)
  exact ⟨u1, by rw [e2, up_n _ _ (show b ≠ a by omega)]; exact u2, u3⟩
/-- the route at a, j names and numerals made so far -/
def inv7 (S0 : sS) (r0 : sR) (h0 : sH) (a j : Nat) (S : sS) (r : sR) (h : sH) : Prop := (∀ b : Nat, b < a → S b = S0 b ∧ r b = r0 b ∧ h b = h0 b) ∧ (∀ k : Int, h a k = 0) ∧ S a = some (7, 0) ∧ (r a 0 = some (a + 1) ∧ r a 1 = some (a + 2) ∧ r a 2 = some (a + 3)) ∧ (S (a + 1) = some (24, 10) ∧ S (a + 2) = some (25, 10) ∧ S (a + 3) = some (22, 10)) ∧ ∀ i : Int, 0 ≤ i → i < j → (r (a + 1) i = some (a + 4 + 4 * i.toNat) ∧ LX3 S r (a + 4 + 4 * i.toNat)) ∧ r (a + 2) i = some (a + 6 + 4 * i.toNat) ∧ LX4 S r (a + 6 + 4 * i.toNat)
theorem inv7_s {S0 : sS} {r0 : sR} {h0 : sH} {a j : Nat} {S S1 S3 : sS} {r r1 r2 r3 r4 : sR} {h h1 h3 : sH} (i : inv7 S0 r0 h0 a j S r h) (f1 : ∀ b : Nat, b < a + 4 + 4 * j → S1 b = S b ∧ r1 b = r b ∧ h1 b = h b) (L1 : LX3 S1 r1 (a + 4 + 4 * j)) (e2 : r2 = up r1 (a + 1) (up (r1 (a + 1)) (j : Int) (some (a + 4 + 4 * j)))) (f3 : ∀ b : Nat, b < a + 4 + 4 * j + 2 → S3 b = S1 b ∧ r3 b = r2 b ∧ h3 b = h1 b) (L3 : LX4 S3 r3 (a + 4 + 4 * j + 2)) (e4 : r4 = up r3 (a + 2) (up (r3 (a + 2)) (j : Int) (some (a + 4 + 4 * j + 2)))) : inv7 S0 r0 h0 a (j + 1) S3 r4 h3 := by
  obtain ⟨i1, i2, i3, ⟨i4, i5, i6⟩, ⟨i7, i8, i9⟩, i10⟩ := i
  have fS : ∀ b : Nat, b < a + 4 + 4 * j → S3 b = S b ∧ h3 b = h b := fun b hb => by
    obtain ⟨u1, u2, u3⟩ := f1 b hb
    obtain ⟨v1, v2, v3⟩ := f3 b (by omega)
    exact ⟨v1.trans u1, v3.trans u3⟩
  have fr : ∀ b : Nat, b < a + 4 + 4 * j → b ≠ a + 1 → b ≠ a + 2 → r4 b = r b := fun b hb b1 b2 => by
    rw [e4, up_n _ _ b2, (f3 b (by omega)).2.1, e2, up_n _ _ b1, (f1 b hb).2.1]
  have fr1 : r4 (a + 1) = up (r (a + 1)) (j : Int) (some (a + 4 + 4 * j)) := by rw [e4, up_n _ _ (show a + 1 ≠ a + 2 by omega), (f3 _ (by omega)).2.1, e2, up_s, (f1 _ (by omega)).2.1]
  have fr2 : r4 (a + 2) = up (r (a + 2)) (j : Int) (some (a + 4 + 4 * j + 2)) := by rw [e4, up_s, (f3 _ (by omega)).2.1, e2, up_n _ _ (show a + 2 ≠ a + 1 by omega), (f1 _ (by omega)).2.1]
  refine ⟨fun b hb => ?_, fun k => by rw [(fS a (by omega)).2]; exact i2 k, by rw [(fS a (by omega)).1]; exact i3, ?_, ?_, fun x x0 x1 => ?_⟩
  · rw [(fS b (by omega)).1, (fS b (by omega)).2, fr b (by omega) (by omega) (by omega)]; exact i1 b hb
  · rw [fr a (by omega) (by omega) (by omega)]; exact ⟨i4, i5, i6⟩
  · rw [(fS (a + 1) (by omega)).1, (fS (a + 2) (by omega)).1, (fS (a + 3) (by omega)).1]; exact ⟨i7, i8, i9⟩
  · by_cases e : x = j
    · subst e
      have ej : ((j : Int)).toNat = j := by omega
      rw [fr1, fr2, up_s, up_s, ej]
      refine ⟨⟨rfl, L1.fr fun c c0 c1 => ⟨(f3 c (by omega)).1, ?_⟩⟩, by rw [show a + 4 + 4 * j + 2 = a + 6 + 4 * j by omega], ?_⟩
      · rw [e4, up_n _ _ (show c ≠ a + 2 by omega), (f3 c (by omega)).2.1, e2, up_n _ _ (show c ≠ a + 1 by omega)]
      · rw [show a + 6 + 4 * j = a + 4 + 4 * j + 2 by omega]
        exact L3.fr fun c c0 c1 => ⟨rfl, by rw [e4, up_n _ _ (show c ≠ a + 2 by omega)]⟩
    · obtain ⟨⟨y1, y2⟩, y3, y4⟩ := i10 x x0 (by omega)
      rw [fr1, fr2, up_n _ _ e, up_n _ _ e]
      exact ⟨⟨y1, y2.fr fun c c0 c1 => ⟨(fS c (by omega)).1, fr c (by omega) (by omega) (by omega)⟩⟩, y3, y4.fr fun c c0 c1 => ⟨(fS c (by omega)).1, fr c (by omega) (by omega) (by omega)⟩⟩
theorem c_X7_init {l : Launch} {D : va_G} {aC : Nat → ClassId} {B t sz : Nat} {S : sS} {r : sR} {h : sH} {a : Nat} (ha : S a = some (7, 0)) (hs : sz = a + 1) (hz : ∀ k : Int, h a k = 0) : CtN l yX7_init cX7_init 2 2 32 43 230 [.ref a] D aC B t sz S r h (mkP 44 LX7 zc a S r h) := by
  refine CtN.of (lv := [some (.ref a), none]) (by decide +kernel) rfl (Nat.le_of_ble_eq_true rfl) (fun X hl q rt hnm ao _ _ _ _ => ?_)
  subst hs
  refine r_aload_0 (pc := 0) q dX7_init_0 ?_
  refine r_oinit (pc := 1) q mX7_3 (by decide) (by decide) rfl dX7_init_1 ?_
  refine r_aload_0 (pc := 4) q dX7_init_4 ?_
  refine r_bipush (pc := 5) q dX7_init_5 (by decide) ?_
  refine r_anew (pc := 7) (kd := 24) (t0 := 4) q rfl ao.1 xX7_9 (by decide) (by decide) rfl (by decide) (by decide) dX7_init_7 (fun S1 r1 h1 n1 => ?_)
  refine r_putrF (pc := 10) q hnm fX7_11 (kz := 0) rfl rfl (by decide) rfl (fun _ => rfl) (fun _ => rfl) (by rw [(n1.2.2.2 a (by omega)).1]; exact ha) dX7_init_10 (fun r2 e2 => ?_)
  refine r_aload_0 (pc := 13) q dX7_init_13 ?_
  refine r_bipush (pc := 14) q dX7_init_14 (by decide) ?_
  refine r_anew (pc := 16) (kd := 25) (t0 := 5) q rfl ao.2.1 xX7_17 (by decide) (by decide) rfl (by decide) (by decide) dX7_init_16 (fun S3 r3 h3 n3 => ?_)
  have s3 : S3 a = some (7, 0) := by rw [(n3.2.2.2 a (by omega)).1, (n1.2.2.2 a (by omega)).1]; exact ha
  refine r_putrF (pc := 19) q hnm fX7_19 (kz := 1) rfl rfl (by decide) rfl (fun _ => rfl) (fun _ => rfl) s3 dX7_init_19 (fun r4 e4 => ?_)
  refine r_aload_0 (pc := 22) q dX7_init_22 ?_
  refine r_bipush (pc := 23) q dX7_init_23 (by decide) ?_
  refine r_newZ (pc := 25) q (by decide) rfl (by decide) (by decide) dX7_init_25 (fun S5 r5 h5 n5 => ?_)
  have s5 : S5 a = some (7, 0) := by rw [(n5.2.2.2 a (by omega)).1]; exact s3
  refine r_putrF (pc := 27) q hnm fX7_23 (kz := 2) rfl rfl (by decide) rfl (fun _ => rfl) (fun _ => rfl) s5 dX7_init_27 (fun r6 e6 => ?_)
  refine r_iconst (pc := 30) q dX7_init_30 ?_
  refine r_istore_1 (pc := 31) q dX7_init_31 rfl ?_
  have i0 : inv7 S r h a 0 S5 r6 h5 := by
    have fr : ∀ b : Nat, b < a + 1 → S5 b = S b ∧ h5 b = h b := fun b hb => by
      rw [(n5.2.2.2 b (by omega)).1, (n3.2.2.2 b (by omega)).1, (n1.2.2.2 b (by omega)).1, (n5.2.2.2 b (by omega)).2.2, (n3.2.2.2 b (by omega)).2.2, (n1.2.2.2 b (by omega)).2.2]; exact ⟨rfl, rfl⟩
    have ra : r6 a = up (up (up (r a) 0 (some (a + 1))) 1 (some (a + 2))) 2 (some (a + 3)) := by
      rw [e6, up_s, (n5.2.2.2 a (by omega)).2.1, e4, up_s, (n3.2.2.2 a (by omega)).2.1, e2, up_s, (n1.2.2.2 a (by omega)).2.1]
    refine ⟨fun b hb => ⟨(fr b (by omega)).1, ?_, (fr b (by omega)).2⟩, fun k => by rw [(fr a (by omega)).2]; exact hz k, s5, ?_, ⟨?_, ?_, n5.1⟩, fun i i0 i1 => absurd i1 (by omega)⟩
    · rw [e6, up_n _ _ (show b ≠ a by omega), (n5.2.2.2 b (by omega)).2.1, e4, up_n _ _ (show b ≠ a by omega), (n3.2.2.2 b (by omega)).2.1, e2, up_n _ _ (show b ≠ a by omega), (n1.2.2.2 b (by omega)).2.1]
    · rw [ra]
      exact ⟨by rw [up_n _ _ (by decide), up_n _ _ (by decide), up_s], by rw [up_n _ _ (by decide), up_s], by rw [up_s]⟩
    · rw [(n5.2.2.2 (a + 1) (by omega)).1, (n3.2.2.2 (a + 1) (by omega)).1]; exact n1.1
    · rw [(n5.2.2.2 (a + 2) (by omega)).1]; exact n3.1
  have lp : ∀ (d j : Nat) (S' : sS) (r' : sR) (h' : sH), j + d = 10 → inv7 S r h a j S' r' h' → G X (3 + 4 * j) (30 + 20 * j) 32 [some (.ref a), some (.int (iI (j : Int)))] [] (a + 4 + 4 * j) S' r' h' := by
    intro d
    induction d with
    | zero =>
      intro j S' r' h' hj i
      refine r_iload_1 (pc := 32) q dX7_init_32 ?_
      refine r_bipush (pc := 33) q dX7_init_33 (by decide) ?_
      refine r_icmp_ge (pc := 35) q 70 dX7_init_35 (by decide) ⟨by omega, by omega⟩ ⟨by omega, by omega⟩ (fun c => ?_) (fun c => absurd (by omega) c)
      obtain ⟨i1, i2, i3, ⟨i4, i5, i6⟩, ⟨i7, i8, i9⟩, i10⟩ := i
      exact g_return (pc := 70) q rt (by omega) (by omega) dX7_init_70 ⟨rfl, by omega, i1, ⟨i3, ⟨i4, i7, fun x x0 x1 => (i10 x x0 (by omega)).1⟩, ⟨i5, i8, fun x x0 x1 => (i10 x x0 (by omega)).2⟩, i6, i9⟩, i2⟩
    | succ d ih =>
      intro j S' r' h' hj i
      refine r_iload_1 (pc := 32) q dX7_init_32 ?_
      refine r_bipush (pc := 33) q dX7_init_33 (by decide) ?_
      refine r_icmp_ge (pc := 35) q 70 dX7_init_35 (by decide) ⟨by omega, by omega⟩ ⟨by omega, by omega⟩ (fun c => absurd c (by omega)) (fun c => ?_)
      refine r_aload_0 (pc := 38) q dX7_init_38 ?_
      refine r_getr (pc := 39) q fX7_11 (kz := 0) rfl (by decide) rfl i.2.2.1 i.2.2.2.1.1 dX7_init_39 ?_
      refine r_iload_1 (pc := 42) q dX7_init_42 ?_
      refine r_mkN (pc := 43) q ao fcX3 (by decide) xX7_9 wn_X3 wi_X3 dv_X3 (fun S' r' h' g1 g2 => c_X3_init g1 rfl g2) mX7_27 ⟨by decide, by decide, by omega, by omega⟩ (Nat.le_of_ble_eq_true rfl) rfl dX7_init_43 dX7_init_46 dX7_init_47 (fun S1 r1 h1 f1 L1 E1 => ?_)
      refine r_aast (pc := 50) (kd := 24) (t0 := 4) (ci := 3) q rfl rfl (by decide) (by decide) (by rw [(f1 _ (by omega)).1]; exact i.2.2.2.2.1.1) L1.o (by omega) (by omega) dX7_init_50 (fun r2 e2 => ?_)
      refine r_aload_0 (pc := 51) q dX7_init_51 ?_
      refine r_getr (pc := 52) q fX7_19 (kz := 1) rfl (by decide) rfl (by rw [(f1 a (by omega)).1]; exact i.2.2.1) (by rw [e2, up_n _ _ (show a ≠ a + 1 by omega), (f1 a (by omega)).2.1]; exact i.2.2.2.1.2.1) dX7_init_52 ?_
      refine r_iload_1 (pc := 55) q dX7_init_55 ?_
      refine r_mkN (pc := 56) q ao fcX4 (by decide) xX7_17 wn_X4 wi_X4 dv_X4 (fun S' r' h' g1 g2 => c_X4_init g1 rfl g2) mX7_28 ⟨by decide, by decide, by omega, by omega⟩ (Nat.le_of_ble_eq_true rfl) rfl dX7_init_56 dX7_init_59 dX7_init_60 (fun S3 r3 h3 f3 L3 E3 => ?_)
      refine r_aast (pc := 63) (kd := 25) (t0 := 5) (ci := 4) q rfl rfl (by decide) (by decide) (by rw [(f3 _ (by omega)).1, (f1 _ (by omega)).1]; exact i.2.2.2.2.1.2.1) L3.o (by omega) (by omega) dX7_init_63 (fun r4 e4 => ?_)
      refine r_iinc_1 (pc := 64) q dX7_init_64 rfl ?_
      refine r_goto (pc := 67) (tgt := 32) q dX7_init_67 (by decide) ?_
      refine G.c (show _ = a + 4 + 4 * (j + 1) by omega) (G.w (show _ ≤ 3 + 4 * (j + 1) by omega) (show _ ≤ 30 + 20 * (j + 1) by omega) ?_)
      exact ih (j + 1) S3 r4 h3 (by omega) (inv7_s i f1 L1 e2 f3 L3 e4)
  exact lp 10 0 S5 r6 h5 (by omega) i0
