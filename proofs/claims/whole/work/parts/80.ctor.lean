/-! ===== constructors: the small ones ===== -/
def mkP (n : Nat) (L : sS → sR → Nat → Prop) (E : sH → Nat → Prop) (a : Nat) (S : sS) (r : sR) (h : sH) : nQ := fun sz1 S1 r1 h1 => sz1 = a + n ∧ (∀ b : Nat, b < a → S1 b = S b ∧ r1 b = r b ∧ h1 b = h b) ∧ L S1 r1 a ∧ E h1 a
def zc (h : sH) (a : Nat) : Prop := ∀ k : Int, h a k = 0
/-- m arrays of an object at a made so far -/
def ini (T : List (Int × Nat × Nat)) (a ci : Nat) (S0 : sS) (r0 : sR) (h0 : sH) (f : Int → Int) (c : Nat) (g : sH) (m sz : Nat) (S : sS) (r : sR) (h : sH) : Prop := sz = a + 1 + m ∧ S a = some (ci, 0) ∧ (∀ b : Nat, b < a → S b = S0 b ∧ r b = r0 b ∧ h b = h0 b) ∧ h a = f ∧ (∀ b : Nat, a < b → b < a + 1 + c → h b = g b) ∧ ∀ i : Nat, i < m → ∀ e, T[i]? = some e → r a e.1 = some (a + 1 + i) ∧ S (a + 1 + i) = some e.2
theorem ini_0 {T : List (Int × Nat × Nat)} {a ci sz : Nat} {S : sS} {r : sR} {h : sH} (hs : sz = a + 1) (ha : S a = some (ci, 0)) : ini T a ci S r h (h a) 0 h 0 sz S r h := ⟨by omega, ha, fun b _ => ⟨rfl, rfl, rfl⟩, rfl, fun b _ _ => rfl, fun i hi => absurd hi (by omega)⟩
theorem ini_c {T : List (Int × Nat × Nat)} {a ci c m sz : Nat} {S0 : sS} {r0 : sR} {h0 : sH} {f : Int → Int} {g : sH} {S : sS} {r : sR} {h : sH} (hi : ini T a ci S0 r0 h0 f c g m sz S r h) : ini T a ci S0 r0 h0 f m h m sz S r h := ⟨hi.1, hi.2.1, hi.2.2.1, hi.2.2.2.1, fun b _ _ => rfl, hi.2.2.2.2.2⟩
theorem ini_p {T : List (Int × Nat × Nat)} {a ci c m sz : Nat} {S0 : sS} {r0 : sR} {h0 : sH} {f : Int → Int} {g : sH} {S : sS} {r : sR} {h h1 : sH} {k z : Int} (hi : ini T a ci S0 r0 h0 f c g m sz S r h) (e : h1 = up h a (up (h a) k z)) : ini T a ci S0 r0 h0 (up f k z) c g m sz S r h1 := by
  obtain ⟨i1, i2, i3, i4, i5, i6⟩ := hi
  refine ⟨i1, i2, fun b hb => ⟨(i3 b hb).1, (i3 b hb).2.1, ?_⟩, by rw [e, up_s, i4], fun b b0 b1 => ?_, i6⟩
  · rw [e, up_n _ _ (show b ≠ a by omega)]; exact (i3 b hb).2.2
  · rw [e, up_n _ _ (show b ≠ a by omega)]; exact i5 b b0 b1
theorem ini_s {T : List (Int × Nat × Nat)} {a ci c m sz : Nat} {S0 : sS} {r0 : sR} {h0 : sH} {f : Int → Int} {g : sH} {S S1 : sS} {r r1 r2 : sR} {h h1 : sH} {kz : Int} {e : Nat × Nat} (hi : ini T a ci S0 r0 h0 f c g m sz S r h) (np : nw1 S S1 r r1 h h1 sz e) (e2 : r2 = up r1 a (up (r1 a) kz (some sz))) (ht : T[m]? = some (kz, e)) (hd : ∀ i : Nat, i < m → ∀ x, T[i]? = some x → x.1 ≠ kz) (hc : c ≤ m) : ini T a ci S0 r0 h0 f c g (m + 1) (sz + 1) S1 r2 h1 := by
  obtain ⟨i1, i2, i3, i4, i5, i6⟩ := hi
  obtain ⟨n1, n2, n3, n4⟩ := np
  have na := n4 a (by omega)
  have ra : r2 a = up (r a) kz (some sz) := by rw [e2, up_s, na.2.1]
  refine ⟨by omega, by rw [na.1]; exact i2, fun b hb => ?_, by rw [na.2.2]; exact i4, fun b b0 b1 => by rw [(n4 b (by omega)).2.2]; exact i5 b b0 b1, fun i hi2 x hx => ?_⟩
  · obtain ⟨y1, y2, y3⟩ := n4 b (by omega)
    rw [y1, e2, up_n _ _ (show b ≠ a by omega), y2, y3]
    exact i3 b hb
  · by_cases q : i = m
    · subst q
      rw [ht] at hx
      cases hx
      exact ⟨by rw [ra, up_s, i1], by rw [← i1]; exact n1⟩
    · obtain ⟨y1, y2⟩ := i6 i (by omega) x hx
      exact ⟨by rw [ra, up_n _ _ (hd i (by omega) x hx)]; exact y1, by rw [(n4 _ (by omega)).1]; exact y2⟩
section RI
variable {X : CX} {k n pc : Nat} {lv : List (Option Value)} {st : List Value} {sz : Nat} {S : sS} {r : sR} {h : sH} {cc : ByteArray} {own : String} {nL fr lo mc ms : Nat}
/-- an array, put into a final field -/
theorem r_ini (q : Ok X cc own nL fr lo mc ms) (hnm : (xh X).name = "<init>") {T : List (Int × Nat × Nat)} {a ci c m idx kf kd N : Nat} {S0 : sS} {r0 : sR} {h0 : sH} {f : Int → Int} {g : sH} {kz z : Int} (hi : ini T a ci S0 r0 h0 f c g m sz S r h)
    (hnew : (∀ (S1 : sS) (r1 : sR) (h1 : sH), nw1 S S1 r r1 h h1 sz (kd, N) → G X (k + 1) (n + N) (pc + 2) lv (.ref sz :: .ref a :: st) (sz + 1) S1 r1 h1) → G X k n pc lv (.int (iI z) :: .ref a :: st) sz S r h)
    (fl : FL own idx ci kf true) (ek : (kf : Int) = kz) (hown : vwCl[ci]?.map (fun q => q.1) = some own) (hci : ci < 13) (hk : isRf (tyc ci kf) = true) (hn : ∀ b, narrow (tyc ci kf) (.ref b) = .ref b) (hfit : ∀ b, fits (tyc ci kf) (.ref b) = true) (ht : T[m]? = some (kz, kd, N)) (hd : ∀ i : Nat, i < m → ∀ x, T[i]? = some x → x.1 ≠ kz) (hc : c ≤ m) (d2 : decode cc (pc + 2) = .ok (.putfield idx, 3))
    (kk : ∀ (S1 : sS) (r1 : sR) (h1 : sH), ini T a ci S0 r0 h0 f c g (m + 1) (sz + 1) S1 r1 h1 → G X (k + 1) (n + N) (pc + 5) lv st (sz + 1) S1 r1 h1) : G X k n pc lv (.int (iI z) :: .ref a :: st) sz S r h :=
  hnew fun S1 r1 h1 np => r_putrF q hnm fl ek hown hci hk hn hfit (by rw [(np.2.2.2 a (by have := hi.1; omega)).1]; exact hi.2.1) d2 fun r2 e2 => kk S1 r2 h1 (ini_s hi np e2 ht hd hc)
end RI
theorem nodk {T : List (Int × Nat × Nat)} {m : Nat} {kz : Int} (h : ((T.take m).all (fun x => decide (x.1 ≠ kz))) = true) : ∀ i : Nat, i < m → ∀ x, T[i]? = some x → x.1 ≠ kz := by
  intro i hi x hx
  have := List.all_eq_true.mp h x (List.mem_of_getElem? (i := i) (by rw [List.getElem?_take]; rw [if_pos hi]; exact hx))
  exact of_decide_eq_true this
def tX3 : List (Int × Nat × Nat) := [(0, 20, 8)]
def tX10 : List (Int × Nat × Nat) := [(0, 20, 200)]
def tX1 : List (Int × Nat × Nat) := [(0, 20, 20), (1, 20, 20), (2, 20, 20)]
def tX6 : List (Int × Nat × Nat) := [(0, 20, 21), (1, 20, 21)]
def tX9 : List (Int × Nat × Nat) := [(0, 20, 26), (1, 20, 9)]
theorem c_X3_init {l : Launch} {D : va_G} {aC : Nat → ClassId} {B t sz : Nat} {S : sS} {r : sR} {h : sH} {a : Nat} (ha : S a = some (3, 0)) (hs : sz = a + 1) (hz : ∀ k : Int, h a k = 0) : CtN l yX3_init cX3_init 1 1 12 1 8 [.ref a] D aC B t sz S r h (mkP 2 LX3 zc a S r h) := by
  refine CtN.of (lv := [some (.ref a)]) (by decide +kernel) rfl (Nat.le_of_ble_eq_true rfl) (fun X hl q rt hnm ao _ _ _ _ => ?_)
  refine r_aload_0 (pc := 0) q dX3_init_0 ?_
  refine r_oinit (pc := 1) q mX3_3 (by decide) (by decide) rfl dX3_init_1 ?_
  refine r_aload_0 (pc := 4) q dX3_init_4 ?_
  refine r_bipush (pc := 5) q dX3_init_5 (by decide) ?_
  refine r_ini (pc := 7) (T := tX3) (kd := 20) (N := 8) q hnm (ini_0 hs ha) (r_newI q (by decide) rfl (by decide) (by decide) dX3_init_7) fX3_9 (kz := 0) rfl rfl (by decide) rfl (fun _ => rfl) (fun _ => rfl) rfl (nodk (by decide)) (by decide) dX3_init_9 (fun S1 r1 h1 i1 => ?_)
  refine g_return (pc := 12) q rt (by decide) (by decide) dX3_init_12 ⟨rfl, i1.1, i1.2.2.1, ⟨i1.2.1, i1.2.2.2.2.2 0 (by decide) _ rfl⟩, fun k => by rw [i1.2.2.2.1]; exact hz k⟩
theorem c_X4_init {l : Launch} {D : va_G} {aC : Nat → ClassId} {B t sz : Nat} {S : sS} {r : sR} {h : sH} {a : Nat} (ha : S a = some (4, 0)) (hs : sz = a + 1) (hz : ∀ k : Int, h a k = 0) : CtN l yX4_init cX4_init 1 1 12 1 8 [.ref a] D aC B t sz S r h (mkP 2 LX4 zc a S r h) := by
  refine CtN.of (lv := [some (.ref a)]) (by decide +kernel) rfl (Nat.le_of_ble_eq_true rfl) (fun X hl q rt hnm ao _ _ _ _ => ?_)
  refine r_aload_0 (pc := 0) q dX4_init_0 ?_
  refine r_oinit (pc := 1) q mX4_3 (by decide) (by decide) rfl dX4_init_1 ?_
  refine r_aload_0 (pc := 4) q dX4_init_4 ?_
  refine r_bipush (pc := 5) q dX4_init_5 (by decide) ?_
  refine r_ini (pc := 7) (T := tX3) (kd := 20) (N := 8) q hnm (ini_0 hs ha) (r_newI q (by decide) rfl (by decide) (by decide) dX4_init_7) fX4_9 (kz := 0) rfl rfl (by decide) rfl (fun _ => rfl) (fun _ => rfl) rfl (nodk (by decide)) (by decide) dX4_init_9 (fun S1 r1 h1 i1 => ?_)
  refine g_return (pc := 12) q rt (by decide) (by decide) dX4_init_12 ⟨rfl, i1.1, i1.2.2.1, ⟨i1.2.1, i1.2.2.2.2.2 0 (by decide) _ rfl⟩, fun k => by rw [i1.2.2.2.1]; exact hz k⟩
theorem c_X10_init {l : Launch} {D : va_G} {aC : Nat → ClassId} {B t sz : Nat} {S : sS} {r : sR} {h : sH} {a : Nat} (ha : S a = some (10, 0)) (hs : sz = a + 1) (hz : ∀ k : Int, h a k = 0) : CtN l yX10_init cX10_init 1 1 12 1 200 [.ref a] D aC B t sz S r h (mkP 2 LX10 zc a S r h) := by
  refine CtN.of (lv := [some (.ref a)]) (by decide +kernel) rfl (Nat.le_of_ble_eq_true rfl) (fun X hl q rt hnm ao _ _ _ _ => ?_)
  refine r_aload_0 (pc := 0) q dX10_init_0 ?_
  refine r_oinit (pc := 1) q mX10_3 (by decide) (by decide) rfl dX10_init_1 ?_
  refine r_aload_0 (pc := 4) q dX10_init_4 ?_
  refine r_sipush (pc := 5) q dX10_init_5 (by decide) ?_
  refine r_ini (pc := 8) (T := tX10) (kd := 20) (N := 200) q hnm (ini_0 hs ha) (r_newI q (by decide) rfl (by decide) (by decide) dX10_init_8) fX10_9 (kz := 0) rfl rfl (by decide) rfl (fun _ => rfl) (fun _ => rfl) rfl (nodk (by decide)) (by decide) dX10_init_10 (fun S1 r1 h1 i1 => ?_)
  refine g_return (pc := 13) q rt (by decide) (by decide) dX10_init_13 ⟨rfl, i1.1, i1.2.2.1, ⟨i1.2.1, i1.2.2.2.2.2 0 (by decide) _ rfl⟩, fun k => by rw [i1.2.2.2.1]; exact hz k⟩
theorem c_X8_init {l : Launch} {D : va_G} {aC : Nat → ClassId} {B t sz : Nat} {S : sS} {r : sR} {h : sH} {a : Nat} (ha : S a = some (8, 0)) (hs : sz = a + 1) : CtN l yX8_init cX8_init 1 1 12 0 0 [.ref a] D aC B t sz S r h (mkP 1 LX8 (fun _ _ => True) a S r h) := by
  refine CtN.of (lv := [some (.ref a)]) (by decide +kernel) rfl (Nat.le_of_ble_eq_true rfl) (fun X hl q rt hnm ao _ _ _ _ => ?_)
  refine r_aload_0 (pc := 0) q dX8_init_0 ?_
  refine r_oinit (pc := 1) q mX8_3 (by decide) (by decide) rfl dX8_init_1 ?_
  exact g_return (pc := 4) q rt (by decide) (by decide) dX8_init_4 ⟨rfl, hs, fun b _ => ⟨rfl, rfl, rfl⟩, ha, trivial⟩
theorem c_X1_init {l : Launch} {D : va_G} {aC : Nat → ClassId} {B t sz : Nat} {S : sS} {r : sR} {h : sH} {a : Nat} (ha : S a = some (1, 0)) (hs : sz = a + 1) (hz : ∀ k : Int, h a k = 0) : CtN l yX1_init cX1_init 1 1 12 3 60 [.ref a] D aC B t sz S r h (mkP 4 LX1 zc a S r h) := by
  refine CtN.of (lv := [some (.ref a)]) (by decide +kernel) rfl (Nat.le_of_ble_eq_true rfl) (fun X hl q rt hnm ao _ _ _ _ => ?_)
  refine r_aload_0 (pc := 0) q dX1_init_0 ?_
  refine r_oinit (pc := 1) q mX1_3 (by decide) (by decide) rfl dX1_init_1 ?_
  refine r_aload_0 (pc := 4) q dX1_init_4 ?_
  refine r_bipush (pc := 5) q dX1_init_5 (by decide) ?_
  refine r_ini (pc := 7) (T := tX1) (kd := 20) (N := 20) q hnm (ini_0 hs ha) (r_newI q (by decide) rfl (by decide) (by decide) dX1_init_7) fX1_9 (kz := 0) rfl rfl (by decide) rfl (fun _ => rfl) (fun _ => rfl) rfl (nodk (by decide)) (by decide) dX1_init_9 (fun S1 r1 h1 i1 => ?_)
  refine r_aload_0 (pc := 12) q dX1_init_12 ?_
  refine r_bipush (pc := 13) q dX1_init_13 (by decide) ?_
  refine r_ini (pc := 15) (T := tX1) (kd := 20) (N := 20) q hnm i1 (r_newI q (by decide) rfl (by decide) (by decide) dX1_init_15) fX1_15 (kz := 1) rfl rfl (by decide) rfl (fun _ => rfl) (fun _ => rfl) rfl (nodk (by decide)) (by decide) dX1_init_17 (fun S2 r2 h2 i2 => ?_)
  refine r_aload_0 (pc := 20) q dX1_init_20 ?_
  refine r_bipush (pc := 21) q dX1_init_21 (by decide) ?_
  refine r_ini (pc := 23) (T := tX1) (kd := 20) (N := 20) q hnm i2 (r_newI q (by decide) rfl (by decide) (by decide) dX1_init_23) fX1_18 (kz := 2) rfl rfl (by decide) rfl (fun _ => rfl) (fun _ => rfl) rfl (nodk (by decide)) (by decide) dX1_init_25 (fun S3 r3 h3 i3 => ?_)
  refine g_return (pc := 28) q rt (by decide) (by decide) dX1_init_28 ⟨rfl, by have := i3.1; omega, i3.2.2.1, ⟨i3.2.1, i3.2.2.2.2.2 0 (by decide) _ rfl, i3.2.2.2.2.2 1 (by decide) _ rfl, i3.2.2.2.2.2 2 (by decide) _ rfl⟩, fun k => by rw [i3.2.2.2.1]; exact hz k⟩
theorem c_X6_init {l : Launch} {D : va_G} {aC : Nat → ClassId} {B t sz : Nat} {S : sS} {r : sR} {h : sH} {a : Nat} (ha : S a = some (6, 0)) (hs : sz = a + 1) (hz : ∀ k : Int, h a k = 0) : CtN l yX6_init cX6_init 1 1 12 2 42 [.ref a] D aC B t sz S r h (mkP 3 LX6 zc a S r h) := by
  refine CtN.of (lv := [some (.ref a)]) (by decide +kernel) rfl (Nat.le_of_ble_eq_true rfl) (fun X hl q rt hnm ao _ _ _ _ => ?_)
  refine r_aload_0 (pc := 0) q dX6_init_0 ?_
  refine r_oinit (pc := 1) q mX6_3 (by decide) (by decide) rfl dX6_init_1 ?_
  refine r_aload_0 (pc := 4) q dX6_init_4 ?_
  refine r_bipush (pc := 5) q dX6_init_5 (by decide) ?_
  refine r_ini (pc := 7) (T := tX6) (kd := 20) (N := 21) q hnm (ini_0 hs ha) (r_newI q (by decide) rfl (by decide) (by decide) dX6_init_7) fX6_9 (kz := 0) rfl rfl (by decide) rfl (fun _ => rfl) (fun _ => rfl) rfl (nodk (by decide)) (by decide) dX6_init_9 (fun S1 r1 h1 i1 => ?_)
  refine r_aload_0 (pc := 12) q dX6_init_12 ?_
  refine r_bipush (pc := 13) q dX6_init_13 (by decide) ?_
  refine r_ini (pc := 15) (T := tX6) (kd := 20) (N := 21) q hnm i1 (r_newI q (by decide) rfl (by decide) (by decide) dX6_init_15) fX6_15 (kz := 1) rfl rfl (by decide) rfl (fun _ => rfl) (fun _ => rfl) rfl (nodk (by decide)) (by decide) dX6_init_17 (fun S2 r2 h2 i2 => ?_)
  refine g_return (pc := 20) q rt (by decide) (by decide) dX6_init_20 ⟨rfl, by have := i2.1; omega, i2.2.2.1, ⟨i2.2.1, i2.2.2.2.2.2 0 (by decide) _ rfl, i2.2.2.2.2.2 1 (by decide) _ rfl⟩, fun k => by rw [i2.2.2.2.1]; exact hz k⟩
theorem c_X9_init {l : Launch} {D : va_G} {aC : Nat → ClassId} {B t sz : Nat} {S : sS} {r : sR} {h : sH} {a : Nat} (ha : S a = some (9, 0)) (hs : sz = a + 1) : CtN l yX9_init cX9_init 2 1 12 2 35 [.ref a] D aC B t sz S r h (mkP 3 LX9 (fun h1 a => ∀ k : Int, 0 ≤ k → k < 26 → h1 (a + 1) k = k) a S r h) := by
  refine CtN.of (lv := [some (.ref a), none]) (by decide +kernel) rfl (Nat.le_of_ble_eq_true rfl) (fun X hl q rt hnm ao _ _ _ _ => ?_)
  refine r_aload_0 (pc := 0) q dX9_init_0 ?_
  refine r_oinit (pc := 1) q mX9_3 (by decide) (by decide) rfl dX9_init_1 ?_
  refine r_aload_0 (pc := 4) q dX9_init_4 ?_
  refine r_bipush (pc := 5) q dX9_init_5 (by decide) ?_
  refine r_ini (pc := 7) (T := tX9) (kd := 20) (N := 26) q hnm (ini_0 hs ha) (r_newI q (by decide) rfl (by decide) (by decide) dX9_init_7) fX9_9 (kz := 0) rfl rfl (by decide) rfl (fun _ => rfl) (fun _ => rfl) rfl (nodk (by decide)) (by decide) dX9_init_9 (fun S1 r1 h1 i1 => ?_)
  refine r_aload_0 (pc := 12) q dX9_init_12 ?_
  refine r_bipush (pc := 13) q dX9_init_13 (by decide) ?_
  refine r_ini (pc := 15) (T := tX9) (kd := 20) (N := 9) q hnm i1 (r_newI q (by decide) rfl (by decide) (by decide) dX9_init_15) fX9_15 (kz := 1) rfl rfl (by decide) rfl (fun _ => rfl) (fun _ => rfl) rfl (nodk (by decide)) (by decide) dX9_init_17 (fun S2 r2 h2 i2 => ?_)
  refine r_iconst (pc := 20) q dX9_init_20 ?_
  refine r_istore_1 (pc := 21) q dX9_init_21 rfl ?_
  have hL : LX9 S2 r2 a := ⟨i2.2.1, i2.2.2.2.2.2 0 (by decide) _ rfl, i2.2.2.2.2.2 1 (by decide) _ rfl⟩
  have lp : ∀ (d j : Nat) (h3 : sH), (j : Int) + d = 26 → (∀ b : Nat, b ≠ a + 1 → h3 b = h2 b) → (∀ k : Int, 0 ≤ k → k < j → h3 (a + 1) k = k) → G X (0 + 1 + 1) (0 + 26 + 9) 22 [some (.ref a), some (.int (iI j))] [] (sz + 1 + 1) S2 r2 h3 := by
    intro d
    induction d with
    | zero =>
      intro j h3 hj hf hk
      refine r_iload_1 (pc := 22) q dX9_init_22 ?_
      refine r_bipush (pc := 23) q dX9_init_23 (by decide) ?_
      refine r_icmp_ge (pc := 25) q 41 dX9_init_25 (by decide) ⟨by omega, by omega⟩ ⟨by omega, by omega⟩ (fun c => ?_) (fun c => absurd (by omega) c)
      exact g_return (pc := 41) q rt (by decide) (by decide) dX9_init_41 ⟨rfl, by have := i2.1; omega, fun b hb => ⟨(i2.2.2.1 b hb).1, (i2.2.2.1 b hb).2.1, by rw [hf b (by omega)]; exact (i2.2.2.1 b hb).2.2⟩, hL, fun k k0 k1 => hk k k0 (by omega)⟩
    | succ d ih =>
      intro j h3 hj hf hk
      refine r_iload_1 (pc := 22) q dX9_init_22 ?_
      refine r_bipush (pc := 23) q dX9_init_23 (by decide) ?_
      refine r_icmp_ge (pc := 25) q 41 dX9_init_25 (by decide) ⟨by omega, by omega⟩ ⟨by omega, by omega⟩ (fun c => absurd c (by omega)) (fun c => ?_)
      refine r_aload_0 (pc := 28) q dX9_init_28 ?_
      refine r_getr (pc := 29) q fX9_9 (kz := 0) rfl (by decide) rfl hL.o hL.r_groups dX9_init_29 ?_
      refine r_iload_1 (pc := 32) q dX9_init_32 ?_
      refine r_iload_1 (pc := 33) q dX9_init_33 ?_
      refine r_iast (pc := 34) q hL.s_groups (by omega) (by omega) dX9_init_34 (fun h4 e4 => ?_)
      refine r_iinc_1 (pc := 35) q dX9_init_35 rfl ?_
      refine r_goto (pc := 38) (tgt := 22) q dX9_init_38 (by decide) ?_
      refine ih (j + 1) h4 (by omega) (fun b hb => by rw [e4, up_n _ _ hb]; exact hf b hb) (fun k k0 k1 => ?_)
      rw [e4, up_s]
      by_cases e : k = j
      · rw [e, up_s]
      · rw [up_n _ _ e]; exact hk k k0 (by omega)
  exact lp 26 0 h2 (by omega) (fun b _ => rfl) (fun k k0 k1 => absurd k1 (by omega))
