/-! ===== the words depend on what is in range alone ===== -/
theorem vS_congr {g f : Int → Int} : ∀ n : Nat, (∀ j : Int, 0 ≤ j → j < n → g j = f j) → vS g n = vS f n
  | 0, _ => rfl
  | n + 1, h => by
    have a := vS_congr (g := g) (f := f) n (fun j j0 j1 => h j j0 (by omega))
    have b := h n (by omega) (by omega)
    simp only [vS]; rw [a, b]
theorem wks_c1 {g f : Int → Int} {n w t : Int} (h : ∀ j : Int, 0 ≤ j → j < n → g j = f j) (z : wks g n w t) : wks f n w t := by
  rcases z with z | ⟨z1, z2, z3, j, j0, j1, j2⟩ | ⟨z1, z2, j, j0, j1, j2, j3, j4⟩
  · exact Or.inl z
  · exact Or.inr (Or.inl ⟨z1, z2, z3, j, j0, j1, by rw [← h j j0 j1]; exact j2⟩)
  · refine Or.inr (Or.inr ⟨z1, z2, j, j0, j1, by rw [← h j j0 j1]; exact j2, ?_, ?_⟩)
    · rcases j3 with e | e
      · exact Or.inl e
      · by_cases q : j = 0
        · exact Or.inl q
        · exact Or.inr (by rw [← h (j - 1) (by omega) (by omega)]; exact e)
    · rcases j4 with e | e
      · exact Or.inl e
      · by_cases q : j = n - 1
        · exact Or.inl q
        · exact Or.inr (by rw [← h (j + 1) (by omega) (by omega)]; exact e)
theorem wks_congr {g f : Int → Int} {n w t : Int} (h : ∀ j : Int, 0 ≤ j → j < n → g j = f j) : wks g n w t ↔ wks f n w t := ⟨wks_c1 h, wks_c1 (fun j j0 j1 => (h j j0 j1).symm)⟩
theorem rlS_congr {V : Int} {W T W2 T2 : Int → Int} {wk wk2 : Int → Prop} : ∀ b : Nat, (∀ k : Int, 0 ≤ k → k < b → W k = W2 k ∧ T k = T2 k ∧ (wk k ↔ wk2 k)) → rlS V W T wk b = rlS V W2 T2 wk2 b
  | 0, _ => rfl
  | b + 1, h => by
    have a := rlS_congr (V := V) (W := W) (T := T) (W2 := W2) (T2 := T2) (wk := wk) (wk2 := wk2) b (fun k k0 k1 => h k k0 (by omega))
    obtain ⟨c1, c2, c3⟩ := h b (by omega) (by omega)
    simp only [rlS]
    rw [a, c1, c2, propext c3]
theorem CO_congr {V : Int} {W T C W2 T2 C2 : Int → Int} {wk wk2 : Int → Prop} {v : Int} : ∀ b : Nat, (∀ k : Int, 0 ≤ k → k < b → W k = W2 k ∧ T k = T2 k ∧ C k = C2 k ∧ (wk k ↔ wk2 k)) → CO V W T C wk v b = CO V W2 T2 C2 wk2 v b
  | 0, _ => rfl
  | b + 1, h => by
    have a := CO_congr (V := V) (W := W) (T := T) (C := C) (W2 := W2) (T2 := T2) (C2 := C2) (wk := wk) (wk2 := wk2) (v := v) b (fun k k0 k1 => h k k0 (by omega))
    obtain ⟨c1, c2, c3, c4⟩ := h b (by omega) (by omega)
    simp only [CO]
    rw [a, c1, c2, c3, propext c4]
/-- two lists with the same readings and own costs -/
def agR (N : Int) (rs : Int → Nat) (rv rc ow : Int → Int → Int) (rs2 : Int → Nat) (rv2 rc2 ow2 : Int → Int → Int) : Prop := (∀ i : Int, 0 ≤ i → i + 1 < N → rs i = rs2 i ∧ ∀ k : Int, 0 ≤ k → k < rs i → rv i k = rv2 i k ∧ rc i k = rc2 i k) ∧ ∀ i p : Int, 0 ≤ i → i < N → 0 ≤ p → p < 601 → ow i p = ow2 i p
theorem mnR_congr {U : Int} {rv rc nx rv2 rc2 nx2 : Int → Int} {p : Int} (p0 : 0 ≤ p) : ∀ n : Nat, (∀ k : Int, 0 ≤ k → k < n → rv k = rv2 k ∧ rc k = rc2 k ∧ 0 ≤ U * rv k) → (∀ x : Int, 0 ≤ x → x < 601 → nx x = nx2 x) → mnR U rv rc nx p n = mnR U rv2 rc2 nx2 p n
  | 0, _, _ => rfl
  | n + 1, h, hn => by
    have a := mnR_congr (U := U) (rv := rv) (rc := rc) (nx := nx) (rv2 := rv2) (rc2 := rc2) (nx2 := nx2) p0 n (fun k k0 k1 => h k k0 (by omega)) hn
    obtain ⟨b1, b2, b3⟩ := h n (by omega) (by omega)
    simp only [mnR]
    rw [a, ← b1, ← b2]
    by_cases q : p + U * rv n < 601
    · rw [if_pos q, if_pos q, hn _ (by omega) q]
    · rw [if_neg q, if_neg q]
theorem RSt_congr {N U : Int} {rs rs2 : Int → Nat} {rv rc ow rv2 rc2 ow2 : Int → Int → Int} (hd : rdy N U rs rv rc ow) (e : agR N rs rv rc ow rs2 rv2 rc2 ow2) : ∀ q : Nat, (q : Int) < N → ∀ p : Int, 0 ≤ p → p < 601 → RSt N U rs rv rc ow q p = RSt N U rs2 rv2 rc2 ow2 q p
  | 0, hq, p, p0, p1 => by
    simp only [RSt]; exact e.2 _ p (by omega) (by omega) p0 p1
  | q + 1, hq, p, p0, p1 => by
    have ih := RSt_congr hd e q (by omega)
    obtain ⟨a1, a2⟩ := e.1 (N - 2 - q) (by omega) (by omega)
    have o := e.2 (N - 2 - q) p (by omega) (by omega) p0 p1
    have kb := (hd.2.2.1 (N - 2 - q) (by omega) (by omega)).2.2
    simp only [RSt]
    rw [o, ← a1, mnR_congr p0 (rs (N - 2 - q)) (fun k k0 k1 => ⟨(a2 k k0 k1).1, (a2 k k0 k1).2, by have := kb k k0 k1; rcases hd.1 with u | u <;> rw [u] <;> omega⟩) ih]
theorem mnP_congr {f g : Int → Int} : ∀ n : Nat, (∀ p : Int, 0 ≤ p → p < n → f p = g p) → mnP f n = mnP g n
  | 0, _ => rfl
  | n + 1, h => by
    have a := mnP_congr (f := f) (g := g) n (fun p p0 p1 => h p p0 (by omega))
    have b := h n (by omega) (by omega)
    simp only [mnP]; rw [a, b]
theorem XC_congr {N U : Int} {rs rs2 : Int → Nat} {rv rc ow rv2 rc2 ow2 : Int → Int → Int} (hd : rdy N U rs rv rc ow) (e : agR N rs rv rc ow rs2 rv2 rc2 ow2) : ∀ q : Nat, (q : Int) < N → ∀ p c : Int, 0 ≤ p → p < 601 → XC N U rs rv rc ow q p c = XC N U rs2 rv2 rc2 ow2 q p c
  | 0, hq, p, c, p0, p1 => by
    simp only [XC]; rw [e.2 _ p (by omega) (by omega) p0 p1]
  | q + 1, hq, p, c, p0, p1 => by
    have ih := XC_congr hd e q (by omega)
    obtain ⟨a1, a2⟩ := e.1 (N - 2 - q) (by omega) (by omega)
    have o := e.2 (N - 2 - q) p (by omega) (by omega) p0 p1
    have kb := (hd.2.2.1 (N - 2 - q) (by omega) (by omega)).2.2
    simp only [XC]
    rw [← a1]
    refine sumK_congr _ (fun k k0 k1 => ?_)
    obtain ⟨b1, b2⟩ := a2 k k0 k1
    have ub : 0 ≤ U * rv (N - 2 - q) k := by have := kb k k0 k1; rcases hd.1 with u | u <;> rw [u] <;> omega
    rw [← b1, ← b2, ← o]
    by_cases z : p + U * rv (N - 2 - q) k < 601
    · rw [if_pos z, if_pos z, ih _ _ (by omega) z]
    · rw [if_neg z, if_neg z]
theorem tot_congr {R R2 : Int → Int} {X Y : Int → Int → Int} {lim : Int} (hR : ∀ p : Int, 0 ≤ p → p < 601 → R p = R2 p) (hX : ∀ p c : Int, 0 ≤ p → p < 601 → X p c = Y p c) : tot R X lim = tot R2 Y lim := by
  unfold tot
  refine sumK_congr _ (fun p p0 p1 => sumK_congr _ (fun a a0 a1 => ?_))
  rw [hR p p0 (by omega), hX p _ p0 (by omega)]
theorem agR_s {N : Int} {rs rs2 : Int → Nat} {rv rc ow rv2 rc2 ow2 : Int → Int → Int} (e : agR N rs rv rc ow rs2 rv2 rc2 ow2) : agR N rs2 rv2 rc2 ow2 rs rv rc ow := ⟨fun i i0 i1 => ⟨(e.1 i i0 i1).1.symm, fun k k0 k1 => by
  have := (e.1 i i0 i1).2 k k0 (by rw [(e.1 i i0 i1).1]; exact k1)
  exact ⟨this.1.symm, this.2.symm⟩⟩, fun i p i0 i1 p0 p1 => (e.2 i p i0 i1 p0 p1).symm⟩
theorem bfR_congr {N U : Int} {rs rs2 : Int → Nat} {rv rc ow rv2 rc2 ow2 W : Int → Int → Int} (e : agR N rs rv rc ow rs2 rv2 rc2 ow2) (hb : bfR N U rs rv rc ow W) : bfR N U rs2 rv2 rc2 ow2 W := by
  refine ⟨hb.1, fun s s0 s1 q q0 q1 => isMn_congr (hb.2 s s0 s1 q q0 q1) (fun c => ⟨?_, ?_⟩)⟩
  · rintro ⟨a, k, r0, r1, r2, r3, r4, r5⟩
    obtain ⟨a1, a2⟩ := e.1 s s0 s1
    obtain ⟨b1, b2⟩ := a2 k r2.1 r2.2
    exact ⟨a, k, r0, r1, by rw [← a1]; exact r2, r3, by rw [← b1]; exact r4, by show c = W s a + ow2 s a + rc2 s k; rw [← b2, ← e.2 s a s0 (by omega) r1.1 r1.2]; exact r5⟩
  · rintro ⟨a, k, r0, r1, r2, r3, r4, r5⟩
    obtain ⟨a1, a2⟩ := e.1 s s0 s1
    rw [← a1] at r2
    obtain ⟨b1, b2⟩ := a2 k r2.1 r2.2
    exact ⟨a, k, r0, r1, r2, r3, by rw [b1]; exact r4, by show c = W s a + ow s a + rc s k; rw [b2, e.2 s a s0 (by omega) r1.1 r1.2]; exact r5⟩
theorem bRow_rg {N U : Int} {rs : Int → Nat} {rv rc ow : Int → Int → Int} {R : Nat → Int → Int} {row : Int → Int} (hd : rdy N U rs rv rc ow) (hb : bRow N U rs rv rc ow R row) : ∀ i : Nat, (i : Int) < N → 0 ≤ row i ∧ row i < 601
  | 0, _ => ⟨hb.1.1, hb.1.2.1⟩
  | i + 1, hi => by
    have ih := bRow_rg hd hb i (by omega)
    obtain ⟨⟨k, k0, k1, k2, k3⟩, -⟩ := hb.2 i (by omega) (by omega)
    have kb := (hd.2.2.1 i (by omega) (by omega)).2.2 k k0 k1
    have ub : 0 ≤ U * rv i k := by rcases hd.1 with u | u <;> rw [u] <;> omega
    have := k2.1
    rw [show ((i + 1 : Nat) : Int) = (i : Int) + 1 by omega, k3]
    omega
theorem bRow_congr {N U : Int} {rs rs2 : Int → Nat} {rv rc ow rv2 rc2 ow2 : Int → Int → Int} {row : Int → Int} (hd : rdy N U rs rv rc ow) (e : agR N rs rv rc ow rs2 rv2 rc2 ow2) (hb : bRow N U rs rv rc ow (RSt N U rs rv rc ow) row) : bRow N U rs2 rv2 rc2 ow2 (RSt N U rs2 rv2 rc2 ow2) row := by
  have N2 := hd.2.1
  have rg := bRow_rg hd hb
  have rc1 := RSt_congr hd e
  have f0 := rc1 (N - 1).toNat (by omega)
  have mp : mnP (RSt N U rs rv rc ow (N - 1).toNat) 601 = mnP (RSt N U rs2 rv2 rc2 ow2 (N - 1).toNat) 601 := mnP_congr _ (fun p p0 p1 => f0 p p0 (by omega))
  refine ⟨⟨hb.1.1, hb.1.2.1, ?_, fun x x0 x1 => ?_⟩, fun i i0 i1 => ?_⟩
  · rw [← f0 _ hb.1.1 hb.1.2.1, ← mp]; exact hb.1.2.2.1
  · rw [← f0 x x0 (by have := hb.1.2.1; omega), ← mp]; exact hb.1.2.2.2 x x0 x1
  · obtain ⟨⟨k, k0, k1, k2, k3⟩, hl⟩ := hb.2 i i0 i1
    obtain ⟨a1, a2⟩ := e.1 i i0 i1
    have ri := rg i.toNat (by omega)
    rw [show ((i.toNat : Nat) : Int) = i by omega] at ri
    have o := e.2 i (row i) i0 (by omega) ri.1 ri.2
    have kb := (hd.2.2.1 i i0 i1).2.2
    have gd : ∀ k : Int, 0 ≤ k → k < rs i → (gdK U (rv i) (rc i) (RSt N U rs rv rc ow (N - 2 - i).toNat) (RSt N U rs rv rc ow (N - 1 - i).toNat (row i) - ow i (row i)) (row i) k ↔ gdK U (rv2 i) (rc2 i) (RSt N U rs2 rv2 rc2 ow2 (N - 2 - i).toNat) (RSt N U rs2 rv2 rc2 ow2 (N - 1 - i).toNat (row i) - ow2 i (row i)) (row i) k) := fun k k0 k1 => by
      obtain ⟨b1, b2⟩ := a2 k k0 k1
      have ub : 0 ≤ U * rv i k := by have := kb k k0 k1; rcases hd.1 with u | u <;> rw [u] <;> omega
      unfold gdK
      rw [← b1, ← b2, ← o, rc1 (N - 1 - i).toNat (by omega) (row i) ri.1 ri.2]
      constructor
      · rintro ⟨z1, z2⟩
        exact ⟨z1, by rw [← rc1 (N - 2 - i).toNat (by omega) _ (by omega) z1]; exact z2⟩
      · rintro ⟨z1, z2⟩
        exact ⟨z1, by rw [rc1 (N - 2 - i).toNat (by omega) _ (by omega) z1]; exact z2⟩
    refine ⟨⟨k, k0, by rw [← a1]; exact k1, (gd k k0 k1).mp k2, by rw [← (a2 k k0 k1).1]; exact k3⟩, fun k' q0 q1 q2 => ?_⟩
    rw [← a1] at q1
    rw [← (a2 k' q0 q1).1]
    exact hl k' q0 q1 ((gd k' q0 q1).mpr q2)
