theorem sumK_app {f : Int → Int} {m : Nat} : ∀ n : Nat, sumK f (m + n) = sumK f m + sumK (fun a => f (m + a)) n
  | 0 => by simp only [sumK, Nat.add_zero]; omega
  | n + 1 => by
    have := sumK_app (f := f) (m := m) n
    rw [show m + (n + 1) = (m + n) + 1 by omega, sumK_s, this, sumK_s, show ((m + n : Nat) : Int) = (m : Int) + n by omega]; omega
theorem sumK_flat {f : Int → Int} : ∀ n : Nat, sumK f (21 * n) = sumK (fun p => sumK (fun a => f (p * 21 + a)) 21) n
  | 0 => rfl
  | n + 1 => by
    have a := sumK_flat (f := f) n
    have b := sumK_app (f := f) (m := 21 * n) 21
    rw [show 21 * (n + 1) = 21 * n + 21 by omega, b, a, sumK_s (k := n)]
    congr 1
    refine sumK_congr 21 (fun k _ _ => ?_)
    rw [show ((21 * n : Nat) : Int) + k = (n : Int) * 21 + k by omega]
theorem sumK_one {f : Int → Int} {c : Int} (c0 : 0 ≤ c) : ∀ n : Nat, c < n → (∀ k : Int, 0 ≤ k → k < n → k ≠ c → f k = 0) → sumK f n = f c
  | 0, h, _ => by omega
  | n + 1, h, hz => by
    simp only [sumK]
    by_cases e : c = n
    · subst e
      rw [sumK_z n (fun k k0 k1 => hz k k0 (by omega) (by omega))]; omega
    · rw [sumK_one c0 n (by omega) (fun k k0 k1 => hz k k0 (by omega)), hz n (by omega) (by omega) (by omega)]; omega
/-- the weight of what stands at i: places from j on are at station s + 1, those before at s -/
def wtF (N U : Int) (rs : Int → Nat) (rv rc ow : Int → Int → Int) (D s j i : Int) : Int := if j ≤ i / 21 then CC N U rs rv rc ow (N - 2 - s).toNat (i / 21) (RSt N U rs rv rc ow (N - 2 - s).toNat (i / 21) + D - i % 21) else CC N U rs rv rc ow (N - 1 - s).toNat (i / 21) (RSt N U rs rv rc ow (N - 1 - s).toNat (i / 21) + D - i % 21)
theorem wtF_nn {N U : Int} {rs : Int → Nat} {rv rc ow : Int → Int → Int} {D s j i : Int} : 0 ≤ wtF N U rs rv rc ow D s j i := by
  unfold wtF; split
  · exact CC_0 _ _ _
  · exact CC_0 _ _ _
theorem mvF_sum {w t : Int → Int} {p q e : Int} {M : Nat} (q0 : 0 ≤ q) (e0 : 0 ≤ e) : ∀ n : Nat, (n = 0 ∨ q * 21 + n + e ≤ M) → sumK (fun i => mvF w p q e n i * t i) M = sumK (fun i => w i * t i) M + sumK (fun a => w (p * 21 + a) * t (q * 21 + a + e)) n
  | 0, _ => by simp only [mvF, sumK]; omega
  | n + 1, h => by
    have a := mvF_sum (w := w) (t := t) (p := p) (M := M) q0 e0 n (by omega)
    have b := sumK_up (w := mvF w p q e n) (t := t) (k := q * 21 + n + e) (v := mvF w p q e n (q * 21 + n + e) + w (p * 21 + n)) (by omega) M (by omega)
    simp only [mvF]
    rw [b, a, sumK_s (k := n), show mvF w p q e n (q * 21 + n + e) + w (p * 21 + n) - mvF w p q e n (q * 21 + n + e) = w (p * 21 + n) by omega]; omega
theorem mvF_sup {w : Int → Int} {p q e i : Int} : ∀ n : Nat, mvF w p q e n i ≠ 0 → w i ≠ 0 ∨ ∃ a : Int, 0 ≤ a ∧ a < n ∧ i = q * 21 + a + e
  | 0, h => Or.inl h
  | n + 1, h => by
    simp only [mvF] at h
    by_cases ei : i = q * 21 + n + e
    · exact Or.inr ⟨n, by omega, by omega, ei⟩
    · rw [up_n _ _ ei] at h
      rcases mvF_sup n h with z | ⟨a, a0, a1, a2⟩
      · exact Or.inl z
      · exact Or.inr ⟨a, a0, by omega, a2⟩
def stW (w : Int → Int) (p D : Int) (qk ek : Int → Int) : Nat → Int → Int
  | 0 => w
  | k + 1 => if qk k < 601 then mvF (stW w p D qk ek k) p (qk k) (ek k) (D - ek k + 1).toNat else stW w p D qk ek k
theorem stW_nn {w : Int → Int} {p D : Int} {qk ek : Int → Int} (hw : ∀ i, 0 ≤ w i) : ∀ (n : Nat) (i : Int), 0 ≤ stW w p D qk ek n i
  | 0, i => hw i
  | n + 1, i => by
    simp only [stW]
    split
    · exact mvF_nn (stW_nn hw n) _ i
    · exact stW_nn hw n i
theorem stW_p {w : Int → Int} {p D : Int} {qk ek : Int → Int} {i : Int} (hi : i < p * 21 + 21) : ∀ n : Nat, (∀ k : Int, 0 ≤ k → k < n → p < qk k ∧ (qk k < 601 → 0 ≤ ek k)) → stW w p D qk ek n i = w i
  | 0, _ => rfl
  | n + 1, h => by
    have ih := stW_p (w := w) (D := D) hi n (fun k k0 k1 => h k k0 (by omega))
    have b := h n (by omega) (by omega)
    simp only [stW]
    split
    · rename_i z
      rw [mvF_o (b.2 z) _ (by omega)]; exact ih
    · exact ih
theorem stW_sup {w : Int → Int} {p D : Int} {qk ek : Int → Int} {i : Int} : ∀ n : Nat, stW w p D qk ek n i ≠ 0 → w i ≠ 0 ∨ ∃ k a : Int, (0 ≤ k ∧ k < n) ∧ qk k < 601 ∧ 0 ≤ a ∧ a + ek k ≤ D ∧ i = qk k * 21 + a + ek k
  | 0, h => Or.inl h
  | n + 1, h => by
    simp only [stW] at h
    split at h
    · rename_i z
      rcases mvF_sup _ h with y | ⟨a, a0, a1, a2⟩
      · rcases stW_sup n y with y | ⟨k, a, k0, k1, k2⟩
        · exact Or.inl y
        · exact Or.inr ⟨k, a, ⟨k0.1, by omega⟩, k1, k2⟩
      · exact Or.inr ⟨n, a, ⟨by omega, by omega⟩, z, a0, by omega, a2⟩
    · rcases stW_sup n h with y | ⟨k, a, k0, k1, k2⟩
      · exact Or.inl y
      · exact Or.inr ⟨k, a, ⟨k0.1, by omega⟩, k1, k2⟩
def clW (w : Int → Int) (p n i : Int) : Int := if p * 21 ≤ i ∧ i < p * 21 + n then 0 else w i
theorem clW_sum {w t : Int → Int} {p : Int} {M : Nat} (p0 : 0 ≤ p) : ∀ n : Nat, p * 21 + n ≤ M → sumK (fun i => clW w p n i * t i) M = sumK (fun i => w i * t i) M - sumK (fun a => w (p * 21 + a) * t (p * 21 + a)) n
  | 0, _ => by
    rw [sumK_congr (f := fun i => clW w p ((0 : Nat) : Int) i * t i) (g := fun i => w i * t i) M (fun k _ _ => by unfold clW; rw [if_neg (by omega)])]
    simp only [sumK]; omega
  | n + 1, h => by
    have a := clW_sum (w := w) (t := t) (M := M) p0 n (by omega)
    have e : ∀ i, clW w p ((n + 1 : Nat) : Int) i = up (clW w p n) (p * 21 + n) 0 i := fun i => by
      by_cases ei : i = p * 21 + n
      · rw [ei, up_s]; unfold clW; rw [if_pos (by omega)]
      · rw [up_n _ _ ei]
        unfold clW
        by_cases z : p * 21 ≤ i ∧ i < p * 21 + n
        · rw [if_pos z, if_pos (by omega)]
        · rw [if_neg z, if_neg (by omega)]
    have b := sumK_up (w := clW w p n) (t := t) (k := p * 21 + n) (v := 0) (by omega) M (by omega)
    rw [sumK_congr (f := fun i => clW w p ((n + 1 : Nat) : Int) i * t i) (g := fun i => up (clW w p n) (p * 21 + n) 0 i * t i) M (fun k _ _ => by rw [e]), b, a, sumK_s (k := n)]
    have c : clW w p n (p * 21 + n) = w (p * 21 + n) := by unfold clW; rw [if_neg (by omega)]
    rw [c, Int.sub_mul]; omega
/-- one place's step keeps the whole weight -/
theorem ways_step {N U : Int} {rs : Int → Nat} {rv rc ow : Int → Int → Int} (hd : rdy N U rs rv rc ow) {D s : Int} (D0 : 0 ≤ D) (D1 : D ≤ 20) (s0 : 0 ≤ s) (s1 : s + 1 < N) {p : Nat} (p1 : p < 601) {w : Int → Int} {M : Nat} (hM : M = 12621) (qk ek : Int → Int) (hq : ∀ k, qk k = p + U * rv s k) (he : ∀ k, ek k = ow s p + rc s k + RSt N U rs rv rc ow (N - 2 - s).toNat (qk k) - RSt N U rs rv rc ow (N - 1 - s).toNat p) (he0 : ∀ k : Int, 0 ≤ k → k < rs s → p < qk k ∧ (qk k < 601 → 0 ≤ ek k)) : sumK (fun i => clW (stW w p D qk ek (rs s)) p 21 i * wtF N U rs rv rc ow D s p i) M = sumK (fun i => w i * wtF N U rs rv rc ow D s (p + 1) i) M := by
  obtain ⟨t, ht⟩ : ∃ t : Int → Int, t = wtF N U rs rv rc ow D s (p + 1) := ⟨_, rfl⟩
  have e1 : sumK (fun i => clW (stW w p D qk ek (rs s)) p 21 i * wtF N U rs rv rc ow D s p i) M = sumK (fun i => clW (stW w p D qk ek (rs s)) p 21 i * t i) M := by
    refine sumK_congr _ (fun i i0 i1 => ?_)
    by_cases z : (p : Int) * 21 ≤ i ∧ i < (p : Int) * 21 + 21
    · have : clW (stW w p D qk ek (rs s)) p 21 i = 0 := by unfold clW; rw [if_pos z]
      rw [this, Int.zero_mul, Int.zero_mul]
    · have : wtF N U rs rv rc ow D s p i = t i := by
        rw [ht]
        unfold wtF
        by_cases y : (p : Int) ≤ i / 21
        · rw [if_pos y, if_pos (by omega)]
        · rw [if_neg y, if_neg (by omega)]
      rw [this]
  have e2 : sumK (fun i => clW (stW w p D qk ek (rs s)) p 21 i * t i) M = sumK (fun i => stW w p D qk ek (rs s) i * t i) M - sumK (fun a => stW w p D qk ek (rs s) (p * 21 + a) * t (p * 21 + a)) 21 := clW_sum (w := stW w p D qk ek (rs s)) (t := t) (p := p) (M := M) (by omega) 21 (by omega)
  have e3 : sumK (fun a => stW w p D qk ek (rs s) (p * 21 + a) * t (p * 21 + a)) 21 = sumK (fun a => w (p * 21 + a) * t (p * 21 + a)) 21 := sumK_congr _ (fun a a0 a1 => by rw [stW_p (by omega) (rs s) he0])
  have e4 : ∀ n : Nat, n ≤ rs s → sumK (fun i => stW w p D qk ek n i * t i) M = sumK (fun i => w i * t i) M + sumK (fun a => w (p * 21 + a) * sumK (fun k => if p + U * rv s k < 601 then CC N U rs rv rc ow (N - 2 - s).toNat (p + U * rv s k) (RSt N U rs rv rc ow (N - 1 - s).toNat p + D - a - ow s p - rc s k) else 0) n) 21 := by
    intro n
    induction n with
    | zero =>
      intro _
      rw [sumK_z (f := fun a => w (p * 21 + a) * sumK (fun k => if p + U * rv s k < 601 then CC N U rs rv rc ow (N - 2 - s).toNat (p + U * rv s k) (RSt N U rs rv rc ow (N - 1 - s).toNat p + D - a - ow s p - rc s k) else 0) 0) 21 (fun k _ _ => by simp only [sumK]; exact Int.mul_zero _)]
      simp only [stW]; omega
    | succ n ih =>
      intro hn
      have ihn := ih (by omega)
      have hb := he0 n (by omega) (by omega)
      have split21 : sumK (fun a => w (p * 21 + a) * sumK (fun k => if p + U * rv s k < 601 then CC N U rs rv rc ow (N - 2 - s).toNat (p + U * rv s k) (RSt N U rs rv rc ow (N - 1 - s).toNat p + D - a - ow s p - rc s k) else 0) (n + 1)) 21 = sumK (fun a => w (p * 21 + a) * sumK (fun k => if p + U * rv s k < 601 then CC N U rs rv rc ow (N - 2 - s).toNat (p + U * rv s k) (RSt N U rs rv rc ow (N - 1 - s).toNat p + D - a - ow s p - rc s k) else 0) n) 21 + sumK (fun a => w (p * 21 + a) * (if p + U * rv s n < 601 then CC N U rs rv rc ow (N - 2 - s).toNat (p + U * rv s n) (RSt N U rs rv rc ow (N - 1 - s).toNat p + D - a - ow s p - rc s n) else 0)) 21 := by
        rw [← sumK_add]
        refine sumK_congr _ (fun a _ _ => ?_)
        rw [sumK_s (k := n), Int.mul_add]
      rw [split21]
      simp only [stW]
      by_cases z : qk n < 601
      · rw [if_pos z]
        have z' : (p : Int) + U * rv s n < 601 := by rw [← hq]; exact z
        have ms := mvF_sum (w := stW w p D qk ek n) (t := t) (p := p) (q := qk n) (e := ek n) (M := M) (by omega) (hb.2 z) (D - ek n + 1).toNat (by have := hb.2 z; omega)
        rw [ms, ihn]
        have last : sumK (fun a => stW w p D qk ek n (p * 21 + a) * t (qk n * 21 + a + ek n)) (D - ek n + 1).toNat = sumK (fun a => w (p * 21 + a) * (if p + U * rv s n < 601 then CC N U rs rv rc ow (N - 2 - s).toNat (p + U * rv s n) (RSt N U rs rv rc ow (N - 1 - s).toNat p + D - a - ow s p - rc s n) else 0)) 21 := by
          have en := hb.2 z
          have hen := he n
          rw [sumK_cut (f := fun a => w (p * 21 + a) * (if p + U * rv s n < 601 then CC N U rs rv rc ow (N - 2 - s).toNat (p + U * rv s n) (RSt N U rs rv rc ow (N - 1 - s).toNat p + D - a - ow s p - rc s n) else 0)) (n := (D - ek n + 1).toNat) 21 (by omega) (fun a a0 a1 => by
            rw [if_pos z', CC_ge hd (N - 2 - s).toNat (by omega) _ _ (by rw [← hq]; omega) z' (by rw [← hq]; omega), Int.mul_zero])]
          refine sumK_congr _ (fun a a0 a1 => ?_)
          rw [if_pos z', stW_p (by omega) n (fun k k0 k1 => he0 k k0 (by omega)), ht]
          unfold wtF
          rw [show (qk n * 21 + a + ek n) / 21 = qk n by omega, show (qk n * 21 + a + ek n) % 21 = a + ek n by omega, if_pos (by omega), ← hq]
          rw [show RSt N U rs rv rc ow (N - 2 - s).toNat (qk n) + D - (a + ek n) = RSt N U rs rv rc ow (N - 1 - s).toNat p + D - a - ow s p - rc s n by omega]
        rw [last]; omega
      · rw [if_neg z]
        have z' : ¬ (p : Int) + U * rv s n < 601 := by rw [← hq]; exact z
        rw [ihn, sumK_z (f := fun a => w (p * 21 + a) * (if p + U * rv s n < 601 then CC N U rs rv rc ow (N - 2 - s).toNat (p + U * rv s n) (RSt N U rs rv rc ow (N - 1 - s).toNat p + D - a - ow s p - rc s n) else 0)) 21 (fun a _ _ => by rw [if_neg z', Int.mul_zero])]
        omega
  have e5 : sumK (fun a => w (p * 21 + a) * sumK (fun k => if p + U * rv s k < 601 then CC N U rs rv rc ow (N - 2 - s).toNat (p + U * rv s k) (RSt N U rs rv rc ow (N - 1 - s).toNat p + D - a - ow s p - rc s k) else 0) (rs s)) 21 = sumK (fun a => w (p * 21 + a) * t (p * 21 + a)) 21 := by
    refine sumK_congr _ (fun a a0 a1 => ?_)
    rw [← CC_step s0 s1, ht]
    unfold wtF
    rw [show ((p : Int) * 21 + a) / 21 = p by omega, show ((p : Int) * 21 + a) % 21 = a by omega, if_neg (by omega)]
  have e4' := e4 (rs s) (by omega)
  rw [e1, e2, e3, e4', e5, ht]
  omega
