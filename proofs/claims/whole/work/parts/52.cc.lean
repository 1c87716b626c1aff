/-! ===== counting forwards ===== -/
theorem sumK_add {f g : Int → Int} : ∀ n : Nat, sumK (fun a => f a + g a) n = sumK f n + sumK g n
  | 0 => by simp only [sumK]; omega
  | n + 1 => by
    have := sumK_add (f := f) (g := g) n
    simp only [sumK]; omega
theorem sumK_z {f : Int → Int} : ∀ n : Nat, (∀ k : Int, 0 ≤ k → k < n → f k = 0) → sumK f n = 0
  | 0, _ => rfl
  | n + 1, h => by
    have a := sumK_z (f := f) n (fun k k0 k1 => h k k0 (by omega))
    have b := h n (by omega) (by omega)
    simp only [sumK]; omega
theorem sumK_ge1 {f : Int → Int} : ∀ n : Nat, (∀ k : Int, 0 ≤ k → k < n → 0 ≤ f k) → ∀ k : Int, 0 ≤ k → k < n → f k ≤ sumK f n
  | 0, _, k, k0, k1 => by omega
  | n + 1, h, k, k0, k1 => by
    have a := sumK_0 (f := f) n (fun k k0 k1 => h k k0 (by omega))
    have b := h n (by omega) (by omega)
    simp only [sumK]
    by_cases e : k = n
    · subst e; omega
    · have := sumK_ge1 (f := f) n (fun k k0 k1 => h k k0 (by omega)) k k0 (by omega); omega
theorem sumK_cut {f : Int → Int} {n : Nat} : ∀ m : Nat, n ≤ m → (∀ k : Int, n ≤ k → k < m → f k = 0) → sumK f m = sumK f n
  | 0, h, _ => by rw [show n = 0 by omega]
  | m + 1, h, hz => by
    by_cases e : n = m + 1
    · rw [e]
    · have a := sumK_cut (f := f) (n := n) m (by omega) (fun k k0 k1 => hz k k0 (by omega))
      have b := hz m (by omega) (by omega)
      simp only [sumK]; omega
theorem sumK_up {w t : Int → Int} {k v : Int} (k0 : 0 ≤ k) : ∀ n : Nat, k < n → sumK (fun i => up w k v i * t i) n = sumK (fun i => w i * t i) n + (v - w k) * t k
  | 0, h => by omega
  | n + 1, h => by
    simp only [sumK]
    by_cases e : k = n
    · subst e
      have a := sumK_congr (f := fun i => up w (n : Int) v i * t i) (g := fun i => w i * t i) n (fun i i0 i1 => by rw [up_n _ _ (by omega)])
      rw [a, up_s, Int.sub_mul]; omega
    · have a := sumK_up (w := w) (t := t) (k := k) (v := v) k0 n (by omega)
      rw [a, up_n _ _ (by omega)]; omega
/-- how many ways on cost at most c, with q stations behind -/
def CC (N U : Int) (rs : Int → Nat) (rv rc ow : Int → Int → Int) : Nat → Int → Int → Int
  | 0 => fun p c => if ow (N - 1) p ≤ c then 1 else 0
  | q + 1 => fun p c => sumK (fun k => if p + U * rv (N - 2 - q) k < 601 then CC N U rs rv rc ow q (p + U * rv (N - 2 - q) k) (c - ow (N - 2 - q) p - rc (N - 2 - q) k) else 0) (rs (N - 2 - q))
theorem CC_0 {N U : Int} {rs : Int → Nat} {rv rc ow : Int → Int → Int} : ∀ (q : Nat) (p c : Int), 0 ≤ CC N U rs rv rc ow q p c
  | 0, p, c => by simp only [CC]; split <;> omega
  | q + 1, p, c => by
    simp only [CC]
    refine sumK_0 _ (fun k _ _ => ?_)
    split
    · exact CC_0 q _ _
    · omega
theorem CC_d {N U : Int} {rs : Int → Nat} {rv rc ow : Int → Int → Int} : ∀ (q : Nat) (p c : Int), CC N U rs rv rc ow q p c = CC N U rs rv rc ow q p (c - 1) + XC N U rs rv rc ow q p c
  | 0, p, c => by simp only [CC, XC]; split <;> split <;> split <;> omega
  | q + 1, p, c => by
    simp only [CC, XC]
    rw [← sumK_add]
    refine sumK_congr _ (fun k _ _ => ?_)
    split
    · rw [CC_d q, show c - ow (N - 2 - q) p - rc (N - 2 - q) k - 1 = c - 1 - ow (N - 2 - q) p - rc (N - 2 - q) k by omega]
    · omega
theorem CC_ge {N U : Int} {rs : Int → Nat} {rv rc ow : Int → Int → Int} (hd : rdy N U rs rv rc ow) : ∀ (q : Nat), (q : Int) < N → ∀ p c : Int, 0 ≤ p → p < 601 → c < RSt N U rs rv rc ow q p → CC N U rs rv rc ow q p c = 0
  | 0, hq, p, c, p0, p1, h => by
    simp only [RSt] at h
    simp only [CC]
    rw [if_neg (by omega)]
  | q + 1, hq, p, c, p0, p1, h => by
    have ih := CC_ge hd q (by omega)
    have ob := hd.2.2.2 (N - 2 - q) p (by omega) (by omega) p0 p1
    simp only [CC]
    refine sumK_z _ (fun k k0 k1 => ?_)
    by_cases e2 : p + U * rv (N - 2 - q) k < 601
    · rw [if_pos e2]
      have kb := (hd.2.2.1 (N - 2 - q) (by omega) (by omega)).2.2 k k0 k1
      have ub : 2 ≤ U * rv (N - 2 - q) k := by
        rcases hd.1 with u | u <;> rw [u] <;> omega
      have l := mnR_le (U := U) (rv := rv (N - 2 - q)) (rc := rc (N - 2 - q)) (nx := RSt N U rs rv rc ow q) (p := p) (rs (N - 2 - q)) k k0 k1 e2
      refine ih _ _ (by omega) e2 ?_
      simp only [RSt, capA] at h
      split at h <;> omega
    · rw [if_neg e2]
theorem CC_sum {N U : Int} {rs : Int → Nat} {rv rc ow : Int → Int → Int} (hd : rdy N U rs rv rc ow) {q : Nat} (hq : (q : Int) < N) {p : Int} (p0 : 0 ≤ p) (p1 : p < 601) : ∀ n : Nat, sumK (fun a => XC N U rs rv rc ow q p (RSt N U rs rv rc ow q p + a)) n = CC N U rs rv rc ow q p (RSt N U rs rv rc ow q p + n - 1)
  | 0 => by
    rw [CC_ge hd q hq p _ p0 p1 (by omega)]; rfl
  | n + 1 => by
    have a := CC_sum hd hq p0 p1 n
    have b := CC_d (N := N) (U := U) (rs := rs) (rv := rv) (rc := rc) (ow := ow) q p (RSt N U rs rv rc ow q p + n)
    simp only [sumK]
    rw [a, show RSt N U rs rv rc ow q p + ((n + 1 : Nat) : Int) - 1 = RSt N U rs rv rc ow q p + n by omega, b]
theorem XC_1 {N U : Int} {rs : Int → Nat} {rv rc ow : Int → Int → Int} (hd : rdy N U rs rv rc ow) : ∀ (q : Nat), (q : Int) < N → ∀ p : Int, 0 ≤ p → p < 601 → RSt N U rs rv rc ow q p < 1000000 → 1 ≤ XC N U rs rv rc ow q p (RSt N U rs rv rc ow q p)
  | 0, hq, p, p0, p1, h => by
    have := XC_last (N := N) (U := U) (rs := rs) (rv := rv) (rc := rc) (ow := ow) (p := p) (a := 0)
    rw [Int.add_zero, if_pos rfl] at this
    omega
  | q + 1, hq, p, p0, p1, h => by
    have ih := XC_1 hd q (by omega)
    obtain ⟨k, k0, k1, k2, k3⟩ := RSt_att hd (s := N - 2 - q) (by omega) (by omega) p0 p1 (by rw [show (N - 1 - (N - 2 - q)).toNat = q + 1 by omega]; exact h)
    rw [show (N - 1 - (N - 2 - q)).toNat = q + 1 by omega, show (N - 2 - (N - 2 - (q : Int))).toNat = q by omega] at k3
    have kb := (hd.2.2.1 (N - 2 - q) (by omega) (by omega)).2.2 k k0 k1
    have ob := hd.2.2.2 (N - 2 - q) p (by omega) (by omega) p0 p1
    have ub : 2 ≤ U * rv (N - 2 - q) k := by
      rcases hd.1 with u | u <;> rw [u] <;> omega
    have i1 := ih (p + U * rv (N - 2 - q) k) (by omega) k2 (by omega)
    have ge := sumK_ge1 (f := fun k => if p + U * rv (N - 2 - q) k < 601 then XC N U rs rv rc ow q (p + U * rv (N - 2 - q) k) (RSt N U rs rv rc ow (q + 1) p - ow (N - 2 - q) p - rc (N - 2 - q) k) else 0) (rs (N - 2 - q)) (fun k _ _ => by
      split
      · exact XC_0 _ _ _
      · omega) k k0 k1
    rw [if_pos k2, show RSt N U rs rv rc ow (q + 1) p - ow (N - 2 - q) p - rc (N - 2 - q) k = RSt N U rs rv rc ow q (p + U * rv (N - 2 - q) k) by omega] at ge
    show 1 ≤ sumK (fun k => if p + U * rv (N - 2 - q) k < 601 then XC N U rs rv rc ow q (p + U * rv (N - 2 - q) k) (RSt N U rs rv rc ow (q + 1) p - ow (N - 2 - q) p - rc (N - 2 - q) k) else 0) (rs (N - 2 - q))
    omega
theorem CC_1 {N U : Int} {rs : Int → Nat} {rv rc ow : Int → Int → Int} (hd : rdy N U rs rv rc ow) {q : Nat} (hq : (q : Int) < N) {p : Int} (p0 : 0 ≤ p) (p1 : p < 601) (fin : RSt N U rs rv rc ow q p < 1000000) {c : Int} (hc : RSt N U rs rv rc ow q p ≤ c) : 1 ≤ CC N U rs rv rc ow q p c := by
  have s := CC_sum hd hq p0 p1 (c - RSt N U rs rv rc ow q p + 1).toNat
  have x := XC_1 hd q hq p p0 p1 fin
  have ge := sumK_ge1 (f := fun a => XC N U rs rv rc ow q p (RSt N U rs rv rc ow q p + a)) (c - RSt N U rs rv rc ow q p + 1).toNat (fun k _ _ => XC_0 _ _ _) 0 (by omega) (by omega)
  simp only [Int.add_zero] at ge
  rw [s, show RSt N U rs rv rc ow q p + ((c - RSt N U rs rv rc ow q p + 1).toNat : Int) - 1 = c by omega] at ge
  omega
theorem sumK_le {f : Int → Int} {B : Int} : ∀ n : Nat, (∀ k : Int, 0 ≤ k → k < n → f k ≤ B) → sumK f n ≤ n * B
  | 0, _ => by simp [sumK]
  | n + 1, h => by
    have a := sumK_le (f := f) (B := B) n (fun k k0 k1 => h k k0 (by omega))
    have b := h n (by omega) (by omega)
    simp only [sumK]
    rw [show ((n + 1 : Nat) : Int) = (n : Int) + 1 by omega, Int.add_mul]; omega
theorem CC_le {N U : Int} {rs : Int → Nat} {rv rc ow : Int → Int → Int} (hd : rdy N U rs rv rc ow) : ∀ (q : Nat), (q : Int) < N → ∀ p c : Int, CC N U rs rv rc ow q p c ≤ 21 ^ q
  | 0, _, p, c => by simp only [CC]; split <;> simp
  | q + 1, hq, p, c => by
    have ih := CC_le hd q (by omega)
    have r21 := (hd.2.2.1 (N - 2 - q) (by omega) (by omega)).2.1
    have p21 : (0 : Int) < 21 ^ q := Int.pow_pos (by decide)
    have a := sumK_le (f := fun k => if p + U * rv (N - 2 - q) k < 601 then CC N U rs rv rc ow q (p + U * rv (N - 2 - q) k) (c - ow (N - 2 - q) p - rc (N - 2 - q) k) else 0) (B := 21 ^ q) (rs (N - 2 - q)) (fun k _ _ => by
      split
      · exact ih _ _
      · omega)
    simp only [CC]
    have b : ((rs (N - 2 - q) : Int)) * 21 ^ q ≤ 21 * 21 ^ q := Int.mul_le_mul_of_nonneg_right (by omega) (by omega)
    rw [Int.pow_succ, Int.mul_comm (21 ^ q) 21]
    omega
theorem p21 {q : Nat} (h : q ≤ 9) : (21 : Int) ^ q ≤ 794280046581 := by
  rcases (show q = 0 ∨ q = 1 ∨ q = 2 ∨ q = 3 ∨ q = 4 ∨ q = 5 ∨ q = 6 ∨ q = 7 ∨ q = 8 ∨ q = 9 by omega) with rfl | rfl | rfl | rfl | rfl | rfl | rfl | rfl | rfl | rfl <;> decide
theorem CC_step {N U : Int} {rs : Int → Nat} {rv rc ow : Int → Int → Int} {s : Int} (s0 : 0 ≤ s) (s1 : s + 1 < N) (p c : Int) : CC N U rs rv rc ow (N - 1 - s).toNat p c = sumK (fun k => if p + U * rv s k < 601 then CC N U rs rv rc ow (N - 2 - s).toNat (p + U * rv s k) (c - ow s p - rc s k) else 0) (rs s) := by
  rw [show (N - 1 - s).toNat = (N - 2 - s).toNat + 1 by omega]
  simp only [CC]
  rw [show N - 2 - ((N - 2 - s).toNat : Int) = s by omega]
def mvF (w : Int → Int) (p q e : Int) : Nat → Int → Int
  | 0 => w
  | a + 1 => up (mvF w p q e a) (q * 21 + a + e) (mvF w p q e a (q * 21 + a + e) + w (p * 21 + a))
theorem mvF_o {w : Int → Int} {p q e i : Int} (e0 : 0 ≤ e) : ∀ n : Nat, (i < q * 21 ∨ q * 21 + n + e ≤ i) → mvF w p q e n i = w i
  | 0, _ => rfl
  | n + 1, h => by
    have := mvF_o (w := w) (p := p) (q := q) (e := e) (i := i) e0 n (by omega)
    simp only [mvF]
    rw [up_n _ _ (by omega)]; exact this
theorem mvF_nn {w : Int → Int} {p q e : Int} (hw : ∀ i, 0 ≤ w i) : ∀ (n : Nat) (i : Int), 0 ≤ mvF w p q e n i
  | 0, i => hw i
  | n + 1, i => by
    simp only [mvF]
    by_cases ei : i = q * 21 + n + e
    · rw [ei, up_s]
      have := mvF_nn (w := w) (p := p) (q := q) (e := e) hw n (q * 21 + n + e)
      have := hw (p * 21 + n)
      omega
    · rw [up_n _ _ ei]; exact mvF_nn hw n i
theorem c_X5_moveWays {l : Launch} {D : va_G} {aC : Nat → ClassId} {B t sz : Nat} {S : sS} {r : sR} {h : sH} {x : Nat} {p q2 e d : Int} (hx : LX5 S r x) (p0 : 0 ≤ p) (p1 : p < 601) (q0 : p < q2) (q1 : q2 < 601) (e0 : 0 ≤ e) (e1 : e ≤ 3000000) (d0 : 0 ≤ d) (d1 : d ≤ 20) : CtV l yX5_moveWays cX5_moveWays 6 none 0 0 [.ref x, .int (iI p), .int (iI q2), .int (iI e), .int (iI d)] D aC B t sz S r h (fun h1 => h1 = up h (x + 24) (mvF (h (x + 24)) p q2 e (d - e + 1).toNat)) := by
  unfold CtV
  refine Ct.of (lv := [some (.ref x), some (.int (iI p)), some (.int (iI q2)), some (.int (iI e)), some (.int (iI d)), none]) (by decide +kernel) rfl (Nat.le_of_ble_eq_true rfl) (fun X hl q rt hnm => ?_)
  have lp : ∀ (n a : Nat), (a : Int) + n = d - e + 1 ∨ (n = 0 ∧ d - e + 1 ≤ 0 ∧ a = 0) → ∀ h2 : sH, h2 = up h (x + 24) (mvF (h (x + 24)) p q2 e a) → G X 0 0 8 [some (.ref x), some (.int (iI p)), some (.int (iI q2)), some (.int (iI e)), some (.int (iI d)), some (.int (iI a))] [] sz S r h2 := by
    intro n
    induction n with
    | zero =>
      intro a ha h2 e2
      refine r_iload_5 (pc := 8) q dX5_moveWays_8 ?_
      refine r_iload_3 (pc := 10) q dX5_moveWays_10 ?_
      refine r_iadd (pc := 11) q dX5_moveWays_11 ?_
      refine r_iload_4 (pc := 12) q dX5_moveWays_12 ?_
      refine r_icmp_gt (pc := 14) q 61 dX5_moveWays_14 (by decide) ⟨by omega, by omega⟩ ⟨by omega, by omega⟩ (fun c14 => ?_) (fun c14 => ?_)
      · refine r_return (pc := 61) q rt dX5_moveWays_61 ?_
        rw [e2, show (d - e + 1).toNat = a by omega]
      exact absurd (by omega) c14
    | succ n ih =>
      intro a ha h2 e2
      have e24 : h2 (x + 24) = mvF (h (x + 24)) p q2 e a := by rw [e2, up_s]
      have r1 : h2 (x + 24) (p * 21 + a) = h (x + 24) (p * 21 + a) := by rw [e24]; exact mvF_o e0 a (by omega)
      refine r_iload_5 (pc := 8) q dX5_moveWays_8 ?_
      refine r_iload_3 (pc := 10) q dX5_moveWays_10 ?_
      refine r_iadd (pc := 11) q dX5_moveWays_11 ?_
      refine r_iload_4 (pc := 12) q dX5_moveWays_12 ?_
      refine r_icmp_gt (pc := 14) q 61 dX5_moveWays_14 (by decide) ⟨by omega, by omega⟩ ⟨by omega, by omega⟩ (fun c14 => ?_) (fun c14 => ?_)
      · exact absurd c14 (by omega)
      refine r_iload_5 (pc := 17) q dX5_moveWays_17 ?_
      refine r_iload_3 (pc := 19) q dX5_moveWays_19 ?_
      refine r_iadd (pc := 20) q dX5_moveWays_20 ?_
      refine r_bipush (pc := 21) q dX5_moveWays_21 (by decide) ?_
      refine r_icmp_ge (pc := 23) q 61 dX5_moveWays_23 (by decide) ⟨by omega, by omega⟩ ⟨by omega, by omega⟩ (fun c23 => ?_) (fun c23 => ?_)
      · exact absurd c23 (by omega)
      refine r_aload_0 (pc := 26) q dX5_moveWays_26 ?_
      refine r_getr (pc := 27) q fX5_23 (kz := 3) rfl (by decide) rfl hx.o hx.r_ways dX5_moveWays_27 ?_
      refine r_iload_2 (pc := 30) q dX5_moveWays_30 ?_
      refine r_bipush (pc := 31) q dX5_moveWays_31 (by decide) ?_
      refine r_imul (pc := 33) q dX5_moveWays_33 ?_
      refine r_iload_5 (pc := 34) q dX5_moveWays_34 ?_
      refine r_iadd (pc := 36) q dX5_moveWays_36 ?_
      refine r_iload_3 (pc := 37) q dX5_moveWays_37 ?_
      refine r_iadd (pc := 38) q dX5_moveWays_38 ?_
      refine r_dup2 (pc := 39) q dX5_moveWays_39 rfl rfl ?_
      refine r_lald (pc := 40) q hx.s_ways (by omega) (by omega) dX5_moveWays_40 ?_
      refine r_aload_0 (pc := 41) q dX5_moveWays_41 ?_
      refine r_getr (pc := 42) q fX5_23 (kz := 3) rfl (by decide) rfl hx.o hx.r_ways dX5_moveWays_42 ?_
      refine r_iload_1 (pc := 45) q dX5_moveWays_45 ?_
      refine r_bipush (pc := 46) q dX5_moveWays_46 (by decide) ?_
      refine r_imul (pc := 48) q dX5_moveWays_48 ?_
      refine r_iload_5 (pc := 49) q dX5_moveWays_49 ?_
      refine r_iadd (pc := 51) q dX5_moveWays_51 ?_
      refine r_lald (pc := 52) q hx.s_ways (by omega) (by omega) dX5_moveWays_52 ?_
      rw [r1]
      refine r_ladd (pc := 53) q dX5_moveWays_53 ?_
      refine r_last (pc := 54) q hx.s_ways (by omega) (by omega) dX5_moveWays_54 (fun h3 eh3 => ?_)
      refine r_iinc_5 (pc := 55) q dX5_moveWays_55 rfl ?_
      refine r_goto (pc := 58) (tgt := 8) q dX5_moveWays_58 (by decide) ?_
      refine ih (a + 1) (by omega) h3 ?_
      rw [eh3, e24, e2, up_uu]; rfl
  refine r_iload_3 (pc := 0) q dX5_moveWays_0 ?_
  refine r_if_ge (pc := 1) q 5 dX5_moveWays_1 (by decide) ⟨by omega, by omega⟩ (fun c1 => ?_) (fun c1 => ?_)
  · refine r_iconst (pc := 5) q dX5_moveWays_5 ?_
    refine r_istore_5 (pc := 6) q dX5_moveWays_6 rfl ?_
    refine lp (d - e + 1).toNat 0 (by omega) h ?_
    show h = up h (x + 24) (h (x + 24))
    rw [up_id]
  exact absurd (by omega) c1
