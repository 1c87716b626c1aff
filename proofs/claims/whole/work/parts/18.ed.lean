/-! ===== how far two names are apart ===== -/
def Drow (c : Int → Int) (prev : Nat → Int) : Nat → Int
  | 0 => prev 0 + 2
  | j + 1 => min (prev j + c j) (min (prev (j + 1) + 2) (Drow c prev j + 2))
def DD (c : Int → Int → Int) : Nat → Nat → Int
  | 0 => fun j => 2 * j
  | i + 1 => Drow (c i) (DD c i)
theorem DD_0 (c : Int → Int → Int) (j : Nat) : DD c 0 j = 2 * j := rfl
theorem DD_s0 (c : Int → Int → Int) (i : Nat) : DD c (i + 1) 0 = DD c i 0 + 2 := rfl
theorem DD_ss (c : Int → Int → Int) (i j : Nat) : DD c (i + 1) (j + 1) = min (DD c i j + c i j) (min (DD c i (j + 1) + 2) (DD c (i + 1) j + 2)) := rfl
theorem DD_i0 (c : Int → Int → Int) : ∀ i : Nat, DD c i 0 = 2 * i
  | 0 => rfl
  | i + 1 => by rw [DD_s0, DD_i0 c i]; omega
theorem DD_le (c : Int → Int → Int) : ∀ i j : Nat, DD c i j ≤ 2 * (i + j)
  | 0, j => by rw [DD_0]; omega
  | i + 1, 0 => by rw [DD_i0]; omega
  | i + 1, j + 1 => by
    have := DD_le c i (j + 1)
    rw [DD_ss]; omega
theorem DD_nn {c : Int → Int → Int} (hc : ∀ i j : Int, 0 ≤ c i j) : ∀ i j : Nat, 0 ≤ DD c i j
  | 0, j => by rw [DD_0]; omega
  | i + 1, 0 => by rw [DD_i0]; omega
  | i + 1, j + 1 => by
    have a := DD_nn hc i (j + 1)
    have b := DD_nn hc (i + 1) j
    have d := DD_nn hc i j
    have e := hc i j
    rw [DD_ss]; omega
theorem DD_t1 (c : Int → Int → Int) (i j : Nat) : DD c (i + 1) j ≤ DD c i j + 2 := by
  cases j with
  | zero => rw [DD_s0]; omega
  | succ j => rw [DD_ss]; omega
theorem DD_t2 (c : Int → Int → Int) (i j : Nat) : DD c i (j + 1) ≤ DD c i j + 2 := by
  cases i with
  | zero => rw [DD_0, DD_0]; omega
  | succ i => rw [DD_ss]; omega
theorem DD_t3 (c : Int → Int → Int) (i j : Nat) : DD c (i + 1) (j + 1) ≤ DD c i j + c i j := by rw [DD_ss]; omega
theorem DD_sym (c : Int → Int → Int) : ∀ i j : Nat, DD c i j = DD (fun a b => c b a) j i
  | 0, j => by rw [DD_0, DD_i0]
  | i + 1, 0 => by rw [DD_i0, DD_0]
  | i + 1, j + 1 => by
    have a := DD_sym c i (j + 1)
    have b := DD_sym c (i + 1) j
    have d := DD_sym c i j
    rw [DD_ss, DD_ss, a, b, d]
    omega
theorem DD_congr {c e : Int → Int → Int} {n m : Nat} (h : ∀ i j : Int, 0 ≤ i → i < n → 0 ≤ j → j < m → c i j = e i j) : ∀ i j : Nat, i ≤ n → j ≤ m → DD c i j = DD e i j
  | 0, j, _, _ => rfl
  | i + 1, 0, hi, _ => by rw [DD_s0, DD_s0, DD_congr h i 0 (by omega) (by omega)]
  | i + 1, j + 1, hi, hj => by
    rw [DD_ss, DD_ss, DD_congr h i (j + 1) (by omega) hj, DD_congr h (i + 1) j hi (by omega), DD_congr h i j (by omega) (by omega), h i j (by omega) (by omega) (by omega) (by omega)]
/-- the way from the ends: E i j, p q letters left -/
theorem DD_up (c : Int → Int → Int) (n m : Nat) : ∀ (p q : Nat), p ≤ n → q ≤ m → DD c n m ≤ DD c (n - p) (m - q) + DD (fun i j => c (n - 1 - i) (m - 1 - j)) p q
  | 0, 0, _, _ => by rw [DD_0]; simp
  | 0, q + 1, hp, hq => by
    have a := DD_up c n m 0 q hp (by omega)
    have b := DD_t2 c n (m - (q + 1))
    rw [show m - (q + 1) + 1 = m - q by omega] at b
    rw [DD_0] at a ⊢
    simp only [Nat.sub_zero] at a ⊢
    omega
  | p + 1, 0, hp, hq => by
    have a := DD_up c n m p 0 (by omega) hq
    have b := DD_t1 c (n - (p + 1)) m
    rw [show n - (p + 1) + 1 = n - p by omega] at b
    rw [DD_s0]
    simp only [Nat.sub_zero] at a ⊢
    omega
  | p + 1, q + 1, hp, hq => by
    have a1 := DD_up c n m p (q + 1) (by omega) hq
    have a2 := DD_up c n m (p + 1) q hp (by omega)
    have a3 := DD_up c n m p q (by omega) (by omega)
    have b1 := DD_t1 c (n - (p + 1)) (m - (q + 1))
    have b2 := DD_t2 c (n - (p + 1)) (m - (q + 1))
    have b3 := DD_t3 c (n - (p + 1)) (m - (q + 1))
    rw [show n - (p + 1) + 1 = n - p by omega] at b1 b3
    rw [show m - (q + 1) + 1 = m - q by omega] at b2 b3
    rw [show ((n - (p + 1) : Nat) : Int) = n - 1 - p by omega, show ((m - (q + 1) : Nat) : Int) = m - 1 - q by omega] at b3
    rw [DD_ss]
    omega
theorem DD_dn (c : Int → Int → Int) (n m : Nat) : ∀ (i j : Nat), i ≤ n → j ≤ m → DD (fun i j => c (n - 1 - i) (m - 1 - j)) n m ≤ DD c i j + DD (fun i j => c (n - 1 - i) (m - 1 - j)) (n - i) (m - j) := by
  intro i j hi hj
  have := DD_up (fun i j => c (n - 1 - i) (m - 1 - j)) n m i j hi hj
  have e : DD (fun i j => c ((n : Int) - 1 - (n - 1 - i)) ((m : Int) - 1 - (m - 1 - j))) i j = DD c i j := DD_congr (n := n) (m := m) (fun a b _ _ _ _ => by rw [show (n : Int) - 1 - (n - 1 - a) = a by omega, show (m : Int) - 1 - (m - 1 - b) = b by omega]) i j hi hj
  rw [e] at this
  omega
theorem DD_rev (c : Int → Int → Int) (n m : Nat) : DD (fun i j => c (n - 1 - i) (m - 1 - j)) n m = DD c n m := by
  have a := DD_up c n m n m (Nat.le_refl _) (Nat.le_refl _)
  have b := DD_dn c n m n m (Nat.le_refl _) (Nat.le_refl _)
  simp only [Nat.sub_self, DD_0] at a b
  omega
/-- the way of the model -/
abbrev cr (so g f : Int → Int) (n m : Int) : Int → Int → Int := fun p q => cs so (g (n - 1 - p)) (f (m - 1 - q))
theorem c_X12_apart {l : Launch} {D : va_G} {aC : Nat → ClassId} {B t sz : Nat} {S : sS} {r : sR} {h : sH} {m : Nat} {v w n k : Int} {g f : Int → Int} (hM : LX12 S r m) (hs : soR (h (m + 2))) (hv : NmP v g n) (hw : NmP w f k) : CtI l yX12_apart cX12_apart 10 (some .int) 2 46 [.ref m, .long (lI v), .long (lI w)] D aC B t sz S r h (fun z h1 => z = DD (cr (h (m + 2)) g f n k) n.toNat k.toNat ∧ ∀ a : Nat, a ≠ m + 3 → h1 a = h a) := by
  unfold CtI
  refine Ct.of (lv := [some (.ref m), some (.long (lI v)), none, some (.long (lI w)), none, none, none, none, none, none]) (by decide +kernel) rfl (Nat.le_of_ble_eq_true rfl) (fun X hl q rt hnm => ?_)
  obtain ⟨n1, n8, hg, -⟩ := id hv
  obtain ⟨k1, k8, hf, -⟩ := id hw
  have Dn := DD_nn (c := cr (h (m + 2)) g f n k) (fun i j => (cs_in _ _ _).1)
  have Dl := DD_le (cr (h (m + 2)) g f n k)
  have inner : ∀ (i : Int), 0 ≤ i → i ≤ n → (∀ (h2 : sH) (j : Int) (o : Option Value), j = -1 → (∀ a : Nat, a ≠ m + 3 → h2 a = h a) → (∀ i' j' : Int, 0 ≤ i' → i' ≤ n → 0 ≤ j' → j' ≤ k → i ≤ i' → h2 (m + 3) (9 * i' + j') = DD (cr (h (m + 2)) g f n k) (n - i').toNat (k - j').toNat) → G X 0 0 183 [some (.ref m), some (.long (lI v)), none, some (.long (lI w)), none, some (.int (iI n)), some (.int (iI k)), some (.int (iI i)), some (.int (iI j)), o] [] sz S r h2) → ∀ (d : Nat), (d : Int) ≤ k + 1 → ∀ (h2 : sH) (o : Option Value), (∀ a : Nat, a ≠ m + 3 → h2 a = h a) → (∀ i' j' : Int, 0 ≤ i' → i' ≤ n → 0 ≤ j' → j' ≤ k → (i < i' ∨ (i = i' ∧ (d : Int) - 1 < j')) → h2 (m + 3) (9 * i' + j') = DD (cr (h (m + 2)) g f n k) (n - i').toNat (k - j').toNat) → G X 0 0 25 [some (.ref m), some (.long (lI v)), none, some (.long (lI w)), none, some (.int (iI n)), some (.int (iI k)), some (.int (iI i)), some (.int (iI ((d : Int) - 1))), o] [] sz S r h2 := by
    intro i i0 i1 out d
    induction d with
    | zero =>
      intro hd h2 o hA hE
      refine r_iload_8 (pc := 25) q dX12_apart_25 ?_
      refine r_if_lt (pc := 27) q 183 dX12_apart_27 (by decide) ⟨by omega, by omega⟩ (fun c27 => ?_) (fun c27 => ?_)
      · exact out h2 _ o (by omega) hA (fun i' j' a1 a2 a3 a4 a5 => hE i' j' a1 a2 a3 a4 (by omega))
      exact absurd (show (((0 : Nat) : Int) - 1) < 0 by omega) c27
    | succ d ih =>
      intro hd h2 o hA hE
      obtain ⟨j, hj⟩ : ∃ j : Int, ((d + 1 : Nat) : Int) - 1 = j := ⟨_, rfl⟩
      rw [hj] at hE ⊢
      have jd : j = d := by omega
      have e1 : i < n → h2 (m + 3) (9 * (i + 1) + j) = DD (cr (h (m + 2)) g f n k) (n - (i + 1)).toNat (k - j).toNat := fun q => hE (i + 1) j (by omega) (by omega) (by omega) (by omega) (by omega)
      have e2 : j < k → h2 (m + 3) (9 * i + j + 1) = DD (cr (h (m + 2)) g f n k) (n - i).toNat (k - (j + 1)).toNat := fun q => by
        have := hE i (j + 1) (by omega) (by omega) (by omega) (by omega) (by omega)
        rw [show 9 * i + (j + 1) = 9 * i + j + 1 by omega] at this
        exact this
      have e3 : i < n → j < k → h2 (m + 3) (9 * (i + 1) + j + 1) = DD (cr (h (m + 2)) g f n k) (n - (i + 1)).toNat (k - (j + 1)).toNat := fun q q2 => by
        have := hE (i + 1) (j + 1) (by omega) (by omega) (by omega) (by omega) (by omega)
        rw [show 9 * (i + 1) + (j + 1) = 9 * (i + 1) + j + 1 by omega] at this
        exact this
      have dA := Dl (n - (i + 1)).toNat (k - j).toNat
      have dB := Dl (n - i).toNat (k - (j + 1)).toNat
      have dC := Dl (n - (i + 1)).toNat (k - (j + 1)).toNat
      have nA := Dn (n - (i + 1)).toNat (k - j).toNat
      have nB := Dn (n - i).toNat (k - (j + 1)).toNat
      have nC := Dn (n - (i + 1)).toNat (k - (j + 1)).toNat
      have v00 : i = n → DD (cr (h (m + 2)) g f n k) (n - i).toNat (k - j).toNat = 2 * (k - j) := fun q => by
        rw [show (n - i).toNat = 0 by omega, DD_0]; omega
      have vi0 : j = k → DD (cr (h (m + 2)) g f n k) (n - i).toNat (k - j).toNat = 2 * (n - i) := fun q => by
        rw [show (k - j).toNat = 0 by omega, DD_i0]; omega
      have vb0 : i = n → j < k → DD (cr (h (m + 2)) g f n k) (n - i).toNat (k - (j + 1)).toNat = 2 * (k - (j + 1)) := fun q q2 => by
        rw [show (n - i).toNat = 0 by omega, DD_0]; omega
      have va0 : j = k → i < n → DD (cr (h (m + 2)) g f n k) (n - (i + 1)).toNat (k - j).toNat = 2 * (n - (i + 1)) := fun q q2 => by
        rw [show (k - j).toNat = 0 by omega, DD_i0]; omega
      have vss : i < n → j < k → DD (cr (h (m + 2)) g f n k) (n - i).toNat (k - j).toNat = min (DD (cr (h (m + 2)) g f n k) (n - (i + 1)).toNat (k - (j + 1)).toNat + cs (h (m + 2)) (g i) (f j)) (min (DD (cr (h (m + 2)) g f n k) (n - (i + 1)).toNat (k - j).toNat + 2) (DD (cr (h (m + 2)) g f n k) (n - i).toNat (k - (j + 1)).toNat + 2)) := fun q q2 => by
        have := DD_ss (cr (h (m + 2)) g f n k) (n - (i + 1)).toNat (k - (j + 1)).toNat
        rw [show (n - (i + 1)).toNat + 1 = (n - i).toNat by omega, show (k - (j + 1)).toNat + 1 = (k - j).toNat by omega] at this
        rw [this]
        unfold cr
        rw [show n - 1 - ((n - (i + 1)).toNat : Int) = i by omega, show k - 1 - ((k - (j + 1)).toNat : Int) = j by omega]
      have cin := cs_in (h (m + 2)) (g i) (f j)
      generalize DD (cr (h (m + 2)) g f n k) (n - (i + 1)).toNat (k - j).toNat = A at *
      generalize DD (cr (h (m + 2)) g f n k) (n - i).toNat (k - (j + 1)).toNat = Bv at *
      generalize DD (cr (h (m + 2)) g f n k) (n - (i + 1)).toNat (k - (j + 1)).toNat = Cv at *
      generalize hVd : DD (cr (h (m + 2)) g f n k) (n - i).toNat (k - j).toNat = Vd at *
      generalize cs (h (m + 2)) (g i) (f j) = cst at *
      sorry
  sorry
