/-! ===== how far two names are apart ===== -/
def Drow (c : Int → Int) (prev : Nat → Int) : Nat → Int
  | 0 => prev 0 + 2
  | j + 1 => min (prev j + c j) (min (prev (j + 1) + 2) (Drow c prev j + 2))
def DD (c : Int → Int → Int) : Nat → Nat → Int
  | 0 => fun j => 2 * j
  | i + 1 => Drow (c i) (DD c i)
theorem DD_0 (c : Int → Int → Int) (j : Nat) : DD c 0 j = 2 * j := rfl
theorem DD_s0 (c : Int → Int → Int) (i : Nat) : DD c (i + 1) 0 = DD c i 0 + 2 := rfl
theorem DD_ss (c : Int → Int → Int) (i j : Nat) : DD c (i + 1) (j + 1) = min (DD c i j + c i j) (min (DD c i (j + 1) + 2) (DD c (i + 1) j + 2)) := rfl
theorem DD_i0 (c : Int → Int → Int) : ∀ i : Nat, DD c i 0 = 2 * i
  | 0 => rfl
  | i + 1 => by rw [DD_s0, DD_i0 c i]; omega
theorem DD_le (c : Int → Int → Int) : ∀ i j : Nat, DD c i j ≤ 2 * (i + j)
  | 0, j => by rw [DD_0]; omega
  | i + 1, 0 => by rw [DD_i0]; omega
  | i + 1, j + 1 => by
    have := DD_le c i (j + 1)
    rw [DD_ss]; omega
theorem DD_nn {c : Int → Int → Int} (hc : ∀ i j : Int, 0 ≤ c i j) : ∀ i j : Nat, 0 ≤ DD c i j
  | 0, j => by rw [DD_0]; omega
  | i + 1, 0 => by rw [DD_i0]; omega
  | i + 1, j + 1 => by
    have a := DD_nn hc i (j + 1)
    have b := DD_nn hc (i + 1) j
    have d := DD_nn hc i j
    have e := hc i j
    rw [DD_ss]; omega
theorem DD_t1 (c : Int → Int → Int) (i j : Nat) : DD c (i + 1) j ≤ DD c i j + 2 := by
  cases j with
  | zero => rw [DD_s0]; omega
  | succ j => rw [DD_ss]; omega
theorem DD_t2 (c : Int → Int → Int) (i j : Nat) : DD c i (j + 1) ≤ DD c i j + 2 := by
  cases i with
  | zero => rw [DD_0, DD_0]; omega
  | succ i => rw [DD_ss]; omega
theorem DD_t3 (c : Int → Int → Int) (i j : Nat) : DD c (i + 1) (j + 1) ≤ DD c i j + c i j := by rw [DD_ss]; omega
theorem DD_sym (c : Int → Int → Int) : ∀ i j : Nat, DD c i j = DD (fun a b => c b a) j i
  | 0, j => by rw [DD_0, DD_i0]
  | i + 1, 0 => by rw [DD_i0, DD_0]
  | i + 1, j + 1 => by
    have a := DD_sym c i (j + 1)
    have b := DD_sym c (i + 1) j
    have d := DD_sym c i j
    rw [DD_ss, DD_ss, a, b, d]
    omega
theorem DD_congr {c e : Int → Int → Int} {n m : Nat} (h : ∀ i j : Int, 0 ≤ i → i < n → 0 ≤ j → j < m → c i j = e i j) : ∀ i j : Nat, i ≤ n → j ≤ m → DD c i j = DD e i j
  | 0, j, _, _ => rfl
  | i + 1, 0, hi, _ => by rw [DD_s0, DD_s0, DD_congr h i 0 (by omega) (by omega)]
  | i + 1, j + 1, hi, hj => by
    rw [DD_ss, DD_ss, DD_congr h i (j + 1) (by omega) hj, DD_congr h (i + 1) j hi (by omega), DD_congr h i j (by omega) (by omega), h i j (by omega) (by omega) (by omega) (by omega)]
/-- the way from the ends: E i j, p q letters left -/
theorem DD_up (c : Int → Int → Int) (n m : Nat) : ∀ (p q : Nat), p ≤ n → q ≤ m → DD c n m ≤ DD c (n - p) (m - q) + DD (fun i j => c (n - 1 - i) (m - 1 - j)) p q
  | 0, 0, _, _ => by rw [DD_0]; simp
  | 0, q + 1, hp, hq => by
    have a := DD_up c n m 0 q hp (by omega)
    have b := DD_t2 c n (m - (q + 1))
    rw [show m - (q + 1) + 1 = m - q by omega] at b
    rw [DD_0] at a ⊢
    simp only [Nat.sub_zero] at a ⊢
    omega
  | p + 1, 0, hp, hq => by
    have a := DD_up c n m p 0 (by omega) hq
    have b := DD_t1 c (n - (p + 1)) m
    rw [show n - (p + 1) + 1 = n - p by omega] at b
    rw [DD_s0]
    simp only [Nat.sub_zero] at a ⊢
    omega
  | p + 1, q + 1, hp, hq => by
    have a1 := DD_up c n m p (q + 1) (by omega) hq
    have a2 := DD_up c n m (p + 1) q hp (by omega)
    have a3 := DD_up c n m p q (by omega) (by omega)
    have b1 := DD_t1 c (n - (p + 1)) (m - (q + 1))
    have b2 := DD_t2 c (n - (p + 1)) (m - (q + 1))
    have b3 := DD_t3 c (n - (p + 1)) (m - (q + 1))
    rw [show n - (p + 1) + 1 = n - p by omega] at b1 b3
    rw [show m - (q + 1) + 1 = m - q by omega] at b2 b3
    rw [show ((n - (p + 1) : Nat) : Int) = n - 1 - p by omega, show ((m - (q + 1) : Nat) : Int) = m - 1 - q by omega] at b3
    rw [DD_ss]
    omega
theorem DD_dn (c : Int → Int → Int) (n m : Nat) : ∀ (i j : Nat), i ≤ n → j ≤ m → DD (fun i j => c (n - 1 - i) (m - 1 - j)) n m ≤ DD c i j + DD (fun i j => c (n - 1 - i) (m - 1 - j)) (n - i) (m - j) := by
  intro i j hi hj
  have := DD_up (fun i j => c (n - 1 - i) (m - 1 - j)) n m i j hi hj
  have e : DD (fun i j => c ((n : Int) - 1 - (n - 1 - i)) ((m : Int) - 1 - (m - 1 - j))) i j = DD c i j := DD_congr (n := n) (m := m) (fun a b _ _ _ _ => by rw [show (n : Int) - 1 - (n - 1 - a) = a by omega, show (m : Int) - 1 - (m - 1 - b) = b by omega]) i j hi hj
  rw [e] at this
  omega
theorem DD_rev (c : Int → Int → Int) (n m : Nat) : DD (fun i j => c (n - 1 - i) (m - 1 - j)) n m = DD c n m := by
  have a := DD_up c n m n m (Nat.le_refl _) (Nat.le_refl _)
  have b := DD_dn c n m n m (Nat.le_refl _) (Nat.le_refl _)
  simp only [Nat.sub_self, DD_0] at a b
  omega
/-- the way of the model -/
abbrev cr (so g f : Int → Int) (n m : Int) : Int → Int → Int := fun p q => cs so (g (n - 1 - p)) (f (m - 1 - q))
theorem c_X12_apart {l : Launch} {D : va_G} {aC : Nat → ClassId} {B t sz : Nat} {S : sS} {r : sR} {h : sH} {m : Nat} {v w n k : Int} {g f : Int → Int} (hM : LX12 S r m) (hs : soR (h (m + 2))) (hv : NmP v g n) (hw : NmP w f k) : CtI l yX12_apart cX12_apart 10 (some .int) 2 46 [.ref m, .long (lI v), .long (lI w)] D aC B t sz S r h (fun z h1 => z = DD (cr (h (m + 2)) g f n k) n.toNat k.toNat ∧ ∀ a : Nat, a ≠ m + 3 → h1 a = h a) := by
  unfold CtI
  refine Ct.of (lv := [some (.ref m), some (.long (lI v)), none, some (.long (lI w)), none, none, none, none, none, none]) (by decide +kernel) rfl (Nat.le_of_ble_eq_true rfl) (fun X hl q rt hnm => ?_)
  obtain ⟨n1, n8, hg, -⟩ := id hv
  obtain ⟨k1, k8, hf, -⟩ := id hw
  have Dn := DD_nn (c := cr (h (m + 2)) g f n k) (fun i j => (cs_in _ _ _).1)
  have Dl := DD_le (cr (h (m + 2)) g f n k)
  have inner : ∀ (i : Int), 0 ≤ i → i ≤ n → (∀ (h2 : sH) (j : Int) (o : Option Value), j = -1 → (∀ a : Nat, a ≠ m + 3 → h2 a = h a) → (∀ i' j' : Int, 0 ≤ i' → i' ≤ n → 0 ≤ j' → j' ≤ k → i ≤ i' → h2 (m + 3) (9 * i' + j') = DD (cr (h (m + 2)) g f n k) (n - i').toNat (k - j').toNat) → G X 0 0 183 [some (.ref m), some (.long (lI v)), none, some (.long (lI w)), none, some (.int (iI n)), some (.int (iI k)), some (.int (iI i)), some (.int (iI j)), o] [] sz S r h2) → ∀ (d : Nat), (d : Int) ≤ k + 1 → ∀ (h2 : sH) (o : Option Value), (∀ a : Nat, a ≠ m + 3 → h2 a = h a) → (∀ i' j' : Int, 0 ≤ i' → i' ≤ n → 0 ≤ j' → j' ≤ k → (i < i' ∨ (i = i' ∧ (d : Int) - 1 < j')) → h2 (m + 3) (9 * i' + j') = DD (cr (h (m + 2)) g f n k) (n - i').toNat (k - j').toNat) → G X 0 0 25 [some (.ref m), some (.long (lI v)), none, some (.long (lI w)), none, some (.int (iI n)), some (.int (iI k)), some (.int (iI i)), some (.int (iI ((d : Int) - 1))), o] [] sz S r h2 := by
    intro i i0 i1 out d
    induction d with
    | zero =>
      intro hd h2 o hA hE
      refine r_iload_8 (pc := 25) q dX12_apart_25 ?_
      refine r_if_lt (pc := 27) q 183 dX12_apart_27 (by decide) ⟨by omega, by omega⟩ (fun c27 => ?_) (fun c27 => ?_)
      · exact out h2 _ o (by omega) hA (fun i' j' a1 a2 a3 a4 a5 => hE i' j' a1 a2 a3 a4 (by omega))
      exact absurd (show (((0 : Nat) : Int) - 1) < 0 by omega) c27
    | succ d ih =>
      intro hd h2 o hA hE
      obtain ⟨j, hj⟩ : ∃ j : Int, ((d + 1 : Nat) : Int) - 1 = j := ⟨_, rfl⟩
      rw [hj] at hE ⊢
      have jd : j = d := by omega
      have e1 : i < n → h2 (m + 3) (9 * (i + 1) + j) = DD (cr (h (m + 2)) g f n k) (n - (i + 1)).toNat (k - j).toNat := fun q => hE (i + 1) j (by omega) (by omega) (by omega) (by omega) (by omega)
      have e2 : j < k → h2 (m + 3) (9 * i + j + 1) = DD (cr (h (m + 2)) g f n k) (n - i).toNat (k - (j + 1)).toNat := fun q => by
        have := hE i (j + 1) (by omega) (by omega) (by omega) (by omega) (by omega)
        rw [show 9 * i + (j + 1) = 9 * i + j + 1 by omega] at this
        exact this
      have e3 : i < n → j < k → h2 (m + 3) (9 * (i + 1) + j + 1) = DD (cr (h (m + 2)) g f n k) (n - (i + 1)).toNat (k - (j + 1)).toNat := fun q q2 => by
        have := hE (i + 1) (j + 1) (by omega) (by omega) (by omega) (by omega) (by omega)
        rw [show 9 * (i + 1) + (j + 1) = 9 * (i + 1) + j + 1 by omega] at this
        exact this
      have dA := Dl (n - (i + 1)).toNat (k - j).toNat
      have dB := Dl (n - i).toNat (k - (j + 1)).toNat
      have dC := Dl (n - (i + 1)).toNat (k - (j + 1)).toNat
      have nA := Dn (n - (i + 1)).toNat (k - j).toNat
      have nB := Dn (n - i).toNat (k - (j + 1)).toNat
      have nC := Dn (n - (i + 1)).toNat (k - (j + 1)).toNat
      have v00 : i = n → DD (cr (h (m + 2)) g f n k) (n - i).toNat (k - j).toNat = 2 * (k - j) := fun q => by
        rw [show (n - i).toNat = 0 by omega, DD_0]; omega
      have vi0 : j = k → DD (cr (h (m + 2)) g f n k) (n - i).toNat (k - j).toNat = 2 * (n - i) := fun q => by
        rw [show (k - j).toNat = 0 by omega, DD_i0]; omega
      have vb0 : i = n → j < k → DD (cr (h (m + 2)) g f n k) (n - i).toNat (k - (j + 1)).toNat = 2 * (k - (j + 1)) := fun q q2 => by
        rw [show (n - i).toNat = 0 by omega, DD_0]; omega
      have va0 : j = k → i < n → DD (cr (h (m + 2)) g f n k) (n - (i + 1)).toNat (k - j).toNat = 2 * (n - (i + 1)) := fun q q2 => by
        rw [show (k - j).toNat = 0 by omega, DD_i0]; omega
      have vss : i < n → j < k → DD (cr (h (m + 2)) g f n k) (n - i).toNat (k - j).toNat = min (DD (cr (h (m + 2)) g f n k) (n - (i + 1)).toNat (k - (j + 1)).toNat + cs (h (m + 2)) (g i) (f j)) (min (DD (cr (h (m + 2)) g f n k) (n - (i + 1)).toNat (k - j).toNat + 2) (DD (cr (h (m + 2)) g f n k) (n - i).toNat (k - (j + 1)).toNat + 2)) := fun q q2 => by
        have := DD_ss (cr (h (m + 2)) g f n k) (n - (i + 1)).toNat (k - (j + 1)).toNat
        rw [show (n - (i + 1)).toNat + 1 = (n - i).toNat by omega, show (k - (j + 1)).toNat + 1 = (k - j).toNat by omega] at this
        rw [this]
        unfold cr
        rw [show n - 1 - ((n - (i + 1)).toNat : Int) = i by omega, show k - 1 - ((k - (j + 1)).toNat : Int) = j by omega]
      have cin := cs_in (h (m + 2)) (g i) (f j)
      generalize DD (cr (h (m + 2)) g f n k) (n - (i + 1)).toNat (k - j).toNat = A at *
      generalize DD (cr (h (m + 2)) g f n k) (n - i).toNat (k - (j + 1)).toNat = Bv at *
      generalize DD (cr (h (m + 2)) g f n k) (n - (i + 1)).toNat (k - (j + 1)).toNat = Cv at *
      generalize hVd : DD (cr (h (m + 2)) g f n k) (n - i).toNat (k - j).toNat = Vd at *
      have K162 : ∀ x : Int, x = Vd → G X 0 0 162 [some (.ref m), some (.long (lI v)), none, some (.long (lI w)), none, some (.int (iI n)), some (.int (iI k)), some (.int (iI i)), some (.int (iI j)), some (.int (iI x))] [] sz S r h2 := by
        intro x ex
        refine r_aload_0 (pc := 162) q dX12_apart_162 ?_
        refine r_getr (pc := 163) q fX12_17 (kz := 4) rfl (by decide) rfl hM.o hM.r_ends dX12_apart_163 ?_
        refine r_bipush (pc := 166) q dX12_apart_166 (by decide) ?_
        refine r_iload_7 (pc := 168) q dX12_apart_168 ?_
        refine r_imul (pc := 170) q dX12_apart_170 ?_
        refine r_iload_8 (pc := 171) q dX12_apart_171 ?_
        refine r_iadd (pc := 173) q dX12_apart_173 ?_
        refine r_iload_9 (pc := 174) q dX12_apart_174 ?_
        refine r_iast (pc := 176) q hM.s_ends (by omega) (by omega) dX12_apart_176 (fun h3 eh3 => ?_)
        refine r_iinc_8 (pc := 177) q dX12_apart_177 rfl ?_
        refine r_goto (pc := 180) (tgt := 25) q dX12_apart_180 (by decide) ?_
        rw [show j + -1 = (d : Int) - 1 by omega]
        refine ih (by omega) h3 _ (fun a ha => by rw [eh3, up_n _ _ ha]; exact hA a ha) (fun i' j' a1 a2 a3 a4 a5 => ?_)
        rw [eh3, up_s]
        by_cases q1 : i' = i ∧ j' = j
        · rw [q1.1, q1.2, up_s, hVd]; exact ex
        · rw [up_n _ _ (by omega)]
          exact hE i' j' a1 a2 a3 a4 (by omega)
      have K107 : ∀ x : Int, (i < n → j < k → x = min (min (2 * (n - i + k - j)) (A + 2)) (Bv + 2)) → (¬ (i < n ∧ j < k) → x = Vd) → G X 0 0 107 [some (.ref m), some (.long (lI v)), none, some (.long (lI w)), none, some (.int (iI n)), some (.int (iI k)), some (.int (iI i)), some (.int (iI j)), some (.int (iI x))] [] sz S r h2 := by
        intro x x1 x2
        refine r_iload_7 (pc := 107) q dX12_apart_107 ?_
        refine r_iload_5 (pc := 109) q dX12_apart_109 ?_
        refine r_icmp_ge (pc := 111) q 162 dX12_apart_111 (by decide) ⟨by omega, by omega⟩ ⟨by omega, by omega⟩ (fun c111 => ?_) (fun c111 => ?_)
        · exact K162 x (x2 (by omega))
        refine r_iload_8 (pc := 114) q dX12_apart_114 ?_
        refine r_iload_6 (pc := 116) q dX12_apart_116 ?_
        refine r_icmp_ge (pc := 118) q 162 dX12_apart_118 (by decide) ⟨by omega, by omega⟩ ⟨by omega, by omega⟩ (fun c118 => ?_) (fun c118 => ?_)
        · exact K162 x (x2 (by omega))
        have x3 := x1 (by omega) (by omega)
        have x4 := vss (by omega) (by omega)
        refine r_iload_9 (pc := 121) q dX12_apart_121 ?_
        refine r_aload_0 (pc := 123) q dX12_apart_123 ?_
        refine r_getr (pc := 124) q fX12_17 (kz := 4) rfl (by decide) rfl hM.o hM.r_ends dX12_apart_124 ?_
        refine r_bipush (pc := 127) q dX12_apart_127 (by decide) ?_
        refine r_iload_7 (pc := 129) q dX12_apart_129 ?_
        refine r_iconst (pc := 131) q dX12_apart_131 ?_
        refine r_iadd (pc := 132) q dX12_apart_132 ?_
        refine r_imul (pc := 133) q dX12_apart_133 ?_
        refine r_iload_8 (pc := 134) q dX12_apart_134 ?_
        refine r_iadd (pc := 136) q dX12_apart_136 ?_
        refine r_iconst (pc := 137) q dX12_apart_137 ?_
        refine r_iadd (pc := 138) q dX12_apart_138 ?_
        refine r_iald (pc := 139) q hM.s_ends (by omega) (by omega) dX12_apart_139 ?_
        refine r_topi (e3 (by omega) (by omega)) ?_
        refine r_aload_0 (pc := 140) q dX12_apart_140 ?_
        refine r_lload_1 (pc := 141) q dX12_apart_141 ?_
        refine r_iload_7 (pc := 142) q dX12_apart_142 ?_
        refine r_sI2 (pc := 144) q (c_X12_letterOf hv (by omega) (by omega)) mX12_134 (by decide) (Nat.le_of_ble_eq_true rfl) rfl dX12_apart_144 (fun z1 h1 hz1 => ?_)
        obtain ⟨rfl, rfl⟩ := hz1
        refine r_lload_3 (pc := 147) q dX12_apart_147 ?_
        refine r_iload_8 (pc := 148) q dX12_apart_148 ?_
        refine r_sI2 (pc := 150) q (c_X12_letterOf hw (by omega) (by omega)) mX12_134 (by decide) (Nat.le_of_ble_eq_true rfl) rfl dX12_apart_150 (fun z2 h2 hz2 => ?_)
        obtain ⟨rfl, rfl⟩ := hz2
        refine r_cI2 (pc := 153) q (c_X12_swap hM (by rw [hA (m + 2) (by omega)]; exact hs) (hg i (by omega) (by omega)) (hf j (by omega) (by omega))) mX12_138 hM.o (by decide) (Nat.le_of_ble_eq_true rfl) rfl dX12_apart_153 (fun z3 h3 hz3 => ?_)
        obtain ⟨rfl, rfl⟩ := hz3
        rw [hA (m + 2) (by omega)]
        refine r_iadd (pc := 156) q dX12_apart_156 ?_
        refine r_sI2 (pc := 157) q (c_X12_less (by first | assumption | exact ⟨by omega, by omega⟩ | omega) (by first | assumption | exact ⟨by omega, by omega⟩ | omega)) mX12_130 (by decide) (Nat.le_of_ble_eq_true rfl) rfl dX12_apart_157 (fun z4 h4 hz4 => ?_)
        obtain ⟨rfl, rfl⟩ := hz4
        refine r_istore_9 (pc := 160) q dX12_apart_160 rfl ?_
        exact K162 _ (by omega)
      have K76 : ∀ x : Int, (i < n → x = min (2 * (n - i + k - j)) (A + 2)) → (i = n → x = 2 * (n - i + k - j)) → G X 0 0 76 [some (.ref m), some (.long (lI v)), none, some (.long (lI w)), none, some (.int (iI n)), some (.int (iI k)), some (.int (iI i)), some (.int (iI j)), some (.int (iI x))] [] sz S r h2 := by
        intro x x1 x2
        have xb : 0 ≤ x ∧ x ≤ 100 := by
          by_cases q1 : i < n
          · have := x1 q1; omega
          · have := x2 (by omega); omega
        refine r_iload_8 (pc := 76) q dX12_apart_76 ?_
        refine r_iload_6 (pc := 78) q dX12_apart_78 ?_
        refine r_icmp_ge (pc := 80) q 107 dX12_apart_80 (by decide) ⟨by omega, by omega⟩ ⟨by omega, by omega⟩ (fun c80 => ?_) (fun c80 => ?_)
        · refine K107 x (fun _ _ => by omega) (fun _ => ?_)
          have q2 : j = k := by omega
          have := vi0 q2
          by_cases q1 : i < n
          · have := x1 q1; have := va0 q2 q1; omega
          · have := x2 (by omega); omega
        refine r_iload_9 (pc := 83) q dX12_apart_83 ?_
        refine r_aload_0 (pc := 85) q dX12_apart_85 ?_
        refine r_getr (pc := 86) q fX12_17 (kz := 4) rfl (by decide) rfl hM.o hM.r_ends dX12_apart_86 ?_
        refine r_bipush (pc := 89) q dX12_apart_89 (by decide) ?_
        refine r_iload_7 (pc := 91) q dX12_apart_91 ?_
        refine r_imul (pc := 93) q dX12_apart_93 ?_
        refine r_iload_8 (pc := 94) q dX12_apart_94 ?_
        refine r_iadd (pc := 96) q dX12_apart_96 ?_
        refine r_iconst (pc := 97) q dX12_apart_97 ?_
        refine r_iadd (pc := 98) q dX12_apart_98 ?_
        refine r_iald (pc := 99) q hM.s_ends (by omega) (by omega) dX12_apart_99 ?_
        refine r_topi (e2 (by omega)) ?_
        refine r_iconst (pc := 100) q dX12_apart_100 ?_
        refine r_iadd (pc := 101) q dX12_apart_101 ?_
        refine r_sI2 (pc := 102) q (c_X12_less (by first | assumption | exact ⟨by omega, by omega⟩ | omega) (by first | assumption | exact ⟨by omega, by omega⟩ | omega)) mX12_130 (by decide) (Nat.le_of_ble_eq_true rfl) rfl dX12_apart_102 (fun z1 h1 hz1 => ?_)
        obtain ⟨rfl, rfl⟩ := hz1
        refine r_istore_9 (pc := 105) q dX12_apart_105 rfl ?_
        refine K107 _ (fun q1 q2 => by rw [x1 q1]) (fun q1 => ?_)
        have q2 : i = n := by omega
        have := v00 q2
        have := x2 q2
        have := vb0 q2 (by omega)
        omega
      refine r_iload_8 (pc := 25) q dX12_apart_25 ?_
      refine r_if_lt (pc := 27) q 183 dX12_apart_27 (by decide) ⟨by omega, by omega⟩ (fun c27 => ?_) (fun c27 => ?_)
      · exact absurd c27 (by omega)
      refine r_iconst (pc := 30) q dX12_apart_30 ?_
      refine r_iload_5 (pc := 31) q dX12_apart_31 ?_
      refine r_iload_7 (pc := 33) q dX12_apart_33 ?_
      refine r_isub (pc := 35) q dX12_apart_35 ?_
      refine r_iload_6 (pc := 36) q dX12_apart_36 ?_
      refine r_iadd (pc := 38) q dX12_apart_38 ?_
      refine r_iload_8 (pc := 39) q dX12_apart_39 ?_
      refine r_isub (pc := 41) q dX12_apart_41 ?_
      refine r_imul (pc := 42) q dX12_apart_42 ?_
      refine r_topi (y := 2 * (n - i + k - j)) rfl ?_
      refine r_istore_9 (pc := 43) q dX12_apart_43 rfl ?_
      refine r_iload_7 (pc := 45) q dX12_apart_45 ?_
      refine r_iload_5 (pc := 47) q dX12_apart_47 ?_
      refine r_icmp_ge (pc := 49) q 76 dX12_apart_49 (by decide) ⟨by omega, by omega⟩ ⟨by omega, by omega⟩ (fun c49 => ?_) (fun c49 => ?_)
      · exact K76 _ (fun _ => by omega) (fun _ => rfl)
      refine r_iload_9 (pc := 52) q dX12_apart_52 ?_
      refine r_aload_0 (pc := 54) q dX12_apart_54 ?_
      refine r_getr (pc := 55) q fX12_17 (kz := 4) rfl (by decide) rfl hM.o hM.r_ends dX12_apart_55 ?_
      refine r_bipush (pc := 58) q dX12_apart_58 (by decide) ?_
      refine r_iload_7 (pc := 60) q dX12_apart_60 ?_
      refine r_iconst (pc := 62) q dX12_apart_62 ?_
      refine r_iadd (pc := 63) q dX12_apart_63 ?_
      refine r_imul (pc := 64) q dX12_apart_64 ?_
      refine r_iload_8 (pc := 65) q dX12_apart_65 ?_
      refine r_iadd (pc := 67) q dX12_apart_67 ?_
      refine r_iald (pc := 68) q hM.s_ends (by omega) (by omega) dX12_apart_68 ?_
      refine r_topi (e1 (by omega)) ?_
      refine r_iconst (pc := 69) q dX12_apart_69 ?_
      refine r_iadd (pc := 70) q dX12_apart_70 ?_
      refine r_sI2 (pc := 71) q (c_X12_less (by first | assumption | exact ⟨by omega, by omega⟩ | omega) (by first | assumption | exact ⟨by omega, by omega⟩ | omega)) mX12_130 (by decide) (Nat.le_of_ble_eq_true rfl) rfl dX12_apart_71 (fun z1 h1 hz1 => ?_)
      obtain ⟨rfl, rfl⟩ := hz1
      refine r_istore_9 (pc := 74) q dX12_apart_74 rfl ?_
      exact K76 _ (fun _ => rfl) (fun _ => by omega)
  have outer : ∀ (d : Nat), (d : Int) ≤ n + 1 → ∀ (h2 : sH) (o o2 : Option Value), (∀ a : Nat, a ≠ m + 3 → h2 a = h a) → (∀ i' j' : Int, 0 ≤ i' → i' ≤ n → 0 ≤ j' → j' ≤ k → (d : Int) - 1 < i' → h2 (m + 3) (9 * i' + j') = DD (cr (h (m + 2)) g f n k) (n - i').toNat (k - j').toNat) → noL o = true → G X 0 0 16 [some (.ref m), some (.long (lI v)), none, some (.long (lI w)), none, some (.int (iI n)), some (.int (iI k)), some (.int (iI ((d : Int) - 1))), o, o2] [] sz S r h2 := by
    intro d
    induction d with
    | zero =>
      intro hd h2 o o2 hA hE ho
      have := hE 0 0 (by omega) (by omega) (by omega) (by omega) (by omega)
      refine r_iload_7 (pc := 16) q dX12_apart_16 ?_
      refine r_if_lt (pc := 18) q 189 dX12_apart_18 (by decide) ⟨by omega, by omega⟩ (fun c18 => ?_) (fun c18 => ?_)
      · refine r_aload_0 (pc := 189) q dX12_apart_189 ?_
        refine r_getr (pc := 190) q fX12_17 (kz := 4) rfl (by decide) rfl hM.o hM.r_ends dX12_apart_190 ?_
        refine r_iconst (pc := 193) q dX12_apart_193 ?_
        refine r_iald (pc := 194) q hM.s_ends (by omega) (by omega) dX12_apart_194 ?_
        refine r_ireturn (pc := 195) q rt dX12_apart_195 ?_
        exact ⟨by rw [show (n - 0).toNat = n.toNat by omega, show (k - 0).toNat = k.toNat by omega] at this; exact this, hA⟩
      exact absurd (show (((0 : Nat) : Int) - 1) < 0 by omega) c18
    | succ d ih =>
      intro hd h2 o o2 hA hE ho
      obtain ⟨i, hi⟩ : ∃ i : Int, ((d + 1 : Nat) : Int) - 1 = i := ⟨_, rfl⟩
      rw [hi] at hE ⊢
      refine r_iload_7 (pc := 16) q dX12_apart_16 ?_
      refine r_if_lt (pc := 18) q 189 dX12_apart_18 (by decide) ⟨by omega, by omega⟩ (fun c18 => ?_) (fun c18 => ?_)
      · exact absurd c18 (by omega)
      refine r_iload_6 (pc := 21) q dX12_apart_21 ?_
      refine r_istore_8 (pc := 23) q dX12_apart_23 rfl ?_
      have := inner i (by omega) (by omega) (fun h3 j o3 ej hA3 hE3 => ?_) (k + 1).toNat (by omega) h2 o2 hA (fun i' j' a1 a2 a3 a4 a5 => hE i' j' a1 a2 a3 a4 (by omega))
      · rw [show (((k + 1).toNat : Nat) : Int) - 1 = k by omega] at this
        exact this
      · refine r_iinc_7 (pc := 183) q dX12_apart_183 rfl ?_
        refine r_goto (pc := 186) (tgt := 16) q dX12_apart_186 (by decide) ?_
        rw [show i + -1 = (d : Int) - 1 by omega]
        exact ih (by omega) h3 _ _ hA3 (fun i' j' a1 a2 a3 a4 a5 => hE3 i' j' a1 a2 a3 a4 (by omega)) rfl
  refine r_lload_1 (pc := 0) q dX12_apart_0 ?_
  refine r_sI1 (pc := 1) q (c_X12_letters hv) mX12_124 (by decide) (Nat.le_of_ble_eq_true rfl) rfl dX12_apart_1 (fun z1 h1 hz1 => ?_)
  obtain ⟨rfl, rfl⟩ := hz1
  refine r_istore_5 (pc := 4) q dX12_apart_4 rfl ?_
  refine r_lload_3 (pc := 6) q dX12_apart_6 ?_
  refine r_sI1 (pc := 7) q (c_X12_letters hw) mX12_124 (by decide) (Nat.le_of_ble_eq_true rfl) rfl dX12_apart_7 (fun z2 h2 hz2 => ?_)
  obtain ⟨rfl, rfl⟩ := hz2
  refine r_istore_6 (pc := 10) q dX12_apart_10 rfl ?_
  refine r_iload_5 (pc := 12) q dX12_apart_12 ?_
  refine r_istore_7 (pc := 14) q dX12_apart_14 rfl ?_
  have := outer (n + 1).toNat (by omega) h none none (fun _ _ => rfl) (fun i' j' a1 a2 a3 a4 a5 => by omega) rfl
  rw [show (((n + 1).toNat : Nat) : Int) - 1 = n by omega] at this
  exact this
theorem c_X12_apart_ {l : Launch} {D : va_G} {aC : Nat → ClassId} {B t sz : Nat} {S : sS} {r : sR} {h : sH} {m : Nat} {l1 i : Int} {g : Int → Int → Int → Int} {n : Int → Int → Int} (hM : LX12 S r m) (t0 : 0 ≤ h m 2) (t1 : h m 2 ≤ 200) (hs : soR (h (m + 2))) (hl1 : inR l1) (hi : inR i) (hL : lsR h m) (hN : nmR h m g n) : CtI l yX12_apart_ cX12_apart_ 5 (some .int) 3 75 [.ref m, .int (iI l1), .int (iI i)] D aC B t sz S r h (fun z h1 => (∀ a : Nat, a ≠ m → a ≠ m + 3 → h1 a = h a) ∧ h1 m = up (up (h m) 0 0) 2 0 ∧ ((¬ (isNm (bA h m) 0 (h m 2) ∧ 0 ≤ l1 ∧ l1 < h m 5 ∧ 0 ≤ i ∧ i < h (m + 5) l1) ∧ z = -1) ∨ ((isNm (bA h m) 0 (h m 2) ∧ 0 ≤ l1 ∧ l1 < h m 5 ∧ 0 ≤ i ∧ i < h (m + 5) l1) ∧ z = DD (cr (h (m + 2)) (bA h m) (g l1 i) (h m 2) (n l1 i)) (h m 2).toNat (n l1 i).toNat))) := by
  unfold CtI
  refine Ct.of (lv := [some (.ref m), some (.int (iI l1)), some (.int (iI i)), none, none]) (by decide +kernel) rfl (Nat.le_of_ble_eq_true rfl) (fun X hl q rt hnm => ?_)
  obtain ⟨L0, L1, L2⟩ := id hL
  refine r_aload_0 (pc := 0) q dX12_apart__0 ?_
  refine r_iconst (pc := 1) q dX12_apart__1 ?_
  refine r_puti (pc := 2) q fX12_106 (kz := 0) rfl (by decide) rfl hM.o dX12_apart__2 (fun h0 eh0 => ?_)
  obtain ⟨f0, f1⟩ := th0 eh0
  have f2 := f1 2 (by decide)
  refine r_aload_0 (pc := 5) q dX12_apart__5 ?_
  refine r_cL0 (pc := 6) q (c_X12_tapeName (by first | assumption | exact ⟨by omega, by omega⟩ | omega) (by first | assumption | exact ⟨by omega, by omega⟩ | omega) (by first | assumption | exact ⟨by omega, by omega⟩ | omega)) mX12_174 hM.o (by decide) (Nat.le_of_ble_eq_true rfl) rfl dX12_apart__6 (fun z1 h1 hz1 => ?_)
  rw [bA_th eh0, f2] at hz1
  obtain ⟨⟨y1, y2⟩, eh1⟩ := hz1
  have zt := tnP_of y1 y2
  rw [eh0] at eh1
  have g0 : ∀ a : Nat, a ≠ m → h1 a = h a := fun a q1 => by rw [eh1]; show up _ m _ a = _; rw [up_n _ _ q1, up_n _ _ q1]
  have g1 : h1 m = up (up (h m) 0 0) 2 0 := by rw [eh1]; show up _ m _ m = _; rw [up_s, up_s]
  have g5 : h1 m 5 = h m 5 := by rw [g1]; simp [up]
  have hL' : lsR h1 m := by
    unfold lsR
    rw [g5, g0 (m + 4) (by omega), g0 (m + 5) (by omega)]
    exact hL
  have zb : 0 ≤ z1 ∧ z1 ≤ 9223372036854775807 := by rcases zt with ⟨-, e⟩ | ⟨-, -, e1, e2⟩ <;> omega
  refine r_lstore_3 (pc := 9) q dX12_apart__9 rfl ?_
  refine r_lload_3 (pc := 10) q dX12_apart__10 ?_
  refine r_lconst (pc := 11) q dX12_apart__11 (by decide) ?_
  refine r_lcmp (pc := 12) q dX12_apart__12 ⟨by omega, by omega⟩ ⟨by decide, by decide⟩ ?_
  refine r_if_eq (pc := 13) q 25 dX12_apart__13 (by decide) ⟨by have := cmpI_in z1 ((0 : Fin 2) : Nat); omega, by have := cmpI_in z1 ((0 : Fin 2) : Nat); omega⟩ (fun c13 => ?_) (fun c13 => ?_)
  · rw [cmpI_0] at c13
    have c13' : z1 = 0 := c13
    refine r_iconst (pc := 25) q dX12_apart__25 ?_
    refine r_goto (pc := 26) (tgt := 45) q dX12_apart__26 (by decide) ?_
    refine r_ireturn (pc := 45) q rt dX12_apart__45 ?_
    refine ⟨fun a q1 _ => g0 a q1, g1, Or.inl ⟨fun e => ?_, rfl⟩⟩
    rcases zt with ⟨y3, -⟩ | ⟨-, -, y3, -⟩
    · exact y3 e.1
    · omega
  rw [cmpI_0] at c13
  have c13' : ¬ z1 = 0 := c13
  have zt2 : isNm (bA h m) 0 (h m 2) ∧ NmP z1 (bA h m) (h m 2) := by
    rcases zt with ⟨-, y3⟩ | ⟨y3, y4, -, -⟩
    · exact absurd y3 c13'
    · exact ⟨y3, y4⟩
  refine r_aload_0 (pc := 16) q dX12_apart__16 ?_
  refine r_iload_1 (pc := 17) q dX12_apart__17 ?_
  refine r_iload_2 (pc := 18) q dX12_apart__18 ?_
  refine r_cI2 (pc := 19) q (c_X12_isStation (by first | assumption | exact ⟨by omega, by omega⟩ | omega) (by first | assumption | exact ⟨by omega, by omega⟩ | omega) (by first | assumption | exact ⟨by omega, by omega⟩ | omega) (by first | assumption | exact ⟨by omega, by omega⟩ | omega)) mX12_191 hM.o (by decide) (Nat.le_of_ble_eq_true rfl) rfl dX12_apart__19 (fun z2 h2 hz2 => ?_)
  obtain ⟨hz2, rfl⟩ := hz2
  rw [g5, g0 (m + 5) (by omega)] at hz2
  refine r_if_ne (pc := 22) q 29 dX12_apart__22 (by decide) ⟨by omega, by omega⟩ (fun c22 => ?_) (fun c22 => ?_)
  · have b := L2 l1 (by omega) (by omega)
    refine r_aload_0 (pc := 29) q dX12_apart__29 ?_
    refine r_lload_3 (pc := 30) q dX12_apart__30 ?_
    refine r_aload_0 (pc := 31) q dX12_apart__31 ?_
    refine r_getr (pc := 32) q fX12_26 (kz := 8) rfl (by decide) rfl hM.o hM.r_name dX12_apart__32 ?_
    refine r_bipush (pc := 35) q dX12_apart__35 (by decide) ?_
    refine r_iload_1 (pc := 37) q dX12_apart__37 ?_
    refine r_imul (pc := 38) q dX12_apart__38 ?_
    refine r_iload_2 (pc := 39) q dX12_apart__39 ?_
    refine r_iadd (pc := 40) q dX12_apart__40 ?_
    refine r_lald (pc := 41) q hM.s_name (by omega) (by omega) dX12_apart__41 ?_
    rw [g0 (m + 6) (by omega)]
    refine r_cI2 (pc := 42) q (c_X12_apart hM (by rw [g0 (m + 2) (by omega)]; exact hs) zt2.2 (hN l1 i (by omega) (by omega) (by omega) (by omega))) mX12_194 hM.o (by decide) (Nat.le_of_ble_eq_true rfl) rfl dX12_apart__42 (fun z3 h3 hz3 => ?_)
    refine r_ireturn (pc := 45) q rt dX12_apart__45 ?_
    rw [g0 (m + 2) (by omega)] at hz3
    exact ⟨fun a q1 q2 => by rw [hz3.2 a q2]; exact g0 a q1, by rw [hz3.2 m (by omega)]; exact g1, Or.inr ⟨⟨zt2.1, by omega⟩, hz3.1⟩⟩
  refine r_iconst (pc := 25) q dX12_apart__25 ?_
  refine r_goto (pc := 26) (tgt := 45) q dX12_apart__26 (by decide) ?_
  refine r_ireturn (pc := 45) q rt dX12_apart__45 ?_
  exact ⟨fun a q1 _ => g0 a q1, g1, Or.inl ⟨by omega, rfl⟩⟩
