theorem iI_nI (n : Nat) : iI (n : Int) = nI n := rfl
theorem lI_lN (n : Nat) : lI (n : Int) = lN n := rfl
theorem iI_and255 (x : Int) : iI x &&& iI 255 = iI (x % 256) := by
  have h := pk_and (iI x) (m := iI 255) 8 (by decide)
  rw [h]
  have e : (iI x).toBitVec.toNat % 2 ^ 8 = (x % 256).toNat := by
    show (BitVec.ofInt 32 x).toNat % 2 ^ 8 = _
    rw [BitVec.toNat_ofInt]
    omega
  rw [e, ← iI_nI, Int.toNat_of_nonneg (Int.emod_nonneg _ (by decide))]
theorem lI_shl8 {v : Int} (h0 : 0 ≤ v) : lI v <<< ((iI 8).toInt64 &&& 63) = lI (v * 256) := by
  obtain ⟨n, rfl⟩ := Int.eq_ofNat_of_zero_le h0
  have := wb_shl n (k := 8) (by decide)
  exact this
theorem lI_or8 {v b : Int} (h0 : 0 ≤ v) (h1 : v * 256 + 255 < 18446744073709551616) (b0 : 0 ≤ b) (b1 : b < 256) : lI (v * 256) ||| lI b = lI (v * 256 + b) := by
  obtain ⟨n, rfl⟩ := Int.eq_ofNat_of_zero_le h0
  obtain ⟨c, rfl⟩ := Int.eq_ofNat_of_zero_le b0
  have := g_or (k := 8) (p := 256) (a := c) (b := n) (by decide) (by omega) (by omega)
  exact this
theorem lI_and255 {v : Int} (h0 : 0 ≤ v) (h1 : v < 18446744073709551616) : lI v &&& lI 255 = lI (v % 256) := by
  obtain ⟨n, rfl⟩ := Int.eq_ofNat_of_zero_le h0
  have := wb_mask (n := n) (k := 8) (by omega) (by decide)
  exact this
theorem lI_ushr {v k : Int} (h0 : 0 ≤ v) (h1 : v < 18446744073709551616) (k0 : 0 ≤ k) (k1 : k < 64) : ((lI v).toUInt64 >>> ((iI k).toInt64.toUInt64 &&& Int64.toUInt64 63)).toInt64 = lI (v / 2 ^ k.toNat) := by
  obtain ⟨n, rfl⟩ := Int.eq_ofNat_of_zero_le h0
  obtain ⟨c, rfl⟩ := Int.eq_ofNat_of_zero_le k0
  have := wb_shr (n := n) (k := c) (by omega) (by omega)
  rw [iI_nI, lI_lN, this]
  show lI ((n / 2 ^ c : Nat) : Int) = _
  congr 1
/-! ===== names packed into a long ===== -/
def nk (g : Int → Int) : Nat → Int
  | 0 => 0
  | n + 1 => nk g n * 256 + g n
def isL (z : Int) : Prop := 97 ≤ z ∧ z ≤ 122
/-- v is the name of n letters g -/
def NmP (v : Int) (g : Int → Int) (n : Int) : Prop := 1 ≤ n ∧ n ≤ 8 ∧ (∀ i : Int, 0 ≤ i → i < n → isL (g i)) ∧ v = nk g n.toNat
theorem nk_nn {g : Int → Int} : ∀ {n : Nat}, (∀ i : Int, 0 ≤ i → i < n → 0 ≤ g i) → 0 ≤ nk g n
  | 0, _ => by simp [nk]
  | n + 1, h => by
    have a := nk_nn (g := g) (n := n) (fun i h0 h1 => h i h0 (by omega))
    have b := h n (by omega) (by omega)
    simp only [nk]; omega
theorem nk_bd {g : Int → Int} : ∀ {n : Nat}, (∀ i : Int, 0 ≤ i → i < n → g i ≤ 127) → 2 * nk g n + 1 ≤ 256 ^ n
  | 0, _ => by simp [nk]
  | n + 1, h => by
    have a := nk_bd (g := g) (n := n) (fun i h0 h1 => h i h0 (by omega))
    have b := h n (by omega) (by omega)
    simp only [nk, Int.pow_succ]; omega
theorem p256 {n : Nat} (h : n ≤ 8) : (256 : Int) ^ n ≤ 18446744073709551616 := by
  rcases (show n = 0 ∨ n = 1 ∨ n = 2 ∨ n = 3 ∨ n = 4 ∨ n = 5 ∨ n = 6 ∨ n = 7 ∨ n = 8 by omega) with rfl | rfl | rfl | rfl | rfl | rfl | rfl | rfl | rfl <;> decide
theorem nk_lt {g : Int → Int} {n : Nat} (hn : n ≤ 8) (h : ∀ i : Int, 0 ≤ i → i < n → g i ≤ 127) : nk g n ≤ 9223372036854775807 := by
  have a := nk_bd h
  have b := p256 hn
  omega
theorem nk_pos {g : Int → Int} {n : Nat} (h1 : 1 ≤ n) (h : ∀ i : Int, 0 ≤ i → i < n → 1 ≤ g i) : 0 < nk g n := by
  obtain ⟨k, rfl⟩ : ∃ k, n = k + 1 := ⟨n - 1, by omega⟩
  have a := nk_nn (g := g) (n := k) (fun i h0 h1 => by have := h i h0 (by omega); omega)
  have b := h k (by omega) (by omega)
  simp only [nk]; omega
theorem NmP.nn {v n : Int} {g : Int → Int} (h : NmP v g n) : 0 < v := by
  obtain ⟨h1, h2, h3, rfl⟩ := h
  exact nk_pos (by omega) (fun i h0 h1 => by have := (h3 i h0 (by omega)).1; omega)
theorem NmP.lt {v n : Int} {g : Int → Int} (h : NmP v g n) : v ≤ 9223372036854775807 := by
  obtain ⟨h1, h2, h3, rfl⟩ := h
  exact nk_lt (by omega) (fun i h0 h1 => by have := (h3 i h0 (by omega)).2; omega)
theorem nk_congr {g f : Int → Int} : ∀ {n : Nat}, (∀ i : Int, 0 ≤ i → i < n → g i = f i) → nk g n = nk f n
  | 0, _ => rfl
  | n + 1, h => by
    simp only [nk]
    rw [nk_congr (g := g) (f := f) (n := n) (fun i h0 h1 => h i h0 (by omega)), h n (by omega) (by omega)]
theorem NmP.congr {v n : Int} {g f : Int → Int} (h : NmP v g n) (e : ∀ i : Int, 0 ≤ i → i < n → g i = f i) : NmP v f n := by
  obtain ⟨h1, h2, h3, rfl⟩ := h
  refine ⟨h1, h2, fun i h0 h1 => by rw [← e i h0 h1]; exact h3 i h0 h1, nk_congr (fun i h0 h1 => e i h0 (by omega))⟩
theorem nk_inj {g f : Int → Int} : ∀ {n m : Nat}, (∀ i : Int, 0 ≤ i → i < n → isL (g i)) → (∀ i : Int, 0 ≤ i → i < m → isL (f i)) → nk g n = nk f m → n = m ∧ ∀ i : Int, 0 ≤ i → i < n → g i = f i
  | 0, 0, _, _, _ => ⟨rfl, fun i h0 h1 => by omega⟩
  | 0, m + 1, _, hf, e => by
    have := nk_pos (g := f) (n := m + 1) (by omega) (fun i h0 h1 => by have := (hf i h0 (by omega)).1; omega)
    simp only [nk] at e this; omega
  | n + 1, 0, hg, _, e => by
    have := nk_pos (g := g) (n := n + 1) (by omega) (fun i h0 h1 => by have := (hg i h0 (by omega)).1; omega)
    simp only [nk] at e this; omega
  | n + 1, m + 1, hg, hf, e => by
    simp only [nk] at e
    have a := hg n (by omega) (by omega)
    have b := hf m (by omega) (by omega)
    unfold isL at a b
    have e1 : nk g n = nk f m := by omega
    have e2 : g n = f m := by omega
    obtain ⟨q1, q2⟩ := nk_inj (fun i h0 h1 => hg i h0 (by omega)) (fun i h0 h1 => hf i h0 (by omega)) e1
    subst q1
    refine ⟨rfl, fun i h0 h1 => ?_⟩
    by_cases hi : i = n
    · subst hi; exact e2
    · exact q2 i h0 (by omega)
theorem NmP.inj {v n m : Int} {g f : Int → Int} (h : NmP v g n) (h' : NmP v f m) : n = m ∧ ∀ i : Int, 0 ≤ i → i < n → g i = f i := by
  obtain ⟨h1, h2, h3, e⟩ := h
  obtain ⟨h1', h2', h3', e'⟩ := h'
  obtain ⟨q1, q2⟩ := nk_inj (fun i h0 h1 => h3 i h0 (by omega)) (fun i h0 h1 => h3' i h0 (by omega)) (e.symm.trans e')
  exact ⟨by omega, fun i h0 h1 => q2 i h0 (by omega)⟩
theorem nk_shift {g : Int → Int} {n : Nat} (h : ∀ i : Int, 0 ≤ i → i < n → isL (g i)) : ∀ k : Nat, k ≤ n → nk g n / 2 ^ (8 * k) = nk g (n - k)
  | 0, _ => by simp
  | k + 1, hk => by
    have a := nk_shift h k (by omega)
    have e : (2 : Int) ^ (8 * (k + 1)) = 2 ^ (8 * k) * 256 := by
      rw [Nat.mul_add, Int.pow_add]; rfl
    rw [e, ← Int.ediv_ediv_of_nonneg (Int.le_of_lt (Int.pow_pos (by decide))), a]
    obtain ⟨j, hj⟩ : ∃ j, n - k = j + 1 := ⟨n - k - 1, by omega⟩
    rw [hj, show n - (k + 1) = j by omega]
    have b := h j (by omega) (by omega)
    unfold isL at b
    simp only [nk]
    omega
