/-- while a text is read, only the fifth row and the fields of reading change -/
def lsF (h h2 : sH) (m : Nat) : Prop := (∀ x : Nat, x ≠ m → x ≠ m + 5 → x ≠ m + 6 → x ≠ m + 7 → x ≠ m + 8 → h2 x = h x) ∧ (∀ x : Int, x ≠ 4 → h2 (m + 5) x = h (m + 5) x) ∧ (∀ x : Int, x < 40 → h2 (m + 6) x = h (m + 6) x) ∧ (∀ x : Int, x < 360 → h2 (m + 7) x = h (m + 7) x) ∧ (∀ x : Int, x < 40 → h2 (m + 8) x = h (m + 8) x) ∧ h2 m 0 = 0 ∧ ∀ k : Int, k ≠ 0 → k ≠ 11 → k ≠ 12 → k ≠ 13 → h2 m k = h m k
def lsN (b : Int → Int) (h2 : sH) (m : Nat) (n nn : Int) (ns nl us ul : Int → Int) : Prop := h2 (m + 5) 4 = n ∧ (∀ i : Int, 0 ≤ i → i < n → NmP (h2 (m + 6) (40 + i)) (fun j => b (ns i + j)) (nl i)) ∧ ∀ i : Int, 0 ≤ i → i < nn → h2 (m + 8) (40 + i) = ul i ∧ (1 ≤ ul i ∧ ul i ≤ 8) ∧ ∀ j : Int, 0 ≤ j → j < ul i → h2 (m + 7) (9 * (40 + i) + j) = signC (b (us i + j)) ∧ 1 ≤ signC (b (us i + j))
theorem lsF_pf {h h2 : sH} {m : Nat} (f : lsF h h2 m) {k z : Int} (hk : k = 11 ∨ k = 12 ∨ k = 13) : lsF h (pf h2 m k z) m := by
  obtain ⟨f1, f2, f3, f4, f5, f6, f7⟩ := f
  refine ⟨fun x x0 x1 x2 x3 x4 => by rw [pf_o _ k z x0]; exact f1 x x0 x1 x2 x3 x4, fun x x0 => by rw [pf_o _ k z (by omega)]; exact f2 x x0, fun x x0 => by rw [pf_o _ k z (by omega)]; exact f3 x x0, fun x x0 => by rw [pf_o _ k z (by omega)]; exact f4 x x0, fun x x0 => by rw [pf_o _ k z (by omega)]; exact f5 x x0, by rw [pf_f _ m z (by omega)]; exact f6, fun x x0 x1 x2 x3 => by rw [pf_f _ m z (by omega)]; exact f7 x x0 x1 x2 x3⟩
theorem lsN_pf {b : Int → Int} {h2 : sH} {m : Nat} {n nn : Int} {ns nl us ul : Int → Int} (f : lsN b h2 m n nn ns nl us ul) {k z : Int} : lsN b (pf h2 m k z) m n nn ns nl us ul := by
  unfold lsN at f ⊢
  rw [pf_o _ k z (show m + 5 ≠ m by omega), pf_o _ k z (show m + 6 ≠ m by omega), pf_o _ k z (show m + 7 ≠ m by omega), pf_o _ k z (show m + 8 ≠ m by omega)]
  exact f
def cpW (w : Int → Int) (b o e x : Int) : Int := if b ≤ x ∧ x < b + e then w (x + o) else w x
/-- the fifth row laid into row L -/
def lsC (h4 h5 : sH) (m : Nat) (L u n : Int) : Prop := (∀ x : Nat, x ≠ m → x ≠ m + 4 → x ≠ m + 5 → x ≠ m + 6 → x ≠ m + 7 → x ≠ m + 8 → h5 x = h4 x) ∧ h5 m = up (h4 m) 5 (L + 1) ∧ h5 (m + 4) = up (h4 (m + 4)) L u ∧ h5 (m + 5) = up (h4 (m + 5)) L n ∧ (∀ x : Int, h5 (m + 6) x = cpW (h4 (m + 6)) (10 * L) (40 - 10 * L) 10 x) ∧ (∀ x : Int, h5 (m + 8) x = cpW (h4 (m + 8)) (10 * L) (40 - 10 * L) 10 x) ∧ ∀ x : Int, h5 (m + 7) x = cpW (h4 (m + 7)) (90 * L) (360 - 90 * L) 90 x
def fn0 : Int → Int := fun _ => 0
/-- what list leaves -/
def lsP (h h1 : sH) (m : Nat) (u z : Int) : Prop := (∀ x : Nat, x ≠ m → x ≠ m + 4 → x ≠ m + 5 → x ≠ m + 6 → x ≠ m + 7 → x ≠ m + 8 → h1 x = h x) ∧ ∃ (k p n : Int) (ns nl us ul : Int → Int), PR (bA h m) (h m 2) 0 true 0 fn0 fn0 fn0 fn0 = (k, p, n, ns, nl, us, ul) ∧ h1 m 0 = 0 ∧ h1 m 2 = 0 ∧ h1 m 12 = p ∧ (∀ x : Int, x ≠ 0 → x ≠ 2 → x ≠ 5 → x ≠ 11 → x ≠ 12 → x ≠ 13 → h1 m x = h m x) ∧ ((1 ≤ k ∧ k ≤ 3 ∧ z = -1 - k ∧ h1 m 5 = h m 5 ∧ h1 (m + 4) = h (m + 4) ∧ (∀ x : Int, x ≠ 4 → h1 (m + 5) x = h (m + 5) x) ∧ (∀ x : Int, x < 40 → h1 (m + 6) x = h (m + 6) x) ∧ (∀ x : Int, x < 360 → h1 (m + 7) x = h (m + 7) x) ∧ (∀ x : Int, x < 40 → h1 (m + 8) x = h (m + 8) x)) ∨ (k = 0 ∧ p = -1 ∧ (2 ≤ n ∧ n ≤ 10) ∧ z = h m 5 ∧ h1 m 5 = h m 5 + 1 ∧ h1 (m + 4) = up (h (m + 4)) (h m 5) u ∧ h1 (m + 5) (h m 5) = n ∧ (∀ x : Int, x ≠ 4 → x ≠ h m 5 → h1 (m + 5) x = h (m + 5) x) ∧ (∀ i : Int, 0 ≤ i → i < n → NmP (h1 (m + 6) (10 * h m 5 + i)) (fun j => bA h m (ns i + j)) (nl i)) ∧ (∀ x : Int, x < 10 * h m 5 → h1 (m + 6) x = h (m + 6) x) ∧ (∀ i : Int, 0 ≤ i → i + 1 < n → h1 (m + 8) (10 * h m 5 + i) = ul i ∧ (1 ≤ ul i ∧ ul i ≤ 8) ∧ ∀ j : Int, 0 ≤ j → j < ul i → h1 (m + 7) (9 * (10 * h m 5 + i) + j) = signC (bA h m (us i + j)) ∧ 1 ≤ signC (bA h m (us i + j))) ∧ (∀ x : Int, x < 10 * h m 5 → h1 (m + 8) x = h (m + 8) x) ∧ (∀ x : Int, x < 90 * h m 5 → h1 (m + 7) x = h (m + 7) x)))
theorem lsP_bad {h h2 : sH} {m : Nat} {u k p n : Int} {ns nl us ul : Int → Int} (f : lsF h h2 m) (hP : PR (bA h m) (h m 2) 0 true 0 fn0 fn0 fn0 fn0 = (k, p, n, ns, nl, us, ul)) (k1 : 1 ≤ k) (k3 : k ≤ 3) (e12 : h2 m 12 = p) : lsP h (pf h2 m 2 0) m u (-1 - k) := by
  obtain ⟨f1, f2, f3, f4, f5, f6, f7⟩ := f
  have o : ∀ x : Nat, x ≠ m → pf h2 m 2 0 x = h2 x := fun x e => pf_o _ 2 0 e
  refine ⟨fun x x0 _ x1 x2 x3 x4 => by rw [o x x0]; exact f1 x x0 x1 x2 x3 x4, k, p, n, ns, nl, us, ul, hP, by rw [pf_f _ m 0 (by decide)]; exact f6, pf_s _ _ _ _, by rw [pf_f _ m 0 (by decide)]; exact e12, fun x x0 x2 x5 x11 x12 x13 => by rw [pf_f _ m 0 x2]; exact f7 x x0 x11 x12 x13, Or.inl ⟨k1, k3, rfl, by rw [pf_f _ m 0 (by decide)]; exact f7 5 (by decide) (by decide) (by decide) (by decide), by rw [o _ (by omega)]; exact f1 _ (by omega) (by omega) (by omega) (by omega) (by omega), fun x x0 => by rw [o _ (by omega)]; exact f2 x x0, fun x x0 => by rw [o _ (by omega)]; exact f3 x x0, fun x x0 => by rw [o _ (by omega)]; exact f4 x x0, fun x x0 => by rw [o _ (by omega)]; exact f5 x x0⟩⟩
theorem lsP_ok {h h2 h5 : sH} {m : Nat} {u n : Int} {ns nl us ul : Int → Int} (f : lsF h h2 m) (hN : lsN (bA h m) h2 m n (n - 1) ns nl us ul) (n2 : 2 ≤ n) (n10 : n ≤ 10) (L0 : 0 ≤ h m 5) (L3 : h m 5 ≤ 3) (hP : PR (bA h m) (h m 2) 0 true 0 fn0 fn0 fn0 fn0 = (0, -1, n, ns, nl, us, ul)) (e12 : h2 m 12 = -1) (hC : lsC (pf h2 m 2 0) h5 m (h m 5) u n) : lsP h h5 m u (h m 5) := by
  obtain ⟨f1, f2, f3, f4, f5, f6, f7⟩ := f
  obtain ⟨N1, N2, N3⟩ := hN
  obtain ⟨c1, c2, c3, c4, c5, c6, c7⟩ := hC
  have o : ∀ x : Nat, x ≠ m → pf h2 m 2 0 x = h2 x := fun x e => pf_o _ 2 0 e
  rw [o (m + 4) (by omega)] at c3
  rw [o (m + 5) (by omega)] at c4
  rw [o (m + 6) (by omega)] at c5
  rw [o (m + 8) (by omega)] at c6
  rw [o (m + 7) (by omega)] at c7
  have fm : ∀ x : Int, x ≠ 5 → h5 m x = pf h2 m 2 0 m x := fun x e => by rw [c2, up_n _ _ e]
  refine ⟨fun x x0 x4 x5 x6 x7 x8 => by rw [c1 x x0 x4 x5 x6 x7 x8, o x x0]; exact f1 x x0 x5 x6 x7 x8, 0, -1, n, ns, nl, us, ul, hP, by rw [fm 0 (by decide), pf_f _ m 0 (by decide)]; exact f6, by rw [fm 2 (by decide)]; exact pf_s _ _ _ _, by rw [fm 12 (by decide), pf_f _ m 0 (by decide)]; exact e12, fun x x0 x2 x5 x11 x12 x13 => by rw [fm x x5, pf_f _ m 0 x2]; exact f7 x x0 x11 x12 x13, Or.inr ⟨rfl, rfl, ⟨n2, n10⟩, rfl, by rw [c2, up_s], ?_, by rw [c4, up_s], fun x x0 x1 => by rw [c4, up_n _ _ x1]; exact f2 x x0, fun i i0 i1 => ?_, fun x x0 => ?_, fun i i0 i1 => ?_, fun x x0 => ?_, fun x x0 => ?_⟩⟩
  · rw [c3, f1 _ (by omega) (by omega) (by omega) (by omega) (by omega)]
  · rw [c5]
    unfold cpW
    rw [if_pos (by omega), show 10 * h m 5 + i + (40 - 10 * h m 5) = 40 + i by omega]
    exact N2 i i0 i1
  · rw [c5]
    unfold cpW
    rw [if_neg (by omega)]; exact f3 x (by omega)
  · obtain ⟨q1, q2, q3⟩ := N3 i i0 (by omega)
    refine ⟨?_, q2, fun j j0 j1 => ?_⟩
    · rw [c6]
      unfold cpW
      rw [if_pos (by omega), show 10 * h m 5 + i + (40 - 10 * h m 5) = 40 + i by omega]
      exact q1
    · rw [c7]
      unfold cpW
      rw [if_pos (by omega), show 9 * (10 * h m 5 + i) + j + (360 - 90 * h m 5) = 9 * (40 + i) + j by omega]
      exact q3 j j0 j1
  · rw [c6]
    unfold cpW
    rw [if_neg (by omega)]; exact f5 x (by omega)
  · rw [c7]
    unfold cpW
    rw [if_neg (by omega)]; exact f4 x (by omega)
/-- where the reading stands -/
def stL (h h3 : sH) (m : Nat) (d w : Int) : Prop := lsF h h3 m ∧ (0 ≤ h3 m 13 ∧ h3 m 13 ≤ h m 2) ∧ ((w = 0 ∧ ∃ (k p n : Int) (ns nl us ul : Int → Int), PR (bA h m) (h m 2) 0 true 0 fn0 fn0 fn0 fn0 = (k, p, n, ns, nl, us, ul) ∧ (1 ≤ k ∧ k ≤ 3) ∧ h3 m 11 = k ∧ h3 m 12 = p) ∨ (w = 1 ∧ h3 m 11 = 0 ∧ h3 m 12 = -1 ∧ h m 2 - h3 m 13 ≤ d ∧ ∃ (n : Int) (ns nl us ul : Int → Int), (1 ≤ n ∧ n ≤ 10) ∧ PR (bA h m) (h m 2) 0 true 0 fn0 fn0 fn0 fn0 = PR (bA h m) (h m 2) (h3 m 13) false n ns nl us ul ∧ lsN (bA h m) h3 m n (n - 1) ns nl us ul))
theorem lsF_b {h h3 : sH} {m : Nat} (f : lsF h h3 m) : bA h3 m = bA h m ∧ h3 m 2 = h m 2 := by
  have e2 := f.2.2.2.2.2.2 2 (by decide) (by decide) (by decide) (by decide)
  exact ⟨bA_eq (f.1 (m + 1) (by omega) (by omega) (by omega) (by omega) (by omega)) e2, e2⟩
theorem stL_blk {h h3 : sH} {m : Nat} {d w a : Int} (st : stL h h3 m d w) (a1 : h3 m 13 ≤ a) (a2 : a ≤ h3 m 2) (hb : ∀ j : Int, h3 m 13 ≤ j → j < a → bA h3 m j = 32 ∨ bA h3 m j = 10) : stL h (pf h3 m 13 a) m d w := by
  obtain ⟨f, ⟨p0, p1⟩, c⟩ := st
  obtain ⟨eb, e2⟩ := lsF_b f
  have e13 : pf h3 m 13 a m 13 = a := pf_s _ _ _ _
  have e11 : pf h3 m 13 a m 11 = h3 m 11 := pf_f _ m a (by decide)
  have e12 : pf h3 m 13 a m 12 = h3 m 12 := pf_f _ m a (by decide)
  rw [eb] at hb
  refine ⟨lsF_pf f (Or.inr (Or.inr rfl)), by rw [e13]; omega, ?_⟩
  rcases c with ⟨w0, k, p, n, ns, nl, us, ul, hP, k1, q1, q2⟩ | ⟨w1, q1, q2, q3, n, ns, nl, us, ul, n1, hP, hN⟩
  · exact Or.inl ⟨w0, k, p, n, ns, nl, us, ul, hP, k1, by rw [e11]; exact q1, by rw [e12]; exact q2⟩
  · refine Or.inr ⟨w1, by rw [e11]; exact q1, by rw [e12]; exact q2, by rw [e13]; omega, n, ns, nl, us, ul, n1, ?_, lsN_pf hN⟩
    rw [hP, e13, PR_blks (a - h3 m 13).toNat (h3 m 13) (by omega) (fun j j0 j1 => hb j j0 (by omega)), show h3 m 13 + ((a - h3 m 13).toNat : Int) = a by omega]
/-- a station's step -/
theorem stL_stn {h h3 h4 : sH} {m : Nat} {z n d : Int} {ns nl us ul : Int → Int} (f : lsF h h3 m) (a0 : 0 ≤ h3 m 13) (e11 : h3 m 11 = 0) (e12 : h3 m 12 = -1) (n0 : 0 ≤ n) (hP : PR (bA h m) (h m 2) 0 true 0 fn0 fn0 fn0 fn0 = PR (bA h m) (h m 2) (h3 m 13) true n ns nl us ul) (hN : lsN (bA h m) h3 m n n ns nl us ul) (hd : h m 2 - h3 m 13 ≤ d + 1) (st : (∀ x : Nat, x ≠ m → x ≠ m + 5 → x ≠ m + 6 → h4 x = h3 x) ∧ (∀ k : Int, k ≠ 11 → k ≠ 12 → k ≠ 13 → h4 m k = h3 m k) ∧ ((z = 0 ∧ h4 (m + 5) = h3 (m + 5) ∧ h4 (m + 6) = h3 (m + 6) ∧ ∃ k p : Int, (1 ≤ k ∧ k ≤ 3) ∧ h4 m 11 = k ∧ h4 m 12 = p ∧ (h3 m 13 ≤ h4 m 13 ∧ h4 m 13 ≤ h3 m 2) ∧ PR (bA h3 m) (h3 m 2) (h3 m 13) true n ns nl us ul = (k, p, n, ns, nl, us, ul)) ∨ (z = 1 ∧ n < 10 ∧ h4 m 11 = h3 m 11 ∧ h4 m 12 = h3 m 12 ∧ h4 (m + 5) = up (h3 (m + 5)) 4 (n + 1) ∧ ∃ a L v : Int, (h3 m 13 ≤ a ∧ 1 ≤ L ∧ a + L ≤ h3 m 2) ∧ h4 m 13 = a + L ∧ h4 (m + 6) = up (h3 (m + 6)) (40 + n) v ∧ NmP v (fun j => bA h3 m (a + j)) L ∧ PR (bA h3 m) (h3 m 2) (h3 m 13) true n ns nl us ul = PR (bA h3 m) (h3 m 2) (a + L) false (n + 1) (up ns n a) (up nl n L) us ul))) : stL h h4 m d z := by
  obtain ⟨eb, e2⟩ := lsF_b f
  rw [eb, e2] at st
  obtain ⟨s1, s2, s3⟩ := st
  obtain ⟨f1, f2, f3, f4, f5, f6, f7⟩ := f
  obtain ⟨N1, N2, N3⟩ := hN
  have F : (∀ x : Int, x ≠ 4 → h4 (m + 5) x = h3 (m + 5) x) → (∀ x : Int, x < 40 → h4 (m + 6) x = h3 (m + 6) x) → lsF h h4 m := fun q1 q2 => ⟨fun x x0 x5 x6 x7 x8 => by rw [s1 x x0 x5 x6]; exact f1 x x0 x5 x6 x7 x8, fun x x0 => by rw [q1 x x0]; exact f2 x x0, fun x x0 => by rw [q2 x x0]; exact f3 x x0, fun x x0 => by rw [s1 _ (by omega) (by omega) (by omega)]; exact f4 x x0, fun x x0 => by rw [s1 _ (by omega) (by omega) (by omega)]; exact f5 x x0, by rw [s2 0 (by decide) (by decide) (by decide)]; exact f6, fun k k0 k1 k2 k3 => by rw [s2 k k1 k2 k3]; exact f7 k k0 k1 k2 k3⟩
  rcases s3 with ⟨z0, q5, q6, k, p, k1, k2, k3, k4, k5⟩ | ⟨z1, n9, q11, q12, q5, a, L, v, a1, q13, q6, hv, hP2⟩
  · refine ⟨F (fun x _ => by rw [q5]) (fun x _ => by rw [q6]), by omega, Or.inl ⟨z0, k, p, n, ns, nl, us, ul, by rw [hP]; exact k5, k1, k2, k3⟩⟩
  · refine ⟨F (fun x x0 => by rw [q5, up_n _ _ x0]) (fun x x0 => by rw [q6, up_n _ _ (by omega)]), by omega, Or.inr ⟨z1, by rw [q11]; exact e11, by rw [q12]; exact e12, by omega, n + 1, up ns n a, up nl n L, us, ul, ⟨by omega, by omega⟩, by rw [q13, hP, hP2], ?_⟩⟩
    refine ⟨by rw [q5, up_s], fun i i0 i1 => ?_, fun i i0 i1 => ?_⟩
    · by_cases ei : i = n
      · subst ei
        rw [q6, up_s, up_s, up_s]; exact hv
      · rw [q6, up_n _ _ (by omega), up_n _ _ ei, up_n _ _ ei]; exact N2 i i0 (by omega)
    · rw [s1 _ (by omega) (by omega) (by omega), s1 (m + 7) (by omega) (by omega) (by omega)]
      exact N3 i i0 (by omega)
theorem c_X12_list {l : Launch} {D : va_G} {aC : Nat → ClassId} {B t sz : Nat} {S : sS} {r : sR} {h : sH} {m : Nat} {u : Int} (hM : LX12 S r m) (t0 : 0 ≤ h m 2) (t1 : h m 2 ≤ 200) (L0 : 0 ≤ h m 5) (L4 : h m 5 ≤ 4) (hu : inR u) : CtI l yX12_list cX12_list 5 (some .int) 3 72 [.ref m, .int (iI u)] D aC B t sz S r h (fun z h1 => (¬ (2 ≤ u ∧ u ≤ 3 ∧ h m 5 < 4) ∧ z = -1 ∧ h1 = pf h m 0 0) ∨ ((2 ≤ u ∧ u ≤ 3 ∧ h m 5 < 4) ∧ lsP h h1 m u z)) := by
  unfold CtI
  refine Ct.of (lv := [some (.ref m), some (.int (iI u)), none, none, none]) (by decide +kernel) rfl (Nat.le_of_ble_eq_true rfl) (fun X hl q rt hnm => ?_)
  have cpy : (2 ≤ u ∧ u ≤ 3 ∧ h m 5 < 4) → ∀ (w n : Int) (h4 : sH), h4 m 5 = h m 5 → h4 (m + 5) 4 = n → (∀ h5 : sH, lsC h4 h5 m (h m 5) u n → lsP h h5 m u (h m 5)) → G X 0 0 143 [some (.ref m), some (.int (iI u)), some (.int (iI w)), none, none] [] sz S r h4 := by
    intro ok w n h4 e5 en kk
    obtain ⟨L, hL⟩ : ∃ L, h m 5 = L := ⟨_, rfl⟩
    rw [hL] at e5 L0 L4 ok kk
    have rowL : ∀ (d i : Nat), i + d = 10 → ∀ (h5 : sH) (o4 : Option Value), (∀ x : Nat, x ≠ m + 4 → x ≠ m + 5 → x ≠ m + 6 → x ≠ m + 7 → x ≠ m + 8 → h5 x = h4 x) → h5 (m + 4) = up (h4 (m + 4)) L u → h5 (m + 5) = up (h4 (m + 5)) L n → (∀ x : Int, h5 (m + 6) x = cpW (h4 (m + 6)) (10 * L) (40 - 10 * L) i x) → (∀ x : Int, h5 (m + 8) x = cpW (h4 (m + 8)) (10 * L) (40 - 10 * L) i x) → (∀ x : Int, h5 (m + 7) x = cpW (h4 (m + 7)) (90 * L) (360 - 90 * L) (9 * i) x) → G X 0 0 170 [some (.ref m), some (.int (iI u)), some (.int (iI w)), some (.int (iI i)), o4] [] sz S r h5 := by
      intro d
      induction d with
      | zero =>
        intro i hi h5 o4 f1 f2 f3 f4 f5 f6
        have ei : i = 10 := by omega
        subst ei
        have em := f1 m (by omega) (by omega) (by omega) (by omega) (by omega)
        have e55 : h5 m 5 = L := by rw [em]; exact e5
        refine r_iload_3 (pc := 170) q dX12_list_170 ?_
        refine r_bipush (pc := 171) q dX12_list_171 (by decide) ?_
        refine r_icmp_ge (pc := 173) q 279 dX12_list_173 (by decide) ⟨by omega, by omega⟩ ⟨by omega, by omega⟩ (fun c173 => ?_) (fun c173 => ?_)
        · refine r_aload_0 (pc := 279) q dX12_list_279 ?_
          refine r_dup (pc := 280) q dX12_list_280 rfl ?_
          refine r_geti (pc := 281) q fX12_157 (kz := 5) rfl (by decide) rfl hM.o dX12_list_281 ?_
          rw [e55]
          refine r_iconst (pc := 284) q dX12_list_284 ?_
          refine r_iadd (pc := 285) q dX12_list_285 ?_
          refine r_puti (pc := 286) q fX12_157 (kz := 5) rfl (by decide) rfl hM.o dX12_list_286 (fun h6 eh6 => ?_)
          refine r_aload_0 (pc := 289) q dX12_list_289 ?_
          refine r_geti (pc := 290) q fX12_157 (kz := 5) rfl (by decide) rfl hM.o dX12_list_290 ?_
          have e65 : h6 m 5 = L + 1 := by rw [eh6, up_s, up_s]
          rw [e65]
          refine r_iconst (pc := 293) q dX12_list_293 ?_
          refine r_isub (pc := 294) q dX12_list_294 ?_
          refine r_ireturn (pc := 295) q rt dX12_list_295 ?_
          refine Or.inr ⟨hL ▸ ok, ?_⟩
          rw [show L + 1 - 1 = h m 5 by omega]
          rw [hL]
          refine kk h6 ⟨fun x x0 x4 x5 x6 x7 x8 => by rw [eh6, up_n _ _ x0]; exact f1 x x4 x5 x6 x7 x8, by rw [eh6, up_s, em], by rw [eh6, up_n _ _ (by omega)]; exact f2, by rw [eh6, up_n _ _ (by omega)]; exact f3, fun x => by rw [eh6, up_n _ _ (by omega)]; exact f4 x, fun x => by rw [eh6, up_n _ _ (by omega)]; exact f5 x, fun x => by rw [eh6, up_n _ _ (by omega)]; exact f6 x⟩
        exact absurd (by omega) c173
      | succ d ih =>
        intro i hi h5 o4 f1 f2 f3 f4 f5 f6
        have em := f1 m (by omega) (by omega) (by omega) (by omega) (by omega)
        have e55 : h5 m 5 = L := by rw [em]; exact e5
        have cell : ∀ (e j : Nat), j + e = 9 → ∀ (h7 : sH), (∀ x : Nat, x ≠ m + 4 → x ≠ m + 5 → x ≠ m + 6 → x ≠ m + 7 → x ≠ m + 8 → h7 x = h4 x) → h7 (m + 4) = up (h4 (m + 4)) L u → h7 (m + 5) = up (h4 (m + 5)) L n → (∀ x : Int, h7 (m + 6) x = cpW (h4 (m + 6)) (10 * L) (40 - 10 * L) (i + 1) x) → (∀ x : Int, h7 (m + 8) x = cpW (h4 (m + 8)) (10 * L) (40 - 10 * L) (i + 1) x) → (∀ x : Int, h7 (m + 7) x = cpW (h4 (m + 7)) (90 * L) (360 - 90 * L) (9 * i + j) x) → G X 0 0 225 [some (.ref m), some (.int (iI u)), some (.int (iI w)), some (.int (iI i)), some (.int (iI j))] [] sz S r h7 := by
          intro e
          induction e with
          | zero =>
            intro j hj h7 g1 g2 g3 g4 g5 g6
            have ej : j = 9 := by omega
            subst ej
            refine r_iload_4 (pc := 225) q dX12_list_225 ?_
            refine r_bipush (pc := 227) q dX12_list_227 (by decide) ?_
            refine r_icmp_ge (pc := 229) q 273 dX12_list_229 (by decide) ⟨by omega, by omega⟩ ⟨by omega, by omega⟩ (fun c229 => ?_) (fun c229 => ?_)
            · refine r_iinc_3 (pc := 273) q dX12_list_273 rfl ?_
              refine r_goto (pc := 276) (tgt := 170) q dX12_list_276 (by decide) ?_
              refine ih (i + 1) (by omega) h7 _ g1 g2 g3 g4 g5 (fun x => ?_)
              rw [g6 x, show 9 * (i : Int) + ((9 : Nat) : Int) = 9 * ((i + 1 : Nat) : Int) by omega]
            exact absurd (by omega) c229
          | succ e ih2 =>
            intro j hj h7 g1 g2 g3 g4 g5 g6
            have em7 := g1 m (by omega) (by omega) (by omega) (by omega) (by omega)
            have e75 : h7 m 5 = L := by rw [em7]; exact e5
            refine r_iload_4 (pc := 225) q dX12_list_225 ?_
            refine r_bipush (pc := 227) q dX12_list_227 (by decide) ?_
            refine r_icmp_ge (pc := 229) q 273 dX12_list_229 (by decide) ⟨by omega, by omega⟩ ⟨by omega, by omega⟩ (fun c229 => ?_) (fun c229 => ?_)
            · exact absurd c229 (by omega)
            refine r_aload_0 (pc := 232) q dX12_list_232 ?_
            refine r_getr (pc := 233) q fX12_30 (kz := 9) rfl (by decide) rfl hM.o hM.r_signs dX12_list_233 ?_
            refine r_bipush (pc := 236) q dX12_list_236 (by decide) ?_
            refine r_bipush (pc := 238) q dX12_list_238 (by decide) ?_
            refine r_aload_0 (pc := 240) q dX12_list_240 ?_
            refine r_geti (pc := 241) q fX12_157 (kz := 5) rfl (by decide) rfl hM.o dX12_list_241 ?_
            rw [e75]
            refine r_imul (pc := 244) q dX12_list_244 ?_
            refine r_iload_3 (pc := 245) q dX12_list_245 ?_
            refine r_iadd (pc := 246) q dX12_list_246 ?_
            refine r_imul (pc := 247) q dX12_list_247 ?_
            refine r_iload_4 (pc := 248) q dX12_list_248 ?_
            refine r_iadd (pc := 250) q dX12_list_250 ?_
            refine r_aload_0 (pc := 251) q dX12_list_251 ?_
            refine r_getr (pc := 252) q fX12_30 (kz := 9) rfl (by decide) rfl hM.o hM.r_signs dX12_list_252 ?_
            refine r_bipush (pc := 255) q dX12_list_255 (by decide) ?_
            refine r_bipush (pc := 257) q dX12_list_257 (by decide) ?_
            refine r_iload_3 (pc := 259) q dX12_list_259 ?_
            refine r_iadd (pc := 260) q dX12_list_260 ?_
            refine r_imul (pc := 261) q dX12_list_261 ?_
            refine r_iload_4 (pc := 262) q dX12_list_262 ?_
            refine r_iadd (pc := 264) q dX12_list_264 ?_
            refine r_iald (pc := 265) q hM.s_signs (by omega) (by omega) dX12_list_265 ?_
            have v := g6 (9 * (40 + (i : Int)) + j)
            unfold cpW at v
            rw [if_neg (by omega)] at v
            rw [v]
            refine r_iast (pc := 266) q hM.s_signs (by omega) (by omega) dX12_list_266 (fun h8 eh8 => ?_)
            refine r_iinc_4 (pc := 267) q dX12_list_267 rfl ?_
            refine r_goto (pc := 270) (tgt := 225) q dX12_list_270 (by decide) ?_
            have e7 : h8 (m + 7) = up (h7 (m + 7)) (9 * (10 * L + (i : Int)) + j) (h4 (m + 7) (9 * (40 + (i : Int)) + j)) := by rw [eh8, up_s]
            refine ih2 (j + 1) (by omega) h8 (fun x x4 x5 x6 x7 x8 => by rw [eh8, up_n _ _ x7]; exact g1 x x4 x5 x6 x7 x8) (by rw [eh8, up_n _ _ (by omega)]; exact g2) (by rw [eh8, up_n _ _ (by omega)]; exact g3) (fun x => by rw [eh8, up_n _ _ (by omega)]; exact g4 x) (fun x => by rw [eh8, up_n _ _ (by omega)]; exact g5 x) (fun x => ?_)
            rw [e7]
            by_cases ex : x = 9 * (10 * L + (i : Int)) + j
            · rw [ex, up_s]
              unfold cpW
              rw [if_pos (by omega), show 9 * (10 * L + (i : Int)) + j + (360 - 90 * L) = 9 * (40 + (i : Int)) + j by omega]
            · rw [up_n _ _ ex, g6 x]
              unfold cpW
              by_cases q1 : 90 * L ≤ x ∧ x < 90 * L + (9 * (i : Int) + j)
              · rw [if_pos q1, if_pos (by omega)]
              · rw [if_neg q1, if_neg (by omega)]
        refine r_iload_3 (pc := 170) q dX12_list_170 ?_
        refine r_bipush (pc := 171) q dX12_list_171 (by decide) ?_
        refine r_icmp_ge (pc := 173) q 279 dX12_list_173 (by decide) ⟨by omega, by omega⟩ ⟨by omega, by omega⟩ (fun c173 => ?_) (fun c173 => ?_)
        · exact absurd c173 (by omega)
        refine r_aload_0 (pc := 176) q dX12_list_176 ?_
        refine r_getr (pc := 177) q fX12_26 (kz := 8) rfl (by decide) rfl hM.o hM.r_name dX12_list_177 ?_
        refine r_bipush (pc := 180) q dX12_list_180 (by decide) ?_
        refine r_aload_0 (pc := 182) q dX12_list_182 ?_
        refine r_geti (pc := 183) q fX12_157 (kz := 5) rfl (by decide) rfl hM.o dX12_list_183 ?_
        rw [e55]
        refine r_imul (pc := 186) q dX12_list_186 ?_
        refine r_iload_3 (pc := 187) q dX12_list_187 ?_
        refine r_iadd (pc := 188) q dX12_list_188 ?_
        refine r_aload_0 (pc := 189) q dX12_list_189 ?_
        refine r_getr (pc := 190) q fX12_26 (kz := 8) rfl (by decide) rfl hM.o hM.r_name dX12_list_190 ?_
        refine r_bipush (pc := 193) q dX12_list_193 (by decide) ?_
        refine r_iload_3 (pc := 195) q dX12_list_195 ?_
        refine r_iadd (pc := 196) q dX12_list_196 ?_
        refine r_lald (pc := 197) q hM.s_name (by omega) (by omega) dX12_list_197 ?_
        have v := f4 (40 + (i : Int))
        unfold cpW at v
        rw [if_neg (by omega)] at v
        rw [v]
        refine r_last (pc := 198) q hM.s_name (by omega) (by omega) dX12_list_198 (fun h6 eh6 => ?_)
        refine r_aload_0 (pc := 199) q dX12_list_199 ?_
        refine r_getr (pc := 200) q fX12_33 (kz := 10) rfl (by decide) rfl hM.o hM.r_many dX12_list_200 ?_
        refine r_bipush (pc := 203) q dX12_list_203 (by decide) ?_
        refine r_aload_0 (pc := 205) q dX12_list_205 ?_
        refine r_geti (pc := 206) q fX12_157 (kz := 5) rfl (by decide) rfl hM.o dX12_list_206 ?_
        have e65 : h6 m 5 = L := by rw [eh6, up_n _ _ (by omega)]; exact e55
        rw [e65]
        refine r_imul (pc := 209) q dX12_list_209 ?_
        refine r_iload_3 (pc := 210) q dX12_list_210 ?_
        refine r_iadd (pc := 211) q dX12_list_211 ?_
        refine r_aload_0 (pc := 212) q dX12_list_212 ?_
        refine r_getr (pc := 213) q fX12_33 (kz := 10) rfl (by decide) rfl hM.o hM.r_many dX12_list_213 ?_
        refine r_bipush (pc := 216) q dX12_list_216 (by decide) ?_
        refine r_iload_3 (pc := 218) q dX12_list_218 ?_
        refine r_iadd (pc := 219) q dX12_list_219 ?_
        refine r_iald (pc := 220) q hM.s_many (by omega) (by omega) dX12_list_220 ?_
        have v := f5 (40 + (i : Int))
        unfold cpW at v
        rw [if_neg (by omega)] at v
        have v' : h6 (m + 8) (40 + (i : Int)) = h4 (m + 8) (40 + (i : Int)) := by rw [eh6, up_n _ _ (by omega)]; exact v
        rw [v']
        refine r_iast (pc := 221) q hM.s_many (by omega) (by omega) dX12_list_221 (fun h7 eh7 => ?_)
        refine r_iconst (pc := 222) q dX12_list_222 ?_
        refine r_istore_4 (pc := 223) q dX12_list_223 rfl ?_
        have e6 : h7 (m + 6) = up (h5 (m + 6)) (10 * L + (i : Int)) (h4 (m + 6) (40 + (i : Int))) := by rw [eh7, up_n _ _ (by omega), eh6, up_s]
        have e8 : h7 (m + 8) = up (h5 (m + 8)) (10 * L + (i : Int)) (h4 (m + 8) (40 + (i : Int))) := by rw [eh7, up_s, eh6, up_n _ _ (by omega)]
        refine cell 9 0 (by omega) h7 (fun x x4 x5 x6 x7 x8 => by rw [eh7, up_n _ _ x8, eh6, up_n _ _ x6]; exact f1 x x4 x5 x6 x7 x8) (by rw [eh7, up_n _ _ (by omega), eh6, up_n _ _ (by omega)]; exact f2) (by rw [eh7, up_n _ _ (by omega), eh6, up_n _ _ (by omega)]; exact f3) (fun x => ?_) (fun x => ?_) (fun x => by rw [eh7, up_n _ _ (by omega), eh6, up_n _ _ (by omega), f6 x, show 9 * (i : Int) + ((0 : Nat) : Int) = 9 * i by omega])
        · rw [e6]
          by_cases ex : x = 10 * L + (i : Int)
          · rw [ex, up_s]
            unfold cpW
            rw [if_pos (by omega), show 10 * L + (i : Int) + (40 - 10 * L) = 40 + (i : Int) by omega]
          · rw [up_n _ _ ex, f4 x]
            unfold cpW
            by_cases q1 : 10 * L ≤ x ∧ x < 10 * L + (i : Int)
            · rw [if_pos q1, if_pos (by omega)]
            · rw [if_neg q1, if_neg (by omega)]
        · rw [e8]
          by_cases ex : x = 10 * L + (i : Int)
          · rw [ex, up_s]
            unfold cpW
            rw [if_pos (by omega), show 10 * L + (i : Int) + (40 - 10 * L) = 40 + (i : Int) by omega]
          · rw [up_n _ _ ex, f5 x]
            unfold cpW
            by_cases q1 : 10 * L ≤ x ∧ x < 10 * L + (i : Int)
            · rw [if_pos q1, if_pos (by omega)]
            · rw [if_neg q1, if_neg (by omega)]
    refine r_aload_0 (pc := 143) q dX12_list_143 ?_
    refine r_getr (pc := 144) q fX12_20 (kz := 6) rfl (by decide) rfl hM.o hM.r_unit dX12_list_144 ?_
    refine r_aload_0 (pc := 147) q dX12_list_147 ?_
    refine r_geti (pc := 148) q fX12_157 (kz := 5) rfl (by decide) rfl hM.o dX12_list_148 ?_
    rw [e5]
    refine r_iload_1 (pc := 151) q dX12_list_151 ?_
    refine r_iast (pc := 152) q hM.s_unit (by omega) (by omega) dX12_list_152 (fun h5 eh5 => ?_)
    refine r_aload_0 (pc := 153) q dX12_list_153 ?_
    refine r_getr (pc := 154) q fX12_23 (kz := 7) rfl (by decide) rfl hM.o hM.r_stations dX12_list_154 ?_
    refine r_aload_0 (pc := 157) q dX12_list_157 ?_
    refine r_geti (pc := 158) q fX12_157 (kz := 5) rfl (by decide) rfl hM.o dX12_list_158 ?_
    have e5' : h5 m 5 = L := by rw [eh5, up_n _ _ (by omega)]; exact e5
    rw [e5']
    refine r_aload_0 (pc := 161) q dX12_list_161 ?_
    refine r_getr (pc := 162) q fX12_23 (kz := 7) rfl (by decide) rfl hM.o hM.r_stations dX12_list_162 ?_
    refine r_iconst (pc := 165) q dX12_list_165 ?_
    refine r_iald (pc := 166) q hM.s_stations (by omega) (by omega) dX12_list_166 ?_
    have en' : h5 (m + 5) 4 = n := by rw [eh5, up_n _ _ (by omega)]; exact en
    rw [en']
    refine r_iast (pc := 167) q hM.s_stations (by omega) (by omega) dX12_list_167 (fun h6 eh6 => ?_)
    refine r_iconst (pc := 168) q dX12_list_168 ?_
    refine r_istore_3 (pc := 169) q dX12_list_169 rfl ?_
    refine rowL 10 0 (by omega) h6 _ (fun x x4 x5 _ _ _ => by rw [eh6, up_n _ _ x5, eh5, up_n _ _ x4]) (by rw [eh6, up_n _ _ (by omega), eh5, up_s]) (by rw [eh6, up_s, eh5, up_n _ _ (by omega)]) (fun x => ?_) (fun x => ?_) (fun x => ?_)
    · rw [eh6, up_n _ _ (by omega), eh5, up_n _ _ (by omega)]; unfold cpW; rw [if_neg (by omega)]
    · rw [eh6, up_n _ _ (by omega), eh5, up_n _ _ (by omega)]; unfold cpW; rw [if_neg (by omega)]
    · rw [eh6, up_n _ _ (by omega), eh5, up_n _ _ (by omega)]; unfold cpW; rw [if_neg (by omega)]
  have ENDA : (2 ≤ u ∧ u ≤ 3 ∧ h m 5 < 4) → ∀ (w : Int) (h3 : sH) (k p n : Int) (ns nl us ul : Int → Int), lsF h h3 m → PR (bA h m) (h m 2) 0 true 0 fn0 fn0 fn0 fn0 = (k, p, n, ns, nl, us, ul) → 1 ≤ k → k ≤ 3 → h3 m 11 = k → h3 m 12 = p → G X 0 0 124 [some (.ref m), some (.int (iI u)), some (.int (iI w)), none, none] [] sz S r h3 := by
    intro ok w h3 k p n ns nl us ul f hP k1 k3 e11 e12
    refine r_aload_0 (pc := 124) q dX12_list_124 ?_
    refine r_iconst (pc := 125) q dX12_list_125 ?_
    refine r_puti (pc := 126) q fX12_109 (kz := 2) rfl (by decide) rfl hM.o dX12_list_126 (fun h4 eh4 => ?_)
    refine r_aload_0 (pc := 129) q dX12_list_129 ?_
    refine r_geti (pc := 130) q fX12_141 (kz := 11) rfl (by decide) rfl hM.o dX12_list_130 ?_
    have e4 : h4 m 11 = k := by rw [eh4, up_s, up_n _ _ (by decide)]; exact e11
    rw [e4]
    refine r_if_le (pc := 133) q 143 dX12_list_133 (by decide) ⟨by omega, by omega⟩ (fun c133 => ?_) (fun c133 => ?_)
    · exact absurd c133 (by omega)
    refine r_iconst (pc := 136) q dX12_list_136 ?_
    refine r_aload_0 (pc := 137) q dX12_list_137 ?_
    refine r_geti (pc := 138) q fX12_141 (kz := 11) rfl (by decide) rfl hM.o dX12_list_138 ?_
    have e4' : h4 m 11 = k := by rw [eh4, up_s, up_n _ _ (by decide)]; exact e11
    rw [e4']
    refine r_isub (pc := 141) q dX12_list_141 ?_
    refine r_ireturn (pc := 142) q rt dX12_list_142 ?_
    refine Or.inr ⟨ok, ?_⟩
    rw [eh4]
    exact lsP_bad f hP k1 k3 e12
  have END : (2 ≤ u ∧ u ≤ 3 ∧ h m 5 < 4) → ∀ (w d : Int) (h3 : sH), stL h h3 m d w → (w = 1 → h m 2 ≤ h3 m 13) → G X 0 0 97 [some (.ref m), some (.int (iI u)), some (.int (iI w)), none, none] [] sz S r h3 := by
    intro ok w d h3 ⟨f, pp, c⟩ hw
    rcases c with ⟨w0, k, p, n, ns, nl, us, ul, hP, k1, q1, q2⟩ | ⟨w1, q1, q2, q3, n, ns, nl, us, ul, n1, hP, hN⟩
    · refine r_aload_0 (pc := 97) q dX12_list_97 ?_
      refine r_geti (pc := 98) q fX12_141 (kz := 11) rfl (by decide) rfl hM.o dX12_list_98 ?_
      rw [q1]
      refine r_if_ne (pc := 101) q 124 dX12_list_101 (by decide) ⟨by omega, by omega⟩ (fun c101 => ?_) (fun c101 => ?_)
      · exact ENDA ok w h3 k p n ns nl us ul f hP k1.1 k1.2 q1 q2
      exact absurd c101 (by omega)
    · have hT := hw w1
      rw [PR_end hT] at hP
      have eN := hN.1
      have e2 := (lsF_b f).2
      by_cases n2 : n = 1
      · rw [if_pos (Or.inr (by omega))] at hP
        refine r_aload_0 (pc := 97) q dX12_list_97 ?_
        refine r_geti (pc := 98) q fX12_141 (kz := 11) rfl (by decide) rfl hM.o dX12_list_98 ?_
        rw [q1]
        refine r_if_ne (pc := 101) q 124 dX12_list_101 (by decide) ⟨by omega, by omega⟩ (fun c101 => ?_) (fun c101 => ?_)
        · exact absurd c101 (by decide)
        refine r_aload_0 (pc := 104) q dX12_list_104 ?_
        refine r_getr (pc := 105) q fX12_23 (kz := 7) rfl (by decide) rfl hM.o hM.r_stations dX12_list_105 ?_
        refine r_iconst (pc := 108) q dX12_list_108 ?_
        refine r_iald (pc := 109) q hM.s_stations (by omega) (by omega) dX12_list_109 ?_
        rw [eN]
        refine r_iconst (pc := 110) q dX12_list_110 ?_
        refine r_icmp_ne (pc := 111) q 124 dX12_list_111 (by decide) ⟨by omega, by omega⟩ ⟨by omega, by omega⟩ (fun c111 => ?_) (fun c111 => ?_)
        · exact absurd n2 c111
        refine r_aload_0 (pc := 114) q dX12_list_114 ?_
        refine r_iconst (pc := 115) q dX12_list_115 ?_
        refine r_aload_0 (pc := 116) q dX12_list_116 ?_
        refine r_geti (pc := 117) q fX12_109 (kz := 2) rfl (by decide) rfl hM.o dX12_list_117 ?_
        rw [e2]
        refine r_cI2 (pc := 120) q (c_X12_wrong (by first | assumption | exact ⟨by omega, by omega⟩ | omega)) mX12_150 hM.o (by decide) (Nat.le_of_ble_eq_true rfl) rfl dX12_list_120 (fun z5 h5 hz5 => ?_)
        refine r_istore_2 (pc := 123) q dX12_list_123 rfl ?_
        obtain ⟨ez, eh5⟩ := hz5
        rw [eh5]
        exact ENDA ok _ _ 1 (h m 2) n ns nl us ul (lsF_pf (lsF_pf f (Or.inl rfl)) (Or.inr (Or.inl rfl))) hP (by omega) (by omega) (by rw [pf_f _ m _ (by decide)]; exact pf_s _ _ _ _) (pf_s _ _ _ _)
      · rw [if_neg (by simp only [Bool.false_eq_true, false_or]; omega)] at hP
        refine r_aload_0 (pc := 97) q dX12_list_97 ?_
        refine r_geti (pc := 98) q fX12_141 (kz := 11) rfl (by decide) rfl hM.o dX12_list_98 ?_
        rw [q1]
        refine r_if_ne (pc := 101) q 124 dX12_list_101 (by decide) ⟨by omega, by omega⟩ (fun c101 => ?_) (fun c101 => ?_)
        · exact absurd c101 (by decide)
        refine r_aload_0 (pc := 104) q dX12_list_104 ?_
        refine r_getr (pc := 105) q fX12_23 (kz := 7) rfl (by decide) rfl hM.o hM.r_stations dX12_list_105 ?_
        refine r_iconst (pc := 108) q dX12_list_108 ?_
        refine r_iald (pc := 109) q hM.s_stations (by omega) (by omega) dX12_list_109 ?_
        rw [eN]
        refine r_iconst (pc := 110) q dX12_list_110 ?_
        refine r_icmp_ne (pc := 111) q 124 dX12_list_111 (by decide) ⟨by omega, by omega⟩ ⟨by omega, by omega⟩ (fun c111 => ?_) (fun c111 => ?_)
        · refine r_aload_0 (pc := 124) q dX12_list_124 ?_
          refine r_iconst (pc := 125) q dX12_list_125 ?_
          refine r_puti (pc := 126) q fX12_109 (kz := 2) rfl (by decide) rfl hM.o dX12_list_126 (fun h4 eh4 => ?_)
          refine r_aload_0 (pc := 129) q dX12_list_129 ?_
          refine r_geti (pc := 130) q fX12_141 (kz := 11) rfl (by decide) rfl hM.o dX12_list_130 ?_
          have e4 : h4 m 11 = 0 := by rw [eh4, up_s, up_n _ _ (by decide)]; exact q1
          rw [e4]
          refine r_if_le (pc := 133) q 143 dX12_list_133 (by decide) ⟨by omega, by omega⟩ (fun c133 => ?_) (fun c133 => ?_)
          · refine cpy ok w n h4 ?_ ?_ (fun h5 hC => ?_)
            · rw [eh4, up_s, up_n _ _ (by decide)]; exact f.2.2.2.2.2.2 5 (by decide) (by decide) (by decide) (by decide)
            · rw [eh4, up_n _ _ (by omega)]; exact eN
            · rw [eh4] at hC
              exact lsP_ok f hN (by omega) n1.2 L0 (by omega) hP q2 hC
          exact absurd (by omega) c133
        exact absurd c111 n2
  have LP : (2 ≤ u ∧ u ≤ 3 ∧ h m 5 < 4) → ∀ (d : Nat) (w : Int) (h3 : sH), stL h h3 m d w → (h3 m 13 < h m 2 → ¬ (bA h m (h3 m 13) = 32 ∨ bA h m (h3 m 13) = 10)) → G X 0 0 55 [some (.ref m), some (.int (iI u)), some (.int (iI w)), none, none] [] sz S r h3 := by
    intro ok d
    induction d with
    | zero =>
      intro w h3 st nb
      have wb : w = 0 ∨ (w = 1 ∧ h m 2 ≤ h3 m 13) := by
        rcases st.2.2 with ⟨z, -⟩ | ⟨z, -, -, q, -⟩
        · exact Or.inl z
        · exact Or.inr ⟨z, by omega⟩
      have e2 := (lsF_b st.1).2
      have pp := st.2.1
      refine r_iload_2 (pc := 55) q dX12_list_55 ?_
      refine r_if_eq (pc := 56) q 97 dX12_list_56 (by decide) ⟨by omega, by omega⟩ (fun c56 => ?_) (fun c56 => ?_)
      · exact END ok w _ h3 st (fun z => by omega)
      refine r_aload_0 (pc := 59) q dX12_list_59 ?_
      refine r_geti (pc := 60) q fX12_144 (kz := 13) rfl (by decide) rfl hM.o dX12_list_60 ?_
      refine r_aload_0 (pc := 63) q dX12_list_63 ?_
      refine r_geti (pc := 64) q fX12_109 (kz := 2) rfl (by decide) rfl hM.o dX12_list_64 ?_
      rw [e2]
      refine r_icmp_ge (pc := 67) q 97 dX12_list_67 (by decide) ⟨by omega, by omega⟩ ⟨by omega, by omega⟩ (fun c67 => ?_) (fun c67 => ?_)
      · exact END ok w _ h3 st (fun z => by omega)
      exact absurd (by omega) c67
    | succ d ih =>
      intro w h3 st nb
      have e2 := (lsF_b st.1).2
      have eb := (lsF_b st.1).1
      have pp := st.2.1
      have wb : w = 0 ∨ w = 1 := by
        rcases st.2.2 with ⟨z, -⟩ | ⟨z, -⟩
        · exact Or.inl z
        · exact Or.inr z
      have B89 : ∀ (w2 : Int) (h5 : sH), stL h h5 m d w2 → G X 0 0 89 [some (.ref m), some (.int (iI u)), some (.int (iI w)), none, none] [.int (iI w2)] sz S r h5 := by
        intro w2 h5 s5
        have e52 := (lsF_b s5.1).2
        have e5b := (lsF_b s5.1).1
        refine r_istore_2 (pc := 89) q dX12_list_89 rfl ?_
        refine r_aload_0 (pc := 90) q dX12_list_90 ?_
        refine r_cV0 (pc := 91) q (c_X12_blanks hM (by omega) (by omega) s5.2.1.1 (by rw [e52]; exact s5.2.1.2)) mX12_147 hM.o (by decide) (Nat.le_of_ble_eq_true rfl) rfl dX12_list_91 (fun h6 hz6 => ?_)
        refine r_goto (pc := 94) (tgt := 55) q dX12_list_94 (by decide) ?_
        obtain ⟨a, eh6, y1, y2, y3, y4⟩ := hz6
        have s6 := stL_blk s5 y1 y2 y3
        rw [← eh6] at s6
        have e613 : h6 m 13 = a := by rw [eh6]; exact pf_s _ _ _ _
        refine ih w2 h6 s6 (fun z => ?_)
        rw [e613] at z ⊢
        rw [e5b, e52] at y4
        exact y4 z
      refine r_iload_2 (pc := 55) q dX12_list_55 ?_
      refine r_if_eq (pc := 56) q 97 dX12_list_56 (by decide) ⟨by omega, by omega⟩ (fun c56 => ?_) (fun c56 => ?_)
      · exact END ok w _ h3 st (fun z => by omega)
      refine r_aload_0 (pc := 59) q dX12_list_59 ?_
      refine r_geti (pc := 60) q fX12_144 (kz := 13) rfl (by decide) rfl hM.o dX12_list_60 ?_
      refine r_aload_0 (pc := 63) q dX12_list_63 ?_
      refine r_geti (pc := 64) q fX12_109 (kz := 2) rfl (by decide) rfl hM.o dX12_list_64 ?_
      rw [e2]
      refine r_icmp_ge (pc := 67) q 97 dX12_list_67 (by decide) ⟨by omega, by omega⟩ ⟨by omega, by omega⟩ (fun c67 => ?_) (fun c67 => ?_)
      · exact END ok w _ h3 st (fun z => by omega)
      refine r_aload_0 (pc := 70) q dX12_list_70 ?_
      rcases st.2.2 with ⟨z, -⟩ | ⟨w1, q1, q2, q3, n, ns, nl, us, ul, n1, hP, hN⟩
      · exact absurd z (by omega)
      refine r_cI0 (pc := 71) q (c_X12_numeral (ns := ns) (nl := nl) (us := us) (ul := ul) hM (by omega) (by omega) pp.1 (by omega) (by rw [eb]; exact nb (by omega)) hN.1 n1.1 n1.2) mX12_164 hM.o (by decide) (Nat.le_of_ble_eq_true rfl) rfl dX12_list_71 (fun z4 h4 hz4 => ?_)
      obtain ⟨g1, g2, g3, g4, g5⟩ := hz4
      rw [eb, e2] at g5
      have f := st.1
      have F4 : lsF h h4 m := ⟨fun x x0 x5 x6 x7 x8 => by rw [g1 x x0 x7 x8]; exact f.1 x x0 x5 x6 x7 x8, fun x x0 => by rw [g1 _ (by omega) (by omega) (by omega)]; exact f.2.1 x x0, fun x x0 => by rw [g1 _ (by omega) (by omega) (by omega)]; exact f.2.2.1 x x0, fun x x0 => by rw [g4 x (by omega)]; exact f.2.2.2.1 x x0, fun x x0 => by rw [g3 x (by omega)]; exact f.2.2.2.2.1 x x0, by rw [g2 0 (by decide) (by decide) (by decide)]; exact f.2.2.2.2.2.1, fun k k0 k1 k2 k3 => by rw [g2 k k1 k2 k3]; exact f.2.2.2.2.2.2 k k0 k1 k2 k3⟩
      refine r_if_eq (pc := 74) q 88 dX12_list_74 (by decide) ⟨by omega, by omega⟩ (fun c74 => ?_) (fun c74 => ?_)
      · refine r_iconst (pc := 88) q dX12_list_88 ?_
        rcases g5 with ⟨z0, p, y1, y2, y3, y4⟩ | ⟨z1, -⟩
        · exact B89 0 h4 ⟨F4, by omega, Or.inl ⟨rfl, 1, p, n, ns, nl, us, ul, by rw [hP]; exact y4, by omega, y1, y2⟩⟩
        · omega
      refine r_aload_0 (pc := 77) q dX12_list_77 ?_
      rcases g5 with ⟨z0, -⟩ | ⟨z1, y11, y12, L, y1, y13, yT, y8, y7, yP⟩
      · exact absurd z0 c74
      have e42 := (lsF_b F4).2
      have e4b := (lsF_b F4).1
      have hN4 : lsN (bA h m) h4 m n n ns nl (up us (n - 1) (h3 m 13)) (up ul (n - 1) L) := by
        refine ⟨by rw [g1 _ (by omega) (by omega) (by omega)]; exact hN.1, fun i i0 i1 => by rw [g1 _ (by omega) (by omega) (by omega)]; exact hN.2.1 i i0 i1, fun i i0 i1 => ?_⟩
        by_cases ei : i = n - 1
        · subst ei
          rw [up_s, up_s, show 40 + (n - 1) = 39 + n by omega]
          exact ⟨y8, y1, y7⟩
        · rw [up_n _ _ ei, up_n _ _ ei, g3 _ (by omega)]
          obtain ⟨x1, x2, x3⟩ := hN.2.2 i i0 (by omega)
          refine ⟨x1, x2, fun j j0 j1 => ?_⟩
          rw [g4 _ (by omega)]
          exact x3 j j0 j1
      refine r_cI0 (pc := 78) q (c_X12_station (ns := ns) (nl := nl) (us := up us (n - 1) (h3 m 13)) (ul := up ul (n - 1) L) hM (by omega) (by omega) (by omega) (by omega) hN4.1 (by omega) n1.2 (by rw [e4b]; exact hN4.2.1)) mX12_160 hM.o (by decide) (Nat.le_of_ble_eq_true rfl) rfl dX12_list_78 (fun z5 h5 hz5 => ?_)
      have s5 : stL h h5 m d z5 := stL_stn F4 (by omega) (by rw [y11]; exact q1) (by rw [y12]; exact q2) (by omega) (by rw [hP, yP, y13]) hN4 (by omega) hz5
      refine r_if_eq (pc := 81) q 88 dX12_list_81 (by decide) ⟨by omega, by omega⟩ (fun c81 => ?_) (fun c81 => ?_)
      · refine r_iconst (pc := 88) q dX12_list_88 ?_
        have ez : z5 = 0 := by
          rcases s5.2.2 with ⟨z, -⟩ | ⟨z, -⟩
          · exact z
          · omega
        rw [ez] at s5
        exact B89 0 h5 s5
      refine r_iconst (pc := 84) q dX12_list_84 ?_
      refine r_goto (pc := 85) (tgt := 89) q dX12_list_85 (by decide) ?_
      have ez : z5 = 1 := by
        rcases s5.2.2 with ⟨z, -⟩ | ⟨z, -⟩
        · omega
        · exact z
      rw [ez] at s5
      exact B89 1 h5 s5
  refine r_aload_0 (pc := 0) q dX12_list_0 ?_
  refine r_iconst (pc := 1) q dX12_list_1 ?_
  refine r_puti (pc := 2) q fX12_106 (kz := 0) rfl (by decide) rfl hM.o dX12_list_2 (fun h0 eh0 => ?_)
  obtain ⟨f0, f1⟩ := th0 eh0
  refine r_iload_1 (pc := 5) q dX12_list_5 ?_
  refine r_iconst (pc := 6) q dX12_list_6 ?_
  refine r_iconst (pc := 7) q dX12_list_7 ?_
  refine r_sI3 (pc := 8) q (c_X12_within (by first | assumption | exact ⟨by omega, by omega⟩ | omega) (by first | assumption | exact ⟨by omega, by omega⟩ | omega) (by first | assumption | exact ⟨by omega, by omega⟩ | omega)) mX12_112 (by decide) (Nat.le_of_ble_eq_true rfl) rfl dX12_list_8 (fun z1 h1 hz1 => ?_)
  obtain ⟨hz1, rfl⟩ := hz1
  refine r_if_eq (pc := 11) q 22 dX12_list_11 (by decide) ⟨by omega, by omega⟩ (fun c11 => ?_) (fun c11 => ?_)
  · refine r_iconst (pc := 22) q dX12_list_22 ?_
    refine r_ireturn (pc := 23) q rt dX12_list_23 ?_
    exact Or.inl ⟨by omega, rfl, eh0⟩
  refine r_aload_0 (pc := 14) q dX12_list_14 ?_
  refine r_geti (pc := 15) q fX12_157 (kz := 5) rfl (by decide) rfl hM.o dX12_list_15 ?_
  have e05 := f1 5 (by decide)
  rw [e05]
  refine r_iconst (pc := 18) q dX12_list_18 ?_
  refine r_icmp_ne (pc := 19) q 24 dX12_list_19 (by decide) ⟨by omega, by omega⟩ ⟨by omega, by omega⟩ (fun c19 => ?_) (fun c19 => ?_)
  · refine r_aload_0 (pc := 24) q dX12_list_24 ?_
    refine r_iconst (pc := 25) q dX12_list_25 ?_
    refine r_puti (pc := 26) q fX12_141 (kz := 11) rfl (by decide) rfl hM.o dX12_list_26 (fun h2 eh2 => ?_)
    refine r_aload_0 (pc := 29) q dX12_list_29 ?_
    refine r_iconst (pc := 30) q dX12_list_30 ?_
    refine r_puti (pc := 31) q fX12_36 (kz := 12) rfl (by decide) rfl hM.o dX12_list_31 (fun h3 eh3 => ?_)
    refine r_aload_0 (pc := 34) q dX12_list_34 ?_
    refine r_getr (pc := 35) q fX12_23 (kz := 7) rfl (by decide) rfl hM.o hM.r_stations dX12_list_35 ?_
    refine r_iconst (pc := 38) q dX12_list_38 ?_
    refine r_iconst (pc := 39) q dX12_list_39 ?_
    refine r_iast (pc := 40) q hM.s_stations (by omega) (by omega) dX12_list_40 (fun h4 eh4 => ?_)
    refine r_aload_0 (pc := 41) q dX12_list_41 ?_
    refine r_iconst (pc := 42) q dX12_list_42 ?_
    refine r_puti (pc := 43) q fX12_144 (kz := 13) rfl (by decide) rfl hM.o dX12_list_43 (fun h5 eh5 => ?_)
    refine r_aload_0 (pc := 46) q dX12_list_46 ?_
    have ok : 2 ≤ u ∧ u ≤ 3 ∧ h m 5 < 4 := by omega
    have o5 : ∀ x : Nat, x ≠ m → x ≠ m + 5 → h5 x = h x := fun x x0 x5 => by rw [eh5, up_n _ _ x0, eh4, up_n _ _ x5, eh3, up_n _ _ x0, eh2, up_n _ _ x0]; exact f0 x x0
    have m4 : h4 m = h3 m := by rw [eh4, up_n _ _ (by omega)]
    have m5 : ∀ k : Int, k ≠ 0 → k ≠ 11 → k ≠ 12 → k ≠ 13 → h5 m k = h m k := fun k k0 k1 k2 k3 => by rw [eh5, up_s, up_n _ _ k3, m4, eh3, up_s, up_n _ _ k2, eh2, up_s, up_n _ _ k1]; exact f1 k k0
    have m50 : h5 m 0 = 0 := by rw [eh5, up_s, up_n _ _ (by decide), m4, eh3, up_s, up_n _ _ (by decide), eh2, up_s, up_n _ _ (by decide), eh0, up_s, up_s]
    have m511 : h5 m 11 = 0 := by rw [eh5, up_s, up_n _ _ (by decide), m4, eh3, up_s, up_n _ _ (by decide), eh2, up_s, up_s]
    have m512 : h5 m 12 = -1 := by rw [eh5, up_s, up_n _ _ (by decide), m4, eh3, up_s, up_s]
    have m513 : h5 m 13 = 0 := by rw [eh5, up_s, up_s]
    have e55 : h5 (m + 5) = up (h (m + 5)) 4 0 := by rw [eh5, up_n _ _ (by omega), eh4, up_s, eh3, up_n _ _ (by omega), eh2, up_n _ _ (by omega), f0 _ (by omega)]
    have F5 : lsF h h5 m := ⟨fun x x0 x5 _ _ _ => o5 x x0 x5, fun x x0 => by rw [e55, up_n _ _ x0], fun x _ => by rw [o5 _ (by omega) (by omega)], fun x _ => by rw [o5 _ (by omega) (by omega)], fun x _ => by rw [o5 _ (by omega) (by omega)], m50, m5⟩
    have e52 := (lsF_b F5).2
    have e5b := (lsF_b F5).1
    have hN5 : lsN (bA h m) h5 m 0 0 fn0 fn0 fn0 fn0 := ⟨by rw [e55, up_s], fun i i0 i1 => by omega, fun i i0 i1 => by omega⟩
    refine r_cI0 (pc := 47) q (c_X12_station (n := 0) (ns := fn0) (nl := fn0) (us := fn0) (ul := fn0) hM (by omega) (by omega) (by omega) (by omega) hN5.1 (by omega) (by omega) (fun i i0 i1 => by omega)) mX12_160 hM.o (by decide) (Nat.le_of_ble_eq_true rfl) rfl dX12_list_47 (fun z6 h6 hz6 => ?_)
    have s6 : stL h h6 m (h m 2) z6 := stL_stn F5 (by omega) m511 m512 (by omega) (by rw [m513]) hN5 (by omega) hz6
    have e62 := (lsF_b s6.1).2
    have e6b := (lsF_b s6.1).1
    refine r_istore_2 (pc := 50) q dX12_list_50 rfl ?_
    refine r_aload_0 (pc := 51) q dX12_list_51 ?_
    refine r_cV0 (pc := 52) q (c_X12_blanks hM (by omega) (by omega) s6.2.1.1 (by rw [e62]; exact s6.2.1.2)) mX12_147 hM.o (by decide) (Nat.le_of_ble_eq_true rfl) rfl dX12_list_52 (fun h7 hz7 => ?_)
    obtain ⟨a, eh7, y1, y2, y3, y4⟩ := hz7
    have s7 := stL_blk s6 y1 y2 y3
    rw [← eh7] at s7
    have e713 : h7 m 13 = a := by rw [eh7]; exact pf_s _ _ _ _
    refine LP ok (h m 2).toNat z6 h7 (by rw [show (((h m 2).toNat : Nat) : Int) = h m 2 by omega]; exact s7) (fun z => ?_)
    rw [e713] at z ⊢
    rw [e6b, e62] at y4
    exact y4 z
  refine r_iconst (pc := 22) q dX12_list_22 ?_
  refine r_ireturn (pc := 23) q rt dX12_list_23 ?_
  exact Or.inl ⟨by omega, rfl, eh0⟩
