/-! ===== the relation in parts ===== -/
def rTp (h : sH) (x m : Nat) : Prop := tpI h (x + 1) (bA h m) (h m 2)
def rRt (h : sH) (x m : Nat) (g : Int → Int → Int → Int) (n : Int → Int → Int) (u : Int → Int → Int → Int) (un : Int → Int → Int) : Prop := (0 ≤ h x 4 ∧ h x 4 ≤ 4) ∧ h x 4 = h m 5 ∧ ∀ l : Int, 0 ≤ l → l < h x 4 → reL h (x + 7 + 44 * l.toNat) m l (g l) (n l) (u l) (un l)
def rnE (h : sH) (y m : Nat) (k : Int) (g : Int → Int) (n : Int) : Prop := ((0 ≤ h y 1 ∧ h y 1 ≤ 600) ∧ nmC h (y + 1) g n ∧ 0 ≤ h y 3 ∧ h y 3 ≤ 100000) ∧ h y 1 = h (m + 9) k ∧ h y 3 = h (m + 11) k ∧ NmP (h (m + 10) k) g n
def stE (h : sH) (y m : Nat) (k : Int) (g : Int → Int) (n : Int) : Prop := ((0 ≤ h y 1 ∧ h y 1 ≤ 600) ∧ nmC h (y + 1) g n ∧ (0 ≤ h y 2 ∧ h y 2 ≤ 600) ∧ 0 ≤ h y 3 ∧ h y 3 ≤ 100000) ∧ h y 1 = h (m + 12) k ∧ h y 2 = h (m + 14) k ∧ h y 3 = h (m + 15) k ∧ NmP (h (m + 13) k) g n
def rRu (h : sH) (x m : Nat) (rg : Int → Int → Int) (rn : Int → Int) : Prop := (0 ≤ h (x + 183) 2 ∧ h (x + 183) 2 ≤ 12) ∧ h (x + 183) 2 = h m 14 ∧ ∀ k : Int, 0 ≤ k → k < h (x + 183) 2 → rnE h (x + 183 + 3 + 6 * k.toNat) m k (rg k) (rn k)
def rSt (h : sH) (x m : Nat) (sg : Int → Int → Int) (sn : Int → Int) : Prop := (0 ≤ h (x + 183) 3 ∧ h (x + 183) 3 ≤ 12) ∧ h (x + 183) 3 = h m 18 ∧ ∀ k : Int, 0 ≤ k → k < h (x + 183) 3 → stE h (x + 183 + 6 + 6 * k.toNat) m k (sg k) (sn k)
def rCs (h : sH) (x m : Nat) : Prop := ((0 ≤ h (x + 183) 4 ∧ h (x + 183) 4 ≤ 50) ∧ (0 ≤ h (x + 183) 5 ∧ h (x + 183) 5 ≤ 50)) ∧ h (x + 183) 4 = h m 27 ∧ h (x + 183) 5 = h m 28
def rHb (h : sH) (x m : Nat) : Prop := hbC h (x + 258) ∧ reH h (x + 258) m
def rSo (h : sH) (x m : Nat) : Prop := soR (h (x + 263)) ∧ ∀ k : Int, 0 ≤ k → k < 26 → h (x + 263) k = h (m + 2) k
def rDy (h : sH) (x m : Nat) : Prop := h x 10 = h m 29 ∧ 0 ≤ h x 10 ∧ h x 10 ≤ 100000
theorem rel_pt {h : sH} {x m : Nat} {g : Int → Int → Int → Int} {n : Int → Int → Int} {u : Int → Int → Int → Int} {un : Int → Int → Int} {rg sg : Int → Int → Int} {rn sn : Int → Int} (hr : relS h x m g n u un rg rn sg sn) : rTp h x m ∧ rRt h x m g n u un ∧ rRu h x m rg rn ∧ rSt h x m sg sn ∧ rCs h x m ∧ rHb h x m ∧ rSo h x m ∧ rDy h x m ∧ h x 5 = h m 12 := by
  obtain ⟨⟨ht, cc, hl, ⟨L1, L2, L3, L4, L5, L6⟩, hH, hs, dd⟩, e5, ep, e29, hre, hrr, hrs, ee, hrh, hso⟩ := hr
  exact ⟨ht, ⟨cc, e5, hre⟩, ⟨L1, hrr.1, fun k k0 k1 => ⟨L2 k k0 k1, hrr.2 k k0 k1⟩⟩, ⟨L3, hrs.1, fun k k0 k1 => ⟨L4 k k0 k1, hrs.2 k k0 k1⟩⟩, ⟨⟨L5, L6⟩, ee⟩, ⟨hH, hrh⟩, ⟨hs, hso⟩, ⟨e29, dd⟩, ep⟩
theorem rel_mk {h : sH} {x m : Nat} {g : Int → Int → Int → Int} {n : Int → Int → Int} {u : Int → Int → Int → Int} {un : Int → Int → Int} {rg sg : Int → Int → Int} {rn sn : Int → Int} (pt : rTp h x m) (pr : rRt h x m g n u un) (pu : rRu h x m rg rn) (ps : rSt h x m sg sn) (pc : rCs h x m) (ph : rHb h x m) (po : rSo h x m) (pd : rDy h x m) (pp : h x 5 = h m 12) : relS h x m g n u un rg rn sg sn :=
  ⟨⟨pt, pr.1, fun l l0 l1 => (pr.2.2 l l0 l1).2.2.1, ⟨pu.1, fun k k0 k1 => (pu.2.2 k k0 k1).1, ps.1, fun k k0 k1 => (ps.2.2 k k0 k1).1, pc.1.1, pc.1.2⟩, ph.1, po.1, pd.2⟩, pr.2.1, pp, pd.1, pr.2.2, ⟨pu.2.1, fun k k0 k1 => (pu.2.2 k k0 k1).2⟩, ⟨ps.2.1, fun k k0 k1 => (ps.2.2 k k0 k1).2⟩, pc.2, ph.2, po.2⟩
theorem rTp_fr {h h2 : sH} {x m : Nat} (c : rTp h x m) (e0 : h2 (x + 1) = h (x + 1)) (e1 : h2 (x + 2) = h (x + 2)) (e2 : h2 (m + 1) = h (m + 1)) (e3 : h2 m 2 = h m 2) : rTp h2 x m := by
  unfold rTp; rw [bA_eq e2 e3, e3]; exact tpI_fr c e0 e1
theorem rTp_0 {h2 : sH} {x m : Nat} (e0 : h2 (x + 1) 1 = 0) (e3 : h2 m 2 = 0) : rTp h2 x m :=
  ⟨by rw [e0, e3], by omega, fun j j0 j1 => by omega, fun j j0 => bA_out j0⟩
theorem rtI_fr {h h2 : sH} {y : Nat} {g : Int → Int → Int} {n : Int → Int} {u : Int → Int → Int} {un : Int → Int} (c : rtI h y g n u un) (f : ∀ a : Nat, y ≤ a → a < y + 44 → a ≠ y + 3 → h2 a = h a) : rtI h2 y g n u un := by
  obtain ⟨c1, c2, c3, c4⟩ := c
  have ey := f y (by omega) (by omega) (by omega)
  refine ⟨by rw [ey]; exact c1, by rw [ey]; exact c2, fun i i0 i1 => ?_, fun i i0 i1 => ?_⟩
  · rw [ey] at i1
    exact ⟨nmC_fr (c3 i i0 i1).1 (f _ (by omega) (by omega) (by omega)) (f _ (by omega) (by omega) (by omega)), (c3 i i0 i1).2⟩
  · rw [ey] at i1
    exact ⟨nuC_fr (c4 i i0 i1).1 (f _ (by omega) (by omega) (by omega)) (f _ (by omega) (by omega) (by omega)), (c4 i i0 i1).2⟩
theorem reL_fr {h h2 : sH} {y m : Nat} {l : Int} {g : Int → Int → Int} {n : Int → Int} {u : Int → Int → Int} {un : Int → Int} (c : reL h y m l g n u un) (f : ∀ a : Nat, y ≤ a → a < y + 44 → a ≠ y + 3 → h2 a = h a) (e4 : h2 (m + 4) l = h (m + 4) l) (e5 : h2 (m + 5) l = h (m + 5) l) (e6 : ∀ i : Int, 0 ≤ i → i < 10 → h2 (m + 6) (10 * l + i) = h (m + 6) (10 * l + i)) (e8 : ∀ i : Int, 0 ≤ i → i < 10 → h2 (m + 8) (10 * l + i) = h (m + 8) (10 * l + i)) (e7 : ∀ i j : Int, 0 ≤ i → i < 10 → 0 ≤ j → j < 8 → h2 (m + 7) (9 * (10 * l + i) + j) = h (m + 7) (9 * (10 * l + i) + j)) : reL h2 y m l g n u un := by
  obtain ⟨c1, c2, c3, c4, c5⟩ := c
  have ey := f y (by omega) (by omega) (by omega)
  have y10 := c3.2.1.2
  refine ⟨by rw [ey, e4]; exact c1, by rw [ey, e5]; exact c2, rtI_fr c3 f, fun i i0 i1 => ?_, fun i i0 i1 => ?_⟩
  · rw [ey] at i1
    rw [e6 i i0 (by omega)]
    exact c4 i i0 i1
  · rw [ey] at i1
    rw [e8 i i0 (by omega)]
    refine ⟨(c5 i i0 i1).1, fun j j0 j1 => ?_⟩
    have un8 := (c3.2.2.2 i i0 i1).1.2.1.2
    rw [e7 i j i0 (by omega) j0 (by omega)]
    exact (c5 i i0 i1).2 j j0 j1
theorem rRt_fr {h h2 : sH} {x m : Nat} {g : Int → Int → Int → Int} {n : Int → Int → Int} {u : Int → Int → Int → Int} {un : Int → Int → Int} (c : rRt h x m g n u un) (f : ∀ a : Nat, x + 7 ≤ a → a < x + 183 → (∀ l : Nat, l < 4 → a ≠ x + 10 + 44 * l) → h2 a = h a) (e0 : h2 x 4 = h x 4) (fm : ∀ a : Nat, m + 4 ≤ a → a ≤ m + 8 → h2 a = h a) (e5 : h2 m 5 = h m 5) : rRt h2 x m g n u un := by
  obtain ⟨c1, c2, c3⟩ := c
  refine ⟨by rw [e0]; exact c1, by rw [e0, e5]; exact c2, fun l l0 l1 => ?_⟩
  rw [e0] at l1
  exact reL_fr (c3 l l0 l1) (fun a a0 a1 a2 => f a (by omega) (by omega) (fun k _ => by omega)) (by rw [fm (m + 4) (by omega) (by omega)]) (by rw [fm (m + 5) (by omega) (by omega)]) (fun i _ _ => by rw [fm (m + 6) (by omega) (by omega)]) (fun i _ _ => by rw [fm (m + 8) (by omega) (by omega)]) (fun i j _ _ _ _ => by rw [fm (m + 7) (by omega) (by omega)])
theorem rnE_fr {h h2 : sH} {y m : Nat} {k : Int} {g : Int → Int} {n : Int} (c : rnE h y m k g n) (e0 : h2 y = h y) (e1 : h2 (y + 1) = h (y + 1)) (e2 : h2 (y + 2) = h (y + 2)) (e9 : h2 (m + 9) k = h (m + 9) k) (e10 : h2 (m + 10) k = h (m + 10) k) (e11 : h2 (m + 11) k = h (m + 11) k) : rnE h2 y m k g n := by
  unfold rnE at c ⊢
  rw [e0, e9, e10, e11]
  exact ⟨⟨c.1.1, nmC_fr c.1.2.1 e1 e2, c.1.2.2⟩, c.2⟩
theorem stE_fr {h h2 : sH} {y m : Nat} {k : Int} {g : Int → Int} {n : Int} (c : stE h y m k g n) (e0 : h2 y = h y) (e1 : h2 (y + 1) = h (y + 1)) (e2 : h2 (y + 2) = h (y + 2)) (e12 : h2 (m + 12) k = h (m + 12) k) (e13 : h2 (m + 13) k = h (m + 13) k) (e14 : h2 (m + 14) k = h (m + 14) k) (e15 : h2 (m + 15) k = h (m + 15) k) : stE h2 y m k g n := by
  unfold stE at c ⊢
  rw [e0, e12, e13, e14, e15]
  exact ⟨⟨c.1.1, nmC_fr c.1.2.1 e1 e2, c.1.2.2⟩, c.2⟩
theorem rRu_fr {h h2 : sH} {x m : Nat} {rg : Int → Int → Int} {rn : Int → Int} (c : rRu h x m rg rn) (e0 : h2 (x + 183) 2 = h (x + 183) 2) (f : ∀ a : Nat, x + 186 ≤ a → a < x + 258 → (∀ k : Nat, a ≠ x + 189 + 6 * k ∧ a ≠ x + 190 + 6 * k ∧ a ≠ x + 191 + 6 * k) → h2 a = h a) (e14 : h2 m 14 = h m 14) (fm : ∀ a : Nat, m + 9 ≤ a → a ≤ m + 11 → h2 a = h a) : rRu h2 x m rg rn := by
  obtain ⟨c1, c2, c3⟩ := c
  refine ⟨by rw [e0]; exact c1, by rw [e0, e14]; exact c2, fun k k0 k1 => ?_⟩
  rw [e0] at k1
  exact rnE_fr (c3 k k0 k1) (f _ (by omega) (by omega) (fun j => by omega)) (f _ (by omega) (by omega) (fun j => by omega)) (f _ (by omega) (by omega) (fun j => by omega)) (by rw [fm (m + 9) (by omega) (by omega)]) (by rw [fm (m + 10) (by omega) (by omega)]) (by rw [fm (m + 11) (by omega) (by omega)])
theorem rSt_fr {h h2 : sH} {x m : Nat} {rg : Int → Int → Int} {rn : Int → Int} (c : rSt h x m rg rn) (e0 : h2 (x + 183) 3 = h (x + 183) 3) (f : ∀ a : Nat, x + 189 ≤ a → a < x + 258 → (∀ k : Nat, a ≠ x + 186 + 6 * k ∧ a ≠ x + 187 + 6 * k ∧ a ≠ x + 188 + 6 * k) → h2 a = h a) (e18 : h2 m 18 = h m 18) (fm : ∀ a : Nat, m + 12 ≤ a → a ≤ m + 15 → h2 a = h a) : rSt h2 x m rg rn := by
  obtain ⟨c1, c2, c3⟩ := c
  refine ⟨by rw [e0]; exact c1, by rw [e0, e18]; exact c2, fun k k0 k1 => ?_⟩
  rw [e0] at k1
  exact stE_fr (c3 k k0 k1) (f _ (by omega) (by omega) (fun j => by omega)) (f _ (by omega) (by omega) (fun j => by omega)) (f _ (by omega) (by omega) (fun j => by omega)) (by rw [fm (m + 12) (by omega) (by omega)]) (by rw [fm (m + 13) (by omega) (by omega)]) (by rw [fm (m + 14) (by omega) (by omega)]) (by rw [fm (m + 15) (by omega) (by omega)])
theorem rCs_fr {h h2 : sH} {x m : Nat} (c : rCs h x m) (e4 : h2 (x + 183) 4 = h (x + 183) 4) (e5 : h2 (x + 183) 5 = h (x + 183) 5) (e27 : h2 m 27 = h m 27) (e28 : h2 m 28 = h m 28) : rCs h2 x m := by
  unfold rCs at c ⊢; rw [e4, e5, e27, e28]; exact c
theorem rHb_fr {h h2 : sH} {x m : Nat} (c : rHb h x m) (f : ∀ a : Nat, x + 258 ≤ a → a ≤ x + 261 → h2 a = h a) (fm : ∀ a : Nat, m + 16 ≤ a → a ≤ m + 18 → h2 a = h a) (e : h2 m 23 = h m 23) : rHb h2 x m := by
  unfold rHb hbC reH at c ⊢
  rw [f (x + 258) (by omega) (by omega), f (x + 258 + 1) (by omega) (by omega), f (x + 258 + 2) (by omega) (by omega), f (x + 258 + 3) (by omega) (by omega), fm (m + 16) (by omega) (by omega), fm (m + 17) (by omega) (by omega), fm (m + 18) (by omega) (by omega), e]
  exact c
theorem rSo_fr {h h2 : sH} {x m : Nat} (c : rSo h x m) (e0 : h2 (x + 263) = h (x + 263)) (e1 : h2 (m + 2) = h (m + 2)) : rSo h2 x m := by
  unfold rSo at c ⊢; rw [e0, e1]; exact c
theorem rDy_fr {h h2 : sH} {x m : Nat} (c : rDy h x m) (e0 : h2 x 10 = h x 10) (e1 : h2 m 29 = h m 29) : rDy h2 x m := by
  unfold rDy at c ⊢; rw [e0, e1]; exact c
