/-- only the tape has changed -/
theorem rel_tp {h h2 : sH} {x m : Nat} {g : Int → Int → Int → Int} {n : Int → Int → Int} {u : Int → Int → Int → Int} {un : Int → Int → Int} {rg sg : Int → Int → Int} {rn sn : Int → Int} (hm : x + 325 ≤ m) (hr : relS h x m g n u un rg rn sg sn) (fc : ∀ a : Nat, a ≠ x + 1 → a ≠ x + 2 → a ≠ x + 3 → a ≠ x + 4 → a ≠ x + 264 → a < x + 265 → (∀ l : Nat, l < 4 → a ≠ x + 10 + 44 * l) → h2 a = h a) (fm : ∀ a : Nat, m + 1 < a → a < m + 19 → a ≠ m + 3 → h2 a = h a) (f0 : ∀ k : Int, k ≠ 0 → k ≠ 2 → h2 m k = h m k) (ht : tpI h2 (x + 1) (bA h2 m) (h2 m 2)) : relS h2 x m g n u un rg rn sg sn := by
  obtain ⟨h', hh⟩ : ∃ h' : sH, h' = fun a => if a = x + 1 ∨ a = x + 2 ∨ a = x + 3 ∨ a = x + 4 ∨ a = m + 1 then h a else if a = m then up (h2 m) 2 (h m 2) else h2 a := ⟨_, rfl⟩
  have k1 : ∀ a : Nat, (a = x + 1 ∨ a = x + 2 ∨ a = x + 3 ∨ a = x + 4 ∨ a = m + 1) → h' a = h a := fun a z => by rw [hh]; exact if_pos z
  have k2 : ∀ a : Nat, ¬ (a = x + 1 ∨ a = x + 2 ∨ a = x + 3 ∨ a = x + 4 ∨ a = m + 1) → a ≠ m → h' a = h2 a := fun a z y => by rw [hh]; show (if a = x + 1 ∨ a = x + 2 ∨ a = x + 3 ∨ a = x + 4 ∨ a = m + 1 then h a else if a = m then up (h2 m) 2 (h m 2) else h2 a) = h2 a; rw [if_neg z, if_neg y]
  have k3 : h' m = up (h2 m) 2 (h m 2) := by rw [hh]; show (if m = x + 1 ∨ m = x + 2 ∨ m = x + 3 ∨ m = x + 4 ∨ m = m + 1 then h m else if m = m then up (h2 m) 2 (h m 2) else h2 m) = _; rw [if_neg (by omega), if_pos rfl]
  have r := rel_fr hr (h2 := h') (fun a a0 a1 a2 => by
    by_cases z : a = x + 1 ∨ a = x + 2 ∨ a = x + 3 ∨ a = x + 4 ∨ a = m + 1
    · exact k1 a z
    · rw [k2 a z (by omega)]; exact fc a (by omega) (by omega) (by omega) (by omega) a0 a1 a2) (fun a a0 a1 a2 => by
    by_cases z : a = m + 1
    · exact k1 a (by omega)
    · rw [k2 a (by omega) (by omega)]; exact fm a (by omega) a1 a2) (fun k k0 => by
    rw [k3]
    by_cases z : k = 2
    · rw [z, up_s]
    · rw [up_n _ _ z]; exact f0 k k0 z)
  have km : ∀ k : Int, k ≠ 2 → h' m k = h2 m k := fun k z => by rw [k3, up_n _ _ z]
  have kc : ∀ a : Nat, a ≠ x + 1 → a ≠ x + 2 → a ≠ x + 3 → a ≠ x + 4 → a ≠ m + 1 → a ≠ m → h' a = h2 a := fun a a1 a2 a3 a4 a5 a6 => k2 a (by omega) a6
  obtain ⟨⟨-, ⟨c0, c4⟩, hl, hL, hH, hs, dd⟩, e5, ep, e29, hre, hrr, hrs, ⟨e27, e28⟩, hrh, hso⟩ := r
  have ex := kc x (by omega) (by omega) (by omega) (by omega) (by omega) (by omega)
  have el := kc (x + 183) (by omega) (by omega) (by omega) (by omega) (by omega) (by omega)
  rw [ex] at c0 c4 hl dd e5 ep e29 hre
  have eH : hbC h2 (x + 258) := by
    unfold hbC at hH ⊢
    rw [kc (x + 258) (by omega) (by omega) (by omega) (by omega) (by omega) (by omega), kc (x + 258 + 1) (by omega) (by omega) (by omega) (by omega) (by omega) (by omega), kc (x + 258 + 2) (by omega) (by omega) (by omega) (by omega) (by omega) (by omega), kc (x + 258 + 3) (by omega) (by omega) (by omega) (by omega) (by omega) (by omega)] at hH
    exact hH
  have rt : ∀ l : Int, 0 ≤ l → l < h2 x 4 → rtI h2 (x + 7 + 44 * l.toNat) (g l) (n l) (u l) (un l) := fun l l0 l1 => by
    obtain ⟨q1, q2, q3, q4⟩ := hl l l0 l1
    rw [kc (x + 7 + 44 * l.toNat) (by omega) (by omega) (by omega) (by omega) (by omega) (by omega)] at q1 q2 q3 q4
    exact ⟨q1, q2, fun i i0 i1 => ⟨nmC_fr (q3 i i0 i1).1 (kc _ (by omega) (by omega) (by omega) (by omega) (by omega) (by omega)).symm (kc _ (by omega) (by omega) (by omega) (by omega) (by omega) (by omega)).symm, (q3 i i0 i1).2⟩, fun i i0 i1 => ⟨nuC_fr (q4 i i0 i1).1 (kc _ (by omega) (by omega) (by omega) (by omega) (by omega) (by omega)).symm (kc _ (by omega) (by omega) (by omega) (by omega) (by omega) (by omega)).symm, (q4 i i0 i1).2⟩⟩
  have r12 := hL.1.2
  have s12 := hL.2.2.1.2
  rw [el] at r12 s12
  refine ⟨⟨ht, ⟨c0, c4⟩, rt, lnC_fr hL (fun a a0 a1 => (kc a (by omega) (by omega) (by omega) (by omega) (by omega) (by omega)).symm), eH, by rw [← kc (x + 263) (by omega) (by omega) (by omega) (by omega) (by omega) (by omega)]; exact hs, dd⟩, by rw [← km 5 (by decide)]; exact e5, by rw [← km 12 (by decide)]; exact ep, by rw [← km 29 (by decide)]; exact e29, fun l l0 l1 => ?_, ?_, ?_, ?_, ?_, fun k k0 k1 => ?_⟩
  · obtain ⟨q1, q2, -, q4, q5⟩ := hre l l0 l1
    rw [kc (x + 7 + 44 * l.toNat) (by omega) (by omega) (by omega) (by omega) (by omega) (by omega)] at q1 q2 q4 q5
    rw [kc (m + 4) (by omega) (by omega) (by omega) (by omega) (by omega) (by omega)] at q1
    rw [kc (m + 5) (by omega) (by omega) (by omega) (by omega) (by omega) (by omega)] at q2
    rw [kc (m + 6) (by omega) (by omega) (by omega) (by omega) (by omega) (by omega)] at q4
    rw [kc (m + 7) (by omega) (by omega) (by omega) (by omega) (by omega) (by omega), kc (m + 8) (by omega) (by omega) (by omega) (by omega) (by omega) (by omega)] at q5
    exact ⟨q1, q2, rt l l0 l1, q4, q5⟩
  · refine ⟨by rw [← el, ← km 14 (by decide)]; exact hrr.1, fun k k0 k1 => ?_⟩
    have y := hrr.2 k k0 (by rw [el]; exact k1)
    rw [kc (x + 183 + 3 + 6 * k.toNat) (by omega) (by omega) (by omega) (by omega) (by omega) (by omega), kc (m + 9) (by omega) (by omega) (by omega) (by omega) (by omega) (by omega), kc (m + 10) (by omega) (by omega) (by omega) (by omega) (by omega) (by omega), kc (m + 11) (by omega) (by omega) (by omega) (by omega) (by omega) (by omega)] at y
    exact y
  · refine ⟨by rw [← el, ← km 18 (by decide)]; exact hrs.1, fun k k0 k1 => ?_⟩
    have y := hrs.2 k k0 (by rw [el]; exact k1)
    rw [kc (x + 183 + 6 + 6 * k.toNat) (by omega) (by omega) (by omega) (by omega) (by omega) (by omega), kc (m + 12) (by omega) (by omega) (by omega) (by omega) (by omega) (by omega), kc (m + 13) (by omega) (by omega) (by omega) (by omega) (by omega) (by omega), kc (m + 14) (by omega) (by omega) (by omega) (by omega) (by omega) (by omega), kc (m + 15) (by omega) (by omega) (by omega) (by omega) (by omega) (by omega)] at y
    exact y
  · rw [← el, ← km 27 (by decide), ← km 28 (by decide)]; exact ⟨e27, e28⟩
  · refine ⟨by rw [← kc (x + 258) (by omega) (by omega) (by omega) (by omega) (by omega) (by omega), ← km 23 (by decide)]; exact hrh.1, fun k k0 k1 => ?_⟩
    have y := hrh.2 k k0 (by rw [kc (x + 258) (by omega) (by omega) (by omega) (by omega) (by omega) (by omega)]; exact k1)
    rw [kc (x + 258 + 1) (by omega) (by omega) (by omega) (by omega) (by omega) (by omega), kc (x + 258 + 2) (by omega) (by omega) (by omega) (by omega) (by omega) (by omega), kc (x + 258 + 3) (by omega) (by omega) (by omega) (by omega) (by omega) (by omega), kc (m + 16) (by omega) (by omega) (by omega) (by omega) (by omega) (by omega), kc (m + 17) (by omega) (by omega) (by omega) (by omega) (by omega) (by omega), kc (m + 18) (by omega) (by omega) (by omega) (by omega) (by omega) (by omega)] at y
    exact y
  · rw [← kc (x + 263) (by omega) (by omega) (by omega) (by omega) (by omega) (by omega), ← kc (m + 2) (by omega) (by omega) (by omega) (by omega) (by omega) (by omega)]; exact hso k k0 k1
