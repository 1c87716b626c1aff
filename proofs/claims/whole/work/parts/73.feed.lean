theorem step_feed {h h1 h2 : sH} {x m : Nat} {g : Int → Int → Int → Int} {n : Int → Int → Int} {u : Int → Int → Int → Int} {un : Int → Int → Int} {rg sg : Int → Int → Int} {rn sn : Int → Int} {a b c d e z z2 : Int} (hm : x + 325 ≤ m) (hr : relS h x m g n u un rg rn sg sn) (p1 : (180 < h m 2 ∧ z = -1 ∧ h1 = h) ∨ (h m 2 ≤ 180 ∧ z = h m 2 + 20 ∧ h1 (x + 1) = up (h (x + 1)) 1 (h m 2 + 20) ∧ (∀ j : Int, 0 ≤ j → j < 20 → h1 (x + 2) (h m 2 + j) = sI (wsel a b c d e j) j % 256) ∧ (∀ j : Int, j < h m 2 → h1 (x + 2) j = h (x + 2) j) ∧ ∀ y : Nat, y ≠ x + 1 → y ≠ x + 2 → h1 y = h y)) (p2 : (180 < h1 m 2 ∧ z2 = -1 ∧ h2 = pf h1 m 0 0) ∨ (h1 m 2 ≤ 180 ∧ z2 = h1 m 2 + 20 ∧ h2 m = up (up (h1 m) 0 0) 2 (h1 m 2 + 20) ∧ (∀ j : Int, 0 ≤ j → j < 20 → h2 (m + 1) (h1 m 2 + j) % 256 = sI (wsel a b c d e j) j % 256) ∧ (∀ j : Int, j < h1 m 2 → h2 (m + 1) j = h1 (m + 1) j) ∧ ∀ y : Nat, y ≠ m → y ≠ m + 1 → h2 y = h1 y)) : z = z2 ∧ relS h2 x m g n u un rg rn sg sn := by
  obtain ⟨t1, ⟨t0, t2⟩, tb, -⟩ := hr.1.1
  rcases p1 with ⟨a1, a2, a3⟩ | ⟨a1, a2, a3, a4, a5, a6⟩
  · rw [a3] at p2
    rcases p2 with ⟨b1, b2, b3⟩ | ⟨b1, -⟩
    · exact ⟨by omega, rel_th hm hr b3⟩
    · omega
  · have em : h1 m = h m := a6 m (by omega) (by omega)
    have em1 : h1 (m + 1) = h (m + 1) := a6 _ (by omega) (by omega)
    rw [em, em1] at p2
    rcases p2 with ⟨b1, -⟩ | ⟨b1, b2, b3, b4, b5, b6⟩
    · omega
    · refine ⟨by omega, ?_⟩
      have c3 : h2 m 2 = h m 2 + 20 := by rw [b3, up_s]
      refine rel_tp hm hr (fun y y0 y1 _ _ _ y5 _ => by rw [b6 y (by omega) (by omega)]; exact a6 y y0 y1) (fun y y0 _ _ => by rw [b6 y (by omega) (by omega)]; exact a6 y (by omega) (by omega)) (fun k k0 k2 => by rw [b3, up_n _ _ k2, up_n _ _ k0]) ⟨?_, by rw [c3]; omega, fun j j0 j1 => ?_, fun j j0 => bA_out j0⟩
      · rw [b6 _ (by omega) (by omega), a3, up_s, c3]
      · rw [bA_t j1, b6 (x + 1 + 1) (by omega) (by omega)]
        by_cases q : j < h m 2
        · have w := tb j j0 q
          rw [bA_t q] at w
          rw [b5 j q, show h1 (x + 1 + 1) j = h (x + 1 + 1) j from a5 j q]
          exact w
        · have w1 := a4 (j - h m 2) (by omega) (by omega)
          have w2 := b4 (j - h m 2) (by omega) (by omega)
          rw [show h m 2 + (j - h m 2) = j by omega] at w1 w2
          rw [w2, show h1 (x + 1 + 1) j = _ from w1]
          omega
