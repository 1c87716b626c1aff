theorem same_count {h : sH} {x m : Nat} {g : Int → Int → Int → Int} {n : Int → Int → Int} {u : Int → Int → Int → Int} {un : Int → Int → Int} {rg sg : Int → Int → Int} {rn sn : Int → Int} (hr : relS h x m g n u un rg rn sg sn) (w : Int) : cntC h x w = cntM h m w := by
  obtain ⟨hI, e5, ep, e29, hre, ⟨r1, r2⟩, ⟨s1, -⟩, ⟨e27, e28⟩, ⟨b1, -⟩, -⟩ := hr
  have et := hI.1.1
  unfold cntC cntM
  rw [e5, r1, s1, b1, e29, et, e27, e28]
  by_cases q1 : 10 ≤ w ∧ w - 10 < h m 14
  · rw [if_pos q1, if_pos (show 10 ≤ w ∧ w < 10 + h m 14 by omega), (r2 (w - 10) (by omega) (by omega)).1]
  · rw [if_neg q1, if_neg (show ¬ (10 ≤ w ∧ w < 10 + h m 14) by omega)]
    by_cases q2 : 30 ≤ w ∧ w - 30 < h m 14
    · rw [if_pos q2, if_pos (show 30 ≤ w ∧ w < 30 + h m 14 by omega), (r2 (w - 30) (by omega) (by omega)).2.1]
    · rw [if_neg q2, if_neg (show ¬ (30 ≤ w ∧ w < 30 + h m 14) by omega)]
theorem same_apart {h h1 : sH} {x m : Nat} {g : Int → Int → Int → Int} {n : Int → Int → Int} {u : Int → Int → Int → Int} {un : Int → Int → Int} {rg sg : Int → Int → Int} {rn sn : Int → Int} {l1 i z z2 : Int} (hr : relS h x m g n u un rg rn sg sn) (f : ∀ a : Nat, m ≤ a → h1 a = h a) (p1 : (¬ (isNm (bA h m) 0 (h m 2) ∧ 0 ≤ l1 ∧ l1 < h x 4 ∧ 0 ≤ i ∧ i < h (x + 7 + 44 * l1.toNat) 4) ∧ z = -1) ∨ ((isNm (bA h m) 0 (h m 2) ∧ 0 ≤ l1 ∧ l1 < h x 4 ∧ 0 ≤ i ∧ i < h (x + 7 + 44 * l1.toNat) 4) ∧ z = dst (h (x + 263)) (bA h m) (h m 2) (g l1 i) (n l1 i))) (p2 : (¬ (isNm (bA h1 m) 0 (h1 m 2) ∧ 0 ≤ l1 ∧ l1 < h1 m 5 ∧ 0 ≤ i ∧ i < h1 (m + 5) l1) ∧ z2 = -1) ∨ ((isNm (bA h1 m) 0 (h1 m 2) ∧ 0 ≤ l1 ∧ l1 < h1 m 5 ∧ 0 ≤ i ∧ i < h1 (m + 5) l1) ∧ z2 = DD (cr (h1 (m + 2)) (bA h1 m) (g l1 i) (h1 m 2) (n l1 i)) (h1 m 2).toNat (n l1 i).toNat)) : z = z2 := by
  have eb : bA h1 m = bA h m := bA_eq (f _ (by omega)) (by rw [f m (by omega)])
  rw [eb, f m (by omega), f (m + 5) (by omega), f (m + 2) (by omega), ← hr.2.1] at p2
  by_cases ok : 0 ≤ l1 ∧ l1 < h x 4
  · obtain ⟨q1, q2, q3, q4, -⟩ := hr.2.2.2.2.1 l1 ok.1 ok.2
    rw [← q2] at p2
    rcases p1 with ⟨a1, a2⟩ | ⟨a1, a2⟩ <;> rcases p2 with ⟨b1, b2⟩ | ⟨b1, b2⟩
    · omega
    · exact absurd b1 a1
    · exact absurd a1 b1
    · have nm := q4 i a1.2.2.2.1 a1.2.2.2.2
      have t0 := hr.1.1.2.1.1
      rw [cr_dst t0 (by have := nm.1; omega)] at b2
      rw [a2, b2]
      exact dst_congr hr.2.2.2.2.2.2.2.2.2 (fun j j0 j1 => ⟨rfl, a1.1.2.2 j j0 j1⟩) (fun j j0 j1 => ⟨rfl, nm.2.2.1 j j0 j1⟩)
  · rcases p1 with ⟨a1, a2⟩ | ⟨a1, a2⟩
    · rcases p2 with ⟨b1, b2⟩ | ⟨b1, b2⟩
      · omega
      · exact absurd ⟨b1.2.1, b1.2.2.1⟩ ok
    · exact absurd ⟨a1.2.1, a1.2.2.1⟩ ok
