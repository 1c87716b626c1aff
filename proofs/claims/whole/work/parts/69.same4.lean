theorem rel_co {h : sH} {x m : Nat} {g : Int → Int → Int → Int} {n : Int → Int → Int} {u : Int → Int → Int → Int} {un : Int → Int → Int} {rg sg : Int → Int → Int} {rn sn : Int → Int} (hr : relS h x m g n u un rg rn sg sn) {l1 i : Int} (l0 : 0 ≤ l1) (l2 : l1 < h x 4) (i0 : 0 ≤ i) (i1 : i + 1 < h (x + 7 + 44 * l1.toNat) 4) (v : Int) : coN (u l1 i) (un l1 i) (h (x + 260)) (h (x + 259)) (h (x + 261)) v (h (x + 258) 3).toNat = COM h m (10 * l1 + i) v (h m 23).toNat := by
  obtain ⟨-, -, -, -, hre, -, -, -, ⟨b1, b2⟩, -⟩ := hr
  obtain ⟨q1, q2, q3, q4, q5⟩ := hre l1 l0 l2
  obtain ⟨p1, p2⟩ := q5 i i0 i1
  have ev : vS (u l1 i) (un l1 i).toNat = vS (fun j => h (m + 7) (9 * (10 * l1 + i) + j)) (h (m + 8) (10 * l1 + i)).toNat := by
    have u0 := (q3.2.2.2 i i0 i1).1.2.1.1
    rw [p1]; exact vS_congr _ (fun j j0 j1 => (p2 j j0 (by omega)).symm)
  unfold coN COM
  rw [b1, ev]
  exact CO_congr _ (fun k k0 k1 => by
    obtain ⟨y1, y2, y3⟩ := b2 k k0 (by rw [b1]; omega)
    refine ⟨y2, y1, y3, ?_⟩
    rw [show h (x + 260) k = h (m + 17) k from y2, show h (x + 259) k = h (m + 16) k from y1, p1]
    exact wks_congr (fun j j0 j1 => (p2 j j0 j1).symm))
theorem same_reading {h h1 : sH} {x m : Nat} {g : Int → Int → Int → Int} {n : Int → Int → Int} {u : Int → Int → Int → Int} {un : Int → Int → Int} {rg sg : Int → Int → Int} {rn sn : Int → Int} {l1 i v z z2 : Int} (hr : relS h x m g n u un rg rn sg sn) (f : ∀ a : Nat, m ≤ a → h1 a = h a) (p1 : (¬ (0 ≤ l1 ∧ l1 < h x 4 ∧ 0 ≤ i ∧ i + 1 < h (x + 7 + 44 * l1.toNat) 4) ∧ z = -1) ∨ ((0 ≤ l1 ∧ l1 < h x 4 ∧ 0 ≤ i ∧ i + 1 < h (x + 7 + 44 * l1.toNat) 4) ∧ z = (if coN (u l1 i) (un l1 i) (h (x + 260)) (h (x + 259)) (h (x + 261)) v (h (x + 258) 3).toNat = 1000000 then -1 else coN (u l1 i) (un l1 i) (h (x + 260)) (h (x + 259)) (h (x + 261)) v (h (x + 258) 3).toNat))) (p2 : (¬ (0 ≤ l1 ∧ l1 < h1 m 5 ∧ 0 ≤ i ∧ i + 1 < h1 (m + 5) l1) ∧ z2 = -1) ∨ ((0 ≤ l1 ∧ l1 < h1 m 5 ∧ 0 ≤ i ∧ i + 1 < h1 (m + 5) l1) ∧ z2 = (if COM h1 m (10 * l1 + i) v (h1 m 23).toNat = 1000000 then -1 else COM h1 m (10 * l1 + i) v (h1 m 23).toNat))) : z = z2 := by
  have ec : COM h1 m (10 * l1 + i) v (h1 m 23).toNat = COM h m (10 * l1 + i) v (h m 23).toNat := by
    unfold COM
    rw [f m (by omega), f (m + 7) (by omega), f (m + 8) (by omega), f (m + 16) (by omega), f (m + 17) (by omega), f (m + 18) (by omega)]
  rw [ec, f m (by omega), f (m + 5) (by omega), ← hr.2.1] at p2
  by_cases ok : 0 ≤ l1 ∧ l1 < h x 4
  · obtain ⟨q1, q2, -⟩ := hr.2.2.2.2.1 l1 ok.1 ok.2
    rw [← q2] at p2
    rcases p1 with ⟨a1, a2⟩ | ⟨a1, a2⟩ <;> rcases p2 with ⟨b1, b2⟩ | ⟨b1, b2⟩
    · omega
    · exact absurd b1 a1
    · exact absurd a1 b1
    · rw [rel_co hr ok.1 ok.2 a1.2.2.1 a1.2.2.2] at a2
      rw [a2, b2]
  · rcases p1 with ⟨a1, a2⟩ | ⟨a1, a2⟩
    · rcases p2 with ⟨b1, b2⟩ | ⟨b1, b2⟩
      · omega
      · exact absurd ⟨b1.1, b1.2.1⟩ ok
    · exact absurd ⟨a1.1, a1.2.1⟩ ok
theorem same_letter {h h1 : sH} {x m : Nat} {g : Int → Int → Int → Int} {n : Int → Int → Int} {u : Int → Int → Int → Int} {un : Int → Int → Int} {rg sg : Int → Int → Int} {rn sn : Int → Int} {l1 i k z z2 : Int} (hr : relS h x m g n u un rg rn sg sn) (f : ∀ a : Nat, m ≤ a → h1 a = h a) (p1 : (¬ (0 ≤ l1 ∧ l1 < h x 4 ∧ 0 ≤ i ∧ i < h (x + 7 + 44 * l1.toNat) 4 ∧ 0 ≤ k ∧ k < n l1 i) ∧ z = -1) ∨ ((0 ≤ l1 ∧ l1 < h x 4 ∧ 0 ≤ i ∧ i < h (x + 7 + 44 * l1.toNat) 4 ∧ 0 ≤ k ∧ k < n l1 i) ∧ z = g l1 i k)) (p2 : (¬ (0 ≤ l1 ∧ l1 < h1 m 5 ∧ 0 ≤ i ∧ i < h1 (m + 5) l1 ∧ 0 ≤ k ∧ k < n l1 i) ∧ z2 = -1) ∨ ((0 ≤ l1 ∧ l1 < h1 m 5 ∧ 0 ≤ i ∧ i < h1 (m + 5) l1 ∧ 0 ≤ k ∧ k < n l1 i) ∧ z2 = g l1 i k)) : z = z2 := by
  rw [f m (by omega), f (m + 5) (by omega), ← hr.2.1] at p2
  by_cases ok : 0 ≤ l1 ∧ l1 < h x 4
  · obtain ⟨q1, q2, -⟩ := hr.2.2.2.2.1 l1 ok.1 ok.2
    rw [← q2] at p2
    rcases p1 with ⟨a1, a2⟩ | ⟨a1, a2⟩ <;> rcases p2 with ⟨b1, b2⟩ | ⟨b1, b2⟩
    · omega
    · exact absurd b1 a1
    · exact absurd a1 b1
    · omega
  · rcases p1 with ⟨a1, a2⟩ | ⟨a1, a2⟩
    · rcases p2 with ⟨b1, b2⟩ | ⟨b1, b2⟩
      · omega
      · exact absurd ⟨b1.1, b1.2.1⟩ ok
    · exact absurd ⟨a1.1, a1.2.1⟩ ok
