theorem bA_t {h : sH} {m : Nat} {j : Int} (e : j < h m 2) : bA h m j = h (m + 1) j % 256 := by unfold bA; rw [if_pos e]
theorem rel_th {h h2 : sH} {x m : Nat} {g : Int → Int → Int → Int} {n : Int → Int → Int} {u : Int → Int → Int → Int} {un : Int → Int → Int} {rg sg : Int → Int → Int} {rn sn : Int → Int} (hm : x + 325 ≤ m) (hr : relS h x m g n u un rg rn sg sn) {k : Int} (e : h2 = pf h m 0 k) : relS h2 x m g n u un rg rn sg sn :=
  rel_fr hr (fun a _ a1 _ => by rw [e, pf_o _ 0 k (by omega)]) (fun a a0 _ _ => by rw [e, pf_o _ 0 k (by omega)]) (fun j j0 => by rw [e, pf_f _ m k j0])
theorem step_end {h h1 h2 : sH} {x m : Nat} {g : Int → Int → Int → Int} {n : Int → Int → Int} {u : Int → Int → Int → Int} {un : Int → Int → Int} {rg sg : Int → Int → Int} {rn sn : Int → Int} {v z z2 : Int} (hm : x + 325 ≤ m) (hr : relS h x m g n u un rg rn sg sn) (p1 : (0 ≤ v ∧ v ≤ h (x + 1) 1 ∧ z = v ∧ h1 = pf h (x + 1) 1 v) ∨ ((v < 0 ∨ h (x + 1) 1 < v) ∧ z = -1 ∧ h1 = h)) (p2 : (0 ≤ v ∧ v ≤ h1 m 2 ∧ z2 = v ∧ h2 = pf (pf h1 m 0 0) m 2 v) ∨ ((v < 0 ∨ h1 m 2 < v) ∧ z2 = -1 ∧ h2 = pf h1 m 0 0)) : z = z2 ∧ relS h2 x m g n u un rg rn sg sn := by
  obtain ⟨t1, ⟨t0, t2⟩, tb, -⟩ := hr.1.1
  have em : h1 m = h m := by
    rcases p1 with ⟨-, -, -, e⟩ | ⟨-, -, e⟩
    · rw [e, pf_o _ 1 v (by omega)]
    · rw [e]
  rw [em] at p2
  rw [t1] at p1
  rcases p1 with ⟨a1, a2, a3, a4⟩ | ⟨a1, a2, a3⟩ <;> rcases p2 with ⟨b1, b2, b3, b4⟩ | ⟨b1, b2, b3⟩
  · refine ⟨by omega, ?_⟩
    have c1 : ∀ a : Nat, a ≠ m → h2 a = h1 a := fun a a0 => by rw [b4, pf_o _ 2 v a0, pf_o _ 0 0 a0]
    have c2 : ∀ a : Nat, a ≠ m → a ≠ x + 1 → h2 a = h a := fun a a0 a1 => by rw [c1 a a0, a4, pf_o _ 1 v a1]
    have c3 : h2 m 2 = v := by rw [b4]; exact pf_s _ _ _ _
    refine rel_tp hm hr (fun a a0 _ _ _ _ a5 _ => c2 a (by omega) a0) (fun a a0 _ _ => c2 a (by omega) (by omega)) (fun k k0 k2 => by rw [b4, pf_f _ m v k2, pf_f _ m 0 k0, em]) ⟨?_, by rw [c3]; omega, fun j j0 j1 => ?_, fun j j0 => bA_out j0⟩
    · rw [c1 _ (by omega), a4, c3]; exact pf_s _ _ _ _
    · have q := tb j j0 (by omega)
      rw [bA_t j1, c2 (m + 1) (by omega) (by omega)]
      rw [bA_t (show j < h m 2 by omega)] at q
      rw [c2 (x + 1 + 1) (by omega) (by omega)]
      exact q
  · omega
  · omega
  · exact ⟨by omega, by rw [a3] at b3; exact rel_th hm hr b3⟩
