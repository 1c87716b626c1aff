/-! ===== day, costs, habit, sound ===== -/
theorem rel_g {h h2 : sH} {x m : Nat} {g : Int → Int → Int → Int} {n : Int → Int → Int} {u : Int → Int → Int → Int} {un : Int → Int → Int} {rg sg : Int → Int → Int} {rn sn : Int → Int} (hm : x + 325 ≤ m) (hr : relS h x m g n u un rg rn sg sn) (o : ∀ a : Nat, a ≠ x → a ≠ m → a ≠ x + 183 → ¬ (x + 258 ≤ a ∧ a ≤ x + 263) → ¬ (m + 16 ≤ a ∧ a ≤ m + 18) → a ≠ m + 2 → h2 a = h a) (ox : ∀ k : Int, k ≠ 10 → h2 x k = h x k) (ol : ∀ k : Int, k ≠ 4 → k ≠ 5 → h2 (x + 183) k = h (x + 183) k) (om : ∀ k : Int, k ≠ 0 → k ≠ 23 → k ≠ 27 → k ≠ 28 → k ≠ 29 → h2 m k = h m k) (pc : rCs h2 x m) (pd : rDy h2 x m) (ph : rHb h2 x m) (po : rSo h2 x m) : relS h2 x m g n u un rg rn sg sn := by
  obtain ⟨pt, pr, pu, ps, -, -, -, -, pp⟩ := rel_pt hr
  have o2 : ∀ a : Nat, x < a → a < x + 258 → a ≠ x + 183 → h2 a = h a := fun a a0 a1 a2 => o a (by omega) (by omega) a2 (by omega) (by omega) (by omega)
  have o3 : ∀ a : Nat, m < a → a < m + 16 → a ≠ m + 2 → h2 a = h a := fun a a0 a1 a2 => o a (by omega) (by omega) (by omega) (by omega) (by omega) a2
  have om2 : ∀ k : Int, 0 < k → k < 23 → h2 m k = h m k := fun k k0 k1 => om k (by omega) (by omega) (by omega) (by omega) (by omega)
  refine rel_mk (rTp_fr pt (o2 _ (by omega) (by omega) (by omega)) (o2 _ (by omega) (by omega) (by omega)) (o3 _ (by omega) (by omega) (by omega)) (om2 2 (by omega) (by omega))) (rRt_fr pr (fun a a0 a1 _ => o2 a (by omega) (by omega) (by omega)) (ox 4 (by decide)) (fun a a0 a1 => o3 a (by omega) (by omega) (by omega)) (om2 5 (by omega) (by omega))) (rRu_fr pu (ol 2 (by decide) (by decide)) (fun a a0 a1 _ => o2 a (by omega) (by omega) (by omega)) (om2 14 (by omega) (by omega)) (fun a a0 a1 => o3 a (by omega) (by omega) (by omega))) (rSt_fr ps (ol 3 (by decide) (by decide)) (fun a a0 a1 _ => o2 a (by omega) (by omega) (by omega)) (om2 18 (by omega) (by omega)) (fun a a0 a1 => o3 a (by omega) (by omega) (by omega))) pc ph po pd ?_
  rw [ox 5 (by decide), om2 12 (by omega) (by omega)]; exact pp
theorem step_day {h h1 h2 : sH} {x m : Nat} {g : Int → Int → Int → Int} {n : Int → Int → Int} {u : Int → Int → Int → Int} {un : Int → Int → Int} {rg sg : Int → Int → Int} {rn sn : Int → Int} {v z z2 : Int} (hm : x + 325 ≤ m) (hr : relS h x m g n u un rg rn sg sn) (p1 : (0 ≤ v ∧ v ≤ 1000 ∧ h x 10 + v ≤ 100000 ∧ z = h x 10 + v ∧ h1 = pf h x 10 (h x 10 + v)) ∨ (¬ (0 ≤ v ∧ v ≤ 1000 ∧ h x 10 + v ≤ 100000) ∧ z = -1 ∧ h1 = h)) (p2 : (0 ≤ v ∧ v ≤ 1000 ∧ h1 m 29 + v ≤ 100000 ∧ z2 = h1 m 29 + v ∧ h2 = pf (pf h1 m 0 0) m 29 (h1 m 29 + v)) ∨ (¬ (0 ≤ v ∧ v ≤ 1000 ∧ h1 m 29 + v ≤ 100000) ∧ z2 = -1 ∧ h2 = pf h1 m 0 0)) : z = z2 ∧ relS h2 x m g n u un rg rn sg sn := by
  obtain ⟨pt, pr, pu, ps, pc, ph, po, pd, pp⟩ := rel_pt hr
  have em : h1 m = h m := by
    rcases p1 with ⟨-, -, -, -, e⟩ | ⟨-, -, e⟩
    · rw [e, pf_o _ 10 _ (show m ≠ x by omega)]
    · rw [e]
  rw [em, ← pd.1] at p2
  rcases p1 with ⟨a1, a2, a3, a4, a5⟩ | ⟨a1, a2, a3⟩
  · rcases p2 with ⟨b1, b2, b3, b4, b5⟩ | ⟨b1, -⟩
    · have o : ∀ a : Nat, a ≠ x → a ≠ m → h2 a = h a := fun a y0 y1 => by rw [b5, pf_o _ 29 _ y1, pf_o _ 0 _ y1, a5, pf_o _ 10 _ y0]
      have om : ∀ k : Int, k ≠ 0 → k ≠ 29 → h2 m k = h m k := fun k k0 k1 => by rw [b5, pf_f _ m _ k1, pf_f _ m _ k0, em]
      have ex : h2 x = up (h x) 10 (h x 10 + v) := by rw [b5, pf_o _ 29 _ (show x ≠ m by omega), pf_o _ 0 _ (show x ≠ m by omega), a5, pf_a]
      refine ⟨by omega, rel_g hm hr (fun a y0 y1 _ _ _ _ => o a y0 y1) (fun k k0 => by rw [ex, up_n _ _ k0]) (fun k _ _ => by rw [o _ (by omega) (by omega)]) (fun k k0 _ _ _ k1 => om k k0 k1) (rCs_fr pc (by rw [o _ (by omega) (by omega)]) (by rw [o _ (by omega) (by omega)]) (om 27 (by decide) (by decide)) (om 28 (by decide) (by decide))) ?_ (rHb_fr ph (fun a _ _ => o a (by omega) (by omega)) (fun a _ _ => o a (by omega) (by omega)) (om 23 (by decide) (by decide))) (rSo_fr po (o _ (by omega) (by omega)) (o _ (by omega) (by omega)))⟩
      have e1 : h2 x 10 = h x 10 + v := by rw [ex, up_s]
      have e2 : h2 m 29 = h x 10 + v := by rw [b5]; exact pf_s _ _ _ _
      have d0 := pd.2.1
      exact ⟨by rw [e1, e2], by omega, by omega⟩
    · exact absurd ⟨a1, a2, a3⟩ b1
  · rcases p2 with ⟨b1, b2, b3, -⟩ | ⟨b1, b2, b3⟩
    · exact absurd ⟨b1, b2, b3⟩ a1
    · exact ⟨by omega, by rw [a3] at b3; exact rel_th hm hr b3⟩
theorem step_costs {h h1 h2 : sH} {x m : Nat} {g : Int → Int → Int → Int} {n : Int → Int → Int} {u : Int → Int → Int → Int} {un : Int → Int → Int} {rg sg : Int → Int → Int} {rn sn : Int → Int} {a b z z2 : Int} (hm : x + 325 ≤ m) (hr : relS h x m g n u un rg rn sg sn) (p1 : (0 ≤ a ∧ a ≤ 50 ∧ 0 ≤ b ∧ b ≤ 50 ∧ z = 1 ∧ h1 = pf (pf h (x + 183) 4 a) (x + 183) 5 b) ∨ (¬ (0 ≤ a ∧ a ≤ 50 ∧ 0 ≤ b ∧ b ≤ 50) ∧ z = 0 ∧ h1 = h)) (p2 : (0 ≤ a ∧ a ≤ 50 ∧ 0 ≤ b ∧ b ≤ 50 ∧ z2 = 1 ∧ h2 = pf (pf (pf h1 m 0 0) m 27 a) m 28 b) ∨ (¬ (0 ≤ a ∧ a ≤ 50 ∧ 0 ≤ b ∧ b ≤ 50) ∧ z2 = 0 ∧ h2 = pf h1 m 0 0)) : z = z2 ∧ relS h2 x m g n u un rg rn sg sn := by
  obtain ⟨pt, pr, pu, ps, pc, ph, po, pd, pp⟩ := rel_pt hr
  rcases p1 with ⟨a1, a2, a3, a4, a5, a6⟩ | ⟨a1, a2, a3⟩
  · rcases p2 with ⟨b1, b2, b3, b4, b5, b6⟩ | ⟨b1, -⟩
    · have em : h1 m = h m := by rw [a6, pf_o _ 5 _ (show m ≠ x + 183 by omega), pf_o _ 4 _ (show m ≠ x + 183 by omega)]
      have o1 : ∀ y : Nat, y ≠ m → h2 y = h1 y := fun y y0 => by rw [b6, pf_o _ 28 _ y0, pf_o _ 27 _ y0, pf_o _ 0 _ y0]
      have o : ∀ y : Nat, y ≠ x + 183 → y ≠ m → h2 y = h y := fun y y0 y1 => by rw [o1 y y1, a6, pf_o _ 5 _ y0, pf_o _ 4 _ y0]
      have om : ∀ k : Int, k ≠ 0 → k ≠ 27 → k ≠ 28 → h2 m k = h m k := fun k k0 k1 k2 => by rw [b6, pf_f _ m _ k2, pf_f _ m _ k1, pf_f _ m _ k0, em]
      have ex : h2 (x + 183) = up (up (h (x + 183)) 4 a) 5 b := by rw [o1 _ (by omega), a6, pf_a, pf_a]
      have e4 : h2 (x + 183) 4 = a := by rw [ex, up_n _ _ (by decide), up_s]
      have e5 : h2 (x + 183) 5 = b := by rw [ex, up_s]
      have e27 : h2 m 27 = a := by rw [b6, pf_f _ m _ (show (27 : Int) ≠ 28 by decide)]; exact pf_s _ _ _ _
      have e28 : h2 m 28 = b := by rw [b6]; exact pf_s _ _ _ _
      exact ⟨by omega, rel_g hm hr (fun y _ y1 y0 _ _ _ => o y y0 y1) (fun k _ => by rw [o x (by omega) (by omega)]) (fun k k0 k1 => by rw [ex, up_n _ _ k1, up_n _ _ k0]) (fun k k0 _ k1 k2 _ => om k k0 k1 k2) ⟨⟨by omega, by omega⟩, by rw [e4, e27], by rw [e5, e28]⟩ (rDy_fr pd (by rw [o x (by omega) (by omega)]) (om 29 (by decide) (by decide) (by decide))) (rHb_fr ph (fun y _ _ => o y (by omega) (by omega)) (fun y _ _ => o y (by omega) (by omega)) (om 23 (by decide) (by decide) (by decide))) (rSo_fr po (o _ (by omega) (by omega)) (o _ (by omega) (by omega)))⟩
    · exact absurd ⟨a1, a2, a3, a4⟩ b1
  · rcases p2 with ⟨b1, b2, b3, b4, -⟩ | ⟨b1, b2, b3⟩
    · exact absurd ⟨b1, b2, b3, b4⟩ a1
    · exact ⟨by omega, by rw [a3] at b3; exact rel_th hm hr b3⟩
theorem step_sound {h h1 h2 : sH} {x m : Nat} {g : Int → Int → Int → Int} {n : Int → Int → Int} {u : Int → Int → Int → Int} {un : Int → Int → Int} {rg sg : Int → Int → Int} {rn sn : Int → Int} {a b z z2 : Int} (hm : x + 325 ≤ m) (hr : relS h x m g n u un rg rn sg sn) (p1 : ((0 ≤ a ∧ a ≤ 25 ∧ 0 ≤ b ∧ b ≤ 25 ∧ h (x + 263) a ≠ h (x + 263) b) ∧ z = 1 ∧ h1 = up h (x + 263) (soF (h (x + 263)) a b 26)) ∨ (¬ (0 ≤ a ∧ a ≤ 25 ∧ 0 ≤ b ∧ b ≤ 25 ∧ h (x + 263) a ≠ h (x + 263) b) ∧ z = 0 ∧ h1 = h)) (p2 : ((0 ≤ a ∧ a ≤ 25 ∧ 0 ≤ b ∧ b ≤ 25 ∧ h1 (m + 2) a ≠ h1 (m + 2) b) ∧ z2 = 1 ∧ h2 = up (pf h1 m 0 0) (m + 2) (soF (h1 (m + 2)) a b 26)) ∨ (¬ (0 ≤ a ∧ a ≤ 25 ∧ 0 ≤ b ∧ b ≤ 25 ∧ h1 (m + 2) a ≠ h1 (m + 2) b) ∧ z2 = 0 ∧ h2 = pf h1 m 0 0)) : z = z2 ∧ relS h2 x m g n u un rg rn sg sn := by
  obtain ⟨pt, pr, pu, ps, pc, ph, po, pd, pp⟩ := rel_pt hr
  have em : h1 (m + 2) = h (m + 2) := by
    rcases p1 with ⟨-, -, e⟩ | ⟨-, -, e⟩
    · rw [e, up_n _ _ (show m + 2 ≠ x + 263 by omega)]
    · rw [e]
  rw [em] at p2
  rcases p1 with ⟨⟨a1, a2, a3, a4, a5⟩, a6, a7⟩ | ⟨a1, a2, a3⟩
  · have ea := po.2 a a1 (by omega)
    have eb := po.2 b a3 (by omega)
    rcases p2 with ⟨-, b2, b3⟩ | ⟨b1, -⟩
    · have o1 : ∀ y : Nat, y ≠ m → y ≠ m + 2 → h2 y = h1 y := fun y y0 y1 => by rw [b3, up_n _ _ y1, pf_o _ 0 _ y0]
      have o : ∀ y : Nat, y ≠ x + 263 → y ≠ m → y ≠ m + 2 → h2 y = h y := fun y y0 y1 y2 => by rw [o1 y y1 y2, a7, up_n _ _ y0]
      have om : ∀ k : Int, k ≠ 0 → h2 m k = h m k := fun k k0 => by rw [b3, up_n _ _ (show m ≠ m + 2 by omega), pf_f _ m _ k0, a7, up_n _ _ (show m ≠ x + 263 by omega)]
      refine ⟨by omega, rel_g hm hr (fun y y0 y1 y2 y3 y4 y5 => o y (by omega) y1 y5) (fun k _ => by rw [o x (by omega) (by omega) (by omega)]) (fun k _ _ => by rw [o (x + 183) (by omega) (by omega) (by omega)]) (fun k k0 _ _ _ _ => om k k0) (rCs_fr pc (by rw [o (x + 183) (by omega) (by omega) (by omega)]) (by rw [o (x + 183) (by omega) (by omega) (by omega)]) (om 27 (by decide)) (om 28 (by decide))) (rDy_fr pd (by rw [o x (by omega) (by omega) (by omega)]) (om 29 (by decide))) (rHb_fr ph (fun y _ _ => o y (by omega) (by omega) (by omega)) (fun y _ _ => o y (by omega) (by omega) (by omega)) (om 23 (by decide))) ?_⟩
      have e1 : h2 (x + 263) = soF (h (x + 263)) a b 26 := by rw [o1 _ (by omega) (by omega), a7, up_s]
      have e2 : h2 (m + 2) = soF (h (m + 2)) a b 26 := by rw [b3, up_s]
      refine ⟨fun k k0 k1 => ?_, fun k k0 k1 => ?_⟩
      · rw [e1]; unfold soF
        split
        · exact po.1 a a1 (by omega)
        · exact po.1 k k0 k1
      · rw [e1, e2]; unfold soF
        rw [po.2 k k0 k1, ea, eb]
    · exact absurd ⟨a1, a2, a3, a4, by rw [← ea, ← eb]; exact a5⟩ b1
  · rcases p2 with ⟨⟨b1, b2, b3, b4, b5⟩, -⟩ | ⟨b1, b2, b3⟩
    · exact absurd ⟨b1, b2, b3, b4, by rw [po.2 a b1 (by omega), po.2 b b3 (by omega)]; exact b5⟩ a1
    · exact ⟨by omega, by rw [a3] at b3; exact rel_th hm hr b3⟩
theorem step_habit {h h1 h2 : sH} {x m : Nat} {g : Int → Int → Int → Int} {n : Int → Int → Int} {u : Int → Int → Int → Int} {un : Int → Int → Int} {rg sg : Int → Int → Int} {rn sn : Int → Int} {a b c z z2 : Int} (hm : x + 325 ≤ m) (hr : relS h x m g n u un rg rn sg sn) (p1 : ((0 ≤ a ∧ a ≤ 4 ∧ 0 ≤ b ∧ b ≤ 4 ∧ a ≠ b ∧ 1 ≤ c ∧ c ≤ 20 ∧ h (x + 258) 3 < 20) ∧ z = h (x + 258) 3 ∧ h1 = pf (pf (pf (pf h (x + 259) (h (x + 258) 3) a) (x + 260) (h (x + 258) 3) b) (x + 261) (h (x + 258) 3) c) (x + 258) 3 (h (x + 258) 3 + 1)) ∨ (¬ (0 ≤ a ∧ a ≤ 4 ∧ 0 ≤ b ∧ b ≤ 4 ∧ a ≠ b ∧ 1 ≤ c ∧ c ≤ 20 ∧ h (x + 258) 3 < 20) ∧ z = -1 ∧ h1 = h)) (p2 : ((0 ≤ a ∧ a ≤ 4 ∧ 0 ≤ b ∧ b ≤ 4 ∧ a ≠ b ∧ 1 ≤ c ∧ c ≤ 20 ∧ h1 m 23 < 20) ∧ z2 = h1 m 23 ∧ h2 = pf (pf (pf (pf (pf h1 m 0 0) (m + 16) (h1 m 23) a) (m + 17) (h1 m 23) b) (m + 18) (h1 m 23) c) m 23 (h1 m 23 + 1)) ∨ (¬ (0 ≤ a ∧ a ≤ 4 ∧ 0 ≤ b ∧ b ≤ 4 ∧ a ≠ b ∧ 1 ≤ c ∧ c ≤ 20 ∧ h1 m 23 < 20) ∧ z2 = -1 ∧ h2 = pf h1 m 0 0)) : z = z2 ∧ relS h2 x m g n u un rg rn sg sn := by
  obtain ⟨pt, pr, pu, ps, pc, ph, po, pd, pp⟩ := rel_pt hr
  have o1 : ∀ y : Nat, y ≠ x + 258 → y ≠ x + 259 → y ≠ x + 260 → y ≠ x + 261 → h1 y = h y := fun y y0 y1 y2 y3 => by
    rcases p1 with ⟨-, -, e⟩ | ⟨-, -, e⟩
    · rw [e, pf_o _ 3 _ y0, pf_o _ _ _ y3, pf_o _ _ _ y2, pf_o _ _ _ y1]
    · rw [e]
  have em := o1 m (by omega) (by omega) (by omega) (by omega)
  have e23 : h1 m 23 = h (x + 258) 3 := by rw [em]; exact ph.2.1.symm
  rw [e23] at p2
  obtain ⟨s, hs⟩ : ∃ s : Int, s = h (x + 258) 3 := ⟨_, rfl⟩
  rw [← hs] at p1 p2
  rcases p1 with ⟨a1, a2, a3⟩ | ⟨a1, a2, a3⟩
  · rcases p2 with ⟨-, b2, b3⟩ | ⟨b1, -⟩
    · have o2 : ∀ y : Nat, y ≠ m → y ≠ m + 16 → y ≠ m + 17 → y ≠ m + 18 → h2 y = h1 y := fun y y0 y1 y2 y3 => by rw [b3, pf_o _ 23 _ y0, pf_o _ _ _ y3, pf_o _ _ _ y2, pf_o _ _ _ y1, pf_o _ 0 _ y0]
      have o : ∀ y : Nat, ¬ (x + 258 ≤ y ∧ y ≤ x + 261) → y ≠ m → ¬ (m + 16 ≤ y ∧ y ≤ m + 18) → h2 y = h y := fun y y0 y1 y2 => by rw [o2 y y1 (by omega) (by omega) (by omega), o1 y (by omega) (by omega) (by omega) (by omega)]
      have om : ∀ k : Int, k ≠ 0 → k ≠ 23 → h2 m k = h m k := fun k k0 k1 => by rw [b3, pf_f _ m _ k1, pf_o _ _ _ (show m ≠ m + 18 by omega), pf_o _ _ _ (show m ≠ m + 17 by omega), pf_o _ _ _ (show m ≠ m + 16 by omega), pf_f _ m _ k0, em]
      have c0 : h2 (x + 258) 3 = s + 1 := by rw [o2 _ (by omega) (by omega) (by omega) (by omega), a3]; exact pf_s _ _ _ _
      have c1 : h2 (x + 258 + 1) = up (h (x + 258 + 1)) s a := by rw [o2 _ (by omega) (by omega) (by omega) (by omega), a3, pf_o _ _ _ (show x + 258 + 1 ≠ x + 258 by omega), pf_o _ _ _ (show x + 258 + 1 ≠ x + 261 by omega), pf_o _ _ _ (show x + 258 + 1 ≠ x + 260 by omega)]; exact pf_a _ _ _ _
      have c2 : h2 (x + 258 + 2) = up (h (x + 258 + 2)) s b := by
        rw [o2 _ (by omega) (by omega) (by omega) (by omega), a3, pf_o _ _ _ (show x + 258 + 2 ≠ x + 258 by omega), pf_o _ _ _ (show x + 258 + 2 ≠ x + 261 by omega), show x + 258 + 2 = x + 260 by omega, pf_a, pf_o _ _ _ (show x + 260 ≠ x + 259 by omega)]
      have c3 : h2 (x + 258 + 3) = up (h (x + 258 + 3)) s c := by
        rw [o2 _ (by omega) (by omega) (by omega) (by omega), a3, pf_o _ _ _ (show x + 258 + 3 ≠ x + 258 by omega), show x + 258 + 3 = x + 261 by omega, pf_a, pf_o _ _ _ (show x + 261 ≠ x + 260 by omega), pf_o _ _ _ (show x + 261 ≠ x + 259 by omega)]
      have d0 : h2 m 23 = s + 1 := by rw [b3]; exact pf_s _ _ _ _
      have f1 : ∀ y : Nat, m + 16 ≤ y → h1 y = h y := fun y _ => o1 y (by omega) (by omega) (by omega) (by omega)
      have d1 : h2 (m + 16) = up (h (m + 16)) s a := by rw [b3, pf_o _ _ _ (show m + 16 ≠ m by omega), pf_o _ _ _ (show m + 16 ≠ m + 18 by omega), pf_o _ _ _ (show m + 16 ≠ m + 17 by omega), pf_a, pf_o _ _ _ (show m + 16 ≠ m by omega), f1 _ (by omega)]
      have d2 : h2 (m + 17) = up (h (m + 17)) s b := by rw [b3, pf_o _ _ _ (show m + 17 ≠ m by omega), pf_o _ _ _ (show m + 17 ≠ m + 18 by omega), pf_a, pf_o _ _ _ (show m + 17 ≠ m + 16 by omega), pf_o _ _ _ (show m + 17 ≠ m by omega), f1 _ (by omega)]
      have d3 : h2 (m + 18) = up (h (m + 18)) s c := by rw [b3, pf_o _ _ _ (show m + 18 ≠ m by omega), pf_a, pf_o _ _ _ (show m + 18 ≠ m + 17 by omega), pf_o _ _ _ (show m + 18 ≠ m + 16 by omega), pf_o _ _ _ (show m + 18 ≠ m by omega), f1 _ (by omega)]
      obtain ⟨⟨q0, q1, q2⟩, q3, q4⟩ := ph
      rw [← hs] at q0 q1 q2 q4
      refine ⟨by omega, rel_g hm hr (fun y y0 y1 y2 y3 y4 y5 => o y (by omega) y1 y4) (fun k _ => by rw [o x (by omega) (by omega) (by omega)]) (fun k _ _ => by rw [o (x + 183) (by omega) (by omega) (by omega)]) (fun k k0 k1 _ _ _ => om k k0 k1) (rCs_fr pc (by rw [o (x + 183) (by omega) (by omega) (by omega)]) (by rw [o (x + 183) (by omega) (by omega) (by omega)]) (om 27 (by decide) (by decide)) (om 28 (by decide) (by decide))) (rDy_fr pd (by rw [o x (by omega) (by omega) (by omega)]) (om 29 (by decide) (by decide))) ⟨⟨by omega, by omega, fun k k0 k1 => ?_⟩, by rw [c0, d0], fun k k0 k1 => ?_⟩ (rSo_fr po (o _ (by omega) (by omega) (by omega)) (o _ (by omega) (by omega) (by omega)))⟩
      · rw [c1, c2, c3]
        by_cases e : k = s
        · rw [e, up_s, up_s, up_s]; omega
        · rw [up_n _ _ e, up_n _ _ e, up_n _ _ e]; exact q2 k k0 (by omega)
      · rw [c1, c2, c3, d1, d2, d3]
        by_cases e : k = s
        · rw [e, up_s, up_s, up_s, up_s, up_s, up_s]; exact ⟨rfl, rfl, rfl⟩
        · rw [up_n _ _ e, up_n _ _ e, up_n _ _ e, up_n _ _ e, up_n _ _ e, up_n _ _ e]; exact q4 k k0 (by omega)
    · exact absurd a1 b1
  · rcases p2 with ⟨b1, -⟩ | ⟨b1, b2, b3⟩
    · exact absurd b1 a1
    · exact ⟨by omega, by rw [a3] at b3; exact rel_th hm hr b3⟩
