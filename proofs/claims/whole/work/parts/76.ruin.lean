/-! ===== ruin, stone ===== -/
def relX (h : sH) (x m : Nat) : Prop := ∃ (g : Int → Int → Int → Int) (n : Int → Int → Int) (u : Int → Int → Int → Int) (un : Int → Int → Int) (rg : Int → Int → Int) (rn : Int → Int) (sg : Int → Int → Int) (sn : Int → Int), relS h x m g n u un rg rn sg sn
theorem relS.X {h : sH} {x m : Nat} {g : Int → Int → Int → Int} {n : Int → Int → Int} {u : Int → Int → Int → Int} {un : Int → Int → Int} {rg sg : Int → Int → Int} {rn sn : Int → Int} (hr : relS h x m g n u un rg rn sg sn) : relX h x m := ⟨g, n, u, un, rg, rn, sg, sn, hr⟩
theorem rel_n {h h2 : sH} {x m : Nat} {g : Int → Int → Int → Int} {n : Int → Int → Int} {u : Int → Int → Int → Int} {un : Int → Int → Int} {rg sg rg2 sg2 : Int → Int → Int} {rn sn rn2 sn2 : Int → Int} (hm : x + 325 ≤ m) (hr : relS h x m g n u un rg rn sg sn) (t0 : h2 (x + 1) 1 = 0) (t1 : h2 m 2 = 0) (o : ∀ a : Nat, a ≠ x + 1 → a ≠ x + 3 → a ≠ x + 4 → (a < x + 183 ∨ x + 258 ≤ a) → a ≠ m → (a < m + 9 ∨ m + 15 < a) → h2 a = h a) (om : ∀ k : Int, k ≠ 0 → k ≠ 2 → k ≠ 14 → k ≠ 18 → h2 m k = h m k) (pu : rRu h2 x m rg2 rn2) (ps : rSt h2 x m sg2 sn2) (pc : rCs h2 x m) : relS h2 x m g n u un rg2 rn2 sg2 sn2 := by
  obtain ⟨-, pr, -, -, -, ph, po, pd, pp⟩ := rel_pt hr
  have ox := o x (by omega) (by omega) (by omega) (by omega) (by omega) (by omega)
  refine rel_mk (rTp_0 t0 t1) (rRt_fr pr (fun a a0 a1 _ => o a (by omega) (by omega) (by omega) (by omega) (by omega) (by omega)) (by rw [ox]) (fun a a0 a1 => o a (by omega) (by omega) (by omega) (by omega) (by omega) (by omega)) (om 5 (by decide) (by decide) (by decide) (by decide))) pu ps pc (rHb_fr ph (fun a a0 a1 => o a (by omega) (by omega) (by omega) (by omega) (by omega) (by omega)) (fun a a0 a1 => o a (by omega) (by omega) (by omega) (by omega) (by omega) (by omega)) (om 23 (by decide) (by decide) (by decide) (by decide))) (rSo_fr po (o _ (by omega) (by omega) (by omega) (by omega) (by omega) (by omega)) (o _ (by omega) (by omega) (by omega) (by omega) (by omega) (by omega))) (rDy_fr pd (by rw [ox]) (om 29 (by decide) (by decide) (by decide) (by decide))) ?_
  rw [ox, om 12 (by decide) (by decide) (by decide) (by decide)]; exact pp
theorem rel_nt {h h1 h2 : sH} {x m : Nat} {g : Int → Int → Int → Int} {n : Int → Int → Int} {u : Int → Int → Int → Int} {un : Int → Int → Int} {rg sg : Int → Int → Int} {rn sn : Int → Int} (hm : x + 325 ≤ m) (hr : relS h x m g n u un rg rn sg sn) (t0 : h1 (x + 1) = up (h (x + 1)) 1 0) (o : ∀ a : Nat, a ≠ x + 1 → a ≠ x + 3 → a ≠ x + 4 → h1 a = h a) (e2 : h2 = pf (pf h1 m 0 0) m 2 0) : relS h2 x m g n u un rg rn sg sn := by
  have o2 : ∀ a : Nat, a ≠ m → h2 a = h1 a := fun a a0 => by rw [e2, pf_o _ 2 0 a0, pf_o _ 0 0 a0]
  have om : ∀ k : Int, k ≠ 0 → k ≠ 2 → h2 m k = h m k := fun k k0 k2 => by rw [e2, pf_f _ m _ k2, pf_f _ m _ k0, o m (by omega) (by omega) (by omega)]
  have oo : ∀ a : Nat, a ≠ x + 1 → a ≠ x + 3 → a ≠ x + 4 → a ≠ m → h2 a = h a := fun a a1 a3 a4 a0 => by rw [o2 a a0, o a a1 a3 a4]
  obtain ⟨-, -, pu, ps, pc, -⟩ := rel_pt hr
  exact rel_n hm hr (by rw [o2 _ (by omega), t0, up_s]) (by rw [e2]; exact pf_s _ _ _ _) (fun a a1 a3 a4 _ a5 _ => oo a a1 a3 a4 a5) (fun k k0 k2 _ _ => om k k0 k2) (rRu_fr pu (by rw [oo _ (by omega) (by omega) (by omega) (by omega)]) (fun a _ _ _ => oo a (by omega) (by omega) (by omega) (by omega)) (om 14 (by decide) (by decide)) (fun a _ _ => oo a (by omega) (by omega) (by omega) (by omega))) (rSt_fr ps (by rw [oo _ (by omega) (by omega) (by omega) (by omega)]) (fun a _ _ _ => oo a (by omega) (by omega) (by omega) (by omega)) (om 18 (by decide) (by decide)) (fun a _ _ => oo a (by omega) (by omega) (by omega) (by omega))) (rCs_fr pc (by rw [oo _ (by omega) (by omega) (by omega) (by omega)]) (by rw [oo _ (by omega) (by omega) (by omega) (by omega)]) (om 27 (by decide) (by decide)) (om 28 (by decide) (by decide)))
theorem step_ruin {h h1 h2 : sH} {x m : Nat} {g : Int → Int → Int → Int} {n : Int → Int → Int} {u : Int → Int → Int → Int} {un : Int → Int → Int} {rg sg : Int → Int → Int} {rn sn : Int → Int} {p z z2 : Int} (hm : x + 325 ≤ m) (hr : relS h x m g n u un rg rn sg sn)
    (p1 : h1 (x + 1) = up (h (x + 1)) 1 0 ∧ (((isNm (bA h m) 0 (h m 2) ∧ 0 ≤ p ∧ p ≤ 600 ∧ h (x + 183) 2 < 12 ∧ ∀ k : Int, 0 ≤ k → k < h (x + 183) 2 → h (x + 183 + 3 + 6 * k.toNat) 1 ≠ p) ∧ z = h (x + 183) 2 ∧ (∀ a : Nat, a ≠ x + 1 → a ≠ x + 3 → a ≠ x + 4 → a ≠ x + 183 → a ≠ x + 183 + 3 + 6 * (h (x + 183) 2).toNat → a ≠ x + 183 + 3 + 6 * (h (x + 183) 2).toNat + 1 → a ≠ x + 183 + 3 + 6 * (h (x + 183) 2).toNat + 2 → h1 a = h a) ∧ h1 (x + 183) = up (h (x + 183)) 2 (h (x + 183) 2 + 1) ∧ h1 (x + 183 + 3 + 6 * (h (x + 183) 2).toNat) 1 = p ∧ h1 (x + 183 + 3 + 6 * (h (x + 183) 2).toNat) 3 = h x 10 ∧ nmC h1 (x + 183 + 3 + 6 * (h (x + 183) 2).toNat + 1) (bA h m) (h m 2)) ∨ (¬ (isNm (bA h m) 0 (h m 2) ∧ 0 ≤ p ∧ p ≤ 600 ∧ h (x + 183) 2 < 12 ∧ ∀ k : Int, 0 ≤ k → k < h (x + 183) 2 → h (x + 183 + 3 + 6 * k.toNat) 1 ≠ p) ∧ z = -1 ∧ ∀ a : Nat, a ≠ x + 1 → a ≠ x + 3 → a ≠ x + 4 → h1 a = h a)))
    (p2 : ((isNm (bA h1 m) 0 (h1 m 2) ∧ 0 ≤ p ∧ p ≤ 600 ∧ h1 m 14 < 12 ∧ ∀ k : Int, 0 ≤ k → k < h1 m 14 → h1 (m + 9) k ≠ p) ∧ z2 = h1 m 14 ∧ ∃ v : Int, NmP v (bA h1 m) (h1 m 2) ∧ h2 = pf (pf (pf (pf (pf (pf h1 m 0 0) m 2 0) (m + 9) (h1 m 14) p) (m + 10) (h1 m 14) v) (m + 11) (h1 m 14) (h1 m 29)) m 14 (h1 m 14 + 1)) ∨ (¬ (isNm (bA h1 m) 0 (h1 m 2) ∧ 0 ≤ p ∧ p ≤ 600 ∧ h1 m 14 < 12 ∧ ∀ k : Int, 0 ≤ k → k < h1 m 14 → h1 (m + 9) k ≠ p) ∧ z2 = -1 ∧ h2 = pf (pf h1 m 0 0) m 2 0)) : z = z2 ∧ relX h2 x m := by
  obtain ⟨pt, pr, pu, ps, pc, ph, po, pd, pp⟩ := rel_pt hr
  obtain ⟨⟨R0, R12⟩, R1, R2⟩ := pu
  have fm : ∀ a : Nat, m ≤ a → h1 a = h a := fun a a0 => by
    rcases p1.2 with ⟨-, -, o, -⟩ | ⟨-, -, o⟩
    · exact o a (by omega) (by omega) (by omega) (by omega) (by omega) (by omega) (by omega)
    · exact o a (by omega) (by omega) (by omega)
  have em := fm m (by omega)
  rw [bA_eq (fm (m + 1) (by omega)) (by rw [em]), em, fm (m + 9) (by omega), ← R1] at p2
  have cq : (∀ k : Int, 0 ≤ k → k < h (x + 183) 2 → h (x + 183 + 3 + 6 * k.toNat) 1 ≠ p) ↔ (∀ k : Int, 0 ≤ k → k < h (x + 183) 2 → h (m + 9) k ≠ p) := by
    constructor
    · intro q k k0 k1; rw [← (R2 k k0 k1).2.1]; exact q k k0 k1
    · intro q k k0 k1; rw [(R2 k k0 k1).2.1]; exact q k k0 k1
  rw [cq] at p1
  obtain ⟨t0, p1⟩ := p1
  rcases p1 with ⟨a1, a2, a3, a4, a5, a6, a7⟩ | ⟨a1, a2, a3⟩
  · rcases p2 with ⟨-, b2, v, b3, b4⟩ | ⟨b1, -⟩
    · obtain ⟨c, hc⟩ : ∃ c : Int, c = h (x + 183) 2 := ⟨_, rfl⟩
      rw [← hc] at R0 R12 R1 R2 a2 a3 a4 a5 a6 a7 b2 b4
      have c12 : c < 12 := by rw [hc]; exact a1.2.2.2.1
      have o2 : ∀ y : Nat, y ≠ m → y ≠ m + 9 → y ≠ m + 10 → y ≠ m + 11 → h2 y = h1 y := fun y y0 y1 y2 y3 => by rw [b4, pf_o _ 14 _ y0, pf_o _ _ _ y3, pf_o _ _ _ y2, pf_o _ _ _ y1, pf_o _ 2 _ y0, pf_o _ 0 _ y0]
      have oc : ∀ y : Nat, y < m → h2 y = h1 y := fun y y0 => o2 y (by omega) (by omega) (by omega) (by omega)
      have om : ∀ k : Int, k ≠ 0 → k ≠ 2 → k ≠ 14 → h2 m k = h m k := fun k k0 k1 k2 => by rw [b4, pf_f _ m _ k2, pf_o _ _ _ (show m ≠ m + 11 by omega), pf_o _ _ _ (show m ≠ m + 10 by omega), pf_o _ _ _ (show m ≠ m + 9 by omega), pf_f _ m _ k1, pf_f _ m _ k0, em]
      have m2 : h2 m 2 = 0 := by rw [b4, pf_f _ m _ (show (2 : Int) ≠ 14 by decide), pf_o _ _ _ (show m ≠ m + 11 by omega), pf_o _ _ _ (show m ≠ m + 10 by omega), pf_o _ _ _ (show m ≠ m + 9 by omega)]; exact pf_s _ _ _ _
      have m14 : h2 m 14 = c + 1 := by rw [b4]; exact pf_s _ _ _ _
      have d1 : h2 (m + 9) = up (h (m + 9)) c p := by rw [b4, pf_o _ _ _ (show m + 9 ≠ m by omega), pf_o _ _ _ (show m + 9 ≠ m + 11 by omega), pf_o _ _ _ (show m + 9 ≠ m + 10 by omega), pf_a, pf_o _ _ _ (show m + 9 ≠ m by omega), pf_o _ _ _ (show m + 9 ≠ m by omega), fm _ (by omega)]
      have d2 : h2 (m + 10) = up (h (m + 10)) c v := by rw [b4, pf_o _ _ _ (show m + 10 ≠ m by omega), pf_o _ _ _ (show m + 10 ≠ m + 11 by omega), pf_a, pf_o _ _ _ (show m + 10 ≠ m + 9 by omega), pf_o _ _ _ (show m + 10 ≠ m by omega), pf_o _ _ _ (show m + 10 ≠ m by omega), fm _ (by omega)]
      have d3 : h2 (m + 11) = up (h (m + 11)) c (h m 29) := by rw [b4, pf_o _ _ _ (show m + 11 ≠ m by omega), pf_a, pf_o _ _ _ (show m + 11 ≠ m + 10 by omega), pf_o _ _ _ (show m + 11 ≠ m + 9 by omega), pf_o _ _ _ (show m + 11 ≠ m by omega), pf_o _ _ _ (show m + 11 ≠ m by omega), fm _ (by omega)]
      have e83 : h2 (x + 183) = up (h (x + 183)) 2 (c + 1) := by rw [oc _ (by omega), a4]
      have c2 : h2 (x + 183) 2 = c + 1 := by rw [e83, up_s]
      refine ⟨by omega, (rel_n (rg2 := fun k => if k = c then bA h m else rg k) (rn2 := fun k => if k = c then h m 2 else rn k) (sg2 := sg) (sn2 := sn) hm hr (by rw [oc _ (by omega), t0, up_s]) m2 (fun y y1 y3 y4 y5 y0 y6 => ?_) (fun k k0 k2 k14 _ => om k k0 k2 k14) ⟨by omega, by rw [c2, m14], fun k k0 k1 => ?_⟩ (rSt_fr ps (by rw [e83, up_n _ _ (by decide)]) (fun y y0 y1 y2 => ?_) (om 18 (by decide) (by decide) (by decide)) (fun y _ _ => by rw [o2 y (by omega) (by omega) (by omega) (by omega), fm y (by omega)])) (rCs_fr pc (by rw [e83, up_n _ _ (by decide)]) (by rw [e83, up_n _ _ (by decide)]) (om 27 (by decide) (by decide) (by decide)) (om 28 (by decide) (by decide) (by decide)))).X⟩
      · rw [o2 y y0 (by omega) (by omega) (by omega), a3 y y1 y3 y4 (by omega) (by omega) (by omega) (by omega)]
      · show rnE h2 (x + 183 + 3 + 6 * k.toNat) m k (if k = c then bA h m else rg k) (if k = c then h m 2 else rn k)
        rw [c2] at k1
        by_cases e : k = c
        · rw [if_pos e, if_pos e, e]
          have ey := oc (x + 183 + 3 + 6 * c.toNat) (by omega)
          have d0 := pd.2
          refine ⟨⟨by rw [ey, a5]; exact ⟨a1.2.1, a1.2.2.1⟩, nmC_fr a7 (oc _ (by omega)) (oc _ (by omega)), by rw [ey, a6]; exact d0⟩, by rw [ey, a5, d1, up_s], by rw [ey, a6, d3, up_s]; exact pd.1, by rw [d2, up_s]; exact b3⟩
        · rw [if_neg e, if_neg e]
          exact rnE_fr (R2 k k0 (by omega)) (by rw [oc _ (by omega), a3 _ (by omega) (by omega) (by omega) (by omega) (by omega) (by omega) (by omega)]) (by rw [oc _ (by omega), a3 _ (by omega) (by omega) (by omega) (by omega) (by omega) (by omega) (by omega)]) (by rw [oc _ (by omega), a3 _ (by omega) (by omega) (by omega) (by omega) (by omega) (by omega) (by omega)]) (by rw [d1, up_n _ _ e]) (by rw [d2, up_n _ _ e]) (by rw [d3, up_n _ _ e])
      · have q := y2 c.toNat
        rw [oc y (by omega), a3 y (by omega) (by omega) (by omega) (by omega) (by omega) (by omega) (by omega)]
    · exact absurd a1 b1
  · rcases p2 with ⟨b1, -⟩ | ⟨b1, b2, b3⟩
    · exact absurd b1 a1
    · exact ⟨by omega, (rel_nt hm hr t0 a3 b3).X⟩
theorem step_stone {h h1 h2 : sH} {x m : Nat} {g : Int → Int → Int → Int} {n : Int → Int → Int} {u : Int → Int → Int → Int} {un : Int → Int → Int} {rg sg : Int → Int → Int} {rn sn : Int → Int} {p a w z z2 : Int} (hm : x + 325 ≤ m) (hr : relS h x m g n u un rg rn sg sn)
    (p1 : h1 (x + 1) = up (h (x + 1)) 1 0 ∧ (((isNm (bA h m) 0 (h m 2) ∧ 0 ≤ p ∧ p ≤ 600 ∧ 1 ≤ a ∧ a ≤ 200 ∧ 2 ≤ w ∧ w ≤ 3 ∧ h (x + 183) 3 < 12) ∧ z = h (x + 183) 3 ∧ (∀ y : Nat, y ≠ x + 1 → y ≠ x + 3 → y ≠ x + 4 → y ≠ x + 183 → y ≠ x + 183 + 6 + 6 * (h (x + 183) 3).toNat → y ≠ x + 183 + 6 + 6 * (h (x + 183) 3).toNat + 1 → y ≠ x + 183 + 6 + 6 * (h (x + 183) 3).toNat + 2 → h1 y = h y) ∧ h1 (x + 183) = up (h (x + 183)) 3 (h (x + 183) 3 + 1) ∧ h1 (x + 183 + 6 + 6 * (h (x + 183) 3).toNat) 1 = p ∧ h1 (x + 183 + 6 + 6 * (h (x + 183) 3).toNat) 2 = a * w ∧ h1 (x + 183 + 6 + 6 * (h (x + 183) 3).toNat) 3 = h x 10 ∧ nmC h1 (x + 183 + 6 + 6 * (h (x + 183) 3).toNat + 1) (bA h m) (h m 2)) ∨ (¬ (isNm (bA h m) 0 (h m 2) ∧ 0 ≤ p ∧ p ≤ 600 ∧ 1 ≤ a ∧ a ≤ 200 ∧ 2 ≤ w ∧ w ≤ 3 ∧ h (x + 183) 3 < 12) ∧ z = -1 ∧ ∀ y : Nat, y ≠ x + 1 → y ≠ x + 3 → y ≠ x + 4 → h1 y = h y)))
    (p2 : ((isNm (bA h1 m) 0 (h1 m 2) ∧ 0 ≤ p ∧ p ≤ 600 ∧ 1 ≤ a ∧ a ≤ 200 ∧ 2 ≤ w ∧ w ≤ 3 ∧ h1 m 18 < 12) ∧ z2 = h1 m 18 ∧ ∃ v : Int, NmP v (bA h1 m) (h1 m 2) ∧ h2 = pf (pf (pf (pf (pf (pf (pf h1 m 0 0) m 2 0) (m + 12) (h1 m 18) p) (m + 13) (h1 m 18) v) (m + 14) (h1 m 18) (a * w)) (m + 15) (h1 m 18) (h1 m 29)) m 18 (h1 m 18 + 1)) ∨ (¬ (isNm (bA h1 m) 0 (h1 m 2) ∧ 0 ≤ p ∧ p ≤ 600 ∧ 1 ≤ a ∧ a ≤ 200 ∧ 2 ≤ w ∧ w ≤ 3 ∧ h1 m 18 < 12) ∧ z2 = -1 ∧ h2 = pf (pf h1 m 0 0) m 2 0)) : z = z2 ∧ relX h2 x m := by
  obtain ⟨pt, pr, pu, ps, pc, ph, po, pd, pp⟩ := rel_pt hr
  obtain ⟨⟨R0, R12⟩, R1, R2⟩ := ps
  have fm : ∀ y : Nat, m ≤ y → h1 y = h y := fun y y0 => by
    rcases p1.2 with ⟨-, -, o, -⟩ | ⟨-, -, o⟩
    · exact o y (by omega) (by omega) (by omega) (by omega) (by omega) (by omega) (by omega)
    · exact o y (by omega) (by omega) (by omega)
  have em := fm m (by omega)
  rw [bA_eq (fm (m + 1) (by omega)) (by rw [em]), em, ← R1] at p2
  obtain ⟨t0, p1⟩ := p1
  rcases p1 with ⟨a1, a2, a3, a4, a5, a55, a6, a7⟩ | ⟨a1, a2, a3⟩
  · rcases p2 with ⟨-, b2, v, b3, b4⟩ | ⟨b1, -⟩
    · obtain ⟨c, hc⟩ : ∃ c : Int, c = h (x + 183) 3 := ⟨_, rfl⟩
      rw [← hc] at R0 R12 R1 R2 a2 a3 a4 a5 a55 a6 a7 b2 b4
      have c12 : c < 12 := by rw [hc]; exact a1.2.2.2.2.2.2.2
      have o2 : ∀ y : Nat, y ≠ m → y ≠ m + 12 → y ≠ m + 13 → y ≠ m + 14 → y ≠ m + 15 → h2 y = h1 y := fun y y0 y1 y2 y3 y4 => by rw [b4, pf_o _ 18 _ y0, pf_o _ _ _ y4, pf_o _ _ _ y3, pf_o _ _ _ y2, pf_o _ _ _ y1, pf_o _ 2 _ y0, pf_o _ 0 _ y0]
      have oc : ∀ y : Nat, y < m → h2 y = h1 y := fun y y0 => o2 y (by omega) (by omega) (by omega) (by omega) (by omega)
      have om : ∀ k : Int, k ≠ 0 → k ≠ 2 → k ≠ 18 → h2 m k = h m k := fun k k0 k1 k2 => by rw [b4, pf_f _ m _ k2, pf_o _ _ _ (show m ≠ m + 15 by omega), pf_o _ _ _ (show m ≠ m + 14 by omega), pf_o _ _ _ (show m ≠ m + 13 by omega), pf_o _ _ _ (show m ≠ m + 12 by omega), pf_f _ m _ k1, pf_f _ m _ k0, em]
      have m2 : h2 m 2 = 0 := by rw [b4, pf_f _ m _ (show (2 : Int) ≠ 18 by decide), pf_o _ _ _ (show m ≠ m + 15 by omega), pf_o _ _ _ (show m ≠ m + 14 by omega), pf_o _ _ _ (show m ≠ m + 13 by omega), pf_o _ _ _ (show m ≠ m + 12 by omega)]; exact pf_s _ _ _ _
      have m18 : h2 m 18 = c + 1 := by rw [b4]; exact pf_s _ _ _ _
      have d1 : h2 (m + 12) = up (h (m + 12)) c p := by rw [b4, pf_o _ _ _ (show m + 12 ≠ m by omega), pf_o _ _ _ (show m + 12 ≠ m + 15 by omega), pf_o _ _ _ (show m + 12 ≠ m + 14 by omega), pf_o _ _ _ (show m + 12 ≠ m + 13 by omega), pf_a, pf_o _ _ _ (show m + 12 ≠ m by omega), pf_o _ _ _ (show m + 12 ≠ m by omega), fm _ (by omega)]
      have d2 : h2 (m + 13) = up (h (m + 13)) c v := by rw [b4, pf_o _ _ _ (show m + 13 ≠ m by omega), pf_o _ _ _ (show m + 13 ≠ m + 15 by omega), pf_o _ _ _ (show m + 13 ≠ m + 14 by omega), pf_a, pf_o _ _ _ (show m + 13 ≠ m + 12 by omega), pf_o _ _ _ (show m + 13 ≠ m by omega), pf_o _ _ _ (show m + 13 ≠ m by omega), fm _ (by omega)]
      have d3 : h2 (m + 14) = up (h (m + 14)) c (a * w) := by rw [b4, pf_o _ _ _ (show m + 14 ≠ m by omega), pf_o _ _ _ (show m + 14 ≠ m + 15 by omega), pf_a, pf_o _ _ _ (show m + 14 ≠ m + 13 by omega), pf_o _ _ _ (show m + 14 ≠ m + 12 by omega), pf_o _ _ _ (show m + 14 ≠ m by omega), pf_o _ _ _ (show m + 14 ≠ m by omega), fm _ (by omega)]
      have d4 : h2 (m + 15) = up (h (m + 15)) c (h m 29) := by rw [b4, pf_o _ _ _ (show m + 15 ≠ m by omega), pf_a, pf_o _ _ _ (show m + 15 ≠ m + 14 by omega), pf_o _ _ _ (show m + 15 ≠ m + 13 by omega), pf_o _ _ _ (show m + 15 ≠ m + 12 by omega), pf_o _ _ _ (show m + 15 ≠ m by omega), pf_o _ _ _ (show m + 15 ≠ m by omega), fm _ (by omega)]
      have e83 : h2 (x + 183) = up (h (x + 183)) 3 (c + 1) := by rw [oc _ (by omega), a4]
      have c2 : h2 (x + 183) 3 = c + 1 := by rw [e83, up_s]
      refine ⟨by omega, (rel_n (rg2 := rg) (rn2 := rn) (sg2 := fun k => if k = c then bA h m else sg k) (sn2 := fun k => if k = c then h m 2 else sn k) hm hr (by rw [oc _ (by omega), t0, up_s]) m2 (fun y y1 y3 y4 y5 y0 y6 => ?_) (fun k k0 k2 _ k18 => om k k0 k2 k18) (rRu_fr pu (by rw [e83, up_n _ _ (by decide)]) (fun y y0 y1 y2 => ?_) (om 14 (by decide) (by decide) (by decide)) (fun y _ _ => by rw [o2 y (by omega) (by omega) (by omega) (by omega) (by omega), fm y (by omega)])) ⟨by omega, by rw [c2, m18], fun k k0 k1 => ?_⟩ (rCs_fr pc (by rw [e83, up_n _ _ (by decide)]) (by rw [e83, up_n _ _ (by decide)]) (om 27 (by decide) (by decide) (by decide)) (om 28 (by decide) (by decide) (by decide)))).X⟩
      · rw [o2 y y0 (by omega) (by omega) (by omega) (by omega), a3 y y1 y3 y4 (by omega) (by omega) (by omega) (by omega)]
      · have q := y2 c.toNat
        rw [oc y (by omega), a3 y (by omega) (by omega) (by omega) (by omega) (by omega) (by omega) (by omega)]
      · show stE h2 (x + 183 + 6 + 6 * k.toNat) m k (if k = c then bA h m else sg k) (if k = c then h m 2 else sn k)
        rw [c2] at k1
        by_cases e : k = c
        · rw [if_pos e, if_pos e, e]
          have ey := oc (x + 183 + 6 + 6 * c.toNat) (by omega)
          have d0 := pd.2
          have aw : 0 ≤ a * w ∧ a * w ≤ 600 := by
            obtain ⟨-, -, -, w1, w2, w3, w4, -⟩ := a1
            have : w = 2 ∨ w = 3 := by omega
            rcases this with e | e <;> rw [e] <;> omega
          refine ⟨⟨by rw [ey, a5]; exact ⟨a1.2.1, a1.2.2.1⟩, nmC_fr a7 (oc _ (by omega)) (oc _ (by omega)), by rw [ey, a55]; exact aw, by rw [ey, a6]; exact d0⟩, by rw [ey, a5, d1, up_s], by rw [ey, a55, d3, up_s], by rw [ey, a6, d4, up_s]; exact pd.1, by rw [d2, up_s]; exact b3⟩
        · rw [if_neg e, if_neg e]
          exact stE_fr (R2 k k0 (by omega)) (by rw [oc _ (by omega), a3 _ (by omega) (by omega) (by omega) (by omega) (by omega) (by omega) (by omega)]) (by rw [oc _ (by omega), a3 _ (by omega) (by omega) (by omega) (by omega) (by omega) (by omega) (by omega)]) (by rw [oc _ (by omega), a3 _ (by omega) (by omega) (by omega) (by omega) (by omega) (by omega) (by omega)]) (by rw [d1, up_n _ _ e]) (by rw [d2, up_n _ _ e]) (by rw [d3, up_n _ _ e]) (by rw [d4, up_n _ _ e])
    · exact absurd a1 b1
  · rcases p2 with ⟨b1, -⟩ | ⟨b1, b2, b3⟩
    · exact absurd b1 a1
    · exact ⟨by omega, (rel_nt hm hr t0 a3 b3).X⟩
