/-! ===== list, apart, place ===== -/
theorem rel_l {h h2 : sH} {x m : Nat} {g g2 : Int → Int → Int → Int} {n n2 : Int → Int → Int} {u u2 : Int → Int → Int → Int} {un un2 : Int → Int → Int} {rg sg : Int → Int → Int} {rn sn : Int → Int} (hm : x + 325 ≤ m) (hr : relS h x m g n u un rg rn sg sn) (o : ∀ a : Nat, ¬ (x ≤ a ∧ a < x + 183) → ¬ (m ≤ a ∧ a ≤ m + 8 ∧ a ≠ m + 2) → h2 a = h a) (ox : h2 x 10 = h x 10) (om : ∀ k : Int, 14 ≤ k → h2 m k = h m k) (pt : rTp h2 x m) (pr : rRt h2 x m g2 n2 u2 un2) (pp : h2 x 5 = h2 m 12) : relS h2 x m g2 n2 u2 un2 rg rn sg sn := by
  obtain ⟨-, -, pu, ps, pc, ph, po, pd, -⟩ := rel_pt hr
  have oc : ∀ a : Nat, x + 183 ≤ a → a < m → h2 a = h a := fun a a0 a1 => o a (by omega) (by omega)
  have oM : ∀ a : Nat, m + 9 ≤ a → h2 a = h a := fun a a0 => o a (by omega) (by omega)
  exact rel_mk pt pr (rRu_fr pu (by rw [oc _ (by omega) (by omega)]) (fun a a0 a1 _ => oc a (by omega) (by omega)) (om 14 (by omega)) (fun a a0 a1 => oM a (by omega))) (rSt_fr ps (by rw [oc _ (by omega) (by omega)]) (fun a a0 a1 _ => oc a (by omega) (by omega)) (om 18 (by omega)) (fun a a0 a1 => oM a (by omega))) (rCs_fr pc (by rw [oc _ (by omega) (by omega)]) (by rw [oc _ (by omega) (by omega)]) (om 27 (by omega)) (om 28 (by omega))) (rHb_fr ph (fun a a0 a1 => oc a (by omega) (by omega)) (fun a a0 a1 => oM a (by omega)) (om 23 (by omega))) (rSo_fr po (oc _ (by omega) (by omega)) (o _ (by omega) (by omega))) (rDy_fr pd ox (om 29 (by omega))) pp
theorem step_list {h h1 h2 : sH} {x m : Nat} {g : Int → Int → Int → Int} {n : Int → Int → Int} {u : Int → Int → Int → Int} {un : Int → Int → Int} {rg sg : Int → Int → Int} {rn sn : Int → Int} {w z z2 : Int} (hm : x + 325 ≤ m) (hr : relS h x m g n u un rg rn sg sn)
    (p1 : (¬ (2 ≤ w ∧ w ≤ 3 ∧ h x 4 < 4) ∧ z = -1 ∧ h1 = h) ∨ ((2 ≤ w ∧ w ≤ 3 ∧ h x 4 < 4) ∧ ∃ (k p n : Int) (ns nl us ul : Int → Int), PR (bA h m) (h m 2) 0 true 0 fn0 fn0 fn0 fn0 = (k, p, n, ns, nl, us, ul) ∧ h1 (x + 1) = up (h (x + 1)) 1 0 ∧ h1 x 5 = p ∧ (∀ a : Nat, a ≠ x → a ≠ x + 1 → a ≠ x + 5 → (a < x + 7 + 44 * (h x 4).toNat ∨ x + 7 + 44 * (h x 4).toNat + 44 ≤ a) → h1 a = h a) ∧ (∀ j : Int, j ≠ 4 → j ≠ 5 → h1 x j = h x j) ∧ ((1 ≤ k ∧ k ≤ 3 ∧ z = -1 - k ∧ h1 x 4 = h x 4) ∨ (k = 0 ∧ p = -1 ∧ (2 ≤ n ∧ n ≤ 10) ∧ z = h x 4 ∧ h1 x 4 = h x 4 + 1 ∧ h1 (x + 7 + 44 * (h x 4).toNat) 3 = w ∧ h1 (x + 7 + 44 * (h x 4).toNat) 4 = n ∧ rtI h1 (x + 7 + 44 * (h x 4).toNat) (fun i j => bA h m (ns i + j)) nl (fun i j => signC (bA h m (us i + j))) ul))))
    (p2 : (¬ (2 ≤ w ∧ w ≤ 3 ∧ h1 m 5 < 4) ∧ z2 = -1 ∧ h2 = pf h1 m 0 0) ∨ ((2 ≤ w ∧ w ≤ 3 ∧ h1 m 5 < 4) ∧ lsP h1 h2 m w z2)) : z = z2 ∧ relX h2 x m := by
  obtain ⟨pt, pr, pu, ps, pc, ph, po, pd, pp⟩ := rel_pt hr
  obtain ⟨⟨L0, L4⟩, L5, LL⟩ := pr
  have em : ∀ a : Nat, m ≤ a → h1 a = h a := fun a a0 => by
    rcases p1 with ⟨-, -, e⟩ | ⟨-, k, p, n, ns, nl, us, ul, -, -, -, o, -⟩
    · rw [e]
    · exact o a (by omega) (by omega) (by omega) (by omega)
  have e0 := em m (by omega)
  obtain ⟨c, hc⟩ : ∃ c : Int, c = h x 4 := ⟨_, rfl⟩
  rw [e0, ← L5, ← hc] at p2
  rw [← hc] at p1 L0 L4 L5 LL
  rcases p1 with ⟨a1, a2, a3⟩ | ⟨a1, k, p, N, ns, nl, us, ul, a2, a3, a4, a5, a6, a7⟩
  · rcases p2 with ⟨b1, b2, b3⟩ | ⟨b1, -⟩
    · exact ⟨by omega, by rw [a3] at b3; exact (rel_th hm hr b3).X⟩
    · exact absurd b1 a1
  · rcases p2 with ⟨b1, -⟩ | ⟨-, f1, k', p', N', ns', nl', us', ul', b2, b3, b4, b5, b6, b7⟩
    · exact absurd a1 b1
    · have c3 : c < 4 := a1.2.2
      rw [bA_eq (em (m + 1) (by omega)) (by rw [e0]), e0, a2] at b2
      simp only [Prod.mk.injEq] at b2
      obtain ⟨rfl, rfl, rfl, rfl, rfl, rfl, rfl⟩ := b2
      rw [bA_eq (em (m + 1) (by omega)) (by rw [e0])] at b7
      rw [e0, em (m + 4) (by omega), em (m + 5) (by omega), em (m + 6) (by omega), em (m + 7) (by omega), em (m + 8) (by omega), ← L5] at b7
      have oc : ∀ a : Nat, a < m → h2 a = h1 a := fun a a0 => f1 a (by omega) (by omega) (by omega) (by omega) (by omega) (by omega)
      have oy : ∀ a : Nat, a ≠ x → a ≠ x + 1 → a ≠ x + 5 → (a < x + 7 + 44 * c.toNat ∨ x + 7 + 44 * c.toNat + 44 ≤ a) → a < m → h2 a = h a := fun a d1 d2 d3 d4 d5 => by rw [oc a d5, a5 a d1 d2 d3 d4]
      have o : ∀ a : Nat, ¬ (x ≤ a ∧ a < x + 183) → ¬ (m ≤ a ∧ a ≤ m + 8 ∧ a ≠ m + 2) → a ≠ m + 3 → h2 a = h a := fun a d1 d2 d3 => by
        rw [f1 a (by omega) (by omega) (by omega) (by omega) (by omega) (by omega), a5 a (by omega) (by omega) (by omega) (by omega)]
      have om : ∀ k : Int, 14 ≤ k → h2 m k = h m k := fun k k0 => by rw [b6 k (by omega) (by omega) (by omega) (by omega) (by omega) (by omega), e0]
      have ox := oc x (by omega)
      have rl := fun (g2 : Int → Int → Int → Int) (n2 : Int → Int → Int) (u2 : Int → Int → Int → Int) (un2 : Int → Int → Int) (pr : rRt h2 x m g2 n2 u2 un2) => (rel_l (g2 := g2) (n2 := n2) (u2 := u2) (un2 := un2) hm hr (fun a d1 d2 => o a d1 d2 (by omega)) (by rw [ox, a6 10 (by decide) (by decide)]) om (rTp_0 (by rw [oc _ (by omega), a3, up_s]) b4) pr (by rw [ox, a4, b5])).X
      rcases a7 with ⟨k1, k3, a8, a9⟩ | ⟨k0, -, N2, a8, a9, a10, a11, a12⟩
      · rcases b7 with ⟨-, -, b8, b9, d4, d5, d6, d7, d8⟩ | ⟨k0, -⟩
        · refine ⟨by omega, rl g n u un ⟨by rw [ox, a9]; exact ⟨L0, L4⟩, by rw [ox, a9, b9], fun l l0 l1 => ?_⟩⟩
          rw [ox, a9] at l1
          exact reL_fr (LL l l0 l1) (fun a y0 y1 _ => oy a (by omega) (by omega) (by omega) (by omega) (by omega)) (by rw [d4]) (d5 l (by omega)) (fun i i0 i1 => d6 _ (by omega)) (fun i i0 i1 => d8 _ (by omega)) (fun i j i0 i1 j0 j1 => d7 _ (by omega))
        · omega
      · rcases b7 with ⟨k1, -⟩ | ⟨-, -, -, b8, b9, d4, d5, d55, d6, d66, d8, d88, d77⟩
        · omega
        · refine ⟨by omega, rl (fun l => if l = c then fun i j => bA h m (ns i + j) else g l) (fun l => if l = c then nl else n l) (fun l => if l = c then fun i j => signC (bA h m (us i + j)) else u l) (fun l => if l = c then ul else un l) ⟨by rw [ox, a9]; omega, by rw [ox, a9, b9], fun l l0 l1 => ?_⟩⟩
          rw [ox, a9] at l1
          show reL h2 (x + 7 + 44 * l.toNat) m l (if l = c then fun i j => bA h m (ns i + j) else g l) (if l = c then nl else n l) (if l = c then fun i j => signC (bA h m (us i + j)) else u l) (if l = c then ul else un l)
          by_cases e : l = c
          · rw [if_pos e, if_pos e, if_pos e, if_pos e, e]
            have ey := oc (x + 7 + 44 * c.toNat) (by omega)
            refine ⟨by rw [ey, a10, d4, up_s], by rw [ey, a11, d5], rtI_fr a12 (fun a _ _ _ => oc a (by omega)), fun i i0 i1 => ?_, fun i i0 i1 => ?_⟩
            · rw [ey, a11] at i1
              exact d6 i i0 i1
            · rw [ey, a11] at i1
              exact ⟨(d8 i i0 i1).1, fun j j0 j1 => ((d8 i i0 i1).2.2 j j0 j1).1⟩
          · rw [if_neg e, if_neg e, if_neg e, if_neg e]
            exact reL_fr (LL l l0 (by omega)) (fun a y0 y1 _ => oy a (by omega) (by omega) (by omega) (by omega) (by omega)) (by rw [d4, up_n _ _ e]) (d55 l (by omega) e) (fun i i0 i1 => d66 _ (by omega)) (fun i i0 i1 => d88 _ (by omega)) (fun i j i0 i1 j0 j1 => d77 _ (by omega))
theorem step_apart {h h1 h2 : sH} {x m : Nat} {g : Int → Int → Int → Int} {n : Int → Int → Int} {u : Int → Int → Int → Int} {un : Int → Int → Int} {rg sg : Int → Int → Int} {rn sn : Int → Int} (hm : x + 325 ≤ m) (hr : relS h x m g n u un rg rn sg sn) (t0 : h1 (x + 1) = up (h (x + 1)) 1 0) (f1 : ∀ a : Nat, a ≠ x + 1 → a ≠ x + 3 → a ≠ x + 4 → a ≠ x + 264 → h1 a = h a) (f2 : ∀ a : Nat, a ≠ m → a ≠ m + 3 → h2 a = h1 a) (e2 : h2 m = up (up (h1 m) 0 0) 2 0) : relX h2 x m := by
  have em := f1 m (by omega) (by omega) (by omega) (by omega)
  exact (rel_tp hm hr (fun a a1 a2 a3 a4 a5 a6 _ => by rw [f2 a (by omega) (by omega), f1 a a1 a3 a4 a5]) (fun a a0 a1 a2 => by rw [f2 a (by omega) a2, f1 a (by omega) (by omega) (by omega) (by omega)]) (fun k k0 k2 => by rw [e2, up_n _ _ k2, up_n _ _ k0, em]) (rTp_0 (by rw [f2 _ (by omega) (by omega), t0, up_s]) (by rw [e2, up_s]))).X
