theorem same_shared {h h1 : sH} {x m : Nat} {g : Int → Int → Int → Int} {n : Int → Int → Int} {u : Int → Int → Int → Int} {un : Int → Int → Int} {rg sg : Int → Int → Int} {rn sn : Int → Int} {a b2 day z z2 : Int} (hm : x + 325 ≤ m) (hr : relS h x m g n u un rg rn sg sn) (f : frQ h h1 x) (p1 : (¬ (okX h x a day ∧ 0 ≤ b2 ∧ b2 < h x 4 ∧ a ≠ b2) ∧ z = -1) ∨ ((okX h x a day ∧ 0 ≤ b2 ∧ b2 < h x 4 ∧ a ≠ b2) ∧ (¬ lsX h x g n u un rg rn sg sn a day < 1000000 ∨ ¬ lsX h x g n u un rg rn sg sn b2 day < 1000000) ∧ z = 0) ∨ ((okX h x a day ∧ 0 ≤ b2 ∧ b2 < h x 4 ∧ a ≠ b2) ∧ lsX h x g n u un rg rn sg sn a day < 1000000 ∧ lsX h x g n u un rg rn sg sn b2 day < 1000000 ∧ ∃ ra rb : Int → Int, bRX h x g n u un rg rn sg sn a day ra ∧ bRX h x g n u un rg rn sg sn b2 day rb ∧ z = cIJ (shP (h (x + 7 + 44 * a.toNat) 3) (h (x + 7 + 44 * b2.toNat) 3) ra rb (fun k => vS (u a k) (un a k).toNat) (fun k => vS (u b2 k) (un b2 k).toNat) (smC (g a) (n a) (u a) (un a) (g b2) (n b2) (u b2) (un b2))) (h (x + 7 + 44 * b2.toNat) 4 - 1).toNat (h (x + 7 + 44 * a.toNat) 4 - 1).toNat)) (p2 : (¬ (okA h1 m a day ∧ 0 ≤ b2 ∧ b2 < h1 m 5 ∧ a ≠ b2) ∧ z2 = -1) ∨ ((okA h1 m a day ∧ 0 ≤ b2 ∧ b2 < h1 m 5 ∧ a ≠ b2) ∧ (lsM h1 m g n rg rn a day = 1000000 ∨ lsM h1 m g n rg rn b2 day = 1000000) ∧ z2 = 0) ∨ ((okA h1 m a day ∧ 0 ≤ b2 ∧ b2 < h1 m 5 ∧ a ≠ b2) ∧ lsM h1 m g n rg rn a day < 1000000 ∧ lsM h1 m g n rg rn b2 day < 1000000 ∧ ∃ ra rb : Int → Int, bRM h1 m g n rg rn a day ra ∧ bRM h1 m g n rg rn b2 day rb ∧ z2 = cIJ (shP (h1 (m + 4) a) (h1 (m + 4) b2) ra rb (vlM h1 m a) (vlM h1 m b2) (smM h1 m a b2)) (h1 (m + 5) b2 - 1).toNat (h1 (m + 5) a - 1).toNat)) : z = z2 := by
  obtain ⟨ag, em, e4', e5'⟩ := agM_Q hm f
  have e5 := hr.2.1
  have e29 := hr.2.2.2.1
  obtain ⟨esv, ess⟩ := agM_sh ag
  unfold okA at p2
  rw [em, ← e5, ← e29, lsM_ag ag, lsM_ag ag, e4', e5', esv, ess] at p2
  by_cases ok : okX h x a day ∧ 0 ≤ b2 ∧ b2 < h x 4 ∧ a ≠ b2
  · obtain ⟨a1, a2, a3⟩ := rel_ag hr (day := day) ok.1.1 ok.1.2.1
    obtain ⟨b1, b2', b3⟩ := rel_ag hr (day := day) ok.2.1 ok.2.2.1
    have ka := rel_ls hr (day := day) ok.1.1 ok.1.2.1
    have kb := rel_ls hr (day := day) ok.2.1 ok.2.2.1
    have okf : (0 ≤ a ∧ a < h x 4 ∧ 0 ≤ day ∧ day ≤ h x 10) ∧ 0 ≤ b2 ∧ b2 < h x 4 ∧ a ≠ b2 := ok
    rw [ka.1, kb.1] at p1
    rcases p1 with ⟨c1, c2⟩ | ⟨c1, c2, c3⟩ | ⟨c1, c2, c3, ra, rb, c4, c5, c6⟩
    · exact absurd ok c1
    · rcases p2 with ⟨d1, d2⟩ | ⟨d1, d2, d3⟩ | ⟨d1, d2, d3, -⟩
      · exact absurd okf d1
      · omega
      · omega
    · rcases p2 with ⟨d1, d2⟩ | ⟨d1, d2, d3⟩ | ⟨d1, d2, d3, sa, sb, d4, d5, d6⟩
      · exact absurd okf d1
      · omega
      · have rda := clI_rdy hr.1 (day := day) ok.1.1 ok.1.2.1
        have rdb := clI_rdy hr.1 (day := day) ok.2.1 ok.2.2.1
        have Na := rda.2.1
        have Nb := rdb.2.1
        have ca := bRow_congr rda a3 c4
        have cb := bRow_congr rdb b3 c5
        unfold bRM at d4 d5
        obtain ⟨q1, q2, q3, q4, q5⟩ := agM_RM ag g n rg rn a day
        obtain ⟨w1, w2, w3, w4, w5⟩ := agM_RM ag g n rg rn b2 day
        rw [q1, q2, q3, q4, q5, e4', e5'] at d4
        rw [w1, w2, w3, w4, w5, e4', e5'] at d5
        unfold RM at d4 d5
        rw [← a1, ← a2] at d4
        rw [← b1, ← b2'] at d5
        have ua := bRow_u ca d4
        have ub := bRow_u cb d5
        have ua' : ∀ i : Int, 0 ≤ i → i < h (x + 7 + 44 * a.toNat) 4 → ra i = sa i := fun i i0 i1 => by
          have := ua i.toNat (by omega)
          rw [show ((i.toNat : Nat) : Int) = i by omega] at this
          exact this
        have ub' : ∀ i : Int, 0 ≤ i → i < h (x + 7 + 44 * b2.toNat) 4 → rb i = sb i := fun i i0 i1 => by
          have := ub i.toNat (by omega)
          rw [show ((i.toNat : Nat) : Int) = i by omega] at this
          exact this
        obtain ⟨-, -, ta3, ta4, ta5⟩ := hr.2.2.2.2.1 a ok.1.1 ok.1.2.1
        obtain ⟨-, -, tb3, tb4, tb5⟩ := hr.2.2.2.2.1 b2 ok.2.1 ok.2.2.1
        have va : ∀ i : Int, 0 ≤ i → i + 1 < h (x + 7 + 44 * a.toNat) 4 → vS (u a i) (un a i).toNat = vlM h m a i := fun i i0 i1 => by
          obtain ⟨y1, y2⟩ := ta5 i i0 i1
          unfold vlM
          rw [y1]
          exact vS_congr _ (fun j j0 j1 => (y2 j j0 (by omega)).symm)
        have vb : ∀ i : Int, 0 ≤ i → i + 1 < h (x + 7 + 44 * b2.toNat) 4 → vS (u b2 i) (un b2 i).toNat = vlM h m b2 i := fun i i0 i1 => by
          obtain ⟨y1, y2⟩ := tb5 i i0 i1
          unfold vlM
          rw [y1]
          exact vS_congr _ (fun j j0 j1 => (y2 j j0 (by omega)).symm)
        rw [c6, d6, ← a1, ← a2, ← b1, ← b2']
        refine cIJ_congr _ (fun i j i0 i1 j0 j1 => ?_)
        have i1' : i + 1 < h (x + 7 + 44 * a.toNat) 4 := by omega
        have j1' : j + 1 < h (x + 7 + 44 * b2.toNat) 4 := by omega
        unfold shP misP
        rw [ua' i i0 (by omega), ua' (i + 1) (by omega) (by omega), ub' j j0 (by omega), ub' (j + 1) (by omega) (by omega)]
        rw [show (fun k => vS (u a k) (un a k).toNat) i = vlM h m a i from va i i0 i1', show (fun k => vS (u b2 k) (un b2 k).toNat) j = vlM h m b2 j from vb j j0 j1']
        have sm : smC (g a) (n a) (u a) (un a) (g b2) (n b2) (u b2) (un b2) i j ↔ smM h m a b2 i j := by
          unfold smC smM
          have n1 := NmP_eqN (ta4 i i0 (by omega)) (tb4 j j0 (by omega))
          have n2 := NmP_eqN (ta4 (i + 1) (by omega) (by omega)) (tb4 (j + 1) (by omega) (by omega))
          rw [show 10 * a + (i + 1) = 10 * a + i + 1 by omega, show 10 * b2 + (j + 1) = 10 * b2 + j + 1 by omega] at n2
          obtain ⟨y1, y2⟩ := ta5 i i0 i1'
          obtain ⟨z1, z2⟩ := tb5 j j0 j1'
          rw [← n1, ← n2, y1, z1]
          have n3 : eqN (u a i) (u b2 j) (un a i) (un b2 j) ↔ (un a i = un b2 j ∧ eqS (fun x => h (m + 7) (9 * (10 * a + i) + x)) (fun x => h (m + 7) (9 * (10 * b2 + j) + x)) (un a i)) := by
            constructor
            · rintro ⟨w1, w2⟩
              refine ⟨w1, fun k k0 k1 => ?_⟩
              show h (m + 7) (9 * (10 * a + i) + k) = h (m + 7) (9 * (10 * b2 + j) + k)
              rw [y2 k k0 k1, z2 k k0 (by omega)]
              exact w2 k k0 k1
            · rintro ⟨w1, w2⟩
              refine ⟨w1, fun k k0 k1 => ?_⟩
              rw [← y2 k k0 k1, ← z2 k k0 (by omega)]
              exact w2 k k0 k1
          rw [n3]
        rw [sm]
  · have nk : ¬ ((0 ≤ a ∧ a < h x 4 ∧ 0 ≤ day ∧ day ≤ h x 10) ∧ 0 ≤ b2 ∧ b2 < h x 4 ∧ a ≠ b2) := ok
    rcases p1 with ⟨b1, b2'⟩ | ⟨b1, -⟩ | ⟨b1, -⟩
    · rcases p2 with ⟨c1, c2⟩ | ⟨c1, -⟩ | ⟨c1, -⟩
      · omega
      · exact absurd c1 nk
      · exact absurd c1 nk
    · exact absurd b1 ok
    · exact absurd b1 ok
