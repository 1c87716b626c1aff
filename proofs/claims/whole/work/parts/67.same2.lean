theorem same_rivals {h h1 : sH} {x m : Nat} {g : Int → Int → Int → Int} {n : Int → Int → Int} {u : Int → Int → Int → Int} {un : Int → Int → Int} {rg sg : Int → Int → Int} {rn sn : Int → Int} {l1 day d2 z z2 : Int} (hm : x + 325 ≤ m) (hr : relS h x m g n u un rg rn sg sn) (f : frQ h h1 x) (p1 : (¬ (okX h x l1 day ∧ 0 ≤ d2 ∧ d2 ≤ 20) ∧ z = -1) ∨ ((okX h x l1 day ∧ 0 ≤ d2 ∧ d2 ≤ 20) ∧ ¬ lsX h x g n u un rg rn sg sn l1 day < 1000000 ∧ z = -1) ∨ ((okX h x l1 day ∧ 0 ≤ d2 ∧ d2 ≤ 20) ∧ lsX h x g n u un rg rn sg sn l1 day < 1000000 ∧ z = min 1000000 (tot (RSt (h (x + 7 + 44 * l1.toNat) 4) (h (x + 7 + 44 * l1.toNat) 3) (rsX h x u un l1) (rvX h x u un l1) (rcX h x u un l1) (owX h x g n rg rn sg sn l1 day) (h (x + 7 + 44 * l1.toNat) 4 - 1).toNat) (XC (h (x + 7 + 44 * l1.toNat) 4) (h (x + 7 + 44 * l1.toNat) 3) (rsX h x u un l1) (rvX h x u un l1) (rcX h x u un l1) (owX h x g n rg rn sg sn l1 day) (h (x + 7 + 44 * l1.toNat) 4 - 1).toNat) (lsX h x g n u un rg rn sg sn l1 day + d2)))) (p2 : (¬ (okA h1 m l1 day ∧ 0 ≤ d2 ∧ d2 ≤ 20) ∧ z2 = -1) ∨ ((okA h1 m l1 day ∧ 0 ≤ d2 ∧ d2 ≤ 20) ∧ lsM h1 m g n rg rn l1 day = 1000000 ∧ z2 = -1) ∨ ((okA h1 m l1 day ∧ 0 ≤ d2 ∧ d2 ≤ 20) ∧ lsM h1 m g n rg rn l1 day < 1000000 ∧ z2 = min 1000000 (tot (RM h1 m g n rg rn l1 day (h1 (m + 5) l1 - 1).toNat) (XC (h1 (m + 5) l1) (h1 (m + 4) l1) (rsM h1 m l1) (rvM h1 m l1) (rcM h1 m l1) (owF h1 m g n rg rn l1 day) (h1 (m + 5) l1 - 1).toNat) (lsM h1 m g n rg rn l1 day + d2)))) : z = z2 := by
  obtain ⟨ag, em, e4', e5'⟩ := agM_Q hm f
  have e5 := hr.2.1
  have e29 := hr.2.2.2.1
  obtain ⟨q1, q2, q3, q4, q5⟩ := agM_RM ag g n rg rn l1 day
  unfold okA at p2
  rw [em, ← e5, ← e29, lsM_ag ag, q1, q2, q3, q4, q5, e4', e5'] at p2
  by_cases ok : okX h x l1 day
  · obtain ⟨a1, a2, a3⟩ := rel_ag hr (day := day) ok.1 ok.2.1
    have k := rel_ls hr (day := day) ok.1 ok.2.1
    have rd := clI_rdy hr.1 (day := day) ok.1 ok.2.1
    have N2 := rd.2.1
    have okf : (0 ≤ l1 ∧ l1 < h x 4 ∧ 0 ≤ day ∧ day ≤ h x 10) := ok
    have et := tot_congr (lim := lsM h m g n rg rn l1 day + d2) (RSt_congr rd a3 (h (x + 7 + 44 * l1.toNat) 4 - 1).toNat (by omega)) (XC_congr rd a3 (h (x + 7 + 44 * l1.toNat) 4 - 1).toNat (by omega))
    rw [k.1, et] at p1
    unfold RM at p2
    rw [← a1, ← a2] at p2
    rcases p1 with ⟨b1, b2⟩ | ⟨b1, b2, b3⟩ | ⟨b1, b2, b3⟩ <;> rcases p2 with ⟨c1, c2⟩ | ⟨c1, c2, c3⟩ | ⟨c1, c2, c3⟩
    · omega
    · omega
    · exact absurd ⟨ok, c1.2⟩ b1
    · omega
    · omega
    · omega
    · exact absurd ⟨okf, b1.2⟩ c1
    · omega
    · rw [b3, c3]
  · have nk : ¬ ((0 ≤ l1 ∧ l1 < h x 4 ∧ 0 ≤ day ∧ day ≤ h x 10) ∧ 0 ≤ d2 ∧ d2 ≤ 20) := fun y => ok y.1
    rcases p1 with ⟨b1, b2⟩ | ⟨b1, -⟩ | ⟨b1, -⟩
    · rcases p2 with ⟨c1, c2⟩ | ⟨c1, -⟩ | ⟨c1, -⟩
      · omega
      · exact absurd c1 nk
      · exact absurd c1 nk
    · exact absurd b1.1 ok
    · exact absurd b1.1 ok
theorem same_span {h h1 : sH} {x m : Nat} {g : Int → Int → Int → Int} {n : Int → Int → Int} {u : Int → Int → Int → Int} {un : Int → Int → Int} {rg sg : Int → Int → Int} {rn sn : Int → Int} {l1 day d2 st wh z z2 : Int} (hm : x + 325 ≤ m) (hr : relS h x m g n u un rg rn sg sn) (f : frQ h h1 x) (p1 : (¬ (okX h x l1 day ∧ (0 ≤ d2 ∧ d2 ≤ 20) ∧ (0 ≤ st ∧ st < h (x + 7 + 44 * l1.toNat) 4) ∧ 0 ≤ wh ∧ wh ≤ 1) ∧ z = -1) ∨ ((okX h x l1 day ∧ (0 ≤ d2 ∧ d2 ≤ 20) ∧ (0 ≤ st ∧ st < h (x + 7 + 44 * l1.toNat) 4) ∧ 0 ≤ wh ∧ wh ≤ 1) ∧ ¬ lsX h x g n u un rg rn sg sn l1 day < 1000000 ∧ z = -1) ∨ ((okX h x l1 day ∧ (0 ≤ d2 ∧ d2 ≤ 20) ∧ (0 ≤ st ∧ st < h (x + 7 + 44 * l1.toNat) 4) ∧ 0 ≤ wh ∧ wh ≤ 1) ∧ lsX h x g n u un rg rn sg sn l1 day < 1000000 ∧ spI (fun p => wF (h (x + 7 + 44 * l1.toNat) 3) (rsX h x u un l1) (rvX h x u un l1) (rcX h x u un l1) (owX h x g n rg rn sg sn l1 day) st.toNat p + RSt (h (x + 7 + 44 * l1.toNat) 4) (h (x + 7 + 44 * l1.toNat) 3) (rsX h x u un l1) (rvX h x u un l1) (rcX h x u un l1) (owX h x g n rg rn sg sn l1 day) (h (x + 7 + 44 * l1.toNat) 4 - 1 - st).toNat p ≤ lsX h x g n u un rg rn sg sn l1 day + d2) wh 601 z)) (p2 : (¬ (okA h1 m l1 day ∧ (0 ≤ d2 ∧ d2 ≤ 20) ∧ (0 ≤ st ∧ st < h1 (m + 5) l1) ∧ 0 ≤ wh ∧ wh ≤ 1) ∧ z2 = -1) ∨ ((okA h1 m l1 day ∧ (0 ≤ d2 ∧ d2 ≤ 20) ∧ (0 ≤ st ∧ st < h1 (m + 5) l1) ∧ 0 ≤ wh ∧ wh ≤ 1) ∧ lsM h1 m g n rg rn l1 day = 1000000 ∧ z2 = -1) ∨ ((okA h1 m l1 day ∧ (0 ≤ d2 ∧ d2 ≤ 20) ∧ (0 ≤ st ∧ st < h1 (m + 5) l1) ∧ 0 ≤ wh ∧ wh ≤ 1) ∧ lsM h1 m g n rg rn l1 day < 1000000 ∧ ∃ W : Int → Int → Int, bfR (h1 (m + 5) l1) (h1 (m + 4) l1) (rsM h1 m l1) (rvM h1 m l1) (rcM h1 m l1) (owF h1 m g n rg rn l1 day) W ∧ spI (spO (W st) (RM h1 m g n rg rn l1 day (h1 (m + 5) l1 - 1 - st).toNat) (lsM h1 m g n rg rn l1 day + d2)) wh 601 z2)) : z = z2 := by
  obtain ⟨ag, em, e4', e5'⟩ := agM_Q hm f
  have e5 := hr.2.1
  have e29 := hr.2.2.2.1
  obtain ⟨q1, q2, q3, q4, q5⟩ := agM_RM ag g n rg rn l1 day
  unfold okA at p2
  rw [em, ← e5, ← e29, lsM_ag ag, q1, q2, q3, q4, q5, e4', e5'] at p2
  by_cases ok : okX h x l1 day
  · obtain ⟨a1, a2, a3⟩ := rel_ag hr (day := day) ok.1 ok.2.1
    have k := rel_ls hr (day := day) ok.1 ok.2.1
    have rd := clI_rdy hr.1 (day := day) ok.1 ok.2.1
    have N2 := rd.2.1
    have okf : (0 ≤ l1 ∧ l1 < h x 4 ∧ 0 ≤ day ∧ day ≤ h x 10) := ok
    rw [k.1] at p1
    unfold RM at p2
    rw [← a1, ← a2] at p2
    rcases p1 with ⟨b1, b2⟩ | ⟨b1, b2, b3⟩ | ⟨b1, b2, b3⟩ <;> rcases p2 with ⟨c1, c2⟩ | ⟨c1, c2, c3⟩ | ⟨c1, c2, W, c3, c4⟩
    · omega
    · omega
    · exact absurd ⟨ok, c1.2⟩ b1
    · omega
    · omega
    · omega
    · exact absurd ⟨okf, b1.2⟩ c1
    · omega
    · have st0 := b1.2.2.1
      have w1 := bfR_congr (agR_s a3) c3
      have wu := bfR_u w1 (wF_R rd) st.toNat (by omega)
      rw [show ((st.toNat : Nat) : Int) = st by omega] at wu
      have rs := RSt_congr rd a3 (h (x + 7 + 44 * l1.toNat) 4 - 1 - st).toNat (by omega)
      have wb := (wF_ok rd st.toNat (by omega)).1
      have rb := RSt_bd rd (h (x + 7 + 44 * l1.toNat) 4 - 1 - st).toNat (by omega)
      have lsb : lsM h m g n rg rn l1 day ≤ 10000 := by
        rw [← k.1] at b2 ⊢
        obtain ⟨pm, pm0, pm1, pm2⟩ := mnP_att 601 b2
        have := RSt_bd rd (h (x + 7 + 44 * l1.toNat) 4 - 1).toNat (by omega) pm pm0 (by omega)
        unfold lsX at b2 ⊢
        omega
      refine spI_u b3 (spI_congr c4 (fun p p0 p1 => ?_))
      unfold spO
      have r1 := rs p p0 p1
      have r2 := wu p p0 p1
      have r3 := wb p p0 p1
      have r4 := rb p p0 p1
      rw [← r1, r2]
      constructor
      · rintro ⟨-, -, y⟩; exact y
      · intro y; exact ⟨by omega, by omega, y⟩
  · have nk : ¬ ((0 ≤ l1 ∧ l1 < h x 4 ∧ 0 ≤ day ∧ day ≤ h x 10) ∧ (0 ≤ d2 ∧ d2 ≤ 20) ∧ (0 ≤ st ∧ st < h (m + 5) l1) ∧ 0 ≤ wh ∧ wh ≤ 1) := fun y => ok y.1
    rcases p1 with ⟨b1, b2⟩ | ⟨b1, -⟩ | ⟨b1, -⟩
    · rcases p2 with ⟨c1, c2⟩ | ⟨c1, -⟩ | ⟨c1, -⟩
      · omega
      · exact absurd c1 nk
      · exact absurd c1 nk
    · exact absurd b1.1 ok
    · exact absurd b1.1 ok
