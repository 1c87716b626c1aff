theorem rel_ls {h : sH} {x m : Nat} {g : Int → Int → Int → Int} {n : Int → Int → Int} {u : Int → Int → Int → Int} {un : Int → Int → Int} {rg sg : Int → Int → Int} {rn sn : Int → Int} (hr : relS h x m g n u un rg rn sg sn) {l1 day : Int} (l0 : 0 ≤ l1) (l2 : l1 < h x 4) : lsX h x g n u un rg rn sg sn l1 day = lsM h m g n rg rn l1 day ∧ 0 ≤ lsM h m g n rg rn l1 day ∧ lsM h m g n rg rn l1 day ≤ 1000000 := by
  obtain ⟨a1, a2, a3⟩ := rel_ag hr (day := day) l0 l2
  have rd := clI_rdy hr.1 (day := day) l0 l2
  have rs := RSt_congr rd a3
  have e : lsX h x g n u un rg rn sg sn l1 day = lsM h m g n rg rn l1 day := by
    unfold lsX lsM RM
    rw [← a1, ← a2]
    exact mnP_congr _ (fun p p0 p1 => rs _ (by have := rd.2.1; omega) p p0 (by omega))
  refine ⟨e, ?_⟩
  rw [← e]
  exact mnP_in 601 (fun p p0 p1 => (RSt_bd rd _ (by have := rd.2.1; omega) p p0 (by omega)).1)
theorem agM_Q {h h1 : sH} {x m : Nat} (hm : x + 325 ≤ m) (f : frQ h h1 x) : agM h h1 m ∧ h1 m = h m ∧ h1 (m + 4) = h (m + 4) ∧ h1 (m + 5) = h (m + 5) := by
  have k : ∀ a : Nat, m ≤ a → h1 a = h a := fun a a0 => f a (by omega) (by omega) (fun l _ => by omega)
  have e := k m (by omega)
  exact ⟨⟨fun a a1 _ _ _ => k a (by omega), by rw [e], by rw [e], by rw [e], by rw [e], by rw [e], by rw [e], by rw [e]⟩, e, k _ (by omega), k _ (by omega)⟩
theorem lsM_ag {h h1 : sH} {m : Nat} (e : agM h h1 m) (g : Int → Int → Int → Int) (n : Int → Int → Int) (rg : Int → Int → Int) (rn : Int → Int) (l1 day : Int) : lsM h1 m g n rg rn l1 day = lsM h m g n rg rn l1 day := by
  unfold lsM
  rw [(agM_RM e g n rg rn l1 day).1, e.1 (m + 5) (by omega) (by omega) (by omega) (by omega)]
theorem same_best {h h1 : sH} {x m : Nat} {g : Int → Int → Int → Int} {n : Int → Int → Int} {u : Int → Int → Int → Int} {un : Int → Int → Int} {rg sg : Int → Int → Int} {rn sn : Int → Int} {l1 day z z2 : Int} (hm : x + 325 ≤ m) (hr : relS h x m g n u un rg rn sg sn) (f : frQ h h1 x) (p1 : (¬ okX h x l1 day ∧ z = -1) ∨ (okX h x l1 day ∧ z = (if lsX h x g n u un rg rn sg sn l1 day < 1000000 then lsX h x g n u un rg rn sg sn l1 day else -2))) (p2 : (¬ (0 ≤ l1 ∧ l1 < h1 m 5 ∧ 0 ≤ day ∧ day ≤ h1 m 29) ∧ z2 = -1) ∨ ((0 ≤ l1 ∧ l1 < h1 m 5 ∧ 0 ≤ day ∧ day ≤ h1 m 29) ∧ z2 = (if mnP (RM h1 m g n rg rn l1 day (h1 (m + 5) l1 - 1).toNat) 601 = 1000000 then -2 else mnP (RM h1 m g n rg rn l1 day (h1 (m + 5) l1 - 1).toNat) 601))) : z = z2 := by
  obtain ⟨ag, em, -, -⟩ := agM_Q hm f
  have e5 := hr.2.1
  have e29 := hr.2.2.2.1
  rw [em, ← e5, ← e29] at p2
  rcases p1 with ⟨a1, a2⟩ | ⟨a1, a2⟩ <;> rcases p2 with ⟨b1, b2⟩ | ⟨b1, b2⟩
  · omega
  · exact absurd b1 a1
  · exact absurd a1 b1
  · have k := rel_ls hr (day := day) a1.1 a1.2.1
    have e2 : mnP (RM h1 m g n rg rn l1 day (h1 (m + 5) l1 - 1).toNat) 601 = lsM h m g n rg rn l1 day := lsM_ag ag g n rg rn l1 day
    rw [e2] at b2
    rw [k.1] at a2
    by_cases q : lsM h m g n rg rn l1 day < 1000000
    · rw [if_pos q] at a2; rw [if_neg (by omega)] at b2; omega
    · rw [if_neg q] at a2; rw [if_pos (by omega)] at b2; omega
theorem same_at {h h1 : sH} {x m : Nat} {g : Int → Int → Int → Int} {n : Int → Int → Int} {u : Int → Int → Int → Int} {un : Int → Int → Int} {rg sg : Int → Int → Int} {rn sn : Int → Int} {l1 day st z z2 : Int} (hm : x + 325 ≤ m) (hr : relS h x m g n u un rg rn sg sn) (f : frQ h h1 x) (p1 : (¬ (okX h x l1 day ∧ 0 ≤ st ∧ st < h (x + 7 + 44 * l1.toNat) 4) ∧ z = -1) ∨ ((okX h x l1 day ∧ 0 ≤ st ∧ st < h (x + 7 + 44 * l1.toNat) 4) ∧ ¬ lsX h x g n u un rg rn sg sn l1 day < 1000000 ∧ z = -1) ∨ ((okX h x l1 day ∧ 0 ≤ st ∧ st < h (x + 7 + 44 * l1.toNat) 4) ∧ lsX h x g n u un rg rn sg sn l1 day < 1000000 ∧ ∃ row : Int → Int, bRX h x g n u un rg rn sg sn l1 day row ∧ z = row st)) (p2 : (¬ (okA h1 m l1 day ∧ 0 ≤ st ∧ st < h1 (m + 5) l1) ∧ z2 = -1) ∨ ((okA h1 m l1 day ∧ 0 ≤ st ∧ st < h1 (m + 5) l1) ∧ lsM h1 m g n rg rn l1 day = 1000000 ∧ z2 = -1) ∨ ((okA h1 m l1 day ∧ 0 ≤ st ∧ st < h1 (m + 5) l1) ∧ lsM h1 m g n rg rn l1 day < 1000000 ∧ ∃ row : Int → Int, bRM h1 m g n rg rn l1 day row ∧ z2 = row st)) : z = z2 := by
  obtain ⟨ag, em, e4', e5'⟩ := agM_Q hm f
  have e5 := hr.2.1
  have e29 := hr.2.2.2.1
  unfold okA at p2
  rw [em, ← e5, ← e29, lsM_ag ag, e5'] at p2
  by_cases ok : okX h x l1 day
  · obtain ⟨a1, a2, a3⟩ := rel_ag hr (day := day) ok.1 ok.2.1
    have k := rel_ls hr (day := day) ok.1 ok.2.1
    rw [k.1] at p1
    rw [← a1] at p2
    have okf : (0 ≤ l1 ∧ l1 < h x 4 ∧ 0 ≤ day ∧ day ≤ h x 10) := ok
    rcases p1 with ⟨b1, b2⟩ | ⟨b1, b2, b3⟩ | ⟨b1, b2, row, b3, b4⟩ <;> rcases p2 with ⟨c1, c2⟩ | ⟨c1, c2, c3⟩ | ⟨c1, c2, row2, c3, c4⟩
    · omega
    · omega
    · exact absurd ⟨ok, c1.2⟩ b1
    · omega
    · omega
    · omega
    · exact absurd ⟨okf, b1.2⟩ c1
    · omega
    · have rd := clI_rdy hr.1 (day := day) ok.1 ok.2.1
      have b5 := bRow_congr rd a3 b3
      unfold bRM at c3
      obtain ⟨q1, q2, q3, q4, q5⟩ := agM_RM ag g n rg rn l1 day
      rw [q1, q2, q3, q4, q5, e4', e5'] at c3
      unfold RM at c3
      rw [← a1, ← a2] at c3
      have := bRow_u b5 c3 st.toNat (by omega)
      rw [show ((st.toNat : Nat) : Int) = st by omega] at this
      omega
  · have nk : ¬ ((0 ≤ l1 ∧ l1 < h x 4 ∧ 0 ≤ day ∧ day ≤ h x 10) ∧ 0 ≤ st ∧ st < h (m + 5) l1) := fun y => ok y.1
    rcases p1 with ⟨b1, b2⟩ | ⟨b1, -⟩ | ⟨b1, -⟩
    · rcases p2 with ⟨c1, c2⟩ | ⟨c1, -⟩ | ⟨c1, -⟩
      · omega
      · exact absurd c1 nk
      · exact absurd c1 nk
    · exact absurd b1.1 ok
    · exact absurd b1.1 ok
