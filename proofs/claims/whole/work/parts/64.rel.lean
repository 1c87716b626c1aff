/-! ===== class and model hold the same ===== -/
/-- list l of the class (route at y) and of the model -/
def reL (h : sH) (y m : Nat) (l : Int) (g : Int → Int → Int) (n : Int → Int) (u : Int → Int → Int) (un : Int → Int) : Prop := h y 3 = h (m + 4) l ∧ h y 4 = h (m + 5) l ∧ rtI h y g n u un ∧ (∀ i : Int, 0 ≤ i → i < h y 4 → NmP (h (m + 6) (10 * l + i)) (g i) (n i)) ∧ ∀ i : Int, 0 ≤ i → i + 1 < h y 4 → h (m + 8) (10 * l + i) = un i ∧ ∀ j : Int, 0 ≤ j → j < un i → h (m + 7) (9 * (10 * l + i) + j) = u i j
def reR (h : sH) (y m : Nat) (rg : Int → Int → Int) (rn : Int → Int) : Prop := h y 2 = h m 14 ∧ ∀ k : Int, 0 ≤ k → k < h y 2 → h (y + 3 + 6 * k.toNat) 1 = h (m + 9) k ∧ h (y + 3 + 6 * k.toNat) 3 = h (m + 11) k ∧ NmP (h (m + 10) k) (rg k) (rn k)
def reS (h : sH) (y m : Nat) (sg : Int → Int → Int) (sn : Int → Int) : Prop := h y 3 = h m 18 ∧ ∀ k : Int, 0 ≤ k → k < h y 3 → h (y + 6 + 6 * k.toNat) 1 = h (m + 12) k ∧ h (y + 6 + 6 * k.toNat) 2 = h (m + 14) k ∧ h (y + 6 + 6 * k.toNat) 3 = h (m + 15) k ∧ NmP (h (m + 13) k) (sg k) (sn k)
def reH (h : sH) (y m : Nat) : Prop := h y 3 = h m 23 ∧ ∀ k : Int, 0 ≤ k → k < h y 3 → h (y + 1) k = h (m + 16) k ∧ h (y + 2) k = h (m + 17) k ∧ h (y + 3) k = h (m + 18) k
/-- all of it -/
def relS (h : sH) (x m : Nat) (g : Int → Int → Int → Int) (n : Int → Int → Int) (u : Int → Int → Int → Int) (un : Int → Int → Int) (rg : Int → Int → Int) (rn : Int → Int) (sg : Int → Int → Int) (sn : Int → Int) : Prop :=
  clI h x (bA h m) (h m 2) g n u un rg rn sg sn ∧ h x 4 = h m 5 ∧ h x 5 = h m 12 ∧ h x 10 = h m 29 ∧ (∀ l : Int, 0 ≤ l → l < h x 4 → reL h (x + 7 + 44 * l.toNat) m l (g l) (n l) (u l) (un l)) ∧ reR h (x + 183) m rg rn ∧ reS h (x + 183) m sg sn ∧ (h (x + 183) 4 = h m 27 ∧ h (x + 183) 5 = h m 28) ∧ reH h (x + 258) m ∧ ∀ k : Int, 0 ≤ k → k < 26 → h (x + 263) k = h (m + 2) k
theorem rel_md {h : sH} {x m : Nat} {g : Int → Int → Int → Int} {n : Int → Int → Int} {u : Int → Int → Int → Int} {un : Int → Int → Int} {rg sg : Int → Int → Int} {rn sn : Int → Int} (hr : relS h x m g n u un rg rn sg sn) : mdI h m g n rg rn sg sn := by
  obtain ⟨⟨ht, ⟨c0, c4⟩, hl, hL, hH, hs, dd⟩, e5, -, e29, hre, hrr, hrs, ⟨e27, e28⟩, hrh, hso⟩ := hr
  obtain ⟨⟨R0, R12⟩, lr, ⟨S0, S12⟩, ls, ⟨L0, L50⟩, ⟨M0, M50⟩⟩ := hL
  refine ⟨ht.2.1, fun k k0 k1 => by rw [← hso k k0 k1]; exact hs k k0 k1, ⟨by rw [← e5]; exact c0, by rw [← e5]; exact c4, fun l l0 l1 => ?_⟩, fun l i l0 l1 i0 i1 => ?_, fun l i l0 l1 i0 i1 => ?_, ?_, ?_, by rw [← e29]; exact dd⟩
  · obtain ⟨q1, q2, q3, -⟩ := hre l l0 (by rw [e5]; exact l1)
    rw [← q1, ← q2]
    exact ⟨q3.1, q3.2.1⟩
  · obtain ⟨q1, q2, q3, q4, -⟩ := hre l l0 (by rw [e5]; exact l1)
    exact q4 i i0 (by rw [q2]; exact i1)
  · obtain ⟨q1, q2, q3, q4, q5⟩ := hre l l0 (by rw [e5]; exact l1)
    obtain ⟨p1, p2⟩ := q5 i i0 (by rw [q2]; exact i1)
    obtain ⟨⟨-, ⟨u0, u8⟩, ub⟩, u1⟩ := q3.2.2.2 i i0 (by rw [q2]; exact i1)
    refine ⟨by rw [p1]; exact u1, by rw [p1]; exact u8, fun j j0 j1 => ?_⟩
    rw [p1] at j1
    rw [p2 j j0 j1]
    exact (ub j j0 j1).2
  · obtain ⟨H0, H20, hh⟩ := hH
    obtain ⟨r1, r2⟩ := hrh
    refine ⟨by rw [← r1]; exact H0, by rw [← r1]; exact H20, fun k k0 k1 => ?_⟩
    rw [← r1] at k1
    obtain ⟨p1, p2, p3⟩ := r2 k k0 k1
    have q := hh k k0 k1
    rw [p1, p2, p3] at q
    exact q
  · obtain ⟨r1, r2⟩ := hrr
    obtain ⟨s1, s2⟩ := hrs
    refine ⟨by rw [← r1]; exact ⟨R0, R12⟩, fun k k0 k1 => ?_, by rw [← s1]; exact ⟨S0, S12⟩, fun k k0 k1 => ?_, by rw [← e27]; exact ⟨L0, L50⟩, by rw [← e28]; exact ⟨M0, M50⟩⟩
    · rw [← r1] at k1
      obtain ⟨p1, p2, p3⟩ := r2 k k0 k1
      have q := lr k k0 k1
      rw [p1, p2] at q
      exact ⟨q.1, p3, q.2.2⟩
    · rw [← s1] at k1
      obtain ⟨p1, p2, p3, p4⟩ := s2 k k0 k1
      have q := ls k k0 k1
      rw [p1, p2, p3] at q
      exact ⟨q.1, p4, q.2.2⟩
theorem NmP_eqN {v w : Int} {g f : Int → Int} {n k : Int} (h1 : NmP v g n) (h2 : NmP w f k) : v = w ↔ eqN g f n k := by
  constructor
  · intro e
    subst e
    exact h1.inj h2
  · rintro ⟨e1, e2⟩
    have h3 := h1.congr (f := f) e2
    subst e1
    rw [h3.2.2.2, h2.2.2.2]
/-- both sides' words of a list agree -/
theorem rel_ag {h : sH} {x m : Nat} {g : Int → Int → Int → Int} {n : Int → Int → Int} {u : Int → Int → Int → Int} {un : Int → Int → Int} {rg sg : Int → Int → Int} {rn sn : Int → Int} (hr : relS h x m g n u un rg rn sg sn) {l1 day : Int} (l0 : 0 ≤ l1) (l2 : l1 < h x 4) : h (x + 7 + 44 * l1.toNat) 4 = h (m + 5) l1 ∧ h (x + 7 + 44 * l1.toNat) 3 = h (m + 4) l1 ∧ agR (h (x + 7 + 44 * l1.toNat) 4) (rsX h x u un l1) (rvX h x u un l1) (rcX h x u un l1) (owX h x g n rg rn sg sn l1 day) (rsM h m l1) (rvM h m l1) (rcM h m l1) (owF h m g n rg rn l1 day) := by
  obtain ⟨⟨ht, ⟨c0, c4⟩, hl, hL, hH, hs, dd⟩, e5, -, e29, hre, hrr, hrs, ⟨e27, e28⟩, hrh, hso⟩ := hr
  obtain ⟨q1, q2, q3, q4, q5⟩ := hre l1 l0 l2
  obtain ⟨r1, r2⟩ := hrr
  obtain ⟨s1, s2⟩ := hrs
  obtain ⟨b1, b2⟩ := hrh
  obtain ⟨⟨R0, R12⟩, lr, ⟨S0, S12⟩, ls, -⟩ := hL
  have eH : (h (x + 258) 3).toNat = (h m 23).toNat := by rw [b1]
  have rl : ∀ i : Int, 0 ≤ i → i + 1 < h (x + 7 + 44 * l1.toNat) 4 → rlN (u l1 i) (un l1 i) (h (x + 260)) (h (x + 259)) (h (x + 258) 3).toNat = RLM h m (10 * l1 + i) (h m 23).toNat ∧ ∀ v, coN (u l1 i) (un l1 i) (h (x + 260)) (h (x + 259)) (h (x + 261)) v (h (x + 258) 3).toNat = COM h m (10 * l1 + i) v (h m 23).toNat := fun i i0 i1 => by
    obtain ⟨p1, p2⟩ := q5 i i0 i1
    have u0 := (q3.2.2.2 i i0 i1).1.2.1.1
    have ev : vS (u l1 i) (un l1 i).toNat = vS (fun j => h (m + 7) (9 * (10 * l1 + i) + j)) (h (m + 8) (10 * l1 + i)).toNat := by
      rw [p1]; exact vS_congr _ (fun j j0 j1 => (p2 j j0 (by omega)).symm)
    have ew : ∀ k : Int, 0 ≤ k → k < (h m 23).toNat → (wks (u l1 i) (un l1 i) (h (x + 260) k) (h (x + 259) k) ↔ wks (fun j => h (m + 7) (9 * (10 * l1 + i) + j)) (h (m + 8) (10 * l1 + i)) (h (m + 17) k) (h (m + 16) k)) := fun k k0 k1 => by
      obtain ⟨y1, y2, -⟩ := b2 k k0 (by rw [b1]; omega)
      rw [show h (x + 260) k = h (m + 17) k from y2, show h (x + 259) k = h (m + 16) k from y1, p1]
      exact wks_congr (fun j j0 j1 => (p2 j j0 j1).symm)
    constructor
    · unfold rlN RLM
      rw [eH, ev]
      exact rlS_congr _ (fun k k0 k1 => by
        obtain ⟨y1, y2, -⟩ := b2 k k0 (by rw [b1]; omega)
        exact ⟨y2, y1, ew k k0 k1⟩)
    · intro v
      unfold coN COM
      rw [eH, ev]
      exact CO_congr _ (fun k k0 k1 => by
        obtain ⟨y1, y2, y3⟩ := b2 k k0 (by rw [b1]; omega)
        exact ⟨y2, y1, y3, ew k k0 k1⟩)
  refine ⟨q2, q1, fun i i0 i1 => ?_, fun i p i0 i1 p0 p1 => ?_⟩
  · obtain ⟨a1, a2⟩ := rl i i0 i1
    have ers : rsX h x u un l1 i = rsM h m l1 i := by unfold rsX rsM; rw [a1]
    have erv : rvX h x u un l1 i = rvM h m l1 i := by unfold rvX rvM; rw [a1]
    exact ⟨ers, fun k k0 k1 => ⟨by rw [erv], by unfold rcX rcM; rw [a2, erv]⟩⟩
  · have nmi := q4 i i0 i1
    have hnc := (q3.2.2.1 i i0 i1).1
    unfold owX owC owF owM
    rw [e27, e28, r1, s1]
    rw [owR_congr (ra2 := h (m + 9)) (rd2 := h (m + 11)) (ds2 := fun k => dst (h (m + 2)) (rg k) (rn k) (g l1 i) (n l1 i)) (h m 14).toNat (fun j j0 j1 => by
      obtain ⟨y1, y2, y3⟩ := r2 j j0 (by rw [r1]; omega)
      refine ⟨y1, y2, ?_⟩
      rw [dst_sym]
      exact dst_congr hso (fun i i0 i1 => ⟨rfl, y3.2.2.1 i i0 i1⟩) (fun i i0 i1 => ⟨rfl, nmi.2.2.1 i i0 i1⟩))]
    exact owS_congr _ (fun j j0 j1 => by
      obtain ⟨y1, y2, y3, y4⟩ := s2 j j0 (by rw [s1]; omega)
      exact ⟨y1, y2, y3, (NmP_eqN y4 nmi).symm⟩)
