/-! ===== the least cost from a station at a place on ===== -/
def mnR (U : Int) (rv rc nx : Int → Int) (p : Int) : Nat → Int
  | 0 => 1000000
  | k + 1 => if p + U * rv k < 601 then min (mnR U rv rc nx p k) (rc k + nx (p + U * rv k)) else mnR U rv rc nx p k
def capA (x o : Int) : Int := if 1000000 ≤ x then 1000000 else x + o
/-- q stations behind it -/
def RSt (N U : Int) (rs : Int → Nat) (rv rc ow : Int → Int → Int) : Nat → Int → Int
  | 0 => fun p => ow (N - 1) p
  | q + 1 => fun p => capA (mnR U (rv (N - 2 - q)) (rc (N - 2 - q)) (RSt N U rs rv rc ow q) p (rs (N - 2 - q))) (ow (N - 2 - q) p)
def mnP (f : Int → Int) : Nat → Int
  | 0 => 1000000
  | k + 1 => min (mnP f k) (f k)
theorem mnR_in {U : Int} {rv rc nx : Int → Int} {p B : Int} (p0 : 0 ≤ p) (U0 : 0 ≤ U) : ∀ k : Nat, (∀ j : Int, 0 ≤ j → j < k → 0 ≤ rc j ∧ 0 ≤ rv j) → (∀ x : Int, 0 ≤ x → x < 601 → 0 ≤ nx x) → 0 ≤ mnR U rv rc nx p k ∧ mnR U rv rc nx p k ≤ 1000000
  | 0, _, _ => by simp only [mnR]; omega
  | k + 1, h1, h2 => by
    have a := mnR_in (U := U) (rv := rv) (rc := rc) (nx := nx) (p := p) (B := B) p0 U0 k (fun j j0 j1 => h1 j j0 (by omega)) h2
    have b := h1 k (by omega) (by omega)
    simp only [mnR]
    split
    · rename_i q
      have : 0 ≤ U * rv k := Int.mul_nonneg U0 b.2
      have := h2 (p + U * rv k) (by omega) q
      omega
    · omega
theorem RSt_in {N U : Int} {rs : Int → Nat} {rv rc ow : Int → Int → Int} (U0 : 0 ≤ U) (hr : ∀ i : Int, 0 ≤ i → i + 1 < N → ∀ k : Int, 0 ≤ k → k < rs i → 0 ≤ rc i k ∧ 0 ≤ rv i k) (ho : ∀ i p : Int, 0 ≤ i → i < N → 0 ≤ p → p < 601 → 0 ≤ ow i p ∧ ow i p ≤ 1000) : ∀ q : Nat, (q : Int) < N → ∀ p : Int, 0 ≤ p → p < 601 → 0 ≤ RSt N U rs rv rc ow q p ∧ RSt N U rs rv rc ow q p ≤ 1001000
  | 0, hq, p, p0, p1 => by
    have := ho (N - 1) p (by omega) (by omega) p0 p1
    simp only [RSt]; omega
  | q + 1, hq, p, p0, p1 => by
    have a := RSt_in U0 hr ho q (by omega)
    have b := ho (N - 2 - q) p (by omega) (by omega) p0 p1
    have d := mnR_in (U := U) (rv := rv (N - 2 - q)) (rc := rc (N - 2 - q)) (nx := RSt N U rs rv rc ow q) (p := p) (B := 0) p0 U0 (rs (N - 2 - q)) (fun j j0 j1 => hr (N - 2 - q) (by omega) (by omega) j j0 j1) (fun x x0 x1 => (a x x0 x1).1)
    simp only [RSt, capA]
    split <;> omega
theorem mnP_in {f : Int → Int} : ∀ k : Nat, (∀ p : Int, 0 ≤ p → p < k → 0 ≤ f p) → 0 ≤ mnP f k ∧ mnP f k ≤ 1000000
  | 0, _ => by simp only [mnP]; omega
  | k + 1, h => by
    have a := mnP_in (f := f) k (fun p p0 p1 => h p p0 (by omega))
    have b := h k (by omega) (by omega)
    simp only [mnP]; omega
noncomputable def rsM (h : sH) (m : Nat) (l1 i : Int) : Nat := (RLM h m (10 * l1 + i) (h m 23).toNat).1
noncomputable def rvM (h : sH) (m : Nat) (l1 i : Int) : Int → Int := (RLM h m (10 * l1 + i) (h m 23).toNat).2
noncomputable def rcM (h : sH) (m : Nat) (l1 i k : Int) : Int := COM h m (10 * l1 + i) (rvM h m l1 i k) (h m 23).toNat
noncomputable def owF (h : sH) (m : Nat) (g : Int → Int → Int → Int) (n : Int → Int → Int) (rg : Int → Int → Int) (rn : Int → Int) (l1 day i p : Int) : Int := owM h m rg rn (g l1 i) (n l1 i) (h (m + 6) (10 * l1 + i)) day p
noncomputable def RM (h : sH) (m : Nat) (g : Int → Int → Int → Int) (n : Int → Int → Int) (rg : Int → Int → Int) (rn : Int → Int) (l1 day : Int) : Nat → Int → Int := RSt (h (m + 5) l1) (h (m + 4) l1) (rsM h m l1) (rvM h m l1) (rcM h m l1) (owF h m g n rg rn l1 day)
/-- what the model holds, all of it -/
def mdI (h : sH) (m : Nat) (g : Int → Int → Int → Int) (n : Int → Int → Int) (rg : Int → Int → Int) (rn : Int → Int) (sg : Int → Int → Int) (sn : Int → Int) : Prop :=
  (0 ≤ h m 2 ∧ h m 2 ≤ 200) ∧ soR (h (m + 2)) ∧ lsR h m ∧ nmR h m g n ∧ (∀ l i : Int, 0 ≤ l → l < h m 5 → 0 ≤ i → i + 1 < h (m + 5) l → nuR h m (10 * l + i)) ∧ hbR h m ∧ rsR h m rg rn sg sn ∧ (0 ≤ h m 29 ∧ h m 29 ≤ 100000)
/-- what laying a list leaves: the readings' rows, own, rest -/
def laidM (h h1 : sH) (m : Nat) (g : Int → Int → Int → Int) (n : Int → Int → Int) (rg : Int → Int → Int) (rn : Int → Int) (l1 day : Int) : Prop :=
  (∀ a : Nat, a ≠ m + 3 → a ≠ m + 19 → a ≠ m + 20 → a ≠ m + 21 → a ≠ m + 22 → a ≠ m + 23 → h1 a = h a) ∧ (∀ i : Int, 0 ≤ i → i + 1 < h (m + 5) l1 → rdM h h1 m l1 i) ∧
  (∀ i p : Int, 0 ≤ i → i < h (m + 5) l1 → 0 ≤ p → p < 601 → h1 (m + 22) (601 * i + p) = owF h m g n rg rn l1 day i p ∧ h1 (m + 23) (601 * i + p) = RM h m g n rg rn l1 day (h (m + 5) l1 - 1 - i).toNat p)
theorem owF_in {h : sH} {m : Nat} {g : Int → Int → Int → Int} {n : Int → Int → Int} {rg : Int → Int → Int} {rn : Int → Int} {sg : Int → Int → Int} {sn : Int → Int} (hI : mdI h m g n rg rn sg sn) {l1 day i p : Int} (l0 : 0 ≤ l1) (l2 : l1 < h m 5) (i0 : 0 ≤ i) (i1 : i < h (m + 5) l1) : 0 ≤ owF h m g n rg rn l1 day i p ∧ owF h m g n rg rn l1 day i p ≤ 650 := by
  obtain ⟨-, -, -, hN, -, -, ⟨⟨R0, R12⟩, hr, ⟨S0, S12⟩, -, ⟨L0, L50⟩, ⟨M0, M50⟩⟩, -⟩ := hI
  have nn := hN l1 i l0 l2 i0 i1
  have a := owR_in (ra := h (m + 9)) (rd := h (m + 11)) (ds := fun k => dst (h (m + 2)) (rg k) (rn k) (g l1 i) (n l1 i)) (day := day) (p := p) L0 L50 (h m 14).toNat (fun j j0 j1 => by
    have := (hr j j0 (by omega)).2.1
    exact dst_in (by have := this.1; omega) this.2.1 (by have := nn.1; omega) nn.2.1)
  have b := owS_in (sa := h (m + 12)) (sf := h (m + 14)) (sd := h (m + 15)) (sm := fun k => h (m + 13) k = h (m + 6) (10 * l1 + i)) (day := day) (p := p) a.1 a.2 M0 M50 (h m 18).toNat
  unfold owF owM
  omega
theorem rsM_in {h : sH} {m : Nat} {g : Int → Int → Int → Int} {n : Int → Int → Int} {rg : Int → Int → Int} {rn : Int → Int} {sg : Int → Int → Int} {sn : Int → Int} (hI : mdI h m g n rg rn sg sn) {l1 i : Int} (l0 : 0 ≤ l1) (l2 : l1 < h m 5) (i0 : 0 ≤ i) (i1 : i + 1 < h (m + 5) l1) : 1 ≤ rsM h m l1 i ∧ rsM h m l1 i ≤ 21 ∧ ∀ k : Int, 0 ≤ k → k < rsM h m l1 i → (1 ≤ rvM h m l1 i k ∧ rvM h m l1 i k ≤ 450) ∧ 0 ≤ rcM h m l1 i k ∧ rcM h m l1 i k ≤ 1000000 := by
  obtain ⟨-, -, -, -, hU, ⟨H0, H20, hh⟩, -, -⟩ := hI
  obtain ⟨u1, u8, us⟩ := hU l1 i l0 l2 i0 i1
  have sz := rlS_sz (vS (fun j => h (m + 7) (9 * (10 * l1 + i) + j)) (h (m + 8) (10 * l1 + i)).toNat) (h (m + 17)) (h (m + 16)) (fun b => wks (fun j => h (m + 7) (9 * (10 * l1 + i) + j)) (h (m + 8) (10 * l1 + i)) (h (m + 17) b) (h (m + 16) b)) (h m 23).toNat
  refine ⟨sz.1, by have := sz.2; unfold rsM RLM; omega, fun k k0 k1 => ⟨?_, ?_⟩⟩
  · have vb := vS_in (fun x => h (m + 7) (9 * (10 * l1 + i) + x)) (h (m + 8) (10 * l1 + i)).toNat
    have vg := vS_ge (g := fun x => h (m + 7) (9 * (10 * l1 + i) + x)) (n := (h (m + 8) (10 * l1 + i)).toNat) (j := 0) (fun i i0 i1 => us i i0 (by omega)) (by omega) (by omega)
    have v0 := us 0 (by omega) (by omega)
    have v1 := svI_pos v0.1 v0.2
    refine rlS_all (P := fun v => 1 ≤ v ∧ v ≤ 450) (by omega) (h m 23).toNat (fun b b0 b1 wb => ?_) k k0 k1
    have hb := hh b b0 (by omega)
    have w1 := wks_pos (by omega) (fun i i0 i1 => us i i0 i1) hb.1.1 hb.1.2 wb
    have s1 := svI_in (h (m + 17) b)
    have s2 := svI_in (h (m + 16) b)
    omega
  · exact CO_in (fun k k0 k1 => (hh k k0 (by omega)).2.2.1)
theorem RM_in {h : sH} {m : Nat} {g : Int → Int → Int → Int} {n : Int → Int → Int} {rg : Int → Int → Int} {rn : Int → Int} {sg : Int → Int → Int} {sn : Int → Int} (hI : mdI h m g n rg rn sg sn) {l1 day : Int} (l0 : 0 ≤ l1) (l2 : l1 < h m 5) : ∀ q : Nat, (q : Int) < h (m + 5) l1 → ∀ p : Int, 0 ≤ p → p < 601 → 0 ≤ RM h m g n rg rn l1 day q p ∧ RM h m g n rg rn l1 day q p ≤ 1001000 := by
  have hL := hI.2.2.1.2.2 l1 l0 l2
  exact RSt_in (by omega) (fun i i0 i1 k k0 k1 => by have := (rsM_in hI l0 l2 i0 i1).2.2 k k0 k1; omega) (fun i p i0 i1 p0 p1 => by have := owF_in hI (day := day) (p := p) l0 l2 i0 i1; omega)
