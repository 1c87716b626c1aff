/-! ===== the least cost of all ahead of a station at a place ===== -/
def isMn (E : Int → Prop) (x : Int) : Prop := (x = 1000000 ∧ ∀ c, ¬ E c) ∨ (x < 1000000 ∧ E x ∧ ∀ c, E c → x ≤ c)
theorem isMn_u {E : Int → Prop} {x y : Int} (h1 : isMn E x) (h2 : isMn E y) : x = y := by
  rcases h1 with ⟨a1, a2⟩ | ⟨a1, a2, a3⟩ <;> rcases h2 with ⟨b1, b2⟩ | ⟨b1, b2, b3⟩
  · omega
  · exact absurd b2 (a2 y)
  · exact absurd a2 (b2 x)
  · have := a3 y b2; have := b3 x a2; omega
theorem isMn_congr {E F : Int → Prop} {x : Int} (h1 : isMn E x) (e : ∀ c, E c ↔ F c) : isMn F x := by
  rcases h1 with ⟨a1, a2⟩ | ⟨a1, a2, a3⟩
  · exact Or.inl ⟨a1, fun c z => a2 c ((e c).mpr z)⟩
  · exact Or.inr ⟨a1, (e x).mp a2, fun c z => a3 c ((e c).mpr z)⟩
theorem isMn_add {E F : Int → Prop} {x v : Int} (h1 : isMn E x) (e : ∀ c, F c ↔ E c ∨ c = v) (hv : v < 1000000) : isMn F (min x v) := by
  refine Or.inr ?_
  rcases h1 with ⟨a1, a2⟩ | ⟨a1, a2, a3⟩
  · have m1 : min x v = v := by omega
    rw [m1]
    refine ⟨hv, (e v).mpr (Or.inr rfl), fun c z => ?_⟩
    rcases (e c).mp z with y | y
    · exact absurd y (a2 c)
    · omega
  · refine ⟨by omega, ?_, fun c z => ?_⟩
    · by_cases q : x ≤ v
      · rw [show min x v = x by omega]; exact (e x).mpr (Or.inl a2)
      · rw [show min x v = v by omega]; exact (e v).mpr (Or.inr rfl)
    · rcases (e c).mp z with y | y
      · have := a3 c y; omega
      · omega
def cdG (U : Int) (rsn : Nat) (rv : Int → Int) (fin : Int → Prop) (val : Int → Int → Int → Int) (pr : Int → Int → Prop) (q c : Int) : Prop := ∃ p k : Int, pr p k ∧ (0 ≤ p ∧ p < 601) ∧ (0 ≤ k ∧ k < rsn) ∧ fin p ∧ q = p + U * rv k ∧ c = val p k q
theorem isMn_stp {U : Int} {rsn : Nat} {rv : Int → Int} {fin : Int → Prop} {val : Int → Int → Int → Int} {pr pr2 : Int → Int → Prop} {q x p k : Int} (h1 : isMn (cdG U rsn rv fin val pr q) x) (e : ∀ a b : Int, pr2 a b ↔ pr a b ∨ (a = p ∧ b = k)) (p0 : 0 ≤ p) (p1 : p < 601) (k0 : 0 ≤ k) (k1 : k < rsn) (hf : fin p) (hq : q = p + U * rv k) (hv : val p k q < 1000000) : isMn (cdG U rsn rv fin val pr2 q) (min x (val p k q)) := by
  refine isMn_add h1 (fun c => ⟨?_, ?_⟩) hv
  · rintro ⟨a, b, z, r1, r2, r3, r4, r5⟩
    rcases (e a b).mp z with y | ⟨y1, y2⟩
    · exact Or.inl ⟨a, b, y, r1, r2, r3, r4, r5⟩
    · subst y1; subst y2; exact Or.inr r5
  · rintro (⟨a, b, z, r1⟩ | z)
    · exact ⟨a, b, (e a b).mpr (Or.inl z), r1⟩
    · exact ⟨p, k, (e p k).mpr (Or.inr ⟨rfl, rfl⟩), ⟨p0, p1⟩, ⟨k0, k1⟩, hf, hq, z⟩
theorem isMn_skp {U : Int} {rsn : Nat} {rv : Int → Int} {fin : Int → Prop} {val : Int → Int → Int → Int} {pr pr2 : Int → Int → Prop} {q x : Int} (h1 : isMn (cdG U rsn rv fin val pr q) x) (e : ∀ a b : Int, (0 ≤ a ∧ a < 601) → (0 ≤ b ∧ b < rsn) → fin a → q = a + U * rv b → (pr a b ↔ pr2 a b)) : isMn (cdG U rsn rv fin val pr2 q) x := by
  refine isMn_congr h1 (fun c => ⟨?_, ?_⟩)
  · rintro ⟨a, b, z, r1, r2, r3, r4, r5⟩
    exact ⟨a, b, (e a b r1 r2 r3 r4).mp z, r1, r2, r3, r4, r5⟩
  · rintro ⟨a, b, z, r1, r2, r3, r4, r5⟩
    exact ⟨a, b, (e a b r1 r2 r3 r4).mpr z, r1, r2, r3, r4, r5⟩
/-- what a list that can be laid is -/
def rdy (N U : Int) (rs : Int → Nat) (rv rc ow : Int → Int → Int) : Prop := (U = 2 ∨ U = 3) ∧ (2 ≤ N ∧ N ≤ 10) ∧ (∀ i : Int, 0 ≤ i → i + 1 < N → 1 ≤ rs i ∧ rs i ≤ 21 ∧ ∀ k : Int, 0 ≤ k → k < rs i → 1 ≤ rv i k ∧ rv i k ≤ 450 ∧ 0 ≤ rc i k ∧ rc i k ≤ 20) ∧ (∀ i p : Int, 0 ≤ i → i < N → 0 ≤ p → p < 601 → 0 ≤ ow i p ∧ ow i p ≤ 650)
theorem CO_mono {V : Int} {W T C : Int → Int} {wk : Int → Prop} {v : Int} {n : Nat} : CO V W T C wk v (n + 1) ≤ CO V W T C wk v n := by
  simp only [CO]
  by_cases e : V - svI (W n) + svI (T n) = v ∧ C n < CO V W T C wk v n ∧ wk n
  · rw [cif_t e]; omega
  · rw [cif_f e]; omega
theorem CO_20 {V : Int} {W T C : Int → Int} {wk : Int → Prop} {v k : Int} (k0 : 0 ≤ k) (hc : C k ≤ 20) (hw : wk k) (hv : V - svI (W k) + svI (T k) = v) : ∀ n : Nat, k < n → CO V W T C wk v n ≤ 20
  | 0, h => by omega
  | n + 1, h => by
    by_cases q : k = n
    · subst q
      simp only [CO]
      by_cases e : V - svI (W n) + svI (T n) = v ∧ C n < CO V W T C wk v n ∧ wk n
      · rw [cif_t e]; exact hc
      · rw [cif_f e]
        by_cases f : C n < CO V W T C wk v n
        · exact absurd ⟨hv, f, hw⟩ e
        · omega
    · have a := CO_20 (V := V) (W := W) (T := T) (C := C) (wk := wk) k0 hc hw hv n (by omega)
      have b := CO_mono (V := V) (W := W) (T := T) (C := C) (wk := wk) (v := v) (n := n)
      omega
theorem mdI_rdy {h : sH} {m : Nat} {g : Int → Int → Int → Int} {n : Int → Int → Int} {rg : Int → Int → Int} {rn : Int → Int} {sg : Int → Int → Int} {sn : Int → Int} (hI : mdI h m g n rg rn sg sn) {l1 day : Int} (l0 : 0 ≤ l1) (l2 : l1 < h m 5) : rdy (h (m + 5) l1) (h (m + 4) l1) (rsM h m l1) (rvM h m l1) (rcM h m l1) (owF h m g n rg rn l1 day) := by
  have hL := hI.2.2.1.2.2 l1 l0 l2
  refine ⟨hL.1, hL.2, fun i i0 i1 => ?_, fun i p i0 i1 _ _ => owF_in hI l0 l2 i0 i1⟩
  obtain ⟨a1, a2, a3⟩ := rsM_in hI l0 l2 i0 i1
  refine ⟨a1, a2, fun k k0 k1 => ?_⟩
  obtain ⟨b1, b2, b3⟩ := a3 k k0 k1
  refine ⟨b1.1, b1.2, b2, ?_⟩
  have hH := hI.2.2.2.2.2.1
  obtain ⟨H0, H20, hh⟩ := hH
  have := rlS_all (V := vS (fun j => h (m + 7) (9 * (10 * l1 + i) + j)) (h (m + 8) (10 * l1 + i)).toNat) (W := h (m + 17)) (T := h (m + 16)) (wk := fun b => wks (fun j => h (m + 7) (9 * (10 * l1 + i) + j)) (h (m + 8) (10 * l1 + i)) (h (m + 17) b) (h (m + 16) b)) (P := fun v => COM h m (10 * l1 + i) v (h m 23).toNat ≤ 20) (by
    unfold COM
    rw [CO_own (fun k k0 k1 => (hh k k0 (by omega)).2.2.1.1)]; omega) (h m 23).toNat (fun b b0 b1 wb => CO_20 b0 (hh b b0 (by omega)).2.2.1.2 wb rfl _ b1) k k0 k1
  exact this
/-- the rows of ahead, own cost included -/
def bfA (N U : Int) (rs : Int → Nat) (rv rc ow : Int → Int → Int) (A : Int → Int → Int) : Prop := (∀ p : Int, 0 ≤ p → p < 601 → A 0 p = ow 0 p) ∧ ∀ s : Int, 0 ≤ s → s + 1 < N → ∀ q : Int, 0 ≤ q → q < 601 → isMn (cdG U (rs s) (rv s) (fun p => A s p < 1000000) (fun p k q => A s p + rc s k + ow (s + 1) q) (fun _ _ => True) q) (A (s + 1) q)
/-- the rows of before, own cost not included -/
def bfR (N U : Int) (rs : Int → Nat) (rv rc ow : Int → Int → Int) (W : Int → Int → Int) : Prop := (∀ p : Int, 0 ≤ p → p < 601 → W 0 p = 0) ∧ ∀ s : Int, 0 ≤ s → s + 1 < N → ∀ q : Int, 0 ≤ q → q < 601 → isMn (cdG U (rs s) (rv s) (fun p => W s p < 1000000) (fun p k _ => W s p + ow s p + rc s k) (fun _ _ => True) q) (W (s + 1) q)
theorem bfR_u {N U : Int} {rs : Int → Nat} {rv rc ow W V : Int → Int → Int} (hw : bfR N U rs rv rc ow W) (hv : bfR N U rs rv rc ow V) : ∀ s : Nat, (s : Int) < N → ∀ p : Int, 0 ≤ p → p < 601 → W s p = V s p
  | 0, _, p, p0, p1 => by
    have a := hw.1 p p0 p1
    have b := hv.1 p p0 p1
    show W 0 p = V 0 p
    rw [a, b]
  | s + 1, hs, p, p0, p1 => by
    have ih := bfR_u hw hv s (by omega)
    have a := hw.2 s (by omega) (by omega) p p0 p1
    have b := hv.2 s (by omega) (by omega) p p0 p1
    rw [show ((s + 1 : Nat) : Int) = (s : Int) + 1 by omega]
    refine isMn_u a (isMn_congr b (fun c => ⟨?_, ?_⟩))
    · rintro ⟨x, y, r0, r1, r2, r3, r4, r5⟩
      have e := ih x r1.1 r1.2
      exact ⟨x, y, r0, r1, r2, by show W s x < 1000000; rw [e]; exact r3, r4, by show c = W s x + ow s x + rc s y; rw [e]; exact r5⟩
    · rintro ⟨x, y, r0, r1, r2, r3, r4, r5⟩
      have e := ih x r1.1 r1.2
      exact ⟨x, y, r0, r1, r2, by show V s x < 1000000; rw [← e]; exact r3, r4, by show c = V s x + ow s x + rc s y; rw [← e]; exact r5⟩
/-- the bounds of the rows of ahead -/
def bdA (s a : Int) : Prop := 0 ≤ a ∧ a ≤ 1000000 ∧ (a < 1000000 → a ≤ 670 * s + 650)
theorem bfA_bd {N U : Int} {rs : Int → Nat} {rv rc ow A : Int → Int → Int} (hd : rdy N U rs rv rc ow) (hA : bfA N U rs rv rc ow A) : ∀ s : Nat, (s : Int) < N → ∀ p : Int, 0 ≤ p → p < 601 → bdA s (A s p) ∧ (A s p < 1000000 → ow s p ≤ A s p)
  | 0, _, p, p0, p1 => by
    have a := hA.1 p p0 p1
    have b := hd.2.2.2 0 p (by omega) (by have := hd.2.1; omega) p0 p1
    show bdA 0 (A 0 p) ∧ (A 0 p < 1000000 → ow 0 p ≤ A 0 p)
    rw [a]
    unfold bdA
    omega
  | s + 1, hs, p, p0, p1 => by
    have ih := bfA_bd hd hA s (by omega)
    have a := hA.2 s (by omega) (by omega) p p0 p1
    have b := hd.2.2.2 (s + 1) p (by omega) (by omega) p0 p1
    rw [show ((s + 1 : Nat) : Int) = (s : Int) + 1 by omega]
    unfold bdA
    rcases a with ⟨a1, -⟩ | ⟨a1, ⟨x, y, r0, r1, r2, r3, r4, r5⟩, -⟩
    · omega
    · have c := (ih x r1.1 r1.2).1
      have d := (hd.2.2.1 s (by omega) (by omega)).2.2 y r2.1 r2.2
      unfold bdA at c
      have c3 := c.2.2 r3
      have r5' : A (s + 1) p = A s x + rc s y + ow (s + 1) p := r5
      omega
theorem bfA_R {N U : Int} {rs : Int → Nat} {rv rc ow A : Int → Int → Int} (hd : rdy N U rs rv rc ow) (hA : bfA N U rs rv rc ow A) : bfR N U rs rv rc ow (fun s p => if A s p < 1000000 then A s p - ow s p else 1000000) := by
  have bd := bfA_bd hd hA
  have bd' : ∀ s p : Int, 0 ≤ s → s < N → 0 ≤ p → p < 601 → bdA s (A s p) ∧ (A s p < 1000000 → ow s p ≤ A s p) := fun s p s0 s1 p0 p1 => by
    have := bd s.toNat (by omega) p p0 p1
    rw [show ((s.toNat : Nat) : Int) = s by omega] at this
    exact this
  refine ⟨fun p p0 p1 => ?_, fun s s0 s1 q q0 q1 => ?_⟩
  · have a := hA.1 p p0 p1
    have b := hd.2.2.2 0 p (by omega) (by have := hd.2.1; omega) p0 p1
    show (if A 0 p < 1000000 then A 0 p - ow 0 p else 1000000) = 0
    rw [a, if_pos (by omega)]; omega
  · have a := hA.2 s s0 s1 q q0 q1
    have ob := hd.2.2.2
    have b := bd' (s + 1) q (by omega) s1 q0 q1
    show isMn _ (if A (s + 1) q < 1000000 then A (s + 1) q - ow (s + 1) q else 1000000)
    rcases a with ⟨a1, a2⟩ | ⟨a1, a2, a3⟩
    · rw [if_neg (by omega)]
      refine Or.inl ⟨rfl, ?_⟩
      rintro c ⟨x, y, r0, r1, r2, r3, r4, r5⟩
      refine a2 (A s x + rc s y + ow (s + 1) q) ⟨x, y, r0, r1, r2, ?_, r4, rfl⟩
      have o1 := ob s x s0 (by omega) r1.1 r1.2
      have bx := (bd' s x s0 (by omega) r1.1 r1.2).1.2.1
      by_cases z : A s x < 1000000
      · exact z
      · simp only [if_neg z] at r3; omega
    · rw [if_pos a1]
      have oq := ob (s + 1) q (by omega) s1 q0 q1
      refine Or.inr ⟨by omega, ?_, ?_⟩
      · obtain ⟨x, y, r0, r1, r2, r3, r4, r5⟩ := a2
        have o1 := (bd' s x s0 (by omega) r1.1 r1.2)
        have o2 := o1.2 r3
        have o3 := ob s x s0 (by omega) r1.1 r1.2
        have o4 := o1.1.2.2 r3
        refine ⟨x, y, r0, r1, r2, ?_, r4, ?_⟩
        · show (if A s x < 1000000 then A s x - ow s x else 1000000) < 1000000
          rw [if_pos r3]; omega
        · show A (s + 1) q - ow (s + 1) q = (if A s x < 1000000 then A s x - ow s x else 1000000) + ow s x + rc s y
          have r5' : A (s + 1) q = A s x + rc s y + ow (s + 1) q := r5
          rw [if_pos r3]; omega
      · rintro c ⟨x, y, r0, r1, r2, r3, r4, r5⟩
        have z : A s x < 1000000 := by
          by_cases z : A s x < 1000000
          · exact z
          · simp only [if_neg z] at r3; omega
        have k := a3 (A s x + rc s y + ow (s + 1) q) ⟨x, y, r0, r1, r2, z, r4, rfl⟩
        simp only [if_pos z] at r5
        omega
def prA (p k a b : Int) : Prop := a < p ∨ (a = p ∧ b < k)
/-- while the rows are filled: rows up to s stand, row s + 1 has taken what lies before p, k -/
def ahI (N U : Int) (rs : Int → Nat) (rv rc ow : Int → Int → Int) (A : Int → Int → Int) (s p k : Int) : Prop :=
  (∀ x : Int, 0 ≤ x → x < 601 → A 0 x = ow 0 x) ∧
  (∀ t : Int, 0 ≤ t → t < s → ∀ x : Int, 0 ≤ x → x < 601 → isMn (cdG U (rs t) (rv t) (fun p => A t p < 1000000) (fun p k q => A t p + rc t k + ow (t + 1) q) (fun _ _ => True) x) (A (t + 1) x)) ∧
  (∀ t : Int, s + 1 < t → t < N → ∀ x : Int, 0 ≤ x → x < 601 → A t x = 1000000) ∧
  (s + 1 < N → ∀ x : Int, 0 ≤ x → x < 601 → isMn (cdG U (rs s) (rv s) (fun p => A s p < 1000000) (fun p k q => A s p + rc s k + ow (s + 1) q) (prA p k) x) (A (s + 1) x)) ∧
  (∀ t : Int, 0 ≤ t → t < N → ∀ x : Int, 0 ≤ x → x < 601 → bdA t (A t x))
theorem ahI_skp {N U : Int} {rs : Int → Nat} {rv rc ow A : Int → Int → Int} {s p k p2 k2 : Int} (h1 : ahI N U rs rv rc ow A s p k) (e : ∀ a b : Int, (0 ≤ a ∧ a < 601) → (0 ≤ b ∧ b < rs s) → A s a < 1000000 → a + U * rv s b < 601 → (prA p k a b ↔ prA p2 k2 a b)) : ahI N U rs rv rc ow A s p2 k2 := by
  refine ⟨h1.1, h1.2.1, h1.2.2.1, fun a x x0 x1 => isMn_skp (h1.2.2.2.1 a x x0 x1) (fun c d y1 y2 y3 y4 => e c d y1 y2 y3 (by omega)), h1.2.2.2.2⟩
theorem ahI_nxt {N U : Int} {rs : Int → Nat} {rv rc ow A : Int → Int → Int} {s : Int} (s0 : 0 ≤ s) (s1 : s + 1 < N) (h1 : ahI N U rs rv rc ow A s 601 0) : ahI N U rs rv rc ow A (s + 1) 0 0 := by
  refine ⟨h1.1, fun t t0 t1 x x0 x1 => ?_, fun t t0 t1 => h1.2.2.1 t (by omega) t1, fun q x x0 x1 => ?_, h1.2.2.2.2⟩
  · by_cases e : t = s
    · subst e
      exact isMn_skp (h1.2.2.2.1 s1 x x0 x1) (fun c d y1 y2 y3 y4 => ⟨fun _ => trivial, fun _ => Or.inl y1.2⟩)
    · exact h1.2.1 t t0 (by omega) x x0 x1
  · refine Or.inl ⟨h1.2.2.1 (s + 1 + 1) (by omega) q x x0 x1, ?_⟩
    rintro c ⟨a, b, r0, r1, r2, -⟩
    rcases r0 with r0 | r0 <;> omega
theorem ahI_put {N U : Int} {rs : Int → Nat} {rv rc ow A A2 : Int → Int → Int} {s p k q : Int} (s0 : 0 ≤ s) (s1 : s + 1 < N) (h1 : ahI N U rs rv rc ow A s p k) (p0 : 0 ≤ p) (p1 : p < 601) (k0 : 0 ≤ k) (k1 : k < rs s) (hf : A s p < 1000000) (hq : q = p + U * rv s k) (q0 : 0 ≤ q) (q1 : q < 601) (hv : A s p + rc s k + ow (s + 1) q ≤ 670 * (s + 1) + 650) (hv0 : 0 ≤ A s p + rc s k + ow (s + 1) q) (s9 : s ≤ 9) (e1 : ∀ t x : Int, 0 ≤ t → t < N → 0 ≤ x → x < 601 → ¬ (t = s + 1 ∧ x = q) → A2 t x = A t x) (e2 : A2 (s + 1) q = min (A (s + 1) q) (A s p + rc s k + ow (s + 1) q)) : ahI N U rs rv rc ow A2 s p (k + 1) := by
  obtain ⟨b1, b2, b3, b4, b5⟩ := h1
  refine ⟨fun x x0 x1 => by rw [e1 0 x (by omega) (by omega) x0 x1 (by omega)]; exact b1 x x0 x1, fun t t0 t1 x x0 x1 => ?_, fun t t0 t1 x x0 x1 => by rw [e1 t x (by omega) t1 x0 x1 (by omega)]; exact b3 t t0 t1 x x0 x1, fun _ x x0 x1 => ?_, fun t t0 t1 x x0 x1 => ?_⟩
  · rw [e1 (t + 1) x (by omega) (by omega) x0 x1 (by omega)]
    refine isMn_congr (b2 t t0 t1 x x0 x1) (fun c => ⟨?_, ?_⟩)
    · rintro ⟨a, b, r0, r1, r2, r3, r4, r5⟩
      have e := e1 t a t0 (by omega) r1.1 r1.2 (by omega)
      exact ⟨a, b, r0, r1, r2, by show A2 t a < 1000000; rw [e]; exact r3, r4, by show c = A2 t a + rc t b + ow (t + 1) x; rw [e]; exact r5⟩
    · rintro ⟨a, b, r0, r1, r2, r3, r4, r5⟩
      have e := e1 t a t0 (by omega) r1.1 r1.2 (by omega)
      exact ⟨a, b, r0, r1, r2, by show A t a < 1000000; rw [← e]; exact r3, r4, by show c = A t a + rc t b + ow (t + 1) x; rw [← e]; exact r5⟩
  · have cg : ∀ pr : Int → Int → Prop, ∀ c, cdG U (rs s) (rv s) (fun p => A s p < 1000000) (fun p k q => A s p + rc s k + ow (s + 1) q) pr x c ↔ cdG U (rs s) (rv s) (fun p => A2 s p < 1000000) (fun p k q => A2 s p + rc s k + ow (s + 1) q) pr x c := by
      intro pr c
      constructor
      · rintro ⟨a, b, r0, r1, r2, r3, r4, r5⟩
        have e := e1 s a s0 (by omega) r1.1 r1.2 (by omega)
        exact ⟨a, b, r0, r1, r2, by show A2 s a < 1000000; rw [e]; exact r3, r4, by show c = A2 s a + rc s b + ow (s + 1) x; rw [e]; exact r5⟩
      · rintro ⟨a, b, r0, r1, r2, r3, r4, r5⟩
        have e := e1 s a s0 (by omega) r1.1 r1.2 (by omega)
        exact ⟨a, b, r0, r1, r2, by show A s a < 1000000; rw [← e]; exact r3, r4, by show c = A s a + rc s b + ow (s + 1) x; rw [← e]; exact r5⟩
    refine isMn_congr ?_ (cg _)
    by_cases ex : x = q
    · subst ex
      rw [e2]
      exact isMn_stp (b4 s1 x x0 x1) (fun a b => by unfold prA; omega) p0 p1 k0 k1 hf hq (by show A s p + rc s k + ow (s + 1) x < 1000000; omega)
    · rw [e1 (s + 1) x (by omega) s1 x0 x1 (by omega)]
      refine isMn_skp (b4 s1 x x0 x1) (fun a b r1 r2 r3 r4 => ?_)
      unfold prA
      constructor
      · intro z; omega
      · intro z
        by_cases eb : a = p ∧ b = k
        · rw [eb.1, eb.2] at r4; exact absurd (r4.trans hq.symm) ex
        · omega
  · by_cases ex : t = s + 1 ∧ x = q
    · obtain ⟨z1, z2⟩ := ex
      subst z1; subst z2
      rw [e2]
      have := b5 (s + 1) t0 t1 x x0 x1
      unfold bdA at this ⊢
      omega
    · rw [e1 t x t0 t1 x0 x1 ex]; exact b5 t t0 t1 x x0 x1
theorem c_X12_goesAhead {l : Launch} {D : va_G} {aC : Nat → ClassId} {B t sz : Nat} {S : sS} {r : sR} {h : sH} {m : Nat} {l1 N U : Int} {rs : Int → Nat} {rv rc ow : Int → Int → Int} (hM : LX12 S r m) (l0 : 0 ≤ l1) (l3 : l1 ≤ 3) (hN : h (m + 5) l1 = N) (hU : h (m + 4) l1 = U) (hd : rdy N U rs rv rc ow) (hv : ∀ s : Int, 0 ≤ s → s + 1 < N → h (m + 21) s = rs s ∧ ∀ k : Int, 0 ≤ k → k < rs s → h (m + 19) (21 * s + k) = rv s k ∧ h (m + 20) (21 * s + k) = rc s k) (ho : ∀ s p : Int, 0 ≤ s → s < N → 0 ≤ p → p < 601 → h (m + 22) (601 * s + p) = ow s p) : CtV l yX12_goesAhead cX12_goesAhead 8 none 1 21 [.ref m, .int (iI l1)] D aC B t sz S r h (fun h1 => (∀ a : Nat, a ≠ m + 24 → h1 a = h a) ∧ bfA N U rs rv rc ow (fun s p => h1 (m + 24) (601 * s + p))) := by
  unfold CtV
  refine Ct.of (lv := [some (.ref m), some (.int (iI l1)), none, none, none, none, none, none]) (by decide +kernel) rfl (Nat.le_of_ble_eq_true rfl) (fun X hl q rt hnm => ?_)
  obtain ⟨hu23, ⟨N2, N10⟩, hr, hob⟩ := id hd
  have L1 : ∀ (d s : Nat), (s : Int) + d = N - 1 → ∀ (h2 : sH) (o4 o5 o6 o7 : Option Value), noL o4 = true → noL o5 = true → noL o6 = true → (∀ a : Nat, a ≠ m + 24 → h2 a = h a) → ahI N U rs rv rc ow (fun s p => h2 (m + 24) (601 * s + p)) s 0 0 → G X 0 0 50 [some (.ref m), some (.int (iI l1)), some (.int (iI N)), some (.int (iI s)), o4, o5, o6, o7] [] sz S r h2 := by
    intro d
    induction d with
    | zero =>
      intro s hs h2 o4 o5 o6 o7 n4 n5 n6 hA hI
      refine r_iload_3 (pc := 50) q dX12_goesAhead_50 ?_
      refine r_iload_2 (pc := 51) q dX12_goesAhead_51 ?_
      refine r_iconst (pc := 52) q dX12_goesAhead_52 ?_
      refine r_isub (pc := 53) q dX12_goesAhead_53 ?_
      refine r_icmp_ge (pc := 54) q 218 dX12_goesAhead_54 (by decide) ⟨by omega, by omega⟩ ⟨by omega, by omega⟩ (fun c54 => ?_) (fun c54 => ?_)
      · refine r_return (pc := 218) q rt dX12_goesAhead_218 ?_
        exact ⟨hA, hI.1, fun t t0 t1 => hI.2.1 t t0 (by omega)⟩
      exact absurd (show N - 1 ≤ (s : Int) by omega) c54
    | succ d ih =>
      intro s hs h2 o4 o5 o6 o7 n4 n5 n6 hA hI
      obtain ⟨rs1, rs21, rsk⟩ := hr s (by omega) (by omega)
      obtain ⟨hv1, hv2⟩ := hv s (by omega) (by omega)
      have L2 : ∀ (e p : Nat), p + e = 601 → ∀ (h3 : sH) (o5 o6 o7 : Option Value), noL o5 = true → noL o6 = true → (∀ a : Nat, a ≠ m + 24 → h3 a = h a) → ahI N U rs rv rc ow (fun s p => h3 (m + 24) (601 * s + p)) s p 0 → G X 0 0 60 [some (.ref m), some (.int (iI l1)), some (.int (iI N)), some (.int (iI s)), some (.int (iI p)), o5, o6, o7] [] sz S r h3 := by
        intro e
        induction e with
        | zero =>
          intro p hp h3 o5 o6 o7 n5 n6 hA3 hI3
          have ep : p = 601 := by omega
          subst ep
          refine r_iload_4 (pc := 60) q dX12_goesAhead_60 ?_
          refine r_sipush (pc := 62) q dX12_goesAhead_62 (by decide) ?_
          refine r_icmp_ge (pc := 65) q 212 dX12_goesAhead_65 (by decide) ⟨by omega, by omega⟩ ⟨by omega, by omega⟩ (fun c65 => ?_) (fun c65 => ?_)
          · refine r_iinc_3 (pc := 212) q dX12_goesAhead_212 rfl ?_
            refine r_goto (pc := 215) (tgt := 50) q dX12_goesAhead_215 (by decide) ?_
            exact ih (s + 1) (by omega) h3 _ _ _ _ rfl n5 n6 hA3 (ahI_nxt (by omega) (by omega) hI3)
          exact absurd (by omega) c65
        | succ e ih2 =>
          intro p hp h3 o5 o6 o7 n5 n6 hA3 hI3
          have ab := hI3.2.2.2.2 s (by omega) (by omega) p (by omega) (by omega)
          obtain ⟨A0, hA0⟩ : ∃ A0, h3 (m + 24) (601 * s + p) = A0 := ⟨_, rfl⟩
          have ab' : bdA s A0 := by rw [← hA0]; exact ab
          obtain ⟨ab1, ab2, ab3⟩ := ab'
          have L3 : ∀ (f k : Nat), k + f = rs s → ∀ (h4 : sH) (o7 : Option Value), (∀ a : Nat, a ≠ m + 24 → h4 a = h a) → h4 (m + 24) (601 * s + p) = A0 → A0 < 1000000 → ahI N U rs rv rc ow (fun s p => h4 (m + 24) (601 * s + p)) s p k → G X 0 0 86 [some (.ref m), some (.int (iI l1)), some (.int (iI N)), some (.int (iI s)), some (.int (iI p)), some (.int (iI A0)), some (.int (iI k)), o7] [] sz S r h4 := by
            intro f
            induction f with
            | zero =>
              intro k hk h4 o7 hA4 e4 lt hI4
              have r21 : h4 (m + 21) s = rs s := by rw [hA4 _ (by omega)]; exact hv1
              refine r_iload_6 (pc := 86) q dX12_goesAhead_86 ?_
              refine r_aload_0 (pc := 88) q dX12_goesAhead_88 ?_
              refine r_getr (pc := 89) q fX12_82 (kz := 32) rfl (by decide) rfl hM.o hM.r_values dX12_goesAhead_89 ?_
              refine r_iload_3 (pc := 92) q dX12_goesAhead_92 ?_
              refine r_iald (pc := 93) q hM.s_values (by omega) (by omega) dX12_goesAhead_93 ?_
              rw [r21]
              refine r_icmp_ge (pc := 94) q 206 dX12_goesAhead_94 (by decide) ⟨by omega, by omega⟩ ⟨by omega, by omega⟩ (fun c94 => ?_) (fun c94 => ?_)
              · refine r_iinc_4 (pc := 206) q dX12_goesAhead_206 rfl ?_
                refine r_goto (pc := 209) (tgt := 60) q dX12_goesAhead_209 (by decide) ?_
                refine ih2 (p + 1) (by omega) h4 _ _ _ rfl rfl hA4 (ahI_skp hI4 (fun a b r1 r2 _ _ => by unfold prA; omega))
              exact absurd (show (rs s : Int) ≤ (k : Int) by omega) c94
            | succ f ih3 =>
              intro k hk h4 o7 hA4 e4 lt hI4
              have r21 : h4 (m + 21) s = rs s := by rw [hA4 _ (by omega)]; exact hv1
              have r4 : h4 (m + 4) l1 = U := by rw [hA4 _ (by omega)]; exact hU
              have hvk := hv2 k (by omega) (by omega)
              have r19 : h4 (m + 19) (21 * s + k) = rv s k := by rw [hA4 _ (by omega)]; exact hvk.1
              have r20 : h4 (m + 20) (21 * s + k) = rc s k := by rw [hA4 _ (by omega)]; exact hvk.2
              have kb := rsk k (by omega) (by omega)
              obtain ⟨q2, hq2⟩ : ∃ x, (p : Int) + U * rv s k = x := ⟨_, rfl⟩
              have ub : 2 ≤ U * rv s k ∧ U * rv s k ≤ 1350 := by
                rcases hu23 with u | u <;> rw [u] <;> omega
              refine r_iload_6 (pc := 86) q dX12_goesAhead_86 ?_
              refine r_aload_0 (pc := 88) q dX12_goesAhead_88 ?_
              refine r_getr (pc := 89) q fX12_82 (kz := 32) rfl (by decide) rfl hM.o hM.r_values dX12_goesAhead_89 ?_
              refine r_iload_3 (pc := 92) q dX12_goesAhead_92 ?_
              refine r_iald (pc := 93) q hM.s_values (by omega) (by omega) dX12_goesAhead_93 ?_
              rw [r21]
              refine r_icmp_ge (pc := 94) q 206 dX12_goesAhead_94 (by decide) ⟨by omega, by omega⟩ ⟨by omega, by omega⟩ (fun c94 => ?_) (fun c94 => ?_)
              · exact absurd c94 (by omega)
              refine r_iload_5 (pc := 97) q dX12_goesAhead_97 ?_
              refine r_ldc (pc := 99) q kX12_204 dX12_goesAhead_99 ?_
              refine r_icmp_ge (pc := 101) q 206 dX12_goesAhead_101 (by decide) ⟨by omega, by omega⟩ ⟨by omega, by omega⟩ (fun c101 => ?_) (fun c101 => ?_)
              · exact absurd lt (by omega)
              refine r_iload_4 (pc := 104) q dX12_goesAhead_104 ?_
              refine r_aload_0 (pc := 106) q dX12_goesAhead_106 ?_
              refine r_getr (pc := 107) q fX12_20 (kz := 6) rfl (by decide) rfl hM.o hM.r_unit dX12_goesAhead_107 ?_
              refine r_iload_1 (pc := 110) q dX12_goesAhead_110 ?_
              refine r_iald (pc := 111) q hM.s_unit (by omega) (by omega) dX12_goesAhead_111 ?_
              rw [r4]
              refine r_aload_0 (pc := 112) q dX12_goesAhead_112 ?_
              refine r_getr (pc := 113) q fX12_76 (kz := 30) rfl (by decide) rfl hM.o hM.r_value dX12_goesAhead_113 ?_
              refine r_bipush (pc := 116) q dX12_goesAhead_116 (by decide) ?_
              refine r_iload_3 (pc := 118) q dX12_goesAhead_118 ?_
              refine r_imul (pc := 119) q dX12_goesAhead_119 ?_
              refine r_iload_6 (pc := 120) q dX12_goesAhead_120 ?_
              refine r_iadd (pc := 122) q dX12_goesAhead_122 ?_
              refine r_iald (pc := 123) q hM.s_value (by omega) (by omega) dX12_goesAhead_123 ?_
              rw [r19]
              refine r_imul (pc := 124) q dX12_goesAhead_124 ?_
              refine r_iadd (pc := 125) q dX12_goesAhead_125 ?_
              rw [hq2]
              refine r_istore_7 (pc := 126) q dX12_goesAhead_126 rfl ?_
              refine r_iload_7 (pc := 128) q dX12_goesAhead_128 ?_
              refine r_sipush (pc := 130) q dX12_goesAhead_130 (by decide) ?_
              refine r_icmp_ge (pc := 133) q 200 dX12_goesAhead_133 (by decide) ⟨by omega, by omega⟩ ⟨by omega, by omega⟩ (fun c133 => ?_) (fun c133 => ?_)
              · refine r_iinc_6 (pc := 200) q dX12_goesAhead_200 rfl ?_
                refine r_goto (pc := 203) (tgt := 86) q dX12_goesAhead_203 (by decide) ?_
                refine ih3 (k + 1) (by omega) h4 _ hA4 e4 lt (ahI_skp hI4 (fun a b r1 r2 _ r4 => ?_))
                unfold prA
                constructor
                · intro z; omega
                · intro z
                  by_cases eb : a = p ∧ b = k
                  · rw [eb.1, eb.2] at r4; omega
                  · omega
              refine r_aload_0 (pc := 136) q dX12_goesAhead_136 ?_
              refine r_getr (pc := 137) q fX12_91 (kz := 35) rfl (by decide) rfl hM.o hM.r_ahead dX12_goesAhead_137 ?_
              refine r_sipush (pc := 140) q dX12_goesAhead_140 (by decide) ?_
              refine r_iload_3 (pc := 143) q dX12_goesAhead_143 ?_
              refine r_iconst (pc := 144) q dX12_goesAhead_144 ?_
              refine r_iadd (pc := 145) q dX12_goesAhead_145 ?_
              refine r_imul (pc := 146) q dX12_goesAhead_146 ?_
              refine r_iload_7 (pc := 147) q dX12_goesAhead_147 ?_
              refine r_iadd (pc := 149) q dX12_goesAhead_149 ?_
              refine r_aload_0 (pc := 150) q dX12_goesAhead_150 ?_
              refine r_getr (pc := 151) q fX12_91 (kz := 35) rfl (by decide) rfl hM.o hM.r_ahead dX12_goesAhead_151 ?_
              refine r_sipush (pc := 154) q dX12_goesAhead_154 (by decide) ?_
              refine r_iload_3 (pc := 157) q dX12_goesAhead_157 ?_
              refine r_iconst (pc := 158) q dX12_goesAhead_158 ?_
              refine r_iadd (pc := 159) q dX12_goesAhead_159 ?_
              refine r_imul (pc := 160) q dX12_goesAhead_160 ?_
              refine r_iload_7 (pc := 161) q dX12_goesAhead_161 ?_
              refine r_iadd (pc := 163) q dX12_goesAhead_163 ?_
              refine r_iald (pc := 164) q hM.s_ahead (by omega) (by omega) dX12_goesAhead_164 ?_
              have bq := hI4.2.2.2.2 (s + 1) (by omega) (by omega) q2 (by omega) (by omega)
              have bq' : bdA (s + 1) (h4 (m + 24) (601 * ((s : Int) + 1) + q2)) := bq
              obtain ⟨bq1, bq2, bq3⟩ := bq'
              refine r_iload_5 (pc := 165) q dX12_goesAhead_165 ?_
              refine r_aload_0 (pc := 167) q dX12_goesAhead_167 ?_
              refine r_getr (pc := 168) q fX12_79 (kz := 31) rfl (by decide) rfl hM.o hM.r_cost dX12_goesAhead_168 ?_
              refine r_bipush (pc := 171) q dX12_goesAhead_171 (by decide) ?_
              refine r_iload_3 (pc := 173) q dX12_goesAhead_173 ?_
              refine r_imul (pc := 174) q dX12_goesAhead_174 ?_
              refine r_iload_6 (pc := 175) q dX12_goesAhead_175 ?_
              refine r_iadd (pc := 177) q dX12_goesAhead_177 ?_
              refine r_iald (pc := 178) q hM.s_cost (by omega) (by omega) dX12_goesAhead_178 ?_
              rw [r20]
              refine r_iadd (pc := 179) q dX12_goesAhead_179 ?_
              refine r_aload_0 (pc := 180) q dX12_goesAhead_180 ?_
              refine r_getr (pc := 181) q fX12_85 (kz := 33) rfl (by decide) rfl hM.o hM.r_own dX12_goesAhead_181 ?_
              refine r_sipush (pc := 184) q dX12_goesAhead_184 (by decide) ?_
              refine r_iload_3 (pc := 187) q dX12_goesAhead_187 ?_
              refine r_iconst (pc := 188) q dX12_goesAhead_188 ?_
              refine r_iadd (pc := 189) q dX12_goesAhead_189 ?_
              refine r_imul (pc := 190) q dX12_goesAhead_190 ?_
              refine r_iload_7 (pc := 191) q dX12_goesAhead_191 ?_
              refine r_iadd (pc := 193) q dX12_goesAhead_193 ?_
              refine r_iald (pc := 194) q hM.s_own (by omega) (by omega) dX12_goesAhead_194 ?_
              have r22 : h4 (m + 22) (601 * ((s : Int) + 1) + q2) = ow (s + 1) q2 := by
                rw [hA4 _ (by omega)]; exact ho (s + 1) q2 (by omega) (by omega) (by omega) (by omega)
              rw [r22]
              have oq := hob (s + 1) q2 (by omega) (by omega) (by omega) (by omega)
              have ab3' := ab3 lt
              refine r_iadd (pc := 195) q dX12_goesAhead_195 ?_
              refine r_sI2 (pc := 196) q (c_X12_less (by first | assumption | exact ⟨by omega, by omega⟩ | omega) (by first | assumption | exact ⟨by omega, by omega⟩ | omega)) mX12_130 (by decide) (Nat.le_of_ble_eq_true rfl) rfl dX12_goesAhead_196 (fun z8 h8 hz8 => ?_)
              obtain ⟨rfl, rfl⟩ := hz8
              refine r_iast (pc := 199) q hM.s_ahead (by omega) (by omega) dX12_goesAhead_199 (fun h5 eh5 => ?_)
              refine r_iinc_6 (pc := 200) q dX12_goesAhead_200 rfl ?_
              refine r_goto (pc := 203) (tgt := 86) q dX12_goesAhead_203 (by decide) ?_
              have e24 : h5 (m + 24) = up (h4 (m + 24)) (601 * ((s : Int) + 1) + q2) (min (h4 (m + 24) (601 * ((s : Int) + 1) + q2)) (A0 + rc s k + ow (s + 1) q2)) := by rw [eh5, up_s]
              refine ih3 (k + 1) (by omega) h5 _ (fun a a1 => by rw [eh5, up_n _ _ a1]; exact hA4 a a1) (by rw [e24, up_n _ _ (by omega)]; exact e4) lt ?_
              refine ahI_put (A := fun s p => h4 (m + 24) (601 * s + p)) (q := q2) (by omega) (by omega) hI4 (by omega) (by omega) (by omega) (by omega) (by show h4 (m + 24) (601 * s + p) < 1000000; rw [e4]; exact lt) hq2.symm (by omega) (by omega) (by show h4 (m + 24) (601 * s + p) + rc s k + ow (s + 1) q2 ≤ _; rw [e4]; omega) (by show 0 ≤ h4 (m + 24) (601 * s + p) + rc s k + ow (s + 1) q2; rw [e4]; omega) (by omega) (fun t x t0 t1 x0 x1 hn => ?_) ?_
              · show h5 (m + 24) (601 * t + x) = h4 (m + 24) (601 * t + x)
                rw [e24, up_n _ _ (by omega)]
              · show h5 (m + 24) (601 * ((s : Int) + 1) + q2) = min (h4 (m + 24) (601 * ((s : Int) + 1) + q2)) (h4 (m + 24) (601 * s + p) + rc s k + ow (s + 1) q2)
                rw [e24, up_s, e4]
          have r21 : h3 (m + 21) s = rs s := by rw [hA3 _ (by omega)]; exact hv1
          by_cases lt : A0 < 1000000
          · refine r_iload_4 (pc := 60) q dX12_goesAhead_60 ?_
            refine r_sipush (pc := 62) q dX12_goesAhead_62 (by decide) ?_
            refine r_icmp_ge (pc := 65) q 212 dX12_goesAhead_65 (by decide) ⟨by omega, by omega⟩ ⟨by omega, by omega⟩ (fun c65 => ?_) (fun c65 => ?_)
            · exact absurd c65 (by omega)
            refine r_aload_0 (pc := 68) q dX12_goesAhead_68 ?_
            refine r_getr (pc := 69) q fX12_91 (kz := 35) rfl (by decide) rfl hM.o hM.r_ahead dX12_goesAhead_69 ?_
            refine r_sipush (pc := 72) q dX12_goesAhead_72 (by decide) ?_
            refine r_iload_3 (pc := 75) q dX12_goesAhead_75 ?_
            refine r_imul (pc := 76) q dX12_goesAhead_76 ?_
            refine r_iload_4 (pc := 77) q dX12_goesAhead_77 ?_
            refine r_iadd (pc := 79) q dX12_goesAhead_79 ?_
            refine r_iald (pc := 80) q hM.s_ahead (by omega) (by omega) dX12_goesAhead_80 ?_
            rw [hA0]
            refine r_istore_5 (pc := 81) q dX12_goesAhead_81 rfl ?_
            refine r_iconst (pc := 83) q dX12_goesAhead_83 ?_
            refine r_istore_6 (pc := 84) q dX12_goesAhead_84 rfl ?_
            exact L3 (rs s) 0 (by omega) h3 _ hA3 hA0 lt hI3
          · refine r_iload_4 (pc := 60) q dX12_goesAhead_60 ?_
            refine r_sipush (pc := 62) q dX12_goesAhead_62 (by decide) ?_
            refine r_icmp_ge (pc := 65) q 212 dX12_goesAhead_65 (by decide) ⟨by omega, by omega⟩ ⟨by omega, by omega⟩ (fun c65 => ?_) (fun c65 => ?_)
            · exact absurd c65 (by omega)
            refine r_aload_0 (pc := 68) q dX12_goesAhead_68 ?_
            refine r_getr (pc := 69) q fX12_91 (kz := 35) rfl (by decide) rfl hM.o hM.r_ahead dX12_goesAhead_69 ?_
            refine r_sipush (pc := 72) q dX12_goesAhead_72 (by decide) ?_
            refine r_iload_3 (pc := 75) q dX12_goesAhead_75 ?_
            refine r_imul (pc := 76) q dX12_goesAhead_76 ?_
            refine r_iload_4 (pc := 77) q dX12_goesAhead_77 ?_
            refine r_iadd (pc := 79) q dX12_goesAhead_79 ?_
            refine r_iald (pc := 80) q hM.s_ahead (by omega) (by omega) dX12_goesAhead_80 ?_
            rw [hA0]
            refine r_istore_5 (pc := 81) q dX12_goesAhead_81 rfl ?_
            refine r_iconst (pc := 83) q dX12_goesAhead_83 ?_
            refine r_istore_6 (pc := 84) q dX12_goesAhead_84 rfl ?_
            refine r_iload_6 (pc := 86) q dX12_goesAhead_86 ?_
            refine r_aload_0 (pc := 88) q dX12_goesAhead_88 ?_
            refine r_getr (pc := 89) q fX12_82 (kz := 32) rfl (by decide) rfl hM.o hM.r_values dX12_goesAhead_89 ?_
            refine r_iload_3 (pc := 92) q dX12_goesAhead_92 ?_
            refine r_iald (pc := 93) q hM.s_values (by omega) (by omega) dX12_goesAhead_93 ?_
            rw [r21]
            refine r_icmp_ge (pc := 94) q 206 dX12_goesAhead_94 (by decide) ⟨by omega, by omega⟩ ⟨by omega, by omega⟩ (fun c94 => ?_) (fun c94 => ?_)
            · exact absurd c94 (by omega)
            refine r_iload_5 (pc := 97) q dX12_goesAhead_97 ?_
            refine r_ldc (pc := 99) q kX12_204 dX12_goesAhead_99 ?_
            refine r_icmp_ge (pc := 101) q 206 dX12_goesAhead_101 (by decide) ⟨by omega, by omega⟩ ⟨by omega, by omega⟩ (fun c101 => ?_) (fun c101 => ?_)
            · refine r_iinc_4 (pc := 206) q dX12_goesAhead_206 rfl ?_
              refine r_goto (pc := 209) (tgt := 60) q dX12_goesAhead_209 (by decide) ?_
              refine ih2 (p + 1) (by omega) h3 _ _ _ rfl rfl hA3 (ahI_skp hI3 (fun a b r1 r2 r3 _ => ?_))
              unfold prA
              constructor
              · intro z; omega
              · intro z
                by_cases eb : a = p
                · rw [eb] at r3; exact absurd (hA0 ▸ r3) lt
                · omega
            exact absurd (by omega) c101
      refine r_iload_3 (pc := 50) q dX12_goesAhead_50 ?_
      refine r_iload_2 (pc := 51) q dX12_goesAhead_51 ?_
      refine r_iconst (pc := 52) q dX12_goesAhead_52 ?_
      refine r_isub (pc := 53) q dX12_goesAhead_53 ?_
      refine r_icmp_ge (pc := 54) q 218 dX12_goesAhead_54 (by decide) ⟨by omega, by omega⟩ ⟨by omega, by omega⟩ (fun c54 => ?_) (fun c54 => ?_)
      · exact absurd c54 (by omega)
      refine r_iconst (pc := 57) q dX12_goesAhead_57 ?_
      refine r_istore_4 (pc := 58) q dX12_goesAhead_58 rfl ?_
      exact L2 601 0 (by omega) h2 _ _ _ n5 n6 hA hI
  have L0 : ∀ (d j : Nat), (j : Int) + d = 601 * N → ∀ (h2 : sH), (∀ a : Nat, a ≠ m + 24 → h2 a = h a) → (∀ x : Int, 0 ≤ x → x < j → h2 (m + 24) x = if x < 601 then h (m + 22) x else 1000000) → G X 0 0 9 [some (.ref m), some (.int (iI l1)), some (.int (iI N)), some (.int (iI j)), none, none, none, none] [] sz S r h2 := by
    intro d
    induction d with
    | zero =>
      intro j hj h2 hA hx
      have r0 : ∀ p : Int, 0 ≤ p → p < 601 → h2 (m + 24) (601 * 0 + p) = ow 0 p := fun p p0 p1 => by
        rw [hx _ (by omega) (by omega), if_pos (by omega)]; exact ho 0 p (by omega) (by omega) p0 p1
      have r1 : ∀ t : Int, 1 ≤ t → t < N → ∀ p : Int, 0 ≤ p → p < 601 → h2 (m + 24) (601 * t + p) = 1000000 := fun t t0 t1 p p0 p1 => by
        rw [hx _ (by omega) (by omega), if_neg (by omega)]
      refine r_iload_3 (pc := 9) q dX12_goesAhead_9 ?_
      refine r_sipush (pc := 10) q dX12_goesAhead_10 (by decide) ?_
      refine r_iload_2 (pc := 13) q dX12_goesAhead_13 ?_
      refine r_imul (pc := 14) q dX12_goesAhead_14 ?_
      refine r_icmp_ge (pc := 15) q 48 dX12_goesAhead_15 (by decide) ⟨by omega, by omega⟩ ⟨by omega, by omega⟩ (fun c15 => ?_) (fun c15 => ?_)
      · refine r_iconst (pc := 48) q dX12_goesAhead_48 ?_
        refine r_istore_3 (pc := 49) q dX12_goesAhead_49 rfl ?_
        refine L1 (N - 1).toNat 0 (by omega) h2 _ _ _ _ rfl rfl rfl hA ⟨r0, fun t t0 t1 => by omega, fun t t0 t1 => r1 t (by omega) t1, fun z x x0 x1 => Or.inl ⟨r1 (0 + 1) (by omega) z x x0 x1, ?_⟩, fun t t0 t1 x x0 x1 => ?_⟩
        · rintro c ⟨a, b, y0, y1, y2, -⟩
          rcases y0 with y0 | y0 <;> omega
        · show bdA t (h2 (m + 24) (601 * t + x))
          by_cases et : t = 0
          · subst et; rw [r0 x x0 x1]; have := hob 0 x (by omega) (by omega) x0 x1; unfold bdA; omega
          · rw [r1 t (by omega) t1 x x0 x1]; unfold bdA; omega
      exact absurd (show 601 * N ≤ (j : Int) by omega) c15
    | succ d ih =>
      intro j hj h2 hA hx
      have r22 : h2 (m + 22) j = h (m + 22) j := by rw [hA _ (by omega)]
      refine r_iload_3 (pc := 9) q dX12_goesAhead_9 ?_
      refine r_sipush (pc := 10) q dX12_goesAhead_10 (by decide) ?_
      refine r_iload_2 (pc := 13) q dX12_goesAhead_13 ?_
      refine r_imul (pc := 14) q dX12_goesAhead_14 ?_
      refine r_icmp_ge (pc := 15) q 48 dX12_goesAhead_15 (by decide) ⟨by omega, by omega⟩ ⟨by omega, by omega⟩ (fun c15 => ?_) (fun c15 => ?_)
      · exact absurd c15 (by omega)
      refine r_aload_0 (pc := 18) q dX12_goesAhead_18 ?_
      refine r_getr (pc := 19) q fX12_91 (kz := 35) rfl (by decide) rfl hM.o hM.r_ahead dX12_goesAhead_19 ?_
      refine r_iload_3 (pc := 22) q dX12_goesAhead_22 ?_
      refine r_iload_3 (pc := 23) q dX12_goesAhead_23 ?_
      refine r_sipush (pc := 24) q dX12_goesAhead_24 (by decide) ?_
      refine r_icmp_ge (pc := 27) q 39 dX12_goesAhead_27 (by decide) ⟨by omega, by omega⟩ ⟨by omega, by omega⟩ (fun c27 => ?_) (fun c27 => ?_)
      · refine r_ldc (pc := 39) q kX12_204 dX12_goesAhead_39 ?_
        refine r_iast (pc := 41) q hM.s_ahead (by omega) (by omega) dX12_goesAhead_41 (fun h3 eh3 => ?_)
        refine r_iinc_3 (pc := 42) q dX12_goesAhead_42 rfl ?_
        refine r_goto (pc := 45) (tgt := 9) q dX12_goesAhead_45 (by decide) ?_
        refine ih (j + 1) (by omega) h3 (fun a a1 => by rw [eh3, up_n _ _ a1]; exact hA a a1) (fun x x0 x1 => ?_)
        rw [eh3, up_s]
        by_cases ex : x = j
        · rw [ex, up_s, if_neg (by omega)]
        · rw [up_n _ _ ex]; exact hx x x0 (by omega)
      refine r_aload_0 (pc := 30) q dX12_goesAhead_30 ?_
      refine r_getr (pc := 31) q fX12_85 (kz := 33) rfl (by decide) rfl hM.o hM.r_own dX12_goesAhead_31 ?_
      refine r_iload_3 (pc := 34) q dX12_goesAhead_34 ?_
      refine r_iald (pc := 35) q hM.s_own (by omega) (by omega) dX12_goesAhead_35 ?_
      rw [r22]
      refine r_goto (pc := 36) (tgt := 41) q dX12_goesAhead_36 (by decide) ?_
      refine r_iast (pc := 41) q hM.s_ahead (by omega) (by omega) dX12_goesAhead_41 (fun h4 eh4 => ?_)
      refine r_iinc_3 (pc := 42) q dX12_goesAhead_42 rfl ?_
      refine r_goto (pc := 45) (tgt := 9) q dX12_goesAhead_45 (by decide) ?_
      refine ih (j + 1) (by omega) h4 (fun a a1 => by rw [eh4, up_n _ _ a1]; exact hA a a1) (fun x x0 x1 => ?_)
      rw [eh4, up_s]
      by_cases ex : x = j
      · rw [ex, up_s, if_pos (by omega)]
      · rw [up_n _ _ ex]; exact hx x x0 (by omega)
  refine r_aload_0 (pc := 0) q dX12_goesAhead_0 ?_
  refine r_getr (pc := 1) q fX12_23 (kz := 7) rfl (by decide) rfl hM.o hM.r_stations dX12_goesAhead_1 ?_
  refine r_iload_1 (pc := 4) q dX12_goesAhead_4 ?_
  refine r_iald (pc := 5) q hM.s_stations (by omega) (by omega) dX12_goesAhead_5 ?_
  rw [hN]
  refine r_istore_2 (pc := 6) q dX12_goesAhead_6 rfl ?_
  refine r_iconst (pc := 7) q dX12_goesAhead_7 ?_
  refine r_istore_3 (pc := 8) q dX12_goesAhead_8 rfl ?_
  exact L0 (601 * N).toNat 0 (by omega) h (fun _ _ => rfl) (fun x x0 x1 => by omega)
