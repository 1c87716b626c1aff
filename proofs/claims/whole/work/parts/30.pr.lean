/-! ===== the text of a list ===== -/
def isRun (P : Int → Prop) (a L : Int) : Prop := 0 ≤ L ∧ (∀ j : Int, 0 ≤ j → j < L → P (a + j)) ∧ ¬ P (a + L)
theorem isRun_u {P : Int → Prop} {a L K : Int} (h1 : isRun P a L) (h2 : isRun P a K) : L = K := by
  obtain ⟨a1, a2, a3⟩ := h1
  obtain ⟨b1, b2, b3⟩ := h2
  by_cases e : L < K
  · exact absurd (b2 L a1 e) a3
  · by_cases e2 : K < L
    · exact absurd (a2 K b1 e2) b3
    · omega
noncomputable def rnF (P : Int → Prop) : Nat → Int → Int
  | 0 => fun _ => 0
  | f + 1 => fun a => cif (P a) (1 + rnF P f (a + 1)) 0
theorem rnF_run {P : Int → Prop} : ∀ (f : Nat) (a : Int), (∀ x : Int, a + f ≤ x → ¬ P x) → isRun P a (rnF P f a)
  | 0, a, h => ⟨by simp [rnF], fun j j0 j1 => by simp only [rnF] at j1; omega, by simp only [rnF]; exact h _ (by omega)⟩
  | f + 1, a, h => by
    obtain ⟨b1, b2, b3⟩ := rnF_run (P := P) f (a + 1) (fun x hx => h x (by omega))
    simp only [rnF]
    by_cases e : P a
    · rw [cif_t e]
      refine ⟨by omega, fun j j0 j1 => ?_, by rw [show a + (1 + rnF P f (a + 1)) = a + 1 + rnF P f (a + 1) by omega]; exact b3⟩
      by_cases ej : j = 0
      · rw [ej, Int.add_zero]; exact e
      · have := b2 (j - 1) (by omega) (by omega)
        rw [show a + 1 + (j - 1) = a + j by omega] at this
        exact this
    · rw [cif_f e]
      exact ⟨by omega, fun j j0 j1 => by omega, by rw [Int.add_zero]; exact e⟩
theorem rnF_nn (P : Int → Prop) : ∀ (f : Nat) (a : Int), 0 ≤ rnF P f a
  | 0, a => by simp [rnF]
  | f + 1, a => by
    have := rnF_nn P f (a + 1)
    simp only [rnF]
    by_cases e : P a
    · rw [cif_t e]; omega
    · rw [cif_f e]; omega
noncomputable def rnL (b : Int → Int) (T a : Int) : Int := rnF (fun x => isL (b x)) (T - a).toNat a
noncomputable def rnG (b : Int → Int) (T a : Int) : Int := rnF (fun x => signC (b x) ≠ 0) (T - a).toNat a
def sgN (b : Int → Int) (a L : Int) : Prop := L ≤ 8 ∧ ∀ j : Int, 0 ≤ j → j + 1 < L → signC (b (a + j + 1)) ≤ signC (b (a + j))
def dupN (b ns nl : Int → Int) (n a L : Int) : Prop := ∃ i : Int, 0 ≤ i ∧ i < n ∧ nl i = L ∧ ∀ j : Int, 0 ≤ j → j < L → b (ns i + j) = b (a + j)
abbrev prT : Type := Int × Int × Int × (Int → Int) × (Int → Int) × (Int → Int) × (Int → Int)
/-- kind and place of the fault, how many names, where names and numerals begin and how long they are -/
noncomputable def PR (b : Int → Int) (T : Int) (a : Int) (aw : Bool) (n : Int) (ns nl us ul : Int → Int) : prT :=
  if _hT : T ≤ a then (if aw = true ∨ n < 2 then (1, T, n, ns, nl, us, ul) else (0, -1, n, ns, nl, us, ul))
  else if b a = 32 ∨ b a = 10 then PR b T (a + 1) aw n ns nl us ul
  else if _hL : 0 < rnL b T a then
    (if aw = false ∨ 8 < rnL b T a then (1, a, n, ns, nl, us, ul) else if 10 ≤ n then (2, a, n, ns, nl, us, ul)
     else cif (dupN b ns nl n a (rnL b T a)) (3, a, n, ns, nl, us, ul) (PR b T (a + rnL b T a) false (n + 1) (up ns n a) (up nl n (rnL b T a)) us ul))
  else if _hG : 0 < rnG b T a then
    (if aw = true then (1, a, n, ns, nl, us, ul) else cif (sgN b a (rnG b T a)) (PR b T (a + rnG b T a) true n ns nl (up us (n - 1) a) (up ul (n - 1) (rnG b T a))) (1, a, n, ns, nl, us, ul))
  else (1, a, n, ns, nl, us, ul)
termination_by (T - a).toNat
decreasing_by all_goals omega
theorem rnL_run {b : Int → Int} {T a : Int} (hb : ∀ k : Int, T ≤ k → b k = 0) : isRun (fun x => isL (b x)) a (rnL b T a) := by
  refine rnF_run _ _ (fun x hx z => ?_)
  have := hb x (by omega)
  unfold isL at z
  omega
theorem rnG_run {b : Int → Int} {T a : Int} (hb : ∀ k : Int, T ≤ k → b k = 0) : isRun (fun x => signC (b x) ≠ 0) a (rnG b T a) := by
  refine rnF_run _ _ (fun x hx z => ?_)
  rw [hb x (by omega)] at z
  exact z (by decide)
theorem PR_end {b : Int → Int} {T a : Int} {aw : Bool} {n : Int} {ns nl us ul : Int → Int} (h : T ≤ a) : PR b T a aw n ns nl us ul = if aw = true ∨ n < 2 then (1, T, n, ns, nl, us, ul) else (0, -1, n, ns, nl, us, ul) := by
  rw [PR, dif_pos h]
theorem PR_blk {b : Int → Int} {T a : Int} {aw : Bool} {n : Int} {ns nl us ul : Int → Int} (h : a < T) (hb : b a = 32 ∨ b a = 10) : PR b T a aw n ns nl us ul = PR b T (a + 1) aw n ns nl us ul := by
  rw [PR, dif_neg (by omega), if_pos hb]
theorem PR_blks {b : Int → Int} {T : Int} {aw : Bool} {n : Int} {ns nl us ul : Int → Int} : ∀ (d : Nat) (a : Int), a + d ≤ T → (∀ j : Int, a ≤ j → j < a + d → b j = 32 ∨ b j = 10) → PR b T a aw n ns nl us ul = PR b T (a + d) aw n ns nl us ul
  | 0, a, _, _ => by rw [show a + ((0 : Nat) : Int) = a by omega]
  | d + 1, a, h, hb => by
    rw [PR_blk (by omega) (hb a (by omega) (by omega)), PR_blks d (a + 1) (by omega) (fun j j0 j1 => hb j (by omega) (by omega)), show a + 1 + (d : Int) = a + ((d + 1 : Nat) : Int) by omega]
/-- a word -/
theorem PR_wrd {b : Int → Int} {T a L : Int} {aw : Bool} {n : Int} {ns nl us ul : Int → Int} (h : a < T) (hb : ∀ k : Int, T ≤ k → b k = 0) (hr : isRun (fun x => isL (b x)) a L) (L1 : 0 < L) : PR b T a aw n ns nl us ul = if aw = false ∨ 8 < L then (1, a, n, ns, nl, us, ul) else if 10 ≤ n then (2, a, n, ns, nl, us, ul) else cif (dupN b ns nl n a L) (3, a, n, ns, nl, us, ul) (PR b T (a + L) false (n + 1) (up ns n a) (up nl n L) us ul) := by
  have e := isRun_u (rnL_run (a := a) hb) hr
  have l0 := hr.2.1 0 (by omega) L1
  rw [Int.add_zero] at l0
  unfold isL at l0
  rw [PR, dif_neg (by omega), if_neg (by omega), dif_pos (by omega), e]
/-- signs -/
theorem PR_sgn {b : Int → Int} {T a L : Int} {aw : Bool} {n : Int} {ns nl us ul : Int → Int} (h : a < T) (hb : ∀ k : Int, T ≤ k → b k = 0) (hr : isRun (fun x => signC (b x) ≠ 0) a L) (L1 : 0 < L) : PR b T a aw n ns nl us ul = if aw = true then (1, a, n, ns, nl, us, ul) else cif (sgN b a L) (PR b T (a + L) true n ns nl (up us (n - 1) a) (up ul (n - 1) L)) (1, a, n, ns, nl, us, ul) := by
  have e := isRun_u (rnG_run (a := a) hb) hr
  have l0 := hr.2.1 0 (by omega) L1
  rw [Int.add_zero] at l0
  have nl0 : ¬ isL (b a) := fun z => l0 (by unfold isL at z; unfold signC; rw [if_neg (by omega), if_neg (by omega), if_neg (by omega), if_neg (by omega)])
  have nb : ¬ (b a = 32 ∨ b a = 10) := by
    rintro (z | z) <;> (rw [z] at l0; exact l0 (by decide))
  have eL : rnL b T a = 0 := isRun_u (rnL_run (a := a) hb) ⟨by omega, fun j j0 j1 => by omega, by rw [Int.add_zero]; exact nl0⟩
  rw [PR, dif_neg (by omega), if_neg nb, dif_neg (by omega), dif_pos (by omega), e]
/-- nothing of these -/
theorem PR_bad {b : Int → Int} {T a : Int} {aw : Bool} {n : Int} {ns nl us ul : Int → Int} (h : a < T) (hb : ∀ k : Int, T ≤ k → b k = 0) (h1 : ¬ (b a = 32 ∨ b a = 10)) (h2 : ¬ isL (b a)) (h3 : signC (b a) = 0) : PR b T a aw n ns nl us ul = (1, a, n, ns, nl, us, ul) := by
  have eL : rnL b T a = 0 := isRun_u (rnL_run (a := a) hb) ⟨by omega, fun j j0 j1 => by omega, by rw [Int.add_zero]; exact h2⟩
  have eG : rnG b T a = 0 := isRun_u (rnG_run (a := a) hb) ⟨by omega, fun j j0 j1 => by omega, by rw [Int.add_zero]; exact fun z => z h3⟩
  rw [PR, dif_neg (by omega), if_neg h1, dif_neg (by omega), dif_neg (by omega)]
/-- when a name is awaited and no letter stands there -/
theorem PR_noN {b : Int → Int} {T a : Int} {n : Int} {ns nl us ul : Int → Int} (h : a ≤ T) (hb : ∀ k : Int, T ≤ k → b k = 0) (h1 : a < T → ¬ (b a = 32 ∨ b a = 10)) (h2 : ¬ isL (b a)) : PR b T a true n ns nl us ul = (1, a, n, ns, nl, us, ul) := by
  by_cases e : a < T
  · by_cases s : signC (b a) = 0
    · exact PR_bad e hb (h1 e) h2 s
    · have q := rnG_run (a := a) hb
      have q1 : 0 < rnG b T a := by
        have := q.1
        by_cases z : rnG b T a = 0
        · have := q.2.2; rw [z, Int.add_zero] at this; exact absurd s this
        · omega
      rw [PR_sgn e hb q q1, if_pos rfl]
  · rw [PR_end (by omega), if_pos (Or.inl rfl), show T = a by omega]
/-- when a numeral is awaited and no sign stands there -/
theorem PR_noG {b : Int → Int} {T a : Int} {n : Int} {ns nl us ul : Int → Int} (h : a < T) (hb : ∀ k : Int, T ≤ k → b k = 0) (h1 : ¬ (b a = 32 ∨ b a = 10)) (h2 : signC (b a) = 0) : PR b T a false n ns nl us ul = (1, a, n, ns, nl, us, ul) := by
  by_cases s : isL (b a)
  · have q := rnL_run (a := a) hb
    have q1 : 0 < rnL b T a := by
      have := q.1
      by_cases z : rnL b T a = 0
      · have := q.2.2; rw [z, Int.add_zero] at this; exact absurd s this
      · omega
    rw [PR_wrd h hb q q1, if_pos (Or.inl rfl)]
  · exact PR_bad h hb h1 s h2
