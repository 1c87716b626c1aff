def frC (h h1 : sH) (x : Nat) : Prop := ∀ a : Nat, a ≠ x + 264 → a < x + 265 → (∀ l : Nat, l < 4 → a ≠ x + 10 + 44 * l) → h1 a = h a
theorem clI_frC {h h1 : sH} {x : Nat} {b : Int → Int} {T : Int} {g : Int → Int → Int → Int} {n : Int → Int → Int} {u : Int → Int → Int → Int} {un : Int → Int → Int} {rg sg : Int → Int → Int} {rn sn : Int → Int} (hI : clI h x b T g n u un rg rn sg sn) (f : frC h h1 x) : clI h1 x b T g n u un rg rn sg sn := by
  have fq : frQ h (fun a => if a < x + 265 then h1 a else h a) x := fun a a0 a1 a2 => by
    show (if a < x + 265 then h1 a else h a) = h a
    by_cases e : a < x + 265
    · rw [if_pos e]; exact f a a0 e a2
    · rw [if_neg e]
  have c := clI_frQ hI fq
  have e : ∀ a : Nat, a < x + 265 → (fun a => if a < x + 265 then h1 a else h a) a = h1 a := fun a z => if_pos z
  obtain ⟨ht, ⟨c0, c4⟩, hr, hL, hH, hs, dd⟩ := c
  have ex := e x (by omega)
  refine ⟨tpI_fr ht (e _ (by omega)).symm (e _ (by omega)).symm, by rw [← ex]; exact ⟨c0, c4⟩, fun l l0 l1 => ?_, lnC_fr hL (fun a a0 a1 => (e a (by omega)).symm), ?_, ?_, by rw [← ex]; exact dd⟩
  · rw [← ex] at l1
    obtain ⟨r1, r2, r3, r4⟩ := hr l l0 l1
    have ey := e (x + 7 + 44 * l.toNat) (by omega)
    rw [ey] at r1 r2 r3 r4
    exact ⟨r1, r2, fun i i0 i1 => ⟨nmC_fr (r3 i i0 i1).1 (e _ (by omega)).symm (e _ (by omega)).symm, (r3 i i0 i1).2⟩, fun i i0 i1 => ⟨nuC_fr (r4 i i0 i1).1 (e _ (by omega)).symm (e _ (by omega)).symm, (r4 i i0 i1).2⟩⟩
  · have e0 := e (x + 258) (by omega)
    have e1 := e (x + 258 + 1) (by omega)
    have e2 := e (x + 258 + 2) (by omega)
    have e3 := e (x + 258 + 3) (by omega)
    unfold hbC at hH ⊢
    rw [e0, e1, e2, e3] at hH; exact hH
  · rw [e (x + 263) (by omega)] at hs; exact hs
/-- what asking changes leaves the relation -/
theorem rel_fr {h h2 : sH} {x m : Nat} {g : Int → Int → Int → Int} {n : Int → Int → Int} {u : Int → Int → Int → Int} {un : Int → Int → Int} {rg sg : Int → Int → Int} {rn sn : Int → Int} (hr : relS h x m g n u un rg rn sg sn) (fc : frC h h2 x) (fm : ∀ a : Nat, m < a → a < m + 19 → a ≠ m + 3 → h2 a = h a) (f0 : ∀ k : Int, k ≠ 0 → h2 m k = h m k) : relS h2 x m g n u un rg rn sg sn := by
  obtain ⟨hI, e5, ep, e29, hre, hrr, hrs, ⟨e27, e28⟩, hrh, hso⟩ := hr
  have c2 := clI_frC hI fc
  have eb : bA h2 m = bA h m := bA_eq (fm (m + 1) (by omega) (by omega) (by omega)) (f0 2 (by decide))
  have ex := fc x (by omega) (by omega) (fun l _ => by omega)
  have el := fc (x + 183) (by omega) (by omega) (fun l _ => by omega)
  have lc := hI.2.2.2.1
  have l4 := hI.2.1.2
  refine ⟨by rw [eb, f0 2 (by decide)]; exact c2, by rw [ex, f0 5 (by decide)]; exact e5, by rw [ex, f0 12 (by decide)]; exact ep, by rw [ex, f0 29 (by decide)]; exact e29, fun l l0 l1 => ?_, ?_, ?_, by rw [el, f0 27 (by decide), f0 28 (by decide)]; exact ⟨e27, e28⟩, ?_, fun k k0 k1 => by rw [fc (x + 263) (by omega) (by omega) (fun l _ => by omega), fm (m + 2) (by omega) (by omega) (by omega)]; exact hso k k0 k1⟩
  · have cl := c2.2.2.1 l l0 l1
    rw [ex] at l1
    obtain ⟨q1, q2, q3, q4, q5⟩ := hre l l0 l1
    have ey := fc (x + 7 + 44 * l.toNat) (by omega) (by omega) (fun l _ => by omega)
    refine ⟨by rw [ey, fm (m + 4) (by omega) (by omega) (by omega)]; exact q1, by rw [ey, fm (m + 5) (by omega) (by omega) (by omega)]; exact q2, cl, fun i i0 i1 => ?_, fun i i0 i1 => ?_⟩
    · rw [ey] at i1; rw [fm (m + 6) (by omega) (by omega) (by omega)]; exact q4 i i0 i1
    · rw [ey] at i1; rw [fm (m + 8) (by omega) (by omega) (by omega), fm (m + 7) (by omega) (by omega) (by omega)]; exact q5 i i0 i1
  · have r12 := lc.1.2
    refine ⟨by rw [el, f0 14 (by decide)]; exact hrr.1, fun k k0 k1 => ?_⟩
    rw [el] at k1
    rw [fc (x + 183 + 3 + 6 * k.toNat) (by omega) (by omega) (fun l _ => by omega), fm (m + 9) (by omega) (by omega) (by omega), fm (m + 10) (by omega) (by omega) (by omega), fm (m + 11) (by omega) (by omega) (by omega)]
    exact hrr.2 k k0 k1
  · have r12 := lc.2.2.1.2
    refine ⟨by rw [el, f0 18 (by decide)]; exact hrs.1, fun k k0 k1 => ?_⟩
    rw [el] at k1
    rw [fc (x + 183 + 6 + 6 * k.toNat) (by omega) (by omega) (fun l _ => by omega), fm (m + 12) (by omega) (by omega) (by omega), fm (m + 13) (by omega) (by omega) (by omega), fm (m + 14) (by omega) (by omega) (by omega), fm (m + 15) (by omega) (by omega) (by omega)]
    exact hrs.2 k k0 k1
  · refine ⟨by rw [fc (x + 258) (by omega) (by omega) (fun l _ => by omega), f0 23 (by decide)]; exact hrh.1, fun k k0 k1 => ?_⟩
    rw [fc (x + 258) (by omega) (by omega) (fun l _ => by omega)] at k1
    rw [fc (x + 258 + 1) (by omega) (by omega) (fun l _ => by omega), fc (x + 258 + 2) (by omega) (by omega) (fun l _ => by omega), fc (x + 258 + 3) (by omega) (by omega) (fun l _ => by omega), fm (m + 16) (by omega) (by omega) (by omega), fm (m + 17) (by omega) (by omega) (by omega), fm (m + 18) (by omega) (by omega) (by omega)]
    exact hrh.2 k k0 k1
/-- .. the class asked first, the model after it -/
theorem rel_ask {h h1 h2 : sH} {x m : Nat} {g : Int → Int → Int → Int} {n : Int → Int → Int} {u : Int → Int → Int → Int} {un : Int → Int → Int} {rg sg : Int → Int → Int} {rn sn : Int → Int} (hm : x + 325 ≤ m) (hr : relS h x m g n u un rg rn sg sn) (fc : frQ h h1 x) : relS h1 x m g n u un rg rn sg sn ∧ (frM h1 h2 m → relS h2 x m g n u un rg rn sg sn) := by
  have r1 : relS h1 x m g n u un rg rn sg sn := rel_fr hr (fun a a0 a1 a2 => fc a a0 (Or.inl a1) a2) (fun a a0 a1 _ => fc a (by omega) (by omega) (fun l _ => by omega)) (fun k _ => by rw [fc m (by omega) (by omega) (fun l _ => by omega)])
  exact ⟨r1, fun f => rel_fr r1 (fun a a0 a1 a2 => f.1 a (by omega) (by omega) (by omega)) (fun a a0 a1 a2 => f.1 a (by omega) a2 (by omega)) (fun k k0 => by rw [f.2, up_n _ _ k0])⟩
