/-! ===== the law's rows ===== -/
theorem mdI_ge {h h1 : sH} {m : Nat} {g : Int → Int → Int → Int} {n : Int → Int → Int} {rg sg : Int → Int → Int} {rn sn : Int → Int} (hI : mdI h m g n rg rn sg sn) (e : ∀ a : Nat, m ≤ a → h1 a = h a) : mdI h1 m g n rg rn sg sn := by
  unfold mdI lsR nmR nuR hbR rsR at hI ⊢
  rw [e m (by omega), e (m + 2) (by omega), e (m + 4) (by omega), e (m + 5) (by omega), e (m + 6) (by omega), e (m + 7) (by omega), e (m + 8) (by omega), e (m + 9) (by omega), e (m + 10) (by omega), e (m + 11) (by omega), e (m + 12) (by omega), e (m + 13) (by omega), e (m + 14) (by omega), e (m + 15) (by omega), e (m + 16) (by omega), e (m + 17) (by omega), e (m + 18) (by omega)]
  exact hI
theorem and31 (v : Int32) : ∃ z : Int, (0 ≤ z ∧ z ≤ 31) ∧ v &&& iI 31 = iI z := by
  refine ⟨(v &&& iI 31).toInt, ?_, iI_of _⟩
  have h1 : (v &&& iI 31).toBitVec.toNat ≤ 31 := by
    rw [Int32.toBitVec_and, BitVec.toNat_and]
    exact Nat.le_trans Nat.and_le_right (by decide)
  have h2 : (v &&& iI 31).toInt = (v &&& iI 31).toBitVec.toInt := rfl
  rw [h2, BitVec.toInt_eq_toNat_of_lt (by omega)]
  omega
theorem same_of {h : sH} {x m : Nat} {g : Int → Int → Int → Int} {n : Int → Int → Int} {u : Int → Int → Int → Int} {un : Int → Int → Int} {rg sg : Int → Int → Int} {rn sn : Int → Int} {l1 w : Int} (hr : relS h x m g n u un rg rn sg sn) (o : okO h x l1 w) : ofV h x n u un l1 w = (if w = 0 then h (m + 4) l1 else if w = 1 then h (m + 5) l1 else if w < 20 then vS (fun j => h (m + 7) (9 * (10 * l1 + (w - 10)) + j)) (h (m + 8) (10 * l1 + (w - 10))).toNat else n l1 (w - 20)) := by
  obtain ⟨o0, o1, o2⟩ := o
  obtain ⟨q1, q2, q3, q4, q5⟩ := hr.2.2.2.2.1 l1 o0 o1
  unfold ofV
  by_cases e0 : w = 0
  · rw [if_pos e0, if_pos e0]; exact q1
  · rw [if_neg e0, if_neg e0]
    by_cases e1 : w = 1
    · rw [if_pos e1, if_pos e1]; exact q2
    · rw [if_neg e1, if_neg e1]
      by_cases e2 : w < 20
      · rw [if_pos e2, if_pos e2]
        obtain ⟨p1, p2⟩ := q5 (w - 10) (by omega) (by omega)
        have u0 := (q3.2.2.2 (w - 10) (by omega) (by omega)).1.2.1.1
        rw [p1]
        exact vS_congr _ (fun j j0 j1 => (p2 j j0 (by omega)).symm)
      · rw [if_neg e2, if_neg e2]
theorem okO_m {h : sH} {x m : Nat} {g : Int → Int → Int → Int} {n : Int → Int → Int} {u : Int → Int → Int → Int} {un : Int → Int → Int} {rg sg : Int → Int → Int} {rn sn : Int → Int} {l1 w : Int} (hr : relS h x m g n u un rg rn sg sn) : okO h x l1 w ↔ (0 ≤ l1 ∧ l1 < h m 5 ∧ ((0 ≤ w ∧ w ≤ 1) ∨ (10 ≤ w ∧ w < 9 + h (m + 5) l1) ∨ (20 ≤ w ∧ w < 20 + h (m + 5) l1))) := by
  have e := hr.2.1
  unfold okO
  constructor
  · rintro ⟨o0, o1, o2⟩
    rw [(hr.2.2.2.2.1 l1 o0 o1).2.1] at o2
    exact ⟨o0, by rw [← e]; exact o1, o2⟩
  · rintro ⟨o0, o1, o2⟩
    rw [← e] at o1
    refine ⟨o0, o1, ?_⟩
    rw [(hr.2.2.2.2.1 l1 o0 o1).2.1]
    exact o2
/-- a cell behind the model changed -/
theorem rel_o {h h2 : sH} {x m : Nat} {g : Int → Int → Int → Int} {n : Int → Int → Int} {u : Int → Int → Int → Int} {un : Int → Int → Int} {rg sg : Int → Int → Int} {rn sn : Int → Int} (hr : relS h x m g n u un rg rn sg sn) (hm : x + 325 ≤ m) (e : ∀ a : Nat, a < m + 29 → h2 a = h a) : relS h2 x m g n u un rg rn sg sn :=
  rel_fr hr (fun a _ a1 _ => e a (by omega)) (fun a a0 a1 _ => e a (by omega)) (fun k _ => by rw [e m (by omega)])
/-- the law's context -/
def LwC (X : CX) (b L : Nat) (xv : Nat → Int32) (s1 s2 : Nat) : Prop := Ok X cL_law RL 7 10 378 601024 7293034 ∧ (va_X b L xv (xs X) (xs X).heap ∧ b < (xs X).heap.size ∧ xB X = (xs X).heap.size) ∧ EX (xB X) s1 s2 (xs X) ∧ (xl X).stackTraces = false ∧ L ≤ 3072
section RL2
variable {X : CX} {k n pc : Nat} {lv : List (Option Value)} {st : List Value} {sz : Nat} {S : sS} {r : sR} {h : sH} {cc : ByteArray} {own : String} {nL fr lo mc ms : Nat} {b L : Nat} {xv : Nat → Int32} {s1 s2 : Nat}
theorem r_icmp_same (q : Ok X cc own nL fr lo mc ms) {v : Int32} {off : Int} (tgt : Nat) (hd : decode cc pc = .ok (.if_icmp .eq off, 3)) (ht : (pc : Int) + off = (tgt : Int)) (kk : G X k n tgt lv st sz S r h) : G X k n pc lv (.int v :: .int v :: st) sz S r h := fun ls H locs a b c => lv_icmp_eq q.exec q.byt hd ht (fun _ => kk ls H locs a b c) (fun e => absurd rfl e)
/-- script[i + j] -/
theorem r_arg (w : LwC X b L xv s1 s2) {i j : Int} {l1 l2 l3 l5 l6 : Option Value} (i0 : 0 ≤ i) (j0 : 0 ≤ j) (hij : i + j < L) (d0 : decode cL_law pc = .ok (.aload_n 0, 1)) (d1 : decode cL_law (pc + 1) = .ok (.iload 4, 2)) (d3 : decode cL_law (pc + 3) = .ok (.iconst j, 1)) (d4 : decode cL_law (pc + 4) = .ok (.iadd, 1)) (d5 : decode cL_law (pc + 5) = .ok (.iaload, 1))
    (kk : G X k n (pc + 6) [some (.ref b), l1, l2, l3, some (.int (iI i)), l5, l6] (.int (iI (xv (i + j).toNat).toInt) :: st) sz S r h) : G X k n pc [some (.ref b), l1, l2, l3, some (.int (iI i)), l5, l6] st sz S r h := by
  obtain ⟨q, ⟨hX, hb, hB⟩, -, -, hL⟩ := w
  refine r_aload_0 q d0 ?_
  refine r_iload_4 q d1 ?_
  refine r_iconst q d3 ?_
  refine r_iadd q d4 ?_
  intro ls H locs a1 b1 c1
  refine va_sld q.exec q.byt hX hb (by rw [hB]; omega) c1 (iI_vin (by omega) hij (by omega)) d5 ?_
  rw [iI_clamp (by omega) (by omega), iI_of (xv (i + j).toNat)]
  exact kk ls H locs a1 b1 c1
theorem r_arg0 (w : LwC X b L xv s1 s2) {i : Int} {l1 l2 l3 l5 l6 : Option Value} (i0 : 0 ≤ i) (hij : i < L) (d0 : decode cL_law pc = .ok (.aload_n 0, 1)) (d1 : decode cL_law (pc + 1) = .ok (.iload 4, 2)) (d3 : decode cL_law (pc + 3) = .ok (.iaload, 1))
    (kk : G X k n (pc + 4) [some (.ref b), l1, l2, l3, some (.int (iI i)), l5, l6] (.int (iI (xv i.toNat).toInt) :: st) sz S r h) : G X k n pc [some (.ref b), l1, l2, l3, some (.int (iI i)), l5, l6] st sz S r h := by
  obtain ⟨q, ⟨hX, hb, hB⟩, -, -, hL⟩ := w
  refine r_aload_0 q d0 ?_
  refine r_iload_4 q d1 ?_
  intro ls H locs a1 b1 c1
  refine va_sld q.exec q.byt hX hb (by rw [hB]; omega) c1 (iI_vin (by omega) hij (by omega)) d3 ?_
  rw [iI_clamp (by omega) (by omega), iI_of (xv i.toNat)]
  exact kk ls H locs a1 b1 c1
theorem r_slen (w : LwC X b L xv s1 s2) (d : decode cL_law pc = .ok (.arraylength, 1)) (kk : G X k n (pc + 1) lv (.int (iI (L : Int)) :: st) sz S r h) : G X k n pc lv (.ref b :: st) sz S r h := by
  obtain ⟨q, ⟨hX, hb, hB⟩, -, -, hL⟩ := w
  intro ls H locs a1 b1 c1
  exact va_slen q.exec q.byt hX hb (by rw [hB]; omega) c1 d (kk ls H locs a1 b1 c1)
end RL2
