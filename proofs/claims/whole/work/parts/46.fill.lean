theorem c_X2_addMoved {l : Launch} {D : va_G} {aC : Nat → ClassId} {B t sz : Nat} {S : sS} {r : sR} {h : sH} {y R s : Nat} (hy : LX2 S r y) (hR : S R = some (20, 601)) (hs : LX0 S r s) (p0 : 0 ≤ h s 1) (p1 : h s 1 ≤ 600) (w0 : 0 ≤ h s 2) (w1 : h s 2 ≤ 600) : CtV l yX2_addMoved cX2_addMoved 4 none 1 21 [.ref y, .ref R, .ref s] D aC B t sz S r h (fun h1 => (∀ a : Nat, a ≠ R → h1 a = h a) ∧ ∀ x : Int, 0 ≤ x → x < 601 → h1 R x = if (if h s 1 > x then h s 1 - x else x - h s 1) = h s 2 then h R x else h R x + h y 5) := by
  unfold CtV
  refine Ct.of (lv := [some (.ref y), some (.ref R), some (.ref s), none]) (by decide +kernel) rfl (Nat.le_of_ble_eq_true rfl) (fun X hl q rt hnm => ?_)
  have ny : y ≠ R := sNe hy.o hR (by decide)
  have ns : s ≠ R := sNe hs.o hR (by decide)
  have lp : ∀ (d j : Nat), j + d = 601 → ∀ h2 : sH, (∀ a : Nat, a ≠ R → h2 a = h a) → (∀ x : Int, 0 ≤ x → x < j → h2 R x = if (if h s 1 > x then h s 1 - x else x - h s 1) = h s 2 then h R x else h R x + h y 5) → (∀ x : Int, j ≤ x → h2 R x = h R x) → G X 0 0 2 [some (.ref y), some (.ref R), some (.ref s), some (.int (iI j))] [] sz S r h2 := by
    intro d
    induction d with
    | zero =>
      intro j hj h2 f1 f2 f3
      have ej : j = 601 := by omega
      subst ej
      refine r_iload_3 (pc := 2) q dX2_addMoved_2 ?_
      refine r_aload_1 (pc := 3) q dX2_addMoved_3 ?_
      refine r_alen20 (pc := 4) q hR dX2_addMoved_4 ?_
      refine r_icmp_ge (pc := 5) q 40 dX2_addMoved_5 (by decide) ⟨by omega, by omega⟩ ⟨by omega, by omega⟩ (fun c5 => ?_) (fun c5 => ?_)
      · refine r_return (pc := 40) q rt dX2_addMoved_40 ?_
        exact ⟨f1, f2⟩
      exact absurd (by omega) c5
    | succ d ih =>
      intro j hj h2 f1 f2 f3
      have s1 := f1 s ns
      have s2 := f1 y ny
      have s3 := f3 j (by omega)
      have ab : (if 0 ≤ (j : Int) - h s 1 then (j : Int) - h s 1 else -((j : Int) - h s 1)) = (if h s 1 > (j : Int) then h s 1 - j else j - h s 1) := by
        by_cases e : h s 1 > (j : Int)
        · rw [if_pos e, if_neg (by omega)]; omega
        · rw [if_neg e, if_pos (by omega)]
      have abb : 0 ≤ (if h s 1 > (j : Int) then h s 1 - j else j - h s 1) ∧ (if h s 1 > (j : Int) then h s 1 - j else j - h s 1) ≤ 600 := by
        split <;> omega
      obtain ⟨A, hA⟩ : ∃ A, (if h s 1 > (j : Int) then h s 1 - (j : Int) else j - h s 1) = A := ⟨_, rfl⟩
      rw [hA] at ab abb
      refine r_iload_3 (pc := 2) q dX2_addMoved_2 ?_
      refine r_aload_1 (pc := 3) q dX2_addMoved_3 ?_
      refine r_alen20 (pc := 4) q hR dX2_addMoved_4 ?_
      refine r_icmp_ge (pc := 5) q 40 dX2_addMoved_5 (by decide) ⟨by omega, by omega⟩ ⟨by omega, by omega⟩ (fun c5 => ?_) (fun c5 => ?_)
      · exact absurd c5 (by omega)
      refine r_iload_3 (pc := 8) q dX2_addMoved_8 ?_
      refine r_aload_2 (pc := 9) q dX2_addMoved_9 ?_
      refine r_geti (pc := 10) q fX2_31 (kz := 1) rfl (by decide) rfl hs.o dX2_addMoved_10 ?_
      rw [s1]
      refine r_isub (pc := 13) q dX2_addMoved_13 ?_
      refine r_abs (pc := 14) q mX2_64 ⟨by omega, by omega⟩ ⟨Nat.le_of_ble_eq_true rfl, Nat.le_of_ble_eq_true rfl, Nat.le_of_ble_eq_true rfl, Nat.le_of_ble_eq_true rfl⟩ rfl dX2_addMoved_14 ?_
      rw [ab]
      refine r_aload_2 (pc := 17) q dX2_addMoved_17 ?_
      refine r_geti (pc := 18) q fX2_70 (kz := 2) rfl (by decide) rfl hs.o dX2_addMoved_18 ?_
      rw [s1]
      refine r_icmp_eq (pc := 21) q 34 dX2_addMoved_21 (by decide) ⟨by omega, by omega⟩ ⟨by omega, by omega⟩ (fun c21 => ?_) (fun c21 => ?_)
      · refine r_iinc_3 (pc := 34) q dX2_addMoved_34 rfl ?_
        refine r_goto (pc := 37) (tgt := 2) q dX2_addMoved_37 (by decide) ?_
        refine ih (j + 1) (by omega) h2 f1 (fun x x0 x1 => ?_) (fun x x0 => f3 x (by omega))
        by_cases ex : x = j
        · rw [ex, hA, if_pos c21]; exact s3
        · exact f2 x x0 (by omega)
      refine r_aload_1 (pc := 24) q dX2_addMoved_24 ?_
      refine r_iload_3 (pc := 25) q dX2_addMoved_25 ?_
      refine r_dup2 (pc := 26) q dX2_addMoved_26 rfl rfl ?_
      refine r_iald (pc := 27) q hR (by omega) (by omega) dX2_addMoved_27 ?_
      rw [s3]
      refine r_aload_0 (pc := 28) q dX2_addMoved_28 ?_
      refine r_geti (pc := 29) q fX2_24 (kz := 5) rfl (by decide) rfl hy.o dX2_addMoved_29 ?_
      rw [s2]
      refine r_iadd (pc := 32) q dX2_addMoved_32 ?_
      refine r_iast (pc := 33) q hR (by omega) (by omega) dX2_addMoved_33 (fun h3 eh3 => ?_)
      refine r_iinc_3 (pc := 34) q dX2_addMoved_34 rfl ?_
      refine r_goto (pc := 37) (tgt := 2) q dX2_addMoved_37 (by decide) ?_
      refine ih (j + 1) (by omega) h3 (fun a a0 => by rw [eh3, up_n _ _ a0]; exact f1 a a0) (fun x x0 x1 => ?_) (fun x x0 => by rw [eh3, up_s, up_n _ _ (by omega)]; exact f3 x (by omega))
      rw [eh3, up_s]
      by_cases ex : x = j
      · rw [ex, up_s, hA, if_neg c21]
      · rw [up_n _ _ ex]; exact f2 x x0 (by omega)
  refine r_iconst (pc := 0) q dX2_addMoved_0 ?_
  refine r_istore_3 (pc := 1) q dX2_addMoved_1 rfl ?_
  exact lp 601 0 (by omega) h (fun _ _ => rfl) (fun x x0 x1 => by omega) (fun _ _ => rfl)
/-- what a station of name g n costs at p, by the land at y and the sounds so -/
noncomputable def owC (h : sH) (y : Nat) (so : Int → Int) (rg : Int → Int → Int) (rn : Int → Int) (sg : Int → Int → Int) (sn : Int → Int) (g : Int → Int) (n day p : Int) : Int :=
  owS (owR (h y 4) (fun k => h (y + 3 + 6 * k.toNat) 1) (fun k => h (y + 3 + 6 * k.toNat) 3) (fun k => dst so g n (rg k) (rn k)) day p (h y 2).toNat) (h y 5) (fun k => h (y + 6 + 6 * k.toNat) 1) (fun k => h (y + 6 + 6 * k.toNat) 2) (fun k => h (y + 6 + 6 * k.toNat) 3) (fun k => eqN (sg k) g (sn k) n) day p (h y 3).toNat
theorem c_X2_fillCosts {l : Launch} {D : va_G} {aC : Nat → ClassId} {B t sz : Nat} {S : sS} {r : sR} {h : sH} {y R p q2 : Nat} {day n : Int} {g : Int → Int} {rg sg : Int → Int → Int} {rn sn : Int → Int} (hy : LX2 S r y) (hR : S R = some (20, 601)) (hp : LX3 S r p) (hq : LX9 S r q2) (hL : lnC h y rg rn sg sn) (hg : nmC h p g n) (hso : soR (h (q2 + 1))) (d0 : 0 ≤ day) (d1 : day ≤ 100000) : CtV l yX2_fillCosts cX2_fillCosts 7 none 3 71 [.ref y, .ref R, .ref p, .int (iI day), .ref q2] D aC B t sz S r h (fun h1 => (∀ a : Nat, a ≠ R → a ≠ q2 + 2 → h1 a = h a) ∧ ∀ x : Int, 0 ≤ x → x < 601 → h1 R x = owC h y (h (q2 + 1)) rg rn sg sn g n day x) := by
  unfold CtV
  refine Ct.of (lv := [some (.ref y), some (.ref R), some (.ref p), some (.int (iI day)), some (.ref q2), none, none]) (by decide +kernel) rfl (Nat.le_of_ble_eq_true rfl) (fun X hl q rt hnm => ?_)
  have ny : y ≠ R := sNe hy.o hR (by decide)
  have ny2 : y ≠ q2 + 2 := sNe hy.o hq.s_row (by decide)
  have np : p ≠ R := sNe hp.o hR (by decide)
  have np2 : p ≠ q2 + 2 := sNe hp.o hq.s_row (by decide)
  have nl : p + 1 ≠ R := sNe hp.s_letters hR (by decide)
  have nl2 : p + 1 ≠ q2 + 2 := sNe hp.s_letters hq.s_row (by decide)
  have ng : q2 + 1 ≠ R := sNe hq.s_groups hR (by decide)
  have nR : q2 + 2 ≠ R := sNe hq.s_row hR (by decide)
  obtain ⟨⟨rc0, rc12⟩, hr, ⟨sc0, sc12⟩, hst, ⟨lo0, lo50⟩, ⟨mo0, mo50⟩⟩ := id hL
  obtain ⟨so, hsoe⟩ : ∃ so, h (q2 + 1) = so := ⟨_, rfl⟩
  obtain ⟨W, hW⟩ : ∃ W : Int → Nat → Int, W = fun x j => owR (h y 4) (fun k => h (y + 3 + 6 * k.toNat) 1) (fun k => h (y + 3 + 6 * k.toNat) 3) (fun k => dst so g n (rg k) (rn k)) day x j := ⟨_, rfl⟩
  obtain ⟨Q, hQ⟩ : ∃ Q : Int → Nat → Int, Q = fun x j => owS (W x (h y 2).toNat) (h y 5) (fun k => h (y + 6 + 6 * k.toNat) 1) (fun k => h (y + 6 + 6 * k.toNat) 2) (fun k => h (y + 6 + 6 * k.toNat) 3) (fun k => eqN (sg k) g (sn k) n) day x j := ⟨_, rfl⟩
  have frN : ∀ h2 : sH, (∀ a : Nat, a ≠ R → a ≠ q2 + 2 → h2 a = h a) → nmC h2 p g n := fun h2 f => nmC_fr hg (f p np np2) (f _ nl nl2)
  have L3 : ∀ (d j : Nat), (j : Int) + d = h y 3 → ∀ (h2 : sH) (o6 : Option Value), (∀ a : Nat, a ≠ R → a ≠ q2 + 2 → h2 a = h a) → (∀ x : Int, 0 ≤ x → x < 601 → h2 R x = Q x j) → G X 0 0 99 [some (.ref y), some (.ref R), some (.ref p), some (.int (iI day)), some (.ref q2), some (.int (iI j)), o6] [] sz S r h2 := by
    intro d
    induction d with
    | zero =>
      intro j hj h2 o6 fr hx
      have s1 := fr y ny ny2
      refine r_iload_5 (pc := 99) q dX2_fillCosts_99 ?_
      refine r_aload_0 (pc := 101) q dX2_fillCosts_101 ?_
      refine r_geti (pc := 102) q fX2_38 (kz := 3) rfl (by decide) rfl hy.o dX2_fillCosts_102 ?_
      rw [s1]
      refine r_icmp_ge (pc := 105) q 157 dX2_fillCosts_105 (by decide) ⟨by omega, by omega⟩ ⟨by omega, by omega⟩ (fun c105 => ?_) (fun c105 => ?_)
      · refine r_return (pc := 157) q rt dX2_fillCosts_157 ?_
        refine ⟨fr, fun x x0 x1 => ?_⟩
        rw [hx x x0 x1, hQ, hW]
        unfold owC
        rw [hsoe, show (h y 3).toNat = j by omega]
      exact absurd (by omega) c105
    | succ d ih =>
      intro j hj h2 o6 fr hx
      have s1 := fr y ny ny2
      have hF := hy.n_stones (j := j) (by omega) (by omega)
      have hN := hF.n_name
      have f0 := fr _ (sNe hF.o hR (by decide)) (sNe hF.o hq.s_row (by decide))
      have f1 := fr _ (sNe hN.o hR (by decide)) (sNe hN.o hq.s_row (by decide))
      have f2 := fr _ (sNe hN.s_letters hR (by decide)) (sNe hN.s_letters hq.s_row (by decide))
      obtain ⟨⟨a0, a1⟩, an, ⟨b0, b1⟩, d2, d3⟩ := hst j (by omega) (by omega)
      have an2 := nmC_fr an f1 f2
      have stp : ∀ x, Q x (j + 1) = cif (eqN (sg j) g (sn j) n ∧ h (y + 6 + 6 * (j : Int).toNat) 3 ≤ day ∧ ¬ (if h (y + 6 + 6 * (j : Int).toNat) 1 > x then h (y + 6 + 6 * (j : Int).toNat) 1 - x else x - h (y + 6 + 6 * (j : Int).toNat) 1) = h (y + 6 + 6 * (j : Int).toNat) 2) (Q x j + h y 5) (Q x j) := fun x => by rw [hQ]; rfl
      have nx : ¬ (eqN (sg j) g (sn j) n ∧ h (y + 6 + 6 * (j : Int).toNat) 3 ≤ day) → G X 0 0 151 [some (.ref y), some (.ref R), some (.ref p), some (.int (iI day)), some (.ref q2), some (.int (iI j)), o6] [] sz S r h2 := by
        intro hn
        refine r_iinc_5 (pc := 151) q dX2_fillCosts_151 rfl ?_
        refine r_goto (pc := 154) (tgt := 99) q dX2_fillCosts_154 (by decide) ?_
        refine ih (j + 1) (by omega) h2 _ fr (fun x x0 x1 => ?_)
        rw [stp, cif_f (fun z => hn ⟨z.1, z.2.1⟩)]; exact hx x x0 x1
      refine r_iload_5 (pc := 99) q dX2_fillCosts_99 ?_
      refine r_aload_0 (pc := 101) q dX2_fillCosts_101 ?_
      refine r_geti (pc := 102) q fX2_38 (kz := 3) rfl (by decide) rfl hy.o dX2_fillCosts_102 ?_
      rw [s1]
      refine r_icmp_ge (pc := 105) q 157 dX2_fillCosts_105 (by decide) ⟨by omega, by omega⟩ ⟨by omega, by omega⟩ (fun c105 => ?_) (fun c105 => ?_)
      · exact absurd c105 (by omega)
      refine r_aload_0 (pc := 108) q dX2_fillCosts_108 ?_
      refine r_getr (pc := 109) q fX2_17 (kz := 1) rfl (by decide) rfl hy.o hy.r_stones dX2_fillCosts_109 ?_
      refine r_iload_5 (pc := 112) q dX2_fillCosts_112 ?_
      refine r_aald27 (pc := 114) q hy.s_stones (by omega) (by omega) (hy.e_stones (by omega) (by omega)) dX2_fillCosts_114 ?_
      refine r_geti (pc := 115) q fX2_41 (kz := 3) rfl (by decide) rfl ((hy.n_stones (by omega) (by omega))).o dX2_fillCosts_115 ?_
      rw [f0]
      refine r_iload_3 (pc := 118) q dX2_fillCosts_118 ?_
      refine r_icmp_gt (pc := 119) q 151 dX2_fillCosts_119 (by decide) ⟨by omega, by omega⟩ ⟨by omega, by omega⟩ (fun c119 => ?_) (fun c119 => ?_)
      · exact nx (fun z => by omega)
      refine r_aload_0 (pc := 122) q dX2_fillCosts_122 ?_
      refine r_getr (pc := 123) q fX2_17 (kz := 1) rfl (by decide) rfl hy.o hy.r_stones dX2_fillCosts_123 ?_
      refine r_iload_5 (pc := 126) q dX2_fillCosts_126 ?_
      refine r_aald27 (pc := 128) q hy.s_stones (by omega) (by omega) (hy.e_stones (by omega) (by omega)) dX2_fillCosts_128 ?_
      refine r_getr (pc := 129) q fX2_44 (kz := 0) rfl (by decide) rfl ((hy.n_stones (by omega) (by omega))).o (hy.n_stones (by omega) (by omega)).r_name dX2_fillCosts_129 ?_
      refine r_aload_2 (pc := 132) q dX2_fillCosts_132 ?_
      refine r_cI1 (pc := 133) q (c_X3_same hN hp an2 (frN h2 fr)) mX2_54 ((hy.n_stones (by omega) (by omega)).n_name).o (by decide) (Nat.le_of_ble_eq_true rfl) rfl dX2_fillCosts_133 (fun z5 h5 hz5 => ?_)
      obtain ⟨hz5, rfl⟩ := hz5
      refine r_if_eq (pc := 136) q 151 dX2_fillCosts_136 (by decide) ⟨by omega, by omega⟩ (fun c136 => ?_) (fun c136 => ?_)
      · refine nx (fun z => ?_)
        rcases hz5 with ⟨y1, -⟩ | ⟨-, y1⟩
        · omega
        · exact y1 z.1
      refine r_aload_0 (pc := 139) q dX2_fillCosts_139 ?_
      refine r_aload_1 (pc := 140) q dX2_fillCosts_140 ?_
      refine r_aload_0 (pc := 141) q dX2_fillCosts_141 ?_
      refine r_getr (pc := 142) q fX2_17 (kz := 1) rfl (by decide) rfl hy.o hy.r_stones dX2_fillCosts_142 ?_
      refine r_iload_5 (pc := 145) q dX2_fillCosts_145 ?_
      refine r_aald27 (pc := 147) q hy.s_stones (by omega) (by omega) (hy.e_stones (by omega) (by omega)) dX2_fillCosts_147 ?_
      refine r_cV2 (pc := 148) q (c_X2_addMoved hy hR hF (by rw [f0]; exact a0) (by rw [f0]; exact a1) (by rw [f0]; exact b0) (by rw [f0]; exact b1)) mX2_60 hy.o (by decide) (Nat.le_of_ble_eq_true rfl) rfl dX2_fillCosts_148 (fun h6 hz6 => ?_)
      obtain ⟨g1, g2⟩ := hz6
      have eqn : eqN (sg j) g (sn j) n := by
        rcases hz5 with ⟨-, y1⟩ | ⟨y1, -⟩
        · exact y1
        · exact absurd y1 c136
      refine r_iinc_5 (pc := 151) q dX2_fillCosts_151 rfl ?_
      refine r_goto (pc := 154) (tgt := 99) q dX2_fillCosts_154 (by decide) ?_
      refine ih (j + 1) (by omega) h6 _ (fun a a0 a1 => by rw [g1 a a0]; exact fr a a0 a1) (fun x x0 x1 => ?_)
      rw [g2 x x0 x1, f0, s1, hx x x0 x1, stp]
      by_cases z : (if h (y + 6 + 6 * (j : Int).toNat) 1 > x then h (y + 6 + 6 * (j : Int).toNat) 1 - x else x - h (y + 6 + 6 * (j : Int).toNat) 1) = h (y + 6 + 6 * (j : Int).toNat) 2
      · rw [if_pos z, cif_f (fun w => w.2.2 z)]
      · rw [if_neg z, cif_t ⟨eqn, by omega, z⟩]
  have L2 : ∀ (d j : Nat), (j : Int) + d = h y 2 → ∀ (h2 : sH) (o6 : Option Value), (∀ a : Nat, a ≠ R → a ≠ q2 + 2 → h2 a = h a) → (∀ x : Int, 0 ≤ x → x < 601 → h2 R x = W x j) → G X 0 0 27 [some (.ref y), some (.ref R), some (.ref p), some (.int (iI day)), some (.ref q2), some (.int (iI j)), o6] [] sz S r h2 := by
    intro d
    induction d with
    | zero =>
      intro j hj h2 o6 fr hx
      have s1 := fr y ny ny2
      refine r_iload_5 (pc := 27) q dX2_fillCosts_27 ?_
      refine r_aload_0 (pc := 29) q dX2_fillCosts_29 ?_
      refine r_geti (pc := 30) q fX2_28 (kz := 2) rfl (by decide) rfl hy.o dX2_fillCosts_30 ?_
      rw [s1]
      refine r_icmp_ge (pc := 33) q 96 dX2_fillCosts_33 (by decide) ⟨by omega, by omega⟩ ⟨by omega, by omega⟩ (fun c33 => ?_) (fun c33 => ?_)
      · refine r_iconst (pc := 96) q dX2_fillCosts_96 ?_
        refine r_istore_5 (pc := 97) q dX2_fillCosts_97 rfl ?_
        refine L3 (h y 3).toNat 0 (by omega) h2 _ fr (fun x x0 x1 => ?_)
        rw [hx x x0 x1, hQ, show (h y 2).toNat = j by omega]; rfl
      exact absurd (by omega) c33
    | succ d ih =>
      intro j hj h2 o6 fr hx
      have s1 := fr y ny ny2
      have hF := hy.n_ruins (j := j) (by omega) (by omega)
      have hN := hF.n_name
      have f0 := fr _ (sNe hF.o hR (by decide)) (sNe hF.o hq.s_row (by decide))
      have f1 := fr _ (sNe hN.o hR (by decide)) (sNe hN.o hq.s_row (by decide))
      have f2 := fr _ (sNe hN.s_letters hR (by decide)) (sNe hN.s_letters hq.s_row (by decide))
      obtain ⟨⟨a0, a1⟩, an, d2, d3⟩ := hr j (by omega) (by omega)
      have an2 := nmC_fr an f1 f2
      have hso2 : soR (h2 (q2 + 1)) := by rw [fr _ ng (by omega)]; exact hso
      have stp : ∀ x, W x (j + 1) = if h (y + 3 + 6 * (j : Int).toNat) 1 = x ∧ h (y + 3 + 6 * (j : Int).toNat) 3 ≤ day then dst so g n (rg j) (rn j) else W x j := fun x => by rw [hW]; rfl
      refine r_iload_5 (pc := 27) q dX2_fillCosts_27 ?_
      refine r_aload_0 (pc := 29) q dX2_fillCosts_29 ?_
      refine r_geti (pc := 30) q fX2_28 (kz := 2) rfl (by decide) rfl hy.o dX2_fillCosts_30 ?_
      rw [s1]
      refine r_icmp_ge (pc := 33) q 96 dX2_fillCosts_33 (by decide) ⟨by omega, by omega⟩ ⟨by omega, by omega⟩ (fun c33 => ?_) (fun c33 => ?_)
      · exact absurd c33 (by omega)
      refine r_aload_0 (pc := 36) q dX2_fillCosts_36 ?_
      refine r_getr (pc := 37) q fX2_11 (kz := 0) rfl (by decide) rfl hy.o hy.r_ruins dX2_fillCosts_37 ?_
      refine r_iload_5 (pc := 40) q dX2_fillCosts_40 ?_
      refine r_aald27 (pc := 42) q hy.s_ruins (by omega) (by omega) (hy.e_ruins (by omega) (by omega)) dX2_fillCosts_42 ?_
      refine r_astore_6 (pc := 43) q dX2_fillCosts_43 rfl ?_
      refine r_aload_6 (pc := 45) q dX2_fillCosts_45 ?_
      refine r_geti (pc := 47) q fX2_41 (kz := 3) rfl (by decide) rfl ((hy.n_ruins (by omega) (by omega))).o dX2_fillCosts_47 ?_
      rw [f0]
      refine r_iload_3 (pc := 50) q dX2_fillCosts_50 ?_
      refine r_icmp_gt (pc := 51) q 90 dX2_fillCosts_51 (by decide) ⟨by omega, by omega⟩ ⟨by omega, by omega⟩ (fun c51 => ?_) (fun c51 => ?_)
      · refine r_iinc_5 (pc := 90) q dX2_fillCosts_90 rfl ?_
        refine r_goto (pc := 93) (tgt := 27) q dX2_fillCosts_93 (by decide) ?_
        refine ih (j + 1) (by omega) h2 _ fr (fun x x0 x1 => ?_)
        rw [stp, if_neg (by omega)]; exact hx x x0 x1
      refine r_aload_6 (pc := 54) q dX2_fillCosts_54 ?_
      refine r_geti (pc := 56) q fX2_31 (kz := 1) rfl (by decide) rfl ((hy.n_ruins (by omega) (by omega))).o dX2_fillCosts_56 ?_
      rw [f0]
      refine r_if_lt (pc := 59) q 90 dX2_fillCosts_59 (by decide) ⟨by omega, by omega⟩ (fun c59 => ?_) (fun c59 => ?_)
      · exact absurd c59 (by omega)
      refine r_aload_6 (pc := 62) q dX2_fillCosts_62 ?_
      refine r_geti (pc := 64) q fX2_31 (kz := 1) rfl (by decide) rfl ((hy.n_ruins (by omega) (by omega))).o dX2_fillCosts_64 ?_
      rw [f0]
      refine r_aload_1 (pc := 67) q dX2_fillCosts_67 ?_
      refine r_alen20 (pc := 68) q hR dX2_fillCosts_68 ?_
      refine r_icmp_ge (pc := 69) q 90 dX2_fillCosts_69 (by decide) ⟨by omega, by omega⟩ ⟨by omega, by omega⟩ (fun c69 => ?_) (fun c69 => ?_)
      · exact absurd c69 (by omega)
      refine r_aload_1 (pc := 72) q dX2_fillCosts_72 ?_
      refine r_aload_6 (pc := 73) q dX2_fillCosts_73 ?_
      refine r_geti (pc := 75) q fX2_31 (kz := 1) rfl (by decide) rfl ((hy.n_ruins (by omega) (by omega))).o dX2_fillCosts_75 ?_
      rw [f0]
      refine r_aload_4 (pc := 78) q dX2_fillCosts_78 ?_
      refine r_aload_2 (pc := 80) q dX2_fillCosts_80 ?_
      refine r_aload_6 (pc := 81) q dX2_fillCosts_81 ?_
      refine r_getr (pc := 83) q fX2_44 (kz := 0) rfl (by decide) rfl ((hy.n_ruins (by omega) (by omega))).o (hy.n_ruins (by omega) (by omega)).r_name dX2_fillCosts_83 ?_
      refine r_cI2 (pc := 86) q (c_X9_distance hq hp hN hso2 (frN h2 fr) an2) mX2_48 hq.o (by decide) (Nat.le_of_ble_eq_true rfl) rfl dX2_fillCosts_86 (fun z5 h5 hz5 => ?_)
      obtain ⟨ez, g5⟩ := hz5
      rw [fr _ ng (by omega), hsoe] at ez
      refine r_iast (pc := 89) q hR (by omega) (by omega) dX2_fillCosts_89 (fun h6 eh6 => ?_)
      refine r_iinc_5 (pc := 90) q dX2_fillCosts_90 rfl ?_
      refine r_goto (pc := 93) (tgt := 27) q dX2_fillCosts_93 (by decide) ?_
      refine ih (j + 1) (by omega) h6 _ (fun a a0 a1 => by rw [eh6, up_n _ _ a0, g5 a a1]; exact fr a a0 a1) (fun x x0 x1 => ?_)
      rw [eh6, up_s, stp]
      by_cases ex : x = h (y + 3 + 6 * (j : Int).toNat) 1
      · rw [ex, up_s, if_pos ⟨rfl, by omega⟩]; exact ez
      · rw [up_n _ _ ex, if_neg (fun z => ex z.1.symm), g5 R (fun z => nR z.symm)]; exact hx x x0 x1
  have L1 : ∀ (d j : Nat), j + d = 601 → ∀ (h2 : sH), (∀ a : Nat, a ≠ R → h2 a = h a) → (∀ x : Int, 0 ≤ x → x < j → h2 R x = h y 4) → G X 0 0 3 [some (.ref y), some (.ref R), some (.ref p), some (.int (iI day)), some (.ref q2), some (.int (iI j)), none] [] sz S r h2 := by
    intro d
    induction d with
    | zero =>
      intro j hj h2 fr hx
      have ej : j = 601 := by omega
      subst ej
      refine r_iload_5 (pc := 3) q dX2_fillCosts_3 ?_
      refine r_aload_1 (pc := 5) q dX2_fillCosts_5 ?_
      refine r_alen20 (pc := 6) q hR dX2_fillCosts_6 ?_
      refine r_icmp_ge (pc := 7) q 24 dX2_fillCosts_7 (by decide) ⟨by omega, by omega⟩ ⟨by omega, by omega⟩ (fun c7 => ?_) (fun c7 => ?_)
      · refine r_iconst (pc := 24) q dX2_fillCosts_24 ?_
        refine r_istore_5 (pc := 25) q dX2_fillCosts_25 rfl ?_
        refine L2 (h y 2).toNat 0 (by omega) h2 _ (fun a a0 _ => fr a a0) (fun x x0 x1 => ?_)
        rw [hx x x0 x1, hW]; rfl
      exact absurd (by omega) c7
    | succ d ih =>
      intro j hj h2 fr hx
      have s1 := fr y ny
      refine r_iload_5 (pc := 3) q dX2_fillCosts_3 ?_
      refine r_aload_1 (pc := 5) q dX2_fillCosts_5 ?_
      refine r_alen20 (pc := 6) q hR dX2_fillCosts_6 ?_
      refine r_icmp_ge (pc := 7) q 24 dX2_fillCosts_7 (by decide) ⟨by omega, by omega⟩ ⟨by omega, by omega⟩ (fun c7 => ?_) (fun c7 => ?_)
      · exact absurd c7 (by omega)
      refine r_aload_1 (pc := 10) q dX2_fillCosts_10 ?_
      refine r_iload_5 (pc := 11) q dX2_fillCosts_11 ?_
      refine r_aload_0 (pc := 13) q dX2_fillCosts_13 ?_
      refine r_geti (pc := 14) q fX2_20 (kz := 4) rfl (by decide) rfl hy.o dX2_fillCosts_14 ?_
      rw [s1]
      refine r_iast (pc := 17) q hR (by omega) (by omega) dX2_fillCosts_17 (fun h3 eh3 => ?_)
      refine r_iinc_5 (pc := 18) q dX2_fillCosts_18 rfl ?_
      refine r_goto (pc := 21) (tgt := 3) q dX2_fillCosts_21 (by decide) ?_
      refine ih (j + 1) (by omega) h3 (fun a a0 => by rw [eh3, up_n _ _ a0]; exact fr a a0) (fun x x0 x1 => ?_)
      rw [eh3, up_s]
      by_cases ex : x = j
      · rw [ex, up_s]
      · rw [up_n _ _ ex]; exact hx x x0 (by omega)
  refine r_iconst (pc := 0) q dX2_fillCosts_0 ?_
  refine r_istore_5 (pc := 1) q dX2_fillCosts_1 rfl ?_
  exact L1 601 0 (by omega) h (fun _ _ => rfl) (fun x x0 x1 => by omega)
