theorem sI_4 {v j k : Int} (e : k % 4 = j % 4) : sI v k = sI v j := by unfold sI; rw [e]
theorem c_X11_feed {l : Launch} {D : va_G} {aC : Nat → ClassId} {B t sz : Nat} {S : sS} {r : sR} {h : sH} {x : Nat} {a b c d e T : Int} (hx : LX11 S r x) (hT : h (x + 1) 1 = T) (t0 : 0 ≤ T) (t1 : T ≤ 200) : CtI l yX11_feed cX11_feed 6 (some .int) 1 22 [.ref x, .int (iI a), .int (iI b), .int (iI c), .int (iI d), .int (iI e)] D aC B t sz S r h (fun z h1 => (180 < T ∧ z = -1 ∧ h1 = h) ∨ (T ≤ 180 ∧ z = T + 20 ∧ h1 (x + 1) = up (h (x + 1)) 1 (T + 20) ∧ (∀ j : Int, 0 ≤ j → j < 20 → h1 (x + 2) (T + j) = sI (wsel a b c d e j) j % 256) ∧ (∀ j : Int, j < T → h1 (x + 2) j = h (x + 2) j) ∧ ∀ y : Nat, y ≠ x + 1 → y ≠ x + 2 → h1 y = h y)) := by
  unfold CtI
  refine Ct.of (lv := [some (.ref x), some (.int (iI a)), some (.int (iI b)), some (.int (iI c)), some (.int (iI d)), some (.int (iI e))]) (by decide +kernel) rfl (Nat.le_of_ble_eq_true rfl) (fun X hl q rt hnm => ?_)
  refine r_aload_0 (pc := 0) q dX11_feed_0 ?_
  refine r_getr (pc := 1) q fX11_12 (kz := 0) rfl (by decide) rfl hx.o hx.r_tape dX11_feed_1 ?_
  refine r_geti (pc := 4) q fX11_75 (kz := 1) rfl (by decide) rfl hx.n_tape.o dX11_feed_4 ?_
  rw [hT]
  refine r_bipush (pc := 7) q dX11_feed_7 (by decide) ?_
  refine r_iadd (pc := 9) q dX11_feed_9 ?_
  refine r_sipush (pc := 10) q dX11_feed_10 (by decide) ?_
  refine r_icmp_le (pc := 13) q 18 dX11_feed_13 (by decide) ⟨by omega, by omega⟩ ⟨by omega, by omega⟩ (fun c13 => ?_) (fun c13 => ?_)
  · refine r_aload_0 (pc := 18) q dX11_feed_18 ?_
    refine r_getr (pc := 19) q fX11_12 (kz := 0) rfl (by decide) rfl hx.o hx.r_tape dX11_feed_19 ?_
    refine r_iload_1 (pc := 22) q dX11_feed_22 ?_
    refine r_cV1 (pc := 23) q (c_X10_addFour hx.n_tape (by omega) (by omega)) mX11_78 hx.n_tape.o (by decide) (Nat.le_of_ble_eq_true rfl) rfl dX11_feed_23 (fun h1 hz1 => ?_)
    obtain ⟨f1, f2, f3, f4⟩ := hz1
    rw [hT] at f2 f3 f4
    have s1 : h1 (x + 1) 1 = T + 4 := by rw [f2, up_s]
    refine r_aload_0 (pc := 26) q dX11_feed_26 ?_
    refine r_getr (pc := 27) q fX11_12 (kz := 0) rfl (by decide) rfl hx.o hx.r_tape dX11_feed_27 ?_
    refine r_iload_2 (pc := 30) q dX11_feed_30 ?_
    refine r_cV1 (pc := 31) q (c_X10_addFour hx.n_tape (by omega) (by omega)) mX11_78 hx.n_tape.o (by decide) (Nat.le_of_ble_eq_true rfl) rfl dX11_feed_31 (fun h2 hz2 => ?_)
    obtain ⟨g1, g2, g3, g4⟩ := hz2
    rw [s1] at g2 g3 g4
    have s2 : h2 (x + 1) 1 = T + 8 := by rw [g2, up_s]; omega
    refine r_aload_0 (pc := 34) q dX11_feed_34 ?_
    refine r_getr (pc := 35) q fX11_12 (kz := 0) rfl (by decide) rfl hx.o hx.r_tape dX11_feed_35 ?_
    refine r_iload_3 (pc := 38) q dX11_feed_38 ?_
    refine r_cV1 (pc := 39) q (c_X10_addFour hx.n_tape (by omega) (by omega)) mX11_78 hx.n_tape.o (by decide) (Nat.le_of_ble_eq_true rfl) rfl dX11_feed_39 (fun h3 hz3 => ?_)
    obtain ⟨i1, i2, i3, i4⟩ := hz3
    rw [s2] at i2 i3 i4
    have s3 : h3 (x + 1) 1 = T + 12 := by rw [i2, up_s]; omega
    refine r_aload_0 (pc := 42) q dX11_feed_42 ?_
    refine r_getr (pc := 43) q fX11_12 (kz := 0) rfl (by decide) rfl hx.o hx.r_tape dX11_feed_43 ?_
    refine r_iload_4 (pc := 46) q dX11_feed_46 ?_
    refine r_cV1 (pc := 48) q (c_X10_addFour hx.n_tape (by omega) (by omega)) mX11_78 hx.n_tape.o (by decide) (Nat.le_of_ble_eq_true rfl) rfl dX11_feed_48 (fun h4 hz4 => ?_)
    obtain ⟨j1, j2, j3, j4⟩ := hz4
    rw [s3] at j2 j3 j4
    have s4 : h4 (x + 1) 1 = T + 16 := by rw [j2, up_s]; omega
    refine r_aload_0 (pc := 51) q dX11_feed_51 ?_
    refine r_getr (pc := 52) q fX11_12 (kz := 0) rfl (by decide) rfl hx.o hx.r_tape dX11_feed_52 ?_
    refine r_iload_5 (pc := 55) q dX11_feed_55 ?_
    refine r_cV1 (pc := 57) q (c_X10_addFour hx.n_tape (by omega) (by omega)) mX11_78 hx.n_tape.o (by decide) (Nat.le_of_ble_eq_true rfl) rfl dX11_feed_57 (fun h5 hz5 => ?_)
    obtain ⟨k1, k2, k3, k4⟩ := hz5
    rw [s4] at k2 k3 k4
    have s5 : h5 (x + 1) 1 = T + 20 := by rw [k2, up_s]; omega
    refine r_aload_0 (pc := 60) q dX11_feed_60 ?_
    refine r_getr (pc := 61) q fX11_12 (kz := 0) rfl (by decide) rfl hx.o hx.r_tape dX11_feed_61 ?_
    refine r_geti (pc := 64) q fX11_75 (kz := 1) rfl (by decide) rfl hx.n_tape.o dX11_feed_64 ?_
    rw [s5]
    refine r_ireturn (pc := 67) q rt dX11_feed_67 ?_
    refine Or.inr ⟨by omega, rfl, ?_, fun j j0 j1' => ?_, fun j j0 => by rw [k4 j (by omega), j4 j (by omega), i4 j (by omega), g4 j (by omega), f4 j (by omega)], fun y y0 y1 => by rw [k1 y y0 y1, j1 y y0 y1, i1 y y0 y1, g1 y y0 y1, f1 y y0 y1]⟩
    · rw [k2, j2, up_uu, i2, up_uu, g2, up_uu, f2, up_uu, show T + 16 + 4 = T + 20 by omega]
    · unfold wsel
      by_cases q1 : j < 4
      · rw [if_pos q1, k4 _ (by omega), j4 _ (by omega), i4 _ (by omega), g4 _ (by omega)]; exact f3 j j0 q1
      · rw [if_neg q1]
        by_cases q2 : j < 8
        · rw [if_pos q2, k4 _ (by omega), j4 _ (by omega), i4 _ (by omega), show T + j = T + 4 + (j - 4) by omega, g3 (j - 4) (by omega) (by omega), sI_4 (k := j - 4) (j := j) (by omega)]
        · rw [if_neg q2]
          by_cases q3 : j < 12
          · rw [if_pos q3, k4 _ (by omega), j4 _ (by omega), show T + j = T + 8 + (j - 8) by omega, i3 (j - 8) (by omega) (by omega), sI_4 (k := j - 8) (j := j) (by omega)]
          · rw [if_neg q3]
            by_cases q4 : j < 16
            · rw [if_pos q4, k4 _ (by omega), show T + j = T + 12 + (j - 12) by omega, j3 (j - 12) (by omega) (by omega), sI_4 (k := j - 12) (j := j) (by omega)]
            · rw [if_neg q4, show T + j = T + 16 + (j - 16) by omega, k3 (j - 16) (by omega) (by omega), sI_4 (k := j - 16) (j := j) (by omega)]
  refine r_iconst (pc := 16) q dX11_feed_16 ?_
  refine r_ireturn (pc := 17) q rt dX11_feed_17 ?_
  exact Or.inl ⟨by omega, rfl, rfl⟩
theorem lnC_fr {h h1 : sH} {y : Nat} {rg sg : Int → Int → Int} {rn sn : Int → Int} (c : lnC h y rg rn sg sn) (e : ∀ a : Nat, y ≤ a → a < y + 75 → h1 a = h a) : lnC h1 y rg rn sg sn := by
  obtain ⟨c1, c2, c3, c4, c5, c6⟩ := c
  have ey := e y (by omega) (by omega)
  refine ⟨by rw [ey]; exact c1, fun k k0 k1 => ?_, by rw [ey]; exact c3, fun k k0 k1 => ?_, by rw [ey]; exact c5, by rw [ey]; exact c6⟩
  · rw [ey] at k1
    have q := c2 k k0 k1
    rw [e _ (by omega) (by omega)]
    exact ⟨q.1, nmC_fr q.2.1 (e _ (by omega) (by omega)) (e _ (by omega) (by omega)), q.2.2⟩
  · rw [ey] at k1
    have q := c4 k k0 k1
    rw [e _ (by omega) (by omega)]
    exact ⟨q.1, nmC_fr q.2.1 (e _ (by omega) (by omega)) (e _ (by omega) (by omega)), q.2.2⟩
theorem c_X11_ruin {l : Launch} {D : va_G} {aC : Nat → ClassId} {B t sz : Nat} {S : sS} {r : sR} {h : sH} {x : Nat} {p T : Int} {b : Int → Int} {rg sg : Int → Int → Int} {rn sn : Int → Int} (hx : LX11 S r x) (ht : tpI h (x + 1) b T) (hL : lnC h (x + 183) rg rn sg sn) (hp : inR p) : CtI l yX11_ruin cX11_ruin 3 (some .int) 3 69 [.ref x, .int (iI p)] D aC B t sz S r h (fun z h1 => h1 (x + 1) = up (h (x + 1)) 1 0 ∧ (((isNm b 0 T ∧ 0 ≤ p ∧ p ≤ 600 ∧ h (x + 183) 2 < 12 ∧ ∀ k : Int, 0 ≤ k → k < h (x + 183) 2 → h (x + 183 + 3 + 6 * k.toNat) 1 ≠ p) ∧ z = h (x + 183) 2 ∧ (∀ a : Nat, a ≠ x + 1 → a ≠ x + 3 → a ≠ x + 4 → a ≠ x + 183 → a ≠ x + 183 + 3 + 6 * (h (x + 183) 2).toNat → a ≠ x + 183 + 3 + 6 * (h (x + 183) 2).toNat + 1 → a ≠ x + 183 + 3 + 6 * (h (x + 183) 2).toNat + 2 → h1 a = h a) ∧ h1 (x + 183) = up (h (x + 183)) 2 (h (x + 183) 2 + 1) ∧ h1 (x + 183 + 3 + 6 * (h (x + 183) 2).toNat) 1 = p ∧ h1 (x + 183 + 3 + 6 * (h (x + 183) 2).toNat) 3 = h x 10 ∧ nmC h1 (x + 183 + 3 + 6 * (h (x + 183) 2).toNat + 1) b T) ∨ (¬ (isNm b 0 T ∧ 0 ≤ p ∧ p ≤ 600 ∧ h (x + 183) 2 < 12 ∧ ∀ k : Int, 0 ≤ k → k < h (x + 183) 2 → h (x + 183 + 3 + 6 * k.toNat) 1 ≠ p) ∧ z = -1 ∧ ∀ a : Nat, a ≠ x + 1 → a ≠ x + 3 → a ≠ x + 4 → h1 a = h a))) := by
  unfold CtI
  refine Ct.of (lv := [some (.ref x), some (.int (iI p)), none]) (by decide +kernel) rfl (Nat.le_of_ble_eq_true rfl) (fun X hl q rt hnm => ?_)
  obtain ⟨⟨rc0, rc12⟩, hr, -⟩ := id hL
  refine r_aload_0 (pc := 0) q dX11_ruin_0 ?_
  refine r_cI0 (pc := 1) q (c_X11_takeName hx ht) mX11_97 hx.o (by decide) (Nat.le_of_ble_eq_true rfl) rfl dX11_ruin_1 (fun z1 h1 hz1 => ?_)
  obtain ⟨f1, f2, f3⟩ := hz1
  refine r_istore_2 (pc := 4) q dX11_ruin_4 rfl ?_
  refine r_iload_2 (pc := 5) q dX11_ruin_5 ?_
  refine r_if_eq (pc := 6) q 27 dX11_ruin_6 (by decide) (by rcases f3 with ⟨z, -⟩ | ⟨z, -⟩ <;> rw [z] <;> exact ⟨by decide, by decide⟩) (fun c6 => ?_) (fun c6 => ?_)
  · refine r_iconst (pc := 27) q dX11_ruin_27 ?_
    refine r_ireturn (pc := 28) q rt dX11_ruin_28 ?_
    refine ⟨f2, Or.inr ⟨fun z => ?_, rfl, f1⟩⟩
    rcases f3 with ⟨y, -⟩ | ⟨-, y⟩
    · exact absurd y (by omega)
    · exact y z.1
  refine r_iload_1 (pc := 9) q dX11_ruin_9 ?_
  refine r_sI1 (pc := 10) q (c_X11_isPlace hp) mX11_101 (by decide) (Nat.le_of_ble_eq_true rfl) rfl dX11_ruin_10 (fun z2 h2 hz2 => ?_)
  obtain ⟨hz2, rfl⟩ := hz2
  refine r_if_eq (pc := 13) q 27 dX11_ruin_13 (by decide) ⟨by omega, by omega⟩ (fun c13 => ?_) (fun c13 => ?_)
  · refine r_iconst (pc := 27) q dX11_ruin_27 ?_
    refine r_ireturn (pc := 28) q rt dX11_ruin_28 ?_
    exact ⟨f2, Or.inr ⟨fun z => by omega, rfl, f1⟩⟩
  refine r_aload_0 (pc := 16) q dX11_ruin_16 ?_
  refine r_getr (pc := 17) q fX11_47 (kz := 6) rfl (by decide) rfl hx.o hx.r_land dX11_ruin_17 ?_
  have el : h1 (x + 183) = h (x + 183) := f1 _ (by omega) (by omega) (by omega)
  have eR : ∀ k : Int, 0 ≤ k → k < h (x + 183) 2 → h1 (x + 183 + 3 + 6 * k.toNat) = h (x + 183 + 3 + 6 * k.toNat) := fun k k0 k1 => f1 _ (by omega) (by omega) (by omega)
  refine r_iload_1 (pc := 20) q dX11_ruin_20 ?_
  refine r_cI1 (pc := 21) q (c_X2_hasRuinAt hx.n_land (by rw [el]; exact rc0) (by rw [el]; exact rc12) (fun k k0 k1 => by rw [el] at k1; rw [eR k k0 k1]; exact (hr k k0 k1).1) hp) mX11_104 hx.n_land.o (by decide) (Nat.le_of_ble_eq_true rfl) rfl dX11_ruin_21 (fun z3 h3 hz3 => ?_)
  obtain ⟨hz3, rfl⟩ := hz3
  rw [el] at hz3
  refine r_if_eq (pc := 24) q 29 dX11_ruin_24 (by decide) ⟨by omega, by omega⟩ (fun c24 => ?_) (fun c24 => ?_)
  · refine r_aload_0 (pc := 29) q dX11_ruin_29 ?_
    refine r_getr (pc := 30) q fX11_47 (kz := 6) rfl (by decide) rfl hx.o hx.r_land dX11_ruin_30 ?_
    refine r_aload_0 (pc := 33) q dX11_ruin_33 ?_
    refine r_getr (pc := 34) q fX11_19 (kz := 1) rfl (by decide) rfl hx.o hx.r_spoken dX11_ruin_34 ?_
    refine r_iload_1 (pc := 37) q dX11_ruin_37 ?_
    refine r_aload_0 (pc := 38) q dX11_ruin_38 ?_
    refine r_geti (pc := 39) q fX11_72 (kz := 10) rfl (by decide) rfl hx.o dX11_ruin_39 ?_
    have isn : isNm b 0 T ∧ nmC h1 (x + 3) b T := by
      rcases f3 with ⟨-, y⟩ | ⟨y, -⟩
      · exact y
      · exact absurd y c6
    have nor : ∀ k : Int, 0 ≤ k → k < h (x + 183) 2 → h (x + 183 + 3 + 6 * k.toNat) 1 ≠ p := by
      rcases hz3 with ⟨z, -⟩ | ⟨-, z⟩
      · omega
      · intro k k0 k1; have := z k k0 k1; rw [eR k k0 k1] at this; exact this
    refine r_cI3 (pc := 42) q (c_X2_addRuin hx.n_land hx.n_spoken isn.2 (by omega) (by rw [el]; exact rc0) (by rw [el]; exact rc12)) mX11_107 hx.n_land.o (by decide) (Nat.le_of_ble_eq_true rfl) rfl dX11_ruin_42 (fun z4 h4 hz4 => ?_)
    refine r_ireturn (pc := 45) q rt dX11_ruin_45 ?_
    rw [el] at hz4
    rcases hz4 with ⟨y1, y2, y3⟩ | ⟨y1, y2, y3, y4, y5, y6, y7⟩
    · refine ⟨by rw [y3]; exact f2, Or.inr ⟨fun z => by omega, y2, fun a a0 a1 a2 => by rw [y3]; exact f1 a a0 a1 a2⟩⟩
    · have ex : h1 x 10 = h x 10 := by rw [f1 x (by omega) (by omega) (by omega)]
      refine ⟨by rw [y3 _ (by omega) (by omega) (by omega) (by omega)]; exact f2, Or.inl ⟨⟨isn.1, by omega, by omega, y1, nor⟩, y2, fun a a0 a1 a2 a3 a4 a5 a6 => by rw [y3 a a3 a4 a5 a6]; exact f1 a a0 a1 a2, y4, ?_, ?_, ?_⟩⟩
      · rw [y5, up_n _ _ (by decide), up_n _ _ (by decide), up_s]
      · rw [y5, up_s]; exact ex
      · exact ⟨by rw [y6, up_s], isn.2.2.1, fun j j0 j1 => ⟨y7 j j0 j1, (isn.2.2.2 j j0 j1).2⟩⟩
  refine r_iconst (pc := 27) q dX11_ruin_27 ?_
  refine r_ireturn (pc := 28) q rt dX11_ruin_28 ?_
  rcases hz3 with ⟨-, k, k0, k1, k2⟩ | ⟨z, -⟩
  · refine ⟨f2, Or.inr ⟨fun z => ?_, rfl, f1⟩⟩
    rw [eR k k0 k1] at k2
    exact z.2.2.2.2 k k0 k1 k2
  · exact absurd z c24
theorem c_X11_stone {l : Launch} {D : va_G} {aC : Nat → ClassId} {B t sz : Nat} {S : sS} {r : sR} {h : sH} {x : Nat} {p a u T : Int} {b : Int → Int} {rg sg : Int → Int → Int} {rn sn : Int → Int} (hx : LX11 S r x) (ht : tpI h (x + 1) b T) (hL : lnC h (x + 183) rg rn sg sn) (hp : inR p) (ha : inR a) (hu : inR u) : CtI l yX11_stone cX11_stone 5 (some .int) 3 70 [.ref x, .int (iI p), .int (iI a), .int (iI u)] D aC B t sz S r h (fun z h1 => h1 (x + 1) = up (h (x + 1)) 1 0 ∧ (((isNm b 0 T ∧ 0 ≤ p ∧ p ≤ 600 ∧ 1 ≤ a ∧ a ≤ 200 ∧ 2 ≤ u ∧ u ≤ 3 ∧ h (x + 183) 3 < 12) ∧ z = h (x + 183) 3 ∧ (∀ y : Nat, y ≠ x + 1 → y ≠ x + 3 → y ≠ x + 4 → y ≠ x + 183 → y ≠ x + 183 + 6 + 6 * (h (x + 183) 3).toNat → y ≠ x + 183 + 6 + 6 * (h (x + 183) 3).toNat + 1 → y ≠ x + 183 + 6 + 6 * (h (x + 183) 3).toNat + 2 → h1 y = h y) ∧ h1 (x + 183) = up (h (x + 183)) 3 (h (x + 183) 3 + 1) ∧ h1 (x + 183 + 6 + 6 * (h (x + 183) 3).toNat) 1 = p ∧ h1 (x + 183 + 6 + 6 * (h (x + 183) 3).toNat) 2 = a * u ∧ h1 (x + 183 + 6 + 6 * (h (x + 183) 3).toNat) 3 = h x 10 ∧ nmC h1 (x + 183 + 6 + 6 * (h (x + 183) 3).toNat + 1) b T) ∨ (¬ (isNm b 0 T ∧ 0 ≤ p ∧ p ≤ 600 ∧ 1 ≤ a ∧ a ≤ 200 ∧ 2 ≤ u ∧ u ≤ 3 ∧ h (x + 183) 3 < 12) ∧ z = -1 ∧ ∀ y : Nat, y ≠ x + 1 → y ≠ x + 3 → y ≠ x + 4 → h1 y = h y))) := by
  unfold CtI
  refine Ct.of (lv := [some (.ref x), some (.int (iI p)), some (.int (iI a)), some (.int (iI u)), none]) (by decide +kernel) rfl (Nat.le_of_ble_eq_true rfl) (fun X hl q rt hnm => ?_)
  obtain ⟨-, -, ⟨sc0, sc12⟩, -⟩ := id hL
  obtain ⟨a0, a9⟩ := id ha
  refine r_aload_0 (pc := 0) q dX11_stone_0 ?_
  refine r_cI0 (pc := 1) q (c_X11_takeName hx ht) mX11_97 hx.o (by decide) (Nat.le_of_ble_eq_true rfl) rfl dX11_stone_1 (fun z1 h1 hz1 => ?_)
  obtain ⟨f1, f2, f3⟩ := hz1
  refine r_istore_4 (pc := 4) q dX11_stone_4 rfl ?_
  refine r_iload_4 (pc := 6) q dX11_stone_6 ?_
  refine r_if_eq (pc := 8) q 37 dX11_stone_8 (by decide) (by rcases f3 with ⟨z, -⟩ | ⟨z, -⟩ <;> rw [z] <;> exact ⟨by decide, by decide⟩) (fun c8 => ?_) (fun c8 => ?_)
  · refine r_iconst (pc := 37) q dX11_stone_37 ?_
    refine r_ireturn (pc := 38) q rt dX11_stone_38 ?_
    refine ⟨f2, Or.inr ⟨fun z => ?_, rfl, f1⟩⟩
    rcases f3 with ⟨y, -⟩ | ⟨-, y⟩
    · exact absurd y (by omega)
    · exact y z.1
  refine r_iload_1 (pc := 11) q dX11_stone_11 ?_
  refine r_sI1 (pc := 12) q (c_X11_isPlace hp) mX11_101 (by decide) (Nat.le_of_ble_eq_true rfl) rfl dX11_stone_12 (fun z2 h2 hz2 => ?_)
  obtain ⟨hz2, rfl⟩ := hz2
  refine r_if_eq (pc := 15) q 37 dX11_stone_15 (by decide) ⟨by omega, by omega⟩ (fun c15 => ?_) (fun c15 => ?_)
  · refine r_iconst (pc := 37) q dX11_stone_37 ?_
    refine r_ireturn (pc := 38) q rt dX11_stone_38 ?_
    exact ⟨f2, Or.inr ⟨fun z => by omega, rfl, f1⟩⟩
  refine r_iload_3 (pc := 18) q dX11_stone_18 ?_
  refine r_sI1 (pc := 19) q (c_X11_isUnit hu) mX11_82 (by decide) (Nat.le_of_ble_eq_true rfl) rfl dX11_stone_19 (fun z3 h3 hz3 => ?_)
  obtain ⟨hz3, rfl⟩ := hz3
  refine r_if_eq (pc := 22) q 37 dX11_stone_22 (by decide) ⟨by omega, by omega⟩ (fun c22 => ?_) (fun c22 => ?_)
  · refine r_iconst (pc := 37) q dX11_stone_37 ?_
    refine r_ireturn (pc := 38) q rt dX11_stone_38 ?_
    exact ⟨f2, Or.inr ⟨fun z => by omega, rfl, f1⟩⟩
  refine r_iload_2 (pc := 25) q dX11_stone_25 ?_
  refine r_iconst (pc := 26) q dX11_stone_26 ?_
  refine r_icmp_lt (pc := 27) q 37 dX11_stone_27 (by decide) ⟨by omega, by omega⟩ ⟨by omega, by omega⟩ (fun c27 => ?_) (fun c27 => ?_)
  · refine r_iconst (pc := 37) q dX11_stone_37 ?_
    refine r_ireturn (pc := 38) q rt dX11_stone_38 ?_
    exact ⟨f2, Or.inr ⟨fun z => by omega, rfl, f1⟩⟩
  refine r_iload_2 (pc := 30) q dX11_stone_30 ?_
  refine r_sipush (pc := 31) q dX11_stone_31 (by decide) ?_
  refine r_icmp_le (pc := 34) q 39 dX11_stone_34 (by decide) ⟨by omega, by omega⟩ ⟨by omega, by omega⟩ (fun c34 => ?_) (fun c34 => ?_)
  · refine r_aload_0 (pc := 39) q dX11_stone_39 ?_
    refine r_getr (pc := 40) q fX11_47 (kz := 6) rfl (by decide) rfl hx.o hx.r_land dX11_stone_40 ?_
    refine r_aload_0 (pc := 43) q dX11_stone_43 ?_
    refine r_getr (pc := 44) q fX11_19 (kz := 1) rfl (by decide) rfl hx.o hx.r_spoken dX11_stone_44 ?_
    refine r_iload_1 (pc := 47) q dX11_stone_47 ?_
    refine r_iload_2 (pc := 48) q dX11_stone_48 ?_
    refine r_iload_3 (pc := 49) q dX11_stone_49 ?_
    refine r_imul (pc := 50) q dX11_stone_50 ?_
    refine r_aload_0 (pc := 51) q dX11_stone_51 ?_
    refine r_geti (pc := 52) q fX11_72 (kz := 10) rfl (by decide) rfl hx.o dX11_stone_52 ?_
    have isn : isNm b 0 T ∧ nmC h1 (x + 3) b T := by
      rcases f3 with ⟨-, y⟩ | ⟨y, -⟩
      · exact y
      · exact absurd y c8
    have el : h1 (x + 183) = h (x + 183) := f1 _ (by omega) (by omega) (by omega)
    refine r_cI4 (pc := 55) q (c_X2_addStone hx.n_land hx.n_spoken isn.2 (by omega) (by rw [el]; exact sc0) (by rw [el]; exact sc12)) mX11_111 hx.n_land.o (by decide) (Nat.le_of_ble_eq_true rfl) rfl dX11_stone_55 (fun z4 h4 hz4 => ?_)
    refine r_ireturn (pc := 58) q rt dX11_stone_58 ?_
    rw [el] at hz4
    rcases hz4 with ⟨y1, y2, y3⟩ | ⟨y1, y2, y3, y4, y5, y6, y7⟩
    · refine ⟨by rw [y3]; exact f2, Or.inr ⟨fun z => by omega, y2, fun a a0 a1 a2 => by rw [y3]; exact f1 a a0 a1 a2⟩⟩
    · have ex : h1 x 10 = h x 10 := by rw [f1 x (by omega) (by omega) (by omega)]
      refine ⟨by rw [y3 _ (by omega) (by omega) (by omega) (by omega)]; exact f2, Or.inl ⟨⟨isn.1, by omega, by omega, by omega, by omega, by omega, by omega, y1⟩, y2, fun a a0 a1 a2 a3 a4 a5 a6 => by rw [y3 a a3 a4 a5 a6]; exact f1 a a0 a1 a2, y4, ?_, ?_, ?_, ?_⟩⟩
      · rw [y5, up_n _ _ (by decide), up_n _ _ (by decide), up_s]
      · rw [y5, up_n _ _ (by decide), up_s]
      · rw [y5, up_s]; exact ex
      · exact ⟨by rw [y6, up_s], isn.2.2.1, fun j j0 j1 => ⟨y7 j j0 j1, (isn.2.2.2 j j0 j1).2⟩⟩
  refine r_iconst (pc := 37) q dX11_stone_37 ?_
  refine r_ireturn (pc := 38) q rt dX11_stone_38 ?_
  exact ⟨f2, Or.inr ⟨fun z => by omega, rfl, f1⟩⟩
