theorem rtI_b {h : sH} {x : Nat} {b : Int → Int} {T : Int} {g : Int → Int → Int → Int} {n : Int → Int → Int} {u : Int → Int → Int → Int} {un : Int → Int → Int} {rg sg : Int → Int → Int} {rn sn : Int → Int} (hI : clI h x b T g n u un rg rn sg sn) : ∀ l : Int, 0 ≤ l → l < h x 4 → 2 ≤ h (x + 7 + 44 * l.toNat) 4 ∧ h (x + 7 + 44 * l.toNat) 4 ≤ 10 := fun l l0 l1 => (hI.2.2.1 l l0 l1).2.1
theorem c_X11_apart {l : Launch} {D : va_G} {aC : Nat → ClassId} {B t sz : Nat} {S : sS} {r : sR} {h : sH} {x : Nat} {l1 i T : Int} {b : Int → Int} {g : Int → Int → Int → Int} {n : Int → Int → Int} {u : Int → Int → Int → Int} {un : Int → Int → Int} {rg sg : Int → Int → Int} {rn sn : Int → Int} (hx : LX11 S r x) (hI : clI h x b T g n u un rg rn sg sn) (hl1 : inR l1) (hi : inR i) : CtI l yX11_apart cX11_apart 4 (some .int) 3 71 [.ref x, .int (iI l1), .int (iI i)] D aC B t sz S r h (fun z h1 => h1 (x + 1) = up (h (x + 1)) 1 0 ∧ (∀ a : Nat, a ≠ x + 1 → a ≠ x + 3 → a ≠ x + 4 → a ≠ x + 264 → h1 a = h a) ∧ ((¬ (isNm b 0 T ∧ 0 ≤ l1 ∧ l1 < h x 4 ∧ 0 ≤ i ∧ i < h (x + 7 + 44 * l1.toNat) 4) ∧ z = -1) ∨ ((isNm b 0 T ∧ 0 ≤ l1 ∧ l1 < h x 4 ∧ 0 ≤ i ∧ i < h (x + 7 + 44 * l1.toNat) 4) ∧ z = dst (h (x + 263)) b T (g l1 i) (n l1 i)))) := by
  unfold CtI
  refine Ct.of (lv := [some (.ref x), some (.int (iI l1)), some (.int (iI i)), none]) (by decide +kernel) rfl (Nat.le_of_ble_eq_true rfl) (fun X hl q rt hnm => ?_)
  have rb := rtI_b hI
  obtain ⟨ht, ⟨c0, c4⟩, hr, hL, hH, hs, dd⟩ := id hI
  refine r_aload_0 (pc := 0) q dX11_apart_0 ?_
  refine r_cI0 (pc := 1) q (c_X11_takeName hx ht) mX11_97 hx.o (by decide) (Nat.le_of_ble_eq_true rfl) rfl dX11_apart_1 (fun z1 h1 hz1 => ?_)
  obtain ⟨f1, f2, f3⟩ := hz1
  have ex : h1 x = h x := f1 x (by omega) (by omega) (by omega)
  have er : ∀ l : Int, 0 ≤ l → l < h x 4 → h1 (x + 7 + 44 * l.toNat) = h (x + 7 + 44 * l.toNat) := fun l l0 l9 => f1 _ (by omega) (by omega) (by omega)
  refine r_istore_3 (pc := 4) q dX11_apart_4 rfl ?_
  refine r_iload_3 (pc := 5) q dX11_apart_5 ?_
  refine r_if_eq (pc := 6) q 18 dX11_apart_6 (by decide) (by rcases f3 with ⟨z, -⟩ | ⟨z, -⟩ <;> rw [z] <;> exact ⟨by decide, by decide⟩) (fun c6 => ?_) (fun c6 => ?_)
  · refine r_iconst (pc := 18) q dX11_apart_18 ?_
    refine r_ireturn (pc := 19) q rt dX11_apart_19 ?_
    refine ⟨f2, fun a a0 a1 a2 _ => f1 a a0 a1 a2, Or.inl ⟨fun z => ?_, rfl⟩⟩
    rcases f3 with ⟨y, -⟩ | ⟨-, y⟩
    · exact absurd y (by omega)
    · exact y z.1
  refine r_aload_0 (pc := 9) q dX11_apart_9 ?_
  refine r_iload_1 (pc := 10) q dX11_apart_10 ?_
  refine r_iload_2 (pc := 11) q dX11_apart_11 ?_
  refine r_cI2 (pc := 12) q (c_X11_hasStation hx hl1 hi (by rw [ex]; exact c0) (by rw [ex]; exact c4) (fun l l0 l9 => by rw [ex] at l9; rw [er l l0 l9]; exact rb l l0 l9)) mX11_137 hx.o (by decide) (Nat.le_of_ble_eq_true rfl) rfl dX11_apart_12 (fun z2 h2 hz2 => ?_)
  obtain ⟨hz2, rfl⟩ := hz2
  rw [ex] at hz2
  refine r_if_ne (pc := 15) q 20 dX11_apart_15 (by decide) ⟨by omega, by omega⟩ (fun c15 => ?_) (fun c15 => ?_)
  · have cond : 0 ≤ l1 ∧ l1 < h x 4 ∧ 0 ≤ i ∧ i < h (x + 7 + 44 * l1.toNat) 4 := by
      rcases hz2 with ⟨-, y1, y2, y3⟩ | ⟨y, -⟩
      · rw [er l1 y1 y2] at y3; exact ⟨y1, y2, y3⟩
      · exact absurd y c15
    have isn : isNm b 0 T ∧ nmC h1 (x + 3) b T := by
      rcases f3 with ⟨-, y⟩ | ⟨y, -⟩
      · exact y
      · exact absurd y c6
    have hRl := hr l1 cond.1 cond.2.1
    have hnm2 := (hRl.2.2.1 i cond.2.2.1 cond.2.2.2).1
    have i9 : i < 10 := by have := hRl.2.1; omega
    have hnm1 := nmC_fr hnm2 (f1 _ (by omega) (by omega) (by omega)) (f1 _ (by omega) (by omega) (by omega))
    refine r_aload_0 (pc := 20) q dX11_apart_20 ?_
    refine r_getr (pc := 21) q fX11_61 (kz := 8) rfl (by decide) rfl hx.o hx.r_sounds dX11_apart_21 ?_
    refine r_aload_0 (pc := 24) q dX11_apart_24 ?_
    refine r_getr (pc := 25) q fX11_19 (kz := 1) rfl (by decide) rfl hx.o hx.r_spoken dX11_apart_25 ?_
    refine r_aload_0 (pc := 28) q dX11_apart_28 ?_
    refine r_getr (pc := 29) q fX11_32 (kz := 3) rfl (by decide) rfl hx.o hx.r_routes dX11_apart_29 ?_
    refine r_iload_1 (pc := 32) q dX11_apart_32 ?_
    refine r_aald26 (pc := 33) q hx.s_routes (by omega) (by omega) (hx.e_routes (by omega) (by omega)) dX11_apart_33 ?_
    refine r_getr (pc := 34) q fX11_140 (kz := 0) rfl (by decide) rfl ((hx.n_routes (by omega) (by omega))).o (hx.n_routes (by omega) (by omega)).r_names dX11_apart_34 ?_
    refine r_iload_2 (pc := 37) q dX11_apart_37 ?_
    refine r_aald24 (pc := 38) q (hx.n_routes (by omega) (by omega)).s_names (by omega) (by omega) ((hx.n_routes (by omega) (by omega)).e_names (by omega) (by omega)) dX11_apart_38 ?_
    refine r_cI2 (pc := 39) q (c_X9_distance hx.n_sounds hx.n_spoken ((hx.n_routes (j := l1) (by omega) (by omega)).n_names (j := i) (by omega) (by omega)) (by rw [f1 _ (by omega) (by omega) (by omega)]; exact hs) isn.2 hnm1) mX11_144 hx.n_sounds.o (by decide) (Nat.le_of_ble_eq_true rfl) rfl dX11_apart_39 (fun z3 h3 hz3 => ?_)
    refine r_ireturn (pc := 42) q rt dX11_apart_42 ?_
    obtain ⟨ez, fr⟩ := hz3
    rw [f1 (x + 262 + 1) (by omega) (by omega) (by omega)] at ez
    exact ⟨by rw [fr _ (by omega)]; exact f2, fun a a0 a1 a2 a3 => by rw [fr a (by omega)]; exact f1 a a0 a1 a2, Or.inr ⟨⟨isn.1, cond⟩, ez⟩⟩
  refine r_iconst (pc := 18) q dX11_apart_18 ?_
  refine r_ireturn (pc := 19) q rt dX11_apart_19 ?_
  refine ⟨f2, fun a a0 a1 a2 _ => f1 a a0 a1 a2, Or.inl ⟨fun z => ?_, rfl⟩⟩
  rcases hz2 with ⟨y, -⟩ | ⟨-, y⟩
  · omega
  · rw [er l1 z.2.1 z.2.2.1] at y; exact y z.2
theorem c_X11_reading {l : Launch} {D : va_G} {aC : Nat → ClassId} {B t sz : Nat} {S : sS} {r : sR} {h : sH} {x : Nat} {l1 i v T : Int} {b : Int → Int} {g : Int → Int → Int → Int} {n : Int → Int → Int} {u : Int → Int → Int → Int} {un : Int → Int → Int} {rg sg : Int → Int → Int} {rn sn : Int → Int} (hx : LX11 S r x) (hI : clI h x b T g n u un rg rn sg sn) (hl1 : inR l1) (hi : inR i) (hv : inR v) : CtI l yX11_reading cX11_reading 4 (some .int) 4 94 [.ref x, .int (iI l1), .int (iI i), .int (iI v)] D aC B t sz S r h (fun z h1 => (∀ a : Nat, a < x + 265 ∨ x + 325 ≤ a → h1 a = h a) ∧ ((¬ (0 ≤ l1 ∧ l1 < h x 4 ∧ 0 ≤ i ∧ i + 1 < h (x + 7 + 44 * l1.toNat) 4) ∧ z = -1) ∨ ((0 ≤ l1 ∧ l1 < h x 4 ∧ 0 ≤ i ∧ i + 1 < h (x + 7 + 44 * l1.toNat) 4) ∧ z = (if coN (u l1 i) (un l1 i) (h (x + 260)) (h (x + 259)) (h (x + 261)) v (h (x + 258) 3).toNat = 1000000 then -1 else coN (u l1 i) (un l1 i) (h (x + 260)) (h (x + 259)) (h (x + 261)) v (h (x + 258) 3).toNat)))) := by
  unfold CtI
  refine Ct.of (lv := [some (.ref x), some (.int (iI l1)), some (.int (iI i)), some (.int (iI v))]) (by decide +kernel) rfl (Nat.le_of_ble_eq_true rfl) (fun X hl q rt hnm => ?_)
  have rb := rtI_b hI
  obtain ⟨ht, ⟨c0, c4⟩, hr, hL, hH, hs, dd⟩ := id hI
  refine r_aload_0 (pc := 0) q dX11_reading_0 ?_
  refine r_iload_1 (pc := 1) q dX11_reading_1 ?_
  refine r_iload_2 (pc := 2) q dX11_reading_2 ?_
  refine r_cI2 (pc := 3) q (c_X11_hasNumeral hx hl1 hi c0 c4 rb) mX11_148 hx.o (by decide) (Nat.le_of_ble_eq_true rfl) rfl dX11_reading_3 (fun z1 h1 hz1 => ?_)
  obtain ⟨hz1, rfl⟩ := hz1
  refine r_if_ne (pc := 6) q 11 dX11_reading_6 (by decide) ⟨by omega, by omega⟩ (fun c6 => ?_) (fun c6 => ?_)
  · have cond : 0 ≤ l1 ∧ l1 < h x 4 ∧ 0 ≤ i ∧ i + 1 < h (x + 7 + 44 * l1.toNat) 4 := by
      rcases hz1 with ⟨-, y⟩ | ⟨y, -⟩
      · exact y
      · exact absurd y c6
    have hRl := hr l1 cond.1 cond.2.1
    have hnu := hRl.2.2.2 i cond.2.2.1 cond.2.2.2
    have i9 : i < 10 := by have := hRl.2.1; omega
    refine r_aload_0 (pc := 11) q dX11_reading_11 ?_
    refine r_getr (pc := 12) q fX11_68 (kz := 9) rfl (by decide) rfl hx.o hx.r_placer dX11_reading_12 ?_
    refine r_aload_0 (pc := 15) q dX11_reading_15 ?_
    refine r_getr (pc := 16) q fX11_32 (kz := 3) rfl (by decide) rfl hx.o hx.r_routes dX11_reading_16 ?_
    refine r_iload_1 (pc := 19) q dX11_reading_19 ?_
    refine r_aald26 (pc := 20) q hx.s_routes (by omega) (by omega) (hx.e_routes (by omega) (by omega)) dX11_reading_20 ?_
    refine r_getr (pc := 21) q fX11_151 (kz := 1) rfl (by decide) rfl ((hx.n_routes (by omega) (by omega))).o (hx.n_routes (by omega) (by omega)).r_numerals dX11_reading_21 ?_
    refine r_iload_2 (pc := 24) q dX11_reading_24 ?_
    refine r_aald25 (pc := 25) q (hx.n_routes (by omega) (by omega)).s_numerals (by omega) (by omega) ((hx.n_routes (by omega) (by omega)).e_numerals (by omega) (by omega)) dX11_reading_25 ?_
    refine r_aload_0 (pc := 26) q dX11_reading_26 ?_
    refine r_getr (pc := 27) q fX11_54 (kz := 7) rfl (by decide) rfl hx.o hx.r_habits dX11_reading_27 ?_
    refine r_iload_3 (pc := 30) q dX11_reading_30 ?_
    refine r_cI3 (pc := 31) q (c_X5_costOfValue hx.n_placer ((hx.n_routes (j := l1) (by omega) (by omega)).n_numerals (j := i) (by omega) (by omega)) hx.n_habits hH hnu.1 hnu.2 hv) mX11_155 hx.n_placer.o (by decide) (Nat.le_of_ble_eq_true rfl) rfl dX11_reading_31 (fun z2 h2 hz2 => ?_)
    refine r_ireturn (pc := 34) q rt dX11_reading_34 ?_
    exact ⟨fun a a0 => hz2.1 a (by omega) (by omega) (by omega), Or.inr ⟨cond, hz2.2⟩⟩
  refine r_iconst (pc := 9) q dX11_reading_9 ?_
  refine r_ireturn (pc := 10) q rt dX11_reading_10 ?_
  refine ⟨fun _ _ => rfl, Or.inl ⟨fun z => ?_, rfl⟩⟩
  rcases hz1 with ⟨y, -⟩ | ⟨-, y⟩
  · omega
  · exact y z
theorem c_X11_letter {l : Launch} {D : va_G} {aC : Nat → ClassId} {B t sz : Nat} {S : sS} {r : sR} {h : sH} {x : Nat} {l1 i k T : Int} {b : Int → Int} {g : Int → Int → Int → Int} {n : Int → Int → Int} {u : Int → Int → Int → Int} {un : Int → Int → Int} {rg sg : Int → Int → Int} {rn sn : Int → Int} (hx : LX11 S r x) (hI : clI h x b T g n u un rg rn sg sn) (hl1 : inR l1) (hi : inR i) (hk : inR k) : CtI l yX11_letter cX11_letter 5 (some .int) 2 43 [.ref x, .int (iI l1), .int (iI i), .int (iI k)] D aC B t sz S r h (fun z h1 => ((¬ (0 ≤ l1 ∧ l1 < h x 4 ∧ 0 ≤ i ∧ i < h (x + 7 + 44 * l1.toNat) 4 ∧ 0 ≤ k ∧ k < n l1 i) ∧ z = -1) ∨ ((0 ≤ l1 ∧ l1 < h x 4 ∧ 0 ≤ i ∧ i < h (x + 7 + 44 * l1.toNat) 4 ∧ 0 ≤ k ∧ k < n l1 i) ∧ z = g l1 i k)) ∧ h = h1) := by
  unfold CtI
  refine Ct.of (lv := [some (.ref x), some (.int (iI l1)), some (.int (iI i)), some (.int (iI k)), none]) (by decide +kernel) rfl (Nat.le_of_ble_eq_true rfl) (fun X hl q rt hnm => ?_)
  have rb := rtI_b hI
  obtain ⟨ht, ⟨c0, c4⟩, hr, hL, hH, hs, dd⟩ := id hI
  obtain ⟨k0, k9⟩ := hk
  refine r_aload_0 (pc := 0) q dX11_letter_0 ?_
  refine r_iload_1 (pc := 1) q dX11_letter_1 ?_
  refine r_iload_2 (pc := 2) q dX11_letter_2 ?_
  refine r_cI2 (pc := 3) q (c_X11_hasStation hx hl1 hi c0 c4 rb) mX11_137 hx.o (by decide) (Nat.le_of_ble_eq_true rfl) rfl dX11_letter_3 (fun z1 h1 hz1 => ?_)
  obtain ⟨hz1, rfl⟩ := hz1
  refine r_if_ne (pc := 6) q 11 dX11_letter_6 (by decide) ⟨by omega, by omega⟩ (fun c6 => ?_) (fun c6 => ?_)
  · have cond : 0 ≤ l1 ∧ l1 < h x 4 ∧ 0 ≤ i ∧ i < h (x + 7 + 44 * l1.toNat) 4 := by
      rcases hz1 with ⟨-, y⟩ | ⟨y, -⟩
      · exact y
      · exact absurd y c6
    have hRl := hr l1 cond.1 cond.2.1
    have hnm2 := (hRl.2.2.1 i cond.2.2.1 cond.2.2.2).1
    obtain ⟨e1, ⟨n0, n8⟩, hb⟩ := hnm2
    have i9 : i < 10 := by have := hRl.2.1; omega
    refine r_aload_0 (pc := 11) q dX11_letter_11 ?_
    refine r_getr (pc := 12) q fX11_32 (kz := 3) rfl (by decide) rfl hx.o hx.r_routes dX11_letter_12 ?_
    refine r_iload_1 (pc := 15) q dX11_letter_15 ?_
    refine r_aald26 (pc := 16) q hx.s_routes (by omega) (by omega) (hx.e_routes (by omega) (by omega)) dX11_letter_16 ?_
    refine r_getr (pc := 17) q fX11_140 (kz := 0) rfl (by decide) rfl ((hx.n_routes (by omega) (by omega))).o (hx.n_routes (by omega) (by omega)).r_names dX11_letter_17 ?_
    refine r_iload_2 (pc := 20) q dX11_letter_20 ?_
    refine r_aald24 (pc := 21) q (hx.n_routes (by omega) (by omega)).s_names (by omega) (by omega) ((hx.n_routes (by omega) (by omega)).e_names (by omega) (by omega)) dX11_letter_21 ?_
    refine r_astore_4 (pc := 22) q dX11_letter_22 rfl ?_
    refine r_iload_3 (pc := 24) q dX11_letter_24 ?_
    refine r_if_lt (pc := 25) q 47 dX11_letter_25 (by decide) ⟨by omega, by omega⟩ (fun c25 => ?_) (fun c25 => ?_)
    · refine r_iconst (pc := 47) q dX11_letter_47 ?_
      refine r_ireturn (pc := 48) q rt dX11_letter_48 ?_
      exact ⟨Or.inl ⟨by omega, rfl⟩, rfl⟩
    refine r_iload_3 (pc := 28) q dX11_letter_28 ?_
    refine r_aload_4 (pc := 29) q dX11_letter_29 ?_
    refine r_geti (pc := 31) q fX11_225 (kz := 1) rfl (by decide) rfl (((hx.n_routes (by omega) (by omega)).n_names (by omega) (by omega))).o dX11_letter_31 ?_
    rw [e1]
    refine r_icmp_ge (pc := 34) q 47 dX11_letter_34 (by decide) ⟨by omega, by omega⟩ ⟨by omega, by omega⟩ (fun c34 => ?_) (fun c34 => ?_)
    · refine r_iconst (pc := 47) q dX11_letter_47 ?_
      refine r_ireturn (pc := 48) q rt dX11_letter_48 ?_
      exact ⟨Or.inl ⟨by omega, rfl⟩, rfl⟩
    refine r_aload_4 (pc := 37) q dX11_letter_37 ?_
    refine r_getr (pc := 39) q fX11_228 (kz := 0) rfl (by decide) rfl (((hx.n_routes (by omega) (by omega)).n_names (by omega) (by omega))).o ((hx.n_routes (by omega) (by omega)).n_names (by omega) (by omega)).r_letters dX11_letter_39 ?_
    refine r_iload_3 (pc := 42) q dX11_letter_42 ?_
    refine r_iald (pc := 43) q ((hx.n_routes (by omega) (by omega)).n_names (by omega) (by omega)).s_letters (by omega) (by omega) dX11_letter_43 ?_
    refine r_goto (pc := 44) (tgt := 48) q dX11_letter_44 (by decide) ?_
    refine r_ireturn (pc := 48) q rt dX11_letter_48 ?_
    exact ⟨Or.inr ⟨⟨cond.1, cond.2.1, cond.2.2.1, cond.2.2.2, by omega, by omega⟩, (hb k (by omega) (by omega)).1⟩, rfl⟩
  refine r_iconst (pc := 9) q dX11_letter_9 ?_
  refine r_ireturn (pc := 10) q rt dX11_letter_10 ?_
  refine ⟨Or.inl ⟨fun z => ?_, rfl⟩, rfl⟩
  rcases hz1 with ⟨y, -⟩ | ⟨-, y⟩
  · omega
  · exact y ⟨z.1, z.2.1, z.2.2.1, z.2.2.2.1⟩
theorem c_X11_countOfRuin {l : Launch} {D : va_G} {aC : Nat → ClassId} {B t sz : Nat} {S : sS} {r : sR} {h : sH} {x : Nat} {w : Int} (hx : LX11 S r x) (hw : inR w) (c0 : 0 ≤ h (x + 183) 2) (c1 : h (x + 183) 2 ≤ 12) : CtI l yX11_countOfRuin cX11_countOfRuin 2 (some .int) 0 0 [.ref x, .int (iI w)] D aC B t sz S r h (fun z h1 => (if 10 ≤ w ∧ w - 10 < h (x + 183) 2 then h (x + 183 + 3 + 6 * (w - 10).toNat) 1 else if 30 ≤ w ∧ w - 30 < h (x + 183) 2 then h (x + 183 + 3 + 6 * (w - 30).toNat) 3 else -1) = z ∧ h = h1) := by
  unfold CtI
  refine Ct.of (lv := [some (.ref x), some (.int (iI w))]) (by decide +kernel) rfl (Nat.le_of_ble_eq_true rfl) (fun X hl q rt hnm => ?_)
  obtain ⟨w0, w9⟩ := hw
  refine r_iload_1 (pc := 0) q dX11_countOfRuin_0 ?_
  refine r_bipush (pc := 1) q dX11_countOfRuin_1 (by decide) ?_
  refine r_icmp_lt (pc := 3) q 36 dX11_countOfRuin_3 (by decide) ⟨by omega, by omega⟩ ⟨by omega, by omega⟩ (fun c3 => ?_) (fun c3 => ?_)
  · refine r_iload_1 (pc := 36) q dX11_countOfRuin_36 ?_
    refine r_bipush (pc := 37) q dX11_countOfRuin_37 (by decide) ?_
    refine r_icmp_lt (pc := 39) q 72 dX11_countOfRuin_39 (by decide) ⟨by omega, by omega⟩ ⟨by omega, by omega⟩ (fun c39 => ?_) (fun c39 => ?_)
    · refine r_iconst (pc := 72) q dX11_countOfRuin_72 ?_
      refine r_ireturn (pc := 73) q rt dX11_countOfRuin_73 ?_
      exact ⟨by rw [if_neg (by omega), if_neg (by omega)], rfl⟩
    refine r_iload_1 (pc := 42) q dX11_countOfRuin_42 ?_
    refine r_bipush (pc := 43) q dX11_countOfRuin_43 (by decide) ?_
    refine r_isub (pc := 45) q dX11_countOfRuin_45 ?_
    refine r_aload_0 (pc := 46) q dX11_countOfRuin_46 ?_
    refine r_getr (pc := 47) q fX11_47 (kz := 6) rfl (by decide) rfl hx.o hx.r_land dX11_countOfRuin_47 ?_
    refine r_geti (pc := 50) q fX11_231 (kz := 2) rfl (by decide) rfl hx.n_land.o dX11_countOfRuin_50 ?_
    refine r_icmp_ge (pc := 53) q 72 dX11_countOfRuin_53 (by decide) ⟨by omega, by omega⟩ ⟨by omega, by omega⟩ (fun c53 => ?_) (fun c53 => ?_)
    · refine r_iconst (pc := 72) q dX11_countOfRuin_72 ?_
      refine r_ireturn (pc := 73) q rt dX11_countOfRuin_73 ?_
      exact ⟨by rw [if_neg (by omega), if_neg (by omega)], rfl⟩
    refine r_aload_0 (pc := 56) q dX11_countOfRuin_56 ?_
    refine r_getr (pc := 57) q fX11_47 (kz := 6) rfl (by decide) rfl hx.o hx.r_land dX11_countOfRuin_57 ?_
    refine r_getr (pc := 60) q fX11_242 (kz := 0) rfl (by decide) rfl hx.n_land.o hx.n_land.r_ruins dX11_countOfRuin_60 ?_
    refine r_iload_1 (pc := 63) q dX11_countOfRuin_63 ?_
    refine r_bipush (pc := 64) q dX11_countOfRuin_64 (by decide) ?_
    refine r_isub (pc := 66) q dX11_countOfRuin_66 ?_
    refine r_aald27 (pc := 67) q hx.n_land.s_ruins (by omega) (by omega) (hx.n_land.e_ruins (by omega) (by omega)) dX11_countOfRuin_67 ?_
    refine r_geti (pc := 68) q fX11_251 (kz := 3) rfl (by decide) rfl ((hx.n_land.n_ruins (by omega) (by omega))).o dX11_countOfRuin_68 ?_
    refine r_ireturn (pc := 71) q rt dX11_countOfRuin_71 ?_
    exact ⟨by rw [if_neg (by omega), if_pos (by omega)], rfl⟩
  refine r_iload_1 (pc := 6) q dX11_countOfRuin_6 ?_
  refine r_bipush (pc := 7) q dX11_countOfRuin_7 (by decide) ?_
  refine r_isub (pc := 9) q dX11_countOfRuin_9 ?_
  refine r_aload_0 (pc := 10) q dX11_countOfRuin_10 ?_
  refine r_getr (pc := 11) q fX11_47 (kz := 6) rfl (by decide) rfl hx.o hx.r_land dX11_countOfRuin_11 ?_
  refine r_geti (pc := 14) q fX11_231 (kz := 2) rfl (by decide) rfl hx.n_land.o dX11_countOfRuin_14 ?_
  refine r_icmp_ge (pc := 17) q 36 dX11_countOfRuin_17 (by decide) ⟨by omega, by omega⟩ ⟨by omega, by omega⟩ (fun c17 => ?_) (fun c17 => ?_)
  · refine r_iload_1 (pc := 36) q dX11_countOfRuin_36 ?_
    refine r_bipush (pc := 37) q dX11_countOfRuin_37 (by decide) ?_
    refine r_icmp_lt (pc := 39) q 72 dX11_countOfRuin_39 (by decide) ⟨by omega, by omega⟩ ⟨by omega, by omega⟩ (fun c39 => ?_) (fun c39 => ?_)
    · refine r_iconst (pc := 72) q dX11_countOfRuin_72 ?_
      refine r_ireturn (pc := 73) q rt dX11_countOfRuin_73 ?_
      exact ⟨by rw [if_neg (by omega), if_neg (by omega)], rfl⟩
    refine r_iload_1 (pc := 42) q dX11_countOfRuin_42 ?_
    refine r_bipush (pc := 43) q dX11_countOfRuin_43 (by decide) ?_
    refine r_isub (pc := 45) q dX11_countOfRuin_45 ?_
    refine r_aload_0 (pc := 46) q dX11_countOfRuin_46 ?_
    refine r_getr (pc := 47) q fX11_47 (kz := 6) rfl (by decide) rfl hx.o hx.r_land dX11_countOfRuin_47 ?_
    refine r_geti (pc := 50) q fX11_231 (kz := 2) rfl (by decide) rfl hx.n_land.o dX11_countOfRuin_50 ?_
    refine r_icmp_ge (pc := 53) q 72 dX11_countOfRuin_53 (by decide) ⟨by omega, by omega⟩ ⟨by omega, by omega⟩ (fun c53 => ?_) (fun c53 => ?_)
    · refine r_iconst (pc := 72) q dX11_countOfRuin_72 ?_
      refine r_ireturn (pc := 73) q rt dX11_countOfRuin_73 ?_
      exact ⟨by rw [if_neg (by omega), if_neg (by omega)], rfl⟩
    refine r_aload_0 (pc := 56) q dX11_countOfRuin_56 ?_
    refine r_getr (pc := 57) q fX11_47 (kz := 6) rfl (by decide) rfl hx.o hx.r_land dX11_countOfRuin_57 ?_
    refine r_getr (pc := 60) q fX11_242 (kz := 0) rfl (by decide) rfl hx.n_land.o hx.n_land.r_ruins dX11_countOfRuin_60 ?_
    refine r_iload_1 (pc := 63) q dX11_countOfRuin_63 ?_
    refine r_bipush (pc := 64) q dX11_countOfRuin_64 (by decide) ?_
    refine r_isub (pc := 66) q dX11_countOfRuin_66 ?_
    refine r_aald27 (pc := 67) q hx.n_land.s_ruins (by omega) (by omega) (hx.n_land.e_ruins (by omega) (by omega)) dX11_countOfRuin_67 ?_
    refine r_geti (pc := 68) q fX11_251 (kz := 3) rfl (by decide) rfl ((hx.n_land.n_ruins (by omega) (by omega))).o dX11_countOfRuin_68 ?_
    refine r_ireturn (pc := 71) q rt dX11_countOfRuin_71 ?_
    exact ⟨by rw [if_neg (by omega), if_pos (by omega)], rfl⟩
  refine r_aload_0 (pc := 20) q dX11_countOfRuin_20 ?_
  refine r_getr (pc := 21) q fX11_47 (kz := 6) rfl (by decide) rfl hx.o hx.r_land dX11_countOfRuin_21 ?_
  refine r_getr (pc := 24) q fX11_242 (kz := 0) rfl (by decide) rfl hx.n_land.o hx.n_land.r_ruins dX11_countOfRuin_24 ?_
  refine r_iload_1 (pc := 27) q dX11_countOfRuin_27 ?_
  refine r_bipush (pc := 28) q dX11_countOfRuin_28 (by decide) ?_
  refine r_isub (pc := 30) q dX11_countOfRuin_30 ?_
  refine r_aald27 (pc := 31) q hx.n_land.s_ruins (by omega) (by omega) (hx.n_land.e_ruins (by omega) (by omega)) dX11_countOfRuin_31 ?_
  refine r_geti (pc := 32) q fX11_246 (kz := 1) rfl (by decide) rfl ((hx.n_land.n_ruins (by omega) (by omega))).o dX11_countOfRuin_32 ?_
  refine r_ireturn (pc := 35) q rt dX11_countOfRuin_35 ?_
  exact ⟨by rw [if_pos (by omega)], rfl⟩
def cntC (h : sH) (x : Nat) (w : Int) : Int := if w = 0 then h x 4 else if w = 1 then h (x + 183) 2 else if w = 2 then h (x + 183) 3 else if w = 3 then h (x + 258) 3 else if w = 4 then h x 10 else if w = 5 then h (x + 1) 1 else if w = 6 then h (x + 183) 4 else if w = 7 then h (x + 183) 5 else if 10 ≤ w ∧ w - 10 < h (x + 183) 2 then h (x + 183 + 3 + 6 * (w - 10).toNat) 1 else if 30 ≤ w ∧ w - 30 < h (x + 183) 2 then h (x + 183 + 3 + 6 * (w - 30).toNat) 3 else -1
theorem c_X11_count {l : Launch} {D : va_G} {aC : Nat → ClassId} {B t sz : Nat} {S : sS} {r : sR} {h : sH} {x : Nat} {w : Int} (hx : LX11 S r x) (hw : inR w) (c0 : 0 ≤ h (x + 183) 2) (c1 : h (x + 183) 2 ≤ 12) : CtI l yX11_count cX11_count 2 (some .int) 1 21 [.ref x, .int (iI w)] D aC B t sz S r h (fun z h1 => cntC h x w = z ∧ h = h1) := by
  unfold CtI
  refine Ct.of (lv := [some (.ref x), some (.int (iI w))]) (by decide +kernel) rfl (Nat.le_of_ble_eq_true rfl) (fun X hl q rt hnm => ?_)
  obtain ⟨w0, w9⟩ := id hw
  refine r_iload_1 (pc := 0) q dX11_count_0 ?_
  rcases (show w = 0 ∨ w = 1 ∨ w = 2 ∨ w = 3 ∨ w = 4 ∨ w = 5 ∨ w = 6 ∨ w = 7 ∨ (w < 0 ∨ 7 < w) by omega) with k1 | k1 | k1 | k1 | k1 | k1 | k1 | k1 | k1
  · refine r_topi k1 ?_
    refine r_tswI (pc := 1) q 48 dX11_count_1 ⟨by decide, by decide⟩ (by decide) (by decide) rfl (by decide) ?_
    refine r_aload_0 (pc := 48) q dX11_count_48 ?_
    refine r_geti (pc := 49) q fX11_37 (kz := 4) rfl (by decide) rfl hx.o dX11_count_49 ?_
    refine r_ireturn (pc := 52) q rt dX11_count_52 ?_
    exact ⟨by unfold cntC; rw [if_pos k1], rfl⟩
  · refine r_topi k1 ?_
    refine r_tswI (pc := 1) q 53 dX11_count_1 ⟨by decide, by decide⟩ (by decide) (by decide) rfl (by decide) ?_
    refine r_aload_0 (pc := 53) q dX11_count_53 ?_
    refine r_getr (pc := 54) q fX11_47 (kz := 6) rfl (by decide) rfl hx.o hx.r_land dX11_count_54 ?_
    refine r_geti (pc := 57) q fX11_231 (kz := 2) rfl (by decide) rfl hx.n_land.o dX11_count_57 ?_
    refine r_ireturn (pc := 60) q rt dX11_count_60 ?_
    exact ⟨by unfold cntC; rw [if_neg (by omega), if_pos (by omega)], rfl⟩
  · refine r_topi k1 ?_
    refine r_tswI (pc := 1) q 61 dX11_count_1 ⟨by decide, by decide⟩ (by decide) (by decide) rfl (by decide) ?_
    refine r_aload_0 (pc := 61) q dX11_count_61 ?_
    refine r_getr (pc := 62) q fX11_47 (kz := 6) rfl (by decide) rfl hx.o hx.r_land dX11_count_62 ?_
    refine r_geti (pc := 65) q fX11_234 (kz := 3) rfl (by decide) rfl hx.n_land.o dX11_count_65 ?_
    refine r_ireturn (pc := 68) q rt dX11_count_68 ?_
    exact ⟨by unfold cntC; rw [if_neg (by omega), if_neg (by omega), if_pos (by omega)], rfl⟩
  · refine r_topi k1 ?_
    refine r_tswI (pc := 1) q 69 dX11_count_1 ⟨by decide, by decide⟩ (by decide) (by decide) rfl (by decide) ?_
    refine r_aload_0 (pc := 69) q dX11_count_69 ?_
    refine r_getr (pc := 70) q fX11_54 (kz := 7) rfl (by decide) rfl hx.o hx.r_habits dX11_count_70 ?_
    refine r_geti (pc := 73) q fX11_237 (kz := 3) rfl (by decide) rfl hx.n_habits.o dX11_count_73 ?_
    refine r_ireturn (pc := 76) q rt dX11_count_76 ?_
    exact ⟨by unfold cntC; rw [if_neg (by omega), if_neg (by omega), if_neg (by omega), if_pos (by omega)], rfl⟩
  · refine r_topi k1 ?_
    refine r_tswI (pc := 1) q 77 dX11_count_1 ⟨by decide, by decide⟩ (by decide) (by decide) rfl (by decide) ?_
    refine r_aload_0 (pc := 77) q dX11_count_77 ?_
    refine r_geti (pc := 78) q fX11_72 (kz := 10) rfl (by decide) rfl hx.o dX11_count_78 ?_
    refine r_ireturn (pc := 81) q rt dX11_count_81 ?_
    exact ⟨by unfold cntC; rw [if_neg (by omega), if_neg (by omega), if_neg (by omega), if_neg (by omega), if_pos (by omega)], rfl⟩
  · refine r_topi k1 ?_
    refine r_tswI (pc := 1) q 82 dX11_count_1 ⟨by decide, by decide⟩ (by decide) (by decide) rfl (by decide) ?_
    refine r_aload_0 (pc := 82) q dX11_count_82 ?_
    refine r_getr (pc := 83) q fX11_12 (kz := 0) rfl (by decide) rfl hx.o hx.r_tape dX11_count_83 ?_
    refine r_geti (pc := 86) q fX11_75 (kz := 1) rfl (by decide) rfl hx.n_tape.o dX11_count_86 ?_
    refine r_ireturn (pc := 89) q rt dX11_count_89 ?_
    exact ⟨by unfold cntC; rw [if_neg (by omega), if_neg (by omega), if_neg (by omega), if_neg (by omega), if_neg (by omega), if_pos (by omega)], rfl⟩
  · refine r_topi k1 ?_
    refine r_tswI (pc := 1) q 90 dX11_count_1 ⟨by decide, by decide⟩ (by decide) (by decide) rfl (by decide) ?_
    refine r_aload_0 (pc := 90) q dX11_count_90 ?_
    refine r_getr (pc := 91) q fX11_47 (kz := 6) rfl (by decide) rfl hx.o hx.r_land dX11_count_91 ?_
    refine r_geti (pc := 94) q fX11_130 (kz := 4) rfl (by decide) rfl hx.n_land.o dX11_count_94 ?_
    refine r_ireturn (pc := 97) q rt dX11_count_97 ?_
    exact ⟨by unfold cntC; rw [if_neg (by omega), if_neg (by omega), if_neg (by omega), if_neg (by omega), if_neg (by omega), if_neg (by omega), if_pos (by omega)], rfl⟩
  · refine r_topi k1 ?_
    refine r_tswI (pc := 1) q 98 dX11_count_1 ⟨by decide, by decide⟩ (by decide) (by decide) rfl (by decide) ?_
    refine r_aload_0 (pc := 98) q dX11_count_98 ?_
    refine r_getr (pc := 99) q fX11_47 (kz := 6) rfl (by decide) rfl hx.o hx.r_land dX11_count_99 ?_
    refine r_geti (pc := 102) q fX11_133 (kz := 5) rfl (by decide) rfl hx.n_land.o dX11_count_102 ?_
    refine r_ireturn (pc := 105) q rt dX11_count_105 ?_
    exact ⟨by unfold cntC; rw [if_neg (by omega), if_neg (by omega), if_neg (by omega), if_neg (by omega), if_neg (by omega), if_neg (by omega), if_neg (by omega), if_pos (by omega)], rfl⟩
  refine r_tswO (pc := 1) q 106 dX11_count_1 ⟨by omega, by omega⟩ k1 (by decide) ?_
  refine r_aload_0 (pc := 106) q dX11_count_106 ?_
  refine r_iload_1 (pc := 107) q dX11_count_107 ?_
  refine r_cI1 (pc := 108) q (c_X11_countOfRuin hx hw c0 c1) mX11_238 hx.o (by decide) (Nat.le_of_ble_eq_true rfl) rfl dX11_count_108 (fun z1 h1 hz1 => ?_)
  obtain ⟨hz1, rfl⟩ := hz1
  refine r_ireturn (pc := 111) q rt dX11_count_111 ?_
  exact ⟨by unfold cntC; rw [if_neg (by omega), if_neg (by omega), if_neg (by omega), if_neg (by omega), if_neg (by omega), if_neg (by omega), if_neg (by omega), if_neg (by omega)]; exact hz1, rfl⟩
