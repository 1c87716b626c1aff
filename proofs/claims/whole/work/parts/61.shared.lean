theorem c_X11_rivals {l : Launch} {D : va_G} {aC : Nat → ClassId} {B t sz : Nat} {S : sS} {r : sR} {h : sH} {x : Nat} {l1 day d2 T : Int} {b : Int → Int} {g : Int → Int → Int → Int} {n : Int → Int → Int} {u : Int → Int → Int → Int} {un : Int → Int → Int} {rg sg : Int → Int → Int} {rn sn : Int → Int} (hx : LX11 S r x) (hI : clI h x b T g n u un rg rn sg sn) (hl1 : inR l1) (hd : inR day) (hdd : inR d2) : CtI l yX11_rivals cX11_rivals 6 (some .int) 5 121 [.ref x, .int (iI l1), .int (iI day), .int (iI d2)] D aC B t sz S r h (fun z h1 => frQ h h1 x ∧ ((¬ (okX h x l1 day ∧ 0 ≤ d2 ∧ d2 ≤ 20) ∧ z = -1) ∨ ((okX h x l1 day ∧ 0 ≤ d2 ∧ d2 ≤ 20) ∧ ¬ lsX h x g n u un rg rn sg sn l1 day < 1000000 ∧ z = -1) ∨ ((okX h x l1 day ∧ 0 ≤ d2 ∧ d2 ≤ 20) ∧ lsX h x g n u un rg rn sg sn l1 day < 1000000 ∧ z = min 1000000 (tot (RSt (h (x + 7 + 44 * l1.toNat) 4) (h (x + 7 + 44 * l1.toNat) 3) (rsX h x u un l1) (rvX h x u un l1) (rcX h x u un l1) (owX h x g n rg rn sg sn l1 day) (h (x + 7 + 44 * l1.toNat) 4 - 1).toNat) (XC (h (x + 7 + 44 * l1.toNat) 4) (h (x + 7 + 44 * l1.toNat) 3) (rsX h x u un l1) (rvX h x u un l1) (rcX h x u un l1) (owX h x g n rg rn sg sn l1 day) (h (x + 7 + 44 * l1.toNat) 4 - 1).toNat) (lsX h x g n u un rg rn sg sn l1 day + d2))))) := by
  unfold CtI
  refine Ct.of (lv := [some (.ref x), some (.int (iI l1)), some (.int (iI day)), some (.int (iI d2)), none, none]) (by decide +kernel) rfl (Nat.le_of_ble_eq_true rfl) (fun X hl q rt hnm => ?_)
  obtain ⟨ht, ⟨cc0, cc4⟩, hr, hL, hH, hs, dd0, dd1⟩ := id hI
  refine r_iload_3 (pc := 0) q dX11_rivals_0 ?_
  refine r_sI1 (pc := 1) q (c_X11_isWidth hdd) mX11_178 (by decide) (Nat.le_of_ble_eq_true rfl) rfl dX11_rivals_1 (fun z1 h1 hz1 => ?_)
  obtain ⟨hz1, rfl⟩ := hz1
  refine r_if_eq (pc := 4) q 32 dX11_rivals_4 (by decide) ⟨by omega, by omega⟩ (fun c4 => ?_) (fun c4 => ?_)
  · refine r_iconst (pc := 32) q dX11_rivals_32 ?_
    refine r_ireturn (pc := 33) q rt dX11_rivals_33 ?_
    exact ⟨fun _ _ _ _ => rfl, Or.inl ⟨fun z => by unfold okX at z; omega, rfl⟩⟩
  refine r_aload_0 (pc := 7) q dX11_rivals_7 ?_
  refine r_iload_1 (pc := 8) q dX11_rivals_8 ?_
  refine r_cI1 (pc := 9) q (c_X11_hasList hx hl1 cc0 cc4) mX11_159 hx.o (by decide) (Nat.le_of_ble_eq_true rfl) rfl dX11_rivals_9 (fun z2 h2 hz2 => ?_)
  obtain ⟨hz2, rfl⟩ := hz2
  refine r_if_eq (pc := 12) q 32 dX11_rivals_12 (by decide) ⟨by omega, by omega⟩ (fun c12 => ?_) (fun c12 => ?_)
  · refine r_iconst (pc := 32) q dX11_rivals_32 ?_
    refine r_ireturn (pc := 33) q rt dX11_rivals_33 ?_
    exact ⟨fun _ _ _ _ => rfl, Or.inl ⟨fun z => by unfold okX at z; omega, rfl⟩⟩
  refine r_aload_0 (pc := 15) q dX11_rivals_15 ?_
  refine r_iload_2 (pc := 16) q dX11_rivals_16 ?_
  refine r_cI1 (pc := 17) q (c_X11_isKnownDay hx hd dd0 dd1) mX11_162 hx.o (by decide) (Nat.le_of_ble_eq_true rfl) rfl dX11_rivals_17 (fun z3 h3 hz3 => ?_)
  obtain ⟨hz3, rfl⟩ := hz3
  refine r_if_eq (pc := 20) q 32 dX11_rivals_20 (by decide) ⟨by omega, by omega⟩ (fun c20 => ?_) (fun c20 => ?_)
  · refine r_iconst (pc := 32) q dX11_rivals_32 ?_
    refine r_ireturn (pc := 33) q rt dX11_rivals_33 ?_
    exact ⟨fun _ _ _ _ => rfl, Or.inl ⟨fun z => by unfold okX at z; omega, rfl⟩⟩
  refine r_aload_0 (pc := 23) q dX11_rivals_23 ?_
  refine r_iload_1 (pc := 24) q dX11_rivals_24 ?_
  refine r_iload_2 (pc := 25) q dX11_rivals_25 ?_
  refine r_cI2 (pc := 26) q (c_X11_lay hx hI (by omega) (by omega) (by omega) (by omega)) mX11_165 hx.o (by decide) (Nat.le_of_ble_eq_true rfl) rfl dX11_rivals_26 (fun z5 h5 hz5 => ?_)
  obtain ⟨f1, f2, f3, f4, f5⟩ := hz5
  have ok : okX h x l1 day ∧ 0 ≤ d2 ∧ d2 ≤ 20 := ⟨⟨by omega, by omega, by omega, by omega⟩, by omega, by omega⟩
  refine r_if_ne (pc := 29) q 34 dX11_rivals_29 (by decide) ⟨by omega, by omega⟩ (fun c29 => ?_) (fun c29 => ?_)
  · refine r_aload_0 (pc := 34) q dX11_rivals_34 ?_
    refine r_getr (pc := 35) q fX11_68 (kz := 9) rfl (by decide) rfl hx.o hx.r_placer dX11_rivals_35 ?_
    refine r_iload_3 (pc := 38) q dX11_rivals_38 ?_
    have lf : lsX h x g n u un rg rn sg sn l1 day < 1000000 := by
      rcases f5 with ⟨-, y⟩ | ⟨y, -⟩
      · exact y
      · exact absurd y c29
    refine r_cL1 (pc := 39) q (c_X5_countWithin hx.n_placer f2 f3 f4 rfl lf (by omega) (by omega)) mX11_191 hx.n_placer.o (by decide) (Nat.le_of_ble_eq_true rfl) rfl dX11_rivals_39 (fun z6 h6 hz6 => ?_)
    obtain ⟨ez, eb, k1⟩ := hz6
    refine r_lstore_4 (pc := 42) q dX11_rivals_42 rfl ?_
    refine r_lload_4 (pc := 44) q dX11_rivals_44 ?_
    refine r_ldc2_w (pc := 46) q kX11_195 dX11_rivals_46 ?_
    refine r_lcmp (pc := 49) q dX11_rivals_49 ⟨by omega, by omega⟩ ⟨by omega, by omega⟩ ?_
    refine r_if_le (pc := 50) q 58 dX11_rivals_50 (by decide) ⟨by have := cmpI_in z6 1000000; omega, by have := cmpI_in z6 1000000; omega⟩ (fun c50 => ?_) (fun c50 => ?_)
    · refine r_lload_4 (pc := 58) q dX11_rivals_58 ?_
      refine r_l2i (pc := 60) q dX11_rivals_60 ⟨by unfold cmpI at c50; split at c50 <;> (try split at c50) <;> omega, by unfold cmpI at c50; split at c50 <;> (try split at c50) <;> omega⟩ ?_
      refine r_ireturn (pc := 61) q rt dX11_rivals_61 ?_
      refine ⟨fun a a0 a1 _ => by rw [k1 a (by omega)]; exact f1 a a0 a1, Or.inr (Or.inr ⟨ok, lf, ?_⟩)⟩
      rw [← ez]
      unfold cmpI at c50
      split at c50 <;> (try split at c50) <;> omega
    refine r_ldc (pc := 53) q kX11_197 dX11_rivals_53 ?_
    refine r_goto (pc := 55) (tgt := 61) q dX11_rivals_55 (by decide) ?_
    refine r_ireturn (pc := 61) q rt dX11_rivals_61 ?_
    refine ⟨fun a a0 a1 _ => by rw [k1 a (by omega)]; exact f1 a a0 a1, Or.inr (Or.inr ⟨ok, lf, ?_⟩)⟩
    rw [← ez]
    unfold cmpI at c50
    split at c50 <;> (try split at c50) <;> omega
  refine r_iconst (pc := 32) q dX11_rivals_32 ?_
  refine r_ireturn (pc := 33) q rt dX11_rivals_33 ?_
  exact ⟨fun a a0 a1 _ => f1 a a0 a1, Or.inr (Or.inl ⟨ok, by omega, rfl⟩)⟩
theorem clI_frQ {h h1 : sH} {x : Nat} {b : Int → Int} {T : Int} {g : Int → Int → Int → Int} {n : Int → Int → Int} {u : Int → Int → Int → Int} {un : Int → Int → Int} {rg sg : Int → Int → Int} {rn sn : Int → Int} (hI : clI h x b T g n u un rg rn sg sn) (f : frQ h h1 x) : clI h1 x b T g n u un rg rn sg sn := by
  obtain ⟨ht, ⟨c0, c4⟩, hr, hL, hH, hs, dd⟩ := hI
  have ex : h1 x = h x := f x (by omega) (by omega) (fun l _ => by omega)
  refine ⟨tpI_fr ht (f _ (by omega) (by omega) (fun l _ => by omega)) (f _ (by omega) (by omega) (fun l _ => by omega)), by rw [ex]; exact ⟨c0, c4⟩, fun l l0 l1 => ?_, lnC_fr hL (fun a a0 a1 => f a (by omega) (by omega) (fun l _ => by omega)), ?_, ?_, by rw [ex]; exact dd⟩
  · rw [ex] at l1
    obtain ⟨r1, r2, r3, r4⟩ := hr l l0 l1
    have ey : h1 (x + 7 + 44 * l.toNat) = h (x + 7 + 44 * l.toNat) := f _ (by omega) (by omega) (fun l _ => by omega)
    refine ⟨by rw [ey]; exact r1, by rw [ey]; exact r2, fun i i0 i1 => ?_, fun i i0 i1 => ?_⟩
    · rw [ey] at i1
      exact ⟨nmC_fr (r3 i i0 i1).1 (f _ (by omega) (by omega) (fun l _ => by omega)) (f _ (by omega) (by omega) (fun l _ => by omega)), (r3 i i0 i1).2⟩
    · rw [ey] at i1
      exact ⟨nuC_fr (r4 i i0 i1).1 (f _ (by omega) (by omega) (fun l _ => by omega)) (f _ (by omega) (by omega) (fun l _ => by omega)), (r4 i i0 i1).2⟩
  · have e0 := f (x + 258) (by omega) (by omega) (fun l _ => by omega)
    have e1 := f (x + 258 + 1) (by omega) (by omega) (fun l _ => by omega)
    have e2 := f (x + 258 + 2) (by omega) (by omega) (fun l _ => by omega)
    have e3 := f (x + 258 + 3) (by omega) (by omega) (fun l _ => by omega)
    unfold hbC at hH ⊢
    rw [e0, e1, e2, e3]; exact hH
  · rw [f (x + 263) (by omega) (by omega) (fun l _ => by omega)]; exact hs
theorem frQ_w {h h1 : sH} {x : Nat} {b : Int → Int} {T : Int} {g : Int → Int → Int → Int} {n : Int → Int → Int} {u : Int → Int → Int → Int} {un : Int → Int → Int} {rg sg : Int → Int → Int} {rn sn : Int → Int} (hI : clI h x b T g n u un rg rn sg sn) (f : frQ h h1 x) (l1 day : Int) : (∀ l : Int, 0 ≤ l → l < h x 4 → h1 (x + 7 + 44 * l.toNat) = h (x + 7 + 44 * l.toNat)) ∧ h1 x = h x ∧ rsX h1 x u un l1 = rsX h x u un l1 ∧ rvX h1 x u un l1 = rvX h x u un l1 ∧ rcX h1 x u un l1 = rcX h x u un l1 ∧ owX h1 x g n rg rn sg sn l1 day = owX h x g n rg rn sg sn l1 day := by
  obtain ⟨ht, ⟨c0, c4⟩, hr, hL, hH, hs, dd⟩ := hI
  have e0 := f (x + 258) (by omega) (by omega) (fun l _ => by omega)
  have e1 := f (x + 259) (by omega) (by omega) (fun l _ => by omega)
  have e2 := f (x + 260) (by omega) (by omega) (fun l _ => by omega)
  have e3 := f (x + 261) (by omega) (by omega) (fun l _ => by omega)
  have e5 := f (x + 263) (by omega) (by omega) (fun l _ => by omega)
  have q2 : rvX h1 x u un l1 = rvX h x u un l1 := by funext i; unfold rvX; rw [e0, e1, e2]
  refine ⟨fun l l0 l9 => f _ (by omega) (by omega) (fun l _ => by omega), f x (by omega) (by omega) (fun l _ => by omega), by funext i; unfold rsX; rw [e0, e1, e2], q2, by funext i k; unfold rcX; rw [e0, e1, e2, e3, q2], ?_⟩
  funext i p
  unfold owX
  rw [e5, owC_fr hL.1.2 hL.2.2.1.2 (fun a a0 a1 => f a (by omega) (by omega) (fun l _ => by omega))]
theorem c_X11_markMisread {l : Launch} {D : va_G} {aC : Nat → ClassId} {B t sz : Nat} {S : sS} {r : sR} {h : sH} {x : Nat} {l1 day T : Int} {b : Int → Int} {g : Int → Int → Int → Int} {n : Int → Int → Int} {u : Int → Int → Int → Int} {un : Int → Int → Int} {rg sg : Int → Int → Int} {rn sn : Int → Int} (hx : LX11 S r x) (hI : clI h x b T g n u un rg rn sg sn) (l0 : 0 ≤ l1) (l2 : l1 < h x 4) (d0 : 0 ≤ day) (d1 : day ≤ 100000) : CtI l yX11_markMisread cX11_markMisread 3 (some .boolean) 5 121 [.ref x, .int (iI l1), .int (iI day)] D aC B t sz S r h (fun z h1 => (∀ a : Nat, a ≠ x + 264 → (a < x + 265 ∨ x + 325 ≤ a) → a ≠ x + 7 + 44 * l1.toNat + 3 → h1 a = h a) ∧ ((z = 0 ∧ ¬ lsX h x g n u un rg rn sg sn l1 day < 1000000) ∨ (z = 1 ∧ lsX h x g n u un rg rn sg sn l1 day < 1000000 ∧ ∃ row : Int → Int, bRX h x g n u un rg rn sg sn l1 day row ∧ ∀ i : Int, 0 ≤ i → i + 1 < h (x + 7 + 44 * l1.toNat) 4 → (h1 (x + 7 + 44 * l1.toNat + 3) i = 1 ∧ misP (h (x + 7 + 44 * l1.toNat) 3) row (fun k => vS (u l1 k) (un l1 k).toNat) i) ∨ (h1 (x + 7 + 44 * l1.toNat + 3) i = 0 ∧ ¬ misP (h (x + 7 + 44 * l1.toNat) 3) row (fun k => vS (u l1 k) (un l1 k).toNat) i)))) := by
  unfold CtI
  refine Ct.of (lv := [some (.ref x), some (.int (iI l1)), some (.int (iI day))]) (by decide +kernel) rfl (Nat.le_of_ble_eq_true rfl) (fun X hl q rt hnm => ?_)
  obtain ⟨ht, ⟨c0, c4⟩, hr, hL, hH, hs, dd0, dd1⟩ := id hI
  obtain ⟨r1, ⟨N2, N10⟩, r3, r4⟩ := hr l1 l0 l2
  refine r_aload_0 (pc := 0) q dX11_markMisread_0 ?_
  refine r_iload_1 (pc := 1) q dX11_markMisread_1 ?_
  refine r_iload_2 (pc := 2) q dX11_markMisread_2 ?_
  refine r_cI2 (pc := 3) q (c_X11_lay hx hI l0 l2 d0 d1) mX11_165 hx.o (by decide) (Nat.le_of_ble_eq_true rfl) rfl dX11_markMisread_3 (fun z1 h1 hz1 => ?_)
  obtain ⟨f1, f2, f3, f4, f5⟩ := hz1
  refine r_if_ne (pc := 6) q 11 dX11_markMisread_6 (by decide) ⟨by omega, by omega⟩ (fun c6 => ?_) (fun c6 => ?_)
  · refine r_aload_0 (pc := 11) q dX11_markMisread_11 ?_
    refine r_getr (pc := 12) q fX11_68 (kz := 9) rfl (by decide) rfl hx.o hx.r_placer dX11_markMisread_12 ?_
    have lf : lsX h x g n u un rg rn sg sn l1 day < 1000000 := by
      rcases f5 with ⟨-, y⟩ | ⟨y, -⟩
      · exact y
      · exact absurd y c6
    refine r_cV0 (pc := 15) q (c_X5_walkBest hx.n_placer f2 f3 f4 lf) mX11_171 hx.n_placer.o (by decide) (Nat.le_of_ble_eq_true rfl) rfl dX11_markMisread_15 (fun h2 hz2 => ?_)
    obtain ⟨k1, k2, k3⟩ := hz2
    have e2 : ∀ a : Nat, a ≠ x + 264 → a < x + 265 → h2 a = h a := fun a a0 a1 => by rw [k1 a (by omega)]; exact f1 a a0 (by omega)
    have eY := e2 (x + 7 + 44 * l1.toNat) (by omega) (by omega)
    refine r_aload_0 (pc := 18) q dX11_markMisread_18 ?_
    refine r_getr (pc := 19) q fX11_32 (kz := 3) rfl (by decide) rfl hx.o hx.r_routes dX11_markMisread_19 ?_
    refine r_iload_1 (pc := 22) q dX11_markMisread_22 ?_
    refine r_aald26 (pc := 23) q hx.s_routes (by omega) (by omega) (hx.e_routes (by omega) (by omega)) dX11_markMisread_23 ?_
    refine r_aload_0 (pc := 24) q dX11_markMisread_24 ?_
    refine r_getr (pc := 25) q fX11_68 (kz := 9) rfl (by decide) rfl hx.o hx.r_placer dX11_markMisread_25 ?_
    refine r_getr (pc := 28) q fX11_174 (kz := 6) rfl (by decide) rfl hx.n_placer.o hx.n_placer.r_bestPlaces dX11_markMisread_28 ?_
    refine r_cV1 (pc := 31) q (c_X7_markMisread (u := u l1) (un := un l1) (hx.n_routes (j := l1) (by omega) (by omega)) hx.n_placer.s_bestPlaces (by rw [eY]) N2 N10 (by rw [eY]; exact r1) (fun i i0 i1 => k3 i i0 i1) (fun i i0 i1 => nuC_fr (r4 i i0 i1).1 (e2 _ (by omega) (by omega)) (e2 _ (by omega) (by omega)))) mX11_282 ((hx.n_routes (by omega) (by omega))).o (by decide) (Nat.le_of_ble_eq_true rfl) rfl dX11_markMisread_31 (fun h3 hz3 => ?_)
    refine r_iconst (pc := 34) q dX11_markMisread_34 ?_
    refine r_zreturn (pc := 35) q rt dX11_markMisread_35 (by decide) ?_
    obtain ⟨m1, m2⟩ := hz3
    rw [eY] at m2
    exact ⟨fun a a0 a1 a2 => by rw [m1 a a2, k1 a (by omega)]; exact f1 a a0 a1, Or.inr ⟨rfl, lf, _, k2, m2⟩⟩
  refine r_iconst (pc := 9) q dX11_markMisread_9 ?_
  refine r_zreturn (pc := 10) q rt dX11_markMisread_10 (by decide) ?_
  exact ⟨fun a a0 a1 _ => f1 a a0 a1, Or.inl ⟨rfl, by omega⟩⟩
theorem c_X11_shared {l : Launch} {D : va_G} {aC : Nat → ClassId} {B t sz : Nat} {S : sS} {r : sR} {h : sH} {x : Nat} {a b2 day T : Int} {b : Int → Int} {g : Int → Int → Int → Int} {n : Int → Int → Int} {u : Int → Int → Int → Int} {un : Int → Int → Int} {rg sg : Int → Int → Int} {rn sn : Int → Int} (hx : LX11 S r x) (hI : clI h x b T g n u un rg rn sg sn) (ha : inR a) (hb : inR b2) (hd : inR day) : CtI l yX11_shared cX11_shared 4 (some .int) 6 143 [.ref x, .int (iI a), .int (iI b2), .int (iI day)] D aC B t sz S r h (fun z h1 => frQ h h1 x ∧ ((¬ (okX h x a day ∧ 0 ≤ b2 ∧ b2 < h x 4 ∧ a ≠ b2) ∧ z = -1) ∨ ((okX h x a day ∧ 0 ≤ b2 ∧ b2 < h x 4 ∧ a ≠ b2) ∧ (¬ lsX h x g n u un rg rn sg sn a day < 1000000 ∨ ¬ lsX h x g n u un rg rn sg sn b2 day < 1000000) ∧ z = 0) ∨ ((okX h x a day ∧ 0 ≤ b2 ∧ b2 < h x 4 ∧ a ≠ b2) ∧ lsX h x g n u un rg rn sg sn a day < 1000000 ∧ lsX h x g n u un rg rn sg sn b2 day < 1000000 ∧ ∃ ra rb : Int → Int, bRX h x g n u un rg rn sg sn a day ra ∧ bRX h x g n u un rg rn sg sn b2 day rb ∧ z = cIJ (shP (h (x + 7 + 44 * a.toNat) 3) (h (x + 7 + 44 * b2.toNat) 3) ra rb (fun k => vS (u a k) (un a k).toNat) (fun k => vS (u b2 k) (un b2 k).toNat) (smC (g a) (n a) (u a) (un a) (g b2) (n b2) (u b2) (un b2))) (h (x + 7 + 44 * b2.toNat) 4 - 1).toNat (h (x + 7 + 44 * a.toNat) 4 - 1).toNat))) := by
  unfold CtI
  refine Ct.of (lv := [some (.ref x), some (.int (iI a)), some (.int (iI b2)), some (.int (iI day))]) (by decide +kernel) rfl (Nat.le_of_ble_eq_true rfl) (fun X hl q rt hnm => ?_)
  obtain ⟨ht, ⟨c0, c4⟩, hr, hL, hH, hs, dd0, dd1⟩ := id hI
  refine r_iload_1 (pc := 0) q dX11_shared_0 ?_
  refine r_iload_2 (pc := 1) q dX11_shared_1 ?_
  refine r_icmp_eq (pc := 2) q 29 dX11_shared_2 (by decide) ha hb (fun c2 => ?_) (fun c2 => ?_)
  · refine r_iconst (pc := 29) q dX11_shared_29 ?_
    refine r_ireturn (pc := 30) q rt dX11_shared_30 ?_
    exact ⟨fun _ _ _ _ => rfl, Or.inl ⟨fun z => z.2.2.2 c2, rfl⟩⟩
  refine r_aload_0 (pc := 5) q dX11_shared_5 ?_
  refine r_iload_1 (pc := 6) q dX11_shared_6 ?_
  refine r_cI1 (pc := 7) q (c_X11_hasList hx ha c0 c4) mX11_159 hx.o (by decide) (Nat.le_of_ble_eq_true rfl) rfl dX11_shared_7 (fun z1 h1 hz1 => ?_)
  obtain ⟨hz1, rfl⟩ := hz1
  refine r_if_eq (pc := 10) q 29 dX11_shared_10 (by decide) ⟨by omega, by omega⟩ (fun c10 => ?_) (fun c10 => ?_)
  · refine r_iconst (pc := 29) q dX11_shared_29 ?_
    refine r_ireturn (pc := 30) q rt dX11_shared_30 ?_
    exact ⟨fun _ _ _ _ => rfl, Or.inl ⟨fun z => by unfold okX at z; omega, rfl⟩⟩
  refine r_aload_0 (pc := 13) q dX11_shared_13 ?_
  refine r_iload_2 (pc := 14) q dX11_shared_14 ?_
  refine r_cI1 (pc := 15) q (c_X11_hasList hx hb c0 c4) mX11_159 hx.o (by decide) (Nat.le_of_ble_eq_true rfl) rfl dX11_shared_15 (fun z2 h2 hz2 => ?_)
  obtain ⟨hz2, rfl⟩ := hz2
  refine r_if_eq (pc := 18) q 29 dX11_shared_18 (by decide) ⟨by omega, by omega⟩ (fun c18 => ?_) (fun c18 => ?_)
  · refine r_iconst (pc := 29) q dX11_shared_29 ?_
    refine r_ireturn (pc := 30) q rt dX11_shared_30 ?_
    exact ⟨fun _ _ _ _ => rfl, Or.inl ⟨fun z => by unfold okX at z; omega, rfl⟩⟩
  refine r_aload_0 (pc := 21) q dX11_shared_21 ?_
  refine r_iload_3 (pc := 22) q dX11_shared_22 ?_
  refine r_cI1 (pc := 23) q (c_X11_isKnownDay hx hd dd0 dd1) mX11_162 hx.o (by decide) (Nat.le_of_ble_eq_true rfl) rfl dX11_shared_23 (fun z3 h3 hz3 => ?_)
  obtain ⟨hz3, rfl⟩ := hz3
  refine r_if_ne (pc := 26) q 31 dX11_shared_26 (by decide) ⟨by omega, by omega⟩ (fun c26 => ?_) (fun c26 => ?_)
  · refine r_aload_0 (pc := 31) q dX11_shared_31 ?_
    refine r_iload_1 (pc := 32) q dX11_shared_32 ?_
    refine r_iload_3 (pc := 33) q dX11_shared_33 ?_
    have ok : okX h x a day ∧ 0 ≤ b2 ∧ b2 < h x 4 ∧ a ≠ b2 := ⟨⟨by omega, by omega, by omega, by omega⟩, by omega, by omega, c2⟩
    obtain ⟨⟨oa0, oa1, od0, od1⟩, ob0, ob1, oab⟩ := id ok
    refine r_cI2 (pc := 34) q (c_X11_markMisread hx hI oa0 oa1 od0 (by omega)) mX11_198 hx.o (by decide) (Nat.le_of_ble_eq_true rfl) rfl dX11_shared_34 (fun z5 h5 hz5 => ?_)
    obtain ⟨f1, f2⟩ := hz5
    have fq : frQ h h5 x := fun y y0 y1 y2 => f1 y y0 y1 (by have := y2 a.toNat (by omega); omega)
    refine r_if_eq (pc := 37) q 49 dX11_shared_37 (by decide) (by rcases f2 with ⟨z, -⟩ | ⟨z, -⟩ <;> rw [z] <;> exact ⟨by decide, by decide⟩) (fun c37 => ?_) (fun c37 => ?_)
    · refine r_iconst (pc := 49) q dX11_shared_49 ?_
      refine r_ireturn (pc := 50) q rt dX11_shared_50 ?_
      refine ⟨fq, Or.inr (Or.inl ⟨ok, ?_, rfl⟩)⟩
      rcases f2 with ⟨-, y⟩ | ⟨y, -⟩
      · exact Or.inl y
      · omega
    refine r_aload_0 (pc := 40) q dX11_shared_40 ?_
    refine r_iload_2 (pc := 41) q dX11_shared_41 ?_
    refine r_iload_3 (pc := 42) q dX11_shared_42 ?_
    have f2' : lsX h x g n u un rg rn sg sn a day < 1000000 ∧ ∃ row : Int → Int, bRX h x g n u un rg rn sg sn a day row ∧ ∀ i : Int, 0 ≤ i → i + 1 < h (x + 7 + 44 * a.toNat) 4 → (h5 (x + 7 + 44 * a.toNat + 3) i = 1 ∧ misP (h (x + 7 + 44 * a.toNat) 3) row (fun k => vS (u a k) (un a k).toNat) i) ∨ (h5 (x + 7 + 44 * a.toNat + 3) i = 0 ∧ ¬ misP (h (x + 7 + 44 * a.toNat) 3) row (fun k => vS (u a k) (un a k).toNat) i) := by
      rcases f2 with ⟨y, -⟩ | ⟨-, y⟩
      · exact absurd y c37
      · exact y
    obtain ⟨lfa, ra, bra, ma⟩ := f2'
    have hI5 := clI_frQ hI fq
    obtain ⟨w1, w2, w3, w4, w5, w6⟩ := frQ_w hI fq b2 day
    have wb := w1 b2 ob0 ob1
    refine r_cI2 (pc := 43) q (c_X11_markMisread hx hI5 ob0 (by rw [w2]; exact ob1) od0 (by omega)) mX11_198 hx.o (by decide) (Nat.le_of_ble_eq_true rfl) rfl dX11_shared_43 (fun z6 h6 hz6 => ?_)
    obtain ⟨k1, k2⟩ := hz6
    have els : lsX h5 x g n u un rg rn sg sn b2 day = lsX h x g n u un rg rn sg sn b2 day := by unfold lsX; rw [w3, w4, w5, w6, wb]
    have ebr : bRX h5 x g n u un rg rn sg sn b2 day = bRX h x g n u un rg rn sg sn b2 day := by unfold bRX; rw [w3, w4, w5, w6, wb]
    rw [els, ebr, wb] at k2
    have fq6 : frQ h h6 x := fun y y0 y1 y2 => by rw [k1 y y0 y1 (by have := y2 b2.toNat (by omega); omega)]; exact fq y y0 y1 y2
    refine r_if_ne (pc := 46) q 51 dX11_shared_46 (by decide) (by rcases k2 with ⟨z, -⟩ | ⟨z, -⟩ <;> rw [z] <;> exact ⟨by decide, by decide⟩) (fun c46 => ?_) (fun c46 => ?_)
    · refine r_aload_0 (pc := 51) q dX11_shared_51 ?_
      refine r_getr (pc := 52) q fX11_32 (kz := 3) rfl (by decide) rfl hx.o hx.r_routes dX11_shared_52 ?_
      refine r_iload_1 (pc := 55) q dX11_shared_55 ?_
      refine r_aald26 (pc := 56) q hx.s_routes (by omega) (by omega) (hx.e_routes (by omega) (by omega)) dX11_shared_56 ?_
      refine r_aload_0 (pc := 57) q dX11_shared_57 ?_
      refine r_getr (pc := 58) q fX11_32 (kz := 3) rfl (by decide) rfl hx.o hx.r_routes dX11_shared_58 ?_
      refine r_iload_2 (pc := 61) q dX11_shared_61 ?_
      refine r_aald26 (pc := 62) q hx.s_routes (by omega) (by omega) (hx.e_routes (by omega) (by omega)) dX11_shared_62 ?_
      have k2' : lsX h x g n u un rg rn sg sn b2 day < 1000000 ∧ ∃ row : Int → Int, bRX h x g n u un rg rn sg sn b2 day row ∧ ∀ i : Int, 0 ≤ i → i + 1 < h (x + 7 + 44 * b2.toNat) 4 → (h6 (x + 7 + 44 * b2.toNat + 3) i = 1 ∧ misP (h (x + 7 + 44 * b2.toNat) 3) row (fun k => vS (u b2 k) (un b2 k).toNat) i) ∨ (h6 (x + 7 + 44 * b2.toNat + 3) i = 0 ∧ ¬ misP (h (x + 7 + 44 * b2.toNat) 3) row (fun k => vS (u b2 k) (un b2 k).toNat) i) := by
        rcases k2 with ⟨y, -⟩ | ⟨-, y⟩
        · exact absurd y c46
        · exact y
      obtain ⟨lfb, rb, brb, mb⟩ := k2'
      have hI6 := clI_frQ hI fq6
      obtain ⟨v1, v2, -⟩ := frQ_w hI fq6 b2 day
      have ya := v1 a oa0 oa1
      have yb := v1 b2 ob0 ob1
      obtain ⟨ra1, ra2, ra3, ra4⟩ := hI6.2.2.1 a oa0 (by rw [v2]; exact oa1)
      obtain ⟨rb1, rb2, rb3, rb4⟩ := hI6.2.2.1 b2 ob0 (by rw [v2]; exact ob1)
      rw [ya] at ra1 ra2 ra3 ra4
      rw [yb] at rb1 rb2 rb3 rb4
      refine r_cI1 (pc := 63) q (c_X7_countShared (A := misP (h (x + 7 + 44 * a.toNat) 3) ra (fun k => vS (u a k) (un a k).toNat)) (B2 := misP (h (x + 7 + 44 * b2.toNat) 3) rb (fun k => vS (u b2 k) (un b2 k).toNat)) (hx.n_routes (j := a) (by omega) (by omega)) (hx.n_routes (j := b2) (by omega) (by omega)) (by rw [ya]) (by rw [yb]) ra2.1 ra2.2 rb2.1 rb2.2 (fun i i0 i1 => (ra3 i i0 i1).1) (fun i i0 i1 => (ra4 i i0 i1).1) (fun i i0 i1 => (rb3 i i0 i1).1) (fun i i0 i1 => (rb4 i i0 i1).1) (fun i i0 i1 => by rw [k1 _ (by omega) (by omega) (by omega)]; exact ma i i0 i1) mb) mX11_201 ((hx.n_routes (by omega) (by omega))).o (by decide) (Nat.le_of_ble_eq_true rfl) rfl dX11_shared_63 (fun z8 h8 hz8 => ?_)
      obtain ⟨hz8, rfl⟩ := hz8
      refine r_ireturn (pc := 66) q rt dX11_shared_66 ?_
      exact ⟨fq6, Or.inr (Or.inr ⟨ok, lfa, lfb, ra, rb, bra, brb, hz8.symm⟩)⟩
    refine r_iconst (pc := 49) q dX11_shared_49 ?_
    refine r_ireturn (pc := 50) q rt dX11_shared_50 ?_
    refine ⟨fq6, Or.inr (Or.inl ⟨ok, ?_, rfl⟩)⟩
    rcases k2 with ⟨-, y⟩ | ⟨y, -⟩
    · exact Or.inr y
    · omega
  refine r_iconst (pc := 29) q dX11_shared_29 ?_
  refine r_ireturn (pc := 30) q rt dX11_shared_30 ?_
  exact ⟨fun _ _ _ _ => rfl, Or.inl ⟨fun z => by unfold okX at z; omega, rfl⟩⟩
