theorem owR_congr {lost : Int} {ra rd ds ra2 rd2 ds2 : Int → Int} {day p : Int} : ∀ k : Nat, (∀ j : Int, 0 ≤ j → j < k → ra j = ra2 j ∧ rd j = rd2 j ∧ ds j = ds2 j) → owR lost ra rd ds day p k = owR lost ra2 rd2 ds2 day p k
  | 0, _ => rfl
  | k + 1, h => by
    have a := owR_congr (lost := lost) (ra := ra) (rd := rd) (ds := ds) (ra2 := ra2) (rd2 := rd2) (ds2 := ds2) (day := day) (p := p) k (fun j j0 j1 => h j j0 (by omega))
    obtain ⟨b1, b2, b3⟩ := h k (by omega) (by omega)
    simp only [owR]
    rw [a, b1, b2, b3]
theorem owS_congr {w moved : Int} {sa sf sd sa2 sf2 sd2 : Int → Int} {sm sm2 : Int → Prop} {day p : Int} : ∀ k : Nat, (∀ j : Int, 0 ≤ j → j < k → sa j = sa2 j ∧ sf j = sf2 j ∧ sd j = sd2 j ∧ (sm j ↔ sm2 j)) → owS w moved sa sf sd sm day p k = owS w moved sa2 sf2 sd2 sm2 day p k
  | 0, _ => rfl
  | k + 1, h => by
    have a := owS_congr (w := w) (moved := moved) (sa := sa) (sf := sf) (sd := sd) (sa2 := sa2) (sf2 := sf2) (sd2 := sd2) (sm := sm) (sm2 := sm2) (day := day) (p := p) k (fun j j0 j1 => h j j0 (by omega))
    obtain ⟨b1, b2, b3, b4⟩ := h k (by omega) (by omega)
    simp only [owS]
    rw [a, b1, b2, b3, propext b4]
theorem owC_fr {h h1 : sH} {y : Nat} {so : Int → Int} {rg sg : Int → Int → Int} {rn sn : Int → Int} {g : Int → Int} {n day p : Int} (c1 : h y 2 ≤ 12) (c2 : h y 3 ≤ 12) (e : ∀ a : Nat, y ≤ a → a < y + 75 → h1 a = h a) : owC h1 y so rg rn sg sn g n day p = owC h y so rg rn sg sn g n day p := by
  have ey := e y (by omega) (by omega)
  unfold owC
  rw [ey]
  rw [owR_congr (ra2 := fun k => h (y + 3 + 6 * k.toNat) 1) (rd2 := fun k => h (y + 3 + 6 * k.toNat) 3) (ds2 := fun k => dst so g n (rg k) (rn k)) (h y 2).toNat (fun j j0 j1 => by rw [e _ (by omega) (by omega)]; exact ⟨rfl, rfl, rfl⟩)]
  exact owS_congr (h y 3).toNat (fun j j0 j1 => by rw [e _ (by omega) (by omega)]; exact ⟨rfl, rfl, rfl, Iff.rfl⟩)
theorem owC_in {h : sH} {y : Nat} {so : Int → Int} {rg sg : Int → Int → Int} {rn sn : Int → Int} {g : Int → Int} {n day p : Int} (hL : lnC h y rg rn sg sn) (n0 : 0 ≤ n) (n8 : n ≤ 8) : 0 ≤ owC h y so rg rn sg sn g n day p ∧ owC h y so rg rn sg sn g n day p ≤ 650 := by
  obtain ⟨⟨R0, R12⟩, hr, ⟨S0, S12⟩, -, ⟨L0, L50⟩, ⟨M0, M50⟩⟩ := hL
  have a := owR_in (ra := fun k => h (y + 3 + 6 * k.toNat) 1) (rd := fun k => h (y + 3 + 6 * k.toNat) 3) (ds := fun k => dst so g n (rg k) (rn k)) (day := day) (p := p) L0 L50 (h y 2).toNat (fun j j0 j1 => by
    have := (hr j j0 (by omega)).2.1.2.1
    exact dst_in n0 n8 this.1 this.2)
  have b := owS_in (sa := fun k => h (y + 6 + 6 * k.toNat) 1) (sf := fun k => h (y + 6 + 6 * k.toNat) 2) (sd := fun k => h (y + 6 + 6 * k.toNat) 3) (sm := fun k => eqN (sg k) g (sn k) n) (day := day) (p := p) a.1 a.2 M0 M50 (h y 3).toNat
  unfold owC
  omega
/-- a list's readings and own costs, by what the class holds -/
noncomputable def rsX (h : sH) (x : Nat) (u : Int → Int → Int → Int) (un : Int → Int → Int) (l1 i : Int) : Nat := (rlN (u l1 i) (un l1 i) (h (x + 260)) (h (x + 259)) (h (x + 258) 3).toNat).1
noncomputable def rvX (h : sH) (x : Nat) (u : Int → Int → Int → Int) (un : Int → Int → Int) (l1 i : Int) : Int → Int := (rlN (u l1 i) (un l1 i) (h (x + 260)) (h (x + 259)) (h (x + 258) 3).toNat).2
noncomputable def rcX (h : sH) (x : Nat) (u : Int → Int → Int → Int) (un : Int → Int → Int) (l1 i k : Int) : Int := coN (u l1 i) (un l1 i) (h (x + 260)) (h (x + 259)) (h (x + 261)) (rvX h x u un l1 i k) (h (x + 258) 3).toNat
noncomputable def owX (h : sH) (x : Nat) (g : Int → Int → Int → Int) (n : Int → Int → Int) (rg : Int → Int → Int) (rn : Int → Int) (sg : Int → Int → Int) (sn : Int → Int) (l1 day i p : Int) : Int := owC h (x + 183) (h (x + 263)) rg rn sg sn (g l1 i) (n l1 i) day p
theorem clI_rdy {h : sH} {x : Nat} {b : Int → Int} {T : Int} {g : Int → Int → Int → Int} {n : Int → Int → Int} {u : Int → Int → Int → Int} {un : Int → Int → Int} {rg sg : Int → Int → Int} {rn sn : Int → Int} (hI : clI h x b T g n u un rg rn sg sn) {l1 day : Int} (l0 : 0 ≤ l1) (l2 : l1 < h x 4) : rdy (h (x + 7 + 44 * l1.toNat) 4) (h (x + 7 + 44 * l1.toNat) 3) (rsX h x u un l1) (rvX h x u un l1) (rcX h x u un l1) (owX h x g n rg rn sg sn l1 day) := by
  obtain ⟨ht, ⟨c0, c4⟩, hr, hL, ⟨H0, H20, hh⟩, hs, dd⟩ := hI
  obtain ⟨r1, r2, r3, r4⟩ := hr l1 l0 l2
  refine ⟨r1, r2, fun i i0 i1 => ?_, fun i p i0 i1 _ _ => ?_⟩
  · obtain ⟨⟨-, ⟨n0, n8⟩, hb⟩, n1⟩ := r4 i i0 i1
    have sz0 := rlS_sz (vS (u l1 i) (un l1 i).toNat) (h (x + 260)) (h (x + 259)) (fun b => wks (u l1 i) (un l1 i) (h (x + 260) b) (h (x + 259) b)) (h (x + 258) 3).toNat
    refine ⟨sz0.1, by have := sz0.2; unfold rsX rlN; omega, fun k k0 k1 => ?_⟩
    have v := rlN_in (W := h (x + 260)) (T := h (x + 259)) (b := (h (x + 258) 3).toNat) n1 n8 (fun i i0 i1 => (hb i i0 i1).2) (fun k k0 k1 => (hh k k0 (by omega)).1) k k0 k1
    have c0 : 0 ≤ rcX h x u un l1 i k := (CO_in (fun k k0 k1 => (hh k k0 (by omega)).2.2.1)).1
    have c20 := rlS_all (V := vS (u l1 i) (un l1 i).toNat) (W := h (x + 260)) (T := h (x + 259)) (wk := fun b => wks (u l1 i) (un l1 i) (h (x + 260) b) (h (x + 259) b)) (P := fun v => coN (u l1 i) (un l1 i) (h (x + 260)) (h (x + 259)) (h (x + 261)) v (h (x + 258) 3).toNat ≤ 20) (by
      unfold coN
      rw [CO_own (fun k k0 k1 => (hh k k0 (by omega)).2.2.1.1)]; omega) (h (x + 258) 3).toNat (fun b b0 b1 wb => CO_20 b0 (hh b b0 (by omega)).2.2.1.2 wb rfl _ b1) k k0 k1
    exact ⟨v.1, v.2, c0, c20⟩
  · have q := (r3 i i0 i1).1.2.1
    exact owC_in hL q.1 q.2
noncomputable def lsX (h : sH) (x : Nat) (g : Int → Int → Int → Int) (n : Int → Int → Int) (u : Int → Int → Int → Int) (un : Int → Int → Int) (rg : Int → Int → Int) (rn : Int → Int) (sg : Int → Int → Int) (sn : Int → Int) (l1 day : Int) : Int := mnP (RSt (h (x + 7 + 44 * l1.toNat) 4) (h (x + 7 + 44 * l1.toNat) 3) (rsX h x u un l1) (rvX h x u un l1) (rcX h x u un l1) (owX h x g n rg rn sg sn l1 day) (h (x + 7 + 44 * l1.toNat) 4 - 1).toNat) 601
theorem c_X11_lay {l : Launch} {D : va_G} {aC : Nat → ClassId} {B t sz : Nat} {S : sS} {r : sR} {h : sH} {x : Nat} {l1 day T : Int} {b : Int → Int} {g : Int → Int → Int → Int} {n : Int → Int → Int} {u : Int → Int → Int → Int} {un : Int → Int → Int} {rg sg : Int → Int → Int} {rn sn : Int → Int} (hx : LX11 S r x) (hI : clI h x b T g n u un rg rn sg sn) (l0 : 0 ≤ l1) (l2 : l1 < h x 4) (d0 : 0 ≤ day) (d1 : day ≤ 100000) : CtI l yX11_lay cX11_lay 5 (some .boolean) 4 97 [.ref x, .int (iI l1), .int (iI day)] D aC B t sz S r h (fun z h1 => (∀ a : Nat, a ≠ x + 264 → (a < x + 265 ∨ x + 325 ≤ a) → h1 a = h a) ∧ plC h1 (x + 265) (h (x + 7 + 44 * l1.toNat) 4) (h (x + 7 + 44 * l1.toNat) 3) (rsX h x u un l1) (rvX h x u un l1) (rcX h x u un l1) (owX h x g n rg rn sg sn l1 day) ∧ plR h1 (x + 265) (h (x + 7 + 44 * l1.toNat) 4) (h (x + 7 + 44 * l1.toNat) 3) (rsX h x u un l1) (rvX h x u un l1) (rcX h x u un l1) (owX h x g n rg rn sg sn l1 day) ∧ h1 (x + 265) 9 = lsX h x g n u un rg rn sg sn l1 day ∧ ((z = 1 ∧ lsX h x g n u un rg rn sg sn l1 day < 1000000) ∨ (z = 0 ∧ ¬ lsX h x g n u un rg rn sg sn l1 day < 1000000))) := by
  unfold CtI
  refine Ct.of (lv := [some (.ref x), some (.int (iI l1)), some (.int (iI day)), none, none]) (by decide +kernel) rfl (Nat.le_of_ble_eq_true rfl) (fun X hl q rt hnm => ?_)
  have rd := clI_rdy hI (day := day) l0 l2
  obtain ⟨ht, ⟨c0, c4⟩, hr, hL, hH, hs, dd⟩ := id hI
  obtain ⟨r1, ⟨N2, N10⟩, r3, r4⟩ := hr l1 l0 l2
  obtain ⟨Y, hY⟩ : ∃ Y, x + 7 + 44 * l1.toNat = Y := ⟨_, rfl⟩
  have hRt : LX7 S r Y := by rw [← hY]; exact hx.n_routes l0 (by omega)
  have Yb : x + 7 ≤ Y ∧ Y + 44 ≤ x + 183 := by omega
  have lc1 := hL.1.2
  have lc2 := hL.2.2.1.2
  have lp : ∀ (h1 : sH), (∀ a : Nat, a ≠ x + 265 → (a < x + 295 ∨ x + 325 ≤ a) → h1 a = h a) → h1 (x + 265) = up (up (h (x + 265)) 7 (h (x + 7 + 44 * l1.toNat) 4)) 8 (h (x + 7 + 44 * l1.toNat) 3) → (∀ i : Int, 0 ≤ i → i + 1 < h (x + 7 + 44 * l1.toNat) 4 → rdC h1 (x + 265 + 30 + 3 * i.toNat) (rsX h x u un l1 i) (rvX h x u un l1 i) (rcX h x u un l1 i)) → ∀ (e s : Nat), (s : Int) + e = h (x + 7 + 44 * l1.toNat) 4 → ∀ h2 : sH, (∀ a : Nat, a ≠ x + 264 → (a < x + 267 ∨ x + 277 ≤ a) → h2 a = h1 a) → (∀ t p : Int, 0 ≤ t → t < s → 0 ≤ p → p < 601 → h2 (x + 265 + 2 + t.toNat) p = owX h x g n rg rn sg sn l1 day t p) → G X 0 0 22 [some (.ref x), some (.int (iI l1)), some (.int (iI day)), some (.ref (x + 7 + 44 * l1.toNat)), some (.int (iI s))] [] sz S r h2 := by
    intro h1 f1 f2 f3 e
    rw [hY] at rd r1 N2 N10 r3 r4 f2 f3 ⊢
    have e1Y : h1 Y = h Y := f1 Y (by omega) (by omega)
    induction e with
    | zero =>
      intro s hs2 h2 g1 g2
      have e2Y : h2 Y = h Y := by rw [g1 Y (by omega) (by omega)]; exact e1Y
      have hC2 : plC h2 (x + 265) (h Y 4) (h Y 3) (rsX h x u un l1) (rvX h x u un l1) (rcX h x u un l1) (owX h x g n rg rn sg sn l1 day) := ⟨by rw [g1 _ (by omega) (by omega), f2, up_n _ _ (by decide), up_s], by rw [g1 _ (by omega) (by omega), f2, up_s], rd, fun i i0 i1 => rdC_fr (f3 i i0 i1) (g1 _ (by omega) (by omega)) (g1 _ (by omega) (by omega)) (g1 _ (by omega) (by omega)), fun t p t0 t1 p0 p1 => g2 t p t0 (by omega) p0 p1⟩
      refine r_iload_4 (pc := 22) q dX11_lay_22 ?_
      refine r_aload_3 (pc := 24) q dX11_lay_24 ?_
      refine r_geti (pc := 25) q fX11_212 (kz := 4) rfl (by decide) rfl hRt.o dX11_lay_25 ?_
      rw [e2Y]
      refine r_icmp_ge (pc := 28) q 66 dX11_lay_28 (by decide) ⟨by omega, by omega⟩ ⟨by omega, by omega⟩ (fun c28 => ?_) (fun c28 => ?_)
      · refine r_aload_0 (pc := 66) q dX11_lay_66 ?_
        refine r_getr (pc := 67) q fX11_68 (kz := 9) rfl (by decide) rfl hx.o hx.r_placer dX11_lay_67 ?_
        refine r_cV0 (pc := 70) q (c_X5_fillRest hx.n_placer hC2) mX11_276 hx.n_placer.o (by decide) (Nat.le_of_ble_eq_true rfl) rfl dX11_lay_70 (fun h3 hz3 => ?_)
        obtain ⟨k1, k2, k3⟩ := hz3
        have e9 : h3 (x + 265) 9 = lsX h x g n u un rg rn sg sn l1 day := by
          rw [k2, up_s]
          unfold lsX
          rw [hY]
        have lb := mnP_in (f := RSt (h Y 4) (h Y 3) (rsX h x u un l1) (rvX h x u un l1) (rcX h x u un l1) (owX h x g n rg rn sg sn l1 day) (h Y 4 - 1).toNat) 601 (fun p p0 p1 => (RSt_bd rd (h Y 4 - 1).toNat (by omega) p p0 (by omega)).1)
        have e9b : 0 ≤ h3 (x + 265) 9 ∧ h3 (x + 265) 9 ≤ 1000000 := by rw [k2, up_s]; exact lb
        refine r_aload_0 (pc := 73) q dX11_lay_73 ?_
        refine r_getr (pc := 74) q fX11_68 (kz := 9) rfl (by decide) rfl hx.o hx.r_placer dX11_lay_74 ?_
        refine r_cI0 (pc := 77) q (c_X5_hasPlacing hx.n_placer ⟨by omega, by omega⟩) mX11_279 hx.n_placer.o (by decide) (Nat.le_of_ble_eq_true rfl) rfl dX11_lay_77 (fun z5 h5 hz5 => ?_)
        obtain ⟨hz5, rfl⟩ := hz5
        refine r_zreturn (pc := 80) q rt dX11_lay_80 (by rcases hz5 with ⟨z, -⟩ | ⟨z, -⟩ <;> omega) ?_
        rw [e9] at hz5
        rw [hY]
        refine ⟨fun a a0 a1 => ?_, plC_fr hC2 (by rw [k2, up_n _ _ (by decide)]) (by rw [k2, up_n _ _ (by decide)]) (fun a a0 a1 => k1 a (by omega) (by omega)) (fun a a0 a1 => k1 a (by omega) (by omega)), k3, e9, hz5⟩
        rw [k1 a (by omega) (by omega), g1 a a0 (by omega)]
        exact f1 a (by omega) (by omega)
      exact absurd (by omega) c28
    | succ e ih =>
      intro s hs2 h2 g1 g2
      have e2Y : h2 Y = h Y := by rw [g1 Y (by omega) (by omega)]; exact e1Y
      have fr2 : ∀ a : Nat, a ≠ x + 264 → a < x + 265 → h2 a = h a := fun a a0 a1 => by rw [g1 a a0 (by omega)]; exact f1 a (by omega) (by omega)
      have hL2 := lnC_fr hL (h1 := h2) (fun a a0 a1 => fr2 a (by omega) (by omega))
      have r3s := r3 s (by omega) (by omega)
      have nm2 := nmC_fr r3s.1 (h1 := h2) (fr2 _ (by omega) (by omega)) (fr2 _ (by omega) (by omega))
      refine r_iload_4 (pc := 22) q dX11_lay_22 ?_
      refine r_aload_3 (pc := 24) q dX11_lay_24 ?_
      refine r_geti (pc := 25) q fX11_212 (kz := 4) rfl (by decide) rfl hRt.o dX11_lay_25 ?_
      rw [e2Y]
      refine r_icmp_ge (pc := 28) q 66 dX11_lay_28 (by decide) ⟨by omega, by omega⟩ ⟨by omega, by omega⟩ (fun c28 => ?_) (fun c28 => ?_)
      · exact absurd c28 (by omega)
      refine r_aload_0 (pc := 31) q dX11_lay_31 ?_
      refine r_getr (pc := 32) q fX11_47 (kz := 6) rfl (by decide) rfl hx.o hx.r_land dX11_lay_32 ?_
      refine r_aload_0 (pc := 35) q dX11_lay_35 ?_
      refine r_getr (pc := 36) q fX11_68 (kz := 9) rfl (by decide) rfl hx.o hx.r_placer dX11_lay_36 ?_
      refine r_getr (pc := 39) q fX11_268 (kz := 0) rfl (by decide) rfl hx.n_placer.o hx.n_placer.r_own dX11_lay_39 ?_
      refine r_iload_4 (pc := 42) q dX11_lay_42 ?_
      refine r_aald29 (pc := 44) q hx.n_placer.s_own (by omega) (by omega) (hx.n_placer.e_own (by omega) (by omega)) dX11_lay_44 ?_
      refine r_aload_3 (pc := 45) q dX11_lay_45 ?_
      refine r_getr (pc := 46) q fX11_140 (kz := 0) rfl (by decide) rfl hRt.o hRt.r_names dX11_lay_46 ?_
      refine r_iload_4 (pc := 49) q dX11_lay_49 ?_
      refine r_aald24 (pc := 51) q hRt.s_names (by omega) (by omega) (hRt.e_names (by omega) (by omega)) dX11_lay_51 ?_
      refine r_iload_2 (pc := 52) q dX11_lay_52 ?_
      refine r_aload_0 (pc := 53) q dX11_lay_53 ?_
      refine r_getr (pc := 54) q fX11_61 (kz := 8) rfl (by decide) rfl hx.o hx.r_sounds dX11_lay_54 ?_
      refine r_cV4 (pc := 57) q (c_X2_fillCosts hx.n_land (hx.n_placer.n_own (j := s) (by omega) (by omega)) (hRt.n_names (j := s) (by omega) (by omega)) hx.n_sounds hL2 nm2 (by rw [fr2 _ (by omega) (by omega)]; exact hs) d0 d1) mX11_272 hx.n_land.o (by decide) (Nat.le_of_ble_eq_true rfl) rfl dX11_lay_57 (fun h5 hz5 => ?_)
      obtain ⟨k1, k2⟩ := hz5
      refine r_iinc_4 (pc := 60) q dX11_lay_60 rfl ?_
      refine r_goto (pc := 63) (tgt := 22) q dX11_lay_63 (by decide) ?_
      refine ih (s + 1) (by omega) h5 (fun a a0 a1 => by rw [k1 a (by omega) (by omega)]; exact g1 a a0 a1) (fun t p t0 t1 p0 p1 => ?_)
      by_cases et : t = s
      · rw [et, k2 p p0 p1, owC_fr lc1 lc2 (fun a a0 a1 => fr2 a (by omega) (by omega)), fr2 (x + 262 + 1) (by omega) (by omega)]; rfl
      · rw [k1 _ (by omega) (by omega)]; exact g2 t p t0 (by omega) p0 p1
  refine r_aload_0 (pc := 0) q dX11_lay_0 ?_
  refine r_getr (pc := 1) q fX11_32 (kz := 3) rfl (by decide) rfl hx.o hx.r_routes dX11_lay_1 ?_
  refine r_iload_1 (pc := 4) q dX11_lay_4 ?_
  refine r_aald26 (pc := 5) q hx.s_routes (by omega) (by omega) (hx.e_routes (by omega) (by omega)) dX11_lay_5 ?_
  refine r_astore_3 (pc := 6) q dX11_lay_6 rfl ?_
  refine r_aload_0 (pc := 7) q dX11_lay_7 ?_
  refine r_getr (pc := 8) q fX11_68 (kz := 9) rfl (by decide) rfl hx.o hx.r_placer dX11_lay_8 ?_
  refine r_aload_3 (pc := 11) q dX11_lay_11 ?_
  refine r_aload_0 (pc := 12) q dX11_lay_12 ?_
  refine r_getr (pc := 13) q fX11_54 (kz := 7) rfl (by decide) rfl hx.o hx.r_habits dX11_lay_13 ?_
  refine r_cV2 (pc := 16) q (c_X5_takeRoute hx.n_placer (hx.n_routes (j := l1) (by omega) (by omega)) hx.n_habits rfl N2 N10 rfl hH r4 (by omega) (by omega)) mX11_264 hx.n_placer.o (by decide) (Nat.le_of_ble_eq_true rfl) rfl dX11_lay_16 (fun h1 hz1 => ?_)
  obtain ⟨f1, f2, f3⟩ := hz1
  refine r_iconst (pc := 19) q dX11_lay_19 ?_
  refine r_istore_4 (pc := 20) q dX11_lay_20 rfl ?_
  exact lp h1 (fun a a0 a1 => f1 a a0 (by omega)) f2 f3 (h (x + 7 + 44 * l1.toNat) 4).toNat 0 (by omega) h1 (fun _ _ _ => rfl) (fun t p t0 t1 => by omega)
