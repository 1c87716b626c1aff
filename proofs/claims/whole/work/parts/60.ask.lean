def frQ (h h1 : sH) (x : Nat) : Prop := ∀ a : Nat, a ≠ x + 264 → (a < x + 265 ∨ x + 325 ≤ a) → (∀ l : Nat, l < 4 → a ≠ x + 10 + 44 * l) → h1 a = h a
def okX (h : sH) (x : Nat) (l1 day : Int) : Prop := 0 ≤ l1 ∧ l1 < h x 4 ∧ 0 ≤ day ∧ day ≤ h x 10
def bRX (h : sH) (x : Nat) (g : Int → Int → Int → Int) (n : Int → Int → Int) (u : Int → Int → Int → Int) (un : Int → Int → Int) (rg : Int → Int → Int) (rn : Int → Int) (sg : Int → Int → Int) (sn : Int → Int) (l1 day : Int) (row : Int → Int) : Prop := bRow (h (x + 7 + 44 * l1.toNat) 4) (h (x + 7 + 44 * l1.toNat) 3) (rsX h x u un l1) (rvX h x u un l1) (rcX h x u un l1) (owX h x g n rg rn sg sn l1 day) (RSt (h (x + 7 + 44 * l1.toNat) 4) (h (x + 7 + 44 * l1.toNat) 3) (rsX h x u un l1) (rvX h x u un l1) (rcX h x u un l1) (owX h x g n rg rn sg sn l1 day)) row
theorem c_X11_best {l : Launch} {D : va_G} {aC : Nat → ClassId} {B t sz : Nat} {S : sS} {r : sR} {h : sH} {x : Nat} {l1 day T : Int} {b : Int → Int} {g : Int → Int → Int → Int} {n : Int → Int → Int} {u : Int → Int → Int → Int} {un : Int → Int → Int} {rg sg : Int → Int → Int} {rn sn : Int → Int} (hx : LX11 S r x) (hI : clI h x b T g n u un rg rn sg sn) (hl1 : inR l1) (hd : inR day) : CtI l yX11_best cX11_best 3 (some .int) 5 121 [.ref x, .int (iI l1), .int (iI day)] D aC B t sz S r h (fun z h1 => frQ h h1 x ∧ ((¬ okX h x l1 day ∧ z = -1) ∨ (okX h x l1 day ∧ z = (if lsX h x g n u un rg rn sg sn l1 day < 1000000 then lsX h x g n u un rg rn sg sn l1 day else -2)))) := by
  unfold CtI
  refine Ct.of (lv := [some (.ref x), some (.int (iI l1)), some (.int (iI day))]) (by decide +kernel) rfl (Nat.le_of_ble_eq_true rfl) (fun X hl q rt hnm => ?_)
  obtain ⟨ht, ⟨c0, c4⟩, hr, hL, hH, hs, dd0, dd1⟩ := id hI
  refine r_aload_0 (pc := 0) q dX11_best_0 ?_
  refine r_iload_1 (pc := 1) q dX11_best_1 ?_
  refine r_cI1 (pc := 2) q (c_X11_hasList hx hl1 c0 c4) mX11_159 hx.o (by decide) (Nat.le_of_ble_eq_true rfl) rfl dX11_best_2 (fun z1 h1 hz1 => ?_)
  obtain ⟨hz1, rfl⟩ := hz1
  refine r_if_eq (pc := 5) q 16 dX11_best_5 (by decide) ⟨by omega, by omega⟩ (fun c5 => ?_) (fun c5 => ?_)
  · refine r_iconst (pc := 16) q dX11_best_16 ?_
    refine r_ireturn (pc := 17) q rt dX11_best_17 ?_
    exact ⟨fun _ _ _ _ => rfl, Or.inl ⟨fun z => by unfold okX at z; omega, rfl⟩⟩
  refine r_aload_0 (pc := 8) q dX11_best_8 ?_
  refine r_iload_2 (pc := 9) q dX11_best_9 ?_
  refine r_cI1 (pc := 10) q (c_X11_isKnownDay hx hd dd0 dd1) mX11_162 hx.o (by decide) (Nat.le_of_ble_eq_true rfl) rfl dX11_best_10 (fun z2 h2 hz2 => ?_)
  obtain ⟨hz2, rfl⟩ := hz2
  refine r_if_ne (pc := 13) q 18 dX11_best_13 (by decide) ⟨by omega, by omega⟩ (fun c13 => ?_) (fun c13 => ?_)
  · refine r_aload_0 (pc := 18) q dX11_best_18 ?_
    refine r_iload_1 (pc := 19) q dX11_best_19 ?_
    refine r_iload_2 (pc := 20) q dX11_best_20 ?_
    refine r_cI2 (pc := 21) q (c_X11_lay hx hI (by omega) (by omega) (by omega) (by omega)) mX11_165 hx.o (by decide) (Nat.le_of_ble_eq_true rfl) rfl dX11_best_21 (fun z3 h3 hz3 => ?_)
    obtain ⟨f1, f2, f3, f4, f5⟩ := hz3
    have ok : okX h x l1 day := ⟨by omega, by omega, by omega, by omega⟩
    refine r_if_eq (pc := 24) q 37 dX11_best_24 (by decide) ⟨by omega, by omega⟩ (fun c24 => ?_) (fun c24 => ?_)
    · refine r_bipush (pc := 37) q dX11_best_37 (by decide) ?_
      refine r_ireturn (pc := 39) q rt dX11_best_39 ?_
      refine ⟨fun a a0 a1 _ => f1 a a0 a1, Or.inr ⟨ok, ?_⟩⟩
      rw [if_neg (by omega)]
    refine r_aload_0 (pc := 27) q dX11_best_27 ?_
    refine r_getr (pc := 28) q fX11_68 (kz := 9) rfl (by decide) rfl hx.o hx.r_placer dX11_best_28 ?_
    refine r_geti (pc := 31) q fX11_168 (kz := 9) rfl (by decide) rfl hx.n_placer.o dX11_best_31 ?_
    rw [f4]
    refine r_goto (pc := 34) (tgt := 39) q dX11_best_34 (by decide) ?_
    refine r_ireturn (pc := 39) q rt dX11_best_39 ?_
    refine ⟨fun a a0 a1 _ => f1 a a0 a1, Or.inr ⟨ok, ?_⟩⟩
    rw [if_pos (by omega)]
  refine r_iconst (pc := 16) q dX11_best_16 ?_
  refine r_ireturn (pc := 17) q rt dX11_best_17 ?_
  exact ⟨fun _ _ _ _ => rfl, Or.inl ⟨fun z => by unfold okX at z; omega, rfl⟩⟩
theorem c_X11_at {l : Launch} {D : va_G} {aC : Nat → ClassId} {B t sz : Nat} {S : sS} {r : sR} {h : sH} {x : Nat} {l1 day st T : Int} {b : Int → Int} {g : Int → Int → Int → Int} {n : Int → Int → Int} {u : Int → Int → Int → Int} {un : Int → Int → Int} {rg sg : Int → Int → Int} {rn sn : Int → Int} (hx : LX11 S r x) (hI : clI h x b T g n u un rg rn sg sn) (hl1 : inR l1) (hd : inR day) (hst : inR st) : CtI l yX11_at cX11_at 4 (some .int) 5 121 [.ref x, .int (iI l1), .int (iI day), .int (iI st)] D aC B t sz S r h (fun z h1 => frQ h h1 x ∧ ((¬ (okX h x l1 day ∧ 0 ≤ st ∧ st < h (x + 7 + 44 * l1.toNat) 4) ∧ z = -1) ∨ ((okX h x l1 day ∧ 0 ≤ st ∧ st < h (x + 7 + 44 * l1.toNat) 4) ∧ ¬ lsX h x g n u un rg rn sg sn l1 day < 1000000 ∧ z = -1) ∨ ((okX h x l1 day ∧ 0 ≤ st ∧ st < h (x + 7 + 44 * l1.toNat) 4) ∧ lsX h x g n u un rg rn sg sn l1 day < 1000000 ∧ ∃ row : Int → Int, bRX h x g n u un rg rn sg sn l1 day row ∧ z = row st))) := by
  unfold CtI
  refine Ct.of (lv := [some (.ref x), some (.int (iI l1)), some (.int (iI day)), some (.int (iI st))]) (by decide +kernel) rfl (Nat.le_of_ble_eq_true rfl) (fun X hl q rt hnm => ?_)
  have rb := rtI_b hI
  obtain ⟨ht, ⟨c0, c4⟩, hr, hL, hH, hs, dd0, dd1⟩ := id hI
  refine r_aload_0 (pc := 0) q dX11_at_0 ?_
  refine r_iload_1 (pc := 1) q dX11_at_1 ?_
  refine r_iload_3 (pc := 2) q dX11_at_2 ?_
  refine r_cI2 (pc := 3) q (c_X11_hasStation hx hl1 hst c0 c4 rb) mX11_137 hx.o (by decide) (Nat.le_of_ble_eq_true rfl) rfl dX11_at_3 (fun z1 h1 hz1 => ?_)
  obtain ⟨hz1, rfl⟩ := hz1
  refine r_if_eq (pc := 6) q 26 dX11_at_6 (by decide) ⟨by omega, by omega⟩ (fun c6 => ?_) (fun c6 => ?_)
  · refine r_iconst (pc := 26) q dX11_at_26 ?_
    refine r_ireturn (pc := 27) q rt dX11_at_27 ?_
    exact ⟨fun _ _ _ _ => rfl, Or.inl ⟨fun z => by unfold okX at z; omega, rfl⟩⟩
  refine r_aload_0 (pc := 9) q dX11_at_9 ?_
  refine r_iload_2 (pc := 10) q dX11_at_10 ?_
  refine r_cI1 (pc := 11) q (c_X11_isKnownDay hx hd dd0 dd1) mX11_162 hx.o (by decide) (Nat.le_of_ble_eq_true rfl) rfl dX11_at_11 (fun z2 h2 hz2 => ?_)
  obtain ⟨hz2, rfl⟩ := hz2
  refine r_if_eq (pc := 14) q 26 dX11_at_14 (by decide) ⟨by omega, by omega⟩ (fun c14 => ?_) (fun c14 => ?_)
  · refine r_iconst (pc := 26) q dX11_at_26 ?_
    refine r_ireturn (pc := 27) q rt dX11_at_27 ?_
    exact ⟨fun _ _ _ _ => rfl, Or.inl ⟨fun z => by unfold okX at z; omega, rfl⟩⟩
  refine r_aload_0 (pc := 17) q dX11_at_17 ?_
  refine r_iload_1 (pc := 18) q dX11_at_18 ?_
  refine r_iload_2 (pc := 19) q dX11_at_19 ?_
  refine r_cI2 (pc := 20) q (c_X11_lay hx hI (by omega) (by omega) (by omega) (by omega)) mX11_165 hx.o (by decide) (Nat.le_of_ble_eq_true rfl) rfl dX11_at_20 (fun z3 h3 hz3 => ?_)
  obtain ⟨f1, f2, f3, f4, f5⟩ := hz3
  have ok : okX h x l1 day ∧ 0 ≤ st ∧ st < h (x + 7 + 44 * l1.toNat) 4 := ⟨⟨by omega, by omega, by omega, by omega⟩, by omega, by omega⟩
  have st10 := (rb l1 (by omega) (by omega)).2
  refine r_if_ne (pc := 23) q 28 dX11_at_23 (by decide) ⟨by omega, by omega⟩ (fun c23 => ?_) (fun c23 => ?_)
  · refine r_aload_0 (pc := 28) q dX11_at_28 ?_
    refine r_getr (pc := 29) q fX11_68 (kz := 9) rfl (by decide) rfl hx.o hx.r_placer dX11_at_29 ?_
    refine r_cV0 (pc := 32) q (c_X5_walkBest hx.n_placer f2 f3 f4 (by rcases f5 with ⟨-, y⟩ | ⟨y, -⟩; exact y; exact absurd y c23)) mX11_171 hx.n_placer.o (by decide) (Nat.le_of_ble_eq_true rfl) rfl dX11_at_32 (fun h5 hz5 => ?_)
    refine r_aload_0 (pc := 35) q dX11_at_35 ?_
    refine r_getr (pc := 36) q fX11_68 (kz := 9) rfl (by decide) rfl hx.o hx.r_placer dX11_at_36 ?_
    refine r_getr (pc := 39) q fX11_174 (kz := 6) rfl (by decide) rfl hx.n_placer.o hx.n_placer.r_bestPlaces dX11_at_39 ?_
    refine r_iload_3 (pc := 42) q dX11_at_42 ?_
    refine r_iald (pc := 43) q hx.n_placer.s_bestPlaces (by omega) (by omega) dX11_at_43 ?_
    refine r_ireturn (pc := 44) q rt dX11_at_44 ?_
    obtain ⟨k1, k2, k3⟩ := hz5
    exact ⟨fun a a0 a1 _ => by rw [k1 a (by omega)]; exact f1 a a0 a1, Or.inr (Or.inr ⟨ok, by rcases f5 with ⟨-, y⟩ | ⟨y, -⟩; exact y; exact absurd y c23, _, k2, rfl⟩)⟩
  refine r_iconst (pc := 26) q dX11_at_26 ?_
  refine r_ireturn (pc := 27) q rt dX11_at_27 ?_
  exact ⟨fun a a0 a1 _ => f1 a a0 a1, Or.inr (Or.inl ⟨ok, by omega, rfl⟩)⟩
theorem c_X11_span {l : Launch} {D : va_G} {aC : Nat → ClassId} {B t sz : Nat} {S : sS} {r : sR} {h : sH} {x : Nat} {l1 day d2 st wh T : Int} {b : Int → Int} {g : Int → Int → Int → Int} {n : Int → Int → Int} {u : Int → Int → Int → Int} {un : Int → Int → Int} {rg sg : Int → Int → Int} {rn sn : Int → Int} (hx : LX11 S r x) (hI : clI h x b T g n u un rg rn sg sn) (hl1 : inR l1) (hd : inR day) (hdd : inR d2) (hst : inR st) (hwh : inR wh) : CtI l yX11_span cX11_span 7 (some .int) 5 121 [.ref x, .int (iI l1), .int (iI day), .int (iI d2), .int (iI st), .int (iI wh)] D aC B t sz S r h (fun z h1 => frQ h h1 x ∧ ((¬ (okX h x l1 day ∧ (0 ≤ d2 ∧ d2 ≤ 20) ∧ (0 ≤ st ∧ st < h (x + 7 + 44 * l1.toNat) 4) ∧ 0 ≤ wh ∧ wh ≤ 1) ∧ z = -1) ∨ ((okX h x l1 day ∧ (0 ≤ d2 ∧ d2 ≤ 20) ∧ (0 ≤ st ∧ st < h (x + 7 + 44 * l1.toNat) 4) ∧ 0 ≤ wh ∧ wh ≤ 1) ∧ ¬ lsX h x g n u un rg rn sg sn l1 day < 1000000 ∧ z = -1) ∨ ((okX h x l1 day ∧ (0 ≤ d2 ∧ d2 ≤ 20) ∧ (0 ≤ st ∧ st < h (x + 7 + 44 * l1.toNat) 4) ∧ 0 ≤ wh ∧ wh ≤ 1) ∧ lsX h x g n u un rg rn sg sn l1 day < 1000000 ∧ spI (fun p => wF (h (x + 7 + 44 * l1.toNat) 3) (rsX h x u un l1) (rvX h x u un l1) (rcX h x u un l1) (owX h x g n rg rn sg sn l1 day) st.toNat p + RSt (h (x + 7 + 44 * l1.toNat) 4) (h (x + 7 + 44 * l1.toNat) 3) (rsX h x u un l1) (rvX h x u un l1) (rcX h x u un l1) (owX h x g n rg rn sg sn l1 day) (h (x + 7 + 44 * l1.toNat) 4 - 1 - st).toNat p ≤ lsX h x g n u un rg rn sg sn l1 day + d2) wh 601 z))) := by
  unfold CtI
  refine Ct.of (lv := [some (.ref x), some (.int (iI l1)), some (.int (iI day)), some (.int (iI d2)), some (.int (iI st)), some (.int (iI wh)), none]) (by decide +kernel) rfl (Nat.le_of_ble_eq_true rfl) (fun X hl q rt hnm => ?_)
  have rb := rtI_b hI
  obtain ⟨ht, ⟨c0, c4⟩, hr, hL, hH, hs, dd0, dd1⟩ := id hI
  obtain ⟨wh0, wh9⟩ := id hwh
  have no : ¬ ((0 ≤ d2 ∧ d2 ≤ 20) ∧ 0 ≤ wh ∧ wh ≤ 1) → G X 0 0 23 [some (.ref x), some (.int (iI l1)), some (.int (iI day)), some (.int (iI d2)), some (.int (iI st)), some (.int (iI wh)), none] [.int (iI 0)] sz S r h := by
    intro hn
    refine r_istore_6 (pc := 23) q dX11_span_23 rfl ?_
    refine r_iload_6 (pc := 25) q dX11_span_25 ?_
    refine r_if_eq (pc := 27) q 57 dX11_span_27 (by decide) ⟨by omega, by omega⟩ (fun c27 => ?_) (fun c27 => ?_)
    · refine r_iconst (pc := 57) q dX11_span_57 ?_
      refine r_ireturn (pc := 58) q rt dX11_span_58 ?_
      exact ⟨fun _ _ _ _ => rfl, Or.inl ⟨fun z => hn ⟨z.2.1, z.2.2.2⟩, rfl⟩⟩
    exact absurd rfl c27
  have yes : ((0 ≤ d2 ∧ d2 ≤ 20) ∧ 0 ≤ wh ∧ wh ≤ 1) → G X 0 0 23 [some (.ref x), some (.int (iI l1)), some (.int (iI day)), some (.int (iI d2)), some (.int (iI st)), some (.int (iI wh)), none] [.int (iI 1)] sz S r h := by
    intro hy
    refine r_istore_6 (pc := 23) q dX11_span_23 rfl ?_
    refine r_iload_6 (pc := 25) q dX11_span_25 ?_
    refine r_if_eq (pc := 27) q 57 dX11_span_27 (by decide) ⟨by omega, by omega⟩ (fun c27 => ?_) (fun c27 => ?_)
    · exact absurd c27 (by decide)
    refine r_aload_0 (pc := 30) q dX11_span_30 ?_
    refine r_iload_1 (pc := 31) q dX11_span_31 ?_
    refine r_iload_4 (pc := 32) q dX11_span_32 ?_
    refine r_cI2 (pc := 34) q (c_X11_hasStation hx hl1 hst c0 c4 rb) mX11_137 hx.o (by decide) (Nat.le_of_ble_eq_true rfl) rfl dX11_span_34 (fun z1 h1 hz1 => ?_)
    obtain ⟨hz1, rfl⟩ := hz1
    refine r_if_eq (pc := 37) q 57 dX11_span_37 (by decide) ⟨by omega, by omega⟩ (fun c37 => ?_) (fun c37 => ?_)
    · refine r_iconst (pc := 57) q dX11_span_57 ?_
      refine r_ireturn (pc := 58) q rt dX11_span_58 ?_
      exact ⟨fun _ _ _ _ => rfl, Or.inl ⟨fun z => by unfold okX at z; omega, rfl⟩⟩
    refine r_aload_0 (pc := 40) q dX11_span_40 ?_
    refine r_iload_2 (pc := 41) q dX11_span_41 ?_
    refine r_cI1 (pc := 42) q (c_X11_isKnownDay hx hd dd0 dd1) mX11_162 hx.o (by decide) (Nat.le_of_ble_eq_true rfl) rfl dX11_span_42 (fun z2 h2 hz2 => ?_)
    obtain ⟨hz2, rfl⟩ := hz2
    refine r_if_eq (pc := 45) q 57 dX11_span_45 (by decide) ⟨by omega, by omega⟩ (fun c45 => ?_) (fun c45 => ?_)
    · refine r_iconst (pc := 57) q dX11_span_57 ?_
      refine r_ireturn (pc := 58) q rt dX11_span_58 ?_
      exact ⟨fun _ _ _ _ => rfl, Or.inl ⟨fun z => by unfold okX at z; omega, rfl⟩⟩
    refine r_aload_0 (pc := 48) q dX11_span_48 ?_
    refine r_iload_1 (pc := 49) q dX11_span_49 ?_
    refine r_iload_2 (pc := 50) q dX11_span_50 ?_
    refine r_cI2 (pc := 51) q (c_X11_lay hx hI (by omega) (by omega) (by omega) (by omega)) mX11_165 hx.o (by decide) (Nat.le_of_ble_eq_true rfl) rfl dX11_span_51 (fun z3 h3 hz3 => ?_)
    obtain ⟨f1, f2, f3, f4, f5⟩ := hz3
    have ok : okX h x l1 day ∧ (0 ≤ d2 ∧ d2 ≤ 20) ∧ (0 ≤ st ∧ st < h (x + 7 + 44 * l1.toNat) 4) ∧ 0 ≤ wh ∧ wh ≤ 1 := ⟨⟨by omega, by omega, by omega, by omega⟩, hy.1, ⟨by omega, by omega⟩, hy.2⟩
    have st10 := (rb l1 (by omega) (by omega))
    have rd := f2.2.2.1
    have rsb := RSt_bd rd
    refine r_if_ne (pc := 54) q 59 dX11_span_54 (by decide) ⟨by omega, by omega⟩ (fun c54 => ?_) (fun c54 => ?_)
    · refine r_aload_0 (pc := 59) q dX11_span_59 ?_
      refine r_getr (pc := 60) q fX11_68 (kz := 9) rfl (by decide) rfl hx.o hx.r_placer dX11_span_60 ?_
      refine r_iload_4 (pc := 63) q dX11_span_63 ?_
      refine r_cV1 (pc := 65) q (c_X5_fillBefore hx.n_placer f2 (by omega) (by omega)) mX11_181 hx.n_placer.o (by decide) (Nat.le_of_ble_eq_true rfl) rfl dX11_span_65 (fun h5 hz5 => ?_)
      obtain ⟨k1, k2⟩ := hz5
      have lf : lsX h x g n u un rg rn sg sn l1 day < 1000000 := by
        rcases f5 with ⟨-, y⟩ | ⟨y, -⟩
        · exact y
        · exact absurd y c54
      have e9 : h5 (x + 265) 9 = lsX h x g n u un rg rn sg sn l1 day := by rw [k1 _ (by omega)]; exact f4
      have lb : 0 ≤ lsX h x g n u un rg rn sg sn l1 day := (mnP_in 601 (fun p p0 p1 => (rsb (h (x + 7 + 44 * l1.toNat) 4 - 1).toNat (by omega) p p0 (by omega)).1)).1
      have er : ∀ p : Int, 0 ≤ p → p < 601 → h5 (x + 265 + 13 + st.toNat) p = RSt (h (x + 7 + 44 * l1.toNat) 4) (h (x + 7 + 44 * l1.toNat) 3) (rsX h x u un l1) (rvX h x u un l1) (rcX h x u un l1) (owX h x g n rg rn sg sn l1 day) (h (x + 7 + 44 * l1.toNat) 4 - 1 - st).toNat p := fun p p0 p1 => by rw [k1 _ (by omega)]; exact f3 st p (by omega) (by omega) p0 p1
      have wb := (wF_ok rd st.toNat (by omega)).1
      have b1 : ∀ p : Int, 0 ≤ p → p < 601 → 0 ≤ h5 (x + 265 + 23) p ∧ h5 (x + 265 + 23) p ≤ 1000000 := fun p p0 p1 => by rw [k2 p p0 p1]; have := wb p p0 p1; omega
      have b2 : ∀ p : Int, 0 ≤ p → p < 601 → 0 ≤ h5 (x + 265 + 13 + st.toNat) p ∧ h5 (x + 265 + 13 + st.toNat) p ≤ 1000000 := fun p p0 p1 => by rw [er p p0 p1]; have := rsb (h (x + 7 + 44 * l1.toNat) 4 - 1 - st).toNat (by omega) p p0 p1; omega
      have cg : ∀ p : Int, 0 ≤ p → p < 601 → ((h5 (x + 265 + 23) p + h5 (x + 265 + 13 + st.toNat) p ≤ h5 (x + 265) 9 + d2) ↔ (wF (h (x + 7 + 44 * l1.toNat) 3) (rsX h x u un l1) (rvX h x u un l1) (rcX h x u un l1) (owX h x g n rg rn sg sn l1 day) st.toNat p + RSt (h (x + 7 + 44 * l1.toNat) 4) (h (x + 7 + 44 * l1.toNat) 3) (rsX h x u un l1) (rvX h x u un l1) (rcX h x u un l1) (owX h x g n rg rn sg sn l1 day) (h (x + 7 + 44 * l1.toNat) 4 - 1 - st).toNat p ≤ lsX h x g n u un rg rn sg sn l1 day + d2)) := fun p p0 p1 => by rw [k2 p p0 p1, er p p0 p1, e9]
      refine r_iload_5 (pc := 68) q dX11_span_68 ?_
      refine r_if_ne (pc := 70) q 86 dX11_span_70 (by decide) ⟨by omega, by omega⟩ (fun c70 => ?_) (fun c70 => ?_)
      · refine r_aload_0 (pc := 86) q dX11_span_86 ?_
        refine r_getr (pc := 87) q fX11_68 (kz := 9) rfl (by decide) rfl hx.o hx.r_placer dX11_span_87 ?_
        refine r_iload_4 (pc := 90) q dX11_span_90 ?_
        refine r_iload_3 (pc := 92) q dX11_span_92 ?_
        refine r_cI2 (pc := 93) q (c_X5_greatestPlace hx.n_placer (by omega) (by omega) b1 b2 (by rw [e9]; omega) (by omega) (by omega)) mX11_188 hx.n_placer.o (by decide) (Nat.le_of_ble_eq_true rfl) rfl dX11_span_93 (fun z7 h7 hz7 => ?_)
        obtain ⟨hz7, rfl⟩ := hz7
        refine r_ireturn (pc := 96) q rt dX11_span_96 ?_
        refine ⟨fun a a0 a1 _ => by rw [k1 a (by omega)]; exact f1 a a0 a1, Or.inr (Or.inr ⟨ok, lf, ?_⟩)⟩
        rw [show wh = 1 by omega]
        exact spI_congr hz7 cg
      refine r_aload_0 (pc := 73) q dX11_span_73 ?_
      refine r_getr (pc := 74) q fX11_68 (kz := 9) rfl (by decide) rfl hx.o hx.r_placer dX11_span_74 ?_
      refine r_iload_4 (pc := 77) q dX11_span_77 ?_
      refine r_iload_3 (pc := 79) q dX11_span_79 ?_
      refine r_cI2 (pc := 80) q (c_X5_leastPlace hx.n_placer (by omega) (by omega) b1 b2 (by rw [e9]; omega) (by omega) (by omega)) mX11_184 hx.n_placer.o (by decide) (Nat.le_of_ble_eq_true rfl) rfl dX11_span_80 (fun z6 h6 hz6 => ?_)
      obtain ⟨hz6, rfl⟩ := hz6
      refine r_goto (pc := 83) (tgt := 96) q dX11_span_83 (by decide) ?_
      refine r_ireturn (pc := 96) q rt dX11_span_96 ?_
      refine ⟨fun a a0 a1 _ => by rw [k1 a (by omega)]; exact f1 a a0 a1, Or.inr (Or.inr ⟨ok, lf, ?_⟩)⟩
      rw [show wh = 0 by omega]
      exact spI_congr hz6 cg
    refine r_iconst (pc := 57) q dX11_span_57 ?_
    refine r_ireturn (pc := 58) q rt dX11_span_58 ?_
    exact ⟨fun a a0 a1 _ => f1 a a0 a1, Or.inr (Or.inl ⟨ok, by omega, rfl⟩)⟩
  refine r_iload_3 (pc := 0) q dX11_span_0 ?_
  refine r_sI1 (pc := 1) q (c_X11_isWidth hdd) mX11_178 (by decide) (Nat.le_of_ble_eq_true rfl) rfl dX11_span_1 (fun z1 h1 hz1 => ?_)
  obtain ⟨hz1, rfl⟩ := hz1
  refine r_if_eq (pc := 4) q 22 dX11_span_4 (by decide) ⟨by omega, by omega⟩ (fun c4 => ?_) (fun c4 => ?_)
  · refine r_iconst (pc := 22) q dX11_span_22 ?_
    exact no (by omega)
  refine r_iload_5 (pc := 7) q dX11_span_7 ?_
  refine r_if_eq (pc := 9) q 18 dX11_span_9 (by decide) ⟨by omega, by omega⟩ (fun c9 => ?_) (fun c9 => ?_)
  · refine r_iconst (pc := 18) q dX11_span_18 ?_
    refine r_goto (pc := 19) (tgt := 23) q dX11_span_19 (by decide) ?_
    exact yes (by omega)
  refine r_iload_5 (pc := 12) q dX11_span_12 ?_
  refine r_iconst (pc := 14) q dX11_span_14 ?_
  refine r_icmp_ne (pc := 15) q 22 dX11_span_15 (by decide) ⟨by omega, by omega⟩ ⟨by omega, by omega⟩ (fun c15 => ?_) (fun c15 => ?_)
  · refine r_iconst (pc := 22) q dX11_span_22 ?_
    exact no (by omega)
  refine r_iconst (pc := 18) q dX11_span_18 ?_
  refine r_goto (pc := 19) (tgt := 23) q dX11_span_19 (by decide) ?_
  exact yes (by omega)
