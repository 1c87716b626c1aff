/-! ===== the class itself ===== -/
def rtI (h : sH) (y : Nat) (g : Int → Int → Int) (n : Int → Int) (u : Int → Int → Int) (un : Int → Int) : Prop := (h y 3 = 2 ∨ h y 3 = 3) ∧ (2 ≤ h y 4 ∧ h y 4 ≤ 10) ∧ (∀ i : Int, 0 ≤ i → i < h y 4 → nmC h (y + 4 + 4 * i.toNat) (g i) (n i) ∧ 1 ≤ n i) ∧ ∀ i : Int, 0 ≤ i → i + 1 < h y 4 → nuC h (y + 6 + 4 * i.toNat) (u i) (un i) ∧ 1 ≤ un i
/-- what the class holds -/
def clI (h : sH) (x : Nat) (b : Int → Int) (T : Int) (g : Int → Int → Int → Int) (n : Int → Int → Int) (u : Int → Int → Int → Int) (un : Int → Int → Int) (rg : Int → Int → Int) (rn : Int → Int) (sg : Int → Int → Int) (sn : Int → Int) : Prop := tpI h (x + 1) b T ∧ (0 ≤ h x 4 ∧ h x 4 ≤ 4) ∧ (∀ l : Int, 0 ≤ l → l < h x 4 → rtI h (x + 7 + 44 * l.toNat) (g l) (n l) (u l) (un l)) ∧ lnC h (x + 183) rg rn sg sn ∧ hbC h (x + 258) ∧ soR (h (x + 263)) ∧ 0 ≤ h x 10 ∧ h x 10 ≤ 100000
theorem c_X11_isUnit {l : Launch} {D : va_G} {aC : Nat → ClassId} {B t sz : Nat} {S : sS} {r : sR} {h : sH} {u : Int} (hu : inR u) : CtI l yX11_isUnit cX11_isUnit 1 (some .boolean) 0 0 [.int (iI u)] D aC B t sz S r h (fun z h1 => ((z = 1 ∧ 2 ≤ u ∧ u ≤ 3) ∨ (z = 0 ∧ ¬ (2 ≤ u ∧ u ≤ 3))) ∧ h = h1) := by
  unfold CtI
  refine Ct.of (lv := [some (.int (iI u))]) (by decide +kernel) rfl (Nat.le_of_ble_eq_true rfl) (fun X hl q rt hnm => ?_)
  obtain ⟨u0, u1⟩ := hu
  refine r_iload_0 (pc := 0) q dX11_isUnit_0 ?_
  refine r_iconst (pc := 1) q dX11_isUnit_1 ?_
  refine r_icmp_eq (pc := 2) q 10 dX11_isUnit_2 (by decide) ⟨by omega, by omega⟩ ⟨by omega, by omega⟩ (fun c2 => ?_) (fun c2 => ?_)
  · refine r_iconst (pc := 10) q dX11_isUnit_10 ?_
    refine r_goto (pc := 11) (tgt := 15) q dX11_isUnit_11 (by decide) ?_
    refine r_zreturn (pc := 15) q rt dX11_isUnit_15 (by decide) ?_
    exact ⟨by omega, rfl⟩
  refine r_iload_0 (pc := 5) q dX11_isUnit_5 ?_
  refine r_iconst (pc := 6) q dX11_isUnit_6 ?_
  refine r_icmp_ne (pc := 7) q 14 dX11_isUnit_7 (by decide) ⟨by omega, by omega⟩ ⟨by omega, by omega⟩ (fun c7 => ?_) (fun c7 => ?_)
  · refine r_iconst (pc := 14) q dX11_isUnit_14 ?_
    refine r_zreturn (pc := 15) q rt dX11_isUnit_15 (by decide) ?_
    exact ⟨by omega, rfl⟩
  refine r_iconst (pc := 10) q dX11_isUnit_10 ?_
  refine r_goto (pc := 11) (tgt := 15) q dX11_isUnit_11 (by decide) ?_
  refine r_zreturn (pc := 15) q rt dX11_isUnit_15 (by decide) ?_
  exact ⟨by omega, rfl⟩
theorem c_X11_isPlace {l : Launch} {D : va_G} {aC : Nat → ClassId} {B t sz : Nat} {S : sS} {r : sR} {h : sH} {u : Int} (hu : inR u) : CtI l yX11_isPlace cX11_isPlace 1 (some .boolean) 0 0 [.int (iI u)] D aC B t sz S r h (fun z h1 => ((z = 1 ∧ 0 ≤ u ∧ u ≤ 600) ∨ (z = 0 ∧ ¬ (0 ≤ u ∧ u ≤ 600))) ∧ h = h1) := by
  unfold CtI
  refine Ct.of (lv := [some (.int (iI u))]) (by decide +kernel) rfl (Nat.le_of_ble_eq_true rfl) (fun X hl q rt hnm => ?_)
  obtain ⟨u0, u1⟩ := hu
  refine r_iload_0 (pc := 0) q dX11_isPlace_0 ?_
  refine r_if_lt (pc := 1) q 15 dX11_isPlace_1 (by decide) ⟨by omega, by omega⟩ (fun c1 => ?_) (fun c1 => ?_)
  · refine r_iconst (pc := 15) q dX11_isPlace_15 ?_
    refine r_zreturn (pc := 16) q rt dX11_isPlace_16 (by decide) ?_
    exact ⟨by omega, rfl⟩
  refine r_iload_0 (pc := 4) q dX11_isPlace_4 ?_
  refine r_sipush (pc := 5) q dX11_isPlace_5 (by decide) ?_
  refine r_icmp_gt (pc := 8) q 15 dX11_isPlace_8 (by decide) ⟨by omega, by omega⟩ ⟨by omega, by omega⟩ (fun c8 => ?_) (fun c8 => ?_)
  · refine r_iconst (pc := 15) q dX11_isPlace_15 ?_
    refine r_zreturn (pc := 16) q rt dX11_isPlace_16 (by decide) ?_
    exact ⟨by omega, rfl⟩
  refine r_iconst (pc := 11) q dX11_isPlace_11 ?_
  refine r_goto (pc := 12) (tgt := 16) q dX11_isPlace_12 (by decide) ?_
  refine r_zreturn (pc := 16) q rt dX11_isPlace_16 (by decide) ?_
  exact ⟨by omega, rfl⟩
theorem c_X11_isSignOrNone {l : Launch} {D : va_G} {aC : Nat → ClassId} {B t sz : Nat} {S : sS} {r : sR} {h : sH} {u : Int} (hu : inR u) : CtI l yX11_isSignOrNone cX11_isSignOrNone 1 (some .boolean) 0 0 [.int (iI u)] D aC B t sz S r h (fun z h1 => ((z = 1 ∧ 0 ≤ u ∧ u ≤ 4) ∨ (z = 0 ∧ ¬ (0 ≤ u ∧ u ≤ 4))) ∧ h = h1) := by
  unfold CtI
  refine Ct.of (lv := [some (.int (iI u))]) (by decide +kernel) rfl (Nat.le_of_ble_eq_true rfl) (fun X hl q rt hnm => ?_)
  obtain ⟨u0, u1⟩ := hu
  refine r_iload_0 (pc := 0) q dX11_isSignOrNone_0 ?_
  refine r_if_lt (pc := 1) q 16 dX11_isSignOrNone_1 (by decide) ⟨by omega, by omega⟩ (fun c1 => ?_) (fun c1 => ?_)
  · refine r_iconst (pc := 16) q dX11_isSignOrNone_16 ?_
    refine r_zreturn (pc := 17) q rt dX11_isSignOrNone_17 (by decide) ?_
    exact ⟨by omega, rfl⟩
  refine r_iload_0 (pc := 4) q dX11_isSignOrNone_4 ?_
  refine r_sv (pc := 5) q fX11_261 dX11_isSignOrNone_5 ?_
  refine r_svlen (pc := 8) q dX11_isSignOrNone_8 ?_
  refine r_icmp_ge (pc := 9) q 16 dX11_isSignOrNone_9 (by decide) ⟨by omega, by omega⟩ ⟨by omega, by omega⟩ (fun c9 => ?_) (fun c9 => ?_)
  · refine r_iconst (pc := 16) q dX11_isSignOrNone_16 ?_
    refine r_zreturn (pc := 17) q rt dX11_isSignOrNone_17 (by decide) ?_
    exact ⟨by omega, rfl⟩
  refine r_iconst (pc := 12) q dX11_isSignOrNone_12 ?_
  refine r_goto (pc := 13) (tgt := 17) q dX11_isSignOrNone_13 (by decide) ?_
  refine r_zreturn (pc := 17) q rt dX11_isSignOrNone_17 (by decide) ?_
  exact ⟨by omega, rfl⟩
theorem c_X11_isWidth {l : Launch} {D : va_G} {aC : Nat → ClassId} {B t sz : Nat} {S : sS} {r : sR} {h : sH} {u : Int} (hu : inR u) : CtI l yX11_isWidth cX11_isWidth 1 (some .boolean) 0 0 [.int (iI u)] D aC B t sz S r h (fun z h1 => ((z = 1 ∧ 0 ≤ u ∧ u ≤ 20) ∨ (z = 0 ∧ ¬ (0 ≤ u ∧ u ≤ 20))) ∧ h = h1) := by
  unfold CtI
  refine Ct.of (lv := [some (.int (iI u))]) (by decide +kernel) rfl (Nat.le_of_ble_eq_true rfl) (fun X hl q rt hnm => ?_)
  obtain ⟨u0, u1⟩ := hu
  refine r_iload_0 (pc := 0) q dX11_isWidth_0 ?_
  refine r_if_lt (pc := 1) q 14 dX11_isWidth_1 (by decide) ⟨by omega, by omega⟩ (fun c1 => ?_) (fun c1 => ?_)
  · refine r_iconst (pc := 14) q dX11_isWidth_14 ?_
    refine r_zreturn (pc := 15) q rt dX11_isWidth_15 (by decide) ?_
    exact ⟨by omega, rfl⟩
  refine r_iload_0 (pc := 4) q dX11_isWidth_4 ?_
  refine r_bipush (pc := 5) q dX11_isWidth_5 (by decide) ?_
  refine r_icmp_gt (pc := 7) q 14 dX11_isWidth_7 (by decide) ⟨by omega, by omega⟩ ⟨by omega, by omega⟩ (fun c7 => ?_) (fun c7 => ?_)
  · refine r_iconst (pc := 14) q dX11_isWidth_14 ?_
    refine r_zreturn (pc := 15) q rt dX11_isWidth_15 (by decide) ?_
    exact ⟨by omega, rfl⟩
  refine r_iconst (pc := 10) q dX11_isWidth_10 ?_
  refine r_goto (pc := 11) (tgt := 15) q dX11_isWidth_11 (by decide) ?_
  refine r_zreturn (pc := 15) q rt dX11_isWidth_15 (by decide) ?_
  exact ⟨by omega, rfl⟩
theorem c_X11_hasList {l : Launch} {D : va_G} {aC : Nat → ClassId} {B t sz : Nat} {S : sS} {r : sR} {h : sH} {x : Nat} {l1 : Int} (hx : LX11 S r x) (hl1 : inR l1) (c0 : 0 ≤ h x 4) (c4 : h x 4 ≤ 4) : CtI l yX11_hasList cX11_hasList 2 (some .boolean) 0 0 [.ref x, .int (iI l1)] D aC B t sz S r h (fun z h1 => ((z = 1 ∧ 0 ≤ l1 ∧ l1 < h x 4) ∨ (z = 0 ∧ ¬ (0 ≤ l1 ∧ l1 < h x 4))) ∧ h = h1) := by
  unfold CtI
  refine Ct.of (lv := [some (.ref x), some (.int (iI l1))]) (by decide +kernel) rfl (Nat.le_of_ble_eq_true rfl) (fun X hl q rt hnm => ?_)
  obtain ⟨u0, u1⟩ := hl1
  refine r_iload_1 (pc := 0) q dX11_hasList_0 ?_
  refine r_if_lt (pc := 1) q 16 dX11_hasList_1 (by decide) ⟨by omega, by omega⟩ (fun c1 => ?_) (fun c1 => ?_)
  · refine r_iconst (pc := 16) q dX11_hasList_16 ?_
    refine r_zreturn (pc := 17) q rt dX11_hasList_17 (by decide) ?_
    exact ⟨by omega, rfl⟩
  refine r_iload_1 (pc := 4) q dX11_hasList_4 ?_
  refine r_aload_0 (pc := 5) q dX11_hasList_5 ?_
  refine r_geti (pc := 6) q fX11_37 (kz := 4) rfl (by decide) rfl hx.o dX11_hasList_6 ?_
  refine r_icmp_ge (pc := 9) q 16 dX11_hasList_9 (by decide) ⟨by omega, by omega⟩ ⟨by omega, by omega⟩ (fun c9 => ?_) (fun c9 => ?_)
  · refine r_iconst (pc := 16) q dX11_hasList_16 ?_
    refine r_zreturn (pc := 17) q rt dX11_hasList_17 (by decide) ?_
    exact ⟨by omega, rfl⟩
  refine r_iconst (pc := 12) q dX11_hasList_12 ?_
  refine r_goto (pc := 13) (tgt := 17) q dX11_hasList_13 (by decide) ?_
  refine r_zreturn (pc := 17) q rt dX11_hasList_17 (by decide) ?_
  exact ⟨by omega, rfl⟩
theorem c_X11_isKnownDay {l : Launch} {D : va_G} {aC : Nat → ClassId} {B t sz : Nat} {S : sS} {r : sR} {h : sH} {x : Nat} {d : Int} (hx : LX11 S r x) (hd : inR d) (c0 : 0 ≤ h x 10) (c1 : h x 10 ≤ 100000) : CtI l yX11_isKnownDay cX11_isKnownDay 2 (some .boolean) 0 0 [.ref x, .int (iI d)] D aC B t sz S r h (fun z h1 => ((z = 1 ∧ 0 ≤ d ∧ d ≤ h x 10) ∨ (z = 0 ∧ ¬ (0 ≤ d ∧ d ≤ h x 10))) ∧ h = h1) := by
  unfold CtI
  refine Ct.of (lv := [some (.ref x), some (.int (iI d))]) (by decide +kernel) rfl (Nat.le_of_ble_eq_true rfl) (fun X hl q rt hnm => ?_)
  obtain ⟨u0, u1⟩ := hd
  refine r_iload_1 (pc := 0) q dX11_isKnownDay_0 ?_
  refine r_if_lt (pc := 1) q 16 dX11_isKnownDay_1 (by decide) ⟨by omega, by omega⟩ (fun c1 => ?_) (fun c1 => ?_)
  · refine r_iconst (pc := 16) q dX11_isKnownDay_16 ?_
    refine r_zreturn (pc := 17) q rt dX11_isKnownDay_17 (by decide) ?_
    exact ⟨by omega, rfl⟩
  refine r_iload_1 (pc := 4) q dX11_isKnownDay_4 ?_
  refine r_aload_0 (pc := 5) q dX11_isKnownDay_5 ?_
  refine r_geti (pc := 6) q fX11_72 (kz := 10) rfl (by decide) rfl hx.o dX11_isKnownDay_6 ?_
  refine r_icmp_gt (pc := 9) q 16 dX11_isKnownDay_9 (by decide) ⟨by omega, by omega⟩ ⟨by omega, by omega⟩ (fun c9 => ?_) (fun c9 => ?_)
  · refine r_iconst (pc := 16) q dX11_isKnownDay_16 ?_
    refine r_zreturn (pc := 17) q rt dX11_isKnownDay_17 (by decide) ?_
    exact ⟨by omega, rfl⟩
  refine r_iconst (pc := 12) q dX11_isKnownDay_12 ?_
  refine r_goto (pc := 13) (tgt := 17) q dX11_isKnownDay_13 (by decide) ?_
  refine r_zreturn (pc := 17) q rt dX11_isKnownDay_17 (by decide) ?_
  exact ⟨by omega, rfl⟩
theorem c_X11_hasStation {l : Launch} {D : va_G} {aC : Nat → ClassId} {B t sz : Nat} {S : sS} {r : sR} {h : sH} {x : Nat} {l1 i : Int} (hx : LX11 S r x) (hl1 : inR l1) (hi : inR i) (c0 : 0 ≤ h x 4) (c4 : h x 4 ≤ 4) (hr : ∀ l : Int, 0 ≤ l → l < h x 4 → 2 ≤ h (x + 7 + 44 * l.toNat) 4 ∧ h (x + 7 + 44 * l.toNat) 4 ≤ 10) : CtI l yX11_hasStation cX11_hasStation 3 (some .boolean) 1 21 [.ref x, .int (iI l1), .int (iI i)] D aC B t sz S r h (fun z h1 => ((z = 1 ∧ 0 ≤ l1 ∧ l1 < h x 4 ∧ 0 ≤ i ∧ i < h (x + 7 + 44 * l1.toNat) 4) ∨ (z = 0 ∧ ¬ (0 ≤ l1 ∧ l1 < h x 4 ∧ 0 ≤ i ∧ i < h (x + 7 + 44 * l1.toNat) 4))) ∧ h = h1) := by
  unfold CtI
  refine Ct.of (lv := [some (.ref x), some (.int (iI l1)), some (.int (iI i))]) (by decide +kernel) rfl (Nat.le_of_ble_eq_true rfl) (fun X hl q rt hnm => ?_)
  refine r_aload_0 (pc := 0) q dX11_hasStation_0 ?_
  refine r_iload_1 (pc := 1) q dX11_hasStation_1 ?_
  refine r_cI1 (pc := 2) q (c_X11_hasList hx hl1 c0 c4) mX11_159 hx.o (by decide) (Nat.le_of_ble_eq_true rfl) rfl dX11_hasStation_2 (fun z1 h1 hz1 => ?_)
  obtain ⟨hz1, rfl⟩ := hz1
  refine r_if_eq (pc := 5) q 25 dX11_hasStation_5 (by decide) ⟨by omega, by omega⟩ (fun c5 => ?_) (fun c5 => ?_)
  · refine r_iconst (pc := 25) q dX11_hasStation_25 ?_
    refine r_zreturn (pc := 26) q rt dX11_hasStation_26 (by decide) ?_
    exact ⟨by omega, rfl⟩
  have rl := hr l1 (by omega) (by omega)
  refine r_aload_0 (pc := 8) q dX11_hasStation_8 ?_
  refine r_getr (pc := 9) q fX11_32 (kz := 3) rfl (by decide) rfl hx.o hx.r_routes dX11_hasStation_9 ?_
  refine r_iload_1 (pc := 12) q dX11_hasStation_12 ?_
  refine r_aald26 (pc := 13) q hx.s_routes (by omega) (by omega) (hx.e_routes (by omega) (by omega)) dX11_hasStation_13 ?_
  refine r_iload_2 (pc := 14) q dX11_hasStation_14 ?_
  refine r_cI1 (pc := 15) q (c_X7_hasStation (hx.n_routes (by omega) (by omega)) hi (by omega) (by omega)) mX11_223 ((hx.n_routes (by omega) (by omega))).o (by decide) (Nat.le_of_ble_eq_true rfl) rfl dX11_hasStation_15 (fun z2 h2 hz2 => ?_)
  obtain ⟨hz2, rfl⟩ := hz2
  refine r_if_eq (pc := 18) q 25 dX11_hasStation_18 (by decide) ⟨by omega, by omega⟩ (fun c18 => ?_) (fun c18 => ?_)
  · refine r_iconst (pc := 25) q dX11_hasStation_25 ?_
    refine r_zreturn (pc := 26) q rt dX11_hasStation_26 (by decide) ?_
    exact ⟨by omega, rfl⟩
  refine r_iconst (pc := 21) q dX11_hasStation_21 ?_
  refine r_goto (pc := 22) (tgt := 26) q dX11_hasStation_22 (by decide) ?_
  refine r_zreturn (pc := 26) q rt dX11_hasStation_26 (by decide) ?_
  exact ⟨by omega, rfl⟩
theorem c_X11_hasNumeral {l : Launch} {D : va_G} {aC : Nat → ClassId} {B t sz : Nat} {S : sS} {r : sR} {h : sH} {x : Nat} {l1 i : Int} (hx : LX11 S r x) (hl1 : inR l1) (hi : inR i) (c0 : 0 ≤ h x 4) (c4 : h x 4 ≤ 4) (hr : ∀ l : Int, 0 ≤ l → l < h x 4 → 2 ≤ h (x + 7 + 44 * l.toNat) 4 ∧ h (x + 7 + 44 * l.toNat) 4 ≤ 10) : CtI l yX11_hasNumeral cX11_hasNumeral 3 (some .boolean) 1 21 [.ref x, .int (iI l1), .int (iI i)] D aC B t sz S r h (fun z h1 => ((z = 1 ∧ 0 ≤ l1 ∧ l1 < h x 4 ∧ 0 ≤ i ∧ i + 1 < h (x + 7 + 44 * l1.toNat) 4) ∨ (z = 0 ∧ ¬ (0 ≤ l1 ∧ l1 < h x 4 ∧ 0 ≤ i ∧ i + 1 < h (x + 7 + 44 * l1.toNat) 4))) ∧ h = h1) := by
  unfold CtI
  refine Ct.of (lv := [some (.ref x), some (.int (iI l1)), some (.int (iI i))]) (by decide +kernel) rfl (Nat.le_of_ble_eq_true rfl) (fun X hl q rt hnm => ?_)
  refine r_aload_0 (pc := 0) q dX11_hasNumeral_0 ?_
  refine r_iload_1 (pc := 1) q dX11_hasNumeral_1 ?_
  refine r_cI1 (pc := 2) q (c_X11_hasList hx hl1 c0 c4) mX11_159 hx.o (by decide) (Nat.le_of_ble_eq_true rfl) rfl dX11_hasNumeral_2 (fun z1 h1 hz1 => ?_)
  obtain ⟨hz1, rfl⟩ := hz1
  refine r_if_eq (pc := 5) q 25 dX11_hasNumeral_5 (by decide) ⟨by omega, by omega⟩ (fun c5 => ?_) (fun c5 => ?_)
  · refine r_iconst (pc := 25) q dX11_hasNumeral_25 ?_
    refine r_zreturn (pc := 26) q rt dX11_hasNumeral_26 (by decide) ?_
    exact ⟨by omega, rfl⟩
  have rl := hr l1 (by omega) (by omega)
  refine r_aload_0 (pc := 8) q dX11_hasNumeral_8 ?_
  refine r_getr (pc := 9) q fX11_32 (kz := 3) rfl (by decide) rfl hx.o hx.r_routes dX11_hasNumeral_9 ?_
  refine r_iload_1 (pc := 12) q dX11_hasNumeral_12 ?_
  refine r_aald26 (pc := 13) q hx.s_routes (by omega) (by omega) (hx.e_routes (by omega) (by omega)) dX11_hasNumeral_13 ?_
  refine r_iload_2 (pc := 14) q dX11_hasNumeral_14 ?_
  refine r_cI1 (pc := 15) q (c_X7_hasNumeral (hx.n_routes (by omega) (by omega)) hi (by omega) (by omega)) mX11_215 ((hx.n_routes (by omega) (by omega))).o (by decide) (Nat.le_of_ble_eq_true rfl) rfl dX11_hasNumeral_15 (fun z2 h2 hz2 => ?_)
  obtain ⟨hz2, rfl⟩ := hz2
  refine r_if_eq (pc := 18) q 25 dX11_hasNumeral_18 (by decide) ⟨by omega, by omega⟩ (fun c18 => ?_) (fun c18 => ?_)
  · refine r_iconst (pc := 25) q dX11_hasNumeral_25 ?_
    refine r_zreturn (pc := 26) q rt dX11_hasNumeral_26 (by decide) ?_
    exact ⟨by omega, rfl⟩
  refine r_iconst (pc := 21) q dX11_hasNumeral_21 ?_
  refine r_goto (pc := 22) (tgt := 26) q dX11_hasNumeral_22 (by decide) ?_
  refine r_zreturn (pc := 26) q rt dX11_hasNumeral_26 (by decide) ?_
  exact ⟨by omega, rfl⟩
theorem c_X11_place {l : Launch} {D : va_G} {aC : Nat → ClassId} {B t sz : Nat} {S : sS} {r : sR} {h : sH} {x : Nat} (hx : LX11 S r x) : CtI l yX11_place cX11_place 1 (some .int) 0 0 [.ref x] D aC B t sz S r h (fun z h1 => h x 5 = z ∧ h = h1) := by
  unfold CtI
  refine Ct.of (lv := [some (.ref x)]) (by decide +kernel) rfl (Nat.le_of_ble_eq_true rfl) (fun X hl q rt hnm => ?_)
  refine r_aload_0 (pc := 0) q dX11_place_0 ?_
  refine r_geti (pc := 1) q fX11_41 (kz := 5) rfl (by decide) rfl hx.o dX11_place_1 ?_
  refine r_ireturn (pc := 4) q rt dX11_place_4 ?_
  exact ⟨by omega, rfl⟩
theorem c_X11_day {l : Launch} {D : va_G} {aC : Nat → ClassId} {B t sz : Nat} {S : sS} {r : sR} {h : sH} {x : Nat} {n : Int} (hx : LX11 S r x) (hn : inR n) (c0 : 0 ≤ h x 10) (c1 : h x 10 ≤ 100000) : CtI l yX11_day cX11_day 2 (some .int) 0 0 [.ref x, .int (iI n)] D aC B t sz S r h (fun z h1 => (0 ≤ n ∧ n ≤ 1000 ∧ h x 10 + n ≤ 100000 ∧ z = h x 10 + n ∧ h1 = pf h x 10 (h x 10 + n)) ∨ (¬ (0 ≤ n ∧ n ≤ 1000 ∧ h x 10 + n ≤ 100000) ∧ z = -1 ∧ h1 = h)) := by
  unfold CtI
  refine Ct.of (lv := [some (.ref x), some (.int (iI n))]) (by decide +kernel) rfl (Nat.le_of_ble_eq_true rfl) (fun X hl q rt hnm => ?_)
  obtain ⟨n0, n1⟩ := hn
  refine r_iload_1 (pc := 0) q dX11_day_0 ?_
  refine r_if_lt (pc := 1) q 22 dX11_day_1 (by decide) ⟨by omega, by omega⟩ (fun c1 => ?_) (fun c1 => ?_)
  · refine r_iconst (pc := 22) q dX11_day_22 ?_
    refine r_ireturn (pc := 23) q rt dX11_day_23 ?_
    exact Or.inr ⟨by omega, rfl, rfl⟩
  refine r_iload_1 (pc := 4) q dX11_day_4 ?_
  refine r_sipush (pc := 5) q dX11_day_5 (by decide) ?_
  refine r_icmp_gt (pc := 8) q 22 dX11_day_8 (by decide) ⟨by omega, by omega⟩ ⟨by omega, by omega⟩ (fun c8 => ?_) (fun c8 => ?_)
  · refine r_iconst (pc := 22) q dX11_day_22 ?_
    refine r_ireturn (pc := 23) q rt dX11_day_23 ?_
    exact Or.inr ⟨by omega, rfl, rfl⟩
  refine r_aload_0 (pc := 11) q dX11_day_11 ?_
  refine r_geti (pc := 12) q fX11_72 (kz := 10) rfl (by decide) rfl hx.o dX11_day_12 ?_
  refine r_iload_1 (pc := 15) q dX11_day_15 ?_
  refine r_iadd (pc := 16) q dX11_day_16 ?_
  refine r_ldc (pc := 17) q kX11_136 dX11_day_17 ?_
  refine r_icmp_le (pc := 19) q 24 dX11_day_19 (by decide) ⟨by omega, by omega⟩ ⟨by omega, by omega⟩ (fun c19 => ?_) (fun c19 => ?_)
  · refine r_aload_0 (pc := 24) q dX11_day_24 ?_
    refine r_dup (pc := 25) q dX11_day_25 rfl ?_
    refine r_geti (pc := 26) q fX11_72 (kz := 10) rfl (by decide) rfl hx.o dX11_day_26 ?_
    refine r_iload_1 (pc := 29) q dX11_day_29 ?_
    refine r_iadd (pc := 30) q dX11_day_30 ?_
    refine r_puti (pc := 31) q fX11_72 (kz := 10) rfl (by decide) rfl hx.o dX11_day_31 (fun h1 eh1 => ?_)
    refine r_aload_0 (pc := 34) q dX11_day_34 ?_
    refine r_geti (pc := 35) q fX11_72 (kz := 10) rfl (by decide) rfl hx.o dX11_day_35 ?_
    have e1 : h1 x 10 = h x 10 + n := by rw [eh1, up_s, up_s]
    rw [e1]
    refine r_ireturn (pc := 38) q rt dX11_day_38 ?_
    exact Or.inl ⟨by omega, by omega, by omega, rfl, eh1⟩
  refine r_iconst (pc := 22) q dX11_day_22 ?_
  refine r_ireturn (pc := 23) q rt dX11_day_23 ?_
  exact Or.inr ⟨by omega, rfl, rfl⟩
theorem c_X11_costs {l : Launch} {D : va_G} {aC : Nat → ClassId} {B t sz : Nat} {S : sS} {r : sR} {h : sH} {x : Nat} {a b : Int} (hx : LX11 S r x) (ha : inR a) (hb : inR b) : CtI l yX11_costs cX11_costs 3 (some .boolean) 0 0 [.ref x, .int (iI a), .int (iI b)] D aC B t sz S r h (fun z h1 => (0 ≤ a ∧ a ≤ 50 ∧ 0 ≤ b ∧ b ≤ 50 ∧ z = 1 ∧ h1 = pf (pf h (x + 183) 4 a) (x + 183) 5 b) ∨ (¬ (0 ≤ a ∧ a ≤ 50 ∧ 0 ≤ b ∧ b ≤ 50) ∧ z = 0 ∧ h1 = h)) := by
  unfold CtI
  refine Ct.of (lv := [some (.ref x), some (.int (iI a)), some (.int (iI b))]) (by decide +kernel) rfl (Nat.le_of_ble_eq_true rfl) (fun X hl q rt hnm => ?_)
  obtain ⟨a0, a1⟩ := ha
  obtain ⟨b0, b1⟩ := hb
  refine r_iload_1 (pc := 0) q dX11_costs_0 ?_
  refine r_if_lt (pc := 1) q 20 dX11_costs_1 (by decide) ⟨by omega, by omega⟩ (fun c1 => ?_) (fun c1 => ?_)
  · refine r_iconst (pc := 20) q dX11_costs_20 ?_
    refine r_zreturn (pc := 21) q rt dX11_costs_21 (by decide) ?_
    exact Or.inr ⟨by omega, rfl, rfl⟩
  refine r_iload_1 (pc := 4) q dX11_costs_4 ?_
  refine r_bipush (pc := 5) q dX11_costs_5 (by decide) ?_
  refine r_icmp_gt (pc := 7) q 20 dX11_costs_7 (by decide) ⟨by omega, by omega⟩ ⟨by omega, by omega⟩ (fun c7 => ?_) (fun c7 => ?_)
  · refine r_iconst (pc := 20) q dX11_costs_20 ?_
    refine r_zreturn (pc := 21) q rt dX11_costs_21 (by decide) ?_
    exact Or.inr ⟨by omega, rfl, rfl⟩
  refine r_iload_2 (pc := 10) q dX11_costs_10 ?_
  refine r_if_lt (pc := 11) q 20 dX11_costs_11 (by decide) ⟨by omega, by omega⟩ (fun c11 => ?_) (fun c11 => ?_)
  · refine r_iconst (pc := 20) q dX11_costs_20 ?_
    refine r_zreturn (pc := 21) q rt dX11_costs_21 (by decide) ?_
    exact Or.inr ⟨by omega, rfl, rfl⟩
  refine r_iload_2 (pc := 14) q dX11_costs_14 ?_
  refine r_bipush (pc := 15) q dX11_costs_15 (by decide) ?_
  refine r_icmp_le (pc := 17) q 22 dX11_costs_17 (by decide) ⟨by omega, by omega⟩ ⟨by omega, by omega⟩ (fun c17 => ?_) (fun c17 => ?_)
  · refine r_aload_0 (pc := 22) q dX11_costs_22 ?_
    refine r_getr (pc := 23) q fX11_47 (kz := 6) rfl (by decide) rfl hx.o hx.r_land dX11_costs_23 ?_
    refine r_iload_1 (pc := 26) q dX11_costs_26 ?_
    refine r_puti (pc := 27) q fX11_130 (kz := 4) rfl (by decide) rfl hx.n_land.o dX11_costs_27 (fun h1 eh1 => ?_)
    refine r_aload_0 (pc := 30) q dX11_costs_30 ?_
    refine r_getr (pc := 31) q fX11_47 (kz := 6) rfl (by decide) rfl hx.o hx.r_land dX11_costs_31 ?_
    refine r_iload_2 (pc := 34) q dX11_costs_34 ?_
    refine r_puti (pc := 35) q fX11_133 (kz := 5) rfl (by decide) rfl hx.n_land.o dX11_costs_35 (fun h2 eh2 => ?_)
    refine r_iconst (pc := 38) q dX11_costs_38 ?_
    refine r_zreturn (pc := 39) q rt dX11_costs_39 (by decide) ?_
    exact Or.inl ⟨by omega, by omega, by omega, by omega, rfl, by rw [eh2, eh1]⟩
  refine r_iconst (pc := 20) q dX11_costs_20 ?_
  refine r_zreturn (pc := 21) q rt dX11_costs_21 (by decide) ?_
  exact Or.inr ⟨by omega, rfl, rfl⟩
theorem c_X11_end {l : Launch} {D : va_G} {aC : Nat → ClassId} {B t sz : Nat} {S : sS} {r : sR} {h : sH} {x : Nat} {n : Int} (hx : LX11 S r x) (hn : inR n) (t0 : 0 ≤ h (x + 1) 1) (t1 : h (x + 1) 1 ≤ 200) : CtI l yX11_end cX11_end 2 (some .int) 0 0 [.ref x, .int (iI n)] D aC B t sz S r h (fun z h1 => (0 ≤ n ∧ n ≤ h (x + 1) 1 ∧ z = n ∧ h1 = pf h (x + 1) 1 n) ∨ ((n < 0 ∨ h (x + 1) 1 < n) ∧ z = -1 ∧ h1 = h)) := by
  unfold CtI
  refine Ct.of (lv := [some (.ref x), some (.int (iI n))]) (by decide +kernel) rfl (Nat.le_of_ble_eq_true rfl) (fun X hl q rt hnm => ?_)
  obtain ⟨n0, n1⟩ := hn
  refine r_iload_1 (pc := 0) q dX11_end_0 ?_
  refine r_if_lt (pc := 1) q 15 dX11_end_1 (by decide) ⟨by omega, by omega⟩ (fun c1 => ?_) (fun c1 => ?_)
  · refine r_iconst (pc := 15) q dX11_end_15 ?_
    refine r_ireturn (pc := 16) q rt dX11_end_16 ?_
    exact Or.inr ⟨by omega, rfl, rfl⟩
  refine r_iload_1 (pc := 4) q dX11_end_4 ?_
  refine r_aload_0 (pc := 5) q dX11_end_5 ?_
  refine r_getr (pc := 6) q fX11_12 (kz := 0) rfl (by decide) rfl hx.o hx.r_tape dX11_end_6 ?_
  refine r_geti (pc := 9) q fX11_75 (kz := 1) rfl (by decide) rfl hx.n_tape.o dX11_end_9 ?_
  refine r_icmp_le (pc := 12) q 17 dX11_end_12 (by decide) ⟨by omega, by omega⟩ ⟨by omega, by omega⟩ (fun c12 => ?_) (fun c12 => ?_)
  · refine r_aload_0 (pc := 17) q dX11_end_17 ?_
    refine r_getr (pc := 18) q fX11_12 (kz := 0) rfl (by decide) rfl hx.o hx.r_tape dX11_end_18 ?_
    refine r_iload_1 (pc := 21) q dX11_end_21 ?_
    refine r_puti (pc := 22) q fX11_75 (kz := 1) rfl (by decide) rfl hx.n_tape.o dX11_end_22 (fun h1 eh1 => ?_)
    refine r_iload_1 (pc := 25) q dX11_end_25 ?_
    refine r_ireturn (pc := 26) q rt dX11_end_26 ?_
    exact Or.inl ⟨by omega, by omega, rfl, eh1⟩
  refine r_iconst (pc := 15) q dX11_end_15 ?_
  refine r_ireturn (pc := 16) q rt dX11_end_16 ?_
  exact Or.inr ⟨by omega, rfl, rfl⟩
theorem c_X11_habit {l : Launch} {D : va_G} {aC : Nat → ClassId} {B t sz : Nat} {S : sS} {r : sR} {h : sH} {x : Nat} {a b c : Int} (hx : LX11 S r x) (ha : inR a) (hb : inR b) (hc : inR c) (s0 : 0 ≤ h (x + 258) 3) (s1 : h (x + 258) 3 ≤ 20) : CtI l yX11_habit cX11_habit 5 (some .int) 1 23 [.ref x, .int (iI a), .int (iI b), .int (iI c)] D aC B t sz S r h (fun z h1 => ((0 ≤ a ∧ a ≤ 4 ∧ 0 ≤ b ∧ b ≤ 4 ∧ a ≠ b ∧ 1 ≤ c ∧ c ≤ 20 ∧ h (x + 258) 3 < 20) ∧ z = h (x + 258) 3 ∧ h1 = pf (pf (pf (pf h (x + 259) (h (x + 258) 3) a) (x + 260) (h (x + 258) 3) b) (x + 261) (h (x + 258) 3) c) (x + 258) 3 (h (x + 258) 3 + 1)) ∨ (¬ (0 ≤ a ∧ a ≤ 4 ∧ 0 ≤ b ∧ b ≤ 4 ∧ a ≠ b ∧ 1 ≤ c ∧ c ≤ 20 ∧ h (x + 258) 3 < 20) ∧ z = -1 ∧ h1 = h)) := by
  unfold CtI
  refine Ct.of (lv := [some (.ref x), some (.int (iI a)), some (.int (iI b)), some (.int (iI c)), none]) (by decide +kernel) rfl (Nat.le_of_ble_eq_true rfl) (fun X hl q rt hnm => ?_)
  have no : ¬ (0 ≤ a ∧ a ≤ 4 ∧ 0 ≤ b ∧ b ≤ 4 ∧ a ≠ b) → G X 0 0 24 [some (.ref x), some (.int (iI a)), some (.int (iI b)), some (.int (iI c)), none] [.int (iI 0)] sz S r h := by
    intro hn
    refine r_istore_4 (pc := 24) q dX11_habit_24 rfl ?_
    refine r_iload_4 (pc := 26) q dX11_habit_26 ?_
    refine r_if_eq (pc := 28) q 42 dX11_habit_28 (by decide) ⟨by omega, by omega⟩ (fun c28 => ?_) (fun c28 => ?_)
    · refine r_iconst (pc := 42) q dX11_habit_42 ?_
      refine r_ireturn (pc := 43) q rt dX11_habit_43 ?_
      exact Or.inr ⟨fun z => hn ⟨z.1, z.2.1, z.2.2.1, z.2.2.2.1, z.2.2.2.2.1⟩, rfl, rfl⟩
    exact absurd rfl c28
  obtain ⟨cc0, cc1⟩ := id hc
  refine r_iload_1 (pc := 0) q dX11_habit_0 ?_
  refine r_sI1 (pc := 1) q (c_X11_isSignOrNone ha) mX11_115 (by decide) (Nat.le_of_ble_eq_true rfl) rfl dX11_habit_1 (fun z1 h1 hz1 => ?_)
  obtain ⟨hz1, rfl⟩ := hz1
  refine r_if_eq (pc := 4) q 23 dX11_habit_4 (by decide) ⟨by omega, by omega⟩ (fun c4 => ?_) (fun c4 => ?_)
  · refine r_iconst (pc := 23) q dX11_habit_23 ?_
    exact no (by omega)
  refine r_iload_2 (pc := 7) q dX11_habit_7 ?_
  refine r_sI1 (pc := 8) q (c_X11_isSignOrNone hb) mX11_115 (by decide) (Nat.le_of_ble_eq_true rfl) rfl dX11_habit_8 (fun z2 h2 hz2 => ?_)
  obtain ⟨hz2, rfl⟩ := hz2
  refine r_if_eq (pc := 11) q 23 dX11_habit_11 (by decide) ⟨by omega, by omega⟩ (fun c11 => ?_) (fun c11 => ?_)
  · refine r_iconst (pc := 23) q dX11_habit_23 ?_
    exact no (by omega)
  refine r_iload_1 (pc := 14) q dX11_habit_14 ?_
  refine r_iload_2 (pc := 15) q dX11_habit_15 ?_
  refine r_icmp_eq (pc := 16) q 23 dX11_habit_16 (by decide) ha hb (fun c16 => ?_) (fun c16 => ?_)
  · refine r_iconst (pc := 23) q dX11_habit_23 ?_
    exact no (fun z => z.2.2.2.2 c16)
  refine r_iconst (pc := 19) q dX11_habit_19 ?_
  refine r_goto (pc := 20) (tgt := 24) q dX11_habit_20 (by decide) ?_
  refine r_istore_4 (pc := 24) q dX11_habit_24 rfl ?_
  refine r_iload_4 (pc := 26) q dX11_habit_26 ?_
  refine r_if_eq (pc := 28) q 42 dX11_habit_28 (by decide) ⟨by omega, by omega⟩ (fun c28 => ?_) (fun c28 => ?_)
  · exact absurd c28 (by decide)
  refine r_iload_3 (pc := 31) q dX11_habit_31 ?_
  refine r_iconst (pc := 32) q dX11_habit_32 ?_
  refine r_icmp_lt (pc := 33) q 42 dX11_habit_33 (by decide) ⟨by omega, by omega⟩ ⟨by omega, by omega⟩ (fun c33 => ?_) (fun c33 => ?_)
  · refine r_iconst (pc := 42) q dX11_habit_42 ?_
    refine r_ireturn (pc := 43) q rt dX11_habit_43 ?_
    exact Or.inr ⟨by omega, rfl, rfl⟩
  refine r_iload_3 (pc := 36) q dX11_habit_36 ?_
  refine r_bipush (pc := 37) q dX11_habit_37 (by decide) ?_
  refine r_icmp_le (pc := 39) q 44 dX11_habit_39 (by decide) ⟨by omega, by omega⟩ ⟨by omega, by omega⟩ (fun c39 => ?_) (fun c39 => ?_)
  · refine r_aload_0 (pc := 44) q dX11_habit_44 ?_
    refine r_getr (pc := 45) q fX11_54 (kz := 7) rfl (by decide) rfl hx.o hx.r_habits dX11_habit_45 ?_
    refine r_iload_1 (pc := 48) q dX11_habit_48 ?_
    refine r_iload_2 (pc := 49) q dX11_habit_49 ?_
    refine r_iload_3 (pc := 50) q dX11_habit_50 ?_
    refine r_cI3 (pc := 51) q (c_X1_add hx.n_habits s0 s1) mX11_118 hx.n_habits.o (by decide) (Nat.le_of_ble_eq_true rfl) rfl dX11_habit_51 (fun z5 h5 hz5 => ?_)
    refine r_ireturn (pc := 54) q rt dX11_habit_54 ?_
    rcases hz5 with ⟨z1, z2, z3⟩ | ⟨z1, z2, z3⟩
    · exact Or.inr ⟨by omega, z2, z3⟩
    · exact Or.inl ⟨⟨by omega, by omega, by omega, by omega, c16, by omega, by omega, by omega⟩, z2, z3⟩
  refine r_iconst (pc := 42) q dX11_habit_42 ?_
  refine r_ireturn (pc := 43) q rt dX11_habit_43 ?_
  exact Or.inr ⟨by omega, rfl, rfl⟩
theorem c_X11_sound {l : Launch} {D : va_G} {aC : Nat → ClassId} {B t sz : Nat} {S : sS} {r : sR} {h : sH} {x : Nat} {a b : Int} (hx : LX11 S r x) (hs : soR (h (x + 263))) (ha : inR a) (hb : inR b) : CtI l yX11_sound cX11_sound 3 (some .boolean) 1 25 [.ref x, .int (iI a), .int (iI b)] D aC B t sz S r h (fun z h1 => ((0 ≤ a ∧ a ≤ 25 ∧ 0 ≤ b ∧ b ≤ 25 ∧ h (x + 263) a ≠ h (x + 263) b) ∧ z = 1 ∧ h1 = up h (x + 263) (soF (h (x + 263)) a b 26)) ∨ (¬ (0 ≤ a ∧ a ≤ 25 ∧ 0 ≤ b ∧ b ≤ 25 ∧ h (x + 263) a ≠ h (x + 263) b) ∧ z = 0 ∧ h1 = h)) := by
  unfold CtI
  refine Ct.of (lv := [some (.ref x), some (.int (iI a)), some (.int (iI b))]) (by decide +kernel) rfl (Nat.le_of_ble_eq_true rfl) (fun X hl q rt hnm => ?_)
  obtain ⟨a0, a1⟩ := id ha
  obtain ⟨b0, b1⟩ := id hb
  refine r_iload_1 (pc := 0) q dX11_sound_0 ?_
  refine r_if_lt (pc := 1) q 32 dX11_sound_1 (by decide) ⟨by omega, by omega⟩ (fun c1 => ?_) (fun c1 => ?_)
  · refine r_iconst (pc := 32) q dX11_sound_32 ?_
    refine r_zreturn (pc := 33) q rt dX11_sound_33 (by decide) ?_
    exact Or.inr ⟨by omega, rfl, rfl⟩
  refine r_iload_1 (pc := 4) q dX11_sound_4 ?_
  refine r_bipush (pc := 5) q dX11_sound_5 (by decide) ?_
  refine r_icmp_ge (pc := 7) q 32 dX11_sound_7 (by decide) ⟨by omega, by omega⟩ ⟨by omega, by omega⟩ (fun c7 => ?_) (fun c7 => ?_)
  · refine r_iconst (pc := 32) q dX11_sound_32 ?_
    refine r_zreturn (pc := 33) q rt dX11_sound_33 (by decide) ?_
    exact Or.inr ⟨by omega, rfl, rfl⟩
  refine r_iload_2 (pc := 10) q dX11_sound_10 ?_
  refine r_if_lt (pc := 11) q 32 dX11_sound_11 (by decide) ⟨by omega, by omega⟩ (fun c11 => ?_) (fun c11 => ?_)
  · refine r_iconst (pc := 32) q dX11_sound_32 ?_
    refine r_zreturn (pc := 33) q rt dX11_sound_33 (by decide) ?_
    exact Or.inr ⟨by omega, rfl, rfl⟩
  refine r_iload_2 (pc := 14) q dX11_sound_14 ?_
  refine r_bipush (pc := 15) q dX11_sound_15 (by decide) ?_
  refine r_icmp_ge (pc := 17) q 32 dX11_sound_17 (by decide) ⟨by omega, by omega⟩ ⟨by omega, by omega⟩ (fun c17 => ?_) (fun c17 => ?_)
  · refine r_iconst (pc := 32) q dX11_sound_32 ?_
    refine r_zreturn (pc := 33) q rt dX11_sound_33 (by decide) ?_
    exact Or.inr ⟨by omega, rfl, rfl⟩
  refine r_aload_0 (pc := 20) q dX11_sound_20 ?_
  refine r_getr (pc := 21) q fX11_61 (kz := 8) rfl (by decide) rfl hx.o hx.r_sounds dX11_sound_21 ?_
  refine r_iload_1 (pc := 24) q dX11_sound_24 ?_
  refine r_iload_2 (pc := 25) q dX11_sound_25 ?_
  refine r_cI2 (pc := 26) q (c_X9_alike hx.n_sounds hs ha hb) mX11_122 hx.n_sounds.o (by decide) (Nat.le_of_ble_eq_true rfl) rfl dX11_sound_26 (fun z5 h5 hz5 => ?_)
  obtain ⟨hz5, rfl⟩ := hz5
  refine r_if_eq (pc := 29) q 34 dX11_sound_29 (by decide) ⟨by omega, by omega⟩ (fun c29 => ?_) (fun c29 => ?_)
  · refine r_aload_0 (pc := 34) q dX11_sound_34 ?_
    refine r_getr (pc := 35) q fX11_61 (kz := 8) rfl (by decide) rfl hx.o hx.r_sounds dX11_sound_35 ?_
    refine r_iload_1 (pc := 38) q dX11_sound_38 ?_
    refine r_iload_2 (pc := 39) q dX11_sound_39 ?_
    have ne : h (x + 263) a ≠ h (x + 263) b := by
      rcases hz5 with ⟨z, -⟩ | ⟨-, z⟩
      · omega
      · exact fun w => z ⟨by omega, w⟩
    refine r_cV2 (pc := 40) q (c_X9_join hx.n_sounds hs (by omega) (by omega) (by omega) (by omega) ne) mX11_126 hx.n_sounds.o (by decide) (Nat.le_of_ble_eq_true rfl) rfl dX11_sound_40 (fun h6 hz6 => ?_)
    refine r_iconst (pc := 43) q dX11_sound_43 ?_
    refine r_zreturn (pc := 44) q rt dX11_sound_44 (by decide) ?_
    exact Or.inl ⟨⟨by omega, by omega, by omega, by omega, ne⟩, rfl, hz6⟩
  refine r_iconst (pc := 32) q dX11_sound_32 ?_
  refine r_zreturn (pc := 33) q rt dX11_sound_33 (by decide) ?_
  rcases hz5 with ⟨-, z⟩ | ⟨z, -⟩
  · exact Or.inr ⟨fun w => w.2.2.2.2 z.2, rfl, rfl⟩
  · exact absurd z c29
theorem c_X11_takeName {l : Launch} {D : va_G} {aC : Nat → ClassId} {B t sz : Nat} {S : sS} {r : sR} {h : sH} {x : Nat} {T : Int} {b : Int → Int} (hx : LX11 S r x) (ht : tpI h (x + 1) b T) : CtI l yX11_takeName cX11_takeName 2 (some .boolean) 2 42 [.ref x] D aC B t sz S r h (fun z h1 => (∀ a : Nat, a ≠ x + 1 → a ≠ x + 3 → a ≠ x + 4 → h1 a = h a) ∧ h1 (x + 1) = up (h (x + 1)) 1 0 ∧ ((z = 1 ∧ isNm b 0 T ∧ nmC h1 (x + 3) b T) ∨ (z = 0 ∧ ¬ isNm b 0 T))) := by
  unfold CtI
  refine Ct.of (lv := [some (.ref x), none]) (by decide +kernel) rfl (Nat.le_of_ble_eq_true rfl) (fun X hl q rt hnm => ?_)
  refine r_aload_0 (pc := 0) q dX11_takeName_0 ?_
  refine r_getr (pc := 1) q fX11_12 (kz := 0) rfl (by decide) rfl hx.o hx.r_tape dX11_takeName_1 ?_
  refine r_cI0 (pc := 4) q (c_X10_isName hx.n_tape ht) mX11_254 hx.n_tape.o (by decide) (Nat.le_of_ble_eq_true rfl) rfl dX11_takeName_4 (fun z1 h1 hz1 => ?_)
  obtain ⟨hz1, rfl⟩ := hz1
  refine r_istore_1 (pc := 7) q dX11_takeName_7 rfl ?_
  refine r_iload_1 (pc := 8) q dX11_takeName_8 ?_
  refine r_if_eq (pc := 9) q 31 dX11_takeName_9 (by decide) ⟨by omega, by omega⟩ (fun c9 => ?_) (fun c9 => ?_)
  · refine r_aload_0 (pc := 31) q dX11_takeName_31 ?_
    refine r_getr (pc := 32) q fX11_12 (kz := 0) rfl (by decide) rfl hx.o hx.r_tape dX11_takeName_32 ?_
    refine r_iconst (pc := 35) q dX11_takeName_35 ?_
    refine r_puti (pc := 36) q fX11_75 (kz := 1) rfl (by decide) rfl hx.n_tape.o dX11_takeName_36 (fun h2 eh2 => ?_)
    refine r_iload_1 (pc := 39) q dX11_takeName_39 ?_
    refine r_zreturn (pc := 40) q rt dX11_takeName_40 (by rcases hz1 with ⟨z, -⟩ | ⟨z, -⟩ <;> omega) ?_
    rcases hz1 with ⟨z, -⟩ | ⟨z, hn⟩
    · omega
    · exact ⟨fun a a0 _ _ => by rw [eh2, up_n _ _ a0], by rw [eh2, up_s], Or.inr ⟨z, hn⟩⟩
  refine r_aload_0 (pc := 12) q dX11_takeName_12 ?_
  refine r_getr (pc := 13) q fX11_19 (kz := 1) rfl (by decide) rfl hx.o hx.r_spoken dX11_takeName_13 ?_
  refine r_aload_0 (pc := 16) q dX11_takeName_16 ?_
  refine r_getr (pc := 17) q fX11_12 (kz := 0) rfl (by decide) rfl hx.o hx.r_tape dX11_takeName_17 ?_
  refine r_iconst (pc := 20) q dX11_takeName_20 ?_
  refine r_aload_0 (pc := 21) q dX11_takeName_21 ?_
  refine r_getr (pc := 22) q fX11_12 (kz := 0) rfl (by decide) rfl hx.o hx.r_tape dX11_takeName_22 ?_
  refine r_geti (pc := 25) q fX11_75 (kz := 1) rfl (by decide) rfl hx.n_tape.o dX11_takeName_25 ?_
  rw [ht.1]
  have isn : isNm b 0 T := by
    rcases hz1 with ⟨-, z⟩ | ⟨z, -⟩
    · exact z
    · exact absurd z c9
  refine r_cV3 (pc := 28) q (c_X3_take hx.n_spoken hx.n_tape ht (by omega) (by have := isn.1; omega) (by have := isn.2.1; omega) (by omega)) mX11_257 hx.n_spoken.o (by decide) (Nat.le_of_ble_eq_true rfl) rfl dX11_takeName_28 (fun h3 hz3 => ?_)
  refine r_aload_0 (pc := 31) q dX11_takeName_31 ?_
  refine r_getr (pc := 32) q fX11_12 (kz := 0) rfl (by decide) rfl hx.o hx.r_tape dX11_takeName_32 ?_
  refine r_iconst (pc := 35) q dX11_takeName_35 ?_
  refine r_puti (pc := 36) q fX11_75 (kz := 1) rfl (by decide) rfl hx.n_tape.o dX11_takeName_36 (fun h4 eh4 => ?_)
  refine r_iload_1 (pc := 39) q dX11_takeName_39 ?_
  refine r_zreturn (pc := 40) q rt dX11_takeName_40 (by rcases hz1 with ⟨z, -⟩ | ⟨z, -⟩ <;> omega) ?_
  obtain ⟨g1, g2, g3⟩ := hz3
  have e4 : ∀ a : Nat, a ≠ x + 1 → h4 a = h3 a := fun a a0 => by rw [eh4, up_n _ _ a0]
  refine ⟨fun a a0 a1 a2 => by rw [e4 a a0]; exact g1 a a1 a2, by rw [eh4, up_s, g1 _ (by omega) (by omega)], Or.inl ⟨?_, isn, ?_⟩⟩
  · rcases hz1 with ⟨z, -⟩ | ⟨z, -⟩
    · exact z
    · exact absurd z c9
  · refine ⟨by rw [e4 _ (by omega), g2, up_s], ⟨by have := isn.1; omega, by have := isn.2.1; omega⟩, fun j j0 j1 => ⟨?_, isn.2.2 j j0 j1⟩⟩
    rw [e4 _ (by omega), g3 j j0 j1, Int.zero_add]
