/-- the placer at x has taken a list: readings, own costs -/
def plC (h : sH) (x : Nat) (N U : Int) (rs : Int → Nat) (rv rc ow : Int → Int → Int) : Prop := h x 7 = N ∧ h x 8 = U ∧ rdy N U rs rv rc ow ∧ (∀ s : Int, 0 ≤ s → s + 1 < N → rdC h (x + 30 + 3 * s.toNat) (rs s) (rv s) (rc s)) ∧ ∀ s p : Int, 0 ≤ s → s < N → 0 ≤ p → p < 601 → h (x + 2 + s.toNat) p = ow s p
theorem rdC_fr {h h1 : sH} {x : Nat} {rs : Nat} {rv rc : Int → Int} (c : rdC h x rs rv rc) (e0 : h1 x = h x) (e1 : h1 (x + 1) = h (x + 1)) (e2 : h1 (x + 2) = h (x + 2)) : rdC h1 x rs rv rc := by unfold rdC at c ⊢; rw [e0, e1, e2]; exact c
theorem plC_fr {h h1 : sH} {x : Nat} {N U : Int} {rs : Int → Nat} {rv rc ow : Int → Int → Int} (c : plC h x N U rs rv rc ow) (e7 : h1 x 7 = h x 7) (e8 : h1 x 8 = h x 8) (er : ∀ a : Nat, x + 30 ≤ a → a < x + 60 → h1 a = h a) (eo : ∀ a : Nat, x + 2 ≤ a → a < x + 12 → h1 a = h a) : plC h1 x N U rs rv rc ow := by
  obtain ⟨c1, c2, c3, c4, c5⟩ := c
  have N10 := c3.2.1
  refine ⟨by rw [e7]; exact c1, by rw [e8]; exact c2, c3, fun s s0 s1 => rdC_fr (c4 s s0 s1) (er _ (by omega) (by omega)) (er _ (by omega) (by omega)) (er _ (by omega) (by omega)), fun s p s0 s1 p0 p1 => by rw [eo _ (by omega) (by omega)]; exact c5 s p s0 s1 p0 p1⟩
theorem c_X5_placeBehind {l : Launch} {D : va_G} {aC : Nat → ClassId} {B t sz : Nat} {S : sS} {r : sR} {h : sH} {x : Nat} {N U s p k : Int} {rs : Int → Nat} {rv rc ow : Int → Int → Int} (hx : LX5 S r x) (hC : plC h x N U rs rv rc ow) (s0 : 0 ≤ s) (s1 : s + 1 < N) (p0 : 0 ≤ p) (p1 : p < 601) (k0 : 0 ≤ k) (k1 : k < rs s) : CtI l yX5_placeBehind cX5_placeBehind 5 (some .int) 0 0 [.ref x, .int (iI s), .int (iI p), .int (iI k)] D aC B t sz S r h (fun z h1 => ((p + U * rv s k < 601 ∧ z = p + U * rv s k) ∨ (¬ p + U * rv s k < 601 ∧ z = -1)) ∧ h = h1) := by
  unfold CtI
  refine Ct.of (lv := [some (.ref x), some (.int (iI s)), some (.int (iI p)), some (.int (iI k)), none]) (by decide +kernel) rfl (Nat.le_of_ble_eq_true rfl) (fun X hl q rt hnm => ?_)
  obtain ⟨c1, c2, ⟨hu, ⟨N2, N10⟩, hr, -⟩, c4, c5⟩ := hC
  have kb := (hr s s0 s1).2.2 k k0 k1
  have ks := (hr s s0 s1).2.1
  have v := ((c4 s s0 s1).2 k k0 k1).1
  have ub : 2 ≤ U * rv s k ∧ U * rv s k ≤ 1350 := by
    rcases hu with u | u <;> rw [u] <;> omega
  obtain ⟨q2, hq2⟩ : ∃ q2, p + U * rv s k = q2 := ⟨_, rfl⟩
  refine r_iload_2 (pc := 0) q dX5_placeBehind_0 ?_
  refine r_aload_0 (pc := 1) q dX5_placeBehind_1 ?_
  refine r_geti (pc := 2) q fX5_65 (kz := 8) rfl (by decide) rfl hx.o dX5_placeBehind_2 ?_
  rw [c2]
  refine r_aload_0 (pc := 5) q dX5_placeBehind_5 ?_
  refine r_getr (pc := 6) q fX5_29 (kz := 4) rfl (by decide) rfl hx.o hx.r_readings dX5_placeBehind_6 ?_
  refine r_iload_1 (pc := 9) q dX5_placeBehind_9 ?_
  refine r_aald28 (pc := 10) q hx.s_readings (by omega) (by omega) (hx.e_readings (by omega) (by omega)) dX5_placeBehind_10 ?_
  refine r_getr (pc := 11) q fX5_87 (kz := 0) rfl (by decide) rfl ((hx.n_readings (by omega) (by omega))).o (hx.n_readings (by omega) (by omega)).r_values dX5_placeBehind_11 ?_
  refine r_iload_3 (pc := 14) q dX5_placeBehind_14 ?_
  refine r_iald (pc := 15) q (hx.n_readings (by omega) (by omega)).s_values (by omega) (by omega) dX5_placeBehind_15 ?_
  rw [v]
  refine r_imul (pc := 16) q dX5_placeBehind_16 ?_
  refine r_iadd (pc := 17) q dX5_placeBehind_17 ?_
  rw [hq2]
  refine r_istore_4 (pc := 18) q dX5_placeBehind_18 rfl ?_
  refine r_iload_4 (pc := 20) q dX5_placeBehind_20 ?_
  refine r_iload_2 (pc := 22) q dX5_placeBehind_22 ?_
  refine r_icmp_le (pc := 23) q 39 dX5_placeBehind_23 (by decide) ⟨by omega, by omega⟩ ⟨by omega, by omega⟩ (fun c23 => ?_) (fun c23 => ?_)
  · refine r_iconst (pc := 39) q dX5_placeBehind_39 ?_
    refine r_ireturn (pc := 40) q rt dX5_placeBehind_40 ?_
    exact ⟨by omega, rfl⟩
  refine r_iload_4 (pc := 26) q dX5_placeBehind_26 ?_
  refine r_sipush (pc := 28) q dX5_placeBehind_28 (by decide) ?_
  refine r_icmp_gt (pc := 31) q 39 dX5_placeBehind_31 (by decide) ⟨by omega, by omega⟩ ⟨by omega, by omega⟩ (fun c31 => ?_) (fun c31 => ?_)
  · refine r_iconst (pc := 39) q dX5_placeBehind_39 ?_
    refine r_ireturn (pc := 40) q rt dX5_placeBehind_40 ?_
    exact ⟨by omega, rfl⟩
  refine r_iload_4 (pc := 34) q dX5_placeBehind_34 ?_
  refine r_goto (pc := 36) (tgt := 40) q dX5_placeBehind_36 (by decide) ?_
  refine r_ireturn (pc := 40) q rt dX5_placeBehind_40 ?_
  exact ⟨by omega, rfl⟩
theorem c_X5_dearerBy {l : Launch} {D : va_G} {aC : Nat → ClassId} {B t sz : Nat} {S : sS} {r : sR} {h : sH} {x : Nat} {N U s p k q2 : Int} {rs : Int → Nat} {rv rc ow : Int → Int → Int} (hx : LX5 S r x) (hC : plC h x N U rs rv rc ow) (s0 : 0 ≤ s) (s1 : s + 1 < N) (p0 : 0 ≤ p) (p1 : p < 601) (k0 : 0 ≤ k) (k1 : k < rs s) (q0 : 0 ≤ q2) (q1 : q2 < 601) : CtI l yX5_dearerBy cX5_dearerBy 5 (some .int) 0 0 [.ref x, .int (iI s), .int (iI p), .int (iI k), .int (iI q2)] D aC B t sz S r h (fun z h1 => ow s p + rc s k + h (x + 13 + (s + 1).toNat) q2 - h (x + 13 + s.toNat) p = z ∧ h = h1) := by
  unfold CtI
  refine Ct.of (lv := [some (.ref x), some (.int (iI s)), some (.int (iI p)), some (.int (iI k)), some (.int (iI q2))]) (by decide +kernel) rfl (Nat.le_of_ble_eq_true rfl) (fun X hl q rt hnm => ?_)
  obtain ⟨c1, c2, ⟨hu, ⟨N2, N10⟩, hr, -⟩, c4, c5⟩ := hC
  have ks := (hr s s0 s1).2.1
  have v := ((c4 s s0 s1).2 k k0 k1).2
  have o := c5 s p s0 (by omega) p0 p1
  refine r_aload_0 (pc := 0) q dX5_dearerBy_0 ?_
  refine r_getr (pc := 1) q fX5_11 (kz := 0) rfl (by decide) rfl hx.o hx.r_own dX5_dearerBy_1 ?_
  refine r_iload_1 (pc := 4) q dX5_dearerBy_4 ?_
  refine r_aald29 (pc := 5) q hx.s_own (by omega) (by omega) (hx.e_own (by omega) (by omega)) dX5_dearerBy_5 ?_
  refine r_iload_2 (pc := 6) q dX5_dearerBy_6 ?_
  refine r_iald (pc := 7) q (hx.n_own (by omega) (by omega)) (by omega) (by omega) dX5_dearerBy_7 ?_
  rw [o]
  refine r_aload_0 (pc := 8) q dX5_dearerBy_8 ?_
  refine r_getr (pc := 9) q fX5_29 (kz := 4) rfl (by decide) rfl hx.o hx.r_readings dX5_dearerBy_9 ?_
  refine r_iload_1 (pc := 12) q dX5_dearerBy_12 ?_
  refine r_aald28 (pc := 13) q hx.s_readings (by omega) (by omega) (hx.e_readings (by omega) (by omega)) dX5_dearerBy_13 ?_
  refine r_getr (pc := 14) q fX5_84 (kz := 1) rfl (by decide) rfl ((hx.n_readings (by omega) (by omega))).o (hx.n_readings (by omega) (by omega)).r_costs dX5_dearerBy_14 ?_
  refine r_iload_3 (pc := 17) q dX5_dearerBy_17 ?_
  refine r_iald (pc := 18) q (hx.n_readings (by omega) (by omega)).s_costs (by omega) (by omega) dX5_dearerBy_18 ?_
  rw [v]
  refine r_iadd (pc := 19) q dX5_dearerBy_19 ?_
  refine r_aload_0 (pc := 20) q dX5_dearerBy_20 ?_
  refine r_getr (pc := 21) q fX5_16 (kz := 1) rfl (by decide) rfl hx.o hx.r_rest dX5_dearerBy_21 ?_
  refine r_iload_1 (pc := 24) q dX5_dearerBy_24 ?_
  refine r_iconst (pc := 25) q dX5_dearerBy_25 ?_
  refine r_iadd (pc := 26) q dX5_dearerBy_26 ?_
  refine r_aald29 (pc := 27) q hx.s_rest (by omega) (by omega) (hx.e_rest (by omega) (by omega)) dX5_dearerBy_27 ?_
  refine r_iload_4 (pc := 28) q dX5_dearerBy_28 ?_
  refine r_iald (pc := 30) q (hx.n_rest (by omega) (by omega)) (by omega) (by omega) dX5_dearerBy_30 ?_
  refine r_iadd (pc := 31) q dX5_dearerBy_31 ?_
  refine r_aload_0 (pc := 32) q dX5_dearerBy_32 ?_
  refine r_getr (pc := 33) q fX5_16 (kz := 1) rfl (by decide) rfl hx.o hx.r_rest dX5_dearerBy_33 ?_
  refine r_iload_1 (pc := 36) q dX5_dearerBy_36 ?_
  refine r_aald29 (pc := 37) q hx.s_rest (by omega) (by omega) (hx.e_rest (by omega) (by omega)) dX5_dearerBy_37 ?_
  refine r_iload_2 (pc := 38) q dX5_dearerBy_38 ?_
  refine r_iald (pc := 39) q (hx.n_rest (by omega) (by omega)) (by omega) (by omega) dX5_dearerBy_39 ?_
  refine r_isub (pc := 40) q dX5_dearerBy_40 ?_
  refine r_ireturn (pc := 41) q rt dX5_dearerBy_41 ?_
  exact ⟨by omega, rfl⟩
theorem c_X5_leastOnward {l : Launch} {D : va_G} {aC : Nat → ClassId} {B t sz : Nat} {S : sS} {r : sR} {h : sH} {x : Nat} {N U s p : Int} {rs : Int → Nat} {rv rc ow : Int → Int → Int} {nx : Int → Int} (hx : LX5 S r x) (hC : plC h x N U rs rv rc ow) (s0 : 0 ≤ s) (s1 : s + 1 < N) (p0 : 0 ≤ p) (p1 : p < 601) (hn : ∀ q : Int, 0 ≤ q → q < 601 → h (x + 13 + (s + 1).toNat) q = nx q ∧ 0 ≤ nx q ∧ nx q ≤ 1000000) : CtI l yX5_leastOnward cX5_leastOnward 6 (some .int) 1 24 [.ref x, .int (iI s), .int (iI p)] D aC B t sz S r h (fun z h1 => mnR U (rv s) (rc s) nx p (rs s) = z ∧ h = h1) := by
  unfold CtI
  refine Ct.of (lv := [some (.ref x), some (.int (iI s)), some (.int (iI p)), none, none, none]) (by decide +kernel) rfl (Nat.le_of_ble_eq_true rfl) (fun X hl q rt hnm => ?_)
  obtain ⟨c1, c2, ⟨hu, ⟨N2, N10⟩, hr, -⟩, c4, c5⟩ := id hC
  obtain ⟨r1, r21, rk⟩ := hr s s0 s1
  obtain ⟨d1, d2⟩ := c4 s s0 s1
  have lp : ∀ (d j : Nat), j + d = rs s → ∀ o5 : Option Value, G X 0 0 6 [some (.ref x), some (.int (iI s)), some (.int (iI p)), some (.int (iI (mnR U (rv s) (rc s) nx p j))), some (.int (iI j)), o5] [] sz S r h := by
    intro d
    induction d with
    | zero =>
      intro j hj o5
      refine r_iload_4 (pc := 6) q dX5_leastOnward_6 ?_
      refine r_aload_0 (pc := 8) q dX5_leastOnward_8 ?_
      refine r_getr (pc := 9) q fX5_29 (kz := 4) rfl (by decide) rfl hx.o hx.r_readings dX5_leastOnward_9 ?_
      refine r_iload_1 (pc := 12) q dX5_leastOnward_12 ?_
      refine r_aald28 (pc := 13) q hx.s_readings (by omega) (by omega) (hx.e_readings (by omega) (by omega)) dX5_leastOnward_13 ?_
      refine r_geti (pc := 14) q fX5_77 (kz := 2) rfl (by decide) rfl ((hx.n_readings (by omega) (by omega))).o dX5_leastOnward_14 ?_
      rw [d1]
      refine r_icmp_ge (pc := 17) q 71 dX5_leastOnward_17 (by decide) ⟨by omega, by omega⟩ ⟨by omega, by omega⟩ (fun c17 => ?_) (fun c17 => ?_)
      · refine r_iload_3 (pc := 71) q dX5_leastOnward_71 ?_
        refine r_ireturn (pc := 72) q rt dX5_leastOnward_72 ?_
        exact ⟨by rw [show rs s = j by omega], rfl⟩
      exact absurd (by omega) c17
    | succ d ih =>
      intro j hj o5
      have kb := rk j (by omega) (by omega)
      have v := (d2 j (by omega) (by omega)).2
      have ub : 2 ≤ U * rv s j ∧ U * rv s j ≤ 1350 := by
        rcases hu with u | u <;> rw [u] <;> omega
      have mb := mnR_in (U := U) (rv := rv s) (rc := rc s) (nx := nx) (p := p) (B := 0) p0 (by rcases hu with u | u <;> omega) j (fun i i0 i1 => by have := rk i i0 (by omega); omega) (fun y y0 y1 => (hn y y0 y1).2.1)
      have st : mnR U (rv s) (rc s) nx p (j + 1) = if p + U * rv s j < 601 then min (mnR U (rv s) (rc s) nx p j) (rc s j + nx (p + U * rv s j)) else mnR U (rv s) (rc s) nx p j := rfl
      refine r_iload_4 (pc := 6) q dX5_leastOnward_6 ?_
      refine r_aload_0 (pc := 8) q dX5_leastOnward_8 ?_
      refine r_getr (pc := 9) q fX5_29 (kz := 4) rfl (by decide) rfl hx.o hx.r_readings dX5_leastOnward_9 ?_
      refine r_iload_1 (pc := 12) q dX5_leastOnward_12 ?_
      refine r_aald28 (pc := 13) q hx.s_readings (by omega) (by omega) (hx.e_readings (by omega) (by omega)) dX5_leastOnward_13 ?_
      refine r_geti (pc := 14) q fX5_77 (kz := 2) rfl (by decide) rfl ((hx.n_readings (by omega) (by omega))).o dX5_leastOnward_14 ?_
      rw [d1]
      refine r_icmp_ge (pc := 17) q 71 dX5_leastOnward_17 (by decide) ⟨by omega, by omega⟩ ⟨by omega, by omega⟩ (fun c17 => ?_) (fun c17 => ?_)
      · exact absurd c17 (by omega)
      refine r_aload_0 (pc := 20) q dX5_leastOnward_20 ?_
      refine r_iload_1 (pc := 21) q dX5_leastOnward_21 ?_
      refine r_iload_2 (pc := 22) q dX5_leastOnward_22 ?_
      refine r_iload_4 (pc := 23) q dX5_leastOnward_23 ?_
      refine r_cI3 (pc := 25) q (c_X5_placeBehind hx hC s0 s1 p0 p1 (by omega) (by omega)) mX5_80 hx.o (by decide) (Nat.le_of_ble_eq_true rfl) rfl dX5_leastOnward_25 (fun z5 h5 hz5 => ?_)
      obtain ⟨hz5, rfl⟩ := hz5
      refine r_istore_5 (pc := 28) q dX5_leastOnward_28 rfl ?_
      refine r_iload_5 (pc := 30) q dX5_leastOnward_30 ?_
      refine r_iconst (pc := 32) q dX5_leastOnward_32 ?_
      refine r_icmp_eq (pc := 33) q 65 dX5_leastOnward_33 (by decide) ⟨by omega, by omega⟩ ⟨by omega, by omega⟩ (fun c33 => ?_) (fun c33 => ?_)
      · refine r_iinc_4 (pc := 65) q dX5_leastOnward_65 rfl ?_
        refine r_goto (pc := 68) (tgt := 6) q dX5_leastOnward_68 (by decide) ?_
        have q3 := ih (j + 1) (by omega) (some (.int (iI z5)))
        rw [st, if_neg (by omega)] at q3
        exact q3
      have e5 : p + U * rv s j < 601 ∧ z5 = p + U * rv s j := by omega
      have nz := hn z5 (by omega) (by omega)
      refine r_iload_3 (pc := 36) q dX5_leastOnward_36 ?_
      refine r_aload_0 (pc := 37) q dX5_leastOnward_37 ?_
      refine r_getr (pc := 38) q fX5_29 (kz := 4) rfl (by decide) rfl hx.o hx.r_readings dX5_leastOnward_38 ?_
      refine r_iload_1 (pc := 41) q dX5_leastOnward_41 ?_
      refine r_aald28 (pc := 42) q hx.s_readings (by omega) (by omega) (hx.e_readings (by omega) (by omega)) dX5_leastOnward_42 ?_
      refine r_getr (pc := 43) q fX5_84 (kz := 1) rfl (by decide) rfl ((hx.n_readings (by omega) (by omega))).o (hx.n_readings (by omega) (by omega)).r_costs dX5_leastOnward_43 ?_
      refine r_iload_4 (pc := 46) q dX5_leastOnward_46 ?_
      refine r_iald (pc := 48) q (hx.n_readings (by omega) (by omega)).s_costs (by omega) (by omega) dX5_leastOnward_48 ?_
      rw [v]
      refine r_aload_0 (pc := 49) q dX5_leastOnward_49 ?_
      refine r_getr (pc := 50) q fX5_16 (kz := 1) rfl (by decide) rfl hx.o hx.r_rest dX5_leastOnward_50 ?_
      refine r_iload_1 (pc := 53) q dX5_leastOnward_53 ?_
      refine r_iconst (pc := 54) q dX5_leastOnward_54 ?_
      refine r_iadd (pc := 55) q dX5_leastOnward_55 ?_
      refine r_aald29 (pc := 56) q hx.s_rest (by omega) (by omega) (hx.e_rest (by omega) (by omega)) dX5_leastOnward_56 ?_
      refine r_iload_5 (pc := 57) q dX5_leastOnward_57 ?_
      refine r_iald (pc := 59) q (hx.n_rest (by omega) (by omega)) (by omega) (by omega) dX5_leastOnward_59 ?_
      rw [nz.1]
      refine r_iadd (pc := 60) q dX5_leastOnward_60 ?_
      refine r_min (pc := 61) q mX5_55 ⟨by omega, by omega⟩ ⟨by omega, by omega⟩ ⟨Nat.le_of_ble_eq_true rfl, Nat.le_of_ble_eq_true rfl, Nat.le_of_ble_eq_true rfl, Nat.le_of_ble_eq_true rfl⟩ rfl dX5_leastOnward_61 ?_
      refine r_istore_3 (pc := 64) q dX5_leastOnward_64 rfl ?_
      refine r_iinc_4 (pc := 65) q dX5_leastOnward_65 rfl ?_
      refine r_goto (pc := 68) (tgt := 6) q dX5_leastOnward_68 (by decide) ?_
      have q3 := ih (j + 1) (by omega) (some (.int (iI z5)))
      rw [st, if_pos e5.1, ← e5.2] at q3
      exact q3
  refine r_ldc (pc := 0) q kX5_73 dX5_leastOnward_0 ?_
  refine r_istore_3 (pc := 2) q dX5_leastOnward_2 rfl ?_
  refine r_iconst (pc := 3) q dX5_leastOnward_3 ?_
  refine r_istore_4 (pc := 4) q dX5_leastOnward_4 rfl ?_
  exact lp (rs s) 0 (by omega) _
theorem c_X5_hasPlacing {l : Launch} {D : va_G} {aC : Nat → ClassId} {B t sz : Nat} {S : sS} {r : sR} {h : sH} {x : Nat} (hx : LX5 S r x) (hl2 : inR (h x 9)) : CtI l yX5_hasPlacing cX5_hasPlacing 1 (some .boolean) 0 0 [.ref x] D aC B t sz S r h (fun z h1 => ((z = 1 ∧ h x 9 < 1000000) ∨ (z = 0 ∧ ¬ h x 9 < 1000000)) ∧ h = h1) := by
  unfold CtI
  refine Ct.of (lv := [some (.ref x)]) (by decide +kernel) rfl (Nat.le_of_ble_eq_true rfl) (fun X hl q rt hnm => ?_)
  obtain ⟨a1, a2⟩ := hl2
  refine r_aload_0 (pc := 0) q dX5_hasPlacing_0 ?_
  refine r_geti (pc := 1) q fX5_70 (kz := 9) rfl (by decide) rfl hx.o dX5_hasPlacing_1 ?_
  refine r_ldc (pc := 4) q kX5_73 dX5_hasPlacing_4 ?_
  refine r_icmp_ge (pc := 6) q 13 dX5_hasPlacing_6 (by decide) ⟨by omega, by omega⟩ ⟨by omega, by omega⟩ (fun c6 => ?_) (fun c6 => ?_)
  · refine r_iconst (pc := 13) q dX5_hasPlacing_13 ?_
    refine r_zreturn (pc := 14) q rt dX5_hasPlacing_14 (by decide) ?_
    exact ⟨by omega, rfl⟩
  refine r_iconst (pc := 9) q dX5_hasPlacing_9 ?_
  refine r_goto (pc := 10) (tgt := 14) q dX5_hasPlacing_10 (by decide) ?_
  refine r_zreturn (pc := 14) q rt dX5_hasPlacing_14 (by decide) ?_
  exact ⟨by omega, rfl⟩
/-- rest is filled -/
def plR (h : sH) (x : Nat) (N U : Int) (rs : Int → Nat) (rv rc ow : Int → Int → Int) : Prop := ∀ s p : Int, 0 ≤ s → s < N → 0 ≤ p → p < 601 → h (x + 13 + s.toNat) p = RSt N U rs rv rc ow (N - 1 - s).toNat p
theorem c_X5_fillRest {l : Launch} {D : va_G} {aC : Nat → ClassId} {B t sz : Nat} {S : sS} {r : sR} {h : sH} {x : Nat} {N U : Int} {rs : Int → Nat} {rv rc ow : Int → Int → Int} (hx : LX5 S r x) (hC : plC h x N U rs rv rc ow) : CtV l yX5_fillRest cX5_fillRest 4 none 2 49 [.ref x] D aC B t sz S r h (fun h1 => (∀ a : Nat, a ≠ x → (a < x + 13 ∨ x + 23 ≤ a) → h1 a = h a) ∧ h1 x = up (h x) 9 (mnP (RSt N U rs rv rc ow (N - 1).toNat) 601) ∧ plR h1 x N U rs rv rc ow) := by
  unfold CtV
  refine Ct.of (lv := [some (.ref x), none, none, none]) (by decide +kernel) rfl (Nat.le_of_ble_eq_true rfl) (fun X hl q rt hnm => ?_)
  obtain ⟨c1, c2, hd, c4, c5⟩ := id hC
  obtain ⟨hu, ⟨N2, N10⟩, hr, hob⟩ := id hd
  have rb := RSt_bd hd
  have ML : ∀ (h2 : sH), (∀ a : Nat, (a < x + 13 ∨ x + 23 ≤ a) → h2 a = h a) → plR h2 x N U rs rv rc ow → ∀ (d p : Nat), p + d = 601 → ∀ (h3 : sH) (o2 o3 : Option Value), h3 = pf h2 x 9 (mnP (RSt N U rs rv rc ow (N - 1).toNat) p) → G X 0 0 90 [some (.ref x), some (.int (iI p)), o2, o3] [] sz S r h3 := by
    intro h2 fr hR d
    induction d with
    | zero =>
      intro p hp h3 o2 o3 e3
      have ep : p = 601 := by omega
      subst ep
      refine r_iload_1 (pc := 90) q dX5_fillRest_90 ?_
      refine r_sipush (pc := 91) q dX5_fillRest_91 (by decide) ?_
      refine r_icmp_ge (pc := 94) q 122 dX5_fillRest_94 (by decide) ⟨by omega, by omega⟩ ⟨by omega, by omega⟩ (fun c94 => ?_) (fun c94 => ?_)
      · refine r_return (pc := 122) q rt dX5_fillRest_122 ?_
        refine ⟨fun a a0 a1 => by rw [e3, pf_o _ 9 _ a0]; exact fr a a1, by rw [e3, pf_a, fr x (by omega)], fun s p s0 s1 p0 p1 => by rw [e3, pf_o _ 9 _ (by omega)]; exact hR s p s0 s1 p0 p1⟩
      exact absurd (by omega) c94
    | succ d ih =>
      intro p hp h3 o2 o3 e3
      have s9 : h3 x 9 = mnP (RSt N U rs rv rc ow (N - 1).toNat) p := by rw [e3]; exact pf_s _ _ _ _
      have rp : h3 (x + 13 + (0 : Int).toNat) p = RSt N U rs rv rc ow (N - 1).toNat p := by
        rw [e3, pf_o _ 9 _ (by omega)]
        have := hR 0 p (by omega) (by omega) (by omega) (by omega)
        rw [show N - 1 - 0 = N - 1 by omega] at this
        exact this
      have b1 := rb (N - 1).toNat (by omega) p (by omega) (by omega)
      have b2 := mnP_in (f := RSt N U rs rv rc ow (N - 1).toNat) p (fun y y0 y1 => (rb (N - 1).toNat (by omega) y y0 (by omega)).1)
      refine r_iload_1 (pc := 90) q dX5_fillRest_90 ?_
      refine r_sipush (pc := 91) q dX5_fillRest_91 (by decide) ?_
      refine r_icmp_ge (pc := 94) q 122 dX5_fillRest_94 (by decide) ⟨by omega, by omega⟩ ⟨by omega, by omega⟩ (fun c94 => ?_) (fun c94 => ?_)
      · exact absurd c94 (by omega)
      refine r_aload_0 (pc := 97) q dX5_fillRest_97 ?_
      refine r_aload_0 (pc := 98) q dX5_fillRest_98 ?_
      refine r_geti (pc := 99) q fX5_70 (kz := 9) rfl (by decide) rfl hx.o dX5_fillRest_99 ?_
      rw [s9]
      refine r_aload_0 (pc := 102) q dX5_fillRest_102 ?_
      refine r_getr (pc := 103) q fX5_16 (kz := 1) rfl (by decide) rfl hx.o hx.r_rest dX5_fillRest_103 ?_
      refine r_iconst (pc := 106) q dX5_fillRest_106 ?_
      refine r_aald29 (pc := 107) q hx.s_rest (by omega) (by omega) (hx.e_rest (by omega) (by omega)) dX5_fillRest_107 ?_
      refine r_iload_1 (pc := 108) q dX5_fillRest_108 ?_
      refine r_iald (pc := 109) q (hx.n_rest (by omega) (by omega)) (by omega) (by omega) dX5_fillRest_109 ?_
      rw [rp]
      refine r_min (pc := 110) q mX5_55 ⟨by omega, by omega⟩ ⟨by omega, by omega⟩ ⟨Nat.le_of_ble_eq_true rfl, Nat.le_of_ble_eq_true rfl, Nat.le_of_ble_eq_true rfl, Nat.le_of_ble_eq_true rfl⟩ rfl dX5_fillRest_110 ?_
      refine r_puti (pc := 113) q fX5_70 (kz := 9) rfl (by decide) rfl hx.o dX5_fillRest_113 (fun h4 eh4 => ?_)
      refine r_iinc_1 (pc := 116) q dX5_fillRest_116 rfl ?_
      refine r_goto (pc := 119) (tgt := 90) q dX5_fillRest_119 (by decide) ?_
      refine ih (p + 1) (by omega) h4 _ _ ?_
      rw [eh4, e3]
      unfold pf
      rw [up_s, up_uu, up_uu]
      rfl
  have SL : ∀ (d : Nat), (d : Int) ≤ N → ∀ (h2 : sH) (o2 o3 : Option Value), noL o2 = true → (∀ a : Nat, (a < x + 13 ∨ x + 23 ≤ a) → h2 a = h a) → (∀ s p : Int, d ≤ s → s < N → 0 ≤ p → p < 601 → h2 (x + 13 + s.toNat) p = RSt N U rs rv rc ow (N - 1 - s).toNat p) → G X 0 0 7 [some (.ref x), some (.int (iI ((d : Int) - 1))), o2, o3] [] sz S r h2 := by
    intro d
    induction d with
    | zero =>
      intro hd2 h2 o2 o3 n2 fr hR
      refine r_iload_1 (pc := 7) q dX5_fillRest_7 ?_
      refine r_if_lt (pc := 8) q 82 dX5_fillRest_8 (by decide) ⟨by omega, by omega⟩ (fun c8 => ?_) (fun c8 => ?_)
      · refine r_aload_0 (pc := 82) q dX5_fillRest_82 ?_
        refine r_ldc (pc := 83) q kX5_73 dX5_fillRest_83 ?_
        refine r_puti (pc := 85) q fX5_70 (kz := 9) rfl (by decide) rfl hx.o dX5_fillRest_85 (fun h3 eh3 => ?_)
        refine r_iconst (pc := 88) q dX5_fillRest_88 ?_
        refine r_istore_1 (pc := 89) q dX5_fillRest_89 rfl ?_
        exact ML h2 fr (fun s p s0 => hR s p (by omega)) 601 0 (by omega) h3 _ _ eh3
      exact absurd (by omega) c8
    | succ s ih =>
      intro hd2 h2 o2 o3 n2 fr hR
      rw [show ((s + 1 : Nat) : Int) = (s : Int) + 1 by omega] at hd2 hR ⊢
      rw [show (s : Int) + 1 - 1 = s by omega]
      have PL : ∀ (e p : Nat), p + e = 601 → ∀ (h3 : sH) (o3 : Option Value), (∀ a : Nat, (a < x + 13 ∨ x + 23 ≤ a) → h3 a = h a) → (∀ t p : Int, (s : Int) + 1 ≤ t → t < N → 0 ≤ p → p < 601 → h3 (x + 13 + t.toNat) p = RSt N U rs rv rc ow (N - 1 - t).toNat p) → (∀ y : Int, 0 ≤ y → y < p → h3 (x + 13 + (s : Int).toNat) y = RSt N U rs rv rc ow (N - 1 - s).toNat y) → G X 0 0 13 [some (.ref x), some (.int (iI s)), some (.int (iI p)), o3] [] sz S r h3 := by
        intro e
        induction e with
        | zero =>
          intro p hp h3 o3 fr3 hR3 hy
          have ep : p = 601 := by omega
          subst ep
          refine r_iload_2 (pc := 13) q dX5_fillRest_13 ?_
          refine r_sipush (pc := 14) q dX5_fillRest_14 (by decide) ?_
          refine r_icmp_ge (pc := 17) q 76 dX5_fillRest_17 (by decide) ⟨by omega, by omega⟩ ⟨by omega, by omega⟩ (fun c17 => ?_) (fun c17 => ?_)
          · refine r_iinc_1 (pc := 76) q dX5_fillRest_76 rfl ?_
            refine r_goto (pc := 79) (tgt := 7) q dX5_fillRest_79 (by decide) ?_
            refine ih (by omega) h3 _ _ rfl fr3 (fun t p t0 t1 p0 p1 => ?_)
            by_cases et : t = s
            · subst et; exact hy p p0 (by omega)
            · exact hR3 t p (by omega) t1 p0 p1
          exact absurd (by omega) c17
        | succ e ih2 =>
          intro p hp h3 o3 fr3 hR3 hy
          have hC3 : plC h3 x N U rs rv rc ow := plC_fr hC (by rw [fr3 x (by omega)]) (by rw [fr3 x (by omega)]) (fun a a0 a1 => fr3 a (by omega)) (fun a a0 a1 => fr3 a (by omega))
          have c1' : h3 x 7 = N := hC3.1
          have op := hC3.2.2.2.2 s p (by omega) (by omega) (by omega) (by omega)
          have J : ∀ (w v : Int), v = RSt N U rs rv rc ow (N - 1 - s).toNat p → G X 0 0 69 [some (.ref x), some (.int (iI s)), some (.int (iI p)), some (.int (iI w))] [.int (iI v), .int (iI p), .ref (x + 13 + (s : Int).toNat)] sz S r h3 := by
            intro w v hv
            refine r_iast (pc := 69) q (hx.n_rest (by omega) (by omega)) (by omega) (by omega) dX5_fillRest_69 (fun h4 eh4 => ?_)
            refine r_iinc_2 (pc := 70) q dX5_fillRest_70 rfl ?_
            refine r_goto (pc := 73) (tgt := 13) q dX5_fillRest_73 (by decide) ?_
            refine ih2 (p + 1) (by omega) h4 _ (fun a a0 => by rw [eh4, up_n _ _ (by omega)]; exact fr3 a a0) (fun t y t0 t1 y0 y1 => by rw [eh4, up_n _ _ (by omega)]; exact hR3 t y t0 t1 y0 y1) (fun y y0 y1 => ?_)
            rw [eh4, up_s]
            by_cases ey : y = p
            · rw [ey, up_s]; exact hv
            · rw [up_n _ _ ey]; exact hy y y0 (by omega)
          by_cases sN : (s : Int) + 1 < N
          · have stp : RSt N U rs rv rc ow (N - 1 - s).toNat p = capA (mnR U (rv s) (rc s) (RSt N U rs rv rc ow (N - 2 - s).toNat) p (rs s)) (ow s p) := by
              rw [show (N - 1 - s).toNat = (N - 2 - s).toNat + 1 by omega]
              simp only [RSt]
              rw [show N - 2 - ((N - 2 - s).toNat : Int) = s by omega]
            have mb := mnR_in (U := U) (rv := rv s) (rc := rc s) (nx := RSt N U rs rv rc ow (N - 2 - s).toNat) (p := p) (B := 0) (by omega) (by rcases hu with u | u <;> omega) (rs s) (fun j j0 j1 => by have := (hr s (by omega) sN).2.2 j j0 j1; omega) (fun y y0 y1 => (rb (N - 2 - s).toNat (by omega) y y0 y1).1)
            refine r_iload_2 (pc := 13) q dX5_fillRest_13 ?_
            refine r_sipush (pc := 14) q dX5_fillRest_14 (by decide) ?_
            refine r_icmp_ge (pc := 17) q 76 dX5_fillRest_17 (by decide) ⟨by omega, by omega⟩ ⟨by omega, by omega⟩ (fun c17 => ?_) (fun c17 => ?_)
            · exact absurd c17 (by omega)
            refine r_iload_1 (pc := 20) q dX5_fillRest_20 ?_
            refine r_aload_0 (pc := 21) q dX5_fillRest_21 ?_
            refine r_geti (pc := 22) q fX5_61 (kz := 7) rfl (by decide) rfl hx.o dX5_fillRest_22 ?_
            rw [c1']
            refine r_iconst (pc := 25) q dX5_fillRest_25 ?_
            refine r_isub (pc := 26) q dX5_fillRest_26 ?_
            refine r_icmp_ne (pc := 27) q 34 dX5_fillRest_27 (by decide) ⟨by omega, by omega⟩ ⟨by omega, by omega⟩ (fun c27 => ?_) (fun c27 => ?_)
            · refine r_aload_0 (pc := 34) q dX5_fillRest_34 ?_
              refine r_iload_1 (pc := 35) q dX5_fillRest_35 ?_
              refine r_iload_2 (pc := 36) q dX5_fillRest_36 ?_
              refine r_cI2 (pc := 37) q (c_X5_leastOnward (nx := RSt N U rs rv rc ow (N - 2 - s).toNat) hx hC3 (by omega) sN (by omega) (by omega) (fun y y0 y1 => by
                have := hR3 (s + 1) y (by omega) sN y0 y1
                rw [show (N - 1 - ((s : Int) + 1)).toNat = (N - 2 - s).toNat by omega] at this
                have b := rb (N - 2 - s).toNat (by omega) y y0 y1
                exact ⟨this, b.1, b.2.1⟩)) mX5_74 hx.o (by decide) (Nat.le_of_ble_eq_true rfl) rfl dX5_fillRest_37 (fun z1 h1 hz1 => ?_)
              obtain ⟨rfl, rfl⟩ := hz1
              refine r_istore_3 (pc := 40) q dX5_fillRest_40 rfl ?_
              refine r_aload_0 (pc := 41) q dX5_fillRest_41 ?_
              refine r_getr (pc := 42) q fX5_16 (kz := 1) rfl (by decide) rfl hx.o hx.r_rest dX5_fillRest_42 ?_
              refine r_iload_1 (pc := 45) q dX5_fillRest_45 ?_
              refine r_aald29 (pc := 46) q hx.s_rest (by omega) (by omega) (hx.e_rest (by omega) (by omega)) dX5_fillRest_46 ?_
              refine r_iload_2 (pc := 47) q dX5_fillRest_47 ?_
              refine r_iload_3 (pc := 48) q dX5_fillRest_48 ?_
              refine r_ldc (pc := 49) q kX5_73 dX5_fillRest_49 ?_
              refine r_icmp_lt (pc := 51) q 59 dX5_fillRest_51 (by decide) ⟨by omega, by omega⟩ ⟨by omega, by omega⟩ (fun c51 => ?_) (fun c51 => ?_)
              · refine r_aload_0 (pc := 59) q dX5_fillRest_59 ?_
                refine r_getr (pc := 60) q fX5_11 (kz := 0) rfl (by decide) rfl hx.o hx.r_own dX5_fillRest_60 ?_
                refine r_iload_1 (pc := 63) q dX5_fillRest_63 ?_
                refine r_aald29 (pc := 64) q hx.s_own (by omega) (by omega) (hx.e_own (by omega) (by omega)) dX5_fillRest_64 ?_
                refine r_iload_2 (pc := 65) q dX5_fillRest_65 ?_
                refine r_iald (pc := 66) q (hx.n_own (by omega) (by omega)) (by omega) (by omega) dX5_fillRest_66 ?_
                refine r_iload_3 (pc := 67) q dX5_fillRest_67 ?_
                refine r_iadd (pc := 68) q dX5_fillRest_68 ?_
                refine J _ _ ?_
                rw [stp]
                unfold capA
                rw [if_neg (by omega), op]; omega
              refine r_ldc (pc := 54) q kX5_73 dX5_fillRest_54 ?_
              refine r_goto (pc := 56) (tgt := 69) q dX5_fillRest_56 (by decide) ?_
              refine J _ _ ?_
              rw [stp]
              unfold capA
              rw [if_pos (by omega)]
            exact absurd c27 (by omega)
          · have stp : RSt N U rs rv rc ow (N - 1 - s).toNat p = ow s p := by
              rw [show (N - 1 - s).toNat = 0 by omega, show (s : Int) = N - 1 by omega]; rfl
            refine r_iload_2 (pc := 13) q dX5_fillRest_13 ?_
            refine r_sipush (pc := 14) q dX5_fillRest_14 (by decide) ?_
            refine r_icmp_ge (pc := 17) q 76 dX5_fillRest_17 (by decide) ⟨by omega, by omega⟩ ⟨by omega, by omega⟩ (fun c17 => ?_) (fun c17 => ?_)
            · exact absurd c17 (by omega)
            refine r_iload_1 (pc := 20) q dX5_fillRest_20 ?_
            refine r_aload_0 (pc := 21) q dX5_fillRest_21 ?_
            refine r_geti (pc := 22) q fX5_61 (kz := 7) rfl (by decide) rfl hx.o dX5_fillRest_22 ?_
            rw [c1']
            refine r_iconst (pc := 25) q dX5_fillRest_25 ?_
            refine r_isub (pc := 26) q dX5_fillRest_26 ?_
            refine r_icmp_ne (pc := 27) q 34 dX5_fillRest_27 (by decide) ⟨by omega, by omega⟩ ⟨by omega, by omega⟩ (fun c27 => ?_) (fun c27 => ?_)
            · exact absurd (by omega) c27
            refine r_iconst (pc := 30) q dX5_fillRest_30 ?_
            refine r_goto (pc := 31) (tgt := 40) q dX5_fillRest_31 (by decide) ?_
            refine r_istore_3 (pc := 40) q dX5_fillRest_40 rfl ?_
            refine r_aload_0 (pc := 41) q dX5_fillRest_41 ?_
            refine r_getr (pc := 42) q fX5_16 (kz := 1) rfl (by decide) rfl hx.o hx.r_rest dX5_fillRest_42 ?_
            refine r_iload_1 (pc := 45) q dX5_fillRest_45 ?_
            refine r_aald29 (pc := 46) q hx.s_rest (by omega) (by omega) (hx.e_rest (by omega) (by omega)) dX5_fillRest_46 ?_
            refine r_iload_2 (pc := 47) q dX5_fillRest_47 ?_
            refine r_iload_3 (pc := 48) q dX5_fillRest_48 ?_
            refine r_ldc (pc := 49) q kX5_73 dX5_fillRest_49 ?_
            refine r_icmp_lt (pc := 51) q 59 dX5_fillRest_51 (by decide) ⟨by omega, by omega⟩ ⟨by omega, by omega⟩ (fun c51 => ?_) (fun c51 => ?_)
            · refine r_aload_0 (pc := 59) q dX5_fillRest_59 ?_
              refine r_getr (pc := 60) q fX5_11 (kz := 0) rfl (by decide) rfl hx.o hx.r_own dX5_fillRest_60 ?_
              refine r_iload_1 (pc := 63) q dX5_fillRest_63 ?_
              refine r_aald29 (pc := 64) q hx.s_own (by omega) (by omega) (hx.e_own (by omega) (by omega)) dX5_fillRest_64 ?_
              refine r_iload_2 (pc := 65) q dX5_fillRest_65 ?_
              refine r_iald (pc := 66) q (hx.n_own (by omega) (by omega)) (by omega) (by omega) dX5_fillRest_66 ?_
              rw [op]
              refine r_iload_3 (pc := 67) q dX5_fillRest_67 ?_
              refine r_iadd (pc := 68) q dX5_fillRest_68 ?_
              refine J _ _ ?_
              rw [stp]; omega
            exact absurd (by omega) c51
      refine r_iload_1 (pc := 7) q dX5_fillRest_7 ?_
      refine r_if_lt (pc := 8) q 82 dX5_fillRest_8 (by decide) ⟨by omega, by omega⟩ (fun c8 => ?_) (fun c8 => ?_)
      · exact absurd c8 (by omega)
      refine r_iconst (pc := 11) q dX5_fillRest_11 ?_
      refine r_istore_2 (pc := 12) q dX5_fillRest_12 rfl ?_
      exact PL 601 0 (by omega) h2 _ fr (fun t p t0 => hR t p (by omega)) (fun y y0 y1 => by omega)
  refine r_aload_0 (pc := 0) q dX5_fillRest_0 ?_
  refine r_geti (pc := 1) q fX5_61 (kz := 7) rfl (by decide) rfl hx.o dX5_fillRest_1 ?_
  rw [c1]
  refine r_iconst (pc := 4) q dX5_fillRest_4 ?_
  refine r_isub (pc := 5) q dX5_fillRest_5 ?_
  refine r_istore_1 (pc := 6) q dX5_fillRest_6 rfl ?_
  have q3 := SL N.toNat (by omega) h none none rfl (fun _ _ => rfl) (fun s p s0 s1 => by omega)
  rw [show ((N.toNat : Nat) : Int) = N by omega] at q3
  exact q3
