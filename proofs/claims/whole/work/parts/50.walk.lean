theorem c_X5_nextOfBest {l : Launch} {D : va_G} {aC : Nat → ClassId} {B t sz : Nat} {S : sS} {r : sR} {h : sH} {x : Nat} {N U s p : Int} {rs : Int → Nat} {rv rc ow : Int → Int → Int} (hx : LX5 S r x) (hC : plC h x N U rs rv rc ow) (hR : plR h x N U rs rv rc ow) (s0 : 0 ≤ s) (s1 : s + 1 < N) (p0 : 0 ≤ p) (p1 : p < 601) : CtI l yX5_nextOfBest cX5_nextOfBest 6 (some .int) 1 24 [.ref x, .int (iI s), .int (iI p)] D aC B t sz S r h (fun z h1 => ((0 ≤ z ∧ z ≤ 600) ∧ (∀ k : Int, 0 ≤ k → k < rs s → gdK U (rv s) (rc s) (RSt N U rs rv rc ow (N - 2 - s).toNat) (RSt N U rs rv rc ow (N - 1 - s).toNat p - ow s p) p k → z ≤ p + U * rv s k) ∧ (z = 600 ∨ ∃ k : Int, 0 ≤ k ∧ k < rs s ∧ gdK U (rv s) (rc s) (RSt N U rs rv rc ow (N - 2 - s).toNat) (RSt N U rs rv rc ow (N - 1 - s).toNat p - ow s p) p k ∧ z = p + U * rv s k)) ∧ h = h1) := by
  unfold CtI
  refine Ct.of (lv := [some (.ref x), some (.int (iI s)), some (.int (iI p)), none, none, none]) (by decide +kernel) rfl (Nat.le_of_ble_eq_true rfl) (fun X hl q rt hnm => ?_)
  obtain ⟨c1, c2, hd, c4, c5⟩ := id hC
  obtain ⟨hu, ⟨N2, N10⟩, hr, hob⟩ := id hd
  obtain ⟨r1, r21, rk⟩ := hr s s0 s1
  obtain ⟨d1, d2⟩ := c4 s s0 s1
  have rb := RSt_bd hd
  have ob := hob s p s0 (by omega) p0 p1
  have rp := hR s p s0 (by omega) p0 p1
  have rpb := rb (N - 1 - s).toNat (by omega) p p0 p1
  have lp : ∀ (d j : Nat), j + d = rs s → ∀ (f : Int) (o5 : Option Value), 0 ≤ f → f ≤ 600 → (∀ k : Int, 0 ≤ k → k < j → gdK U (rv s) (rc s) (RSt N U rs rv rc ow (N - 2 - s).toNat) (RSt N U rs rv rc ow (N - 1 - s).toNat p - ow s p) p k → f ≤ p + U * rv s k) → (f = 600 ∨ ∃ k : Int, 0 ≤ k ∧ k < j ∧ gdK U (rv s) (rc s) (RSt N U rs rv rc ow (N - 2 - s).toNat) (RSt N U rs rv rc ow (N - 1 - s).toNat p - ow s p) p k ∧ f = p + U * rv s k) → G X 0 0 7 [some (.ref x), some (.int (iI s)), some (.int (iI p)), some (.int (iI f)), some (.int (iI j)), o5] [] sz S r h := by
    intro d
    induction d with
    | zero =>
      intro j hj f o5 f0 f1 hf hg
      have ej : j = rs s := by omega
      subst ej
      refine r_iload_4 (pc := 7) q dX5_nextOfBest_7 ?_
      refine r_aload_0 (pc := 9) q dX5_nextOfBest_9 ?_
      refine r_getr (pc := 10) q fX5_29 (kz := 4) rfl (by decide) rfl hx.o hx.r_readings dX5_nextOfBest_10 ?_
      refine r_iload_1 (pc := 13) q dX5_nextOfBest_13 ?_
      refine r_aald28 (pc := 14) q hx.s_readings (by omega) (by omega) (hx.e_readings (by omega) (by omega)) dX5_nextOfBest_14 ?_
      refine r_geti (pc := 15) q fX5_77 (kz := 2) rfl (by decide) rfl ((hx.n_readings (by omega) (by omega))).o dX5_nextOfBest_15 ?_
      rw [d1]
      refine r_icmp_ge (pc := 18) q 63 dX5_nextOfBest_18 (by decide) ⟨by omega, by omega⟩ ⟨by omega, by omega⟩ (fun c18 => ?_) (fun c18 => ?_)
      · refine r_iload_3 (pc := 63) q dX5_nextOfBest_63 ?_
        refine r_ireturn (pc := 64) q rt dX5_nextOfBest_64 ?_
        exact ⟨⟨⟨f0, f1⟩, hf, hg⟩, rfl⟩
      exact absurd (by omega) c18
    | succ d ih =>
      intro j hj f o5 f0 f1 hf hg
      have kb := rk j (by omega) (by omega)
      have ub : 2 ≤ U * rv s j ∧ U * rv s j ≤ 1350 := by
        rcases hu with u | u <;> rw [u] <;> omega
      have skip : ¬ gdK U (rv s) (rc s) (RSt N U rs rv rc ow (N - 2 - s).toNat) (RSt N U rs rv rc ow (N - 1 - s).toNat p - ow s p) p j → ∀ o5 : Option Value, G X 0 0 57 [some (.ref x), some (.int (iI s)), some (.int (iI p)), some (.int (iI f)), some (.int (iI j)), o5] [] sz S r h := by
        intro hn o5
        refine r_iinc_4 (pc := 57) q dX5_nextOfBest_57 rfl ?_
        refine r_goto (pc := 60) (tgt := 7) q dX5_nextOfBest_60 (by decide) ?_
        refine ih (j + 1) (by omega) f _ f0 f1 (fun k k0 k1 gk => ?_) ?_
        · by_cases ek : k = j
          · rw [ek] at gk; exact absurd gk hn
          · exact hf k k0 (by omega) gk
        · rcases hg with z | ⟨k, k0, k1, k2⟩
          · exact Or.inl z
          · exact Or.inr ⟨k, k0, by omega, k2⟩
      refine r_iload_4 (pc := 7) q dX5_nextOfBest_7 ?_
      refine r_aload_0 (pc := 9) q dX5_nextOfBest_9 ?_
      refine r_getr (pc := 10) q fX5_29 (kz := 4) rfl (by decide) rfl hx.o hx.r_readings dX5_nextOfBest_10 ?_
      refine r_iload_1 (pc := 13) q dX5_nextOfBest_13 ?_
      refine r_aald28 (pc := 14) q hx.s_readings (by omega) (by omega) (hx.e_readings (by omega) (by omega)) dX5_nextOfBest_14 ?_
      refine r_geti (pc := 15) q fX5_77 (kz := 2) rfl (by decide) rfl ((hx.n_readings (by omega) (by omega))).o dX5_nextOfBest_15 ?_
      rw [d1]
      refine r_icmp_ge (pc := 18) q 63 dX5_nextOfBest_18 (by decide) ⟨by omega, by omega⟩ ⟨by omega, by omega⟩ (fun c18 => ?_) (fun c18 => ?_)
      · exact absurd c18 (by omega)
      refine r_aload_0 (pc := 21) q dX5_nextOfBest_21 ?_
      refine r_iload_1 (pc := 22) q dX5_nextOfBest_22 ?_
      refine r_iload_2 (pc := 23) q dX5_nextOfBest_23 ?_
      refine r_iload_4 (pc := 24) q dX5_nextOfBest_24 ?_
      refine r_cI3 (pc := 26) q (c_X5_placeBehind hx hC s0 s1 p0 p1 (by omega) (by omega)) mX5_80 hx.o (by decide) (Nat.le_of_ble_eq_true rfl) rfl dX5_nextOfBest_26 (fun z5 h5 hz5 => ?_)
      obtain ⟨hz5, rfl⟩ := hz5
      refine r_istore_5 (pc := 29) q dX5_nextOfBest_29 rfl ?_
      refine r_iload_5 (pc := 31) q dX5_nextOfBest_31 ?_
      refine r_iconst (pc := 33) q dX5_nextOfBest_33 ?_
      refine r_icmp_eq (pc := 34) q 57 dX5_nextOfBest_34 (by decide) ⟨by omega, by omega⟩ ⟨by omega, by omega⟩ (fun c34 => ?_) (fun c34 => ?_)
      · exact skip (fun z => by have := z.1; omega) _
      have e5 : p + U * rv s j < 601 ∧ z5 = p + U * rv s j := by omega
      have rq := hR (s + 1) z5 (by omega) s1 (by omega) (by omega)
      rw [show (N - 1 - (s + 1)).toNat = (N - 2 - s).toNat by omega] at rq
      have rqb := rb (N - 2 - s).toNat (by omega) z5 (by omega) (by omega)
      refine r_aload_0 (pc := 37) q dX5_nextOfBest_37 ?_
      refine r_iload_1 (pc := 38) q dX5_nextOfBest_38 ?_
      refine r_iload_2 (pc := 39) q dX5_nextOfBest_39 ?_
      refine r_iload_4 (pc := 40) q dX5_nextOfBest_40 ?_
      refine r_iload_5 (pc := 42) q dX5_nextOfBest_42 ?_
      refine r_cI4 (pc := 44) q (c_X5_dearerBy hx hC s0 s1 p0 p1 (by omega) (by omega) (by omega) (by omega)) mX5_93 hx.o (by decide) (Nat.le_of_ble_eq_true rfl) rfl dX5_nextOfBest_44 (fun z1 h1 hz1 => ?_)
      obtain ⟨rfl, rfl⟩ := hz1
      rw [rq, rp]
      refine r_if_ne (pc := 47) q 57 dX5_nextOfBest_47 (by decide) ⟨by omega, by omega⟩ (fun c47 => ?_) (fun c47 => ?_)
      · refine skip (fun z => c47 ?_) _
        have := z.2
        rw [← e5.2] at this
        omega
      refine r_iload_3 (pc := 50) q dX5_nextOfBest_50 ?_
      refine r_iload_5 (pc := 51) q dX5_nextOfBest_51 ?_
      refine r_min (pc := 53) q mX5_55 ⟨by omega, by omega⟩ ⟨by omega, by omega⟩ ⟨Nat.le_of_ble_eq_true rfl, Nat.le_of_ble_eq_true rfl, Nat.le_of_ble_eq_true rfl, Nat.le_of_ble_eq_true rfl⟩ rfl dX5_nextOfBest_53 ?_
      refine r_istore_3 (pc := 56) q dX5_nextOfBest_56 rfl ?_
      refine r_iinc_4 (pc := 57) q dX5_nextOfBest_57 rfl ?_
      refine r_goto (pc := 60) (tgt := 7) q dX5_nextOfBest_60 (by decide) ?_
      have gj : gdK U (rv s) (rc s) (RSt N U rs rv rc ow (N - 2 - s).toNat) (RSt N U rs rv rc ow (N - 1 - s).toNat p - ow s p) p j := ⟨e5.1, by rw [← e5.2]; omega⟩
      refine ih (j + 1) (by omega) (min f z5) _ (by omega) (by omega) (fun k k0 k1 gk => ?_) ?_
      · by_cases ek : k = j
        · rw [ek]; omega
        · have := hf k k0 (by omega) gk; omega
      · by_cases lt : z5 ≤ f
        · exact Or.inr ⟨j, by omega, by omega, gj, by omega⟩
        · rcases hg with z | ⟨k, k0, k1, k2, k3⟩
          · exact Or.inl (by omega)
          · exact Or.inr ⟨k, k0, by omega, k2, by omega⟩
  refine r_sipush (pc := 0) q dX5_nextOfBest_0 (by decide) ?_
  refine r_istore_3 (pc := 3) q dX5_nextOfBest_3 rfl ?_
  refine r_iconst (pc := 4) q dX5_nextOfBest_4 ?_
  refine r_istore_4 (pc := 5) q dX5_nextOfBest_5 rfl ?_
  exact lp (rs s) 0 (by omega) 600 _ (by omega) (by omega) (fun k k0 k1 => by omega) (Or.inl rfl)
theorem RSt_att {N U : Int} {rs : Int → Nat} {rv rc ow : Int → Int → Int} (hd : rdy N U rs rv rc ow) {s p : Int} (s0 : 0 ≤ s) (s1 : s + 1 < N) (p0 : 0 ≤ p) (p1 : p < 601) (fin : RSt N U rs rv rc ow (N - 1 - s).toNat p < 1000000) : ∃ k : Int, 0 ≤ k ∧ k < rs s ∧ gdK U (rv s) (rc s) (RSt N U rs rv rc ow (N - 2 - s).toNat) (RSt N U rs rv rc ow (N - 1 - s).toNat p - ow s p) p k := by
  have stp : RSt N U rs rv rc ow (N - 1 - s).toNat p = capA (mnR U (rv s) (rc s) (RSt N U rs rv rc ow (N - 2 - s).toNat) p (rs s)) (ow s p) := by
    rw [show (N - 1 - s).toNat = (N - 2 - s).toNat + 1 by omega]
    simp only [RSt]
    rw [show N - 2 - ((N - 2 - s).toNat : Int) = s by omega]
  rw [stp] at fin ⊢
  unfold capA at fin ⊢
  split at fin
  · omega
  · rename_i z
    rw [if_neg z]
    obtain ⟨k, k0, k1, k2, k3⟩ := mnR_att (U := U) (rv := rv s) (rc := rc s) (nx := RSt N U rs rv rc ow (N - 2 - s).toNat) (p := p) (rs s) (by omega)
    exact ⟨k, k0, k1, k2, by omega⟩
theorem c_X5_walkBest {l : Launch} {D : va_G} {aC : Nat → ClassId} {B t sz : Nat} {S : sS} {r : sR} {h : sH} {x : Nat} {N U : Int} {rs : Int → Nat} {rv rc ow : Int → Int → Int} (hx : LX5 S r x) (hC : plC h x N U rs rv rc ow) (hR : plR h x N U rs rv rc ow) (hl9 : h x 9 = mnP (RSt N U rs rv rc ow (N - 1).toNat) 601) (fin : mnP (RSt N U rs rv rc ow (N - 1).toNat) 601 < 1000000) : CtV l yX5_walkBest cX5_walkBest 3 none 2 49 [.ref x] D aC B t sz S r h (fun h1 => (∀ a : Nat, a ≠ x + 29 → h1 a = h a) ∧ bRow N U rs rv rc ow (RSt N U rs rv rc ow) (h1 (x + 29)) ∧ ∀ i : Int, 0 ≤ i → i < N → 0 ≤ h1 (x + 29) i ∧ h1 (x + 29) i ≤ 600) := by
  unfold CtV
  refine Ct.of (lv := [some (.ref x), none, none]) (by decide +kernel) rfl (Nat.le_of_ble_eq_true rfl) (fun X hl q rt hnm => ?_)
  obtain ⟨c1, c2, hd, c4, c5⟩ := id hC
  obtain ⟨hu, ⟨N2, N10⟩, hr, hob⟩ := id hd
  have rb := RSt_bd hd
  obtain ⟨bs, hbs⟩ : ∃ bs, mnP (RSt N U rs rv rc ow (N - 1).toNat) 601 = bs := ⟨_, rfl⟩
  rw [hbs] at hl9 fin
  have bsb := mnP_in (f := RSt N U rs rv rc ow (N - 1).toNat) 601 (fun p p0 p1 => (rb _ (by omega) p p0 (by omega)).1)
  rw [hbs] at bsb
  obtain ⟨pm, pm0, pm1, pm2⟩ := mnP_att (f := RSt N U rs rv rc ow (N - 1).toNat) 601 (by rw [hbs]; exact fin)
  rw [hbs] at pm2
  have rest : ∀ (d i : Nat), (i : Int) + d = N - 1 → ∀ (h2 : sH) (p : Int), (∀ a : Nat, a ≠ x + 29 → h2 a = h a) → h2 (x + 29) i = p → isFst (RSt N U rs rv rc ow (N - 1).toNat) bs (h2 (x + 29) 0) → (∀ y : Int, 0 ≤ y → y ≤ i → 0 ≤ h2 (x + 29) y ∧ h2 (x + 29) y < 601 ∧ RSt N U rs rv rc ow (N - 1 - y).toNat (h2 (x + 29) y) < 1000000) → (∀ y : Int, 0 ≤ y → y < i → isLst U (rs y) (rv y) (rc y) (RSt N U rs rv rc ow (N - 2 - y).toNat) (RSt N U rs rv rc ow (N - 1 - y).toNat (h2 (x + 29) y) - ow y (h2 (x + 29) y)) (h2 (x + 29) y) (h2 (x + 29) (y + 1))) → G X 0 0 39 [some (.ref x), some (.int (iI p)), some (.int (iI i))] [] sz S r h2 := by
    intro d
    induction d with
    | zero =>
      intro i hi h2 p fr hp hf hy hl2
      have e7 : h2 x 7 = N := by rw [fr x (by omega)]; exact c1
      refine r_iload_2 (pc := 39) q dX5_walkBest_39 ?_
      refine r_aload_0 (pc := 40) q dX5_walkBest_40 ?_
      refine r_geti (pc := 41) q fX5_61 (kz := 7) rfl (by decide) rfl hx.o dX5_walkBest_41 ?_
      rw [e7]
      refine r_iconst (pc := 44) q dX5_walkBest_44 ?_
      refine r_isub (pc := 45) q dX5_walkBest_45 ?_
      refine r_icmp_ge (pc := 46) q 71 dX5_walkBest_46 (by decide) ⟨by omega, by omega⟩ ⟨by omega, by omega⟩ (fun c46 => ?_) (fun c46 => ?_)
      · refine r_return (pc := 71) q rt dX5_walkBest_71 ?_
        refine ⟨fr, ⟨by rw [hbs]; exact hf, fun y y0 y1 => hl2 y y0 (by omega)⟩, fun y y0 y1 => ?_⟩
        have := hy y y0 (by omega)
        omega
      exact absurd (by omega) c46
    | succ d ih =>
      intro i hi h2 p fr hp hf hy hl2
      have e7 : h2 x 7 = N := by rw [fr x (by omega)]; exact c1
      have hC2 : plC h2 x N U rs rv rc ow := plC_fr hC (by rw [fr x (by omega)]) (by rw [fr x (by omega)]) (fun a a0 a1 => fr a (by omega)) (fun a a0 a1 => fr a (by omega))
      have hR2 : plR h2 x N U rs rv rc ow := fun s p s0 s1 p0 p1 => by rw [fr _ (by omega)]; exact hR s p s0 s1 p0 p1
      have hyi := hy i (by omega) (by omega)
      rw [hp] at hyi
      obtain ⟨k, k0, k1, k2⟩ := RSt_att hd (show (0 : Int) ≤ i by omega) (by omega) hyi.1 hyi.2.1 hyi.2.2
      have ob := hob i p (by omega) (by omega) hyi.1 hyi.2.1
      refine r_iload_2 (pc := 39) q dX5_walkBest_39 ?_
      refine r_aload_0 (pc := 40) q dX5_walkBest_40 ?_
      refine r_geti (pc := 41) q fX5_61 (kz := 7) rfl (by decide) rfl hx.o dX5_walkBest_41 ?_
      rw [e7]
      refine r_iconst (pc := 44) q dX5_walkBest_44 ?_
      refine r_isub (pc := 45) q dX5_walkBest_45 ?_
      refine r_icmp_ge (pc := 46) q 71 dX5_walkBest_46 (by decide) ⟨by omega, by omega⟩ ⟨by omega, by omega⟩ (fun c46 => ?_) (fun c46 => ?_)
      · exact absurd c46 (by omega)
      refine r_aload_0 (pc := 49) q dX5_walkBest_49 ?_
      refine r_iload_2 (pc := 50) q dX5_walkBest_50 ?_
      refine r_iload_1 (pc := 51) q dX5_walkBest_51 ?_
      refine r_cI2 (pc := 52) q (c_X5_nextOfBest hx hC2 hR2 (by omega) (by omega) hyi.1 hyi.2.1) mX5_90 hx.o (by decide) (Nat.le_of_ble_eq_true rfl) rfl dX5_walkBest_52 (fun z5 h5 hz5 => ?_)
      obtain ⟨hz5, rfl⟩ := hz5
      obtain ⟨⟨z0, z1⟩, zl, zg⟩ := hz5
      have lst : isLst U (rs i) (rv i) (rc i) (RSt N U rs rv rc ow (N - 2 - i).toNat) (RSt N U rs rv rc ow (N - 1 - i).toNat p - ow i p) p z5 := by
        refine ⟨?_, zl⟩
        rcases zg with z | ⟨k', q0, q1, q2, q3⟩
        · have a1 := zl k k0 k1 k2
          have a2 := k2.1
          exact ⟨k, k0, k1, k2, by omega⟩
        · exact ⟨k', q0, q1, q2, q3⟩
      refine r_istore_1 (pc := 55) q dX5_walkBest_55 rfl ?_
      refine r_aload_0 (pc := 56) q dX5_walkBest_56 ?_
      refine r_getr (pc := 57) q fX5_38 (kz := 6) rfl (by decide) rfl hx.o hx.r_bestPlaces dX5_walkBest_57 ?_
      refine r_iload_2 (pc := 60) q dX5_walkBest_60 ?_
      refine r_iconst (pc := 61) q dX5_walkBest_61 ?_
      refine r_iadd (pc := 62) q dX5_walkBest_62 ?_
      refine r_iload_1 (pc := 63) q dX5_walkBest_63 ?_
      refine r_iast (pc := 64) q hx.s_bestPlaces (by omega) (by omega) dX5_walkBest_64 (fun h6 eh6 => ?_)
      refine r_iinc_2 (pc := 65) q dX5_walkBest_65 rfl ?_
      refine r_goto (pc := 68) (tgt := 39) q dX5_walkBest_68 (by decide) ?_
      have e6 : h6 (x + 29) = up (h2 (x + 29)) (i + 1) z5 := by rw [eh6, up_s]
      have zf : RSt N U rs rv rc ow (N - 1 - ((i : Int) + 1)).toNat z5 < 1000000 := by
        obtain ⟨k', q0, q1, q2, q3⟩ := lst.1
        have a1 := q2.2
        rw [← q3] at a1
        have a3 := ((hr i (by omega) (by omega)).2.2 k' q0 q1)
        rw [show (N - 1 - ((i : Int) + 1)).toNat = (N - 2 - i).toNat by omega]
        omega
      refine ih (i + 1) (by omega) h6 z5 (fun a a0 => by rw [eh6, up_n _ _ a0]; exact fr a a0) (by rw [e6]; exact up_s _ _ _) (by rw [e6, up_n _ _ (by omega)]; exact hf) (fun y y0 y1 => ?_) (fun y y0 y1 => ?_)
      · rw [e6]
        by_cases ey : y = i + 1
        · rw [ey, up_s]; exact ⟨z0, by omega, zf⟩
        · rw [up_n _ _ ey]; exact hy y y0 (by omega)
      · rw [e6]
        by_cases ey : y = i
        · rw [ey, up_s, up_n _ _ (by omega), hp]; exact lst
        · rw [up_n _ _ (by omega), up_n _ _ (by omega)]; exact hl2 y y0 (by omega)
  have J30 : ∀ p : Int, isFst (RSt N U rs rv rc ow (N - 1).toNat) bs p → G X 0 0 30 [some (.ref x), some (.int (iI p)), none] [] sz S r h := by
    intro p hf
    refine r_aload_0 (pc := 30) q dX5_walkBest_30 ?_
    refine r_getr (pc := 31) q fX5_38 (kz := 6) rfl (by decide) rfl hx.o hx.r_bestPlaces dX5_walkBest_31 ?_
    refine r_iconst (pc := 34) q dX5_walkBest_34 ?_
    refine r_iload_1 (pc := 35) q dX5_walkBest_35 ?_
    refine r_iast (pc := 36) q hx.s_bestPlaces (by omega) (by omega) dX5_walkBest_36 (fun h3 eh3 => ?_)
    refine r_iconst (pc := 37) q dX5_walkBest_37 ?_
    refine r_istore_2 (pc := 38) q dX5_walkBest_38 rfl ?_
    have e3 : h3 (x + 29) = up (h (x + 29)) 0 p := by rw [eh3, up_s]
    refine rest (N - 1).toNat 0 (by omega) h3 p (fun a a0 => by rw [eh3, up_n _ _ a0]) (by rw [e3]; exact up_s _ _ _) (by rw [e3, up_s]; exact hf) (fun y y0 y1 => ?_) (fun y y0 y1 => by omega)
    rw [show y = 0 by omega, e3, up_s]
    refine ⟨hf.1, hf.2.1, ?_⟩
    rw [show N - 1 - 0 = N - 1 by omega, hf.2.2.1]
    exact fin
  have lp : ∀ (d j : Nat), (j : Int) + d = pm → (∀ y : Int, 0 ≤ y → y < j → RSt N U rs rv rc ow (N - 1).toNat y ≠ bs) → G X 0 0 2 [some (.ref x), some (.int (iI j)), none] [] sz S r h := by
    intro d
    induction d with
    | zero =>
      intro j hj hn
      have ej : (j : Int) = pm := by omega
      have e0 := hR 0 j (by omega) (by omega) (by omega) (by omega)
      rw [show N - 1 - 0 = N - 1 by omega] at e0
      have fs : isFst (RSt N U rs rv rc ow (N - 1).toNat) bs j := ⟨by omega, by omega, by rw [ej]; exact pm2, hn⟩
      have rbj := rb (N - 1).toNat (by omega) j (by omega) (by omega)
      refine r_iload_1 (pc := 2) q dX5_walkBest_2 ?_
      refine r_sipush (pc := 3) q dX5_walkBest_3 (by decide) ?_
      refine r_icmp_ge (pc := 6) q 30 dX5_walkBest_6 (by decide) ⟨by omega, by omega⟩ ⟨by omega, by omega⟩ (fun c6 => ?_) (fun c6 => ?_)
      · exact J30 j fs
      refine r_aload_0 (pc := 9) q dX5_walkBest_9 ?_
      refine r_getr (pc := 10) q fX5_16 (kz := 1) rfl (by decide) rfl hx.o hx.r_rest dX5_walkBest_10 ?_
      refine r_iconst (pc := 13) q dX5_walkBest_13 ?_
      refine r_aald29 (pc := 14) q hx.s_rest (by omega) (by omega) (hx.e_rest (by omega) (by omega)) dX5_walkBest_14 ?_
      refine r_iload_1 (pc := 15) q dX5_walkBest_15 ?_
      refine r_iald (pc := 16) q (hx.n_rest (by omega) (by omega)) (by omega) (by omega) dX5_walkBest_16 ?_
      rw [e0]
      refine r_aload_0 (pc := 17) q dX5_walkBest_17 ?_
      refine r_geti (pc := 18) q fX5_70 (kz := 9) rfl (by decide) rfl hx.o dX5_walkBest_18 ?_
      rw [hl9]
      refine r_icmp_eq (pc := 21) q 30 dX5_walkBest_21 (by decide) ⟨by omega, by omega⟩ ⟨by omega, by omega⟩ (fun c21 => ?_) (fun c21 => ?_)
      · exact J30 j fs
      exact absurd (by rw [ej]; exact pm2) c21
    | succ d ih =>
      intro j hj hn
      have e0 := hR 0 j (by omega) (by omega) (by omega) (by omega)
      rw [show N - 1 - 0 = N - 1 by omega] at e0
      have rbj := rb (N - 1).toNat (by omega) j (by omega) (by omega)
      refine r_iload_1 (pc := 2) q dX5_walkBest_2 ?_
      refine r_sipush (pc := 3) q dX5_walkBest_3 (by decide) ?_
      refine r_icmp_ge (pc := 6) q 30 dX5_walkBest_6 (by decide) ⟨by omega, by omega⟩ ⟨by omega, by omega⟩ (fun c6 => ?_) (fun c6 => ?_)
      · exact absurd c6 (by omega)
      refine r_aload_0 (pc := 9) q dX5_walkBest_9 ?_
      refine r_getr (pc := 10) q fX5_16 (kz := 1) rfl (by decide) rfl hx.o hx.r_rest dX5_walkBest_10 ?_
      refine r_iconst (pc := 13) q dX5_walkBest_13 ?_
      refine r_aald29 (pc := 14) q hx.s_rest (by omega) (by omega) (hx.e_rest (by omega) (by omega)) dX5_walkBest_14 ?_
      refine r_iload_1 (pc := 15) q dX5_walkBest_15 ?_
      refine r_iald (pc := 16) q (hx.n_rest (by omega) (by omega)) (by omega) (by omega) dX5_walkBest_16 ?_
      rw [e0]
      refine r_aload_0 (pc := 17) q dX5_walkBest_17 ?_
      refine r_geti (pc := 18) q fX5_70 (kz := 9) rfl (by decide) rfl hx.o dX5_walkBest_18 ?_
      rw [hl9]
      refine r_icmp_eq (pc := 21) q 30 dX5_walkBest_21 (by decide) ⟨by omega, by omega⟩ ⟨by omega, by omega⟩ (fun c21 => ?_) (fun c21 => ?_)
      · exact J30 j ⟨by omega, by omega, c21, hn⟩
      refine r_iinc_1 (pc := 24) q dX5_walkBest_24 rfl ?_
      refine r_goto (pc := 27) (tgt := 2) q dX5_walkBest_27 (by decide) ?_
      refine ih (j + 1) (by omega) (fun y y0 y1 => ?_)
      by_cases ey : y = j
      · rw [ey]; exact c21
      · exact hn y y0 (by omega)
  refine r_iconst (pc := 0) q dX5_walkBest_0 ?_
  refine r_istore_1 (pc := 1) q dX5_walkBest_1 rfl ?_
  exact lp pm.toNat 0 (by omega) (fun y y0 y1 => by omega)
theorem c_X5_takeRoute {l : Launch} {D : va_G} {aC : Nat → ClassId} {B t sz : Nat} {S : sS} {r : sR} {h : sH} {x y u : Nat} {N U : Int} {g : Int → Int → Int} {n : Int → Int} (hx : LX5 S r x) (hy : LX7 S r y) (hu : LX1 S r u) (hN : h y 4 = N) (N2 : 2 ≤ N) (N10 : N ≤ 10) (hU : h y 3 = U) (hH : hbC h u) (hg : ∀ i : Int, 0 ≤ i → i + 1 < N → nuC h (y + 6 + 4 * i.toNat) (g i) (n i) ∧ 1 ≤ n i) (o1 : y + 44 ≤ x) (o2 : u + 3 < x) : CtV l yX5_takeRoute cX5_takeRoute 4 none 3 71 [.ref x, .ref y, .ref u] D aC B t sz S r h (fun h1 => (∀ a : Nat, a ≠ x → (a < x + 30 ∨ x + 60 ≤ a) → h1 a = h a) ∧ h1 x = up (up (h x) 7 N) 8 U ∧ ∀ i : Int, 0 ≤ i → i + 1 < N → rdC h1 (x + 30 + 3 * i.toNat) (rlN (g i) (n i) (h (u + 2)) (h (u + 1)) (h u 3).toNat).1 (rlN (g i) (n i) (h (u + 2)) (h (u + 1)) (h u 3).toNat).2 (fun k => coN (g i) (n i) (h (u + 2)) (h (u + 1)) (h (u + 3)) ((rlN (g i) (n i) (h (u + 2)) (h (u + 1)) (h u 3).toNat).2 k) (h u 3).toNat)) := by
  unfold CtV
  refine Ct.of (lv := [some (.ref x), some (.ref y), some (.ref u), none]) (by decide +kernel) rfl (Nat.le_of_ble_eq_true rfl) (fun X hl q rt hnm => ?_)
  have lp : ∀ (d j : Nat), (j : Int) + d = N - 1 → ∀ h2 : sH, (∀ a : Nat, a ≠ x → (a < x + 30 ∨ x + 60 ≤ a) → h2 a = h a) → h2 x = up (up (h x) 7 N) 8 U → (∀ i : Int, 0 ≤ i → i < j → rdC h2 (x + 30 + 3 * i.toNat) (rlN (g i) (n i) (h (u + 2)) (h (u + 1)) (h u 3).toNat).1 (rlN (g i) (n i) (h (u + 2)) (h (u + 1)) (h u 3).toNat).2 (fun k => coN (g i) (n i) (h (u + 2)) (h (u + 1)) (h (u + 3)) ((rlN (g i) (n i) (h (u + 2)) (h (u + 1)) (h u 3).toNat).2 k) (h u 3).toNat)) → G X 0 0 23 [some (.ref x), some (.ref y), some (.ref u), some (.int (iI j))] [] sz S r h2 := by
    intro d
    induction d with
    | zero =>
      intro j hj h2 fr ex hi
      have e7 : h2 x 7 = N := by rw [ex, up_n _ _ (by decide), up_s]
      refine r_iload_3 (pc := 23) q dX5_takeRoute_23 ?_
      refine r_aload_0 (pc := 24) q dX5_takeRoute_24 ?_
      refine r_geti (pc := 25) q fX5_61 (kz := 7) rfl (by decide) rfl hx.o dX5_takeRoute_25 ?_
      rw [e7]
      refine r_iconst (pc := 28) q dX5_takeRoute_28 ?_
      refine r_isub (pc := 29) q dX5_takeRoute_29 ?_
      refine r_icmp_ge (pc := 30) q 55 dX5_takeRoute_30 (by decide) ⟨by omega, by omega⟩ ⟨by omega, by omega⟩ (fun c30 => ?_) (fun c30 => ?_)
      · refine r_return (pc := 55) q rt dX5_takeRoute_55 ?_
        exact ⟨fr, ex, fun i i0 i1 => hi i i0 (by omega)⟩
      exact absurd (by omega) c30
    | succ d ih =>
      intro j hj h2 fr ex hi
      have e7 : h2 x 7 = N := by rw [ex, up_n _ _ (by decide), up_s]
      have fu := fr u (by omega) (by omega)
      have fu1 := fr (u + 1) (by omega) (by omega)
      have fu2 := fr (u + 2) (by omega) (by omega)
      have fu3 := fr (u + 3) (by omega) (by omega)
      have hH2 : hbC h2 u := by unfold hbC at hH ⊢; rw [fu, fu1, fu2, fu3]; exact hH
      have gj := hg j (by omega) (by omega)
      have gj2 := nuC_fr gj.1 (fr _ (by omega) (by omega)) (fr _ (by omega) (by omega))
      refine r_iload_3 (pc := 23) q dX5_takeRoute_23 ?_
      refine r_aload_0 (pc := 24) q dX5_takeRoute_24 ?_
      refine r_geti (pc := 25) q fX5_61 (kz := 7) rfl (by decide) rfl hx.o dX5_takeRoute_25 ?_
      rw [e7]
      refine r_iconst (pc := 28) q dX5_takeRoute_28 ?_
      refine r_isub (pc := 29) q dX5_takeRoute_29 ?_
      refine r_icmp_ge (pc := 30) q 55 dX5_takeRoute_30 (by decide) ⟨by omega, by omega⟩ ⟨by omega, by omega⟩ (fun c30 => ?_) (fun c30 => ?_)
      · exact absurd c30 (by omega)
      refine r_aload_0 (pc := 33) q dX5_takeRoute_33 ?_
      refine r_getr (pc := 34) q fX5_29 (kz := 4) rfl (by decide) rfl hx.o hx.r_readings dX5_takeRoute_34 ?_
      refine r_iload_3 (pc := 37) q dX5_takeRoute_37 ?_
      refine r_aald28 (pc := 38) q hx.s_readings (by omega) (by omega) (hx.e_readings (by omega) (by omega)) dX5_takeRoute_38 ?_
      refine r_aload_1 (pc := 39) q dX5_takeRoute_39 ?_
      refine r_getr (pc := 40) q fX5_66 (kz := 1) rfl (by decide) rfl hy.o hy.r_numerals dX5_takeRoute_40 ?_
      refine r_iload_3 (pc := 43) q dX5_takeRoute_43 ?_
      refine r_aald25 (pc := 44) q hy.s_numerals (by omega) (by omega) (hy.e_numerals (by omega) (by omega)) dX5_takeRoute_44 ?_
      refine r_aload_2 (pc := 45) q dX5_takeRoute_45 ?_
      refine r_cV2 (pc := 46) q (c_X6_gather (hx.n_readings (by omega) (by omega)) (hy.n_numerals (by omega) (by omega)) hu hH2 gj2 gj.2) mX5_41 ((hx.n_readings (by omega) (by omega))).o (by decide) (Nat.le_of_ble_eq_true rfl) rfl dX5_takeRoute_46 (fun h5 hz5 => ?_)
      rw [fu, fu1, fu2, fu3] at hz5
      obtain ⟨g1, g2⟩ := hz5
      refine r_iinc_3 (pc := 49) q dX5_takeRoute_49 rfl ?_
      refine r_goto (pc := 52) (tgt := 23) q dX5_takeRoute_52 (by decide) ?_
      refine ih (j + 1) (by omega) h5 (fun a a0 a1 => by rw [g1 a (by omega) (by omega) (by omega)]; exact fr a a0 a1) (by rw [g1 x (by omega) (by omega) (by omega)]; exact ex) (fun i i0 i1 => ?_)
      by_cases ei : i = j
      · rw [ei]; exact g2
      · exact rdC_fr (hi i i0 (by omega)) (g1 _ (by omega) (by omega) (by omega)) (g1 _ (by omega) (by omega) (by omega)) (g1 _ (by omega) (by omega) (by omega))
  refine r_aload_0 (pc := 0) q dX5_takeRoute_0 ?_
  refine r_aload_1 (pc := 1) q dX5_takeRoute_1 ?_
  refine r_geti (pc := 2) q fX5_49 (kz := 4) rfl (by decide) rfl hy.o dX5_takeRoute_2 ?_
  rw [hN]
  refine r_bipush (pc := 5) q dX5_takeRoute_5 (by decide) ?_
  refine r_min (pc := 7) q mX5_55 ⟨by omega, by omega⟩ ⟨by omega, by omega⟩ ⟨Nat.le_of_ble_eq_true rfl, Nat.le_of_ble_eq_true rfl, Nat.le_of_ble_eq_true rfl, Nat.le_of_ble_eq_true rfl⟩ rfl dX5_takeRoute_7 ?_
  rw [show min N 10 = N by omega]
  refine r_puti (pc := 10) q fX5_61 (kz := 7) rfl (by decide) rfl hx.o dX5_takeRoute_10 (fun h1 eh1 => ?_)
  refine r_aload_0 (pc := 13) q dX5_takeRoute_13 ?_
  refine r_aload_1 (pc := 14) q dX5_takeRoute_14 ?_
  refine r_geti (pc := 15) q fX5_62 (kz := 3) rfl (by decide) rfl hy.o dX5_takeRoute_15 ?_
  have eU : h1 y 3 = U := by rw [eh1, up_n _ _ (by omega)]; exact hU
  rw [eU]
  refine r_puti (pc := 18) q fX5_65 (kz := 8) rfl (by decide) rfl hx.o dX5_takeRoute_18 (fun h2 eh2 => ?_)
  refine r_iconst (pc := 21) q dX5_takeRoute_21 ?_
  refine r_istore_3 (pc := 22) q dX5_takeRoute_22 rfl ?_
  exact lp (N - 1).toNat 0 (by omega) h2 (fun a a0 _ => by rw [eh2, up_n _ _ a0, eh1, up_n _ _ a0]) (by rw [eh2, up_s, eh1, up_s]) (fun i i0 i1 => by omega)
theorem c_X5_isRival {l : Launch} {D : va_G} {aC : Nat → ClassId} {B t sz : Nat} {S : sS} {r : sR} {h : sH} {x : Nat} {st p d : Int} (hx : LX5 S r x) (s0 : 0 ≤ st) (s1 : st < 10) (p0 : 0 ≤ p) (p1 : p < 601) (hb : 0 ≤ h (x + 23) p ∧ h (x + 23) p ≤ 1000000) (hr : 0 ≤ h (x + 13 + st.toNat) p ∧ h (x + 13 + st.toNat) p ≤ 1000000) (hl9 : 0 ≤ h x 9 ∧ h x 9 ≤ 1000000) (d0 : 0 ≤ d) (d1 : d ≤ 20) : CtI l yX5_isRival cX5_isRival 4 (some .boolean) 0 0 [.ref x, .int (iI st), .int (iI p), .int (iI d)] D aC B t sz S r h (fun z h1 => ((z = 1 ∧ h (x + 23) p + h (x + 13 + st.toNat) p ≤ h x 9 + d) ∨ (z = 0 ∧ ¬ h (x + 23) p + h (x + 13 + st.toNat) p ≤ h x 9 + d)) ∧ h = h1) := by
  unfold CtI
  refine Ct.of (lv := [some (.ref x), some (.int (iI st)), some (.int (iI p)), some (.int (iI d))]) (by decide +kernel) rfl (Nat.le_of_ble_eq_true rfl) (fun X hl q rt hnm => ?_)
  refine r_aload_0 (pc := 0) q dX5_isRival_0 ?_
  refine r_getr (pc := 1) q fX5_19 (kz := 2) rfl (by decide) rfl hx.o hx.r_before dX5_isRival_1 ?_
  refine r_iload_2 (pc := 4) q dX5_isRival_4 ?_
  refine r_iald (pc := 5) q hx.s_before (by omega) (by omega) dX5_isRival_5 ?_
  refine r_aload_0 (pc := 6) q dX5_isRival_6 ?_
  refine r_getr (pc := 7) q fX5_16 (kz := 1) rfl (by decide) rfl hx.o hx.r_rest dX5_isRival_7 ?_
  refine r_iload_1 (pc := 10) q dX5_isRival_10 ?_
  refine r_aald29 (pc := 11) q hx.s_rest (by omega) (by omega) (hx.e_rest (by omega) (by omega)) dX5_isRival_11 ?_
  refine r_iload_2 (pc := 12) q dX5_isRival_12 ?_
  refine r_iald (pc := 13) q (hx.n_rest (by omega) (by omega)) (by omega) (by omega) dX5_isRival_13 ?_
  refine r_iadd (pc := 14) q dX5_isRival_14 ?_
  refine r_aload_0 (pc := 15) q dX5_isRival_15 ?_
  refine r_geti (pc := 16) q fX5_70 (kz := 9) rfl (by decide) rfl hx.o dX5_isRival_16 ?_
  refine r_iload_3 (pc := 19) q dX5_isRival_19 ?_
  refine r_iadd (pc := 20) q dX5_isRival_20 ?_
  refine r_icmp_gt (pc := 21) q 28 dX5_isRival_21 (by decide) ⟨by omega, by omega⟩ ⟨by omega, by omega⟩ (fun c21 => ?_) (fun c21 => ?_)
  · refine r_iconst (pc := 28) q dX5_isRival_28 ?_
    refine r_zreturn (pc := 29) q rt dX5_isRival_29 (by decide) ?_
    exact ⟨by omega, rfl⟩
  refine r_iconst (pc := 24) q dX5_isRival_24 ?_
  refine r_goto (pc := 25) (tgt := 29) q dX5_isRival_25 (by decide) ?_
  refine r_zreturn (pc := 29) q rt dX5_isRival_29 (by decide) ?_
  exact ⟨by omega, rfl⟩
theorem c_X5_leastPlace {l : Launch} {D : va_G} {aC : Nat → ClassId} {B t sz : Nat} {S : sS} {r : sR} {h : sH} {x : Nat} {st d : Int} (hx : LX5 S r x) (s0 : 0 ≤ st) (s1 : st < 10) (hb : ∀ p : Int, 0 ≤ p → p < 601 → 0 ≤ h (x + 23) p ∧ h (x + 23) p ≤ 1000000) (hr : ∀ p : Int, 0 ≤ p → p < 601 → 0 ≤ h (x + 13 + st.toNat) p ∧ h (x + 13 + st.toNat) p ≤ 1000000) (hl9 : 0 ≤ h x 9 ∧ h x 9 ≤ 1000000) (d0 : 0 ≤ d) (d1 : d ≤ 20) : CtI l yX5_leastPlace cX5_leastPlace 4 (some .int) 1 23 [.ref x, .int (iI st), .int (iI d)] D aC B t sz S r h (fun z h1 => spI (fun p => h (x + 23) p + h (x + 13 + st.toNat) p ≤ h x 9 + d) 0 601 z ∧ h = h1) := by
  unfold CtI
  refine Ct.of (lv := [some (.ref x), some (.int (iI st)), some (.int (iI d)), none]) (by decide +kernel) rfl (Nat.le_of_ble_eq_true rfl) (fun X hl q rt hnm => ?_)
  have lp : ∀ (e j : Nat), j + e = 601 → (∀ p : Int, 0 ≤ p → p < j → ¬ h (x + 23) p + h (x + 13 + st.toNat) p ≤ h x 9 + d) → G X 0 0 2 [some (.ref x), some (.int (iI st)), some (.int (iI d)), some (.int (iI j))] [] sz S r h := by
    intro e
    induction e with
    | zero =>
      intro j hj hn
      have ej : j = 601 := by omega
      subst ej
      refine r_iload_3 (pc := 2) q dX5_leastPlace_2 ?_
      refine r_sipush (pc := 3) q dX5_leastPlace_3 (by decide) ?_
      refine r_icmp_ge (pc := 6) q 27 dX5_leastPlace_6 (by decide) ⟨by omega, by omega⟩ ⟨by omega, by omega⟩ (fun c6 => ?_) (fun c6 => ?_)
      · refine r_iconst (pc := 27) q dX5_leastPlace_27 ?_
        refine r_ireturn (pc := 28) q rt dX5_leastPlace_28 ?_
        exact ⟨Or.inl ⟨rfl, hn⟩, rfl⟩
      exact absurd (by omega) c6
    | succ e ih =>
      intro j hj hn
      refine r_iload_3 (pc := 2) q dX5_leastPlace_2 ?_
      refine r_sipush (pc := 3) q dX5_leastPlace_3 (by decide) ?_
      refine r_icmp_ge (pc := 6) q 27 dX5_leastPlace_6 (by decide) ⟨by omega, by omega⟩ ⟨by omega, by omega⟩ (fun c6 => ?_) (fun c6 => ?_)
      · exact absurd c6 (by omega)
      refine r_aload_0 (pc := 9) q dX5_leastPlace_9 ?_
      refine r_iload_1 (pc := 10) q dX5_leastPlace_10 ?_
      refine r_iload_3 (pc := 11) q dX5_leastPlace_11 ?_
      refine r_iload_2 (pc := 12) q dX5_leastPlace_12 ?_
      refine r_cI3 (pc := 13) q (c_X5_isRival hx s0 s1 (by omega) (by omega) (hb j (by omega) (by omega)) (hr j (by omega) (by omega)) hl9 d0 d1) mX5_101 hx.o (by decide) (Nat.le_of_ble_eq_true rfl) rfl dX5_leastPlace_13 (fun z5 h5 hz5 => ?_)
      obtain ⟨hz5, rfl⟩ := hz5
      refine r_if_eq (pc := 16) q 21 dX5_leastPlace_16 (by decide) ⟨by omega, by omega⟩ (fun c16 => ?_) (fun c16 => ?_)
      · refine r_iinc_3 (pc := 21) q dX5_leastPlace_21 rfl ?_
        refine r_goto (pc := 24) (tgt := 2) q dX5_leastPlace_24 (by decide) ?_
        refine ih (j + 1) (by omega) (fun p p0 p1 => ?_)
        rcases hz5 with ⟨z, -⟩ | ⟨-, z⟩
        · omega
        · by_cases ep : p = j
          · rw [ep]; exact z
          · exact hn p p0 (by omega)
      refine r_iload_3 (pc := 19) q dX5_leastPlace_19 ?_
      refine r_ireturn (pc := 20) q rt dX5_leastPlace_20 ?_
      rcases hz5 with ⟨-, z⟩ | ⟨z, -⟩
      · refine ⟨Or.inr ⟨⟨by omega, by omega⟩, z, fun p p0 p1 w => ?_⟩, rfl⟩
        rw [if_neg (by decide)]
        by_cases lt : p < j
        · exact absurd w (hn p p0 lt)
        · omega
      · exact absurd z c16
  refine r_iconst (pc := 0) q dX5_leastPlace_0 ?_
  refine r_istore_3 (pc := 1) q dX5_leastPlace_1 rfl ?_
  exact lp 601 0 (by omega) (fun p p0 p1 => by omega)
theorem c_X5_greatestPlace {l : Launch} {D : va_G} {aC : Nat → ClassId} {B t sz : Nat} {S : sS} {r : sR} {h : sH} {x : Nat} {st d : Int} (hx : LX5 S r x) (s0 : 0 ≤ st) (s1 : st < 10) (hb : ∀ p : Int, 0 ≤ p → p < 601 → 0 ≤ h (x + 23) p ∧ h (x + 23) p ≤ 1000000) (hr : ∀ p : Int, 0 ≤ p → p < 601 → 0 ≤ h (x + 13 + st.toNat) p ∧ h (x + 13 + st.toNat) p ≤ 1000000) (hl9 : 0 ≤ h x 9 ∧ h x 9 ≤ 1000000) (d0 : 0 ≤ d) (d1 : d ≤ 20) : CtI l yX5_greatestPlace cX5_greatestPlace 4 (some .int) 1 23 [.ref x, .int (iI st), .int (iI d)] D aC B t sz S r h (fun z h1 => spI (fun p => h (x + 23) p + h (x + 13 + st.toNat) p ≤ h x 9 + d) 1 601 z ∧ h = h1) := by
  unfold CtI
  refine Ct.of (lv := [some (.ref x), some (.int (iI st)), some (.int (iI d)), none]) (by decide +kernel) rfl (Nat.le_of_ble_eq_true rfl) (fun X hl q rt hnm => ?_)
  have lp : ∀ (j : Nat), j ≤ 601 → (∀ p : Int, j ≤ p → p < 601 → ¬ h (x + 23) p + h (x + 13 + st.toNat) p ≤ h x 9 + d) → G X 0 0 4 [some (.ref x), some (.int (iI st)), some (.int (iI d)), some (.int (iI ((j : Int) - 1)))] [] sz S r h := by
    intro j
    induction j with
    | zero =>
      intro hj hn
      refine r_iload_3 (pc := 4) q dX5_greatestPlace_4 ?_
      refine r_if_lt (pc := 5) q 26 dX5_greatestPlace_5 (by decide) ⟨by omega, by omega⟩ (fun c5 => ?_) (fun c5 => ?_)
      · refine r_iconst (pc := 26) q dX5_greatestPlace_26 ?_
        refine r_ireturn (pc := 27) q rt dX5_greatestPlace_27 ?_
        exact ⟨Or.inl ⟨rfl, fun p p0 p1 => hn p (by omega) p1⟩, rfl⟩
      exact absurd (by omega) c5
    | succ j ih =>
      intro hj hn
      rw [show ((j + 1 : Nat) : Int) - 1 = j by omega]
      refine r_iload_3 (pc := 4) q dX5_greatestPlace_4 ?_
      refine r_if_lt (pc := 5) q 26 dX5_greatestPlace_5 (by decide) ⟨by omega, by omega⟩ (fun c5 => ?_) (fun c5 => ?_)
      · exact absurd c5 (by omega)
      refine r_aload_0 (pc := 8) q dX5_greatestPlace_8 ?_
      refine r_iload_1 (pc := 9) q dX5_greatestPlace_9 ?_
      refine r_iload_3 (pc := 10) q dX5_greatestPlace_10 ?_
      refine r_iload_2 (pc := 11) q dX5_greatestPlace_11 ?_
      refine r_cI3 (pc := 12) q (c_X5_isRival hx s0 s1 (by omega) (by omega) (hb j (by omega) (by omega)) (hr j (by omega) (by omega)) hl9 d0 d1) mX5_101 hx.o (by decide) (Nat.le_of_ble_eq_true rfl) rfl dX5_greatestPlace_12 (fun z5 h5 hz5 => ?_)
      obtain ⟨hz5, rfl⟩ := hz5
      refine r_if_eq (pc := 15) q 20 dX5_greatestPlace_15 (by decide) ⟨by omega, by omega⟩ (fun c15 => ?_) (fun c15 => ?_)
      · refine r_iinc_3 (pc := 20) q dX5_greatestPlace_20 rfl ?_
        refine r_goto (pc := 23) (tgt := 4) q dX5_greatestPlace_23 (by decide) ?_
        refine ih (by omega) (fun p p0 p1 => ?_)
        rcases hz5 with ⟨z, -⟩ | ⟨-, z⟩
        · omega
        · by_cases ep : p = j
          · rw [ep]; exact z
          · exact hn p (by omega) p1
      refine r_iload_3 (pc := 18) q dX5_greatestPlace_18 ?_
      refine r_ireturn (pc := 19) q rt dX5_greatestPlace_19 ?_
      rcases hz5 with ⟨-, z⟩ | ⟨z, -⟩
      · refine ⟨Or.inr ⟨⟨by omega, by omega⟩, z, fun p p0 p1 w => ?_⟩, rfl⟩
        rw [if_pos rfl]
        by_cases lt : p ≤ j
        · exact lt
        · exact absurd w (hn p (by omega) p1)
      · exact absurd z c15
  refine r_sipush (pc := 0) q dX5_greatestPlace_0 (by decide) ?_
  refine r_istore_3 (pc := 3) q dX5_greatestPlace_3 rfl ?_
  exact lp 601 (by omega) (fun p p0 p1 => by omega)
