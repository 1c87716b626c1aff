theorem mvF_nr {w : Int → Int} {p q e : Int} (p0 : 0 ≤ p) (p1 : p < 601) (hw : ∀ i : Int, 0 ≤ i → i < 12621 → 0 ≤ w i) : ∀ n : Nat, n ≤ 21 → ∀ i : Int, 0 ≤ i → i < 12621 → 0 ≤ mvF w p q e n i
  | 0, _, i, i0, i1 => hw i i0 i1
  | n + 1, hn, i, i0, i1 => by
    simp only [mvF]
    by_cases ei : i = q * 21 + n + e
    · rw [← ei, up_s]
      have := mvF_nr (q := q) (e := e) p0 p1 hw n (by omega) i i0 i1
      have := hw (p * 21 + n) (by omega) (by omega)
      omega
    · rw [up_n _ _ ei]; exact mvF_nr p0 p1 hw n (by omega) i i0 i1
theorem stW_nr {w : Int → Int} {p D : Int} {qk ek : Int → Int} (p0 : 0 ≤ p) (p1 : p < 601) (D1 : D ≤ 20) (hw : ∀ i : Int, 0 ≤ i → i < 12621 → 0 ≤ w i) : ∀ n : Nat, (∀ k : Int, 0 ≤ k → k < n → qk k < 601 → 0 ≤ ek k) → ∀ i : Int, 0 ≤ i → i < 12621 → 0 ≤ stW w p D qk ek n i
  | 0, _, i, i0, i1 => hw i i0 i1
  | n + 1, he, i, i0, i1 => by
    simp only [stW]
    have ih := stW_nr (D := D) p0 p1 D1 hw n (fun k k0 k1 => he k k0 (by omega))
    split
    · rename_i z
      have := he n (by omega) (by omega) z
      exact mvF_nr p0 p1 ih _ (by omega) i i0 i1
    · exact ih i i0 i1
theorem c_X5_holdsWays {l : Launch} {D : va_G} {aC : Nat → ClassId} {B t sz : Nat} {S : sS} {r : sR} {h : sH} {x : Nat} {p d : Int} (hx : LX5 S r x) (p0 : 0 ≤ p) (p1 : p < 601) (d0 : 0 ≤ d) (d1 : d ≤ 20) (hw : ∀ a : Int, 0 ≤ a → a ≤ d → inL (h (x + 24) (p * 21 + a))) : CtI l yX5_holdsWays cX5_holdsWays 4 (some .boolean) 0 0 [.ref x, .int (iI p), .int (iI d)] D aC B t sz S r h (fun z h1 => ((z = 1 ∧ ∃ a : Int, 0 ≤ a ∧ a ≤ d ∧ h (x + 24) (p * 21 + a) ≠ 0) ∨ (z = 0 ∧ ∀ a : Int, 0 ≤ a → a ≤ d → h (x + 24) (p * 21 + a) = 0)) ∧ h = h1) := by
  unfold CtI
  refine Ct.of (lv := [some (.ref x), some (.int (iI p)), some (.int (iI d)), none]) (by decide +kernel) rfl (Nat.le_of_ble_eq_true rfl) (fun X hl q rt hnm => ?_)
  have lp : ∀ (n a : Nat), (a : Int) + n = d + 1 → (∀ y : Int, 0 ≤ y → y < a → h (x + 24) (p * 21 + y) = 0) → G X 0 0 2 [some (.ref x), some (.int (iI p)), some (.int (iI d)), some (.int (iI a))] [] sz S r h := by
    intro n
    induction n with
    | zero =>
      intro a ha hz
      refine r_iload_3 (pc := 2) q dX5_holdsWays_2 ?_
      refine r_iload_2 (pc := 3) q dX5_holdsWays_3 ?_
      refine r_icmp_gt (pc := 4) q 37 dX5_holdsWays_4 (by decide) ⟨by omega, by omega⟩ ⟨by omega, by omega⟩ (fun c4 => ?_) (fun c4 => ?_)
      · refine r_iconst (pc := 37) q dX5_holdsWays_37 ?_
        refine r_zreturn (pc := 38) q rt dX5_holdsWays_38 (by decide) ?_
        exact ⟨Or.inr ⟨rfl, fun y y0 y1 => hz y y0 (by omega)⟩, rfl⟩
      exact absurd (by omega) c4
    | succ n ih =>
      intro a ha hz
      have iw := hw a (by omega) (by omega)
      refine r_iload_3 (pc := 2) q dX5_holdsWays_2 ?_
      refine r_iload_2 (pc := 3) q dX5_holdsWays_3 ?_
      refine r_icmp_gt (pc := 4) q 37 dX5_holdsWays_4 (by decide) ⟨by omega, by omega⟩ ⟨by omega, by omega⟩ (fun c4 => ?_) (fun c4 => ?_)
      · exact absurd c4 (by omega)
      refine r_iload_3 (pc := 7) q dX5_holdsWays_7 ?_
      refine r_bipush (pc := 8) q dX5_holdsWays_8 (by decide) ?_
      refine r_icmp_ge (pc := 10) q 37 dX5_holdsWays_10 (by decide) ⟨by omega, by omega⟩ ⟨by omega, by omega⟩ (fun c10 => ?_) (fun c10 => ?_)
      · exact absurd c10 (by omega)
      refine r_aload_0 (pc := 13) q dX5_holdsWays_13 ?_
      refine r_getr (pc := 14) q fX5_23 (kz := 3) rfl (by decide) rfl hx.o hx.r_ways dX5_holdsWays_14 ?_
      refine r_iload_1 (pc := 17) q dX5_holdsWays_17 ?_
      refine r_bipush (pc := 18) q dX5_holdsWays_18 (by decide) ?_
      refine r_imul (pc := 20) q dX5_holdsWays_20 ?_
      refine r_iload_3 (pc := 21) q dX5_holdsWays_21 ?_
      refine r_iadd (pc := 22) q dX5_holdsWays_22 ?_
      refine r_lald (pc := 23) q hx.s_ways (by omega) (by omega) dX5_holdsWays_23 ?_
      refine r_lconst (pc := 24) q dX5_holdsWays_24 (by decide) ?_
      refine r_lcmp (pc := 25) q dX5_holdsWays_25 iw ⟨by decide, by decide⟩ ?_
      refine r_if_eq (pc := 26) q 31 dX5_holdsWays_26 (by decide) ⟨by have := cmpI_in (h (x + 24) (p * 21 + a)) ((0 : Fin 2) : Nat); omega, by have := cmpI_in (h (x + 24) (p * 21 + a)) ((0 : Fin 2) : Nat); omega⟩ (fun c26 => ?_) (fun c26 => ?_)
      · refine r_iinc_3 (pc := 31) q dX5_holdsWays_31 rfl ?_
        refine r_goto (pc := 34) (tgt := 2) q dX5_holdsWays_34 (by decide) ?_
        rw [cmpI_0] at c26
        refine ih (a + 1) (by omega) (fun y y0 y1 => ?_)
        by_cases ey : y = a
        · rw [ey]; exact c26
        · exact hz y y0 (by omega)
      refine r_iconst (pc := 29) q dX5_holdsWays_29 ?_
      refine r_zreturn (pc := 30) q rt dX5_holdsWays_30 (by decide) ?_
      rw [cmpI_0] at c26
      exact ⟨Or.inl ⟨rfl, a, by omega, by omega, c26⟩, rfl⟩
  refine r_iconst (pc := 0) q dX5_holdsWays_0 ?_
  refine r_istore_3 (pc := 1) q dX5_holdsWays_1 rfl ?_
  exact lp (d + 1).toNat 0 (by omega) (fun y y0 y1 => by omega)
theorem c_X5_stepWays {l : Launch} {D : va_G} {aC : Nat → ClassId} {B t sz : Nat} {S : sS} {r : sR} {h : sH} {x p : Nat} {N U s d : Int} {rs : Int → Nat} {rv rc ow : Int → Int → Int} {qk ek : Int → Int} (hx : LX5 S r x) (hC : plC h x N U rs rv rc ow) (hR : plR h x N U rs rv rc ow) (s0 : 0 ≤ s) (s1 : s + 1 < N) (p1 : p < 601) (d0 : 0 ≤ d) (d1 : d ≤ 20) (hq : ∀ k, qk k = p + U * rv s k) (he : ∀ k, ek k = ow s p + rc s k + RSt N U rs rv rc ow (N - 2 - s).toNat (qk k) - RSt N U rs rv rc ow (N - 1 - s).toNat p) (he0 : ∀ k : Int, 0 ≤ k → k < rs s → p < qk k ∧ (qk k < 601 → 0 ≤ ek k)) : CtV l yX5_stepWays cX5_stepWays 6 none 1 25 [.ref x, .int (iI s), .int (iI ((p:Int))), .int (iI d)] D aC B t sz S r h (fun h1 => (∀ a : Nat, a ≠ x + 24 → h1 a = h a) ∧ ∀ i : Int, h1 (x + 24) i = clW (stW (h (x + 24)) p d qk ek (rs s)) p 21 i) := by
  unfold CtV
  refine Ct.of (lv := [some (.ref x), some (.int (iI s)), some (.int (iI ((p:Int)))), some (.int (iI d)), none, none]) (by decide +kernel) rfl (Nat.le_of_ble_eq_true rfl) (fun X hl q rt hnm => ?_)
  obtain ⟨c1, c2, hd, c4, c5⟩ := id hC
  obtain ⟨hu, ⟨N2, N10⟩, hr, hob⟩ := id hd
  obtain ⟨r1, r21, rk⟩ := hr s s0 s1
  have rb := RSt_bd hd
  have CL : ∀ (n a : Nat), a + n = 21 → ∀ (h2 : sH) (o5 : Option Value), (∀ a : Nat, a ≠ x + 24 → h2 a = h a) → (∀ i : Int, h2 (x + 24) i = clW (stW (h (x + 24)) p d qk ek (rs s)) p a i) → G X 0 0 60 [some (.ref x), some (.int (iI s)), some (.int (iI (p : Int))), some (.int (iI d)), some (.int (iI a)), o5] [] sz S r h2 := by
    intro n
    induction n with
    | zero =>
      intro a ha h2 o5 fr hw
      have ea : a = 21 := by omega
      subst ea
      refine r_iload_4 (pc := 60) q dX5_stepWays_60 ?_
      refine r_bipush (pc := 62) q dX5_stepWays_62 (by decide) ?_
      refine r_icmp_ge (pc := 64) q 86 dX5_stepWays_64 (by decide) ⟨by omega, by omega⟩ ⟨by omega, by omega⟩ (fun c64 => ?_) (fun c64 => ?_)
      · refine r_return (pc := 86) q rt dX5_stepWays_86 ?_
        exact ⟨fr, hw⟩
      exact absurd (by omega) c64
    | succ n ih =>
      intro a ha h2 o5 fr hw
      refine r_iload_4 (pc := 60) q dX5_stepWays_60 ?_
      refine r_bipush (pc := 62) q dX5_stepWays_62 (by decide) ?_
      refine r_icmp_ge (pc := 64) q 86 dX5_stepWays_64 (by decide) ⟨by omega, by omega⟩ ⟨by omega, by omega⟩ (fun c64 => ?_) (fun c64 => ?_)
      · exact absurd c64 (by omega)
      refine r_aload_0 (pc := 67) q dX5_stepWays_67 ?_
      refine r_getr (pc := 68) q fX5_23 (kz := 3) rfl (by decide) rfl hx.o hx.r_ways dX5_stepWays_68 ?_
      refine r_iload_2 (pc := 71) q dX5_stepWays_71 ?_
      refine r_bipush (pc := 72) q dX5_stepWays_72 (by decide) ?_
      refine r_imul (pc := 74) q dX5_stepWays_74 ?_
      refine r_iload_4 (pc := 75) q dX5_stepWays_75 ?_
      refine r_iadd (pc := 77) q dX5_stepWays_77 ?_
      refine r_lconst (pc := 78) q dX5_stepWays_78 (by decide) ?_
      refine r_last (pc := 79) q hx.s_ways (by omega) (by omega) dX5_stepWays_79 (fun h3 eh3 => ?_)
      refine r_iinc_4 (pc := 80) q dX5_stepWays_80 rfl ?_
      refine r_goto (pc := 83) (tgt := 60) q dX5_stepWays_83 (by decide) ?_
      refine ih (a + 1) (by omega) h3 _ (fun y y0 => by rw [eh3, up_n _ _ y0]; exact fr y y0) (fun i => ?_)
      rw [eh3, up_s]
      by_cases ei : i = (p : Int) * 21 + a
      · rw [ei, up_s]; unfold clW; rw [if_pos (by omega)]; rfl
      · rw [up_n _ _ ei, hw i]
        unfold clW
        by_cases z : (p : Int) * 21 ≤ i ∧ i < (p : Int) * 21 + a
        · rw [if_pos z, if_pos (by omega)]
        · rw [if_neg z, if_neg (by omega)]
  have KL : ∀ (n k : Nat), k + n = rs s → ∀ (h2 : sH) (o5 : Option Value), h2 = up h (x + 24) (stW (h (x + 24)) p d qk ek k) → G X 0 0 3 [some (.ref x), some (.int (iI s)), some (.int (iI (p : Int))), some (.int (iI d)), some (.int (iI k)), o5] [] sz S r h2 := by
    intro n
    induction n with
    | zero =>
      intro k hk h2 o5 e2
      have fr : ∀ a : Nat, a ≠ x + 24 → h2 a = h a := fun a a0 => by rw [e2, up_n _ _ a0]
      have hC2 : plC h2 x N U rs rv rc ow := plC_fr hC (by rw [fr x (by omega)]) (by rw [fr x (by omega)]) (fun a a0 a1 => fr a (by omega)) (fun a a0 a1 => fr a (by omega))
      have z1 := (hC2.2.2.2.1 s s0 s1).1
      refine r_iload_4 (pc := 3) q dX5_stepWays_3 ?_
      refine r_aload_0 (pc := 5) q dX5_stepWays_5 ?_
      refine r_getr (pc := 6) q fX5_29 (kz := 4) rfl (by decide) rfl hx.o hx.r_readings dX5_stepWays_6 ?_
      refine r_iload_1 (pc := 9) q dX5_stepWays_9 ?_
      refine r_aald28 (pc := 10) q hx.s_readings (by omega) (by omega) (hx.e_readings (by omega) (by omega)) dX5_stepWays_10 ?_
      refine r_geti (pc := 11) q fX5_77 (kz := 2) rfl (by decide) rfl ((hx.n_readings (by omega) (by omega))).o dX5_stepWays_11 ?_
      rw [z1]
      refine r_icmp_ge (pc := 14) q 57 dX5_stepWays_14 (by decide) ⟨by omega, by omega⟩ ⟨by omega, by omega⟩ (fun c14 => ?_) (fun c14 => ?_)
      · refine r_iconst (pc := 57) q dX5_stepWays_57 ?_
        refine r_istore_4 (pc := 58) q dX5_stepWays_58 rfl ?_
        refine CL 21 0 (by omega) h2 _ fr (fun i => ?_)
        rw [e2, up_s, show k = rs s by omega]
        unfold clW
        rw [if_neg (by omega)]
      exact absurd (by omega) c14
    | succ n ih =>
      intro k hk h2 o5 e2
      have fr : ∀ a : Nat, a ≠ x + 24 → h2 a = h a := fun a a0 => by rw [e2, up_n _ _ a0]
      have hC2 : plC h2 x N U rs rv rc ow := plC_fr hC (by rw [fr x (by omega)]) (by rw [fr x (by omega)]) (fun a a0 a1 => fr a (by omega)) (fun a a0 a1 => fr a (by omega))
      have z1 := (hC2.2.2.2.1 s s0 s1).1
      have hk0 := he0 k (by omega) (by omega)
      have st : stW (h (x + 24)) p d qk ek (k + 1) = if qk k < 601 then mvF (stW (h (x + 24)) p d qk ek k) p (qk k) (ek k) (d - ek k + 1).toNat else stW (h (x + 24)) p d qk ek k := rfl
      have hqk := hq k
      have hekk := he k
      have kb := rk k (by omega) (by omega)
      refine r_iload_4 (pc := 3) q dX5_stepWays_3 ?_
      refine r_aload_0 (pc := 5) q dX5_stepWays_5 ?_
      refine r_getr (pc := 6) q fX5_29 (kz := 4) rfl (by decide) rfl hx.o hx.r_readings dX5_stepWays_6 ?_
      refine r_iload_1 (pc := 9) q dX5_stepWays_9 ?_
      refine r_aald28 (pc := 10) q hx.s_readings (by omega) (by omega) (hx.e_readings (by omega) (by omega)) dX5_stepWays_10 ?_
      refine r_geti (pc := 11) q fX5_77 (kz := 2) rfl (by decide) rfl ((hx.n_readings (by omega) (by omega))).o dX5_stepWays_11 ?_
      rw [z1]
      refine r_icmp_ge (pc := 14) q 57 dX5_stepWays_14 (by decide) ⟨by omega, by omega⟩ ⟨by omega, by omega⟩ (fun c14 => ?_) (fun c14 => ?_)
      · exact absurd c14 (by omega)
      refine r_aload_0 (pc := 17) q dX5_stepWays_17 ?_
      refine r_iload_1 (pc := 18) q dX5_stepWays_18 ?_
      refine r_iload_2 (pc := 19) q dX5_stepWays_19 ?_
      refine r_iload_4 (pc := 20) q dX5_stepWays_20 ?_
      refine r_cI3 (pc := 22) q (c_X5_placeBehind hx hC2 s0 s1 (by omega) (by omega) (by omega) (by omega)) mX5_80 hx.o (by decide) (Nat.le_of_ble_eq_true rfl) rfl dX5_stepWays_22 (fun z5 h5 hz5 => ?_)
      obtain ⟨hz5, rfl⟩ := hz5
      rw [← hqk] at hz5
      refine r_istore_5 (pc := 25) q dX5_stepWays_25 rfl ?_
      refine r_iload_5 (pc := 27) q dX5_stepWays_27 ?_
      refine r_iconst (pc := 29) q dX5_stepWays_29 ?_
      refine r_icmp_eq (pc := 30) q 51 dX5_stepWays_30 (by decide) ⟨by omega, by omega⟩ ⟨by omega, by omega⟩ (fun c30 => ?_) (fun c30 => ?_)
      · refine r_iinc_4 (pc := 51) q dX5_stepWays_51 rfl ?_
        refine r_goto (pc := 54) (tgt := 3) q dX5_stepWays_54 (by decide) ?_
        refine ih (k + 1) (by omega) h2 _ ?_
        rw [st, if_neg (by omega)]; exact e2
      have e5 : qk k < 601 ∧ z5 = qk k := by omega
      obtain ⟨e51, e52⟩ := e5
      subst e52
      have rp : h2 (x + 13 + s.toNat) p = RSt N U rs rv rc ow (N - 1 - s).toNat p := by rw [fr _ (by omega)]; exact hR s p s0 (by omega) (by omega) (by omega)
      have rq : h2 (x + 13 + (s + 1).toNat) (qk k) = RSt N U rs rv rc ow (N - 2 - s).toNat (qk k) := by
        rw [fr _ (by omega), hR (s + 1) (qk k) (by omega) s1 (by omega) (by omega), show (N - 1 - (s + 1)).toNat = (N - 2 - s).toNat by omega]
      have b1 := rb (N - 1 - s).toNat (by omega) p (by omega) (by omega)
      have b2 := rb (N - 2 - s).toNat (by omega) (qk k) (by omega) (by omega)
      have ob := hob s p s0 (by omega) (by omega) (by omega)
      refine r_aload_0 (pc := 33) q dX5_stepWays_33 ?_
      refine r_iload_2 (pc := 34) q dX5_stepWays_34 ?_
      refine r_iload_5 (pc := 35) q dX5_stepWays_35 ?_
      refine r_aload_0 (pc := 37) q dX5_stepWays_37 ?_
      refine r_iload_1 (pc := 38) q dX5_stepWays_38 ?_
      refine r_iload_2 (pc := 39) q dX5_stepWays_39 ?_
      refine r_iload_4 (pc := 40) q dX5_stepWays_40 ?_
      refine r_iload_5 (pc := 42) q dX5_stepWays_42 ?_
      refine r_cI4 (pc := 44) q (c_X5_dearerBy hx hC2 s0 s1 (by omega) (by omega) (by omega) (by omega) (by omega) (by omega)) mX5_93 hx.o (by decide) (Nat.le_of_ble_eq_true rfl) rfl dX5_stepWays_44 (fun z1 h1 hz1 => ?_)
      obtain ⟨rfl, rfl⟩ := hz1
      rw [rp, rq, ← hekk]
      refine r_iload_3 (pc := 47) q dX5_stepWays_47 ?_
      refine r_cV4 (pc := 48) q (c_X5_moveWays hx (by omega) (by omega) hk0.1 e51 (hk0.2 e51) (by omega) d0 d1) mX5_117 hx.o (by decide) (Nat.le_of_ble_eq_true rfl) rfl dX5_stepWays_48 (fun h6 hz6 => ?_)
      refine r_iinc_4 (pc := 51) q dX5_stepWays_51 rfl ?_
      refine r_goto (pc := 54) (tgt := 3) q dX5_stepWays_54 (by decide) ?_
      refine ih (k + 1) (by omega) h6 _ ?_
      rw [hz6, st, if_pos e51, e2, up_s, up_uu]
  refine r_iconst (pc := 0) q dX5_stepWays_0 ?_
  refine r_istore_4 (pc := 1) q dX5_stepWays_1 rfl ?_
  refine KL (rs s) 0 (by omega) h _ ?_
  show h = up h (x + 24) (h (x + 24))
  rw [up_id]
theorem c_X5_startWays {l : Launch} {D : va_G} {aC : Nat → ClassId} {B t sz : Nat} {S : sS} {r : sR} {h : sH} {x : Nat} {N U d ls : Int} {rs : Int → Nat} {rv rc ow : Int → Int → Int} (hx : LX5 S r x) (hC : plC h x N U rs rv rc ow) (hR : plR h x N U rs rv rc ow) (hls : h x 9 = ls) (l0 : 0 ≤ ls) (l1 : ls ≤ 1000000) (d0 : 0 ≤ d) (d1 : d ≤ 20) : CtV l yX5_startWays cX5_startWays 4 none 0 0 [.ref x, .int (iI d)] D aC B t sz S r h (fun h1 => (∀ a : Nat, a ≠ x + 24 → h1 a = h a) ∧ ∀ i : Int, 0 ≤ i → i < 12621 → h1 (x + 24) i = if RSt N U rs rv rc ow (N - 1).toNat (i / 21) - ls = i % 21 ∧ i % 21 ≤ d then 1 else 0) := by
  unfold CtV
  refine Ct.of (lv := [some (.ref x), some (.int (iI d)), none, none]) (by decide +kernel) rfl (Nat.le_of_ble_eq_true rfl) (fun X hl q rt hnm => ?_)
  obtain ⟨c1, c2, hd, c4, c5⟩ := id hC
  obtain ⟨hu, ⟨N2, N10⟩, hr, hob⟩ := id hd
  have rb := RSt_bd hd
  have L2 : ∀ (n p : Nat), p + n = 601 → ∀ (h2 : sH) (o3 : Option Value), (∀ a : Nat, a ≠ x + 24 → h2 a = h a) → (∀ i : Int, 0 ≤ i → i < 12621 → h2 (x + 24) i = if i < p * 21 ∧ RSt N U rs rv rc ow (N - 1).toNat (i / 21) - ls = i % 21 ∧ i % 21 ≤ d then 1 else 0) → G X 0 0 26 [some (.ref x), some (.int (iI d)), some (.int (iI p)), o3] [] sz S r h2 := by
    intro n
    induction n with
    | zero =>
      intro p hp h2 o3 fr hw
      have ep : p = 601 := by omega
      subst ep
      refine r_iload_2 (pc := 26) q dX5_startWays_26 ?_
      refine r_sipush (pc := 27) q dX5_startWays_27 (by decide) ?_
      refine r_icmp_ge (pc := 30) q 80 dX5_startWays_30 (by decide) ⟨by omega, by omega⟩ ⟨by omega, by omega⟩ (fun c30 => ?_) (fun c30 => ?_)
      · refine r_return (pc := 80) q rt dX5_startWays_80 ?_
        refine ⟨fr, fun i i0 i1 => ?_⟩
        rw [hw i i0 i1]
        by_cases z : RSt N U rs rv rc ow (N - 1).toNat (i / 21) - ls = i % 21 ∧ i % 21 ≤ d
        · rw [if_pos z, if_pos ⟨by omega, z⟩]
        · rw [if_neg z, if_neg (fun y => z y.2)]
      exact absurd (by omega) c30
    | succ n ih =>
      intro p hp h2 o3 fr hw
      have e9 : h2 x 9 = ls := by rw [fr x (by omega)]; exact hls
      have e0 : h2 (x + 13 + (0 : Int).toNat) p = RSt N U rs rv rc ow (N - 1).toNat p := by
        rw [fr _ (by omega)]
        have := hR 0 p (by omega) (by omega) (by omega) (by omega)
        rw [show N - 1 - 0 = N - 1 by omega] at this
        exact this
      have rbp := rb (N - 1).toNat (by omega) p (by omega) (by omega)
      have sk : ¬ (0 ≤ RSt N U rs rv rc ow (N - 1).toNat p - ls ∧ RSt N U rs rv rc ow (N - 1).toNat p - ls ≤ d) → ∀ o3 : Option Value, G X 0 0 74 [some (.ref x), some (.int (iI d)), some (.int (iI p)), o3] [] sz S r h2 := by
        intro hn o3
        refine r_iinc_2 (pc := 74) q dX5_startWays_74 rfl ?_
        refine r_goto (pc := 77) (tgt := 26) q dX5_startWays_77 (by decide) ?_
        refine ih (p + 1) (by omega) h2 _ fr (fun i i0 i1 => ?_)
        rw [hw i i0 i1]
        by_cases z : i < (p : Int) * 21 ∧ RSt N U rs rv rc ow (N - 1).toNat (i / 21) - ls = i % 21 ∧ i % 21 ≤ d
        · rw [if_pos z, if_pos ⟨by omega, z.2⟩]
        · rw [if_neg z, if_neg]
          rintro ⟨y1, y2, y3⟩
          by_cases ep : i / 21 = p
          · rw [ep] at y2; exact hn (by omega)
          · exact z ⟨by omega, y2, y3⟩
      refine r_iload_2 (pc := 26) q dX5_startWays_26 ?_
      refine r_sipush (pc := 27) q dX5_startWays_27 (by decide) ?_
      refine r_icmp_ge (pc := 30) q 80 dX5_startWays_30 (by decide) ⟨by omega, by omega⟩ ⟨by omega, by omega⟩ (fun c30 => ?_) (fun c30 => ?_)
      · exact absurd c30 (by omega)
      refine r_aload_0 (pc := 33) q dX5_startWays_33 ?_
      refine r_getr (pc := 34) q fX5_16 (kz := 1) rfl (by decide) rfl hx.o hx.r_rest dX5_startWays_34 ?_
      refine r_iconst (pc := 37) q dX5_startWays_37 ?_
      refine r_aald29 (pc := 38) q hx.s_rest (by omega) (by omega) (hx.e_rest (by omega) (by omega)) dX5_startWays_38 ?_
      refine r_iload_2 (pc := 39) q dX5_startWays_39 ?_
      refine r_iald (pc := 40) q (hx.n_rest (by omega) (by omega)) (by omega) (by omega) dX5_startWays_40 ?_
      rw [e0]
      refine r_aload_0 (pc := 41) q dX5_startWays_41 ?_
      refine r_geti (pc := 42) q fX5_70 (kz := 9) rfl (by decide) rfl hx.o dX5_startWays_42 ?_
      rw [e9]
      refine r_isub (pc := 45) q dX5_startWays_45 ?_
      refine r_istore_3 (pc := 46) q dX5_startWays_46 rfl ?_
      refine r_iload_3 (pc := 47) q dX5_startWays_47 ?_
      refine r_if_lt (pc := 48) q 74 dX5_startWays_48 (by decide) ⟨by omega, by omega⟩ (fun c48 => ?_) (fun c48 => ?_)
      · exact sk (by omega) _
      refine r_iload_3 (pc := 51) q dX5_startWays_51 ?_
      refine r_iload_1 (pc := 52) q dX5_startWays_52 ?_
      refine r_icmp_gt (pc := 53) q 74 dX5_startWays_53 (by decide) ⟨by omega, by omega⟩ ⟨by omega, by omega⟩ (fun c53 => ?_) (fun c53 => ?_)
      · exact sk (by omega) _
      refine r_iload_3 (pc := 56) q dX5_startWays_56 ?_
      refine r_bipush (pc := 57) q dX5_startWays_57 (by decide) ?_
      refine r_icmp_ge (pc := 59) q 74 dX5_startWays_59 (by decide) ⟨by omega, by omega⟩ ⟨by omega, by omega⟩ (fun c59 => ?_) (fun c59 => ?_)
      · exact absurd c59 (by omega)
      refine r_aload_0 (pc := 62) q dX5_startWays_62 ?_
      refine r_getr (pc := 63) q fX5_23 (kz := 3) rfl (by decide) rfl hx.o hx.r_ways dX5_startWays_63 ?_
      refine r_iload_2 (pc := 66) q dX5_startWays_66 ?_
      refine r_bipush (pc := 67) q dX5_startWays_67 (by decide) ?_
      refine r_imul (pc := 69) q dX5_startWays_69 ?_
      refine r_iload_3 (pc := 70) q dX5_startWays_70 ?_
      refine r_iadd (pc := 71) q dX5_startWays_71 ?_
      refine r_lconst (pc := 72) q dX5_startWays_72 (by decide) ?_
      refine r_last (pc := 73) q hx.s_ways (by omega) (by omega) dX5_startWays_73 (fun h4 eh4 => ?_)
      refine r_iinc_2 (pc := 74) q dX5_startWays_74 rfl ?_
      refine r_goto (pc := 77) (tgt := 26) q dX5_startWays_77 (by decide) ?_
      refine ih (p + 1) (by omega) h4 _ (fun a a0 => by rw [eh4, up_n _ _ a0]; exact fr a a0) (fun i i0 i1 => ?_)
      rw [eh4, up_s]
      by_cases ei : i = (p : Int) * 21 + (RSt N U rs rv rc ow (N - 1).toNat p - ls)
      · rw [ei, up_s, show ((p : Int) * 21 + (RSt N U rs rv rc ow (N - 1).toNat p - ls)) / 21 = p by omega, show ((p : Int) * 21 + (RSt N U rs rv rc ow (N - 1).toNat p - ls)) % 21 = RSt N U rs rv rc ow (N - 1).toNat p - ls by omega, if_pos ⟨by omega, rfl, by omega⟩]; rfl
      · rw [up_n _ _ ei, hw i i0 i1]
        by_cases z : i < (p : Int) * 21 ∧ RSt N U rs rv rc ow (N - 1).toNat (i / 21) - ls = i % 21 ∧ i % 21 ≤ d
        · rw [if_pos z, if_pos ⟨by omega, z.2⟩]
        · rw [if_neg z, if_neg]
          rintro ⟨y1, y2, y3⟩
          by_cases ep : i / 21 = p
          · rw [ep] at y2; exact ei (by omega)
          · exact z ⟨by omega, y2, y3⟩
  have L1 : ∀ (n j : Nat), j + n = 12621 → ∀ (h2 : sH), (∀ a : Nat, a ≠ x + 24 → h2 a = h a) → (∀ i : Int, 0 ≤ i → i < j → h2 (x + 24) i = 0) → G X 0 0 2 [some (.ref x), some (.int (iI d)), some (.int (iI j)), none] [] sz S r h2 := by
    intro n
    induction n with
    | zero =>
      intro j hj h2 fr hw
      refine r_iload_2 (pc := 2) q dX5_startWays_2 ?_
      refine r_aload_0 (pc := 3) q dX5_startWays_3 ?_
      refine r_getr (pc := 4) q fX5_23 (kz := 3) rfl (by decide) rfl hx.o hx.r_ways dX5_startWays_4 ?_
      refine r_alen23 (pc := 7) q hx.s_ways dX5_startWays_7 ?_
      refine r_icmp_ge (pc := 8) q 24 dX5_startWays_8 (by decide) ⟨by omega, by omega⟩ ⟨by omega, by omega⟩ (fun c8 => ?_) (fun c8 => ?_)
      · refine r_iconst (pc := 24) q dX5_startWays_24 ?_
        refine r_istore_2 (pc := 25) q dX5_startWays_25 rfl ?_
        refine L2 601 0 (by omega) h2 _ fr (fun i i0 i1 => ?_)
        rw [hw i i0 (by omega), if_neg (by omega)]
      exact absurd (by omega) c8
    | succ n ih =>
      intro j hj h2 fr hw
      refine r_iload_2 (pc := 2) q dX5_startWays_2 ?_
      refine r_aload_0 (pc := 3) q dX5_startWays_3 ?_
      refine r_getr (pc := 4) q fX5_23 (kz := 3) rfl (by decide) rfl hx.o hx.r_ways dX5_startWays_4 ?_
      refine r_alen23 (pc := 7) q hx.s_ways dX5_startWays_7 ?_
      refine r_icmp_ge (pc := 8) q 24 dX5_startWays_8 (by decide) ⟨by omega, by omega⟩ ⟨by omega, by omega⟩ (fun c8 => ?_) (fun c8 => ?_)
      · exact absurd c8 (by omega)
      refine r_aload_0 (pc := 11) q dX5_startWays_11 ?_
      refine r_getr (pc := 12) q fX5_23 (kz := 3) rfl (by decide) rfl hx.o hx.r_ways dX5_startWays_12 ?_
      refine r_iload_2 (pc := 15) q dX5_startWays_15 ?_
      refine r_lconst (pc := 16) q dX5_startWays_16 (by decide) ?_
      refine r_last (pc := 17) q hx.s_ways (by omega) (by omega) dX5_startWays_17 (fun h3 eh3 => ?_)
      refine r_iinc_2 (pc := 18) q dX5_startWays_18 rfl ?_
      refine r_goto (pc := 21) (tgt := 2) q dX5_startWays_21 (by decide) ?_
      refine ih (j + 1) (by omega) h3 (fun a a0 => by rw [eh3, up_n _ _ a0]; exact fr a a0) (fun i i0 i1 => ?_)
      rw [eh3, up_s]
      by_cases ei : i = j
      · rw [ei, up_s]; rfl
      · rw [up_n _ _ ei]; exact hw i i0 (by omega)
  refine r_iconst (pc := 0) q dX5_startWays_0 ?_
  refine r_istore_2 (pc := 1) q dX5_startWays_1 rfl ?_
  exact L1 12621 0 (by omega) h (fun _ _ => rfl) (fun i i0 i1 => by omega)
