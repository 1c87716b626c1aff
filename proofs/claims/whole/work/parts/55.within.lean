theorem tot_term {N U : Int} {rs : Int → Nat} {rv rc ow : Int → Int → Int} (hd : rdy N U rs rv rc ow) {q : Nat} (hq : (q : Int) < N) {p ls D : Int} (p0 : 0 ≤ p) (p1 : p < 601) (D0 : 0 ≤ D) (D1 : D ≤ 20) (hl : ls ≤ RSt N U rs rv rc ow q p) : sumK (fun a => if RSt N U rs rv rc ow q p + a ≤ ls + D then XC N U rs rv rc ow q p (RSt N U rs rv rc ow q p + a) else 0) 21 = if RSt N U rs rv rc ow q p ≤ ls + D then CC N U rs rv rc ow q p (ls + D) else 0 := by
  by_cases e : RSt N U rs rv rc ow q p ≤ ls + D
  · rw [if_pos e, sumK_cut (n := (ls + D - RSt N U rs rv rc ow q p + 1).toNat) 21 (by omega) (fun a a0 a1 => by rw [if_neg (by omega)]), sumK_congr (g := fun a => XC N U rs rv rc ow q p (RSt N U rs rv rc ow q p + a)) _ (fun a a0 a1 => by rw [if_pos (by omega)]), CC_sum hd hq p0 p1, show RSt N U rs rv rc ow q p + ((ls + D - RSt N U rs rv rc ow q p + 1).toNat : Int) - 1 = ls + D by omega]
  · rw [if_neg e]
    exact sumK_z _ (fun a a0 a1 => by rw [if_neg (by omega)])
def wysI (N U : Int) (rs : Int → Nat) (rv rc ow : Int → Int → Int) (D s j TT : Int) (M : Nat) (w : Int → Int) : Prop := (∀ i : Int, 0 ≤ i → i < M → 0 ≤ w i) ∧ (∀ i : Int, 0 ≤ i → i < M → w i ≠ 0 → i % 21 ≤ D ∧ (j ≤ i / 21 → RSt N U rs rv rc ow (N - 2 - s).toNat (i / 21) < 1000000) ∧ (¬ j ≤ i / 21 → RSt N U rs rv rc ow (N - 1 - s).toNat (i / 21) < 1000000)) ∧ sumK (fun i => w i * wtF N U rs rv rc ow D s j i) M = TT
theorem wys_wt {N U : Int} {rs : Int → Nat} {rv rc ow : Int → Int → Int} (hd : rdy N U rs rv rc ow) {D s j TT : Int} {M : Nat} (hM : M = 12621) (s0 : 0 ≤ s) (s1 : s < N) (s2 : s + 1 < N ∨ j = 601) {w : Int → Int} (h : wysI N U rs rv rc ow D s j TT M w) {i : Int} (i0 : 0 ≤ i) (i1 : i < M) (hn : w i ≠ 0) : 1 ≤ wtF N U rs rv rc ow D s j i := by
  obtain ⟨a1, a2, a3⟩ := h.2.1 i i0 i1 hn
  unfold wtF
  by_cases e : j ≤ i / 21
  · rw [if_pos e]; exact CC_1 hd (by omega) (by omega) (by omega) (a2 e) (by omega)
  · rw [if_neg e]; exact CC_1 hd (by omega) (by omega) (by omega) (a3 e) (by omega)
theorem wys_le {N U : Int} {rs : Int → Nat} {rv rc ow : Int → Int → Int} (hd : rdy N U rs rv rc ow) {D s j TT : Int} {M : Nat} (hM : M = 12621) (s0 : 0 ≤ s) (s1 : s < N) (s2 : s + 1 < N ∨ j = 601) {w : Int → Int} (h : wysI N U rs rv rc ow D s j TT M w) {i : Int} (i0 : 0 ≤ i) (i1 : i < M) (T0 : 0 ≤ TT) : 0 ≤ w i ∧ w i ≤ TT := by
  have p := h.1 i i0 i1
  refine ⟨p, ?_⟩
  by_cases e : w i = 0
  · omega
  · have b := wys_wt hd hM s0 s1 s2 h i0 i1 e
    have g := sumK_ge1 (f := fun i => w i * wtF N U rs rv rc ow D s j i) M (fun k k0 k1 => Int.mul_nonneg (h.1 k k0 k1) wtF_nn) i i0 i1
    rw [h.2.2] at g
    have c : w i * 1 ≤ w i * wtF N U rs rv rc ow D s j i := Int.mul_le_mul_of_nonneg_left b p
    rw [Int.mul_one] at c
    exact Int.le_trans c g
theorem c_X5_countWithin {l : Launch} {D : va_G} {aC : Nat → ClassId} {B t sz : Nat} {S : sS} {r : sR} {h : sH} {x : Nat} {N U d ls : Int} {rs : Int → Nat} {rv rc ow : Int → Int → Int} (hx : LX5 S r x) (hC : plC h x N U rs rv rc ow) (hR : plR h x N U rs rv rc ow) (hls : h x 9 = ls) (hlm : ls = mnP (RSt N U rs rv rc ow (N - 1).toNat) 601) (l1 : ls < 1000000) (d0 : 0 ≤ d) (d1 : d ≤ 20) : CtL l yX5_countWithin cX5_countWithin 5 (some .long) 2 50 [.ref x, .int (iI d)] D aC B t sz S r h (fun z h1 => z = tot (RSt N U rs rv rc ow (N - 1).toNat) (XC N U rs rv rc ow (N - 1).toNat) (ls + d) ∧ (0 ≤ z ∧ z ≤ 500000000000000) ∧ ∀ a : Nat, a ≠ x + 24 → h1 a = h a) := by
  unfold CtL
  refine Ct.of (lv := [some (.ref x), some (.int (iI d)), none, none, none]) (by decide +kernel) rfl (Nat.le_of_ble_eq_true rfl) (fun X hl q rt hnm => ?_)
  obtain ⟨c1, c2, hd, c4, c5⟩ := id hC
  obtain ⟨hu, ⟨N2, N10⟩, hr, hob⟩ := id hd
  have rb := RSt_bd hd
  have l0 : 0 ≤ ls := by rw [hlm]; exact (mnP_in 601 (fun p p0 p1 => (rb _ (by omega) p p0 (by omega)).1)).1
  have lle : ∀ p : Int, 0 ≤ p → p < 601 → ls ≤ RSt N U rs rv rc ow (N - 1).toNat p := fun p p0 p1 => by rw [hlm]; exact mnP_le 601 p p0 (by omega)
  obtain ⟨M, hM⟩ : ∃ M : Nat, M = 12621 := ⟨_, rfl⟩
  obtain ⟨TT, hTT⟩ : ∃ TT, tot (RSt N U rs rv rc ow (N - 1).toNat) (XC N U rs rv rc ow (N - 1).toNat) (ls + d) = TT := ⟨_, rfl⟩
  have tt1 : TT = sumK (fun p => if RSt N U rs rv rc ow (N - 1).toNat p ≤ ls + d then CC N U rs rv rc ow (N - 1).toNat p (ls + d) else 0) 601 := by
    rw [← hTT]
    unfold tot
    exact sumK_congr _ (fun p p0 p1 => tot_term hd (by omega) p0 (by omega) d0 d1 (lle p p0 (by omega)))
  have T0 : 0 ≤ TT := by
    rw [tt1]
    refine sumK_0 _ (fun p _ _ => ?_)
    split
    · exact CC_0 _ _ _
    · omega
  have T1 : TT ≤ 500000000000000 := by
    have a := sumK_le (f := fun p => if RSt N U rs rv rc ow (N - 1).toNat p ≤ ls + d then CC N U rs rv rc ow (N - 1).toNat p (ls + d) else 0) (B := 794280046581) 601 (fun p _ _ => by
      split
      · exact Int.le_trans (CC_le hd _ (by omega) _ _) (p21 (by omega))
      · omega)
    rw [← tt1] at a
    have e601 : (((601 : Nat) : Int)) * 794280046581 = 477362307995181 := by decide
    rw [e601] at a
    omega
  have ini : ∀ w : Int → Int, (∀ i : Int, 0 ≤ i → i < 12621 → w i = if RSt N U rs rv rc ow (N - 1).toNat (i / 21) - ls = i % 21 ∧ i % 21 ≤ d then 1 else 0) → wysI N U rs rv rc ow d 0 601 TT M w := by
    intro w hw
    refine ⟨fun i i0 i1 => by rw [hw i i0 (by omega)]; split <;> omega, fun i i0 i1 hn => ?_, ?_⟩
    · rw [hw i i0 (by omega)] at hn
      by_cases z : RSt N U rs rv rc ow (N - 1).toNat (i / 21) - ls = i % 21 ∧ i % 21 ≤ d
      · refine ⟨z.2, fun y => by omega, fun _ => ?_⟩
        have b := rb (N - 1).toNat (by omega) (i / 21) (by omega) (by omega)
        rw [show N - 1 - 0 = N - 1 by omega]
        have lb : ls ≤ 10000 := by
          obtain ⟨pm, pm0, pm1, pm2⟩ := mnP_att 601 (by rw [← hlm]; exact l1)
          have := rb (N - 1).toNat (by omega) pm pm0 (by omega)
          rw [← hlm] at pm2
          omega
        omega
      · rw [if_neg z] at hn; exact absurd rfl hn
    · rw [show M = 21 * 601 by omega, sumK_flat, tt1]
      refine sumK_congr _ (fun p p0 p1 => ?_)
      have p1' : p < 601 := by omega
      have lp := lle p p0 p1'
      have fa : ∀ a : Int, 0 ≤ a → a < 21 → w (p * 21 + a) * wtF N U rs rv rc ow d 0 601 (p * 21 + a) = (if RSt N U rs rv rc ow (N - 1).toNat p - ls = a ∧ a ≤ d then 1 else 0) * CC N U rs rv rc ow (N - 1).toNat p (RSt N U rs rv rc ow (N - 1).toNat p + d - a) := fun a a0 a1 => by
        rw [hw _ (by omega) (by omega)]
        unfold wtF
        rw [show (p * 21 + a) / 21 = p by omega, show (p * 21 + a) % 21 = a by omega, if_neg (show ¬ (601 : Int) ≤ p by omega), show N - 1 - 0 = N - 1 by omega]
      by_cases e : RSt N U rs rv rc ow (N - 1).toNat p ≤ ls + d
      · rw [if_pos e, sumK_one (c := RSt N U rs rv rc ow (N - 1).toNat p - ls) (by omega) 21 (by omega) (fun a a0 a1 an => by rw [fa a a0 (by omega), if_neg (by omega), Int.zero_mul]), fa _ (by omega) (by omega), if_pos (by omega), Int.one_mul, show RSt N U rs rv rc ow (N - 1).toNat p + d - (RSt N U rs rv rc ow (N - 1).toNat p - ls) = ls + d by omega]
      · rw [if_neg e]
        exact sumK_z _ (fun a a0 a1 => by rw [fa a a0 (by omega), if_neg (by omega), Int.zero_mul])
  have SUM : ∀ (h2 : sH), (∀ a : Nat, a ≠ x + 24 → h2 a = h a) → wysI N U rs rv rc ow d (N - 1) 601 TT M (h2 (x + 24)) → ∀ (n j : Nat), j + n = M → G X 0 0 58 [some (.ref x), some (.int (iI d)), some (.long (lI (sumK (h2 (x + 24)) j))), none, some (.int (iI j))] [] sz S r h2 := by
    intro h2 fr hI n
    have fin : sumK (h2 (x + 24)) M = TT := by
      rw [← hI.2.2]
      refine sumK_congr _ (fun i i0 i1 => ?_)
      by_cases e : h2 (x + 24) i = 0
      · rw [e, Int.zero_mul]
      · obtain ⟨a1, -, a3⟩ := hI.2.1 i i0 i1 e
        have : wtF N U rs rv rc ow d (N - 1) 601 i = 1 := by
          unfold wtF
          rw [if_neg (by omega), show (N - 1 - (N - 1)).toNat = 0 by omega]
          show (if ow (N - 1) (i / 21) ≤ ow (N - 1) (i / 21) + d - i % 21 then (1 : Int) else 0) = 1
          rw [if_pos (by omega)]
        rw [this, Int.mul_one]
    induction n with
    | zero =>
      intro j hj
      have ej : j = M := by omega
      subst ej
      refine r_iload_4 (pc := 58) q dX5_countWithin_58 ?_
      refine r_aload_0 (pc := 60) q dX5_countWithin_60 ?_
      refine r_getr (pc := 61) q fX5_23 (kz := 3) rfl (by decide) rfl hx.o hx.r_ways dX5_countWithin_61 ?_
      refine r_alen23 (pc := 64) q hx.s_ways dX5_countWithin_64 ?_
      refine r_icmp_ge (pc := 65) q 84 dX5_countWithin_65 (by decide) ⟨by omega, by omega⟩ ⟨by omega, by omega⟩ (fun c65 => ?_) (fun c65 => ?_)
      · refine r_lload_2 (pc := 84) q dX5_countWithin_84 ?_
        refine r_lreturn (pc := 85) q rt dX5_countWithin_85 ?_
        rw [fin]
        exact ⟨hTT.symm, ⟨T0, T1⟩, fr⟩
      exact absurd (by omega) c65
    | succ n ih =>
      intro j hj
      refine r_iload_4 (pc := 58) q dX5_countWithin_58 ?_
      refine r_aload_0 (pc := 60) q dX5_countWithin_60 ?_
      refine r_getr (pc := 61) q fX5_23 (kz := 3) rfl (by decide) rfl hx.o hx.r_ways dX5_countWithin_61 ?_
      refine r_alen23 (pc := 64) q hx.s_ways dX5_countWithin_64 ?_
      refine r_icmp_ge (pc := 65) q 84 dX5_countWithin_65 (by decide) ⟨by omega, by omega⟩ ⟨by omega, by omega⟩ (fun c65 => ?_) (fun c65 => ?_)
      · exact absurd c65 (by omega)
      refine r_lload_2 (pc := 68) q dX5_countWithin_68 ?_
      refine r_aload_0 (pc := 69) q dX5_countWithin_69 ?_
      refine r_getr (pc := 70) q fX5_23 (kz := 3) rfl (by decide) rfl hx.o hx.r_ways dX5_countWithin_70 ?_
      refine r_iload_4 (pc := 73) q dX5_countWithin_73 ?_
      refine r_lald (pc := 75) q hx.s_ways (by omega) (by omega) dX5_countWithin_75 ?_
      refine r_ladd (pc := 76) q dX5_countWithin_76 ?_
      refine r_lstore_2 (pc := 77) q dX5_countWithin_77 rfl ?_
      refine r_iinc_4 (pc := 78) q dX5_countWithin_78 rfl ?_
      refine r_goto (pc := 81) (tgt := 58) q dX5_countWithin_81 (by decide) ?_
      exact ih (j + 1) (by omega)
  have SL : ∀ (n s : Nat), (s : Int) + n = N - 1 → ∀ (h2 : sH) (o3 : Option Value), (∀ a : Nat, a ≠ x + 24 → h2 a = h a) → wysI N U rs rv rc ow d s 601 TT M (h2 (x + 24)) → G X 0 0 7 [some (.ref x), some (.int (iI d)), some (.int (iI s)), o3, none] [] sz S r h2 := by
    intro n
    induction n with
    | zero =>
      intro s hs h2 o3 fr hI
      have e7 : h2 x 7 = N := by rw [fr x (by omega)]; exact c1
      rw [show (s : Int) = N - 1 by omega] at hI
      refine r_iload_2 (pc := 7) q dX5_countWithin_7 ?_
      refine r_aload_0 (pc := 8) q dX5_countWithin_8 ?_
      refine r_geti (pc := 9) q fX5_61 (kz := 7) rfl (by decide) rfl hx.o dX5_countWithin_9 ?_
      rw [e7]
      refine r_iconst (pc := 12) q dX5_countWithin_12 ?_
      refine r_isub (pc := 13) q dX5_countWithin_13 ?_
      refine r_icmp_ge (pc := 14) q 53 dX5_countWithin_14 (by decide) ⟨by omega, by omega⟩ ⟨by omega, by omega⟩ (fun c14 => ?_) (fun c14 => ?_)
      · refine r_lconst (pc := 53) q dX5_countWithin_53 (by decide) ?_
        refine r_lstore_2 (pc := 54) q dX5_countWithin_54 rfl ?_
        refine r_iconst (pc := 55) q dX5_countWithin_55 ?_
        refine r_istore_4 (pc := 56) q dX5_countWithin_56 rfl ?_
        exact SUM h2 fr hI M 0 (by omega)
      exact absurd (by omega) c14
    | succ n ih =>
      intro s hs h2 o3 fr hI
      have e7 : h2 x 7 = N := by rw [fr x (by omega)]; exact c1
      obtain ⟨r1, r21, rk⟩ := hr s (by omega) (by omega)
      have PL : ∀ (j : Nat), j ≤ 601 → ∀ h3 : sH, (∀ a : Nat, a ≠ x + 24 → h3 a = h a) → wysI N U rs rv rc ow d s j TT M (h3 (x + 24)) → G X 0 0 21 [some (.ref x), some (.int (iI d)), some (.int (iI s)), some (.int (iI ((j : Int) - 1))), none] [] sz S r h3 := by
        intro j
        induction j with
        | zero =>
          intro hj h3 fr3 hI3
          have nxt : wysI N U rs rv rc ow d ((s + 1 : Nat) : Int) 601 TT M (h3 (x + 24)) := by
            obtain ⟨b1, b2, b3⟩ := hI3
            rw [show ((s + 1 : Nat) : Int) = (s : Int) + 1 by omega]
            refine ⟨b1, fun i i0 i1 hn => ?_, ?_⟩
            · obtain ⟨y1, y2, -⟩ := b2 i i0 i1 hn
              refine ⟨y1, fun z => by omega, fun _ => ?_⟩
              rw [show N - 1 - ((s : Int) + 1) = N - 2 - s by omega]
              exact y2 (by omega)
            · rw [← b3]
              refine sumK_congr _ (fun i i0 i1 => ?_)
              unfold wtF
              rw [if_neg (show ¬ (601 : Int) ≤ i / 21 by omega), if_pos (show ((0 : Nat) : Int) ≤ i / 21 by omega), show N - 1 - ((s : Int) + 1) = N - 2 - s by omega]
          refine r_iload_3 (pc := 21) q dX5_countWithin_21 ?_
          refine r_if_lt (pc := 22) q 47 dX5_countWithin_22 (by decide) ⟨by omega, by omega⟩ (fun c22 => ?_) (fun c22 => ?_)
          · refine r_iinc_2 (pc := 47) q dX5_countWithin_47 rfl ?_
            refine r_goto (pc := 50) (tgt := 7) q dX5_countWithin_50 (by decide) ?_
            exact ih (s + 1) (by omega) h3 _ fr3 nxt
          exact absurd (by omega) c22
        | succ p ihp =>
          intro hj h3 fr3 hI3
          rw [show ((p + 1 : Nat) : Int) - 1 = p by omega]
          rw [show ((p + 1 : Nat) : Int) = (p : Int) + 1 by omega] at hI3
          have hC3 : plC h3 x N U rs rv rc ow := plC_fr hC (by rw [fr3 x (by omega)]) (by rw [fr3 x (by omega)]) (fun a a0 a1 => fr3 a (by omega)) (fun a a0 a1 => fr3 a (by omega))
          have hR3 : plR h3 x N U rs rv rc ow := fun s p s0 s1 p0 p1 => by rw [fr3 _ (by omega)]; exact hR s p s0 s1 p0 p1
          have win : ∀ a : Int, 0 ≤ a → a ≤ d → inL (h3 (x + 24) (p * 21 + a)) := fun a a0 a1 => by
            have := wys_le hd hM (by omega) (by omega) (Or.inl (by omega)) hI3 (i := p * 21 + a) (by omega) (by omega) T0
            exact ⟨by omega, by omega⟩
          obtain ⟨qk, hqk⟩ : ∃ qk : Int → Int, ∀ k, qk k = p + U * rv s k := ⟨_, fun _ => rfl⟩
          obtain ⟨ek, hek⟩ : ∃ ek : Int → Int, ∀ k, ek k = ow s p + rc s k + RSt N U rs rv rc ow (N - 2 - s).toNat (qk k) - RSt N U rs rv rc ow (N - 1 - s).toNat p := ⟨_, fun _ => rfl⟩
          have he0 : RSt N U rs rv rc ow (N - 1 - s).toNat p < 1000000 → ∀ k : Int, 0 ≤ k → k < rs s → p < qk k ∧ (qk k < 601 → 0 ≤ ek k) := fun fi k k0 k1 => by
            have kb := rk k k0 k1
            have ub : 2 ≤ U * rv s k := by rcases hu with u | u <;> rw [u] <;> omega
            have hq1 := hqk k
            refine ⟨by omega, fun q6 => ?_⟩
            have stp : RSt N U rs rv rc ow (N - 1 - s).toNat p = capA (mnR U (rv s) (rc s) (RSt N U rs rv rc ow (N - 2 - s).toNat) p (rs s)) (ow s p) := by
              rw [show (N - 1 - (s : Int)).toNat = (N - 2 - s).toNat + 1 by omega]
              simp only [RSt]
              rw [show N - 2 - ((N - 2 - (s : Int)).toNat : Int) = s by omega]
            have l := mnR_le (U := U) (rv := rv s) (rc := rc s) (nx := RSt N U rs rv rc ow (N - 2 - s).toNat) (p := p) (rs s) k k0 k1 (by rw [← hqk]; exact q6)
            rw [← hqk] at l
            rw [hek]
            unfold capA at stp
            split at stp <;> omega
          refine r_iload_3 (pc := 21) q dX5_countWithin_21 ?_
          refine r_if_lt (pc := 22) q 47 dX5_countWithin_22 (by decide) ⟨by omega, by omega⟩ (fun c22 => ?_) (fun c22 => ?_)
          · exact absurd c22 (by omega)
          refine r_aload_0 (pc := 25) q dX5_countWithin_25 ?_
          refine r_iload_3 (pc := 26) q dX5_countWithin_26 ?_
          refine r_iload_1 (pc := 27) q dX5_countWithin_27 ?_
          refine r_cI2 (pc := 28) q (c_X5_holdsWays hx (by omega) (by omega) d0 d1 win) mX5_109 hx.o (by decide) (Nat.le_of_ble_eq_true rfl) rfl dX5_countWithin_28 (fun z5 h5 hz5 => ?_)
          obtain ⟨hz5, rfl⟩ := hz5
          refine r_if_eq (pc := 31) q 41 dX5_countWithin_31 (by decide) ⟨by omega, by omega⟩ (fun c31 => ?_) (fun c31 => ?_)
          · refine r_iinc_3 (pc := 41) q dX5_countWithin_41 rfl ?_
            refine r_goto (pc := 44) (tgt := 21) q dX5_countWithin_44 (by decide) ?_
            refine ihp (by omega) h3 fr3 ?_
            rcases hz5 with ⟨z, -⟩ | ⟨-, hz0⟩
            · omega
            obtain ⟨b1, b2, b3⟩ := hI3
            have zz : ∀ i : Int, 0 ≤ i → i < M → i / 21 = p → h3 (x + 24) i = 0 := fun i i0 i1 ip => by
              by_cases e : h3 (x + 24) i = 0
              · exact e
              · have := (b2 i i0 i1 e).1
                have y := hz0 (i % 21) (by omega) this
                rw [show (p : Int) * 21 + i % 21 = i by omega] at y
                exact y
            refine ⟨b1, fun i i0 i1 hn => ?_, ?_⟩
            · obtain ⟨y1, y2, y3⟩ := b2 i i0 i1 hn
              have ne : i / 21 ≠ p := fun z => hn (zz i i0 i1 z)
              exact ⟨y1, fun z => y2 (by omega), fun z => y3 (by omega)⟩
            · rw [← b3]
              refine sumK_congr _ (fun i i0 i1 => ?_)
              by_cases ip : i / 21 = p
              · rw [zz i i0 i1 ip, Int.zero_mul, Int.zero_mul]
              · have ew : wtF N U rs rv rc ow d s p i = wtF N U rs rv rc ow d s ((p : Int) + 1) i := by
                  unfold wtF
                  by_cases y : (p : Int) ≤ i / 21
                  · rw [if_pos y, if_pos (by omega)]
                  · rw [if_neg y, if_neg (by omega)]
                rw [ew]
          refine r_aload_0 (pc := 34) q dX5_countWithin_34 ?_
          refine r_iload_2 (pc := 35) q dX5_countWithin_35 ?_
          refine r_iload_3 (pc := 36) q dX5_countWithin_36 ?_
          refine r_iload_1 (pc := 37) q dX5_countWithin_37 ?_
          have fi : RSt N U rs rv rc ow (N - 1 - s).toNat p < 1000000 := by
            rcases hz5 with ⟨-, a, a0, a1, a2⟩ | ⟨z, -⟩
            · have := (hI3.2.1 (p * 21 + a) (by omega) (by omega) a2).2.2 (by omega)
              rw [show ((p : Int) * 21 + a) / 21 = p by omega] at this
              exact this
            · exact absurd z c31
          have rps := (rb (N - 1 - s).toNat (by omega) p (by omega) (by omega)).2.2 fi
          refine r_cV3 (pc := 38) q (c_X5_stepWays (qk := qk) (ek := ek) hx hC3 hR3 (by omega) (by omega) (by omega) d0 d1 hqk hek (he0 fi)) mX5_113 hx.o (by decide) (Nat.le_of_ble_eq_true rfl) rfl dX5_countWithin_38 (fun h6 hz6 => ?_)
          refine r_iinc_3 (pc := 41) q dX5_countWithin_41 rfl ?_
          refine r_goto (pc := 44) (tgt := 21) q dX5_countWithin_44 (by decide) ?_
          obtain ⟨g1, g2⟩ := hz6
          refine ihp (by omega) h6 (fun a a0 => by rw [g1 a a0]; exact fr3 a a0) ?_
          obtain ⟨b1, b2, b3⟩ := hI3
          refine ⟨fun i i0 i1 => ?_, fun i i0 i1 hn => ?_, ?_⟩
          · rw [g2 i]
            unfold clW
            split
            · omega
            · exact stW_nr (by omega) (by omega) d1 (fun i i0 i1 => b1 i i0 (by omega)) (rs s) (fun k k0 k1 k2 => (he0 fi k k0 k1).2 k2) i i0 (by omega)
          · rw [g2 i] at hn
            unfold clW at hn
            split at hn
            · exact absurd rfl hn
            · rename_i np
              rcases stW_sup _ hn with y | ⟨k, a, k0, k1, a0, a1, a2⟩
              · obtain ⟨y1, y2, y3⟩ := b2 i i0 i1 y
                exact ⟨y1, fun z => y2 (by omega), fun z => y3 (by omega)⟩
              · have hk := he0 fi k k0.1 k0.2
                have ek0 := hk.2 k1
                have he' := hek k
                have kb := rk k k0.1 k0.2
                have ob := hob s p (by omega) (by omega) (by omega) (by omega)
                rw [a2, show (qk k * 21 + a + ek k) / 21 = qk k by omega, show (qk k * 21 + a + ek k) % 21 = a + ek k by omega]
                exact ⟨a1, fun _ => by omega, fun z => by omega⟩
          · rw [← b3, ← ways_step hd d0 d1 (by omega) (by omega) (by omega) hM qk ek hqk hek (he0 fi)]
            exact sumK_congr _ (fun i i0 i1 => by rw [g2 i])
      refine r_iload_2 (pc := 7) q dX5_countWithin_7 ?_
      refine r_aload_0 (pc := 8) q dX5_countWithin_8 ?_
      refine r_geti (pc := 9) q fX5_61 (kz := 7) rfl (by decide) rfl hx.o dX5_countWithin_9 ?_
      rw [e7]
      refine r_iconst (pc := 12) q dX5_countWithin_12 ?_
      refine r_isub (pc := 13) q dX5_countWithin_13 ?_
      refine r_icmp_ge (pc := 14) q 53 dX5_countWithin_14 (by decide) ⟨by omega, by omega⟩ ⟨by omega, by omega⟩ (fun c14 => ?_) (fun c14 => ?_)
      · exact absurd c14 (by omega)
      refine r_sipush (pc := 17) q dX5_countWithin_17 (by decide) ?_
      refine r_istore_3 (pc := 20) q dX5_countWithin_20 rfl ?_
      exact PL 601 (by omega) h2 fr hI
  refine r_aload_0 (pc := 0) q dX5_countWithin_0 ?_
  refine r_iload_1 (pc := 1) q dX5_countWithin_1 ?_
  refine r_cV1 (pc := 2) q (c_X5_startWays hx hC hR hls l0 (by omega) d0 d1) mX5_105 hx.o (by decide) (Nat.le_of_ble_eq_true rfl) rfl dX5_countWithin_2 (fun h1 hz1 => ?_)
  refine r_iconst (pc := 5) q dX5_countWithin_5 ?_
  refine r_istore_2 (pc := 6) q dX5_countWithin_6 rfl ?_
  exact SL (N - 1).toNat 0 (by omega) h1 _ hz1.1 (ini _ hz1.2)
