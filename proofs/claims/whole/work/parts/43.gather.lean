theorem pf_a (h : sH) (a : Nat) (k z : Int) : pf h a k z a = up (h a) k z := up_s _ _ _
/-- the readings by habits W (written) T (truly): each value once -/
noncomputable def rlN (g : Int → Int) (n : Int) (W T : Int → Int) (b : Nat) : Nat × (Int → Int) := rlS (vS g n.toNat) W T (fun b => wks g n (W b) (T b)) b
noncomputable def coN (g : Int → Int) (n : Int) (W T C : Int → Int) (v : Int) (b : Nat) : Int := CO (vS g n.toNat) W T C (fun b => wks g n (W b) (T b)) v b
theorem rlN_in {g : Int → Int} {n : Int} {W T : Int → Int} {b : Nat} (n1 : 1 ≤ n) (n8 : n ≤ 8) (hg : ∀ i : Int, 0 ≤ i → i < n → 1 ≤ g i ∧ g i ≤ 4) (hh : ∀ k : Int, 0 ≤ k → k < b → 0 ≤ T k ∧ T k ≤ 4) : ∀ k : Int, 0 ≤ k → k < (rlN g n W T b).1 → 1 ≤ (rlN g n W T b).2 k ∧ (rlN g n W T b).2 k ≤ 450 := by
  have vb := vS_in g n.toNat
  have vg := vS_ge (g := g) (n := n.toNat) (j := 0) (fun i i0 i1 => hg i i0 (by omega)) (by omega) (by omega)
  have v0 := hg 0 (by omega) (by omega)
  have v1 := svI_pos v0.1 v0.2
  refine rlS_all (P := fun v => 1 ≤ v ∧ v ≤ 450) (by omega) b (fun k k0 k1 wb => ?_)
  have hb := hh k k0 (by omega)
  have w1 := wks_pos n1 hg hb.1 hb.2 wb
  have s1 := svI_in (W k)
  have s2 := svI_in (T k)
  omega
theorem rlS_inj {V : Int} {W T : Int → Int} {wk : Int → Prop} : ∀ b : Nat, ∀ j k : Int, 0 ≤ j → j < (rlS V W T wk b).1 → 0 ≤ k → k < (rlS V W T wk b).1 → (rlS V W T wk b).2 j = (rlS V W T wk b).2 k → j = k
  | 0 => by intro j k j0 j1 k0 k1 _; simp only [rlS] at j1 k1; omega
  | b + 1 => by
    have ih := rlS_inj (V := V) (W := W) (T := T) (wk := wk) b
    intro j k j0 j1 k0 k1 e
    simp only [rlS] at j1 k1 e
    by_cases q : wk b ∧ ∀ k : Int, 0 ≤ k → k < (rlS V W T wk b).1 → (rlS V W T wk b).2 k ≠ V - svI (W b) + svI (T b)
    · rw [cif_t q] at j1 k1 e
      dsimp only at j1 k1 e
      by_cases ej : j = (rlS V W T wk b).1
      · by_cases ek : k = (rlS V W T wk b).1
        · omega
        · rw [ej, up_s, up_n _ _ ek] at e
          exact absurd e.symm (q.2 k k0 (by omega))
      · by_cases ek : k = (rlS V W T wk b).1
        · rw [ek, up_s, up_n _ _ ej] at e
          exact absurd e (q.2 j j0 (by omega))
        · rw [up_n _ _ ej, up_n _ _ ek] at e
          exact ih j k j0 (by omega) k0 (by omega) e
    · rw [cif_f q] at j1 k1 e
      exact ih j k j0 j1 k0 k1 e
theorem CO_out {V : Int} {W T C : Int → Int} {wk : Int → Prop} {v : Int} : ∀ b : Nat, (∀ k : Int, 0 ≤ k → k < (rlS V W T wk b).1 → (rlS V W T wk b).2 k ≠ v) → CO V W T C wk v b = 1000000
  | 0, h => by
    have := h 0 (by omega) (by simp [rlS])
    simp only [rlS] at this
    simp only [CO]
    rw [if_neg (fun e => this e.symm)]
  | b + 1, h => by
    have hs : ∀ k : Int, 0 ≤ k → k < (rlS V W T wk b).1 → (rlS V W T wk b).2 k ≠ v := by
      intro k k0 k1
      have := h k k0
      simp only [rlS] at this
      by_cases q : wk b ∧ ∀ k : Int, 0 ≤ k → k < (rlS V W T wk b).1 → (rlS V W T wk b).2 k ≠ V - svI (W b) + svI (T b)
      · rw [cif_t q] at this
        dsimp only at this
        have t := this (by omega)
        rw [up_n _ _ (by omega)] at t
        exact t
      · rw [cif_f q] at this
        exact this k1
    have ih := CO_out (V := V) (W := W) (T := T) (C := C) (wk := wk) (v := v) b hs
    have nv : ¬ (V - svI (W b) + svI (T b) = v ∧ C b < CO V W T C wk v b ∧ wk b) := by
      rintro ⟨z1, -, z3⟩
      have q : wk b ∧ ∀ k : Int, 0 ≤ k → k < (rlS V W T wk b).1 → (rlS V W T wk b).2 k ≠ V - svI (W b) + svI (T b) := ⟨z3, fun k k0 k1 => by rw [z1]; exact hs k k0 k1⟩
      have t := h (rlS V W T wk b).1 (by omega)
      simp only [rlS] at t
      rw [cif_t q] at t
      dsimp only at t
      have t2 := t (by omega)
      rw [up_s] at t2
      exact t2 z1
    simp only [CO]
    rw [cif_f nv]; exact ih
/-- the readings at x -/
def rdC (h : sH) (x : Nat) (rs : Nat) (rv rc : Int → Int) : Prop := h x 2 = rs ∧ ∀ k : Int, 0 ≤ k → k < rs → h (x + 1) k = rv k ∧ h (x + 2) k = rc k
theorem c_X6_gather {l : Launch} {D : va_G} {aC : Nat → ClassId} {B t sz : Nat} {S : sS} {r : sR} {h : sH} {x u y : Nat} {n : Int} {g : Int → Int} (hx : LX6 S r x) (hu : LX4 S r u) (hy : LX1 S r y) (hH : hbC h y) (hg : nuC h u g n) (n1 : 1 ≤ n) : CtV l yX6_gather cX6_gather 5 none 2 47 [.ref x, .ref u, .ref y] D aC B t sz S r h (fun h1 => (∀ a : Nat, a ≠ x → a ≠ x + 1 → a ≠ x + 2 → h1 a = h a) ∧ rdC h1 x (rlN g n (h (y + 2)) (h (y + 1)) (h y 3).toNat).1 (rlN g n (h (y + 2)) (h (y + 1)) (h y 3).toNat).2 (fun k => coN g n (h (y + 2)) (h (y + 1)) (h (y + 3)) ((rlN g n (h (y + 2)) (h (y + 1)) (h y 3).toNat).2 k) (h y 3).toNat)) := by
  unfold CtV
  refine Ct.of (lv := [some (.ref x), some (.ref u), some (.ref y), none, none]) (by decide +kernel) rfl (Nat.le_of_ble_eq_true rfl) (fun X hl q rt hnm => ?_)
  have nu0 : u ≠ x := sNe hu.o hx.o (by decide)
  have nu1 : u ≠ x + 1 := sNe hu.o hx.s_values (by decide)
  have nu2 : u ≠ x + 2 := sNe hu.o hx.s_costs (by decide)
  have nv0 : u + 1 ≠ x := sNe hu.s_signs hx.o (by decide)
  have nv1 : u + 1 ≠ x + 1 := sNe hu.s_signs hx.s_values (by decide)
  have nv2 : u + 1 ≠ x + 2 := sNe hu.s_signs hx.s_costs (by decide)
  have ny0 : y ≠ x := sNe hy.o hx.o (by decide)
  have ny1 : y ≠ x + 1 := sNe hy.o hx.s_values (by decide)
  have ny2 : y ≠ x + 2 := sNe hy.o hx.s_costs (by decide)
  have na0 : y + 1 ≠ x := sNe hy.s_truly hx.o (by decide)
  have na1 : y + 1 ≠ x + 1 := sNe hy.s_truly hx.s_values (by decide)
  have na2 : y + 1 ≠ x + 2 := sNe hy.s_truly hx.s_costs (by decide)
  have nb0 : y + 2 ≠ x := sNe hy.s_written hx.o (by decide)
  have nb1 : y + 2 ≠ x + 1 := sNe hy.s_written hx.s_values (by decide)
  have nb2 : y + 2 ≠ x + 2 := sNe hy.s_written hx.s_costs (by decide)
  have nc0 : y + 3 ≠ x := sNe hy.s_costs hx.o (by decide)
  have nc1 : y + 3 ≠ x + 1 := sNe hy.s_costs hx.s_values (by decide)
  have nc2 : y + 3 ≠ x + 2 := sNe hy.s_costs hx.s_costs (by decide)
  obtain ⟨H0, H20, hh⟩ := id hH
  obtain ⟨e1, ⟨n0, n8⟩, hb⟩ := id hg
  obtain ⟨V, hV⟩ : ∃ V, vS g n.toNat = V := ⟨_, rfl⟩
  obtain ⟨W, hW⟩ : ∃ W, h (y + 2) = W := ⟨_, rfl⟩
  obtain ⟨Tr, hTr⟩ : ∃ Tr, h (y + 1) = Tr := ⟨_, rfl⟩
  obtain ⟨C, hC⟩ : ∃ C, h (y + 3) = C := ⟨_, rfl⟩
  rw [hW, hTr, hC] at hh rt
  have Vb : 1 ≤ V ∧ V ≤ 450 := by
    have := rlN_in (W := W) (T := Tr) (b := 0) n1 n8 (fun i i0 i1 => (hb i i0 i1).2) (fun k k0 k1 => by omega) 0 (by omega) (by simp [rlN, rlS])
    simp only [rlN, rlS] at this
    rw [hV] at this
    exact this
  have lp : ∀ (d j : Nat), (j : Int) + d = h y 3 → ∀ h2 : sH, (∀ a : Nat, a ≠ x → a ≠ x + 1 → a ≠ x + 2 → h2 a = h a) → h2 x 2 = (rlN g n W Tr j).1 → (∀ k : Int, 0 ≤ k → k < (rlN g n W Tr j).1 → h2 (x + 1) k = (rlN g n W Tr j).2 k ∧ h2 (x + 2) k = coN g n W Tr C ((rlN g n W Tr j).2 k) j) → G X 0 0 19 [some (.ref x), some (.ref u), some (.ref y), some (.int (iI V)), some (.int (iI j))] [] sz S r h2 := by
    intro d
    induction d with
    | zero =>
      intro j hj h2 f1 f2 f3
      have s2 : h2 y 3 = h y 3 := by rw [f1 y ny0 ny1 ny2]
      refine r_iload_4 (pc := 19) q dX6_gather_19 ?_
      refine r_aload_2 (pc := 21) q dX6_gather_21 ?_
      refine r_geti (pc := 22) q fX6_32 (kz := 3) rfl (by decide) rfl hy.o dX6_gather_22 ?_
      rw [s2]
      refine r_icmp_ge (pc := 25) q 63 dX6_gather_25 (by decide) ⟨by omega, by omega⟩ ⟨by omega, by omega⟩ (fun c25 => ?_) (fun c25 => ?_)
      · refine r_return (pc := 63) q rt dX6_gather_63 ?_
        refine ⟨f1, ?_⟩
        rw [show (h y 3).toNat = j by omega]
        exact ⟨f2, f3⟩
      exact absurd (by omega) c25
    | succ d ih =>
      intro j hj h2 f1 f2 f3
      have fy := f1 y ny0 ny1 ny2
      have fy1 := f1 _ na0 na1 na2
      have fy2 := f1 _ nb0 nb1 nb2
      have fy3 := f1 _ nc0 nc1 nc2
      have s2 : h2 y 3 = h y 3 := by rw [fy]
      have hH2 : hbC h2 y := by unfold hbC at hH ⊢; rw [fy, fy1, fy2, fy3]; exact hH
      have hg2 := nuC_fr hg (f1 u nu0 nu1 nu2) (f1 _ nv0 nv1 nv2)
      have hj4 := hh j (by omega) (by omega)
      have sz0 := rlS_sz V W Tr (fun b => wks g n (W b) (Tr b)) j
      have sz1 : 1 ≤ (rlN g n W Tr j).1 ∧ (rlN g n W Tr j).1 ≤ j + 1 := by unfold rlN; rw [hV]; exact sz0
      have vin := rlN_in (W := W) (T := Tr) (b := j) n1 n8 (fun i i0 i1 => (hb i i0 i1).2) (fun k k0 k1 => (hh k k0 (by omega)).1)
      have cin : ∀ k : Int, 0 ≤ k → k < (rlN g n W Tr j).1 → 0 ≤ h2 (x + 2) k ∧ h2 (x + 2) k ≤ 1000000 := fun k k0 k1 => by
        rw [(f3 k k0 k1).2]
        unfold coN
        exact CO_in (fun k k0 k1 => (hh k k0 (by omega)).2.2.1)
      have st : (rlN g n W Tr (j + 1)) = cif (wks g n (W j) (Tr j) ∧ ∀ k : Int, 0 ≤ k → k < (rlN g n W Tr j).1 → (rlN g n W Tr j).2 k ≠ V - svI (W j) + svI (Tr j)) ((rlN g n W Tr j).1 + 1, up (rlN g n W Tr j).2 ((rlN g n W Tr j).1 : Int) (V - svI (W j) + svI (Tr j))) (rlN g n W Tr j) := by
        unfold rlN; rw [hV]; rfl
      have ct : ∀ v, coN g n W Tr C v (j + 1) = cif (V - svI (W j) + svI (Tr j) = v ∧ C j < coN g n W Tr C v j ∧ wks g n (W j) (Tr j)) (C j) (coN g n W Tr C v j) := fun v => by
        unfold coN; rw [hV]; rfl
      have svw := svI_in (W j)
      have svt := svI_in (Tr j)
      refine r_iload_4 (pc := 19) q dX6_gather_19 ?_
      refine r_aload_2 (pc := 21) q dX6_gather_21 ?_
      refine r_geti (pc := 22) q fX6_32 (kz := 3) rfl (by decide) rfl hy.o dX6_gather_22 ?_
      rw [s2]
      refine r_icmp_ge (pc := 25) q 63 dX6_gather_25 (by decide) ⟨by omega, by omega⟩ ⟨by omega, by omega⟩ (fun c25 => ?_) (fun c25 => ?_)
      · exact absurd c25 (by omega)
      refine r_aload_2 (pc := 28) q dX6_gather_28 ?_
      refine r_iload_4 (pc := 29) q dX6_gather_29 ?_
      refine r_aload_1 (pc := 31) q dX6_gather_31 ?_
      refine r_cI2 (pc := 32) q (c_X1_worksIn hy hu hH2 hg2 (by omega) (by omega)) mX6_35 hy.o (by decide) (Nat.le_of_ble_eq_true rfl) rfl dX6_gather_32 (fun z5 h5 hz5 => ?_)
      obtain ⟨hz5, rfl⟩ := hz5
      rw [fy1, fy2, hW, hTr] at hz5
      refine r_if_eq (pc := 35) q 57 dX6_gather_35 (by decide) ⟨by omega, by omega⟩ (fun c35 => ?_) (fun c35 => ?_)
      · refine r_iinc_4 (pc := 57) q dX6_gather_57 rfl ?_
        refine r_goto (pc := 60) (tgt := 19) q dX6_gather_60 (by decide) ?_
        have nw : ¬ wks g n (W j) (Tr j) := by
          rcases hz5 with ⟨z, -⟩ | ⟨-, w⟩
          · omega
          · exact w
        have st2 : rlN g n W Tr (j + 1) = rlN g n W Tr j := by rw [st, cif_f (fun z => nw z.1)]
        refine ih (j + 1) (by omega) h2 f1 (by rw [st2]; exact f2) (fun k k0 k1 => ?_)
        rw [st2] at k1 ⊢
        rw [ct, cif_f (fun z => nw z.2.2)]
        exact f3 k k0 k1
      refine r_aload_0 (pc := 38) q dX6_gather_38 ?_
      refine r_iload_3 (pc := 39) q dX6_gather_39 ?_
      refine r_aload_2 (pc := 40) q dX6_gather_40 ?_
      refine r_iload_4 (pc := 41) q dX6_gather_41 ?_
      refine r_cI1 (pc := 43) q (c_X1_gainBy hy hH2 (by omega) (by omega)) mX6_39 hy.o (by decide) (Nat.le_of_ble_eq_true rfl) rfl dX6_gather_43 (fun z1 h1 hz1 => ?_)
      obtain ⟨rfl, rfl⟩ := hz1
      rw [fy1, fy2, hW, hTr]
      refine r_iadd (pc := 46) q dX6_gather_46 ?_
      obtain ⟨zv, ezv⟩ : ∃ zv : Int, zv = V - svI (W j) + svI (Tr j) := ⟨_, rfl⟩
      rw [show V + (svI (Tr j) - svI (W j)) = zv by omega]
      have wk : wks g n (W j) (Tr j) ∧ zv = V - svI (W j) + svI (Tr j) := by
        refine ⟨?_, ezv⟩
        rcases hz5 with ⟨-, z⟩ | ⟨z, -⟩
        · exact z
        · exact absurd z c35
      refine r_aload_2 (pc := 47) q dX6_gather_47 ?_
      refine r_getr (pc := 48) q fX6_43 (kz := 2) rfl (by decide) rfl hy.o hy.r_costs dX6_gather_48 ?_
      refine r_iload_4 (pc := 51) q dX6_gather_51 ?_
      refine r_iald (pc := 53) q hy.s_costs (by omega) (by omega) dX6_gather_53 ?_
      rw [fy3, hC]
      refine r_cV2 (pc := 54) q (c_X6_put (vl := (rlN g n W Tr j).2) hx f2 (by omega) (fun k k0 k1 => ⟨(f3 k k0 k1).1, by have := vin k k0 k1; exact ⟨by omega, by omega⟩⟩) (fun k k0 k1 => by have := cin k k0 k1; exact ⟨by omega, by omega⟩) ⟨by omega, by omega⟩ ⟨by omega, by omega⟩) mX6_28 hx.o (by decide) (Nat.le_of_ble_eq_true rfl) rfl dX6_gather_54 (fun h6 hz6 => ?_)
      refine r_iinc_4 (pc := 57) q dX6_gather_57 rfl ?_
      refine r_goto (pc := 60) (tgt := 19) q dX6_gather_60 (by decide) ?_
      rcases hz6 with ⟨k0, ⟨k1, k2, k3⟩, e6⟩ | ⟨hn, e6⟩
      · have st2 : rlN g n W Tr (j + 1) = rlN g n W Tr j := by rw [st, cif_f (fun z => z.2 k0 k1 k2 (by rw [k3]; exact wk.2))]
        refine ih (j + 1) (by omega) h6 (fun a a0 a1 a2 => by rw [e6, pf_o _ k0 _ a2]; exact f1 a a0 a1 a2) (by rw [st2, e6, pf_o _ k0 _ (by omega)]; exact f2) (fun k q0 q1 => ?_)
        rw [st2] at q1 ⊢
        have fk := f3 k q0 q1
        refine ⟨by rw [e6, pf_o _ k0 _ (by omega)]; exact fk.1, ?_⟩
        rw [ct]
        by_cases ek : k = k0
        · rw [ek, e6, pf_s, (f3 k0 k1 k2).2, k3]
          by_cases lt : C j < coN g n W Tr C zv j
          · rw [cif_t ⟨wk.2.symm, lt, wk.1⟩]; omega
          · rw [cif_f (fun z => lt z.2.1)]; omega
        · rw [e6, pf_f _ _ _ ek, fk.2, cif_f]
          rintro ⟨z1, -, -⟩
          have ij := rlS_inj (V := V) (W := W) (T := Tr) (wk := fun b => wks g n (W b) (Tr b)) j k k0 q0 (by unfold rlN at q1; rw [hV] at q1; exact q1) k1 (by unfold rlN at k2; rw [hV] at k2; exact k2) (by unfold rlN at z1 k3; rw [hV] at z1 k3; rw [← z1, k3]; exact wk.2.symm)
          exact ek ij
      · have nn : ∀ k : Int, 0 ≤ k → k < (rlN g n W Tr j).1 → (rlN g n W Tr j).2 k ≠ V - svI (W j) + svI (Tr j) := fun k q0 q1 => by rw [← wk.2]; exact hn k q0 q1
        have st2 : rlN g n W Tr (j + 1) = ((rlN g n W Tr j).1 + 1, up (rlN g n W Tr j).2 ((rlN g n W Tr j).1 : Int) (V - svI (W j) + svI (Tr j))) := by rw [st, cif_t ⟨wk.1, nn⟩]
        refine ih (j + 1) (by omega) h6 (fun a a0 a1 a2 => by rw [e6, pf_o _ 2 _ a0, pf_o _ _ _ a2, pf_o _ _ _ a1]; exact f1 a a0 a1 a2) (by rw [st2, e6, pf_s]; rfl) (fun k q0 q1 => ?_)
        rw [st2] at q1 ⊢
        dsimp only at q1 ⊢
        have e61 : h6 (x + 1) = up (h2 (x + 1)) ((rlN g n W Tr j).1 : Int) zv := by rw [e6, pf_o _ 2 _ (by omega), pf_o _ _ _ (by omega), pf_a]
        have e62 : h6 (x + 2) = up (h2 (x + 2)) ((rlN g n W Tr j).1 : Int) (C j) := by rw [e6, pf_o _ 2 _ (by omega), pf_a, pf_o _ _ _ (by omega)]
        rw [e61, e62, ct]
        by_cases ek : k = (rlN g n W Tr j).1
        · rw [ek, up_s, up_s, up_s]
          have co : coN g n W Tr C (V - svI (W j) + svI (Tr j)) j = 1000000 := by
            unfold coN
            unfold rlN at nn
            exact CO_out j nn
          exact ⟨wk.2, by rw [cif_t ⟨rfl, by rw [co]; omega, wk.1⟩]⟩
        · have fk := f3 k q0 (by omega)
          rw [up_n _ _ ek, up_n _ _ ek, up_n _ _ ek]
          exact ⟨fk.1, by rw [cif_f (fun z => nn k q0 (by omega) z.1.symm)]; exact fk.2⟩
  refine r_aload_0 (pc := 0) q dX6_gather_0 ?_
  refine r_iconst (pc := 1) q dX6_gather_1 ?_
  refine r_puti (pc := 2) q fX6_18 (kz := 2) rfl (by decide) rfl hx.o dX6_gather_2 (fun h1 eh1 => ?_)
  have o1 : ∀ a : Nat, a ≠ x → h1 a = h a := fun a a0 => by rw [eh1, up_n _ _ a0]
  refine r_aload_1 (pc := 5) q dX6_gather_5 ?_
  refine r_cI0 (pc := 6) q (c_X4_value hu (nuC_fr hg (o1 u nu0) (o1 _ nv0))) mX6_22 hu.o (by decide) (Nat.le_of_ble_eq_true rfl) rfl dX6_gather_6 (fun z1 h1 hz1 => ?_)
  obtain ⟨rfl, rfl⟩ := hz1
  rw [hV]
  refine r_istore_3 (pc := 9) q dX6_gather_9 rfl ?_
  refine r_aload_0 (pc := 10) q dX6_gather_10 ?_
  refine r_iload_3 (pc := 11) q dX6_gather_11 ?_
  refine r_iconst (pc := 12) q dX6_gather_12 ?_
  refine r_cV2 (pc := 13) q (c_X6_put (s := 0) (vl := fun _ => 0) hx (by rw [eh1, up_s, up_s]; rfl) (by omega) (fun k k0 k1 => by omega) (fun k k0 k1 => by omega) ⟨by omega, by omega⟩ ⟨by omega, by omega⟩) mX6_28 hx.o (by decide) (Nat.le_of_ble_eq_true rfl) rfl dX6_gather_13 (fun h2 hz2 => ?_)
  refine r_iconst (pc := 16) q dX6_gather_16 ?_
  refine r_istore_4 (pc := 17) q dX6_gather_17 rfl ?_
  rcases hz2 with ⟨k, ⟨k0, k1, -⟩, -⟩ | ⟨-, e2⟩
  · omega
  · refine lp (h y 3).toNat 0 (by omega) h2 (fun a a0 a1 a2 => by rw [e2, pf_o _ 2 _ a0, pf_o _ _ _ a2, pf_o _ _ _ a1]; exact o1 a a0) (by rw [e2, pf_s]; rfl) (fun k k0 k1 => ?_)
    have ek : k = 0 := by simp only [rlN, rlS] at k1; omega
    subst ek
    have e61 : h2 (x + 1) = up (h1 (x + 1)) ((0 : Nat) : Int) V := by rw [e2, pf_o _ 2 _ (by omega), pf_o _ _ _ (by omega), pf_a]
    have e62 : h2 (x + 2) = up (h1 (x + 2)) ((0 : Nat) : Int) 0 := by rw [e2, pf_o _ 2 _ (by omega), pf_a, pf_o _ _ _ (by omega)]
    rw [e61, e62]
    refine ⟨by simp [rlN, rlS, up, hV], ?_⟩
    simp only [rlN, rlS, coN, CO]
    rw [if_pos trivial]
    exact up_s _ _ _
theorem c_X5_costOfValue {l : Launch} {D : va_G} {aC : Nat → ClassId} {B t sz : Nat} {S : sS} {r : sR} {h : sH} {x u y : Nat} {n v : Int} {g : Int → Int} (hx : LX5 S r x) (hu : LX4 S r u) (hy : LX1 S r y) (hH : hbC h y) (hg : nuC h u g n) (n1 : 1 ≤ n) (hv : inR v) : CtI l yX5_costOfValue cX5_costOfValue 4 (some .int) 3 71 [.ref x, .ref u, .ref y, .int (iI v)] D aC B t sz S r h (fun z h1 => (∀ a : Nat, a ≠ x + 26 → a ≠ x + 27 → a ≠ x + 28 → h1 a = h a) ∧ z = (if coN g n (h (y + 2)) (h (y + 1)) (h (y + 3)) v (h y 3).toNat = 1000000 then -1 else coN g n (h (y + 2)) (h (y + 1)) (h (y + 3)) v (h y 3).toNat)) := by
  unfold CtI
  refine Ct.of (lv := [some (.ref x), some (.ref u), some (.ref y), some (.int (iI v))]) (by decide +kernel) rfl (Nat.le_of_ble_eq_true rfl) (fun X hl q rt hnm => ?_)
  obtain ⟨H0, H20, hh⟩ := id hH
  obtain ⟨e1, ⟨n0, n8⟩, hb⟩ := id hg
  have sz0 := rlS_sz (vS g n.toNat) (h (y + 2)) (h (y + 1)) (fun b => wks g n (h (y + 2) b) (h (y + 1) b)) (h y 3).toNat
  have sz1 : 1 ≤ (rlN g n (h (y + 2)) (h (y + 1)) (h y 3).toNat).1 ∧ (rlN g n (h (y + 2)) (h (y + 1)) (h y 3).toNat).1 ≤ (h y 3).toNat + 1 := by unfold rlN; exact sz0
  have vin := rlN_in (W := h (y + 2)) (T := h (y + 1)) (b := (h y 3).toNat) n1 n8 (fun i i0 i1 => (hb i i0 i1).2) (fun k k0 k1 => (hh k k0 (by omega)).1)
  refine r_aload_0 (pc := 0) q dX5_costOfValue_0 ?_
  refine r_getr (pc := 1) q fX5_34 (kz := 5) rfl (by decide) rfl hx.o hx.r_asked dX5_costOfValue_1 ?_
  refine r_aload_1 (pc := 4) q dX5_costOfValue_4 ?_
  refine r_aload_2 (pc := 5) q dX5_costOfValue_5 ?_
  refine r_cV2 (pc := 6) q (c_X6_gather hx.n_asked hu hy hH hg n1) mX5_41 hx.n_asked.o (by decide) (Nat.le_of_ble_eq_true rfl) rfl dX5_costOfValue_6 (fun h1 hz1 => ?_)
  obtain ⟨fr, hr2, hr3⟩ := hz1
  refine r_aload_0 (pc := 9) q dX5_costOfValue_9 ?_
  refine r_getr (pc := 10) q fX5_34 (kz := 5) rfl (by decide) rfl hx.o hx.r_asked dX5_costOfValue_10 ?_
  refine r_iload_3 (pc := 13) q dX5_costOfValue_13 ?_
  refine r_cI1 (pc := 14) q (c_X6_costOf hx.n_asked hr2 (by omega) (fun k k0 k1 => ⟨(hr3 k k0 k1).1, by have := vin k k0 k1; exact ⟨by omega, by omega⟩⟩) hv) mX5_45 hx.n_asked.o (by decide) (Nat.le_of_ble_eq_true rfl) rfl dX5_costOfValue_14 (fun z2 h2 hz2 => ?_)
  obtain ⟨hz2, rfl⟩ := hz2
  refine r_ireturn (pc := 17) q rt dX5_costOfValue_17 ?_
  refine ⟨fr, ?_⟩
  rcases hz2 with ⟨z, hn⟩ | ⟨k, ⟨k0, k1, k2⟩, z⟩
  · have co : coN g n (h (y + 2)) (h (y + 1)) (h (y + 3)) v (h y 3).toNat = 1000000 := by
      unfold coN
      unfold rlN at hn
      exact CO_out _ hn
    rw [if_pos co]; exact z
  · rw [(hr3 k k0 k1).2] at z
    simp only [] at z
    rw [k2] at z
    have c20 : coN g n (h (y + 2)) (h (y + 1)) (h (y + 3)) v (h y 3).toNat ≤ 20 := by
      have := rlS_all (V := vS g n.toNat) (W := h (y + 2)) (T := h (y + 1)) (wk := fun b => wks g n (h (y + 2) b) (h (y + 1) b)) (P := fun v => coN g n (h (y + 2)) (h (y + 1)) (h (y + 3)) v (h y 3).toNat ≤ 20) (by
        unfold coN
        rw [CO_own (fun k k0 k1 => (hh k k0 (by omega)).2.2.1.1)]; omega) (h y 3).toNat (fun b b0 b1 wb => CO_20 b0 (hh b b0 (by omega)).2.2.1.2 wb rfl _ b1) k k0 k1
      unfold rlN at k2
      rw [k2] at this
      exact this
    rw [if_neg (by omega)]; exact z
