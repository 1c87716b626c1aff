theorem isMn_ex {E : Int → Prop} (h : ∀ c, E c → 0 ≤ c ∧ c < 1000000) : ∃ x, isMn E x := by
  by_cases e : ∃ c, E c
  · obtain ⟨c, hc⟩ := e
    have mn : ∀ n : Nat, ∀ c, E c → c ≤ n → ∃ x, E x ∧ ∀ d, E d → x ≤ d := by
      intro n
      induction n with
      | zero => intro c hc c0; exact ⟨c, hc, fun d hd => by have := h d hd; have := h c hc; omega⟩
      | succ n ih =>
        intro c hc cn
        by_cases q : ∃ d, E d ∧ d ≤ n
        · obtain ⟨d, hd, dn⟩ := q; exact ih d hd dn
        · exact ⟨c, hc, fun d hd => by
            by_cases z : d ≤ n
            · exact absurd ⟨d, hd, z⟩ q
            · omega⟩
    obtain ⟨x, hx, hm⟩ := mn c.toNat c hc (by have := h c hc; omega)
    exact ⟨x, Or.inr ⟨(h x hx).2, hx, hm⟩⟩
  · exact ⟨1000000, Or.inl ⟨rfl, fun c z => e ⟨c, z⟩⟩⟩
theorem isMn_bd {E : Int → Prop} {x : Int} (h1 : isMn E x) (h : ∀ c, E c → 0 ≤ c) : 0 ≤ x ∧ x ≤ 1000000 := by
  rcases h1 with ⟨a, -⟩ | ⟨a, b, -⟩
  · omega
  · have := h x b; omega
noncomputable def wF (U : Int) (rs : Int → Nat) (rv rc ow : Int → Int → Int) : Nat → Int → Int
  | 0 => fun _ => 0
  | s + 1 => fun q => Classical.epsilon (fun x => isMn (cdG U (rs s) (rv s) (fun p => wF U rs rv rc ow s p < 1000000) (fun p k _ => wF U rs rv rc ow s p + ow s p + rc s k) (fun _ _ => True) q) x)
theorem wF_ok {N U : Int} {rs : Int → Nat} {rv rc ow : Int → Int → Int} (hd : rdy N U rs rv rc ow) : ∀ s : Nat, (s : Int) < N → (∀ p : Int, 0 ≤ p → p < 601 → 0 ≤ wF U rs rv rc ow s p ∧ wF U rs rv rc ow s p ≤ 1000000 ∧ (wF U rs rv rc ow s p < 1000000 → wF U rs rv rc ow s p ≤ 670 * s)) ∧ ((s : Int) + 1 < N → ∀ q : Int, 0 ≤ q → q < 601 → isMn (cdG U (rs s) (rv s) (fun p => wF U rs rv rc ow s p < 1000000) (fun p k _ => wF U rs rv rc ow s p + ow s p + rc s k) (fun _ _ => True) q) (wF U rs rv rc ow (s + 1) q)) := by
  have N10 := hd.2.1
  have mnS : ∀ s : Nat, (s : Int) + 1 < N → (∀ p : Int, 0 ≤ p → p < 601 → 0 ≤ wF U rs rv rc ow s p ∧ wF U rs rv rc ow s p ≤ 1000000 ∧ (wF U rs rv rc ow s p < 1000000 → wF U rs rv rc ow s p ≤ 670 * s)) → (∀ q c : Int, cdG U (rs s) (rv s) (fun p => wF U rs rv rc ow s p < 1000000) (fun p k _ => wF U rs rv rc ow s p + ow s p + rc s k) (fun _ _ => True) q c → 0 ≤ c ∧ c ≤ 670 * ((s : Int) + 1)) ∧ (∀ q : Int, isMn (cdG U (rs s) (rv s) (fun p => wF U rs rv rc ow s p < 1000000) (fun p k _ => wF U rs rv rc ow s p + ow s p + rc s k) (fun _ _ => True) q) (wF U rs rv rc ow (s + 1) q)) := by
    intro s hs bd
    have eb : ∀ q c : Int, cdG U (rs s) (rv s) (fun p => wF U rs rv rc ow s p < 1000000) (fun p k _ => wF U rs rv rc ow s p + ow s p + rc s k) (fun _ _ => True) q c → 0 ≤ c ∧ c ≤ 670 * ((s : Int) + 1) := by
      rintro q c ⟨p, k, -, p0, k0, fi, -, e⟩
      have b := bd p p0.1 p0.2
      have fi' : wF U rs rv rc ow s p < 1000000 := fi
      have b3 := b.2.2 fi'
      have o := hd.2.2.2 s p (by omega) (by omega) p0.1 p0.2
      have kk := (hd.2.2.1 s (by omega) hs).2.2 k k0.1 k0.2
      have e' : c = wF U rs rv rc ow s p + ow s p + rc s k := e
      omega
    refine ⟨eb, fun q => ?_⟩
    have ex := isMn_ex (E := cdG U (rs s) (rv s) (fun p => wF U rs rv rc ow s p < 1000000) (fun p k _ => wF U rs rv rc ow s p + ow s p + rc s k) (fun _ _ => True) q) (fun c hc => by have := eb q c hc; omega)
    exact Classical.epsilon_spec ex
  have bd : ∀ s : Nat, (s : Int) < N → ∀ p : Int, 0 ≤ p → p < 601 → 0 ≤ wF U rs rv rc ow s p ∧ wF U rs rv rc ow s p ≤ 1000000 ∧ (wF U rs rv rc ow s p < 1000000 → wF U rs rv rc ow s p ≤ 670 * s) := by
    intro s
    induction s with
    | zero => intro _ p _ _; simp only [wF]; omega
    | succ s ih =>
      intro hs p p0 p1
      obtain ⟨m1, m2⟩ := mnS s (by omega) (ih (by omega))
      rcases m2 p with ⟨a, -⟩ | ⟨a, b, -⟩
      · omega
      · have := m1 p _ b; omega
  exact fun s hs => ⟨bd s hs, fun h1 q _ _ => (mnS s h1 (bd s hs)).2 q⟩
theorem wF_R {N U : Int} {rs : Int → Nat} {rv rc ow : Int → Int → Int} (hd : rdy N U rs rv rc ow) : bfR N U rs rv rc ow (fun s p => wF U rs rv rc ow s.toNat p) := by
  refine ⟨fun p _ _ => rfl, fun s s0 s1 q q0 q1 => ?_⟩
  have := (wF_ok hd s.toNat (by omega)).2 (by omega) q q0 q1
  rw [show ((s.toNat : Nat) : Int) = s by omega] at this
  show isMn _ (wF U rs rv rc ow (s + 1).toNat q)
  rw [show (s + 1).toNat = s.toNat + 1 by omega]
  exact this
def stB (U : Int) (rv rc : Int → Int) (p u0 : Int) (B : Int → Int) : Nat → Int → Int
  | 0 => up B p 1000000
  | k + 1 => if p + U * rv k < 601 then up (stB U rv rc p u0 B k) (p + U * rv k) (min (stB U rv rc p u0 B k (p + U * rv k)) (u0 + rc k)) else stB U rv rc p u0 B k
theorem stB_lt {U : Int} {rv rc : Int → Int} {p u0 : Int} {B : Int → Int} {q : Int} (h : q < p) : ∀ n : Nat, (∀ k : Int, 0 ≤ k → k < n → 0 ≤ U * rv k) → stB U rv rc p u0 B n q = B q
  | 0, _ => by simp only [stB]; rw [up_n _ _ (by omega)]
  | n + 1, hk => by
    have ih := stB_lt (U := U) (rv := rv) (rc := rc) (p := p) (u0 := u0) (B := B) h n (fun k k0 k1 => hk k k0 (by omega))
    have b := hk n (by omega) (by omega)
    simp only [stB]
    split
    · rw [up_n _ _ (by omega)]; exact ih
    · exact ih
theorem stB_in {U : Int} {rv rc : Int → Int} {p u0 : Int} {B : Int → Int} (u1 : 0 ≤ u0) (hB : ∀ q : Int, 0 ≤ q → q < 601 → 0 ≤ B q ∧ B q ≤ 1000000) : ∀ n : Nat, (∀ k : Int, 0 ≤ k → k < n → 0 ≤ rc k) → ∀ q : Int, 0 ≤ q → q < 601 → 0 ≤ stB U rv rc p u0 B n q ∧ stB U rv rc p u0 B n q ≤ 1000000
  | 0, _, q, q0, q1 => by
    simp only [stB]
    by_cases e : q = p
    · rw [e, up_s]; omega
    · rw [up_n _ _ e]; exact hB q q0 q1
  | n + 1, hk, q, q0, q1 => by
    have ih := stB_in (U := U) (rv := rv) (rc := rc) (p := p) u1 hB n (fun k k0 k1 => hk k k0 (by omega)) q q0 q1
    have b := hk n (by omega) (by omega)
    simp only [stB]
    split
    · by_cases e : q = p + U * rv n
      · rw [← e, up_s]; omega
      · rw [up_n _ _ e]; exact ih
    · exact ih
theorem stB_mn {U : Int} {rsn : Nat} {rv rc : Int → Int} {p : Int} {B W o : Int → Int} (hk : ∀ k : Int, 0 ≤ k → k < rsn → 1 ≤ U * rv k ∧ 0 ≤ rc k ∧ rc k ≤ 20) (p0 : 0 ≤ p) (p1 : p < 601) (fi : W p < 1000000) (small : W p + o p ≤ 900000) (hU : ∀ a b : Int, 0 ≤ b → b < rsn → 1 ≤ U * rv b) (hB : ∀ q : Int, p < q → q < 601 → isMn (cdG U rsn rv (fun p => W p < 1000000) (fun p k _ => W p + o p + rc k) (fun a _ => p + 1 ≤ a) q) (B q)) : ∀ n : Nat, n ≤ rsn → ∀ q : Int, p ≤ q → q < 601 → isMn (cdG U rsn rv (fun p => W p < 1000000) (fun p k _ => W p + o p + rc k) (fun a b => p + 1 ≤ a ∨ (a = p ∧ b < n)) q) (stB U rv rc p (W p + o p) B n q)
  | 0, _, q, q0, q1 => by
    simp only [stB]
    by_cases e : q = p
    · rw [e, up_s]
      refine Or.inl ⟨rfl, ?_⟩
      rintro c ⟨a, b, r0, r1, r2, r3, r4, -⟩
      have := hU a b r2.1 r2.2
      rcases r0 with r0 | r0 <;> omega
    · rw [up_n _ _ e]
      exact isMn_skp (hB q (by omega) q1) (fun a b r1 r2 r3 r4 => ⟨fun z => Or.inl z, fun z => by rcases z with z | z <;> omega⟩)
  | n + 1, hn, q, q0, q1 => by
    have ih := stB_mn hk p0 p1 fi small hU hB n (by omega) q q0 q1
    have kb := hk n (by omega) (by omega)
    simp only [stB]
    by_cases qk : p + U * rv n < 601
    · rw [if_pos qk]
      by_cases e : q = p + U * rv n
      · rw [← e, up_s]
        exact isMn_stp (val := fun p k _ => W p + o p + rc k) ih (fun a b => by
          constructor
          · rintro (z | z)
            · exact Or.inl (Or.inl z)
            · by_cases eb : b = n
              · exact Or.inr ⟨z.1, eb⟩
              · exact Or.inl (Or.inr ⟨z.1, by omega⟩)
          · rintro ((z | z) | z)
            · exact Or.inl z
            · exact Or.inr ⟨z.1, by omega⟩
            · exact Or.inr ⟨z.1, by omega⟩) p0 p1 (by omega) (by omega) fi e (by show W p + o p + rc n < 1000000; omega)
      · rw [up_n _ _ e]
        refine isMn_skp ih (fun a b r1 r2 r3 r4 => ⟨fun z => by rcases z with z | z; exact Or.inl z; exact Or.inr ⟨z.1, by omega⟩, fun z => ?_⟩)
        rcases z with z | z
        · exact Or.inl z
        · by_cases eb : b = n
          · rw [z.1, eb] at r4; exact absurd r4 e
          · exact Or.inr ⟨z.1, by omega⟩
    · rw [if_neg qk]
      refine isMn_skp ih (fun a b r1 r2 r3 r4 => ⟨fun z => by rcases z with z | z; exact Or.inl z; exact Or.inr ⟨z.1, by omega⟩, fun z => ?_⟩)
      rcases z with z | z
      · exact Or.inl z
      · by_cases eb : b = n
        · rw [z.1, eb] at r4; omega
        · exact Or.inr ⟨z.1, by omega⟩
theorem c_X5_stepBefore {l : Launch} {D : va_G} {aC : Nat → ClassId} {B t sz : Nat} {S : sS} {r : sR} {h : sH} {x : Nat} {N U s p : Int} {rs : Int → Nat} {rv rc ow : Int → Int → Int} (hx : LX5 S r x) (hC : plC h x N U rs rv rc ow) (s0 : 0 ≤ s) (s1 : s + 1 < N) (p0 : 0 ≤ p) (p1 : p < 601) (hB : ∀ q : Int, 0 ≤ q → q < 601 → 0 ≤ h (x + 23) q ∧ h (x + 23) q ≤ 1000000) : CtV l yX5_stepBefore cX5_stepBefore 6 none 1 24 [.ref x, .int (iI s), .int (iI p)] D aC B t sz S r h (fun h1 => (∀ a : Nat, a ≠ x + 23 → h1 a = h a) ∧ ((1000000 ≤ h (x + 23) p + ow s p ∧ h1 (x + 23) = up (h (x + 23)) p 1000000) ∨ (h (x + 23) p + ow s p < 1000000 ∧ h1 (x + 23) = stB U (rv s) (rc s) p (h (x + 23) p + ow s p) (h (x + 23)) (rs s)))) := by
  unfold CtV
  refine Ct.of (lv := [some (.ref x), some (.int (iI s)), some (.int (iI p)), none, none, none]) (by decide +kernel) rfl (Nat.le_of_ble_eq_true rfl) (fun X hl q rt hnm => ?_)
  obtain ⟨c1, c2, hd, c4, c5⟩ := id hC
  obtain ⟨hu, ⟨N2, N10⟩, hr, hob⟩ := id hd
  obtain ⟨r1, r21, rk⟩ := hr s s0 s1
  have op := c5 s p s0 (by omega) p0 p1
  have ob := hob s p s0 (by omega) p0 p1
  have bp := hB p p0 p1
  obtain ⟨u0, hu0⟩ : ∃ u0, h (x + 23) p + ow s p = u0 := ⟨_, rfl⟩
  have lp : u0 < 1000000 → ∀ (d j : Nat), j + d = rs s → ∀ (h2 : sH) (o5 : Option Value), (∀ a : Nat, a ≠ x + 23 → h2 a = h a) → h2 (x + 23) = stB U (rv s) (rc s) p u0 (h (x + 23)) j → G X 0 0 34 [some (.ref x), some (.int (iI s)), some (.int (iI p)), some (.int (iI u0)), some (.int (iI j)), o5] [] sz S r h2 := by
    intro ul d
    induction d with
    | zero =>
      intro j hj h2 o5 fr e23
      have ej : j = rs s := by omega
      subst ej
      have hC2 : plC h2 x N U rs rv rc ow := plC_fr hC (by rw [fr x (by omega)]) (by rw [fr x (by omega)]) (fun a a0 a1 => fr a (by omega)) (fun a a0 a1 => fr a (by omega))
      have d1 := (hC2.2.2.2.1 s s0 s1).1
      refine r_iload_4 (pc := 34) q dX5_stepBefore_34 ?_
      refine r_aload_0 (pc := 36) q dX5_stepBefore_36 ?_
      refine r_getr (pc := 37) q fX5_29 (kz := 4) rfl (by decide) rfl hx.o hx.r_readings dX5_stepBefore_37 ?_
      refine r_iload_1 (pc := 40) q dX5_stepBefore_40 ?_
      refine r_aald28 (pc := 41) q hx.s_readings (by omega) (by omega) (hx.e_readings (by omega) (by omega)) dX5_stepBefore_41 ?_
      refine r_geti (pc := 42) q fX5_77 (kz := 2) rfl (by decide) rfl ((hx.n_readings (by omega) (by omega))).o dX5_stepBefore_42 ?_
      rw [d1]
      refine r_icmp_ge (pc := 45) q 101 dX5_stepBefore_45 (by decide) ⟨by omega, by omega⟩ ⟨by omega, by omega⟩ (fun c45 => ?_) (fun c45 => ?_)
      · refine r_return (pc := 101) q rt dX5_stepBefore_101 ?_
        exact ⟨fr, Or.inr ⟨by rw [hu0]; exact ul, by rw [hu0]; exact e23⟩⟩
      exact absurd (by omega) c45
    | succ d ih =>
      intro j hj h2 o5 fr e23
      have hC2 : plC h2 x N U rs rv rc ow := plC_fr hC (by rw [fr x (by omega)]) (by rw [fr x (by omega)]) (fun a a0 a1 => fr a (by omega)) (fun a a0 a1 => fr a (by omega))
      obtain ⟨d1, d2⟩ := hC2.2.2.2.1 s s0 s1
      have v := (d2 j (by omega) (by omega)).2
      have kb := rk j (by omega) (by omega)
      have ub : 2 ≤ U * rv s j ∧ U * rv s j ≤ 1350 := by
        rcases hu with u | u <;> rw [u] <;> omega
      have sin := stB_in (U := U) (rv := rv s) (rc := rc s) (p := p) (u0 := u0) (by omega) hB j (fun k k0 k1 => (rk k k0 (by omega)).2.2.1)
      have st : stB U (rv s) (rc s) p u0 (h (x + 23)) (j + 1) = if p + U * rv s j < 601 then up (stB U (rv s) (rc s) p u0 (h (x + 23)) j) (p + U * rv s j) (min (stB U (rv s) (rc s) p u0 (h (x + 23)) j (p + U * rv s j)) (u0 + rc s j)) else stB U (rv s) (rc s) p u0 (h (x + 23)) j := rfl
      refine r_iload_4 (pc := 34) q dX5_stepBefore_34 ?_
      refine r_aload_0 (pc := 36) q dX5_stepBefore_36 ?_
      refine r_getr (pc := 37) q fX5_29 (kz := 4) rfl (by decide) rfl hx.o hx.r_readings dX5_stepBefore_37 ?_
      refine r_iload_1 (pc := 40) q dX5_stepBefore_40 ?_
      refine r_aald28 (pc := 41) q hx.s_readings (by omega) (by omega) (hx.e_readings (by omega) (by omega)) dX5_stepBefore_41 ?_
      refine r_geti (pc := 42) q fX5_77 (kz := 2) rfl (by decide) rfl ((hx.n_readings (by omega) (by omega))).o dX5_stepBefore_42 ?_
      rw [d1]
      refine r_icmp_ge (pc := 45) q 101 dX5_stepBefore_45 (by decide) ⟨by omega, by omega⟩ ⟨by omega, by omega⟩ (fun c45 => ?_) (fun c45 => ?_)
      · exact absurd c45 (by omega)
      refine r_aload_0 (pc := 48) q dX5_stepBefore_48 ?_
      refine r_iload_1 (pc := 49) q dX5_stepBefore_49 ?_
      refine r_iload_2 (pc := 50) q dX5_stepBefore_50 ?_
      refine r_iload_4 (pc := 51) q dX5_stepBefore_51 ?_
      refine r_cI3 (pc := 53) q (c_X5_placeBehind hx hC2 s0 s1 p0 p1 (by omega) (by omega)) mX5_80 hx.o (by decide) (Nat.le_of_ble_eq_true rfl) rfl dX5_stepBefore_53 (fun z5 h5 hz5 => ?_)
      obtain ⟨hz5, rfl⟩ := hz5
      refine r_istore_5 (pc := 56) q dX5_stepBefore_56 rfl ?_
      refine r_iload_5 (pc := 58) q dX5_stepBefore_58 ?_
      refine r_iconst (pc := 60) q dX5_stepBefore_60 ?_
      refine r_icmp_eq (pc := 61) q 95 dX5_stepBefore_61 (by decide) ⟨by omega, by omega⟩ ⟨by omega, by omega⟩ (fun c61 => ?_) (fun c61 => ?_)
      · refine r_iinc_4 (pc := 95) q dX5_stepBefore_95 rfl ?_
        refine r_goto (pc := 98) (tgt := 34) q dX5_stepBefore_98 (by decide) ?_
        refine ih (j + 1) (by omega) h2 _ fr ?_
        rw [st, if_neg (by omega)]; exact e23
      have e5 : p + U * rv s j < 601 ∧ z5 = p + U * rv s j := by omega
      have sz5 := sin z5 (by omega) (by omega)
      refine r_aload_0 (pc := 64) q dX5_stepBefore_64 ?_
      refine r_getr (pc := 65) q fX5_19 (kz := 2) rfl (by decide) rfl hx.o hx.r_before dX5_stepBefore_65 ?_
      refine r_iload_5 (pc := 68) q dX5_stepBefore_68 ?_
      refine r_aload_0 (pc := 70) q dX5_stepBefore_70 ?_
      refine r_getr (pc := 71) q fX5_19 (kz := 2) rfl (by decide) rfl hx.o hx.r_before dX5_stepBefore_71 ?_
      refine r_iload_5 (pc := 74) q dX5_stepBefore_74 ?_
      refine r_iald (pc := 76) q hx.s_before (by omega) (by omega) dX5_stepBefore_76 ?_
      rw [e23]
      refine r_iload_3 (pc := 77) q dX5_stepBefore_77 ?_
      refine r_aload_0 (pc := 78) q dX5_stepBefore_78 ?_
      refine r_getr (pc := 79) q fX5_29 (kz := 4) rfl (by decide) rfl hx.o hx.r_readings dX5_stepBefore_79 ?_
      refine r_iload_1 (pc := 82) q dX5_stepBefore_82 ?_
      refine r_aald28 (pc := 83) q hx.s_readings (by omega) (by omega) (hx.e_readings (by omega) (by omega)) dX5_stepBefore_83 ?_
      refine r_getr (pc := 84) q fX5_84 (kz := 1) rfl (by decide) rfl ((hx.n_readings (by omega) (by omega))).o (hx.n_readings (by omega) (by omega)).r_costs dX5_stepBefore_84 ?_
      refine r_iload_4 (pc := 87) q dX5_stepBefore_87 ?_
      refine r_iald (pc := 89) q (hx.n_readings (by omega) (by omega)).s_costs (by omega) (by omega) dX5_stepBefore_89 ?_
      rw [v]
      refine r_iadd (pc := 90) q dX5_stepBefore_90 ?_
      refine r_min (pc := 91) q mX5_55 ⟨by omega, by omega⟩ ⟨by omega, by omega⟩ ⟨Nat.le_of_ble_eq_true rfl, Nat.le_of_ble_eq_true rfl, Nat.le_of_ble_eq_true rfl, Nat.le_of_ble_eq_true rfl⟩ rfl dX5_stepBefore_91 ?_
      refine r_iast (pc := 94) q hx.s_before (by omega) (by omega) dX5_stepBefore_94 (fun h6 eh6 => ?_)
      refine r_iinc_4 (pc := 95) q dX5_stepBefore_95 rfl ?_
      refine r_goto (pc := 98) (tgt := 34) q dX5_stepBefore_98 (by decide) ?_
      refine ih (j + 1) (by omega) h6 _ (fun a a0 => by rw [eh6, up_n _ _ a0]; exact fr a a0) ?_
      rw [st, if_pos e5.1, eh6, up_s, e23, ← e5.2]
  refine r_aload_0 (pc := 0) q dX5_stepBefore_0 ?_
  refine r_getr (pc := 1) q fX5_19 (kz := 2) rfl (by decide) rfl hx.o hx.r_before dX5_stepBefore_1 ?_
  refine r_iload_2 (pc := 4) q dX5_stepBefore_4 ?_
  refine r_iald (pc := 5) q hx.s_before (by omega) (by omega) dX5_stepBefore_5 ?_
  refine r_aload_0 (pc := 6) q dX5_stepBefore_6 ?_
  refine r_getr (pc := 7) q fX5_11 (kz := 0) rfl (by decide) rfl hx.o hx.r_own dX5_stepBefore_7 ?_
  refine r_iload_1 (pc := 10) q dX5_stepBefore_10 ?_
  refine r_aald29 (pc := 11) q hx.s_own (by omega) (by omega) (hx.e_own (by omega) (by omega)) dX5_stepBefore_11 ?_
  refine r_iload_2 (pc := 12) q dX5_stepBefore_12 ?_
  refine r_iald (pc := 13) q (hx.n_own (by omega) (by omega)) (by omega) (by omega) dX5_stepBefore_13 ?_
  rw [op]
  refine r_iadd (pc := 14) q dX5_stepBefore_14 ?_
  rw [hu0]
  refine r_istore_3 (pc := 15) q dX5_stepBefore_15 rfl ?_
  refine r_aload_0 (pc := 16) q dX5_stepBefore_16 ?_
  refine r_getr (pc := 17) q fX5_19 (kz := 2) rfl (by decide) rfl hx.o hx.r_before dX5_stepBefore_17 ?_
  refine r_iload_2 (pc := 20) q dX5_stepBefore_20 ?_
  refine r_ldc (pc := 21) q kX5_73 dX5_stepBefore_21 ?_
  refine r_iast (pc := 23) q hx.s_before (by omega) (by omega) dX5_stepBefore_23 (fun h1 eh1 => ?_)
  refine r_iload_3 (pc := 24) q dX5_stepBefore_24 ?_
  refine r_ldc (pc := 25) q kX5_73 dX5_stepBefore_25 ?_
  refine r_icmp_lt (pc := 27) q 31 dX5_stepBefore_27 (by decide) ⟨by omega, by omega⟩ ⟨by omega, by omega⟩ (fun c27 => ?_) (fun c27 => ?_)
  · refine r_iconst (pc := 31) q dX5_stepBefore_31 ?_
    refine r_istore_4 (pc := 32) q dX5_stepBefore_32 rfl ?_
    exact lp (by omega) (rs s) 0 (by omega) h1 _ (fun a a0 => by rw [eh1, up_n _ _ a0]) (by rw [eh1, up_s]; rfl)
  refine r_return (pc := 30) q rt dX5_stepBefore_30 ?_
  exact ⟨fun a a0 => by rw [eh1, up_n _ _ a0], Or.inl ⟨by omega, by rw [eh1, up_s]⟩⟩
theorem c_X5_fillBefore {l : Launch} {D : va_G} {aC : Nat → ClassId} {B t sz : Nat} {S : sS} {r : sR} {h : sH} {x : Nat} {N U st : Int} {rs : Int → Nat} {rv rc ow : Int → Int → Int} (hx : LX5 S r x) (hC : plC h x N U rs rv rc ow) (t0 : 0 ≤ st) (t1 : st < N) : CtV l yX5_fillBefore cX5_fillBefore 4 none 2 49 [.ref x, .int (iI st)] D aC B t sz S r h (fun h1 => (∀ a : Nat, a ≠ x + 23 → h1 a = h a) ∧ ∀ p : Int, 0 ≤ p → p < 601 → h1 (x + 23) p = wF U rs rv rc ow st.toNat p) := by
  unfold CtV
  refine Ct.of (lv := [some (.ref x), some (.int (iI st)), none, none]) (by decide +kernel) rfl (Nat.le_of_ble_eq_true rfl) (fun X hl q rt hnm => ?_)
  obtain ⟨c1, c2, hd, c4, c5⟩ := id hC
  obtain ⟨hu, ⟨N2, N10⟩, hr, hob⟩ := id hd
  have wok := wF_ok hd
  have SL : ∀ (d s : Nat), (s : Int) + d = st → ∀ (h2 : sH) (o3 : Option Value), (∀ a : Nat, a ≠ x + 23 → h2 a = h a) → (∀ p : Int, 0 ≤ p → p < 601 → h2 (x + 23) p = wF U rs rv rc ow s p) → G X 0 0 24 [some (.ref x), some (.int (iI st)), some (.int (iI s)), o3] [] sz S r h2 := by
    intro d
    induction d with
    | zero =>
      intro s hs h2 o3 fr hw
      refine r_iload_2 (pc := 24) q dX5_fillBefore_24 ?_
      refine r_iload_1 (pc := 25) q dX5_fillBefore_25 ?_
      refine r_icmp_ge (pc := 26) q 65 dX5_fillBefore_26 (by decide) ⟨by omega, by omega⟩ ⟨by omega, by omega⟩ (fun c26 => ?_) (fun c26 => ?_)
      · refine r_return (pc := 65) q rt dX5_fillBefore_65 ?_
        exact ⟨fr, fun p p0 p1 => by rw [show st.toNat = s by omega]; exact hw p p0 p1⟩
      exact absurd (by omega) c26
    | succ d ih =>
      intro s hs h2 o3 fr hw
      have e7 : h2 x 7 = N := by rw [fr x (by omega)]; exact c1
      obtain ⟨wb, wn⟩ := wok s (by omega)
      have wn' := wn (by omega)
      obtain ⟨r1, r21, rk⟩ := hr s (by omega) (by omega)
      have ubs : ∀ k : Int, 0 ≤ k → k < rs s → 1 ≤ U * rv s k := fun k k0 k1 => by
        have := rk k k0 k1
        rcases hu with u | u <;> rw [u] <;> omega
      have ebd : ∀ (pr : Int → Int → Prop) (q c : Int), cdG U (rs s) (rv s) (fun p => wF U rs rv rc ow s p < 1000000) (fun p k _ => wF U rs rv rc ow s p + ow s p + rc s k) pr q c → 0 ≤ c := by
        rintro pr q c ⟨p, k, -, p0, k0, fi, -, e⟩
        have b := wb p p0.1 p0.2
        have o := hob s p (by omega) (by omega) p0.1 p0.2
        have kk := rk k k0.1 k0.2
        have e' : c = wF U rs rv rc ow s p + ow s p + rc s k := e
        omega
      have PL : ∀ (j : Nat), j ≤ 601 → ∀ h3 : sH, (∀ a : Nat, a ≠ x + 23 → h3 a = h a) → (∀ q : Int, 0 ≤ q → q < j → h3 (x + 23) q = wF U rs rv rc ow s q) → (∀ q : Int, j ≤ q → q < 601 → isMn (cdG U (rs s) (rv s) (fun p => wF U rs rv rc ow s p < 1000000) (fun p k _ => wF U rs rv rc ow s p + ow s p + rc s k) (fun a _ => (j : Int) ≤ a) q) (h3 (x + 23) q)) → G X 0 0 43 [some (.ref x), some (.int (iI st)), some (.int (iI s)), some (.int (iI ((j : Int) - 1)))] [] sz S r h3 := by
        intro j
        induction j with
        | zero =>
          intro hj h3 fr3 hq1 hq2
          refine r_iload_3 (pc := 43) q dX5_fillBefore_43 ?_
          refine r_if_lt (pc := 44) q 59 dX5_fillBefore_44 (by decide) ⟨by omega, by omega⟩ (fun c44 => ?_) (fun c44 => ?_)
          · refine r_iinc_2 (pc := 59) q dX5_fillBefore_59 rfl ?_
            refine r_goto (pc := 62) (tgt := 24) q dX5_fillBefore_62 (by decide) ?_
            refine ih (s + 1) (by omega) h3 _ fr3 (fun p p0 p1 => ?_)
            refine isMn_u (isMn_skp (hq2 p (by omega) p1) (fun a b r1 r2 r3 r4 => ⟨fun _ => trivial, fun _ => ?_⟩)) (wn' p p0 p1)
            show ((0 : Nat) : Int) ≤ a
            omega
          exact absurd (by omega) c44
        | succ p ihp =>
          intro hj h3 fr3 hq1 hq2
          rw [show ((p + 1 : Nat) : Int) - 1 = p by omega]
          have hC3 : plC h3 x N U rs rv rc ow := plC_fr hC (by rw [fr3 x (by omega)]) (by rw [fr3 x (by omega)]) (fun a a0 a1 => fr3 a (by omega)) (fun a a0 a1 => fr3 a (by omega))
          have hB3 : ∀ q : Int, 0 ≤ q → q < 601 → 0 ≤ h3 (x + 23) q ∧ h3 (x + 23) q ≤ 1000000 := fun q q0 q1 => by
            by_cases e : q < ((p + 1 : Nat) : Int)
            · rw [hq1 q q0 e]; have := wb q q0 q1; omega
            · exact isMn_bd (hq2 q (by omega) q1) (fun c hc => ebd _ q c hc)
          have bp := hq1 p (by omega) (by omega)
          have wp := wb p (by omega) (by omega)
          have op := hob s p (by omega) (by omega) (by omega) (by omega)
          refine r_iload_3 (pc := 43) q dX5_fillBefore_43 ?_
          refine r_if_lt (pc := 44) q 59 dX5_fillBefore_44 (by decide) ⟨by omega, by omega⟩ (fun c44 => ?_) (fun c44 => ?_)
          · exact absurd c44 (by omega)
          refine r_aload_0 (pc := 47) q dX5_fillBefore_47 ?_
          refine r_iload_2 (pc := 48) q dX5_fillBefore_48 ?_
          refine r_iload_3 (pc := 49) q dX5_fillBefore_49 ?_
          refine r_cV2 (pc := 50) q (c_X5_stepBefore hx hC3 (by omega) (by omega) (by omega) (by omega) hB3) mX5_97 hx.o (by decide) (Nat.le_of_ble_eq_true rfl) rfl dX5_fillBefore_50 (fun h5 hz5 => ?_)
          refine r_iinc_3 (pc := 53) q dX5_fillBefore_53 rfl ?_
          refine r_goto (pc := 56) (tgt := 43) q dX5_fillBefore_56 (by decide) ?_
          obtain ⟨g1, g2⟩ := hz5
          rw [bp] at g2
          have fr5 : ∀ a : Nat, a ≠ x + 23 → h5 a = h a := fun a a0 => by rw [g1 a a0]; exact fr3 a a0
          rcases g2 with ⟨u1, g3⟩ | ⟨u1, g3⟩
          · have nf : ¬ wF U rs rv rc ow s p < 1000000 := fun z => by have := wp.2.2 z; omega
            refine ihp (by omega) h5 fr5 (fun q q0 q1 => by rw [g3, up_n _ _ (by omega)]; exact hq1 q q0 (by omega)) (fun q q0 q1 => ?_)
            rw [g3]
            by_cases e : q = p
            · rw [e, up_s]
              refine Or.inl ⟨rfl, ?_⟩
              rintro c ⟨a, b, y0, y1, y2, y3, y4, -⟩
              have := ubs b y2.1 y2.2
              omega
            · rw [up_n _ _ e]
              refine isMn_skp (hq2 q (by omega) q1) (fun a b y1 y2 y3 y4 => ⟨fun z => ?_, fun z => ?_⟩)
              · omega
              · by_cases ea : a = p
                · rw [ea] at y3; exact absurd y3 nf
                · omega
          · have fi : wF U rs rv rc ow s p < 1000000 := by omega
            have w3 := wp.2.2 fi
            refine ihp (by omega) h5 fr5 (fun q q0 q1 => by rw [g3, stB_lt q1 _ (fun k k0 k1 => by have := ubs k k0 k1; omega)]; exact hq1 q q0 (by omega)) (fun q q0 q1 => ?_)
            rw [g3]
            have mn := stB_mn (U := U) (rsn := rs s) (rv := rv s) (rc := rc s) (p := p) (B := h3 (x + 23)) (W := wF U rs rv rc ow s) (o := ow s) (fun k k0 k1 => ⟨ubs k k0 k1, (rk k k0 k1).2.2.1, (rk k k0 k1).2.2.2⟩) (by omega) (by omega) fi (by omega) (fun a b b0 b1 => ubs b b0 b1) (fun q q0 q1 => by
              have := hq2 q (by omega) q1
              rw [show ((p + 1 : Nat) : Int) = (p : Int) + 1 by omega] at this
              exact this) (rs s) (by omega) q q0 q1
            refine isMn_skp mn (fun a b y1 y2 y3 y4 => ⟨fun z => ?_, fun z => ?_⟩)
            · rcases z with z | z <;> omega
            · by_cases ea : a = p
              · exact Or.inr ⟨ea, y2.2⟩
              · exact Or.inl (by omega)
      refine r_iload_2 (pc := 24) q dX5_fillBefore_24 ?_
      refine r_iload_1 (pc := 25) q dX5_fillBefore_25 ?_
      refine r_icmp_ge (pc := 26) q 65 dX5_fillBefore_26 (by decide) ⟨by omega, by omega⟩ ⟨by omega, by omega⟩ (fun c26 => ?_) (fun c26 => ?_)
      · exact absurd c26 (by omega)
      refine r_iload_2 (pc := 29) q dX5_fillBefore_29 ?_
      refine r_aload_0 (pc := 30) q dX5_fillBefore_30 ?_
      refine r_geti (pc := 31) q fX5_61 (kz := 7) rfl (by decide) rfl hx.o dX5_fillBefore_31 ?_
      rw [e7]
      refine r_iconst (pc := 34) q dX5_fillBefore_34 ?_
      refine r_isub (pc := 35) q dX5_fillBefore_35 ?_
      refine r_icmp_ge (pc := 36) q 65 dX5_fillBefore_36 (by decide) ⟨by omega, by omega⟩ ⟨by omega, by omega⟩ (fun c36 => ?_) (fun c36 => ?_)
      · exact absurd c36 (by omega)
      refine r_sipush (pc := 39) q dX5_fillBefore_39 (by decide) ?_
      refine r_istore_3 (pc := 42) q dX5_fillBefore_42 rfl ?_
      exact PL 601 (by omega) h2 fr (fun q q0 q1 => hw q q0 (by omega)) (fun q q0 q1 => by omega)
  have IL : ∀ (d j : Nat), j + d = 601 → ∀ h2 : sH, (∀ a : Nat, a ≠ x + 23 → h2 a = h a) → (∀ p : Int, 0 ≤ p → p < j → h2 (x + 23) p = 0) → G X 0 0 2 [some (.ref x), some (.int (iI st)), some (.int (iI j)), none] [] sz S r h2 := by
    intro d
    induction d with
    | zero =>
      intro j hj h2 fr hw
      have ej : j = 601 := by omega
      subst ej
      refine r_iload_2 (pc := 2) q dX5_fillBefore_2 ?_
      refine r_sipush (pc := 3) q dX5_fillBefore_3 (by decide) ?_
      refine r_icmp_ge (pc := 6) q 22 dX5_fillBefore_6 (by decide) ⟨by omega, by omega⟩ ⟨by omega, by omega⟩ (fun c6 => ?_) (fun c6 => ?_)
      · refine r_iconst (pc := 22) q dX5_fillBefore_22 ?_
        refine r_istore_2 (pc := 23) q dX5_fillBefore_23 rfl ?_
        exact SL st.toNat 0 (by omega) h2 _ fr (fun p p0 p1 => by rw [hw p p0 p1]; rfl)
      exact absurd (by omega) c6
    | succ d ih =>
      intro j hj h2 fr hw
      refine r_iload_2 (pc := 2) q dX5_fillBefore_2 ?_
      refine r_sipush (pc := 3) q dX5_fillBefore_3 (by decide) ?_
      refine r_icmp_ge (pc := 6) q 22 dX5_fillBefore_6 (by decide) ⟨by omega, by omega⟩ ⟨by omega, by omega⟩ (fun c6 => ?_) (fun c6 => ?_)
      · exact absurd c6 (by omega)
      refine r_aload_0 (pc := 9) q dX5_fillBefore_9 ?_
      refine r_getr (pc := 10) q fX5_19 (kz := 2) rfl (by decide) rfl hx.o hx.r_before dX5_fillBefore_10 ?_
      refine r_iload_2 (pc := 13) q dX5_fillBefore_13 ?_
      refine r_iconst (pc := 14) q dX5_fillBefore_14 ?_
      refine r_iast (pc := 15) q hx.s_before (by omega) (by omega) dX5_fillBefore_15 (fun h3 eh3 => ?_)
      refine r_iinc_2 (pc := 16) q dX5_fillBefore_16 rfl ?_
      refine r_goto (pc := 19) (tgt := 2) q dX5_fillBefore_19 (by decide) ?_
      refine ih (j + 1) (by omega) h3 (fun a a0 => by rw [eh3, up_n _ _ a0]; exact fr a a0) (fun p p0 p1 => ?_)
      rw [eh3, up_s]
      by_cases ep : p = j
      · rw [ep, up_s]
      · rw [up_n _ _ ep]; exact hw p p0 (by omega)
  refine r_iconst (pc := 0) q dX5_fillBefore_0 ?_
  refine r_istore_2 (pc := 1) q dX5_fillBefore_1 rfl ?_
  exact IL 601 0 (by omega) h (fun _ _ => rfl) (fun p p0 p1 => by omega)
