/-! ===== how many placings ===== -/
def sumK (f : Int → Int) : Nat → Int
  | 0 => 0
  | k + 1 => sumK f k + f k
theorem sumK_s {f : Int → Int} {k : Nat} : sumK f (k + 1) = sumK f k + f k := rfl
theorem sumK_0 {f : Int → Int} : ∀ n : Nat, (∀ k : Int, 0 ≤ k → k < n → 0 ≤ f k) → 0 ≤ sumK f n
  | 0, _ => by simp only [sumK]; omega
  | n + 1, h => by
    have := sumK_0 (f := f) n (fun k k0 k1 => h k k0 (by omega))
    have := h n (by omega) (by omega)
    simp only [sumK]; omega
theorem sumK_congr {f g : Int → Int} : ∀ n : Nat, (∀ k : Int, 0 ≤ k → k < n → f k = g k) → sumK f n = sumK g n
  | 0, _ => rfl
  | n + 1, h => by
    have a := sumK_congr (f := f) (g := g) n (fun k k0 k1 => h k k0 (by omega))
    have b := h n (by omega) (by omega)
    simp only [sumK]; omega
theorem sumK_ne {f : Int → Int} : ∀ n : Nat, sumK f n ≠ 0 → ∃ k : Int, 0 ≤ k ∧ k < n ∧ f k ≠ 0
  | 0, h => by simp only [sumK] at h; omega
  | n + 1, h => by
    by_cases e : f n = 0
    · simp only [sumK] at h
      obtain ⟨k, k0, k1, k2⟩ := sumK_ne (f := f) n (by omega)
      exact ⟨k, k0, by omega, k2⟩
    · exact ⟨n, by omega, by omega, e⟩
/-- how many ways on cost c, with q stations behind -/
def XC (N U : Int) (rs : Int → Nat) (rv rc ow : Int → Int → Int) : Nat → Int → Int → Int
  | 0 => fun p c => if c = ow (N - 1) p then 1 else 0
  | q + 1 => fun p c => sumK (fun k => if p + U * rv (N - 2 - q) k < 601 then XC N U rs rv rc ow q (p + U * rv (N - 2 - q) k) (c - ow (N - 2 - q) p - rc (N - 2 - q) k) else 0) (rs (N - 2 - q))
theorem XC_0 {N U : Int} {rs : Int → Nat} {rv rc ow : Int → Int → Int} : ∀ (q : Nat) (p c : Int), 0 ≤ XC N U rs rv rc ow q p c
  | 0, p, c => by simp only [XC]; split <;> omega
  | q + 1, p, c => by
    simp only [XC]
    refine sumK_0 _ (fun k _ _ => ?_)
    split
    · exact XC_0 q _ _
    · omega
theorem XC_ge {N U : Int} {rs : Int → Nat} {rv rc ow : Int → Int → Int} (hd : rdy N U rs rv rc ow) : ∀ (q : Nat), (q : Int) < N → ∀ p c : Int, 0 ≤ p → p < 601 → c < RSt N U rs rv rc ow q p → XC N U rs rv rc ow q p c = 0
  | 0, hq, p, c, p0, p1, h => by
    simp only [RSt] at h
    simp only [XC]
    rw [if_neg (by omega)]
  | q + 1, hq, p, c, p0, p1, h => by
    have ih := XC_ge hd q (by omega)
    have ob := hd.2.2.2 (N - 2 - q) p (by omega) (by omega) p0 p1
    by_cases e : XC N U rs rv rc ow (q + 1) p c = 0
    · exact e
    · exfalso
      simp only [XC] at e
      obtain ⟨k, k0, k1, k2⟩ := sumK_ne _ e
      by_cases e2 : p + U * rv (N - 2 - q) k < 601
      · rw [if_pos e2] at k2
        have kb := (hd.2.2.1 (N - 2 - q) (by omega) (by omega)).2.2 k k0 k1
        have ub : 2 ≤ U * rv (N - 2 - q) k := by
          rcases hd.1 with u | u <;> rw [u] <;> omega
        have g : RSt N U rs rv rc ow q (p + U * rv (N - 2 - q) k) ≤ c - ow (N - 2 - q) p - rc (N - 2 - q) k := by
          by_cases z : c - ow (N - 2 - q) p - rc (N - 2 - q) k < RSt N U rs rv rc ow q (p + U * rv (N - 2 - q) k)
          · exact absurd (ih _ _ (by omega) e2 z) k2
          · omega
        have l := mnR_le (U := U) (rv := rv (N - 2 - q)) (rc := rc (N - 2 - q)) (nx := RSt N U rs rv rc ow q) (p := p) (rs (N - 2 - q)) k k0 k1 e2
        simp only [RSt, capA] at h
        split at h <;> omega
      · rw [if_neg e2] at k2; exact k2 rfl
theorem RSt_bd {N U : Int} {rs : Int → Nat} {rv rc ow : Int → Int → Int} (hd : rdy N U rs rv rc ow) : ∀ (q : Nat), (q : Int) < N → ∀ p : Int, 0 ≤ p → p < 601 → 0 ≤ RSt N U rs rv rc ow q p ∧ RSt N U rs rv rc ow q p ≤ 1000000 ∧ (RSt N U rs rv rc ow q p < 1000000 → RSt N U rs rv rc ow q p ≤ 670 * q + 650)
  | 0, hq, p, p0, p1 => by
    have ob := hd.2.2.2 (N - 1) p (by omega) (by omega) p0 p1
    simp only [RSt]
    omega
  | q + 1, hq, p, p0, p1 => by
    have ih := RSt_bd hd q (by omega)
    have ob := hd.2.2.2 (N - 2 - q) p (by omega) (by omega) p0 p1
    have hr := (hd.2.2.1 (N - 2 - q) (by omega) (by omega)).2.2
    have N10 := hd.2.1
    have mb := mnR_in (U := U) (rv := rv (N - 2 - q)) (rc := rc (N - 2 - q)) (nx := RSt N U rs rv rc ow q) (p := p) (B := 0) p0 (by rcases hd.1 with u | u <;> omega) (rs (N - 2 - q)) (fun j j0 j1 => by have := hr j j0 j1; omega) (fun x x0 x1 => (ih x x0 x1).1)
    simp only [RSt, capA]
    split
    · omega
    · rename_i z
      obtain ⟨k, k0, k1, k2, k3⟩ := mnR_att (U := U) (rv := rv (N - 2 - q)) (rc := rc (N - 2 - q)) (nx := RSt N U rs rv rc ow q) (p := p) (rs (N - 2 - q)) (by omega)
      have kb := hr k k0 k1
      have ub : 2 ≤ U * rv (N - 2 - q) k := by
        rcases hd.1 with u | u <;> rw [u] <;> omega
      have b := ih (p + U * rv (N - 2 - q) k) (by omega) k2
      omega
def jnW (w : Int → Int) (b5 b2 e x : Int) : Int := if b5 + e ≤ x ∧ x < b5 + 21 then min 1000001 (w x + w (b2 + (x - b5 - e))) else w x
theorem c_X12_joins {l : Launch} {D : va_G} {aC : Nat → ClassId} {B t sz : Nat} {S : sS} {r : sR} {h : sH} {m : Nat} {l1 s p k b5 q2 e : Int} (hM : LX12 S r m) (l0 : 0 ≤ l1) (l3 : l1 ≤ 3) (s0 : 0 ≤ s) (s8 : s ≤ 8) (p0 : 0 ≤ p) (p1 : p < 601) (k0 : 0 ≤ k) (k1 : k < 21) (hq : p + h (m + 4) l1 * h (m + 19) (21 * s + k) = q2) (q0 : 0 ≤ q2) (q9 : q2 ≤ 10000) (hb5 : b5 = ((s % 2) * 601 + p) * 21) (he : q2 < 601 → h (m + 23) (601 * (s + 1) + q2) < 1000000 → h (m + 20) (21 * s + k) + h (m + 23) (601 * (s + 1) + q2) + h (m + 22) (601 * s + p) - h (m + 23) (601 * s + p) = e ∧ 0 ≤ e ∧ e ≤ 2000000) (hr : q2 < 601 → inR (h (m + 23) (601 * (s + 1) + q2))) (hw : ∀ x : Int, 0 ≤ x → x < 21 → (0 ≤ h (m + 27) (b5 + x) ∧ h (m + 27) (b5 + x) ≤ 1000001) ∧ (q2 < 601 → h (m + 23) (601 * (s + 1) + q2) < 1000000 → 0 ≤ h (m + 27) ((((s + 1) % 2) * 601 + q2) * 21 + x) ∧ h (m + 27) ((((s + 1) % 2) * 601 + q2) * 21 + x) ≤ 1000001)) : CtV l yX12_joins cX12_joins 10 none 1 21 [.ref m, .int (iI l1), .int (iI s), .int (iI p), .int (iI k), .int (iI b5)] D aC B t sz S r h (fun h1 => (∀ a : Nat, a ≠ m + 27 → h1 a = h a) ∧ ((¬ (q2 < 601 ∧ h (m + 23) (601 * (s + 1) + q2) < 1000000) ∧ h1 = h) ∨ ((q2 < 601 ∧ h (m + 23) (601 * (s + 1) + q2) < 1000000) ∧ ∀ x : Int, h1 (m + 27) x = jnW (h (m + 27)) b5 ((((s + 1) % 2) * 601 + q2) * 21) e x))) := by
  unfold CtV
  refine Ct.of (lv := [some (.ref m), some (.int (iI l1)), some (.int (iI s)), some (.int (iI p)), some (.int (iI k)), some (.int (iI b5)), none, none, none, none]) (by decide +kernel) rfl (Nat.le_of_ble_eq_true rfl) (fun X hl q rt hnm => ?_)
  have lp : q2 < 601 → h (m + 23) (601 * (s + 1) + q2) < 1000000 → 0 ≤ e → e ≤ 2000000 → ∀ (d j : Nat), 21 ≤ (j : Int) + e + d → (j : Int) ≤ 21 → ∀ h2 : sH, (∀ a : Nat, a ≠ m + 27 → h2 a = h a) → (∀ x : Int, h2 (m + 27) x = if x < b5 + e + j then jnW (h (m + 27)) b5 ((((s + 1) % 2) * 601 + q2) * 21) e x else h (m + 27) x) → G X 0 0 128 [some (.ref m), some (.int (iI l1)), some (.int (iI s)), some (.int (iI p)), some (.int (iI k)), some (.int (iI b5)), some (.int (iI q2)), some (.int (iI e)), some (.int (iI ((((s + 1) % 2) * 601 + q2) * 21))), some (.int (iI j))] [] sz S r h2 := by
    intro c1 c2 e0 e1 d
    induction d with
    | zero =>
      intro j hj hj2 h2 hA hx
      refine r_iload_9 (pc := 128) q dX12_joins_128 ?_
      refine r_iload_7 (pc := 130) q dX12_joins_130 ?_
      refine r_iadd (pc := 132) q dX12_joins_132 ?_
      refine r_bipush (pc := 133) q dX12_joins_133 (by decide) ?_
      refine r_icmp_ge (pc := 135) q 186 dX12_joins_135 (by decide) ⟨by omega, by omega⟩ ⟨by omega, by omega⟩ (fun c135 => ?_) (fun c135 => ?_)
      · refine r_return (pc := 186) q rt dX12_joins_186 ?_
        refine ⟨hA, Or.inr ⟨⟨c1, c2⟩, fun x => ?_⟩⟩
        rw [hx x]
        split
        · rfl
        · unfold jnW; rw [if_neg (by omega)]
      exact absurd (by omega) c135
    | succ d ih =>
      intro j hj hj2 h2 hA hx
      by_cases jl : (j : Int) + e < 21
      · have x1 := hx (b5 + j + e)
        rw [if_neg (by omega)] at x1
        have x2 := hx ((((s + 1) % 2) * 601 + q2) * 21 + j)
        have x2' : h2 (m + 27) ((((s + 1) % 2) * 601 + q2) * 21 + j) = h (m + 27) ((((s + 1) % 2) * 601 + q2) * 21 + j) := by
          rw [x2]
          split
          · unfold jnW; rw [if_neg (by omega)]
          · rfl
        have w1 := (hw (j + e) (by omega) (by omega)).1
        rw [show b5 + ((j : Int) + e) = b5 + j + e by omega] at w1
        have w2 := (hw j (by omega) (by omega)).2 c1 c2
        refine r_iload_9 (pc := 128) q dX12_joins_128 ?_
        refine r_iload_7 (pc := 130) q dX12_joins_130 ?_
        refine r_iadd (pc := 132) q dX12_joins_132 ?_
        refine r_bipush (pc := 133) q dX12_joins_133 (by decide) ?_
        refine r_icmp_ge (pc := 135) q 186 dX12_joins_135 (by decide) ⟨by omega, by omega⟩ ⟨by omega, by omega⟩ (fun c135 => ?_) (fun c135 => ?_)
        · exact absurd c135 (by omega)
        refine r_aload_0 (pc := 138) q dX12_joins_138 ?_
        refine r_getr (pc := 139) q fX12_100 (kz := 38) rfl (by decide) rfl hM.o hM.r_ways dX12_joins_139 ?_
        refine r_iload_5 (pc := 142) q dX12_joins_142 ?_
        refine r_iload_9 (pc := 144) q dX12_joins_144 ?_
        refine r_iadd (pc := 146) q dX12_joins_146 ?_
        refine r_iload_7 (pc := 147) q dX12_joins_147 ?_
        refine r_iadd (pc := 149) q dX12_joins_149 ?_
        refine r_ldc (pc := 150) q kX12_240 dX12_joins_150 ?_
        refine r_aload_0 (pc := 152) q dX12_joins_152 ?_
        refine r_getr (pc := 153) q fX12_100 (kz := 38) rfl (by decide) rfl hM.o hM.r_ways dX12_joins_153 ?_
        refine r_iload_5 (pc := 156) q dX12_joins_156 ?_
        refine r_iload_9 (pc := 158) q dX12_joins_158 ?_
        refine r_iadd (pc := 160) q dX12_joins_160 ?_
        refine r_iload_7 (pc := 161) q dX12_joins_161 ?_
        refine r_iadd (pc := 163) q dX12_joins_163 ?_
        refine r_iald (pc := 164) q hM.s_ways (by omega) (by omega) dX12_joins_164 ?_
        rw [x1]
        refine r_aload_0 (pc := 165) q dX12_joins_165 ?_
        refine r_getr (pc := 166) q fX12_100 (kz := 38) rfl (by decide) rfl hM.o hM.r_ways dX12_joins_166 ?_
        refine r_iload_8 (pc := 169) q dX12_joins_169 ?_
        refine r_iload_9 (pc := 171) q dX12_joins_171 ?_
        refine r_iadd (pc := 173) q dX12_joins_173 ?_
        refine r_iald (pc := 174) q hM.s_ways (by omega) (by omega) dX12_joins_174 ?_
        rw [x2']
        refine r_iadd (pc := 175) q dX12_joins_175 ?_
        refine r_sI2 (pc := 176) q (c_X12_less (by first | assumption | exact ⟨by omega, by omega⟩ | omega) (by first | assumption | exact ⟨by omega, by omega⟩ | omega)) mX12_130 (by decide) (Nat.le_of_ble_eq_true rfl) rfl dX12_joins_176 (fun z1 h1 hz1 => ?_)
        obtain ⟨rfl, rfl⟩ := hz1
        refine r_iast (pc := 179) q hM.s_ways (by omega) (by omega) dX12_joins_179 (fun h3 eh3 => ?_)
        refine r_iinc_9 (pc := 180) q dX12_joins_180 rfl ?_
        refine r_goto (pc := 183) (tgt := 128) q dX12_joins_183 (by decide) ?_
        refine ih (j + 1) (by omega) (by omega) h3 (fun a a1 => by rw [eh3, up_n _ _ a1]; exact hA a a1) (fun x => ?_)
        have e27 : h3 (m + 27) = up (h2 (m + 27)) (b5 + j + e) (min 1000001 (h (m + 27) (b5 + j + e) + h (m + 27) ((((s + 1) % 2) * 601 + q2) * 21 + j))) := by rw [eh3, up_s]
        rw [e27]
        by_cases ex : x = b5 + j + e
        · rw [ex, up_s, if_pos (by omega)]
          unfold jnW
          rw [if_pos (by omega), show b5 + (j : Int) + e - b5 - e = j by omega]
        · rw [up_n _ _ ex, hx x]
          by_cases ex2 : x < b5 + e + j
          · rw [if_pos ex2, if_pos (by omega)]
          · rw [if_neg ex2, if_neg (by omega)]
      · exact ih j (by omega) hj2 h2 hA hx
  refine r_iload_3 (pc := 0) q dX12_joins_0 ?_
  refine r_aload_0 (pc := 1) q dX12_joins_1 ?_
  refine r_getr (pc := 2) q fX12_20 (kz := 6) rfl (by decide) rfl hM.o hM.r_unit dX12_joins_2 ?_
  refine r_iload_1 (pc := 5) q dX12_joins_5 ?_
  refine r_iald (pc := 6) q hM.s_unit (by omega) (by omega) dX12_joins_6 ?_
  refine r_aload_0 (pc := 7) q dX12_joins_7 ?_
  refine r_getr (pc := 8) q fX12_76 (kz := 30) rfl (by decide) rfl hM.o hM.r_value dX12_joins_8 ?_
  refine r_bipush (pc := 11) q dX12_joins_11 (by decide) ?_
  refine r_iload_2 (pc := 13) q dX12_joins_13 ?_
  refine r_imul (pc := 14) q dX12_joins_14 ?_
  refine r_iload_4 (pc := 15) q dX12_joins_15 ?_
  refine r_iadd (pc := 17) q dX12_joins_17 ?_
  refine r_iald (pc := 18) q hM.s_value (by omega) (by omega) dX12_joins_18 ?_
  refine r_imul (pc := 19) q dX12_joins_19 ?_
  refine r_iadd (pc := 20) q dX12_joins_20 ?_
  rw [hq]
  refine r_istore_6 (pc := 21) q dX12_joins_21 rfl ?_
  refine r_iload_6 (pc := 23) q dX12_joins_23 ?_
  refine r_sipush (pc := 25) q dX12_joins_25 (by decide) ?_
  refine r_icmp_ge (pc := 28) q 51 dX12_joins_28 (by decide) ⟨by omega, by omega⟩ ⟨by omega, by omega⟩ (fun c28 => ?_) (fun c28 => ?_)
  · refine r_return (pc := 51) q rt dX12_joins_51 ?_
    exact ⟨fun _ _ => rfl, Or.inl ⟨by omega, rfl⟩⟩
  refine r_aload_0 (pc := 31) q dX12_joins_31 ?_
  refine r_getr (pc := 32) q fX12_88 (kz := 34) rfl (by decide) rfl hM.o hM.r_rest dX12_joins_32 ?_
  refine r_sipush (pc := 35) q dX12_joins_35 (by decide) ?_
  refine r_iload_2 (pc := 38) q dX12_joins_38 ?_
  refine r_iconst (pc := 39) q dX12_joins_39 ?_
  refine r_iadd (pc := 40) q dX12_joins_40 ?_
  refine r_imul (pc := 41) q dX12_joins_41 ?_
  refine r_iload_6 (pc := 42) q dX12_joins_42 ?_
  refine r_iadd (pc := 44) q dX12_joins_44 ?_
  refine r_iald (pc := 45) q hM.s_rest (by omega) (by omega) dX12_joins_45 ?_
  have hr' := hr (by omega)
  refine r_ldc (pc := 46) q kX12_204 dX12_joins_46 ?_
  refine r_icmp_lt (pc := 48) q 52 dX12_joins_48 (by decide) hr' ⟨by omega, by omega⟩ (fun c48 => ?_) (fun c48 => ?_)
  · refine r_aload_0 (pc := 52) q dX12_joins_52 ?_
    refine r_getr (pc := 53) q fX12_79 (kz := 31) rfl (by decide) rfl hM.o hM.r_cost dX12_joins_53 ?_
    refine r_bipush (pc := 56) q dX12_joins_56 (by decide) ?_
    refine r_iload_2 (pc := 58) q dX12_joins_58 ?_
    refine r_imul (pc := 59) q dX12_joins_59 ?_
    refine r_iload_4 (pc := 60) q dX12_joins_60 ?_
    refine r_iadd (pc := 62) q dX12_joins_62 ?_
    refine r_iald (pc := 63) q hM.s_cost (by omega) (by omega) dX12_joins_63 ?_
    refine r_aload_0 (pc := 64) q dX12_joins_64 ?_
    refine r_getr (pc := 65) q fX12_88 (kz := 34) rfl (by decide) rfl hM.o hM.r_rest dX12_joins_65 ?_
    refine r_sipush (pc := 68) q dX12_joins_68 (by decide) ?_
    refine r_iload_2 (pc := 71) q dX12_joins_71 ?_
    refine r_iconst (pc := 72) q dX12_joins_72 ?_
    refine r_iadd (pc := 73) q dX12_joins_73 ?_
    refine r_imul (pc := 74) q dX12_joins_74 ?_
    refine r_iload_6 (pc := 75) q dX12_joins_75 ?_
    refine r_iadd (pc := 77) q dX12_joins_77 ?_
    refine r_iald (pc := 78) q hM.s_rest (by omega) (by omega) dX12_joins_78 ?_
    refine r_iadd (pc := 79) q dX12_joins_79 ?_
    refine r_aload_0 (pc := 80) q dX12_joins_80 ?_
    refine r_getr (pc := 81) q fX12_85 (kz := 33) rfl (by decide) rfl hM.o hM.r_own dX12_joins_81 ?_
    refine r_sipush (pc := 84) q dX12_joins_84 (by decide) ?_
    refine r_iload_2 (pc := 87) q dX12_joins_87 ?_
    refine r_imul (pc := 88) q dX12_joins_88 ?_
    refine r_iload_3 (pc := 89) q dX12_joins_89 ?_
    refine r_iadd (pc := 90) q dX12_joins_90 ?_
    refine r_iald (pc := 91) q hM.s_own (by omega) (by omega) dX12_joins_91 ?_
    refine r_iadd (pc := 92) q dX12_joins_92 ?_
    refine r_aload_0 (pc := 93) q dX12_joins_93 ?_
    refine r_getr (pc := 94) q fX12_88 (kz := 34) rfl (by decide) rfl hM.o hM.r_rest dX12_joins_94 ?_
    refine r_sipush (pc := 97) q dX12_joins_97 (by decide) ?_
    refine r_iload_2 (pc := 100) q dX12_joins_100 ?_
    refine r_imul (pc := 101) q dX12_joins_101 ?_
    refine r_iload_3 (pc := 102) q dX12_joins_102 ?_
    refine r_iadd (pc := 103) q dX12_joins_103 ?_
    refine r_iald (pc := 104) q hM.s_rest (by omega) (by omega) dX12_joins_104 ?_
    refine r_isub (pc := 105) q dX12_joins_105 ?_
    have he' := he (by omega) (by omega)
    rw [he'.1]
    refine r_istore_7 (pc := 106) q dX12_joins_106 rfl ?_
    refine r_iload_2 (pc := 108) q dX12_joins_108 ?_
    refine r_iconst (pc := 109) q dX12_joins_109 ?_
    refine r_iadd (pc := 110) q dX12_joins_110 ?_
    refine r_iconst (pc := 111) q dX12_joins_111 ?_
    refine r_irem (pc := 112) q dX12_joins_112 ⟨by omega, by omega⟩ (by omega) (by omega) (by omega) ?_
    refine r_sipush (pc := 113) q dX12_joins_113 (by decide) ?_
    refine r_imul (pc := 116) q dX12_joins_116 ?_
    refine r_iload_6 (pc := 117) q dX12_joins_117 ?_
    refine r_iadd (pc := 119) q dX12_joins_119 ?_
    refine r_bipush (pc := 120) q dX12_joins_120 (by decide) ?_
    refine r_imul (pc := 122) q dX12_joins_122 ?_
    refine r_istore_8 (pc := 123) q dX12_joins_123 rfl ?_
    refine r_iconst (pc := 125) q dX12_joins_125 ?_
    refine r_istore_9 (pc := 126) q dX12_joins_126 rfl ?_
    refine lp (by omega) (by omega) (by omega) (by omega) 21 0 (by omega) (by omega) h (fun _ _ => rfl) (fun x => ?_)
    split
    · unfold jnW; rw [if_neg (by omega)]
    · rfl
  refine r_return (pc := 51) q rt dX12_joins_51 ?_
  exact ⟨fun _ _ => rfl, Or.inl ⟨by omega, rfl⟩⟩
