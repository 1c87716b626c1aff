def satI (x : Int) : Int := min 1000001 x
def trm (N U : Int) (rs : Int → Nat) (rv rc ow : Int → Int → Int) (s p c k : Int) : Int := if p + U * rv s k < 601 then XC N U rs rv rc ow (N - 2 - s).toNat (p + U * rv s k) (c - ow s p - rc s k) else 0
theorem trm_0 {N U : Int} {rs : Int → Nat} {rv rc ow : Int → Int → Int} {s p c k : Int} : 0 ≤ trm N U rs rv rc ow s p c k := by
  unfold trm; split
  · exact XC_0 _ _ _
  · omega
theorem XC_step {N U : Int} {rs : Int → Nat} {rv rc ow : Int → Int → Int} {s : Int} (s0 : 0 ≤ s) (s1 : s + 1 < N) (p c : Int) : XC N U rs rv rc ow (N - 1 - s).toNat p c = sumK (trm N U rs rv rc ow s p c) (rs s) := by
  rw [show (N - 1 - s).toNat = (N - 2 - s).toNat + 1 by omega]
  simp only [XC]
  rw [show N - 2 - ((N - 2 - s).toNat : Int) = s by omega]
  rfl
theorem XC_last {N U : Int} {rs : Int → Nat} {rv rc ow : Int → Int → Int} {p a : Int} : XC N U rs rv rc ow 0 p (RSt N U rs rv rc ow 0 p + a) = if a = 0 then 1 else 0 := by
  show (if ow (N - 1) p + a = ow (N - 1) p then (1 : Int) else 0) = _
  by_cases ea : a = 0
  · rw [if_pos ea, if_pos (by omega)]
  · rw [if_neg ea, if_neg (by omega)]
def tot (R : Int → Int) (X : Int → Int → Int) (lim : Int) : Int := sumK (fun p => sumK (fun a => if R p + a ≤ lim then X p (R p + a) else 0) 21) 601
theorem c_X12_rivals {l : Launch} {D : va_G} {aC : Nat → ClassId} {B t sz : Nat} {S : sS} {r : sR} {h : sH} {m : Nat} {l1 day dd : Int} {g : Int → Int → Int → Int} {n : Int → Int → Int} {rg sg : Int → Int → Int} {rn sn : Int → Int} (hM : LX12 S r m) (hI : mdI h m g n rg rn sg sn) (hl1 : inR l1) (hd : inR day) (hdd : inR dd) : CtI l yX12_rivals cX12_rivals 10 (some .int) 5 133 [.ref m, .int (iI l1), .int (iI day), .int (iI dd)] D aC B t sz S r h (fun z h1 => frM h h1 m ∧ ((¬ (okA h m l1 day ∧ 0 ≤ dd ∧ dd ≤ 20) ∧ z = -1) ∨ ((okA h m l1 day ∧ 0 ≤ dd ∧ dd ≤ 20) ∧ lsM h m g n rg rn l1 day = 1000000 ∧ z = -1) ∨ ((okA h m l1 day ∧ 0 ≤ dd ∧ dd ≤ 20) ∧ lsM h m g n rg rn l1 day < 1000000 ∧ z = min 1000000 (tot (RM h m g n rg rn l1 day (h (m + 5) l1 - 1).toNat) (XC (h (m + 5) l1) (h (m + 4) l1) (rsM h m l1) (rvM h m l1) (rcM h m l1) (owF h m g n rg rn l1 day) (h (m + 5) l1 - 1).toNat) (lsM h m g n rg rn l1 day + dd))))) := by
  unfold CtI
  refine Ct.of (lv := [some (.ref m), some (.int (iI l1)), some (.int (iI day)), some (.int (iI dd)), none, none, none, none, none, none]) (by decide +kernel) rfl (Nat.le_of_ble_eq_true rfl) (fun X hl q rt hnm => ?_)
  have con : (okA h m l1 day ∧ 0 ≤ dd ∧ dd ≤ 20) → lsM h m g n rg rn l1 day < 1000000 → ∀ (h4 : sH), frM h h4 m → (∀ s : Int, 0 ≤ s → s + 1 < h (m + 5) l1 → h4 (m + 21) s = rsM h m l1 s ∧ ∀ k : Int, 0 ≤ k → k < rsM h m l1 s → h4 (m + 19) (21 * s + k) = rvM h m l1 s k ∧ h4 (m + 20) (21 * s + k) = rcM h m l1 s k) → (∀ s p : Int, 0 ≤ s → s < h (m + 5) l1 → 0 ≤ p → p < 601 → h4 (m + 22) (601 * s + p) = owF h m g n rg rn l1 day s p ∧ h4 (m + 23) (601 * s + p) = RM h m g n rg rn l1 day (h (m + 5) l1 - 1 - s).toNat p) → G X 0 0 43 [some (.ref m), some (.int (iI l1)), some (.int (iI day)), some (.int (iI dd)), some (.int (iI (lsM h m g n rg rn l1 day))), none, none, none, none, none] [] sz S r h4 := by
    intro ok lf h4 fr hv ho
    obtain ⟨⟨a0, a1, d0, d1⟩, dd0, dd20⟩ := id ok
    have rd := mdI_rdy hI (day := day) a0 a1
    have e5 := fr.1 (m + 5) (by omega) (by omega) (Or.inl (by omega))
    have e4 := fr.1 (m + 4) (by omega) (by omega) (Or.inl (by omega))
    have L4 := hI.2.2.1.2.1
    have hfr := fr
    obtain ⟨N, hN⟩ : ∃ N, h (m + 5) l1 = N := ⟨_, rfl⟩
    obtain ⟨U, hU⟩ : ∃ U, h (m + 4) l1 = U := ⟨_, rfl⟩
    have hR0 : RM h m g n rg rn l1 day = RSt N U (rsM h m l1) (rvM h m l1) (rcM h m l1) (owF h m g n rg rn l1 day) := by unfold RM; rw [hN, hU]
    rw [hN, hU] at rd
    rw [hN] at hv ho
    obtain ⟨hu23, ⟨N2, N10⟩, hr, hob⟩ := id rd
    have rmb := RSt_bd rd
    rw [← hR0] at rmb
    have xge := XC_ge rd
    rw [← hR0] at xge
    have lsb : lsM h m g n rg rn l1 day = mnP (RM h m g n rg rn l1 day (N - 1).toNat) 601 := by unfold lsM; rw [hN]
    have ls1 : 0 ≤ lsM h m g n rg rn l1 day ∧ lsM h m g n rg rn l1 day ≤ 10000 := by
      have lf2 := lf
      rw [lsb] at lf2 ⊢
      obtain ⟨pm, pm0, pm1, pm2⟩ := mnP_att 601 lf2
      have := rmb (N - 1).toNat (by omega) pm pm0 (by omega)
      rw [← pm2] at lf2 ⊢
      omega
    obtain ⟨ls, hls⟩ : ∃ ls, lsM h m g n rg rn l1 day = ls := ⟨_, rfl⟩
    rw [hls] at ls1
    obtain ⟨R, hR⟩ : ∃ R : Int → Int → Int, R = fun s p => RM h m g n rg rn l1 day (N - 1 - s).toNat p := ⟨_, rfl⟩
    obtain ⟨V, hV⟩ : ∃ V : Int → Int → Int → Int, V = fun s p c => XC N U (rsM h m l1) (rvM h m l1) (rcM h m l1) (owF h m g n rg rn l1 day) (N - 1 - s).toNat p c := ⟨_, rfl⟩
    have V0 : ∀ s p c, 0 ≤ V s p c := fun s p c => by rw [hV]; exact XC_0 _ _ _
    have Rb : ∀ s p : Int, 0 ≤ s → s < N → 0 ≤ p → p < 601 → 0 ≤ R s p ∧ R s p ≤ 1000000 ∧ (R s p < 1000000 → R s p ≤ 10000) := fun s p s0 s1 p0 p1 => by
      have := rmb (N - 1 - s).toNat (by omega) p p0 p1
      rw [hR]
      simp only
      omega
    have Vg : ∀ s p c : Int, 0 ≤ s → s < N → 0 ≤ p → p < 601 → c < R s p → V s p c = 0 := fun s p c s0 s1 p0 p1 z => by
      rw [hV]; rw [hR] at z
      exact xge (N - 1 - s).toNat (by omega) p c p0 p1 z
    have hRr : ∀ s p : Int, 0 ≤ s → s < N → 0 ≤ p → p < 601 → h4 (m + 23) (601 * s + p) = R s p := fun s p s0 s1 p0 p1 => by rw [hR]; exact (ho s p s0 s1 p0 p1).2
    have hOr : ∀ s p : Int, 0 ≤ s → s < N → 0 ≤ p → p < 601 → h4 (m + 22) (601 * s + p) = owF h m g n rg rn l1 day s p := fun s p s0 s1 p0 p1 => (ho s p s0 s1 p0 p1).1
    have sumL : ∀ (h2 : sH), (∀ a : Nat, a ≠ m + 27 → h2 a = h4 a) → (∀ p : Int, 0 ≤ p → p < 601 → R 0 p < 1000000 → ∀ a : Int, 0 ≤ a → a < 21 → h2 (m + 27) (((0 % 2) * 601 + p) * 21 + a) = satI (V 0 p (R 0 p + a))) → ∀ (d p : Nat), p + d = 601 → ∀ (o8 o9 : Option Value), G X 0 0 214 [some (.ref m), some (.int (iI l1)), some (.int (iI day)), some (.int (iI dd)), some (.int (iI ls)), some (.int (iI N)), some (.int (iI (satI (sumK (fun p => sumK (fun a => if R 0 p + a ≤ ls + dd then V 0 p (R 0 p + a) else 0) 21) p)))), some (.int (iI p)), o8, o9] [] sz S r h2 := by
      intro h2 hA hrow d
      have s0 : ∀ p : Nat, 0 ≤ sumK (fun p => sumK (fun a => if R 0 p + a ≤ ls + dd then V 0 p (R 0 p + a) else 0) 21) p := fun p => sumK_0 p (fun x _ _ => sumK_0 21 (fun a _ _ => by
        split
        · exact V0 _ _ _
        · omega))
      induction d with
      | zero =>
        intro p hp o8 o9
        have ep : p = 601 := by omega
        subst ep
        have sb := s0 601
        have fr2 : frM h h2 m := ⟨fun x q0 q1 q2 => by rw [hA x (by omega)]; exact fr.1 x q0 q1 q2, by rw [hA m (by omega)]; exact fr.2⟩
        have et : tot (RM h m g n rg rn l1 day (N - 1).toNat) (XC N U (rsM h m l1) (rvM h m l1) (rcM h m l1) (owF h m g n rg rn l1 day) (N - 1).toNat) (ls + dd) = sumK (fun p => sumK (fun a => if R 0 p + a ≤ ls + dd then V 0 p (R 0 p + a) else 0) 21) 601 := by
          rw [hR, hV]
          unfold tot
          simp only [show N - 1 - 0 = N - 1 by omega]
        have sx : ∃ x, satI (sumK (fun p => sumK (fun a => if R 0 p + a ≤ ls + dd then V 0 p (R 0 p + a) else 0) 21) 601) = x ∧ 0 ≤ x ∧ x ≤ 1000001 := ⟨_, rfl, by unfold satI; omega, by unfold satI; omega⟩
        obtain ⟨x, ex, x0, x1⟩ := sx
        rw [ex]
        refine r_iload_7 (pc := 214) q dX12_rivals_214 ?_
        refine r_sipush (pc := 216) q dX12_rivals_216 (by decide) ?_
        refine r_icmp_ge (pc := 219) q 284 dX12_rivals_219 (by decide) ⟨by omega, by omega⟩ ⟨by omega, by omega⟩ (fun c219 => ?_) (fun c219 => ?_)
        · refine r_iload_6 (pc := 284) q dX12_rivals_284 ?_
          refine r_ldc (pc := 286) q kX12_240 dX12_rivals_286 ?_
          refine r_icmp_ne (pc := 288) q 296 dX12_rivals_288 (by decide) ⟨by omega, by omega⟩ ⟨by omega, by omega⟩ (fun c288 => ?_) (fun c288 => ?_)
          · refine r_iload_6 (pc := 296) q dX12_rivals_296 ?_
            refine r_ireturn (pc := 298) q rt dX12_rivals_298 ?_
            refine ⟨fr2, Or.inr (Or.inr ⟨ok, lf, ?_⟩)⟩
            rw [hN, hU, hls, et]
            unfold satI at ex
            omega
          refine r_ldc (pc := 291) q kX12_204 dX12_rivals_291 ?_
          refine r_goto (pc := 293) (tgt := 298) q dX12_rivals_293 (by decide) ?_
          refine r_ireturn (pc := 298) q rt dX12_rivals_298 ?_
          refine ⟨fr2, Or.inr (Or.inr ⟨ok, lf, ?_⟩)⟩
          rw [hN, hU, hls, et]
          unfold satI at ex
          omega
        exact absurd (by omega) c219
      | succ d ih =>
        intro p hp o8 o9
        have rb := Rb 0 p (by omega) (by omega) (by omega) (by omega)
        have r23 : h2 (m + 23) p = R 0 p := by
          rw [hA _ (by omega)]
          have := hRr 0 p (by omega) (by omega) (by omega) (by omega)
          rw [show (601 * 0 + (p : Int)) = p by omega] at this
          exact this
        have sp := s0 p
        have inner : ∀ (e a : Nat), a + e = 21 → ∀ o9 : Option Value, G X 0 0 225 [some (.ref m), some (.int (iI l1)), some (.int (iI day)), some (.int (iI dd)), some (.int (iI ls)), some (.int (iI N)), some (.int (iI (satI (sumK (fun p => sumK (fun a => if R 0 p + a ≤ ls + dd then V 0 p (R 0 p + a) else 0) 21) p + sumK (fun a => if R 0 p + a ≤ ls + dd then V 0 p (R 0 p + a) else 0) a)))), some (.int (iI p)), some (.int (iI a)), o9] [] sz S r h2 := by
          intro e
          induction e with
          | zero =>
            intro a ha o9
            have ea : a = 21 := by omega
            subst ea
            refine r_iload_8 (pc := 225) q dX12_rivals_225 ?_
            refine r_bipush (pc := 227) q dX12_rivals_227 (by decide) ?_
            refine r_icmp_ge (pc := 229) q 278 dX12_rivals_229 (by decide) ⟨by omega, by omega⟩ ⟨by omega, by omega⟩ (fun c229 => ?_) (fun c229 => ?_)
            · refine r_iinc_7 (pc := 278) q dX12_rivals_278 rfl ?_
              refine r_goto (pc := 281) (tgt := 214) q dX12_rivals_281 (by decide) ?_
              exact ih (p + 1) (by omega) _ _
            exact absurd (by omega) c229
          | succ e ih2 =>
            intro a ha o9
            have t0 : 0 ≤ sumK (fun a => if R 0 p + a ≤ ls + dd then V 0 p (R 0 p + a) else 0) a := sumK_0 a (fun a _ _ => by
              split
              · exact V0 _ _ _
              · omega)
            obtain ⟨x, hx, x0, x1⟩ : ∃ x, satI (sumK (fun p => sumK (fun a => if R 0 p + a ≤ ls + dd then V 0 p (R 0 p + a) else 0) 21) p + sumK (fun a => if R 0 p + a ≤ ls + dd then V 0 p (R 0 p + a) else 0) a) = x ∧ 0 ≤ x ∧ x ≤ 1000001 := ⟨_, rfl, by unfold satI; omega, by unfold satI; omega⟩
            have ov : R 0 p + (a : Int) ≤ ls + dd → h2 (m + 27) (p * 21 + a) = satI (V 0 p (R 0 p + a)) ∧ 0 ≤ h2 (m + 27) (p * 21 + a) ∧ h2 (m + 27) (p * 21 + a) ≤ 1000001 := by
              intro z
              have k := hrow p (by omega) (by omega) (by omega) a (by omega) (by omega)
              rw [show (((0 % 2) * 601 + (p : Int)) * 21 + a) = p * 21 + a by omega] at k
              have v0 := V0 0 p (R 0 p + a)
              rw [k]
              unfold satI
              omega
            have brk : ∀ b : Nat, (ls + dd < R 0 p + a) → a ≤ b → sumK (fun a => if R 0 p + a ≤ ls + dd then V 0 p (R 0 p + a) else 0) b = sumK (fun a => if R 0 p + a ≤ ls + dd then V 0 p (R 0 p + a) else 0) a := by
              intro b z hb
              induction b with
              | zero => rw [show a = 0 by omega]
              | succ b ihb =>
                by_cases eb : a = b + 1
                · rw [eb]
                · rw [sumK_s (k := b), if_neg (by omega)]
                  have := ihb (by omega)
                  omega
            rw [hx]
            refine r_iload_8 (pc := 225) q dX12_rivals_225 ?_
            refine r_bipush (pc := 227) q dX12_rivals_227 (by decide) ?_
            refine r_icmp_ge (pc := 229) q 278 dX12_rivals_229 (by decide) ⟨by omega, by omega⟩ ⟨by omega, by omega⟩ (fun c229 => ?_) (fun c229 => ?_)
            · exact absurd c229 (by omega)
            refine r_aload_0 (pc := 232) q dX12_rivals_232 ?_
            refine r_getr (pc := 233) q fX12_88 (kz := 34) rfl (by decide) rfl hM.o hM.r_rest dX12_rivals_233 ?_
            refine r_iload_7 (pc := 236) q dX12_rivals_236 ?_
            refine r_iald (pc := 238) q hM.s_rest (by omega) (by omega) dX12_rivals_238 ?_
            rw [r23]
            refine r_iload_8 (pc := 239) q dX12_rivals_239 ?_
            refine r_iadd (pc := 241) q dX12_rivals_241 ?_
            refine r_iload_4 (pc := 242) q dX12_rivals_242 ?_
            refine r_iload_3 (pc := 244) q dX12_rivals_244 ?_
            refine r_iadd (pc := 245) q dX12_rivals_245 ?_
            refine r_icmp_gt (pc := 246) q 278 dX12_rivals_246 (by decide) ⟨by omega, by omega⟩ ⟨by omega, by omega⟩ (fun c246 => ?_) (fun c246 => ?_)
            · refine r_iinc_7 (pc := 278) q dX12_rivals_278 rfl ?_
              refine r_goto (pc := 281) (tgt := 214) q dX12_rivals_281 (by decide) ?_
              rw [← hx, ← brk 21 (by omega) (by omega)]
              exact ih (p + 1) (by omega) _ _
            refine r_ldc (pc := 249) q kX12_240 dX12_rivals_249 ?_
            refine r_iload_6 (pc := 251) q dX12_rivals_251 ?_
            refine r_aload_0 (pc := 253) q dX12_rivals_253 ?_
            refine r_getr (pc := 254) q fX12_100 (kz := 38) rfl (by decide) rfl hM.o hM.r_ways dX12_rivals_254 ?_
            refine r_iload_7 (pc := 257) q dX12_rivals_257 ?_
            refine r_bipush (pc := 259) q dX12_rivals_259 (by decide) ?_
            refine r_imul (pc := 261) q dX12_rivals_261 ?_
            refine r_iload_8 (pc := 262) q dX12_rivals_262 ?_
            refine r_iadd (pc := 264) q dX12_rivals_264 ?_
            refine r_iald (pc := 265) q hM.s_ways (by omega) (by omega) dX12_rivals_265 ?_
            have ov' := ov (by omega)
            refine r_iadd (pc := 266) q dX12_rivals_266 ?_
            refine r_sI2 (pc := 267) q (c_X12_less (by first | assumption | exact ⟨by omega, by omega⟩ | omega) (by first | assumption | exact ⟨by omega, by omega⟩ | omega)) mX12_130 (by decide) (Nat.le_of_ble_eq_true rfl) rfl dX12_rivals_267 (fun z8 h8 hz8 => ?_)
            obtain ⟨rfl, rfl⟩ := hz8
            refine r_istore_6 (pc := 270) q dX12_rivals_270 rfl ?_
            refine r_iinc_8 (pc := 272) q dX12_rivals_272 rfl ?_
            refine r_goto (pc := 275) (tgt := 225) q dX12_rivals_275 (by decide) ?_
            have q3 := ih2 (a + 1) (by omega) o9
            rw [show satI (sumK (fun p => sumK (fun a => if R 0 p + a ≤ ls + dd then V 0 p (R 0 p + a) else 0) 21) p + sumK (fun a => if R 0 p + a ≤ ls + dd then V 0 p (R 0 p + a) else 0) (a + 1)) = min 1000001 (x + h2 (m + 27) (p * 21 + a)) by
              rw [sumK_s (k := a), if_pos (by omega)]
              have v0 := V0 0 p (R 0 p + a)
              rw [← hx, ov'.1]
              unfold satI
              omega] at q3
            exact q3
        refine r_iload_7 (pc := 214) q dX12_rivals_214 ?_
        refine r_sipush (pc := 216) q dX12_rivals_216 (by decide) ?_
        refine r_icmp_ge (pc := 219) q 284 dX12_rivals_219 (by decide) ⟨by omega, by omega⟩ ⟨by omega, by omega⟩ (fun c219 => ?_) (fun c219 => ?_)
        · exact absurd c219 (by omega)
        refine r_iconst (pc := 222) q dX12_rivals_222 ?_
        refine r_istore_8 (pc := 223) q dX12_rivals_223 rfl ?_
        have q3 := inner 21 0 (by omega) o9
        rw [show sumK (fun p => sumK (fun a => if R 0 p + a ≤ ls + dd then V 0 p (R 0 p + a) else 0) 21) p + sumK (fun a => if R 0 p + a ≤ ls + dd then V 0 p (R 0 p + a) else 0) 0 = sumK (fun p => sumK (fun a => if R 0 p + a ≤ ls + dd then V 0 p (R 0 p + a) else 0) 21) p by simp only [sumK]; omega] at q3
        exact q3
    have Rst : ∀ s p k : Int, 0 ≤ s → s + 1 < N → 0 ≤ p → p < 601 → 0 ≤ k → k < rsM h m l1 s → p + U * rvM h m l1 s k < 601 → R s p < 1000000 → R s p ≤ rcM h m l1 s k + R (s + 1) (p + U * rvM h m l1 s k) + owF h m g n rg rn l1 day s p := fun s p k s0 s1 p0 p1 k0 k1 q0 q1 => by
      rw [hR] at q1 ⊢
      simp only at q1 ⊢
      rw [hR0, show (N - 1 - s).toNat = (N - 2 - s).toNat + 1 by omega] at q1 ⊢
      rw [show (N - 1 - (s + 1)).toNat = (N - 2 - s).toNat by omega]
      have l := mnR_le (U := U) (rv := rvM h m l1 s) (rc := rcM h m l1 s) (nx := RSt N U (rsM h m l1) (rvM h m l1) (rcM h m l1) (owF h m g n rg rn l1 day) (N - 2 - s).toNat) (p := p) (rsM h m l1 s) k k0 k1 q0
      simp only [RSt, capA] at q1 ⊢
      rw [show N - 2 - ((N - 2 - s).toNat : Int) = s by omega] at q1 ⊢
      split at q1
      · omega
      · rename_i z; rw [if_neg z]; omega
    have tV : ∀ s p c k : Int, 0 ≤ s → s + 1 < N → trm N U (rsM h m l1) (rvM h m l1) (rcM h m l1) (owF h m g n rg rn l1 day) s p c k = if p + U * rvM h m l1 s k < 601 then V (s + 1) (p + U * rvM h m l1 s k) (c - owF h m g n rg rn l1 day s p - rcM h m l1 s k) else 0 := fun s p c k s0 s1 => by
      unfold trm
      rw [hV, show (N - 2 - s).toNat = (N - 1 - (s + 1)).toNat by omega]
    have vS1 : ∀ s p c : Int, 0 ≤ s → s + 1 < N → V s p c = sumK (trm N U (rsM h m l1) (rvM h m l1) (rcM h m l1) (owF h m g n rg rn l1 day) s p c) (rsM h m l1 s) := fun s p c s0 s1 => by
      rw [hV]; exact XC_step s0 s1 p c
    have vL : ∀ p a : Int, 0 ≤ p → p < 601 → V (N - 1) p (R (N - 1) p + a) = if a = 0 then 1 else 0 := fun p a p0 p1 => by
      rw [hV, hR]
      simp only
      rw [hR0, show (N - 1 - (N - 1)).toNat = 0 by omega]
      exact XC_last
    have SL : ∀ (d : Nat), (d : Int) ≤ N → ∀ (h2 : sH) (o7 o8 o9 : Option Value), noL o7 = true → (∀ a : Nat, a ≠ m + 27 → h2 a = h4 a) → ((d : Int) < N → ∀ p : Int, 0 ≤ p → p < 601 → R d p < 1000000 → ∀ a : Int, 0 ≤ a → a < 21 → h2 (m + 27) ((((d : Int) % 2) * 601 + p) * 21 + a) = satI (V d p (R d p + a))) → G X 0 0 57 [some (.ref m), some (.int (iI l1)), some (.int (iI day)), some (.int (iI dd)), some (.int (iI ls)), some (.int (iI N)), some (.int (iI ((d : Int) - 1))), o7, o8, o9] [] sz S r h2 := by
      intro d
      induction d with
      | zero =>
        intro hd2 h2 o7 o8 o9 n7 hA hrow
        refine r_iload_6 (pc := 57) q dX12_rivals_57 ?_
        refine r_if_lt (pc := 59) q 208 dX12_rivals_59 (by decide) ⟨by omega, by omega⟩ (fun c59 => ?_) (fun c59 => ?_)
        · refine r_iconst (pc := 208) q dX12_rivals_208 ?_
          refine r_istore_6 (pc := 209) q dX12_rivals_209 rfl ?_
          refine r_iconst (pc := 211) q dX12_rivals_211 ?_
          refine r_istore_7 (pc := 212) q dX12_rivals_212 rfl ?_
          exact sumL h2 hA (fun p p0 p1 => hrow (by omega) p p0 p1) 601 0 (by omega) _ _
        exact absurd (by omega) c59
      | succ s ih =>
        intro hd2 h2 o7 o8 o9 n7 hA hrow
        rw [show ((s + 1 : Nat) : Int) = (s : Int) + 1 by omega] at hrow hd2 ⊢
        rw [show (s : Int) + 1 - 1 = s by omega]
        have PL : ∀ (e p : Nat), p + e = 601 → ∀ (h3 : sH) (o8 o9 : Option Value), (∀ a : Nat, a ≠ m + 27 → h3 a = h4 a) → ((s : Int) + 1 < N → ∀ x : Int, 0 ≤ x → x < 601 → R (s + 1) x < 1000000 → ∀ a : Int, 0 ≤ a → a < 21 → h3 (m + 27) (((((s : Int) + 1) % 2) * 601 + x) * 21 + a) = satI (V (s + 1) x (R (s + 1) x + a))) → (∀ x : Int, 0 ≤ x → x < p → R s x < 1000000 → ∀ a : Int, 0 ≤ a → a < 21 → h3 (m + 27) ((((s : Int) % 2) * 601 + x) * 21 + a) = satI (V s x (R s x + a))) → G X 0 0 65 [some (.ref m), some (.int (iI l1)), some (.int (iI day)), some (.int (iI dd)), some (.int (iI ls)), some (.int (iI N)), some (.int (iI s)), some (.int (iI p)), o8, o9] [] sz S r h3 := by
          intro e
          induction e with
          | zero =>
            intro p hp h3 o8 o9 hA3 hr1 hr2
            have ep : p = 601 := by omega
            subst ep
            refine r_iload_7 (pc := 65) q dX12_rivals_65 ?_
            refine r_sipush (pc := 67) q dX12_rivals_67 (by decide) ?_
            refine r_icmp_ge (pc := 70) q 202 dX12_rivals_70 (by decide) ⟨by omega, by omega⟩ ⟨by omega, by omega⟩ (fun c70 => ?_) (fun c70 => ?_)
            · refine r_iinc_6 (pc := 202) q dX12_rivals_202 rfl ?_
              refine r_goto (pc := 205) (tgt := 57) q dX12_rivals_205 (by decide) ?_
              have q3 := ih (by omega) h3 (some (.int (iI 601))) o8 o9 rfl hA3 (fun _ x x0 x1 => hr2 x x0 (by omega))
              exact q3
            exact absurd (by omega) c70
          | succ e ih2 =>
            intro p hp h3 o8 o9 hA3 hr1 hr2
            obtain ⟨bs, hbs⟩ : ∃ bs : Int, (((s : Int) % 2) * 601 + p) * 21 = bs := ⟨_, rfl⟩
            have rb := Rb s p (by omega) (by omega) (by omega) (by omega)
            have NP : ∀ (h6 : sH) (o9 : Option Value), (∀ a : Nat, a ≠ m + 27 → h6 a = h4 a) → (∀ x : Int, x < bs ∨ bs + 21 ≤ x → h6 (m + 27) x = h3 (m + 27) x) → (R s p < 1000000 → ∀ a : Int, 0 ≤ a → a < 21 → h6 (m + 27) (bs + a) = satI (V s p (R s p + a))) → G X 0 0 196 [some (.ref m), some (.int (iI l1)), some (.int (iI day)), some (.int (iI dd)), some (.int (iI ls)), some (.int (iI N)), some (.int (iI s)), some (.int (iI p)), some (.int (iI bs)), o9] [] sz S r h6 := by
              intro h6 o9 hA6 hout hin
              refine r_iinc_7 (pc := 196) q dX12_rivals_196 rfl ?_
              refine r_goto (pc := 199) (tgt := 65) q dX12_rivals_199 (by decide) ?_
              refine ih2 (p + 1) (by omega) h6 _ _ hA6 (fun z x x0 x1 x2 a y0 y1 => ?_) (fun x x0 x1 x2 a y0 y1 => ?_)
              · rw [hout _ (by omega)]; exact hr1 z x x0 x1 x2 a y0 y1
              · by_cases ex : x = p
                · subst ex; rw [hbs]; exact hin x2 a y0 y1
                · rw [hout _ (by omega)]; exact hr2 x x0 (by omega) x2 a y0 y1
            have KL : (s : Int) + 1 < N → R s p < 1000000 → ∀ (f k : Nat), k + f = rsM h m l1 s → ∀ h6 : sH, (∀ a : Nat, a ≠ m + 27 → h6 a = h4 a) → (∀ x : Int, x < bs ∨ bs + 21 ≤ x → h6 (m + 27) x = h3 (m + 27) x) → (∀ a : Int, 0 ≤ a → a < 21 → h6 (m + 27) (bs + a) = satI (sumK (trm N U (rsM h m l1) (rvM h m l1) (rcM h m l1) (owF h m g n rg rn l1 day) s p (R s p + a)) k)) → G X 0 0 156 [some (.ref m), some (.int (iI l1)), some (.int (iI day)), some (.int (iI dd)), some (.int (iI ls)), some (.int (iI N)), some (.int (iI s)), some (.int (iI p)), some (.int (iI bs)), some (.int (iI k))] [] sz S r h6 := by
              intro sN rf f
              have rsb := hr s (by omega) sN
              have hvs := hv s (by omega) sN
              induction f with
              | zero =>
                intro k hk h6 hA6 hout hin
                have r21 : h6 (m + 21) s = rsM h m l1 s := by rw [hA6 _ (by omega)]; exact hvs.1
                refine r_iload_6 (pc := 156) q dX12_rivals_156 ?_
                refine r_iload_5 (pc := 158) q dX12_rivals_158 ?_
                refine r_iconst (pc := 160) q dX12_rivals_160 ?_
                refine r_isub (pc := 161) q dX12_rivals_161 ?_
                refine r_icmp_ge (pc := 162) q 196 dX12_rivals_162 (by decide) ⟨by omega, by omega⟩ ⟨by omega, by omega⟩ (fun c162 => ?_) (fun c162 => ?_)
                · exact absurd c162 (by omega)
                refine r_iload_9 (pc := 165) q dX12_rivals_165 ?_
                refine r_aload_0 (pc := 167) q dX12_rivals_167 ?_
                refine r_getr (pc := 168) q fX12_82 (kz := 32) rfl (by decide) rfl hM.o hM.r_values dX12_rivals_168 ?_
                refine r_iload_6 (pc := 171) q dX12_rivals_171 ?_
                refine r_iald (pc := 173) q hM.s_values (by omega) (by omega) dX12_rivals_173 ?_
                rw [r21]
                refine r_icmp_ge (pc := 174) q 196 dX12_rivals_174 (by decide) ⟨by omega, by omega⟩ ⟨by omega, by omega⟩ (fun c174 => ?_) (fun c174 => ?_)
                · refine NP h6 _ hA6 hout (fun _ a y0 y1 => ?_)
                  rw [hin a y0 y1, vS1 s p _ (by omega) sN, show k = rsM h m l1 s by omega]
                exact absurd (show (rsM h m l1 s : Int) ≤ k by omega) c174
              | succ f ih3 =>
                intro k hk h6 hA6 hout hin
                have r21 : h6 (m + 21) s = rsM h m l1 s := by rw [hA6 _ (by omega)]; exact hvs.1
                have hk2 := hvs.2 k (by omega) (by omega)
                have r19 : h6 (m + 19) (21 * s + k) = rvM h m l1 s k := by rw [hA6 _ (by omega)]; exact hk2.1
                have r20 : h6 (m + 20) (21 * s + k) = rcM h m l1 s k := by rw [hA6 _ (by omega)]; exact hk2.2
                have r4 : h6 (m + 4) l1 = U := by rw [hA6 _ (by omega), e4]; exact hU
                have r22 : h6 (m + 22) (601 * s + p) = owF h m g n rg rn l1 day s p := by rw [hA6 _ (by omega)]; exact hOr s p (by omega) (by omega) (by omega) (by omega)
                have r23 : h6 (m + 23) (601 * s + p) = R s p := by rw [hA6 _ (by omega)]; exact hRr s p (by omega) (by omega) (by omega) (by omega)
                have kb := rsb.2.2 k (by omega) (by omega)
                have ob := hob s p (by omega) (by omega) (by omega) (by omega)
                obtain ⟨q2, hq2⟩ : ∃ x, (p : Int) + U * rvM h m l1 s k = x := ⟨_, rfl⟩
                have ub : 2 ≤ U * rvM h m l1 s k ∧ U * rvM h m l1 s k ≤ 1350 := by
                  rcases hu23 with u | u <;> rw [u] <;> omega
                have rq : q2 < 601 → h6 (m + 23) (601 * ((s : Int) + 1) + q2) = R (s + 1) q2 ∧ (0 ≤ R (s + 1) q2 ∧ R (s + 1) q2 ≤ 1000000) ∧ R s p ≤ rcM h m l1 s k + R (s + 1) q2 + owF h m g n rg rn l1 day s p := fun z => by
                  have t1 := Rb (s + 1) q2 (by omega) sN (by omega) z
                  have t2 := Rst s p k (by omega) sN (by omega) (by omega) (by omega) (by omega) (by omega) rf
                  rw [hq2] at t2
                  exact ⟨by rw [hA6 _ (by omega)]; exact hRr (s + 1) q2 (by omega) sN (by omega) z, ⟨t1.1, t1.2.1⟩, t2⟩
                obtain ⟨ee, hee⟩ : ∃ ee, rcM h m l1 s k + R (s + 1) q2 + owF h m g n rg rn l1 day s p - R s p = ee := ⟨_, rfl⟩
                have tk : ∀ a : Int, trm N U (rsM h m l1) (rvM h m l1) (rcM h m l1) (owF h m g n rg rn l1 day) s p (R s p + a) k = if q2 < 601 then V (s + 1) q2 (R (s + 1) q2 + (a - ee)) else 0 := fun a => by
                  rw [tV s p _ k (by omega) sN, hq2, show R s p + a - owF h m g n rg rn l1 day s p - rcM h m l1 s k = R (s + 1) q2 + (a - ee) by omega]
                have s0k : ∀ a : Int, 0 ≤ sumK (trm N U (rsM h m l1) (rvM h m l1) (rcM h m l1) (owF h m g n rg rn l1 day) s p (R s p + a)) k := fun a => sumK_0 k (fun _ _ _ => trm_0)
                refine r_iload_6 (pc := 156) q dX12_rivals_156 ?_
                refine r_iload_5 (pc := 158) q dX12_rivals_158 ?_
                refine r_iconst (pc := 160) q dX12_rivals_160 ?_
                refine r_isub (pc := 161) q dX12_rivals_161 ?_
                refine r_icmp_ge (pc := 162) q 196 dX12_rivals_162 (by decide) ⟨by omega, by omega⟩ ⟨by omega, by omega⟩ (fun c162 => ?_) (fun c162 => ?_)
                · exact absurd c162 (by omega)
                refine r_iload_9 (pc := 165) q dX12_rivals_165 ?_
                refine r_aload_0 (pc := 167) q dX12_rivals_167 ?_
                refine r_getr (pc := 168) q fX12_82 (kz := 32) rfl (by decide) rfl hM.o hM.r_values dX12_rivals_168 ?_
                refine r_iload_6 (pc := 171) q dX12_rivals_171 ?_
                refine r_iald (pc := 173) q hM.s_values (by omega) (by omega) dX12_rivals_173 ?_
                rw [r21]
                refine r_icmp_ge (pc := 174) q 196 dX12_rivals_174 (by decide) ⟨by omega, by omega⟩ ⟨by omega, by omega⟩ (fun c174 => ?_) (fun c174 => ?_)
                · exact absurd c174 (by omega)
                refine r_aload_0 (pc := 177) q dX12_rivals_177 ?_
                refine r_iload_1 (pc := 178) q dX12_rivals_178 ?_
                refine r_iload_6 (pc := 179) q dX12_rivals_179 ?_
                refine r_iload_7 (pc := 181) q dX12_rivals_181 ?_
                refine r_iload_9 (pc := 183) q dX12_rivals_183 ?_
                refine r_iload_8 (pc := 185) q dX12_rivals_185 ?_
                refine r_cV5 (pc := 187) q (c_X12_joins (q2 := q2) (e := ee) hM a0 (by omega) (by omega) (by omega) (by omega) (by omega) (by omega) (by omega) (by rw [r4, r19]; exact hq2) (by omega) (by omega) hbs.symm (fun z1 z2 => by
                  have t := rq z1
                  rw [t.1] at z2 ⊢
                  rw [r20, r22, r23]
                  exact ⟨hee, by omega, by omega⟩) (fun z1 => by rw [(rq z1).1]; have := (rq z1).2.1; exact ⟨by omega, by omega⟩) (fun x x0 x1 => ⟨by
                  rw [hin x x0 x1]
                  have := s0k x
                  unfold satI
                  omega, fun z1 z2 => by
                  rw [(rq z1).1] at z2
                  rw [hout _ (by omega), hr1 sN q2 (by omega) z1 z2 x x0 x1]
                  have := V0 (s + 1) q2 (R (s + 1) q2 + x)
                  unfold satI
                  omega⟩)) mX12_236 hM.o (by decide) (Nat.le_of_ble_eq_true rfl) rfl dX12_rivals_187 (fun h7 hz7 => ?_)
                refine r_iinc_9 (pc := 190) q dX12_rivals_190 rfl ?_
                refine r_goto (pc := 193) (tgt := 156) q dX12_rivals_193 (by decide) ?_
                obtain ⟨fA, hz⟩ := hz7
                refine ih3 (k + 1) (by omega) h7 (fun a z => by rw [fA a z]; exact hA6 a z) ?_ ?_
                · intro x hx
                  rcases hz with ⟨-, e7⟩ | ⟨c7, e7⟩
                  · rw [e7]; exact hout x hx
                  · have t := rq c7.1
                    rw [e7 x]
                    unfold jnW
                    rw [if_neg (by omega)]; exact hout x hx
                · intro a y0 y1
                  rw [sumK_s (k := k), tk a]
                  have v0 := V0 (s + 1) q2 (R (s + 1) q2 + (a - ee))
                  have sk := s0k a
                  rcases hz with ⟨c7, e7⟩ | ⟨c7, e7⟩
                  · rw [e7, hin a y0 y1]
                    by_cases z1 : q2 < 601
                    · rw [if_pos z1]
                      have t := rq z1
                      rw [t.1] at c7
                      rw [Vg (s + 1) q2 _ (by omega) sN (by omega) z1 (by omega), Int.add_zero]
                    · rw [if_neg z1, Int.add_zero]
                  · have t := rq c7.1
                    rw [t.1] at c7
                    rw [e7 (bs + a), if_pos c7.1]
                    unfold jnW
                    by_cases z3 : ee ≤ a
                    · rw [if_pos (by omega), hin a y0 y1, hout _ (by omega), show bs + a - bs - ee = a - ee by omega, hr1 sN q2 (by omega) c7.1 c7.2 (a - ee) (by omega) (by omega)]
                      unfold satI
                      omega
                    · rw [if_neg (by omega), hin a y0 y1, Vg (s + 1) q2 _ (by omega) sN (by omega) c7.1 (by omega), Int.add_zero]
            have ZL : ∀ (f a : Nat), a + f = 21 → ∀ h6 : sH, (∀ a : Nat, a ≠ m + 27 → h6 a = h4 a) → (∀ x : Int, x < bs ∨ bs + 21 ≤ x → h6 (m + 27) x = h3 (m + 27) x) → (∀ x : Int, 0 ≤ x → x < a → h6 (m + 27) (bs + x) = if (s : Int) = N - 1 ∧ x = 0 then 1 else 0) → G X 0 0 92 [some (.ref m), some (.int (iI l1)), some (.int (iI day)), some (.int (iI dd)), some (.int (iI ls)), some (.int (iI N)), some (.int (iI s)), some (.int (iI p)), some (.int (iI bs)), some (.int (iI a))] [] sz S r h6 := by
              intro f
              induction f with
              | zero =>
                intro a ha h6 hA6 hout hin
                have ea : a = 21 := by omega
                subst ea
                have r23 : h6 (m + 23) (601 * s + p) = R s p := by rw [hA6 _ (by omega)]; exact hRr s p (by omega) (by omega) (by omega) (by omega)
                by_cases sN : (s : Int) + 1 < N
                · refine r_iload_9 (pc := 92) q dX12_rivals_92 ?_
                  refine r_bipush (pc := 94) q dX12_rivals_94 (by decide) ?_
                  refine r_icmp_ge (pc := 96) q 134 dX12_rivals_96 (by decide) ⟨by omega, by omega⟩ ⟨by omega, by omega⟩ (fun c96 => ?_) (fun c96 => ?_)
                  · refine r_aload_0 (pc := 134) q dX12_rivals_134 ?_
                    refine r_getr (pc := 135) q fX12_88 (kz := 34) rfl (by decide) rfl hM.o hM.r_rest dX12_rivals_135 ?_
                    refine r_sipush (pc := 138) q dX12_rivals_138 (by decide) ?_
                    refine r_iload_6 (pc := 141) q dX12_rivals_141 ?_
                    refine r_imul (pc := 143) q dX12_rivals_143 ?_
                    refine r_iload_7 (pc := 144) q dX12_rivals_144 ?_
                    refine r_iadd (pc := 146) q dX12_rivals_146 ?_
                    refine r_iald (pc := 147) q hM.s_rest (by omega) (by omega) dX12_rivals_147 ?_
                    rw [r23]
                    refine r_ldc (pc := 148) q kX12_204 dX12_rivals_148 ?_
                    refine r_icmp_ge (pc := 150) q 196 dX12_rivals_150 (by decide) ⟨by omega, by omega⟩ ⟨by omega, by omega⟩ (fun c150 => ?_) (fun c150 => ?_)
                    · exact NP h6 _ hA6 hout (fun z => absurd z (by omega))
                    refine r_iconst (pc := 153) q dX12_rivals_153 ?_
                    refine r_istore_9 (pc := 154) q dX12_rivals_154 rfl ?_
                    refine KL sN (by omega) (rsM h m l1 s) 0 (by omega) h6 hA6 hout (fun x x0 x1 => ?_)
                    rw [hin x x0 (by omega), if_neg (by omega)]
                    simp only [sumK]
                    decide
                  exact absurd (by omega) c96
                · refine r_iload_9 (pc := 92) q dX12_rivals_92 ?_
                  refine r_bipush (pc := 94) q dX12_rivals_94 (by decide) ?_
                  refine r_icmp_ge (pc := 96) q 134 dX12_rivals_96 (by decide) ⟨by omega, by omega⟩ ⟨by omega, by omega⟩ (fun c96 => ?_) (fun c96 => ?_)
                  · refine r_aload_0 (pc := 134) q dX12_rivals_134 ?_
                    refine r_getr (pc := 135) q fX12_88 (kz := 34) rfl (by decide) rfl hM.o hM.r_rest dX12_rivals_135 ?_
                    refine r_sipush (pc := 138) q dX12_rivals_138 (by decide) ?_
                    refine r_iload_6 (pc := 141) q dX12_rivals_141 ?_
                    refine r_imul (pc := 143) q dX12_rivals_143 ?_
                    refine r_iload_7 (pc := 144) q dX12_rivals_144 ?_
                    refine r_iadd (pc := 146) q dX12_rivals_146 ?_
                    refine r_iald (pc := 147) q hM.s_rest (by omega) (by omega) dX12_rivals_147 ?_
                    rw [r23]
                    refine r_ldc (pc := 148) q kX12_204 dX12_rivals_148 ?_
                    refine r_icmp_ge (pc := 150) q 196 dX12_rivals_150 (by decide) ⟨by omega, by omega⟩ ⟨by omega, by omega⟩ (fun c150 => ?_) (fun c150 => ?_)
                    · exact NP h6 _ hA6 hout (fun z => absurd z (by omega))
                    refine r_iconst (pc := 153) q dX12_rivals_153 ?_
                    refine r_istore_9 (pc := 154) q dX12_rivals_154 rfl ?_
                    refine r_iload_6 (pc := 156) q dX12_rivals_156 ?_
                    refine r_iload_5 (pc := 158) q dX12_rivals_158 ?_
                    refine r_iconst (pc := 160) q dX12_rivals_160 ?_
                    refine r_isub (pc := 161) q dX12_rivals_161 ?_
                    refine r_icmp_ge (pc := 162) q 196 dX12_rivals_162 (by decide) ⟨by omega, by omega⟩ ⟨by omega, by omega⟩ (fun c162 => ?_) (fun c162 => ?_)
                    · refine NP h6 _ hA6 hout (fun _ x x0 x1 => ?_)
                      have sE : (s : Int) = N - 1 := by omega
                      rw [hin x x0 (by omega), sE, vL p x (by omega) (by omega)]
                      by_cases ex : x = 0
                      · rw [if_pos ⟨rfl, ex⟩, if_pos ex]; decide
                      · rw [if_neg (by omega), if_neg ex]; decide
                    exact absurd (by omega) c162
                  exact absurd (by omega) c96
              | succ f ih3 =>
                intro a ha h6 hA6 hout hin
                have J : ∀ w : Int, w = (if (s : Int) = N - 1 ∧ (a : Int) = 0 then 1 else 0) → G X 0 0 127 [some (.ref m), some (.int (iI l1)), some (.int (iI day)), some (.int (iI dd)), some (.int (iI ls)), some (.int (iI N)), some (.int (iI s)), some (.int (iI p)), some (.int (iI bs)), some (.int (iI a))] [.int (iI w), .int (iI (bs + a)), .ref (m + 27)] sz S r h6 := by
                  intro w hw
                  refine r_iast (pc := 127) q hM.s_ways (by omega) (by omega) dX12_rivals_127 (fun h7 eh7 => ?_)
                  refine r_iinc_9 (pc := 128) q dX12_rivals_128 rfl ?_
                  refine r_goto (pc := 131) (tgt := 92) q dX12_rivals_131 (by decide) ?_
                  have e27 : h7 (m + 27) = up (h6 (m + 27)) (bs + a) w := by rw [eh7, up_s]
                  refine ih3 (a + 1) (by omega) h7 (fun x x0 => by rw [eh7, up_n _ _ x0]; exact hA6 x x0) (fun x x0 => by rw [e27, up_n _ _ (by omega)]; exact hout x x0) (fun x x0 x1 => ?_)
                  rw [e27]
                  by_cases ex : x = a
                  · rw [ex, up_s]; exact hw
                  · rw [up_n _ _ (by omega)]; exact hin x x0 (by omega)
                refine r_iload_9 (pc := 92) q dX12_rivals_92 ?_
                refine r_bipush (pc := 94) q dX12_rivals_94 (by decide) ?_
                refine r_icmp_ge (pc := 96) q 134 dX12_rivals_96 (by decide) ⟨by omega, by omega⟩ ⟨by omega, by omega⟩ (fun c96 => ?_) (fun c96 => ?_)
                · exact absurd c96 (by omega)
                refine r_aload_0 (pc := 99) q dX12_rivals_99 ?_
                refine r_getr (pc := 100) q fX12_100 (kz := 38) rfl (by decide) rfl hM.o hM.r_ways dX12_rivals_100 ?_
                refine r_iload_8 (pc := 103) q dX12_rivals_103 ?_
                refine r_iload_9 (pc := 105) q dX12_rivals_105 ?_
                refine r_iadd (pc := 107) q dX12_rivals_107 ?_
                refine r_iload_6 (pc := 108) q dX12_rivals_108 ?_
                refine r_iload_5 (pc := 110) q dX12_rivals_110 ?_
                refine r_iconst (pc := 112) q dX12_rivals_112 ?_
                refine r_isub (pc := 113) q dX12_rivals_113 ?_
                refine r_icmp_ne (pc := 114) q 126 dX12_rivals_114 (by decide) ⟨by omega, by omega⟩ ⟨by omega, by omega⟩ (fun c114 => ?_) (fun c114 => ?_)
                · refine r_iconst (pc := 126) q dX12_rivals_126 ?_
                  exact J 0 (by rw [if_neg (by omega)])
                refine r_iload_9 (pc := 117) q dX12_rivals_117 ?_
                refine r_if_ne (pc := 119) q 126 dX12_rivals_119 (by decide) ⟨by omega, by omega⟩ (fun c119 => ?_) (fun c119 => ?_)
                · refine r_iconst (pc := 126) q dX12_rivals_126 ?_
                  exact J 0 (by rw [if_neg (by omega)])
                refine r_iconst (pc := 122) q dX12_rivals_122 ?_
                refine r_goto (pc := 123) (tgt := 127) q dX12_rivals_123 (by decide) ?_
                exact J 1 (by rw [if_pos (by omega)])
            refine r_iload_7 (pc := 65) q dX12_rivals_65 ?_
            refine r_sipush (pc := 67) q dX12_rivals_67 (by decide) ?_
            refine r_icmp_ge (pc := 70) q 202 dX12_rivals_70 (by decide) ⟨by omega, by omega⟩ ⟨by omega, by omega⟩ (fun c70 => ?_) (fun c70 => ?_)
            · exact absurd c70 (by omega)
            refine r_iload_6 (pc := 73) q dX12_rivals_73 ?_
            refine r_iconst (pc := 75) q dX12_rivals_75 ?_
            refine r_irem (pc := 76) q dX12_rivals_76 ⟨by omega, by omega⟩ (by omega) (by omega) (by omega) ?_
            refine r_sipush (pc := 77) q dX12_rivals_77 (by decide) ?_
            refine r_imul (pc := 80) q dX12_rivals_80 ?_
            refine r_iload_7 (pc := 81) q dX12_rivals_81 ?_
            refine r_iadd (pc := 83) q dX12_rivals_83 ?_
            refine r_bipush (pc := 84) q dX12_rivals_84 (by decide) ?_
            refine r_imul (pc := 86) q dX12_rivals_86 ?_
            rw [hbs]
            refine r_istore_8 (pc := 87) q dX12_rivals_87 rfl ?_
            refine r_iconst (pc := 89) q dX12_rivals_89 ?_
            refine r_istore_9 (pc := 90) q dX12_rivals_90 rfl ?_
            exact ZL 21 0 (by omega) h3 hA3 (fun _ _ => rfl) (fun x x0 x1 => by omega)
        refine r_iload_6 (pc := 57) q dX12_rivals_57 ?_
        refine r_if_lt (pc := 59) q 208 dX12_rivals_59 (by decide) ⟨by omega, by omega⟩ (fun c59 => ?_) (fun c59 => ?_)
        · exact absurd c59 (by omega)
        refine r_iconst (pc := 62) q dX12_rivals_62 ?_
        refine r_istore_7 (pc := 63) q dX12_rivals_63 rfl ?_
        exact PL 601 0 (by omega) h2 _ _ hA (fun z x x0 x1 => hrow z x x0 x1) (fun x x0 x1 => by omega)
    rw [hls]
    refine r_aload_0 (pc := 43) q dX12_rivals_43 ?_
    refine r_getr (pc := 44) q fX12_23 (kz := 7) rfl (by decide) rfl hM.o hM.r_stations dX12_rivals_44 ?_
    refine r_iload_1 (pc := 47) q dX12_rivals_47 ?_
    refine r_iald (pc := 48) q hM.s_stations (by omega) (by omega) dX12_rivals_48 ?_
    rw [e5, hN]
    refine r_istore_5 (pc := 49) q dX12_rivals_49 rfl ?_
    refine r_iload_5 (pc := 51) q dX12_rivals_51 ?_
    refine r_iconst (pc := 53) q dX12_rivals_53 ?_
    refine r_isub (pc := 54) q dX12_rivals_54 ?_
    refine r_istore_6 (pc := 55) q dX12_rivals_55 rfl ?_
    have q3 := SL N.toNat (by omega) h4 none none none rfl (fun _ _ => rfl) (fun z => by omega)
    rw [show ((N.toNat : Nat) : Int) = N by omega] at q3
    exact q3
  refine r_aload_0 (pc := 0) q dX12_rivals_0 ?_
  refine r_iconst (pc := 1) q dX12_rivals_1 ?_
  refine r_puti (pc := 2) q fX12_106 (kz := 0) rfl (by decide) rfl hM.o dX12_rivals_2 (fun h0 eh0 => ?_)
  obtain ⟨f0, f1⟩ := th0 eh0
  have eM : h0 m = up (h m) 0 0 := by rw [eh0, up_s]
  have fr0 : frM h h0 m := ⟨fun a a1 _ _ => f0 a a1, eM⟩
  have ag := agM_fr fr0
  have hI0 := mdI_fr fr0 hI
  have e5 := f1 5 (by decide)
  have e29 := f1 29 (by decide)
  have L0 := hI.2.2.1.1
  have L4 := hI.2.2.1.2.1
  have Y0 := hI.2.2.2.2.2.2.2.1
  have Y1 := hI.2.2.2.2.2.2.2.2
  have es := f0 (m + 5) (by omega)
  refine r_aload_0 (pc := 5) q dX12_rivals_5 ?_
  refine r_iload_1 (pc := 6) q dX12_rivals_6 ?_
  refine r_iload_2 (pc := 7) q dX12_rivals_7 ?_
  refine r_cI2 (pc := 8) q (c_X12_isAsked (by first | assumption | exact ⟨by omega, by omega⟩ | omega) (by first | assumption | exact ⟨by omega, by omega⟩ | omega) (by first | assumption | exact ⟨by omega, by omega⟩ | omega) (by first | assumption | exact ⟨by omega, by omega⟩ | omega) (by first | assumption | exact ⟨by omega, by omega⟩ | omega) (by first | assumption | exact ⟨by omega, by omega⟩ | omega) (by first | assumption | exact ⟨by omega, by omega⟩ | omega)) mX12_224 hM.o (by decide) (Nat.le_of_ble_eq_true rfl) rfl dX12_rivals_8 (fun z1 h1 hz1 => ?_)
  obtain ⟨hz1, rfl⟩ := hz1
  rw [e5, e29] at hz1
  refine r_if_eq (pc := 11) q 24 dX12_rivals_11 (by decide) ⟨by omega, by omega⟩ (fun c11 => ?_) (fun c11 => ?_)
  · refine r_iconst (pc := 24) q dX12_rivals_24 ?_
    refine r_ireturn (pc := 25) q rt dX12_rivals_25 ?_
    exact ⟨fr0, Or.inl ⟨fun z => by unfold okA at z; omega, rfl⟩⟩
  refine r_iload_3 (pc := 14) q dX12_rivals_14 ?_
  refine r_iconst (pc := 15) q dX12_rivals_15 ?_
  refine r_bipush (pc := 16) q dX12_rivals_16 (by decide) ?_
  refine r_sI3 (pc := 18) q (c_X12_within (by first | assumption | exact ⟨by omega, by omega⟩ | omega) (by first | assumption | exact ⟨by omega, by omega⟩ | omega) (by first | assumption | exact ⟨by omega, by omega⟩ | omega)) mX12_112 (by decide) (Nat.le_of_ble_eq_true rfl) rfl dX12_rivals_18 (fun z2 h2 hz2 => ?_)
  obtain ⟨hz2, rfl⟩ := hz2
  refine r_if_ne (pc := 21) q 26 dX12_rivals_21 (by decide) ⟨by omega, by omega⟩ (fun c21 => ?_) (fun c21 => ?_)
  · refine r_aload_0 (pc := 26) q dX12_rivals_26 ?_
    refine r_iload_1 (pc := 27) q dX12_rivals_27 ?_
    refine r_iload_2 (pc := 28) q dX12_rivals_28 ?_
    have ok : okA h m l1 day ∧ 0 ≤ dd ∧ dd ≤ 20 := ⟨⟨by omega, by omega, by omega, by omega⟩, by omega, by omega⟩
    have rd := mdI_rdy hI (day := day) ok.1.1 ok.1.2.1
    refine r_cI2 (pc := 29) q (c_X12_lays hM hI0 (by omega) (by omega) (by omega) (by omega)) mX12_227 hM.o (by decide) (Nat.le_of_ble_eq_true rfl) rfl dX12_rivals_29 (fun z5 h5 hz5 => ?_)
    obtain ⟨q1, q2, q3, q4, q5⟩ := agM_RM ag g n rg rn l1 day
    obtain ⟨ez, fr, hrd, hrow⟩ := hz5
    rw [q1, es] at ez
    have ez' : z5 = lsM h m g n rg rn l1 day := ez
    subst ez'
    have lb := mnP_in (f := RM h m g n rg rn l1 day (h (m + 5) l1 - 1).toNat) 601 (fun p p0 p1 => (RM_in hI (day := day) ok.1.1 ok.1.2.1 (h (m + 5) l1 - 1).toNat (by have := rd.2.1; omega) p p0 (by omega)).1)
    have lb0 : 0 ≤ lsM h m g n rg rn l1 day := lb.1
    have lb1 : lsM h m g n rg rn l1 day ≤ 1000000 := lb.2
    have fr5 : frM h h5 m := ⟨fun a q0 q1 q2 => by rw [fr a q1 (by omega) (by omega) (by omega) (by omega) (by omega)]; exact f0 a q0, by rw [fr m (by omega) (by omega) (by omega) (by omega) (by omega) (by omega)]; exact eM⟩
    refine r_istore_4 (pc := 32) q dX12_rivals_32 rfl ?_
    refine r_iload_4 (pc := 34) q dX12_rivals_34 ?_
    refine r_ldc (pc := 36) q kX12_204 dX12_rivals_36 ?_
    refine r_icmp_ne (pc := 38) q 43 dX12_rivals_38 (by decide) ⟨by omega, by omega⟩ ⟨by omega, by omega⟩ (fun c38 => ?_) (fun c38 => ?_)
    · refine con ok (by omega) h5 fr5 (fun s s0 s1 => ?_) (fun s p s0 s1 p0 p1 => ?_)
      · have k := hrd s s0 (by rw [es]; exact s1)
        have q2' := congrFun q2 s
        have q3' := congrFun q3 s
        have q4' := congrFun q4 s
        rw [← q2', ← q3', ← q4']
        exact k
      · have k := hrow s p s0 (by rw [es]; exact s1) p0 p1
        rw [q1, q5, es] at k
        exact k
    refine r_iconst (pc := 41) q dX12_rivals_41 ?_
    refine r_ireturn (pc := 42) q rt dX12_rivals_42 ?_
    exact ⟨fr5, Or.inr (Or.inl ⟨ok, c38, rfl⟩)⟩
  refine r_iconst (pc := 24) q dX12_rivals_24 ?_
  refine r_ireturn (pc := 25) q rt dX12_rivals_25 ?_
  exact ⟨fr0, Or.inl ⟨fun z => by unfold okA at z; omega, rfl⟩⟩
