def spO (W R : Int → Int) (lim p : Int) : Prop := W p < 1000000 ∧ R p < 1000000 ∧ W p + R p ≤ lim
/-- the least (what 0) or greatest (what 1) place below e that is as asked -/
def spI (ok : Int → Prop) (what e z : Int) : Prop := (z = -1 ∧ ∀ p : Int, 0 ≤ p → p < e → ¬ ok p) ∨ ((0 ≤ z ∧ z < e) ∧ ok z ∧ ∀ p : Int, 0 ≤ p → p < e → ok p → if what = 1 then p ≤ z else z ≤ p)
theorem spI_u {ok : Int → Prop} {what e z y : Int} (h1 : spI ok what e z) (h2 : spI ok what e y) : z = y := by
  rcases h1 with ⟨a1, a2⟩ | ⟨a1, a2, a3⟩ <;> rcases h2 with ⟨b1, b2⟩ | ⟨b1, b2, b3⟩
  · omega
  · exact absurd b2 (a2 y b1.1 b1.2)
  · exact absurd a2 (b2 z a1.1 a1.2)
  · have p := a3 y b1.1 b1.2 b2
    have q := b3 z a1.1 a1.2 a2
    split at p <;> rename_i w
    · rw [if_pos w] at q; omega
    · rw [if_neg w] at q; omega
theorem spI_congr {ok ok2 : Int → Prop} {what e z : Int} (h1 : spI ok what e z) (c : ∀ p : Int, 0 ≤ p → p < e → (ok p ↔ ok2 p)) : spI ok2 what e z := by
  rcases h1 with ⟨a1, a2⟩ | ⟨a1, a2, a3⟩
  · exact Or.inl ⟨a1, fun p p0 p1 y => a2 p p0 p1 ((c p p0 p1).mpr y)⟩
  · exact Or.inr ⟨a1, (c z a1.1 a1.2).mp a2, fun p p0 p1 y => a3 p p0 p1 ((c p p0 p1).mpr y)⟩
theorem c_X12_span {l : Launch} {D : va_G} {aC : Nat → ClassId} {B t sz : Nat} {S : sS} {r : sR} {h : sH} {m : Nat} {l1 day dd st wh : Int} {g : Int → Int → Int → Int} {n : Int → Int → Int} {rg sg : Int → Int → Int} {rn sn : Int → Int} (hM : LX12 S r m) (hI : mdI h m g n rg rn sg sn) (hl1 : inR l1) (hd : inR day) (hdd : inR dd) (hst : inR st) (hwh : inR wh) : CtI l yX12_span cX12_span 10 (some .int) 5 133 [.ref m, .int (iI l1), .int (iI day), .int (iI dd), .int (iI st), .int (iI wh)] D aC B t sz S r h (fun z h1 => frM h h1 m ∧ ((¬ (okA h m l1 day ∧ (0 ≤ dd ∧ dd ≤ 20) ∧ (0 ≤ st ∧ st < h (m + 5) l1) ∧ 0 ≤ wh ∧ wh ≤ 1) ∧ z = -1) ∨ ((okA h m l1 day ∧ (0 ≤ dd ∧ dd ≤ 20) ∧ (0 ≤ st ∧ st < h (m + 5) l1) ∧ 0 ≤ wh ∧ wh ≤ 1) ∧ lsM h m g n rg rn l1 day = 1000000 ∧ z = -1) ∨ ((okA h m l1 day ∧ (0 ≤ dd ∧ dd ≤ 20) ∧ (0 ≤ st ∧ st < h (m + 5) l1) ∧ 0 ≤ wh ∧ wh ≤ 1) ∧ lsM h m g n rg rn l1 day < 1000000 ∧ ∃ W : Int → Int → Int, bfR (h (m + 5) l1) (h (m + 4) l1) (rsM h m l1) (rvM h m l1) (rcM h m l1) (owF h m g n rg rn l1 day) W ∧ spI (spO (W st) (RM h m g n rg rn l1 day (h (m + 5) l1 - 1 - st).toNat) (lsM h m g n rg rn l1 day + dd)) wh 601 z))) := by
  unfold CtI
  refine Ct.of (lv := [some (.ref m), some (.int (iI l1)), some (.int (iI day)), some (.int (iI dd)), some (.int (iI st)), some (.int (iI wh)), none, none, none, none]) (by decide +kernel) rfl (Nat.le_of_ble_eq_true rfl) (fun X hl q rt hnm => ?_)
  have con : (okA h m l1 day ∧ (0 ≤ dd ∧ dd ≤ 20) ∧ (0 ≤ st ∧ st < h (m + 5) l1) ∧ 0 ≤ wh ∧ wh ≤ 1) → lsM h m g n rg rn l1 day < 1000000 → ∀ (h4 : sH), frM h h4 m → (∀ p : Int, 0 ≤ p → p < 601 → h4 (m + 22) (601 * st + p) = owF h m g n rg rn l1 day st p ∧ h4 (m + 23) (601 * st + p) = RM h m g n rg rn l1 day (h (m + 5) l1 - 1 - st).toNat p) → bfA (h (m + 5) l1) (h (m + 4) l1) (rsM h m l1) (rvM h m l1) (rcM h m l1) (owF h m g n rg rn l1 day) (fun s p => h4 (m + 24) (601 * s + p)) → G X 0 0 68 [some (.ref m), some (.int (iI l1)), some (.int (iI day)), some (.int (iI dd)), some (.int (iI st)), some (.int (iI wh)), some (.int (iI (lsM h m g n rg rn l1 day))), none, none, none] [] sz S r h4 := by
    intro ok lf h4 fr hrow hbf
    obtain ⟨⟨a0, a1, d0, d1⟩, ⟨dd0, dd20⟩, ⟨st0, st1⟩, wh0, wh1⟩ := id ok
    have rd := mdI_rdy hI (day := day) a0 a1
    have hR := bfA_R rd hbf
    have bd := bfA_bd rd hbf st.toNat (by omega)
    rw [show ((st.toNat : Nat) : Int) = st by omega] at bd
    have N10 := rd.2.1.2
    have ob := rd.2.2.2
    have rmb := RM_in hI (day := day) a0 a1 (h (m + 5) l1 - 1 - st).toNat (by omega)
    have ls0 : 0 ≤ lsM h m g n rg rn l1 day := (mnP_in 601 (fun p p0 p1 => (RM_in hI (day := day) a0 a1 (h (m + 5) l1 - 1).toNat (by omega) p p0 (by omega)).1)).1
    obtain ⟨K, hK⟩ : ∃ K : Int → Prop, K = spO ((fun s p => if h4 (m + 24) (601 * s + p) < 1000000 then h4 (m + 24) (601 * s + p) - owF h m g n rg rn l1 day s p else 1000000) st) (RM h m g n rg rn l1 day (h (m + 5) l1 - 1 - st).toNat) (lsM h m g n rg rn l1 day + dd) := ⟨_, rfl⟩
    have lp : ∀ (e p : Nat), p + e = 601 → ∀ (cu : Int) (o9 : Option Value), -1 ≤ cu → cu < 601 → spI K wh p cu → G X 0 0 74 [some (.ref m), some (.int (iI l1)), some (.int (iI day)), some (.int (iI dd)), some (.int (iI st)), some (.int (iI wh)), some (.int (iI (lsM h m g n rg rn l1 day))), some (.int (iI cu)), some (.int (iI p)), o9] [] sz S r h4 := by
      intro e
      induction e with
      | zero =>
        intro p hp cu o9 cu0 cu1 hc
        have ep : p = 601 := by omega
        subst ep
        refine r_iload_8 (pc := 74) q dX12_span_74 ?_
        refine r_sipush (pc := 76) q dX12_span_76 (by decide) ?_
        refine r_icmp_ge (pc := 79) q 172 dX12_span_79 (by decide) ⟨by omega, by omega⟩ ⟨by omega, by omega⟩ (fun c79 => ?_) (fun c79 => ?_)
        · refine r_iload_7 (pc := 172) q dX12_span_172 ?_
          refine r_ireturn (pc := 174) q rt dX12_span_174 ?_
          exact ⟨fr, Or.inr (Or.inr ⟨ok, lf, _, hR, hK ▸ hc⟩)⟩
        exact absurd (by omega) c79
      | succ e ih =>
        intro p hp cu o9 cu0 cu1 hc
        obtain ⟨o, ho⟩ := hrow p (by omega) (by omega)
        have bp := bd p (by omega) (by omega)
        obtain ⟨A0, hA0⟩ : ∃ A0, h4 (m + 24) (601 * st + p) = A0 := ⟨_, rfl⟩
        have bp' : bdA st A0 ∧ (A0 < 1000000 → owF h m g n rg rn l1 day st p ≤ A0) := by rw [← hA0]; exact bp
        obtain ⟨⟨b1, b2, b3⟩, b4⟩ := bp'
        have rb := rmb p (by omega) (by omega)
        have ob0 := ob st p (by omega) (by omega) (by omega) (by omega)
        obtain ⟨R0, hR0⟩ : ∃ R0, RM h m g n rg rn l1 day (h (m + 5) l1 - 1 - st).toNat p = R0 := ⟨_, rfl⟩
        rw [hR0] at ho rb
        have kk : K p ↔ (A0 < 1000000 ∧ R0 < 1000000 ∧ A0 + R0 - owF h m g n rg rn l1 day st p ≤ lsM h m g n rg rn l1 day + dd) := by
          rw [hK]
          unfold spO
          simp only
          rw [hA0, hR0]
          split <;> omega
        have no : ¬ K p → ∀ o9 : Option Value, G X 0 0 166 [some (.ref m), some (.int (iI l1)), some (.int (iI day)), some (.int (iI dd)), some (.int (iI st)), some (.int (iI wh)), some (.int (iI (lsM h m g n rg rn l1 day))), some (.int (iI cu)), some (.int (iI p)), o9] [] sz S r h4 := by
          intro nk o9
          refine r_iinc_8 (pc := 166) q dX12_span_166 rfl ?_
          refine r_goto (pc := 169) (tgt := 74) q dX12_span_169 (by decide) ?_
          refine ih (p + 1) (by omega) cu o9 cu0 cu1 ?_
          rcases hc with ⟨a1, a2⟩ | ⟨a1, a2, a3⟩
          · refine Or.inl ⟨a1, fun x x0 x1 => ?_⟩
            by_cases ex : x = p
            · rw [ex]; exact nk
            · exact a2 x x0 (by omega)
          · refine Or.inr ⟨by omega, a2, fun x x0 x1 kx => ?_⟩
            by_cases ex : x = p
            · rw [ex] at kx; exact absurd kx nk
            · exact a3 x x0 (by omega) kx
        have yes : K p → ((cu = -1 ∨ wh = 1) → ∀ o9 : Option Value, G X 0 0 166 [some (.ref m), some (.int (iI l1)), some (.int (iI day)), some (.int (iI dd)), some (.int (iI st)), some (.int (iI wh)), some (.int (iI (lsM h m g n rg rn l1 day))), some (.int (iI p)), some (.int (iI p)), o9] [] sz S r h4) ∧ (¬ (cu = -1 ∨ wh = 1) → ∀ o9 : Option Value, G X 0 0 166 [some (.ref m), some (.int (iI l1)), some (.int (iI day)), some (.int (iI dd)), some (.int (iI st)), some (.int (iI wh)), some (.int (iI (lsM h m g n rg rn l1 day))), some (.int (iI cu)), some (.int (iI p)), o9] [] sz S r h4) := by
          intro yk
          refine ⟨fun cc o9 => ?_, fun cc o9 => ?_⟩
          · refine r_iinc_8 (pc := 166) q dX12_span_166 rfl ?_
            refine r_goto (pc := 169) (tgt := 74) q dX12_span_169 (by decide) ?_
            refine ih (p + 1) (by omega) p o9 (by omega) (by omega) (Or.inr ⟨by omega, yk, fun x x0 x1 kx => ?_⟩)
            rcases hc with ⟨a1, a2⟩ | ⟨a1, a2, a3⟩
            · by_cases ex : x = p
              · rw [ex]; split <;> omega
              · exact absurd kx (a2 x x0 (by omega))
            · have w1 : wh = 1 := by omega
              rw [if_pos w1]; omega
          · refine r_iinc_8 (pc := 166) q dX12_span_166 rfl ?_
            refine r_goto (pc := 169) (tgt := 74) q dX12_span_169 (by decide) ?_
            refine ih (p + 1) (by omega) cu o9 cu0 cu1 ?_
            rcases hc with ⟨a1, a2⟩ | ⟨a1, a2, a3⟩
            · exact absurd (Or.inl a1) cc
            · refine Or.inr ⟨by omega, a2, fun x x0 x1 kx => ?_⟩
              by_cases ex : x = p
              · rw [if_neg (fun z => cc (Or.inr z))]; omega
              · exact a3 x x0 (by omega) kx
        refine r_iload_8 (pc := 74) q dX12_span_74 ?_
        refine r_sipush (pc := 76) q dX12_span_76 (by decide) ?_
        refine r_icmp_ge (pc := 79) q 172 dX12_span_79 (by decide) ⟨by omega, by omega⟩ ⟨by omega, by omega⟩ (fun c79 => ?_) (fun c79 => ?_)
        · exact absurd c79 (by omega)
        refine r_sipush (pc := 82) q dX12_span_82 (by decide) ?_
        refine r_iload_4 (pc := 85) q dX12_span_85 ?_
        refine r_imul (pc := 87) q dX12_span_87 ?_
        refine r_iload_8 (pc := 88) q dX12_span_88 ?_
        refine r_iadd (pc := 90) q dX12_span_90 ?_
        refine r_istore_9 (pc := 91) q dX12_span_91 rfl ?_
        refine r_aload_0 (pc := 93) q dX12_span_93 ?_
        refine r_getr (pc := 94) q fX12_91 (kz := 35) rfl (by decide) rfl hM.o hM.r_ahead dX12_span_94 ?_
        refine r_iload_9 (pc := 97) q dX12_span_97 ?_
        refine r_iald (pc := 99) q hM.s_ahead (by omega) (by omega) dX12_span_99 ?_
        rw [hA0]
        refine r_ldc (pc := 100) q kX12_204 dX12_span_100 ?_
        refine r_icmp_ge (pc := 102) q 166 dX12_span_102 (by decide) ⟨by omega, by omega⟩ ⟨by omega, by omega⟩ (fun c102 => ?_) (fun c102 => ?_)
        · exact no (fun z => by have := kk.mp z; omega) _
        refine r_aload_0 (pc := 105) q dX12_span_105 ?_
        refine r_getr (pc := 106) q fX12_88 (kz := 34) rfl (by decide) rfl hM.o hM.r_rest dX12_span_106 ?_
        refine r_iload_9 (pc := 109) q dX12_span_109 ?_
        refine r_iald (pc := 111) q hM.s_rest (by omega) (by omega) dX12_span_111 ?_
        rw [ho]
        refine r_ldc (pc := 112) q kX12_204 dX12_span_112 ?_
        refine r_icmp_ge (pc := 114) q 166 dX12_span_114 (by decide) ⟨by omega, by omega⟩ ⟨by omega, by omega⟩ (fun c114 => ?_) (fun c114 => ?_)
        · exact no (fun z => by have := kk.mp z; omega) _
        refine r_aload_0 (pc := 117) q dX12_span_117 ?_
        refine r_getr (pc := 118) q fX12_91 (kz := 35) rfl (by decide) rfl hM.o hM.r_ahead dX12_span_118 ?_
        refine r_iload_9 (pc := 121) q dX12_span_121 ?_
        refine r_iald (pc := 123) q hM.s_ahead (by omega) (by omega) dX12_span_123 ?_
        rw [hA0]
        refine r_aload_0 (pc := 124) q dX12_span_124 ?_
        refine r_getr (pc := 125) q fX12_88 (kz := 34) rfl (by decide) rfl hM.o hM.r_rest dX12_span_125 ?_
        refine r_iload_9 (pc := 128) q dX12_span_128 ?_
        refine r_iald (pc := 130) q hM.s_rest (by omega) (by omega) dX12_span_130 ?_
        rw [ho]
        refine r_iadd (pc := 131) q dX12_span_131 ?_
        refine r_aload_0 (pc := 132) q dX12_span_132 ?_
        refine r_getr (pc := 133) q fX12_85 (kz := 33) rfl (by decide) rfl hM.o hM.r_own dX12_span_133 ?_
        refine r_iload_9 (pc := 136) q dX12_span_136 ?_
        refine r_iald (pc := 138) q hM.s_own (by omega) (by omega) dX12_span_138 ?_
        rw [o]
        refine r_isub (pc := 139) q dX12_span_139 ?_
        refine r_iload_6 (pc := 140) q dX12_span_140 ?_
        refine r_iload_3 (pc := 142) q dX12_span_142 ?_
        refine r_iadd (pc := 143) q dX12_span_143 ?_
        refine r_icmp_le (pc := 144) q 150 dX12_span_144 (by decide) ⟨by omega, by omega⟩ ⟨by omega, by omega⟩ (fun c144 => ?_) (fun c144 => ?_)
        · refine r_iload_7 (pc := 150) q dX12_span_150 ?_
          refine r_iconst (pc := 152) q dX12_span_152 ?_
          refine r_icmp_eq (pc := 153) q 162 dX12_span_153 (by decide) ⟨by omega, by omega⟩ ⟨by omega, by omega⟩ (fun c153 => ?_) (fun c153 => ?_)
          · refine r_iload_8 (pc := 162) q dX12_span_162 ?_
            refine r_istore_7 (pc := 164) q dX12_span_164 rfl ?_
            exact (yes (kk.mpr ⟨by omega, by omega, c144⟩)).1 (Or.inl c153) _
          refine r_iload_5 (pc := 156) q dX12_span_156 ?_
          refine r_iconst (pc := 158) q dX12_span_158 ?_
          refine r_icmp_ne (pc := 159) q 166 dX12_span_159 (by decide) ⟨by omega, by omega⟩ ⟨by omega, by omega⟩ (fun c159 => ?_) (fun c159 => ?_)
          · exact (yes (kk.mpr ⟨by omega, by omega, c144⟩)).2 (by omega) _
          refine r_iload_8 (pc := 162) q dX12_span_162 ?_
          refine r_istore_7 (pc := 164) q dX12_span_164 rfl ?_
          exact (yes (kk.mpr ⟨by omega, by omega, c144⟩)).1 (Or.inr (by omega)) _
        refine r_goto (pc := 147) (tgt := 166) q dX12_span_147 (by decide) ?_
        exact no (fun z => by have := kk.mp z; omega) _
    refine r_iconst (pc := 68) q dX12_span_68 ?_
    refine r_istore_7 (pc := 69) q dX12_span_69 rfl ?_
    refine r_iconst (pc := 71) q dX12_span_71 ?_
    refine r_istore_8 (pc := 72) q dX12_span_72 rfl ?_
    exact lp 601 0 (by omega) (-1) _ (by omega) (by omega) (Or.inl ⟨rfl, fun x x0 x1 => by omega⟩)
  refine r_aload_0 (pc := 0) q dX12_span_0 ?_
  refine r_iconst (pc := 1) q dX12_span_1 ?_
  refine r_puti (pc := 2) q fX12_106 (kz := 0) rfl (by decide) rfl hM.o dX12_span_2 (fun h0 eh0 => ?_)
  obtain ⟨f0, f1⟩ := th0 eh0
  have eM : h0 m = up (h m) 0 0 := by rw [eh0, up_s]
  have fr0 : frM h h0 m := ⟨fun a a1 _ _ => f0 a a1, eM⟩
  have ag := agM_fr fr0
  have hI0 := mdI_fr fr0 hI
  have e5 := f1 5 (by decide)
  have e29 := f1 29 (by decide)
  have L0 := hI.2.2.1.1
  have L4 := hI.2.2.1.2.1
  have Y0 := hI.2.2.2.2.2.2.2.1
  have Y1 := hI.2.2.2.2.2.2.2.2
  have es := f0 (m + 5) (by omega)
  refine r_aload_0 (pc := 5) q dX12_span_5 ?_
  refine r_iload_1 (pc := 6) q dX12_span_6 ?_
  refine r_iload_2 (pc := 7) q dX12_span_7 ?_
  refine r_cI2 (pc := 8) q (c_X12_isAsked (by first | assumption | exact ⟨by omega, by omega⟩ | omega) (by first | assumption | exact ⟨by omega, by omega⟩ | omega) (by first | assumption | exact ⟨by omega, by omega⟩ | omega) (by first | assumption | exact ⟨by omega, by omega⟩ | omega) (by first | assumption | exact ⟨by omega, by omega⟩ | omega) (by first | assumption | exact ⟨by omega, by omega⟩ | omega) (by first | assumption | exact ⟨by omega, by omega⟩ | omega)) mX12_224 hM.o (by decide) (Nat.le_of_ble_eq_true rfl) rfl dX12_span_8 (fun z1 h1 hz1 => ?_)
  obtain ⟨hz1, rfl⟩ := hz1
  rw [e5, e29] at hz1
  refine r_if_eq (pc := 11) q 44 dX12_span_11 (by decide) ⟨by omega, by omega⟩ (fun c11 => ?_) (fun c11 => ?_)
  · refine r_iconst (pc := 44) q dX12_span_44 ?_
    refine r_ireturn (pc := 45) q rt dX12_span_45 ?_
    exact ⟨fr0, Or.inl ⟨fun z => by unfold okA at z; omega, rfl⟩⟩
  refine r_iload_3 (pc := 14) q dX12_span_14 ?_
  refine r_iconst (pc := 15) q dX12_span_15 ?_
  refine r_bipush (pc := 16) q dX12_span_16 (by decide) ?_
  refine r_sI3 (pc := 18) q (c_X12_within (by first | assumption | exact ⟨by omega, by omega⟩ | omega) (by first | assumption | exact ⟨by omega, by omega⟩ | omega) (by first | assumption | exact ⟨by omega, by omega⟩ | omega)) mX12_112 (by decide) (Nat.le_of_ble_eq_true rfl) rfl dX12_span_18 (fun z2 h2 hz2 => ?_)
  obtain ⟨hz2, rfl⟩ := hz2
  refine r_if_eq (pc := 21) q 44 dX12_span_21 (by decide) ⟨by omega, by omega⟩ (fun c21 => ?_) (fun c21 => ?_)
  · refine r_iconst (pc := 44) q dX12_span_44 ?_
    refine r_ireturn (pc := 45) q rt dX12_span_45 ?_
    exact ⟨fr0, Or.inl ⟨fun z => by unfold okA at z; omega, rfl⟩⟩
  refine r_aload_0 (pc := 24) q dX12_span_24 ?_
  refine r_iload_1 (pc := 25) q dX12_span_25 ?_
  refine r_iload_4 (pc := 26) q dX12_span_26 ?_
  refine r_cI2 (pc := 28) q (c_X12_isStation hM (by assumption) (by assumption) hI0.2.2.1) mX12_191 hM.o (by decide) (Nat.le_of_ble_eq_true rfl) rfl dX12_span_28 (fun z3 h3 hz3 => ?_)
  obtain ⟨hz3, rfl⟩ := hz3
  rw [e5, es] at hz3
  refine r_if_eq (pc := 31) q 44 dX12_span_31 (by decide) ⟨by omega, by omega⟩ (fun c31 => ?_) (fun c31 => ?_)
  · refine r_iconst (pc := 44) q dX12_span_44 ?_
    refine r_ireturn (pc := 45) q rt dX12_span_45 ?_
    exact ⟨fr0, Or.inl ⟨fun z => by unfold okA at z; omega, rfl⟩⟩
  refine r_iload_5 (pc := 34) q dX12_span_34 ?_
  refine r_iconst (pc := 36) q dX12_span_36 ?_
  refine r_iconst (pc := 37) q dX12_span_37 ?_
  refine r_sI3 (pc := 38) q (c_X12_within (by first | assumption | exact ⟨by omega, by omega⟩ | omega) (by first | assumption | exact ⟨by omega, by omega⟩ | omega) (by first | assumption | exact ⟨by omega, by omega⟩ | omega)) mX12_112 (by decide) (Nat.le_of_ble_eq_true rfl) rfl dX12_span_38 (fun z4 h4 hz4 => ?_)
  obtain ⟨hz4, rfl⟩ := hz4
  refine r_if_ne (pc := 41) q 46 dX12_span_41 (by decide) ⟨by omega, by omega⟩ (fun c41 => ?_) (fun c41 => ?_)
  · refine r_aload_0 (pc := 46) q dX12_span_46 ?_
    refine r_iload_1 (pc := 47) q dX12_span_47 ?_
    refine r_iload_2 (pc := 48) q dX12_span_48 ?_
    have ok : okA h m l1 day ∧ (0 ≤ dd ∧ dd ≤ 20) ∧ (0 ≤ st ∧ st < h (m + 5) l1) ∧ 0 ≤ wh ∧ wh ≤ 1 := ⟨⟨by omega, by omega, by omega, by omega⟩, ⟨by omega, by omega⟩, ⟨by omega, by omega⟩, by omega, by omega⟩
    have rd := mdI_rdy hI (day := day) ok.1.1 ok.1.2.1
    refine r_cI2 (pc := 49) q (c_X12_lays hM hI0 (by omega) (by omega) (by omega) (by omega)) mX12_227 hM.o (by decide) (Nat.le_of_ble_eq_true rfl) rfl dX12_span_49 (fun z5 h5 hz5 => ?_)
    obtain ⟨q1, q2, q3, q4, q5⟩ := agM_RM ag g n rg rn l1 day
    obtain ⟨ez, fr, hrd, hrow⟩ := hz5
    rw [q1, es] at ez
    have ez' : z5 = lsM h m g n rg rn l1 day := ez
    subst ez'
    have lb := mnP_in (f := RM h m g n rg rn l1 day (h (m + 5) l1 - 1).toNat) 601 (fun p p0 p1 => (RM_in hI (day := day) ok.1.1 ok.1.2.1 (h (m + 5) l1 - 1).toNat (by have := rd.2.1; omega) p p0 (by omega)).1)
    have lb0 : 0 ≤ lsM h m g n rg rn l1 day := lb.1
    have lb1 : lsM h m g n rg rn l1 day ≤ 1000000 := lb.2
    have fr5 : frM h h5 m := ⟨fun a q0 q1 q2 => by rw [fr a q1 (by omega) (by omega) (by omega) (by omega) (by omega)]; exact f0 a q0, by rw [fr m (by omega) (by omega) (by omega) (by omega) (by omega) (by omega)]; exact eM⟩
    refine r_istore_6 (pc := 52) q dX12_span_52 rfl ?_
    refine r_iload_6 (pc := 54) q dX12_span_54 ?_
    refine r_ldc (pc := 56) q kX12_204 dX12_span_56 ?_
    refine r_icmp_ne (pc := 58) q 63 dX12_span_58 (by decide) ⟨by omega, by omega⟩ ⟨by omega, by omega⟩ (fun c58 => ?_) (fun c58 => ?_)
    · refine r_aload_0 (pc := 63) q dX12_span_63 ?_
      refine r_iload_1 (pc := 64) q dX12_span_64 ?_
      refine r_cV1 (pc := 65) q (c_X12_goesAhead hM (by omega) (by omega) (by rw [fr5.1 (m + 5) (by omega) (by omega) (by omega)]) (by rw [fr5.1 (m + 4) (by omega) (by omega) (by omega)]) rd (fun s s0 s1 => by
        have k := hrd s s0 (by rw [es]; exact s1)
        have q2' := congrFun q2 s
        have q3' := congrFun q3 s
        have q4' := congrFun q4 s
        rw [← q2', ← q3', ← q4']
        exact k) (fun s p s0 s1 p0 p1 => by rw [← q5]; exact (hrow s p s0 (by rw [es]; exact s1) p0 p1).1)) mX12_233 hM.o (by decide) (Nat.le_of_ble_eq_true rfl) rfl dX12_span_65 (fun h6 hz6 => ?_)
      obtain ⟨fr6', hbf⟩ := hz6
      refine con ok (by omega) h6 ⟨fun a q0 q1 q2 => by rw [fr6' a (by omega)]; exact fr5.1 a q0 q1 q2, by rw [fr6' m (by omega)]; exact fr5.2⟩ (fun p p0 p1 => ?_) hbf
      have k := hrow st p (by omega) (by rw [es]; omega) p0 p1
      rw [q1, q5, es] at k
      rw [fr6' (m + 22) (by omega), fr6' (m + 23) (by omega)]
      exact k
    refine r_iconst (pc := 61) q dX12_span_61 ?_
    refine r_ireturn (pc := 62) q rt dX12_span_62 ?_
    exact ⟨fr5, Or.inr (Or.inl ⟨ok, c58, rfl⟩)⟩
  refine r_iconst (pc := 44) q dX12_span_44 ?_
  refine r_ireturn (pc := 45) q rt dX12_span_45 ?_
  exact ⟨fr0, Or.inl ⟨fun z => by unfold okA at z; omega, rfl⟩⟩
