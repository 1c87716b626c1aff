theorem c_X12_lays {l : Launch} {D : va_G} {aC : Nat → ClassId} {B t sz : Nat} {S : sS} {r : sR} {h : sH} {m : Nat} {l1 day : Int} {g : Int → Int → Int → Int} {n : Int → Int → Int} {rg sg : Int → Int → Int} {rn sn : Int → Int} (hM : LX12 S r m) (hI : mdI h m g n rg rn sg sn) (l0 : 0 ≤ l1) (l2 : l1 < h m 5) (d0 : 0 ≤ day) (d1 : day ≤ h m 29) : CtI l yX12_lays cX12_lays 10 (some .int) 4 104 [.ref m, .int (iI l1), .int (iI day)] D aC B t sz S r h (fun z h1 => z = mnP (RM h m g n rg rn l1 day (h (m + 5) l1 - 1).toNat) 601 ∧ laidM h h1 m g n rg rn l1 day) := by
  unfold CtI
  refine Ct.of (lv := [some (.ref m), some (.int (iI l1)), some (.int (iI day)), none, none, none, none, none, none, none]) (by decide +kernel) rfl (Nat.le_of_ble_eq_true rfl) (fun X hl q rt hnm => ?_)
  obtain ⟨-, hso, hLs, hNm, hU, hH, hRS, ⟨Y0, Y1⟩⟩ := id hI
  obtain ⟨LL0, LL4, hls⟩ := id hLs
  obtain ⟨hu23, N2, N10⟩ := hls l1 l0 l2
  have hU2 : 2 ≤ h (m + 4) l1 ∧ h (m + 4) l1 ≤ 3 := by omega
  have rmb := RM_in hI (day := day) l0 l2
  have owb := fun i p i0 i1 => owF_in hI (day := day) (i := i) (p := p) l0 l2 i0 i1
  have rsb := fun i i0 i1 => rsM_in hI (i := i) l0 l2 i0 i1
  have own_eq : ∀ h2 : sH, (∀ a : Nat, a ≠ m + 3 → a ≠ m + 19 → a ≠ m + 20 → a ≠ m + 21 → a ≠ m + 22 → a ≠ m + 23 → h2 a = h a) → ∀ i p : Int, owM h2 m rg rn (g l1 i) (n l1 i) (h2 (m + 6) (10 * l1 + i)) day p = owF h m g n rg rn l1 day i p := fun h2 hA i p => by
    unfold owF owM
    rw [hA m (by omega) (by omega) (by omega) (by omega) (by omega) (by omega), hA (m + 2) (by omega) (by omega) (by omega) (by omega) (by omega) (by omega), hA (m + 6) (by omega) (by omega) (by omega) (by omega) (by omega) (by omega), hA (m + 9) (by omega) (by omega) (by omega) (by omega) (by omega) (by omega), hA (m + 11) (by omega) (by omega) (by omega) (by omega) (by omega) (by omega), hA (m + 12) (by omega) (by omega) (by omega) (by omega) (by omega) (by omega), hA (m + 13) (by omega) (by omega) (by omega) (by omega) (by omega) (by omega), hA (m + 14) (by omega) (by omega) (by omega) (by omega) (by omega) (by omega), hA (m + 15) (by omega) (by omega) (by omega) (by omega) (by omega) (by omega)]
  have rs_eq : ∀ h2 : sH, (∀ a : Nat, a ≠ m + 3 → a ≠ m + 19 → a ≠ m + 20 → a ≠ m + 21 → a ≠ m + 22 → a ≠ m + 23 → h2 a = h a) → rsR h2 m rg rn sg sn := fun h2 hA => by
    unfold rsR
    rw [hA m (by omega) (by omega) (by omega) (by omega) (by omega) (by omega), hA (m + 9) (by omega) (by omega) (by omega) (by omega) (by omega) (by omega), hA (m + 10) (by omega) (by omega) (by omega) (by omega) (by omega) (by omega), hA (m + 11) (by omega) (by omega) (by omega) (by omega) (by omega) (by omega), hA (m + 12) (by omega) (by omega) (by omega) (by omega) (by omega) (by omega), hA (m + 13) (by omega) (by omega) (by omega) (by omega) (by omega) (by omega), hA (m + 14) (by omega) (by omega) (by omega) (by omega) (by omega) (by omega), hA (m + 15) (by omega) (by omega) (by omega) (by omega) (by omega) (by omega)]
    exact hRS
  have fin : ∀ (h2 : sH) (o6 o7 o8 o9 : Option Value), laidM h h2 m g n rg rn l1 day → ∀ (d j : Nat), (j : Int) + d = 601 → G X 0 0 224 [some (.ref m), some (.int (iI l1)), some (.int (iI day)), some (.int (iI (h (m + 5) l1))), some (.int (iI (mnP (RM h m g n rg rn l1 day (h (m + 5) l1 - 1).toNat) j))), some (.int (iI j)), o6, o7, o8, o9] [] sz S r h2 := by
    intro h2 o6 o7 o8 o9 hLd d
    induction d with
    | zero =>
      intro j hj
      obtain rfl : j = 601 := by omega
      have mb := mnP_in (f := RM h m g n rg rn l1 day (h (m + 5) l1 - 1).toNat) 601 (fun p p0 p1 => (rmb _ (by omega) p p0 (by omega)).1)
      refine r_iload_5 (pc := 224) q dX12_lays_224 ?_
      refine r_sipush (pc := 226) q dX12_lays_226 (by decide) ?_
      refine r_icmp_ge (pc := 229) q 252 dX12_lays_229 (by decide) ⟨by omega, by omega⟩ ⟨by omega, by omega⟩ (fun c229 => ?_) (fun c229 => ?_)
      · refine r_iload_4 (pc := 252) q dX12_lays_252 ?_
        refine r_ireturn (pc := 254) q rt dX12_lays_254 ?_
        exact ⟨rfl, hLd⟩
      exact absurd (show (601 : Int) ≤ ((601 : Nat) : Int) by omega) c229
    | succ d ih =>
      intro j hj
      have mb := mnP_in (f := RM h m g n rg rn l1 day (h (m + 5) l1 - 1).toNat) j (fun p p0 p1 => (rmb _ (by omega) p p0 (by omega)).1)
      have e1 := (hLd.2.2 0 j (by omega) (by omega) (by omega) (by omega)).2
      rw [show (601 : Int) * 0 + j = j by omega, show h (m + 5) l1 - 1 - 0 = h (m + 5) l1 - 1 by omega] at e1
      have rb := rmb (h (m + 5) l1 - 1).toNat (by omega) j (by omega) (by omega)
      refine r_iload_5 (pc := 224) q dX12_lays_224 ?_
      refine r_sipush (pc := 226) q dX12_lays_226 (by decide) ?_
      refine r_icmp_ge (pc := 229) q 252 dX12_lays_229 (by decide) ⟨by omega, by omega⟩ ⟨by omega, by omega⟩ (fun c229 => ?_) (fun c229 => ?_)
      · exact absurd c229 (by omega)
      refine r_iload_4 (pc := 232) q dX12_lays_232 ?_
      refine r_aload_0 (pc := 234) q dX12_lays_234 ?_
      refine r_getr (pc := 235) q fX12_88 (kz := 34) rfl (by decide) rfl hM.o hM.r_rest dX12_lays_235 ?_
      refine r_iload_5 (pc := 238) q dX12_lays_238 ?_
      refine r_iald (pc := 240) q hM.s_rest (by omega) (by omega) dX12_lays_240 ?_
      rw [e1]
      refine r_sI2 (pc := 241) q (c_X12_less (by first | assumption | exact ⟨by omega, by omega⟩ | omega) (by first | assumption | exact ⟨by omega, by omega⟩ | omega)) mX12_130 (by decide) (Nat.le_of_ble_eq_true rfl) rfl dX12_lays_241 (fun z1 h1 hz1 => ?_)
      obtain ⟨rfl, rfl⟩ := hz1
      refine r_istore_4 (pc := 244) q dX12_lays_244 rfl ?_
      refine r_iinc_5 (pc := 246) q dX12_lays_246 rfl ?_
      refine r_goto (pc := 249) (tgt := 224) q dX12_lays_249 (by decide) ?_
      exact ih (j + 1) (by omega)
  have mid : ∀ (i : Int), 0 ≤ i → i < h (m + 5) l1 → (∀ (h2 : sH) (o5 o6 o7 o8 o9 : Option Value), (∀ a : Nat, a ≠ m + 3 → a ≠ m + 19 → a ≠ m + 20 → a ≠ m + 21 → a ≠ m + 22 → a ≠ m + 23 → h2 a = h a) → (∀ i : Int, 0 ≤ i → i + 1 < h (m + 5) l1 → rdM h h2 m l1 i) → (∀ i' p' : Int, i ≤ i' → i' < h (m + 5) l1 → 0 ≤ p' → p' < 601 → h2 (m + 22) (601 * i' + p') = owF h m g n rg rn l1 day i' p' ∧ h2 (m + 23) (601 * i' + p') = RM h m g n rg rn l1 day (h (m + 5) l1 - 1 - i').toNat p') → noL o5 = true → noL o6 = true → noL o7 = true → noL o8 = true → G X 0 0 211 [some (.ref m), some (.int (iI l1)), some (.int (iI day)), some (.int (iI (h (m + 5) l1))), some (.int (iI i)), o5, o6, o7, o8, o9] [] sz S r h2) → ∀ (d p : Nat), (p : Int) + d = 601 → ∀ (h2 : sH) (o6 o7 o8 o9 : Option Value), noL o6 = true → noL o7 = true → noL o8 = true → (∀ a : Nat, a ≠ m + 3 → a ≠ m + 19 → a ≠ m + 20 → a ≠ m + 21 → a ≠ m + 22 → a ≠ m + 23 → h2 a = h a) → (∀ i : Int, 0 ≤ i → i + 1 < h (m + 5) l1 → rdM h h2 m l1 i) → (∀ i' p' : Int, i ≤ i' → i' < h (m + 5) l1 → 0 ≤ p' → p' < 601 → (i < i' ∨ p' < p) → h2 (m + 22) (601 * i' + p') = owF h m g n rg rn l1 day i' p' ∧ h2 (m + 23) (601 * i' + p') = RM h m g n rg rn l1 day (h (m + 5) l1 - 1 - i').toNat p') → G X 0 0 25 [some (.ref m), some (.int (iI l1)), some (.int (iI day)), some (.int (iI (h (m + 5) l1))), some (.int (iI i)), some (.int (iI p)), o6, o7, o8, o9] [] sz S r h2 := by
    intro i i0 i1 out d
    induction d with
    | zero =>
      intro p hp h2 o6 o7 o8 o9 n6 n7 n8 hA hRd hE
      refine r_iload_5 (pc := 25) q dX12_lays_25 ?_
      refine r_sipush (pc := 27) q dX12_lays_27 (by decide) ?_
      refine r_icmp_ge (pc := 30) q 211 dX12_lays_30 (by decide) ⟨by omega, by omega⟩ ⟨by omega, by omega⟩ (fun c30 => ?_) (fun c30 => ?_)
      · exact out h2 _ _ _ _ _ hA hRd (fun i' p' a1 a2 a3 a4 => hE i' p' a1 a2 a3 a4 (by omega)) rfl n6 n7 n8
      exact absurd (show (601 : Int) ≤ (p : Int) by omega) c30
    | succ d ih =>
      intro p hp h2 o6 o7 o8 o9 n6 n7 n8 hA hRd hE
      have ob := owb i p i0 i1
      have J176 : ∀ (x : Int) (h3 : sH) (o8 o9 : Option Value), noL o8 = true → (∀ a : Nat, a ≠ m + 3 → a ≠ m + 22 → h3 a = h2 a) → (∀ p' : Int, p' ≠ 601 * i + p → h3 (m + 22) p' = h2 (m + 22) p') → h3 (m + 22) (601 * i + p) = owF h m g n rg rn l1 day i p → (i + 1 = h (m + 5) l1 → x = 0) → (i + 1 < h (m + 5) l1 → x = mnR (h (m + 4) l1) (rvM h m l1 i) (rcM h m l1 i) (RM h m g n rg rn l1 day (h (m + 5) l1 - 2 - i).toNat) p (rsM h m l1 i)) → 0 ≤ x → x ≤ 1000000 → G X 0 0 176 [some (.ref m), some (.int (iI l1)), some (.int (iI day)), some (.int (iI (h (m + 5) l1))), some (.int (iI i)), some (.int (iI p)), some (.int (iI (601 * i + p))), some (.int (iI x)), o8, o9] [] sz S r h3 := by
        intro x h3 o8 o9 n8 hB hB2 hO x1 x2 xb0 xb1
        have ex : RM h m g n rg rn l1 day (h (m + 5) l1 - 1 - i).toNat p = capA x (owF h m g n rg rn l1 day i p) := by
          by_cases q1 : i + 1 = h (m + 5) l1
          · rw [x1 q1, show (h (m + 5) l1 - 1 - i).toNat = 0 by omega]
            unfold RM
            simp only [RSt, capA]
            rw [if_neg (by decide), show h (m + 5) l1 - 1 = i by omega]
            omega
          · rw [x2 (by omega), show (h (m + 5) l1 - 1 - i).toNat = (h (m + 5) l1 - 2 - i).toNat + 1 by omega]
            unfold RM
            simp only [RSt]
            rw [show h (m + 5) l1 - 2 - ((h (m + 5) l1 - 2 - i).toNat : Int) = i by omega]
        have go : ∀ (v : Int), v = capA x (owF h m g n rg rn l1 day i p) → ∀ (h4 : sH), h4 = up h3 (m + 23) (up (h3 (m + 23)) (601 * i + p) v) → G X 0 0 205 [some (.ref m), some (.int (iI l1)), some (.int (iI day)), some (.int (iI (h (m + 5) l1))), some (.int (iI i)), some (.int (iI p)), some (.int (iI (601 * i + p))), some (.int (iI x)), o8, o9] [] sz S r h4 := by
          intro v ev h4 eh4
          have e4 : ∀ a : Nat, a ≠ m + 23 → h4 a = h3 a := fun a q1 => by rw [eh4, up_n _ _ q1]
          refine r_iinc_5 (pc := 205) q dX12_lays_205 rfl ?_
          refine r_goto (pc := 208) (tgt := 25) q dX12_lays_208 (by decide) ?_
          refine ih (p + 1) (by omega) h4 _ _ _ _ rfl rfl n8 (fun a a1 a2 a3 a4 a5 a6 => by rw [e4 a a6, hB a a1 a5]; exact hA a a1 a2 a3 a4 a5 a6) (fun i' q1 q2 => rowP_kp (hRd i' q1 q2) (by rw [e4 _ (by omega), hB _ (by omega) (by omega)]) (by rw [e4 _ (by omega), hB _ (by omega) (by omega)]) (by rw [e4 _ (by omega), hB _ (by omega) (by omega)])) (fun i' p' a1 a2 a3 a4 a5 => ?_)
          by_cases q1 : i' = i ∧ p' = p
          · rw [q1.1, q1.2]
            refine ⟨by rw [e4 _ (by omega)]; exact hO, ?_⟩
            rw [eh4, up_s, up_s, ev, ex]
          · have := hE i' p' a1 a2 a3 a4 (by omega)
            refine ⟨by rw [e4 _ (by omega), hB2 _ (by omega)]; exact this.1, ?_⟩
            rw [eh4, up_s, up_n _ _ (by omega), hB _ (by omega) (by omega)]
            exact this.2
        refine r_aload_0 (pc := 176) q dX12_lays_176 ?_
        refine r_getr (pc := 177) q fX12_88 (kz := 34) rfl (by decide) rfl hM.o hM.r_rest dX12_lays_177 ?_
        refine r_iload_6 (pc := 180) q dX12_lays_180 ?_
        refine r_iload_7 (pc := 182) q dX12_lays_182 ?_
        refine r_ldc (pc := 184) q kX12_204 dX12_lays_184 ?_
        refine r_icmp_lt (pc := 186) q 194 dX12_lays_186 (by decide) ⟨by omega, by omega⟩ ⟨by omega, by omega⟩ (fun c186 => ?_) (fun c186 => ?_)
        · refine r_iload_7 (pc := 194) q dX12_lays_194 ?_
          refine r_aload_0 (pc := 196) q dX12_lays_196 ?_
          refine r_getr (pc := 197) q fX12_85 (kz := 33) rfl (by decide) rfl hM.o hM.r_own dX12_lays_197 ?_
          refine r_iload_6 (pc := 200) q dX12_lays_200 ?_
          refine r_iald (pc := 202) q hM.s_own (by omega) (by omega) dX12_lays_202 ?_
          rw [hO]
          refine r_iadd (pc := 203) q dX12_lays_203 ?_
          refine r_iast (pc := 204) q hM.s_rest (by omega) (by omega) dX12_lays_204 (fun h4 eh4 => ?_)
          exact go _ (by unfold capA; rw [if_neg (by omega)]) h4 eh4
        refine r_ldc (pc := 189) q kX12_204 dX12_lays_189 ?_
        refine r_goto (pc := 191) (tgt := 204) q dX12_lays_191 (by decide) ?_
        refine r_iast (pc := 204) q hM.s_rest (by omega) (by omega) dX12_lays_204 (fun h4 eh4 => ?_)
        exact go _ (by unfold capA; rw [if_pos (by omega)]) h4 eh4
      have J80 : ∀ (h3 : sH), (∀ a : Nat, a ≠ m + 3 → a ≠ m + 22 → h3 a = h2 a) → (∀ p' : Int, p' ≠ 601 * i + p → h3 (m + 22) p' = h2 (m + 22) p') → h3 (m + 22) (601 * i + p) = owF h m g n rg rn l1 day i p → i + 1 < h (m + 5) l1 → ∀ (e j : Nat), j + e = rsM h m l1 i → ∀ o9 : Option Value, G X 0 0 80 [some (.ref m), some (.int (iI l1)), some (.int (iI day)), some (.int (iI (h (m + 5) l1))), some (.int (iI i)), some (.int (iI p)), some (.int (iI (601 * i + p))), some (.int (iI (mnR (h (m + 4) l1) (rvM h m l1 i) (rcM h m l1 i) (RM h m g n rg rn l1 day (h (m + 5) l1 - 2 - i).toNat) p j))), some (.int (iI j)), o9] [] sz S r h3 := by
        intro h3 hB hB2 hO iN
        obtain ⟨rs1, rs21, rsk⟩ := rsb i i0 iN
        have hrow := hRd i i0 iN
        have r21 : h3 (m + 21) i = rsM h m l1 i := by rw [hB _ (by omega) (by omega)]; exact hrow.1
        have r4 : h3 (m + 4) l1 = h (m + 4) l1 := by rw [hB _ (by omega) (by omega), hA _ (by omega) (by omega) (by omega) (by omega) (by omega) (by omega)]
        have mb : ∀ j : Nat, j ≤ rsM h m l1 i → 0 ≤ mnR (h (m + 4) l1) (rvM h m l1 i) (rcM h m l1 i) (RM h m g n rg rn l1 day (h (m + 5) l1 - 2 - i).toNat) p j ∧ mnR (h (m + 4) l1) (rvM h m l1 i) (rcM h m l1 i) (RM h m g n rg rn l1 day (h (m + 5) l1 - 2 - i).toNat) p j ≤ 1000000 := fun j hj => mnR_in (B := 0) (by omega) (by omega) j (fun k k0 k1 => by have := rsk k k0 (by omega); omega) (fun x x0 x1 => (rmb _ (by omega) x x0 x1).1)
        intro e
        induction e with
        | zero =>
          intro j hj o9
          have mj := mb j (by omega)
          refine r_iload_4 (pc := 80) q dX12_lays_80 ?_
          refine r_iload_3 (pc := 82) q dX12_lays_82 ?_
          refine r_iconst (pc := 83) q dX12_lays_83 ?_
          refine r_isub (pc := 84) q dX12_lays_84 ?_
          refine r_icmp_ge (pc := 85) q 176 dX12_lays_85 (by decide) ⟨by omega, by omega⟩ ⟨by omega, by omega⟩ (fun c85 => ?_) (fun c85 => ?_)
          · exact absurd c85 (by omega)
          refine r_iload_8 (pc := 88) q dX12_lays_88 ?_
          refine r_aload_0 (pc := 90) q dX12_lays_90 ?_
          refine r_getr (pc := 91) q fX12_82 (kz := 32) rfl (by decide) rfl hM.o hM.r_values dX12_lays_91 ?_
          refine r_iload_4 (pc := 94) q dX12_lays_94 ?_
          refine r_iald (pc := 96) q hM.s_values (by omega) (by omega) dX12_lays_96 ?_
          rw [r21]
          refine r_icmp_ge (pc := 97) q 176 dX12_lays_97 (by decide) ⟨by omega, by omega⟩ ⟨by omega, by omega⟩ (fun c97 => ?_) (fun c97 => ?_)
          · exact J176 _ h3 _ _ rfl hB hB2 hO (fun q1 => by omega) (fun _ => by rw [show rsM h m l1 i = j by omega]) mj.1 mj.2
          exact absurd (show (rsM h m l1 i : Int) ≤ (j : Int) by omega) c97
        | succ e ih2 =>
          intro j hj o9
          have mj := mb j (by omega)
          have kj := rsk j (by omega) (by omega)
          have r19 : h3 (m + 19) (21 * i + j) = rvM h m l1 i j := by rw [hB _ (by omega) (by omega)]; exact (hrow.2 j (by omega) (show (j : Int) < rsM h m l1 i by omega)).1
          have r20 : h3 (m + 20) (21 * i + j) = rcM h m l1 i j := by rw [hB _ (by omega) (by omega)]; exact (hrow.2 j (by omega) (show (j : Int) < rsM h m l1 i by omega)).2
          have ub : 2 ≤ h (m + 4) l1 * rvM h m l1 i j ∧ h (m + 4) l1 * rvM h m l1 i j ≤ 1350 := by
            rcases hu23 with u | u <;> rw [u] <;> omega
          refine r_iload_4 (pc := 80) q dX12_lays_80 ?_
          refine r_iload_3 (pc := 82) q dX12_lays_82 ?_
          refine r_iconst (pc := 83) q dX12_lays_83 ?_
          refine r_isub (pc := 84) q dX12_lays_84 ?_
          refine r_icmp_ge (pc := 85) q 176 dX12_lays_85 (by decide) ⟨by omega, by omega⟩ ⟨by omega, by omega⟩ (fun c85 => ?_) (fun c85 => ?_)
          · exact absurd c85 (by omega)
          refine r_iload_8 (pc := 88) q dX12_lays_88 ?_
          refine r_aload_0 (pc := 90) q dX12_lays_90 ?_
          refine r_getr (pc := 91) q fX12_82 (kz := 32) rfl (by decide) rfl hM.o hM.r_values dX12_lays_91 ?_
          refine r_iload_4 (pc := 94) q dX12_lays_94 ?_
          refine r_iald (pc := 96) q hM.s_values (by omega) (by omega) dX12_lays_96 ?_
          rw [r21]
          refine r_icmp_ge (pc := 97) q 176 dX12_lays_97 (by decide) ⟨by omega, by omega⟩ ⟨by omega, by omega⟩ (fun c97 => ?_) (fun c97 => ?_)
          · exact absurd c97 (by omega)
          refine r_iload_5 (pc := 100) q dX12_lays_100 ?_
          refine r_aload_0 (pc := 102) q dX12_lays_102 ?_
          refine r_getr (pc := 103) q fX12_20 (kz := 6) rfl (by decide) rfl hM.o hM.r_unit dX12_lays_103 ?_
          refine r_iload_1 (pc := 106) q dX12_lays_106 ?_
          refine r_iald (pc := 107) q hM.s_unit (by omega) (by omega) dX12_lays_107 ?_
          rw [r4]
          refine r_aload_0 (pc := 108) q dX12_lays_108 ?_
          refine r_getr (pc := 109) q fX12_76 (kz := 30) rfl (by decide) rfl hM.o hM.r_value dX12_lays_109 ?_
          refine r_bipush (pc := 112) q dX12_lays_112 (by decide) ?_
          refine r_iload_4 (pc := 114) q dX12_lays_114 ?_
          refine r_imul (pc := 116) q dX12_lays_116 ?_
          refine r_iload_8 (pc := 117) q dX12_lays_117 ?_
          refine r_iadd (pc := 119) q dX12_lays_119 ?_
          refine r_iald (pc := 120) q hM.s_value (by omega) (by omega) dX12_lays_120 ?_
          rw [r19]
          refine r_imul (pc := 121) q dX12_lays_121 ?_
          refine r_iadd (pc := 122) q dX12_lays_122 ?_
          obtain ⟨x, hx⟩ : ∃ x, (p : Int) + h (m + 4) l1 * rvM h m l1 i j = x := ⟨_, rfl⟩
          rw [hx]
          refine r_istore_9 (pc := 123) q dX12_lays_123 rfl ?_
          refine r_iload_9 (pc := 125) q dX12_lays_125 ?_
          refine r_sipush (pc := 127) q dX12_lays_127 (by decide) ?_
          refine r_icmp_ge (pc := 130) q 170 dX12_lays_130 (by decide) ⟨by omega, by omega⟩ ⟨by omega, by omega⟩ (fun c130 => ?_) (fun c130 => ?_)
          · refine r_iinc_8 (pc := 170) q dX12_lays_170 rfl ?_
            refine r_goto (pc := 173) (tgt := 80) q dX12_lays_173 (by decide) ?_
            have := ih2 (j + 1) (by omega) (some (.int (iI x)))
            simp only [mnR] at this
            rw [hx, if_neg (by omega)] at this
            exact this
          refine r_iload_7 (pc := 133) q dX12_lays_133 ?_
          refine r_aload_0 (pc := 135) q dX12_lays_135 ?_
          refine r_getr (pc := 136) q fX12_79 (kz := 31) rfl (by decide) rfl hM.o hM.r_cost dX12_lays_136 ?_
          refine r_bipush (pc := 139) q dX12_lays_139 (by decide) ?_
          refine r_iload_4 (pc := 141) q dX12_lays_141 ?_
          refine r_imul (pc := 143) q dX12_lays_143 ?_
          refine r_iload_8 (pc := 144) q dX12_lays_144 ?_
          refine r_iadd (pc := 146) q dX12_lays_146 ?_
          refine r_iald (pc := 147) q hM.s_cost (by omega) (by omega) dX12_lays_147 ?_
          rw [r20]
          refine r_aload_0 (pc := 148) q dX12_lays_148 ?_
          refine r_getr (pc := 149) q fX12_88 (kz := 34) rfl (by decide) rfl hM.o hM.r_rest dX12_lays_149 ?_
          refine r_sipush (pc := 152) q dX12_lays_152 (by decide) ?_
          refine r_iload_4 (pc := 155) q dX12_lays_155 ?_
          refine r_iconst (pc := 157) q dX12_lays_157 ?_
          refine r_iadd (pc := 158) q dX12_lays_158 ?_
          refine r_imul (pc := 159) q dX12_lays_159 ?_
          refine r_iload_9 (pc := 160) q dX12_lays_160 ?_
          refine r_iadd (pc := 162) q dX12_lays_162 ?_
          refine r_iald (pc := 163) q hM.s_rest (by omega) (by omega) dX12_lays_163 ?_
          have rx : h3 (m + 23) (601 * (i + 1) + x) = RM h m g n rg rn l1 day (h (m + 5) l1 - 2 - i).toNat x := by
            rw [hB _ (by omega) (by omega), (hE (i + 1) x (by omega) (by omega) (by omega) (by omega) (by omega)).2, show h (m + 5) l1 - 1 - (i + 1) = h (m + 5) l1 - 2 - i by omega]
          rw [rx]
          have rb := rmb (h (m + 5) l1 - 2 - i).toNat (by omega) x (by omega) (by omega)
          refine r_iadd (pc := 164) q dX12_lays_164 ?_
          refine r_sI2 (pc := 165) q (c_X12_less (by first | assumption | exact ⟨by omega, by omega⟩ | omega) (by first | assumption | exact ⟨by omega, by omega⟩ | omega)) mX12_130 (by decide) (Nat.le_of_ble_eq_true rfl) rfl dX12_lays_165 (fun z1 h1 hz1 => ?_)
          obtain ⟨rfl, rfl⟩ := hz1
          refine r_istore_7 (pc := 168) q dX12_lays_168 rfl ?_
          refine r_iinc_8 (pc := 170) q dX12_lays_170 rfl ?_
          refine r_goto (pc := 173) (tgt := 80) q dX12_lays_173 (by decide) ?_
          have := ih2 (j + 1) (by omega) (some (.int (iI x)))
          simp only [mnR] at this
          rw [hx, if_pos (by omega)] at this
          exact this
      refine r_iload_5 (pc := 25) q dX12_lays_25 ?_
      refine r_sipush (pc := 27) q dX12_lays_27 (by decide) ?_
      refine r_icmp_ge (pc := 30) q 211 dX12_lays_30 (by decide) ⟨by omega, by omega⟩ ⟨by omega, by omega⟩ (fun c30 => ?_) (fun c30 => ?_)
      · exact absurd c30 (by omega)
      refine r_sipush (pc := 33) q dX12_lays_33 (by decide) ?_
      refine r_iload_4 (pc := 36) q dX12_lays_36 ?_
      refine r_imul (pc := 38) q dX12_lays_38 ?_
      refine r_iload_5 (pc := 39) q dX12_lays_39 ?_
      refine r_iadd (pc := 41) q dX12_lays_41 ?_
      refine r_istore_6 (pc := 42) q dX12_lays_42 rfl ?_
      refine r_aload_0 (pc := 44) q dX12_lays_44 ?_
      refine r_getr (pc := 45) q fX12_85 (kz := 33) rfl (by decide) rfl hM.o hM.r_own dX12_lays_45 ?_
      refine r_iload_6 (pc := 48) q dX12_lays_48 ?_
      refine r_aload_0 (pc := 50) q dX12_lays_50 ?_
      refine r_iload_1 (pc := 51) q dX12_lays_51 ?_
      refine r_iload_4 (pc := 52) q dX12_lays_52 ?_
      refine r_iload_5 (pc := 54) q dX12_lays_54 ?_
      refine r_iload_2 (pc := 56) q dX12_lays_56 ?_
      refine r_cI4 (pc := 57) q (c_X12_ownCost hM (by rw [hA _ (by omega) (by omega) (by omega) (by omega) (by omega) (by omega)]; exact hso) l0 (by omega) i0 (by omega) (by omega) (by omega) d0 (by omega) (by rw [hA _ (by omega) (by omega) (by omega) (by omega) (by omega) (by omega)]; exact hNm l1 i l0 l2 i0 i1) (rs_eq h2 hA)) mX12_220 hM.o (by decide) (Nat.le_of_ble_eq_true rfl) rfl dX12_lays_57 (fun z5 h5 hz5 => ?_)
      rw [own_eq h2 hA] at hz5
      refine r_iast (pc := 60) q hM.s_own (by omega) (by omega) dX12_lays_60 (fun h6 eh6 => ?_)
      have hB : ∀ a : Nat, a ≠ m + 3 → a ≠ m + 22 → h6 a = h2 a := fun a q1 q2 => by rw [eh6, up_n _ _ q2]; exact hz5.2 a q1
      have hB2 : ∀ p' : Int, p' ≠ 601 * i + p → h6 (m + 22) p' = h2 (m + 22) p' := fun p' q1 => by rw [eh6, up_s, up_n _ _ q1, hz5.2 _ (by omega)]
      have hO : h6 (m + 22) (601 * i + p) = owF h m g n rg rn l1 day i p := by rw [eh6, up_s, up_s]; exact hz5.1
      refine r_iload_4 (pc := 61) q dX12_lays_61 ?_
      refine r_iload_3 (pc := 63) q dX12_lays_63 ?_
      refine r_iconst (pc := 64) q dX12_lays_64 ?_
      refine r_isub (pc := 65) q dX12_lays_65 ?_
      refine r_icmp_ne (pc := 66) q 73 dX12_lays_66 (by decide) ⟨by omega, by omega⟩ ⟨by omega, by omega⟩ (fun c66 => ?_) (fun c66 => ?_)
      · refine r_ldc (pc := 73) q kX12_204 dX12_lays_73 ?_
        refine r_istore_7 (pc := 75) q dX12_lays_75 rfl ?_
        refine r_iconst (pc := 77) q dX12_lays_77 ?_
        refine r_istore_8 (pc := 78) q dX12_lays_78 rfl ?_
        exact J80 h6 hB hB2 hO (by omega) (rsM h m l1 i) 0 (by omega) _
      refine r_iconst (pc := 69) q dX12_lays_69 ?_
      refine r_goto (pc := 70) (tgt := 75) q dX12_lays_70 (by decide) ?_
      refine r_istore_7 (pc := 75) q dX12_lays_75 rfl ?_
      refine r_iconst (pc := 77) q dX12_lays_77 ?_
      refine r_istore_8 (pc := 78) q dX12_lays_78 rfl ?_
      refine r_iload_4 (pc := 80) q dX12_lays_80 ?_
      refine r_iload_3 (pc := 82) q dX12_lays_82 ?_
      refine r_iconst (pc := 83) q dX12_lays_83 ?_
      refine r_isub (pc := 84) q dX12_lays_84 ?_
      refine r_icmp_ge (pc := 85) q 176 dX12_lays_85 (by decide) ⟨by omega, by omega⟩ ⟨by omega, by omega⟩ (fun c85 => ?_) (fun c85 => ?_)
      · exact J176 0 h6 _ _ rfl hB hB2 hO (fun _ => rfl) (fun q1 => by omega) (by omega) (by omega)
      exact absurd (show h (m + 5) l1 - 1 ≤ i by omega) c85
  have outer : ∀ (d : Nat), (d : Int) ≤ h (m + 5) l1 → ∀ (h2 : sH) (o5 o6 o7 o8 o9 : Option Value), noL o5 = true → noL o6 = true → noL o7 = true → noL o8 = true → (∀ a : Nat, a ≠ m + 3 → a ≠ m + 19 → a ≠ m + 20 → a ≠ m + 21 → a ≠ m + 22 → a ≠ m + 23 → h2 a = h a) → (∀ i : Int, 0 ≤ i → i + 1 < h (m + 5) l1 → rdM h h2 m l1 i) → (∀ i' p' : Int, (d : Int) ≤ i' → i' < h (m + 5) l1 → 0 ≤ p' → p' < 601 → h2 (m + 22) (601 * i' + p') = owF h m g n rg rn l1 day i' p' ∧ h2 (m + 23) (601 * i' + p') = RM h m g n rg rn l1 day (h (m + 5) l1 - 1 - i').toNat p') → G X 0 0 17 [some (.ref m), some (.int (iI l1)), some (.int (iI day)), some (.int (iI (h (m + 5) l1))), some (.int (iI ((d : Int) - 1))), o5, o6, o7, o8, o9] [] sz S r h2 := by
    intro d
    induction d with
    | zero =>
      intro hd h2 o5 o6 o7 o8 o9 n5 n6 n7 n8 hA hRd hE
      refine r_iload_4 (pc := 17) q dX12_lays_17 ?_
      refine r_if_lt (pc := 19) q 217 dX12_lays_19 (by decide) ⟨by omega, by omega⟩ (fun c19 => ?_) (fun c19 => ?_)
      · refine r_ldc (pc := 217) q kX12_204 dX12_lays_217 ?_
        refine r_istore_4 (pc := 219) q dX12_lays_219 rfl ?_
        refine r_iconst (pc := 221) q dX12_lays_221 ?_
        refine r_istore_5 (pc := 222) q dX12_lays_222 rfl ?_
        exact fin h2 _ _ _ _ ⟨hA, hRd, fun i p i0 i1 p0 p1 => hE i p (by omega) i1 p0 p1⟩ 601 0 (by omega)
      exact absurd (show ((0 : Nat) : Int) - 1 < 0 by omega) c19
    | succ d ih =>
      intro hd h2 o5 o6 o7 o8 o9 n5 n6 n7 n8 hA hRd hE
      refine r_iload_4 (pc := 17) q dX12_lays_17 ?_
      refine r_if_lt (pc := 19) q 217 dX12_lays_19 (by decide) ⟨by omega, by omega⟩ (fun c19 => ?_) (fun c19 => ?_)
      · exact absurd c19 (by omega)
      refine r_iconst (pc := 22) q dX12_lays_22 ?_
      refine r_istore_5 (pc := 23) q dX12_lays_23 rfl ?_
      refine mid _ (by omega) (by omega) (fun h3 o5 o6 o7 o8 o9 hA3 hRd3 hE3 m5 m6 m7 m8 => ?_) 601 0 (by omega) h2 _ _ _ _ n6 n7 n8 hA hRd (fun i' p' a1 a2 a3 a4 a5 => hE i' p' (by omega) a2 a3 a4)
      refine r_iinc_4 (pc := 211) q dX12_lays_211 rfl ?_
      refine r_goto (pc := 214) (tgt := 17) q dX12_lays_214 (by decide) ?_
      rw [show ((d + 1 : Nat) : Int) - 1 + -1 = (d : Int) - 1 by omega]
      exact ih (by omega) h3 _ _ _ _ _ m5 m6 m7 m8 hA3 hRd3 (fun i' p' a1 a2 a3 a4 => hE3 i' p' (by omega) a2 a3 a4)
  refine r_aload_0 (pc := 0) q dX12_lays_0 ?_
  refine r_iload_1 (pc := 1) q dX12_lays_1 ?_
  refine r_cV1 (pc := 2) q (c_X12_reads hM l0 (by omega) N2 N10 (fun i i0 i1 => hU l1 i l0 l2 i0 i1) hH) mX12_216 hM.o (by decide) (Nat.le_of_ble_eq_true rfl) rfl dX12_lays_2 (fun h1 hz1 => ?_)
  obtain ⟨g1, g2⟩ := hz1
  refine r_aload_0 (pc := 5) q dX12_lays_5 ?_
  refine r_getr (pc := 6) q fX12_23 (kz := 7) rfl (by decide) rfl hM.o hM.r_stations dX12_lays_6 ?_
  refine r_iload_1 (pc := 9) q dX12_lays_9 ?_
  refine r_iald (pc := 10) q hM.s_stations (by omega) (by omega) dX12_lays_10 ?_
  rw [g1 _ (by omega) (by omega) (by omega)]
  refine r_istore_3 (pc := 11) q dX12_lays_11 rfl ?_
  refine r_iload_3 (pc := 12) q dX12_lays_12 ?_
  refine r_iconst (pc := 13) q dX12_lays_13 ?_
  refine r_isub (pc := 14) q dX12_lays_14 ?_
  refine r_istore_4 (pc := 15) q dX12_lays_15 rfl ?_
  have := outer (h (m + 5) l1).toNat (by omega) h1 none none none none none rfl rfl rfl rfl (fun a _ a2 a3 a4 _ _ => g1 a a2 a3 a4) g2 (fun i' p' a1 a2 a3 a4 => by omega)
  rw [show (((h (m + 5) l1).toNat : Nat) : Int) - 1 = h (m + 5) l1 - 1 by omega] at this
  exact this
