theorem mnR_att {U : Int} {rv rc nx : Int → Int} {p : Int} : ∀ n : Nat, mnR U rv rc nx p n < 1000000 → ∃ k : Int, 0 ≤ k ∧ k < n ∧ p + U * rv k < 601 ∧ rc k + nx (p + U * rv k) = mnR U rv rc nx p n
  | 0, h => by simp only [mnR] at h; omega
  | n + 1, h => by
    simp only [mnR] at h ⊢
    by_cases q : p + U * rv n < 601
    · rw [if_pos q] at h ⊢
      by_cases q2 : rc n + nx (p + U * rv n) ≤ mnR U rv rc nx p n
      · exact ⟨n, by omega, by omega, q, by omega⟩
      · obtain ⟨k, k0, k1, k2, k3⟩ := mnR_att (U := U) (rv := rv) (rc := rc) (nx := nx) (p := p) n (by omega)
        exact ⟨k, k0, by omega, k2, by omega⟩
    · rw [if_neg q] at h ⊢
      obtain ⟨k, k0, k1, k2, k3⟩ := mnR_att (U := U) (rv := rv) (rc := rc) (nx := nx) (p := p) n h
      exact ⟨k, k0, by omega, k2, k3⟩
theorem mnR_le {U : Int} {rv rc nx : Int → Int} {p : Int} : ∀ n : Nat, ∀ k : Int, 0 ≤ k → k < n → p + U * rv k < 601 → mnR U rv rc nx p n ≤ rc k + nx (p + U * rv k)
  | 0, k, k0, k1, _ => by omega
  | n + 1, k, k0, k1, q => by
    simp only [mnR]
    by_cases e : k = n
    · subst e; rw [if_pos q]; omega
    · have := mnR_le (U := U) (rv := rv) (rc := rc) (nx := nx) (p := p) n k k0 (by omega) q
      split <;> omega
theorem mnP_att {f : Int → Int} : ∀ n : Nat, mnP f n < 1000000 → ∃ p : Int, 0 ≤ p ∧ p < n ∧ f p = mnP f n
  | 0, h => by simp only [mnP] at h; omega
  | n + 1, h => by
    simp only [mnP] at h ⊢
    by_cases q : f n ≤ mnP f n
    · exact ⟨n, by omega, by omega, by omega⟩
    · obtain ⟨p, p0, p1, p2⟩ := mnP_att (f := f) n (by omega)
      exact ⟨p, p0, by omega, by omega⟩
theorem mnP_le {f : Int → Int} : ∀ n : Nat, ∀ p : Int, 0 ≤ p → p < n → mnP f n ≤ f p
  | 0, p, _, _ => by omega
  | n + 1, p, p0, p1 => by
    simp only [mnP]
    by_cases e : p = n
    · subst e; omega
    · have := mnP_le (f := f) n p p0 (by omega); omega
/-- the first place of that cost -/
def isFst (f : Int → Int) (b p : Int) : Prop := 0 ≤ p ∧ p < 601 ∧ f p = b ∧ ∀ x : Int, 0 ≤ x → x < p → f x ≠ b
theorem isFst_u {f : Int → Int} {b p q : Int} (h1 : isFst f b p) (h2 : isFst f b q) : p = q := by
  obtain ⟨a1, a2, a3, a4⟩ := h1
  obtain ⟨b1, b2, b3, b4⟩ := h2
  by_cases e : p < q
  · exact absurd a3 (b4 p a1 e)
  · by_cases e2 : q < p
    · exact absurd b3 (a4 q b1 e2)
    · omega
/-- reading k leads from p to a place from which it costs no more than it must -/
def gdK (U : Int) (rv rc nx : Int → Int) (lf p k : Int) : Prop := p + U * rv k < 601 ∧ rc k + nx (p + U * rv k) = lf
/-- the least such place -/
def isLst (U : Int) (n : Nat) (rv rc nx : Int → Int) (lf p q : Int) : Prop := (∃ k : Int, 0 ≤ k ∧ k < n ∧ gdK U rv rc nx lf p k ∧ q = p + U * rv k) ∧ ∀ k : Int, 0 ≤ k → k < n → gdK U rv rc nx lf p k → q ≤ p + U * rv k
theorem isLst_u {U : Int} {n : Nat} {rv rc nx : Int → Int} {lf p q q2 : Int} (h1 : isLst U n rv rc nx lf p q) (h2 : isLst U n rv rc nx lf p q2) : q = q2 := by
  obtain ⟨⟨k, k0, k1, k2, k3⟩, a⟩ := h1
  obtain ⟨⟨j, j0, j1, j2, j3⟩, b⟩ := h2
  have := a j j0 j1 j2
  have := b k k0 k1 k2
  omega
/-- the best row of places: R q p the least cost with q stations behind -/
def bRow (N U : Int) (rs : Int → Nat) (rv rc ow : Int → Int → Int) (R : Nat → Int → Int) (row : Int → Int) : Prop := isFst (R (N - 1).toNat) (mnP (R (N - 1).toNat) 601) (row 0) ∧ ∀ i : Int, 0 ≤ i → i + 1 < N → isLst U (rs i) (rv i) (rc i) (R (N - 2 - i).toNat) (R (N - 1 - i).toNat (row i) - ow i (row i)) (row i) (row (i + 1))
theorem bRow_u {N U : Int} {rs : Int → Nat} {rv rc ow : Int → Int → Int} {R : Nat → Int → Int} {a b : Int → Int} (h1 : bRow N U rs rv rc ow R a) (h2 : bRow N U rs rv rc ow R b) : ∀ i : Nat, (i : Int) < N → a i = b i
  | 0, _ => isFst_u h1.1 h2.1
  | i + 1, hi => by
    have e := bRow_u h1 h2 i (by omega)
    have p := h1.2 i (by omega) (by omega)
    have q := h2.2 i (by omega) (by omega)
    rw [← e] at q
    have := isLst_u p q
    rw [show ((i + 1 : Nat) : Int) = (i : Int) + 1 by omega]
    exact this
/-- from a finite place a finite one follows -/
theorem RM_step {h : sH} {m : Nat} {g : Int → Int → Int → Int} {n : Int → Int → Int} {rg : Int → Int → Int} {rn : Int → Int} {sg : Int → Int → Int} {sn : Int → Int} (hI : mdI h m g n rg rn sg sn) {l1 day i p : Int} (l0 : 0 ≤ l1) (l2 : l1 < h m 5) (i0 : 0 ≤ i) (i1 : i + 1 < h (m + 5) l1) (fin : RM h m g n rg rn l1 day (h (m + 5) l1 - 1 - i).toNat p < 1000000) : RM h m g n rg rn l1 day (h (m + 5) l1 - 1 - i).toNat p - owF h m g n rg rn l1 day i p = mnR (h (m + 4) l1) (rvM h m l1 i) (rcM h m l1 i) (RM h m g n rg rn l1 day (h (m + 5) l1 - 2 - i).toNat) p (rsM h m l1 i) ∧ mnR (h (m + 4) l1) (rvM h m l1 i) (rcM h m l1 i) (RM h m g n rg rn l1 day (h (m + 5) l1 - 2 - i).toNat) p (rsM h m l1 i) < 1000000 := by
  have e : RM h m g n rg rn l1 day (h (m + 5) l1 - 1 - i).toNat p = capA (mnR (h (m + 4) l1) (rvM h m l1 i) (rcM h m l1 i) (RM h m g n rg rn l1 day (h (m + 5) l1 - 2 - i).toNat) p (rsM h m l1 i)) (owF h m g n rg rn l1 day i p) := by
    rw [show (h (m + 5) l1 - 1 - i).toNat = (h (m + 5) l1 - 2 - i).toNat + 1 by omega]
    unfold RM
    simp only [RSt]
    rw [show h (m + 5) l1 - 2 - ((h (m + 5) l1 - 2 - i).toNat : Int) = i by omega]
  rw [e] at fin ⊢
  unfold capA at fin ⊢
  split at fin
  · omega
  · rename_i q
    rw [if_neg q]
    omega
theorem c_X12_bests {l : Launch} {D : va_G} {aC : Nat → ClassId} {B t sz : Nat} {S : sS} {r : sR} {h : sH} {m : Nat} {l1 day : Int} {g : Int → Int → Int → Int} {n : Int → Int → Int} {rg sg : Int → Int → Int} {rn sn : Int → Int} (hM : LX12 S r m) (hI : mdI h m g n rg rn sg sn) (l0 : 0 ≤ l1) (l2 : l1 < h m 5) (d0 : 0 ≤ day) (d1 : day ≤ h m 29) : CtI l yX12_bests cX12_bests 9 (some .boolean) 5 133 [.ref m, .int (iI l1), .int (iI day)] D aC B t sz S r h (fun z h1 => (∀ a : Nat, a ≠ m + 3 → a ≠ m + 19 → a ≠ m + 20 → a ≠ m + 21 → a ≠ m + 22 → a ≠ m + 23 → a ≠ m + 25 → a ≠ m + 26 → h1 a = h a) ∧ ((z = 0 ∧ mnP (RM h m g n rg rn l1 day (h (m + 5) l1 - 1).toNat) 601 = 1000000) ∨ (z = 1 ∧ mnP (RM h m g n rg rn l1 day (h (m + 5) l1 - 1).toNat) 601 < 1000000 ∧ bRow (h (m + 5) l1) (h (m + 4) l1) (rsM h m l1) (rvM h m l1) (rcM h m l1) (owF h m g n rg rn l1 day) (RM h m g n rg rn l1 day) (h1 (m + 25)) ∧ ∀ i : Int, 0 ≤ i → i + 1 < h (m + 5) l1 → h1 (m + 25) (i + 1) = h1 (m + 25) i + h (m + 4) l1 * h1 (m + 26) i ∧ 0 ≤ h1 (m + 26) i ∧ h1 (m + 26) i ≤ 450))) := by
  unfold CtI
  refine Ct.of (lv := [some (.ref m), some (.int (iI l1)), some (.int (iI day)), none, none, none, none, none, none]) (by decide +kernel) rfl (Nat.le_of_ble_eq_true rfl) (fun X hl q rt hnm => ?_)
  obtain ⟨-, hso, hLs, hNm, hU, hH, hRS, ⟨Y0, Y1⟩⟩ := id hI
  obtain ⟨LL0, LL4, hls⟩ := id hLs
  obtain ⟨hu23, N2, N10⟩ := hls l1 l0 l2
  have rmb := RM_in hI (day := day) l0 l2
  have owb := fun i p i0 i1 => owF_in hI (day := day) (i := i) (p := p) l0 l2 i0 i1
  have rsb := fun i i0 i1 => rsM_in hI (i := i) l0 l2 i0 i1
  obtain ⟨bs, hbs⟩ : ∃ bs, mnP (RM h m g n rg rn l1 day (h (m + 5) l1 - 1).toNat) 601 = bs := ⟨_, rfl⟩
  have bsb := mnP_in (f := RM h m g n rg rn l1 day (h (m + 5) l1 - 1).toNat) 601 (fun p p0 p1 => (rmb _ (by omega) p p0 (by omega)).1)
  rw [hbs] at bsb
  have rest : ∀ (hL : sH), laidM h hL m g n rg rn l1 day → bs < 1000000 → ∀ (p0 : Int), isFst (RM h m g n rg rn l1 day (h (m + 5) l1 - 1).toNat) bs p0 → ∀ (d i : Nat), (i : Int) + d = h (m + 5) l1 - 1 → ∀ (h2 : sH) (o6 o7 o8 : Option Value), noL o6 = true → noL o7 = true → (∀ a : Nat, a ≠ m + 25 → a ≠ m + 26 → h2 a = hL a) → h2 (m + 25) 0 = p0 → (∀ x : Int, 0 ≤ x → x ≤ i → 0 ≤ h2 (m + 25) x ∧ h2 (m + 25) x < 601 ∧ RM h m g n rg rn l1 day (h (m + 5) l1 - 1 - x).toNat (h2 (m + 25) x) < 1000000) → (∀ x : Int, 0 ≤ x → x < i → isLst (h (m + 4) l1) (rsM h m l1 x) (rvM h m l1 x) (rcM h m l1 x) (RM h m g n rg rn l1 day (h (m + 5) l1 - 2 - x).toNat) (RM h m g n rg rn l1 day (h (m + 5) l1 - 1 - x).toNat (h2 (m + 25) x) - owF h m g n rg rn l1 day x (h2 (m + 25) x)) (h2 (m + 25) x) (h2 (m + 25) (x + 1)) ∧ h2 (m + 25) (x + 1) = h2 (m + 25) x + h (m + 4) l1 * h2 (m + 26) x ∧ 0 ≤ h2 (m + 26) x ∧ h2 (m + 26) x ≤ 450) → G X 0 0 46 [some (.ref m), some (.int (iI l1)), some (.int (iI day)), some (.int (iI bs)), some (.int (iI p0)), some (.int (iI i)), o6, o7, o8] [] sz S r h2 := by
    intro hL hLd bf p0 hp0 d
    induction d with
    | zero =>
      intro i hi h2 o6 o7 o8 n6 n7 hA e0 hx hy
      have e5 : h2 (m + 5) l1 = h (m + 5) l1 := by rw [hA _ (by omega) (by omega), hLd.1 _ (by omega) (by omega) (by omega) (by omega) (by omega) (by omega)]
      refine r_iload_5 (pc := 46) q dX12_bests_46 ?_
      refine r_iconst (pc := 48) q dX12_bests_48 ?_
      refine r_iadd (pc := 49) q dX12_bests_49 ?_
      refine r_aload_0 (pc := 50) q dX12_bests_50 ?_
      refine r_getr (pc := 51) q fX12_23 (kz := 7) rfl (by decide) rfl hM.o hM.r_stations dX12_bests_51 ?_
      refine r_iload_1 (pc := 54) q dX12_bests_54 ?_
      refine r_iald (pc := 55) q hM.s_stations (by omega) (by omega) dX12_bests_55 ?_
      rw [e5]
      refine r_icmp_ge (pc := 56) q 252 dX12_bests_56 (by decide) ⟨by omega, by omega⟩ ⟨by omega, by omega⟩ (fun c56 => ?_) (fun c56 => ?_)
      · refine r_iconst (pc := 252) q dX12_bests_252 ?_
        refine r_zreturn (pc := 253) q rt dX12_bests_253 (by decide) ?_
        refine ⟨fun a a1 a2 a3 a4 a5 a6 a7 a8 => by rw [hA a a7 a8]; exact hLd.1 a a1 a2 a3 a4 a5 a6, Or.inr ⟨rfl, by rw [hbs]; exact bf, ⟨by rw [hbs, e0]; exact hp0, fun x x0 x1 => (hy x x0 (by omega)).1⟩, fun x x0 x1 => (hy x x0 (by omega)).2⟩⟩
      exact absurd (show h (m + 5) l1 ≤ (i : Int) + 1 by omega) c56
    | succ d ih =>
      intro i hi h2 o6 o7 o8 n6 n7 hA e0 hx hy
      have e5 : h2 (m + 5) l1 = h (m + 5) l1 := by rw [hA _ (by omega) (by omega), hLd.1 _ (by omega) (by omega) (by omega) (by omega) (by omega) (by omega)]
      obtain ⟨P, hP⟩ : ∃ P, h2 (m + 25) i = P := ⟨_, rfl⟩
      have hxi := hx i (by omega) (by omega)
      rw [hP] at hxi
      obtain ⟨P0, P6, Pf⟩ := hxi
      have lay0 := hLd.2.2 i P (by omega) (by omega) P0 P6
      have r23 : h2 (m + 23) (601 * i + P) = RM h m g n rg rn l1 day (h (m + 5) l1 - 1 - i).toNat P := by rw [hA _ (by omega) (by omega)]; exact lay0.2
      have r22 : h2 (m + 22) (601 * i + P) = owF h m g n rg rn l1 day i P := by rw [hA _ (by omega) (by omega)]; exact lay0.1
      have ob := owb i P (by omega) (by omega)
      have rb := rmb (h (m + 5) l1 - 1 - i).toNat (by omega) P P0 P6
      obtain ⟨st1, st2⟩ := RM_step hI (day := day) (p := P) l0 l2 (show (0 : Int) ≤ i by omega) (by omega) Pf
      obtain ⟨lf, hlf⟩ : ∃ lf, RM h m g n rg rn l1 day (h (m + 5) l1 - 1 - i).toNat P - owF h m g n rg rn l1 day i P = lf := ⟨_, rfl⟩
      rw [hlf] at st1
      rw [← st1] at st2
      obtain ⟨rs1, rs21, rsk⟩ := rsb i (by omega) (by omega)
      have hrow := hLd.2.1 i (by omega) (by omega)
      have inner : ∀ (e j : Nat), j + e = rsM h m l1 i → ∀ (h3 : sH) (o8 : Option Value), (∀ a : Nat, a ≠ m + 25 → a ≠ m + 26 → h3 a = hL a) → (∀ x : Int, 0 ≤ x → x ≤ i → h3 (m + 25) x = h2 (m + 25) x) → (∀ x : Int, 0 ≤ x → x < i → h3 (m + 26) x = h2 (m + 26) x) → ((h3 (m + 25) (i + 1) = 601 ∧ ∀ k : Int, 0 ≤ k → k < j → ¬ gdK (h (m + 4) l1) (rvM h m l1 i) (rcM h m l1 i) (RM h m g n rg rn l1 day (h (m + 5) l1 - 2 - i).toNat) lf P k) ∨ (∃ k : Int, 0 ≤ k ∧ k < j ∧ gdK (h (m + 4) l1) (rvM h m l1 i) (rcM h m l1 i) (RM h m g n rg rn l1 day (h (m + 5) l1 - 2 - i).toNat) lf P k ∧ h3 (m + 25) (i + 1) = P + h (m + 4) l1 * rvM h m l1 i k ∧ h3 (m + 26) i = rvM h m l1 i k ∧ ∀ k2 : Int, 0 ≤ k2 → k2 < j → gdK (h (m + 4) l1) (rvM h m l1 i) (rcM h m l1 i) (RM h m g n rg rn l1 day (h (m + 5) l1 - 2 - i).toNat) lf P k2 → h3 (m + 25) (i + 1) ≤ P + h (m + 4) l1 * rvM h m l1 i k2)) → G X 0 0 115 [some (.ref m), some (.int (iI l1)), some (.int (iI day)), some (.int (iI bs)), some (.int (iI p0)), some (.int (iI i)), some (.int (iI lf)), some (.int (iI j)), o8] [] sz S r h3 := by
        intro e
        induction e with
        | zero =>
          intro j hj h3 o8 hA3 hx3 hy3 hc
          have r21 : h3 (m + 21) i = rsM h m l1 i := by rw [hA3 _ (by omega) (by omega)]; exact hrow.1
          refine r_iload_7 (pc := 115) q dX12_bests_115 ?_
          refine r_aload_0 (pc := 117) q dX12_bests_117 ?_
          refine r_getr (pc := 118) q fX12_82 (kz := 32) rfl (by decide) rfl hM.o hM.r_values dX12_bests_118 ?_
          refine r_iload_5 (pc := 121) q dX12_bests_121 ?_
          refine r_iald (pc := 123) q hM.s_values (by omega) (by omega) dX12_bests_123 ?_
          rw [r21]
          refine r_icmp_ge (pc := 124) q 246 dX12_bests_124 (by decide) ⟨by omega, by omega⟩ ⟨by omega, by omega⟩ (fun c124 => ?_) (fun c124 => ?_)
          · refine r_iinc_5 (pc := 246) q dX12_bests_246 rfl ?_
            refine r_goto (pc := 249) (tgt := 46) q dX12_bests_249 (by decide) ?_
            rcases hc with ⟨q1, q2⟩ | ⟨k, k0, k1, k2, k3, k4, k5⟩
            · obtain ⟨k, k0, k1, k2, k3⟩ := mnR_att _ (by rw [← st1]; exact st2)
              exact absurd ⟨k2, by rw [k3]; exact st1.symm⟩ (q2 k k0 (by omega))
            · have kb := rsk k k0 (by omega)
              have ub : 2 ≤ h (m + 4) l1 * rvM h m l1 i k ∧ h (m + 4) l1 * rvM h m l1 i k ≤ 1350 := by
                rcases hu23 with u | u <;> rw [u] <;> omega
              have nb := rmb (h (m + 5) l1 - 2 - i).toNat (by omega) (P + h (m + 4) l1 * rvM h m l1 i k) (by omega) k2.1
              have lst : isLst (h (m + 4) l1) (rsM h m l1 i) (rvM h m l1 i) (rcM h m l1 i) (RM h m g n rg rn l1 day (h (m + 5) l1 - 2 - i).toNat) lf P (h3 (m + 25) (i + 1)) := ⟨⟨k, k0, by omega, k2, k3⟩, fun k' q0 q1 q2 => k5 k' q0 (by omega) q2⟩
              refine ih (i + 1) (by omega) h3 _ _ _ rfl rfl hA3 (by rw [hx3 0 (by omega) (by omega)]; exact e0) (fun x x0 x1 => ?_) (fun x x0 x1 => ?_)
              · by_cases qx : x = i + 1
                · rw [qx, k3]
                  refine ⟨by omega, k2.1, ?_⟩
                  have := k2.2
                  rw [show h (m + 5) l1 - 1 - ((i : Int) + 1) = h (m + 5) l1 - 2 - i by omega]
                  omega
                · rw [hx3 x x0 (by omega)]; exact hx x x0 (by omega)
              · by_cases qx : x = i
                · rw [qx, hx3 i (by omega) (by omega), hP, hlf]
                  exact ⟨lst, by rw [k3, k4], by omega, by omega⟩
                · rw [hx3 x x0 (by omega), hx3 (x + 1) (by omega) (by omega), hy3 x x0 (by omega)]; exact hy x x0 (by omega)
          exact absurd (show (rsM h m l1 i : Int) ≤ (j : Int) by omega) c124
        | succ e ih2 =>
          intro j hj h3 o8 hA3 hx3 hy3 hc
          have r21 : h3 (m + 21) i = rsM h m l1 i := by rw [hA3 _ (by omega) (by omega)]; exact hrow.1
          have r4 : h3 (m + 4) l1 = h (m + 4) l1 := by rw [hA3 _ (by omega) (by omega), hLd.1 _ (by omega) (by omega) (by omega) (by omega) (by omega) (by omega)]
          have rw0 := hrow.2 j (by omega) (show (j : Int) < rsM h m l1 i by omega)
          have r19 : h3 (m + 19) (21 * i + j) = rvM h m l1 i j := by rw [hA3 _ (by omega) (by omega)]; exact rw0.1
          have r20 : h3 (m + 20) (21 * i + j) = rcM h m l1 i j := by rw [hA3 _ (by omega) (by omega)]; exact rw0.2
          have r25 : h3 (m + 25) i = P := by rw [hx3 i (by omega) (by omega)]; exact hP
          have kj := rsk j (by omega) (by omega)
          have ub : 2 ≤ h (m + 4) l1 * rvM h m l1 i j ∧ h (m + 4) l1 * rvM h m l1 i j ≤ 1350 := by
            rcases hu23 with u | u <;> rw [u] <;> omega
          obtain ⟨x, hx0⟩ : ∃ x, P + h (m + 4) l1 * rvM h m l1 i j = x := ⟨_, rfl⟩
          have cb : h3 (m + 25) (i + 1) ≤ 601 ∧ 0 ≤ h3 (m + 25) (i + 1) := by
            rcases hc with ⟨q1, -⟩ | ⟨k, k0, k1, k2, k3, -⟩
            · omega
            · have kb := rsk k k0 (by omega)
              have : 2 ≤ h (m + 4) l1 * rvM h m l1 i k := by rcases hu23 with u | u <;> rw [u] <;> omega
              have := k2.1
              omega
          have skip : (¬ (x < h3 (m + 25) (i + 1) ∧ gdK (h (m + 4) l1) (rvM h m l1 i) (rcM h m l1 i) (RM h m g n rg rn l1 day (h (m + 5) l1 - 2 - i).toNat) lf P j)) → G X 0 0 240 [some (.ref m), some (.int (iI l1)), some (.int (iI day)), some (.int (iI bs)), some (.int (iI p0)), some (.int (iI i)), some (.int (iI lf)), some (.int (iI j)), some (.int (iI x))] [] sz S r h3 := by
            intro hn
            refine r_iinc_7 (pc := 240) q dX12_bests_240 rfl ?_
            refine r_goto (pc := 243) (tgt := 115) q dX12_bests_243 (by decide) ?_
            refine ih2 (j + 1) (by omega) h3 _ hA3 hx3 hy3 ?_
            rcases hc with ⟨q1, q2⟩ | ⟨k, k0, k1, k2, k3, k4, k5⟩
            · refine Or.inl ⟨q1, fun k k0 k1 gk => ?_⟩
              by_cases ek : k = j
              · rw [ek] at gk; exact hn ⟨by have := gk.1; omega, gk⟩
              · exact q2 k k0 (by omega) gk
            · refine Or.inr ⟨k, k0, by omega, k2, k3, k4, fun k' q0 q1 gk => ?_⟩
              by_cases ek : k' = j
              · rw [ek] at gk ⊢; rw [hx0]; exact Int.not_lt.mp (fun z => hn ⟨z, gk⟩)
              · exact k5 k' q0 (by omega) gk
          refine r_iload_7 (pc := 115) q dX12_bests_115 ?_
          refine r_aload_0 (pc := 117) q dX12_bests_117 ?_
          refine r_getr (pc := 118) q fX12_82 (kz := 32) rfl (by decide) rfl hM.o hM.r_values dX12_bests_118 ?_
          refine r_iload_5 (pc := 121) q dX12_bests_121 ?_
          refine r_iald (pc := 123) q hM.s_values (by omega) (by omega) dX12_bests_123 ?_
          rw [r21]
          refine r_icmp_ge (pc := 124) q 246 dX12_bests_124 (by decide) ⟨by omega, by omega⟩ ⟨by omega, by omega⟩ (fun c124 => ?_) (fun c124 => ?_)
          · exact absurd c124 (by omega)
          refine r_aload_0 (pc := 127) q dX12_bests_127 ?_
          refine r_getr (pc := 128) q fX12_94 (kz := 36) rfl (by decide) rfl hM.o hM.r_row dX12_bests_128 ?_
          refine r_iload_5 (pc := 131) q dX12_bests_131 ?_
          refine r_iald (pc := 133) q hM.s_row (by omega) (by omega) dX12_bests_133 ?_
          rw [r25]
          refine r_aload_0 (pc := 134) q dX12_bests_134 ?_
          refine r_getr (pc := 135) q fX12_20 (kz := 6) rfl (by decide) rfl hM.o hM.r_unit dX12_bests_135 ?_
          refine r_iload_1 (pc := 138) q dX12_bests_138 ?_
          refine r_iald (pc := 139) q hM.s_unit (by omega) (by omega) dX12_bests_139 ?_
          rw [r4]
          refine r_aload_0 (pc := 140) q dX12_bests_140 ?_
          refine r_getr (pc := 141) q fX12_76 (kz := 30) rfl (by decide) rfl hM.o hM.r_value dX12_bests_141 ?_
          refine r_bipush (pc := 144) q dX12_bests_144 (by decide) ?_
          refine r_iload_5 (pc := 146) q dX12_bests_146 ?_
          refine r_imul (pc := 148) q dX12_bests_148 ?_
          refine r_iload_7 (pc := 149) q dX12_bests_149 ?_
          refine r_iadd (pc := 151) q dX12_bests_151 ?_
          refine r_iald (pc := 152) q hM.s_value (by omega) (by omega) dX12_bests_152 ?_
          rw [r19]
          refine r_imul (pc := 153) q dX12_bests_153 ?_
          refine r_iadd (pc := 154) q dX12_bests_154 ?_
          rw [hx0]
          refine r_istore_8 (pc := 155) q dX12_bests_155 rfl ?_
          refine r_iload_8 (pc := 157) q dX12_bests_157 ?_
          refine r_aload_0 (pc := 159) q dX12_bests_159 ?_
          refine r_getr (pc := 160) q fX12_94 (kz := 36) rfl (by decide) rfl hM.o hM.r_row dX12_bests_160 ?_
          refine r_iload_5 (pc := 163) q dX12_bests_163 ?_
          refine r_iconst (pc := 165) q dX12_bests_165 ?_
          refine r_iadd (pc := 166) q dX12_bests_166 ?_
          refine r_iald (pc := 167) q hM.s_row (by omega) (by omega) dX12_bests_167 ?_
          refine r_icmp_ge (pc := 168) q 240 dX12_bests_168 (by decide) ⟨by omega, by omega⟩ ⟨by omega, by omega⟩ (fun c168 => ?_) (fun c168 => ?_)
          · exact skip (fun z => by omega)
          refine r_aload_0 (pc := 171) q dX12_bests_171 ?_
          refine r_getr (pc := 172) q fX12_79 (kz := 31) rfl (by decide) rfl hM.o hM.r_cost dX12_bests_172 ?_
          refine r_bipush (pc := 175) q dX12_bests_175 (by decide) ?_
          refine r_iload_5 (pc := 177) q dX12_bests_177 ?_
          refine r_imul (pc := 179) q dX12_bests_179 ?_
          refine r_iload_7 (pc := 180) q dX12_bests_180 ?_
          refine r_iadd (pc := 182) q dX12_bests_182 ?_
          refine r_iald (pc := 183) q hM.s_cost (by omega) (by omega) dX12_bests_183 ?_
          rw [r20]
          refine r_aload_0 (pc := 184) q dX12_bests_184 ?_
          refine r_getr (pc := 185) q fX12_88 (kz := 34) rfl (by decide) rfl hM.o hM.r_rest dX12_bests_185 ?_
          refine r_sipush (pc := 188) q dX12_bests_188 (by decide) ?_
          refine r_iload_5 (pc := 191) q dX12_bests_191 ?_
          refine r_iconst (pc := 193) q dX12_bests_193 ?_
          refine r_iadd (pc := 194) q dX12_bests_194 ?_
          refine r_imul (pc := 195) q dX12_bests_195 ?_
          refine r_iload_8 (pc := 196) q dX12_bests_196 ?_
          refine r_iadd (pc := 198) q dX12_bests_198 ?_
          refine r_iald (pc := 199) q hM.s_rest (by omega) (by omega) dX12_bests_199 ?_
          have rx : h3 (m + 23) (601 * ((i : Int) + 1) + x) = RM h m g n rg rn l1 day (h (m + 5) l1 - 2 - i).toNat x := by
            rw [hA3 _ (by omega) (by omega), (hLd.2.2 (i + 1) x (by omega) (by omega) (by omega) (by omega)).2, show h (m + 5) l1 - 1 - ((i : Int) + 1) = h (m + 5) l1 - 2 - i by omega]
          rw [rx]
          have nb := rmb (h (m + 5) l1 - 2 - i).toNat (by omega) x (by omega) (by omega)
          refine r_iadd (pc := 200) q dX12_bests_200 ?_
          refine r_iload_6 (pc := 201) q dX12_bests_201 ?_
          refine r_icmp_eq (pc := 203) q 209 dX12_bests_203 (by decide) ⟨by omega, by omega⟩ ⟨by omega, by omega⟩ (fun c203 => ?_) (fun c203 => ?_)
          · refine r_aload_0 (pc := 209) q dX12_bests_209 ?_
            refine r_getr (pc := 210) q fX12_94 (kz := 36) rfl (by decide) rfl hM.o hM.r_row dX12_bests_210 ?_
            refine r_iload_5 (pc := 213) q dX12_bests_213 ?_
            refine r_iconst (pc := 215) q dX12_bests_215 ?_
            refine r_iadd (pc := 216) q dX12_bests_216 ?_
            refine r_iload_8 (pc := 217) q dX12_bests_217 ?_
            refine r_iast (pc := 219) q hM.s_row (by omega) (by omega) dX12_bests_219 (fun h4 eh4 => ?_)
            refine r_aload_0 (pc := 220) q dX12_bests_220 ?_
            refine r_getr (pc := 221) q fX12_97 (kz := 37) rfl (by decide) rfl hM.o hM.r_taken dX12_bests_221 ?_
            refine r_iload_5 (pc := 224) q dX12_bests_224 ?_
            refine r_aload_0 (pc := 226) q dX12_bests_226 ?_
            refine r_getr (pc := 227) q fX12_76 (kz := 30) rfl (by decide) rfl hM.o hM.r_value dX12_bests_227 ?_
            refine r_bipush (pc := 230) q dX12_bests_230 (by decide) ?_
            refine r_iload_5 (pc := 232) q dX12_bests_232 ?_
            refine r_imul (pc := 234) q dX12_bests_234 ?_
            refine r_iload_7 (pc := 235) q dX12_bests_235 ?_
            refine r_iadd (pc := 237) q dX12_bests_237 ?_
            refine r_iald (pc := 238) q (hM.s_value) (by omega) (by omega) dX12_bests_238 ?_
            have w19 : h4 (m + 19) (21 * i + j) = rvM h m l1 i j := by rw [eh4, up_n _ _ (by omega)]; exact r19
            rw [w19]
            refine r_iast (pc := 239) q hM.s_taken (by omega) (by omega) dX12_bests_239 (fun h5 eh5 => ?_)
            have gk : gdK (h (m + 4) l1) (rvM h m l1 i) (rcM h m l1 i) (RM h m g n rg rn l1 day (h (m + 5) l1 - 2 - i).toNat) lf P j := ⟨by rw [hx0]; omega, by rw [hx0]; exact c203⟩
            have e25 : h5 (m + 25) = up (h3 (m + 25)) (i + 1) x := by rw [eh5, up_n _ _ (by omega), eh4, up_s]
            have e26 : h5 (m + 26) = up (h3 (m + 26)) i (rvM h m l1 i j) := by rw [eh5, up_s, eh4, up_n _ _ (by omega)]
            refine r_iinc_7 (pc := 240) q dX12_bests_240 rfl ?_
            refine r_goto (pc := 243) (tgt := 115) q dX12_bests_243 (by decide) ?_
            refine ih2 (j + 1) (by omega) h5 _ (fun a a1 a2 => by rw [eh5, up_n _ _ a2, eh4, up_n _ _ a1]; exact hA3 a a1 a2) (fun y y0 y1 => by rw [e25, up_n _ _ (by omega)]; exact hx3 y y0 y1) (fun y y0 y1 => by rw [e26, up_n _ _ (by omega)]; exact hy3 y y0 y1) (Or.inr ⟨j, by omega, by omega, gk, by rw [e25, up_s, hx0], by rw [e26, up_s], fun k' q0 q1 gk' => ?_⟩)
            rw [e25, up_s]
            by_cases ek : k' = j
            · rw [ek, hx0]; omega
            · rcases hc with ⟨q2, q3⟩ | ⟨k, k0, k1, k2, k3, k4, k5⟩
              · exact absurd gk' (q3 k' q0 (by omega))
              · have := k5 k' q0 (by omega) gk'; omega
          refine r_goto (pc := 206) (tgt := 240) q dX12_bests_206 (by decide) ?_
          exact skip (fun z => c203 (by have := z.2.2; rw [hx0] at this; exact this))
      refine r_iload_5 (pc := 46) q dX12_bests_46 ?_
      refine r_iconst (pc := 48) q dX12_bests_48 ?_
      refine r_iadd (pc := 49) q dX12_bests_49 ?_
      refine r_aload_0 (pc := 50) q dX12_bests_50 ?_
      refine r_getr (pc := 51) q fX12_23 (kz := 7) rfl (by decide) rfl hM.o hM.r_stations dX12_bests_51 ?_
      refine r_iload_1 (pc := 54) q dX12_bests_54 ?_
      refine r_iald (pc := 55) q hM.s_stations (by omega) (by omega) dX12_bests_55 ?_
      rw [e5]
      refine r_icmp_ge (pc := 56) q 252 dX12_bests_56 (by decide) ⟨by omega, by omega⟩ ⟨by omega, by omega⟩ (fun c56 => ?_) (fun c56 => ?_)
      · exact absurd c56 (by omega)
      refine r_aload_0 (pc := 59) q dX12_bests_59 ?_
      refine r_getr (pc := 60) q fX12_88 (kz := 34) rfl (by decide) rfl hM.o hM.r_rest dX12_bests_60 ?_
      refine r_sipush (pc := 63) q dX12_bests_63 (by decide) ?_
      refine r_iload_5 (pc := 66) q dX12_bests_66 ?_
      refine r_imul (pc := 68) q dX12_bests_68 ?_
      refine r_aload_0 (pc := 69) q dX12_bests_69 ?_
      refine r_getr (pc := 70) q fX12_94 (kz := 36) rfl (by decide) rfl hM.o hM.r_row dX12_bests_70 ?_
      refine r_iload_5 (pc := 73) q dX12_bests_73 ?_
      refine r_iald (pc := 75) q hM.s_row (by omega) (by omega) dX12_bests_75 ?_
      rw [hP]
      refine r_iadd (pc := 76) q dX12_bests_76 ?_
      refine r_iald (pc := 77) q hM.s_rest (by omega) (by omega) dX12_bests_77 ?_
      rw [r23]
      refine r_aload_0 (pc := 78) q dX12_bests_78 ?_
      refine r_getr (pc := 79) q fX12_85 (kz := 33) rfl (by decide) rfl hM.o hM.r_own dX12_bests_79 ?_
      refine r_sipush (pc := 82) q dX12_bests_82 (by decide) ?_
      refine r_iload_5 (pc := 85) q dX12_bests_85 ?_
      refine r_imul (pc := 87) q dX12_bests_87 ?_
      refine r_aload_0 (pc := 88) q dX12_bests_88 ?_
      refine r_getr (pc := 89) q fX12_94 (kz := 36) rfl (by decide) rfl hM.o hM.r_row dX12_bests_89 ?_
      refine r_iload_5 (pc := 92) q dX12_bests_92 ?_
      refine r_iald (pc := 94) q hM.s_row (by omega) (by omega) dX12_bests_94 ?_
      rw [hP]
      refine r_iadd (pc := 95) q dX12_bests_95 ?_
      refine r_iald (pc := 96) q hM.s_own (by omega) (by omega) dX12_bests_96 ?_
      rw [r22]
      refine r_isub (pc := 97) q dX12_bests_97 ?_
      rw [hlf]
      refine r_istore_6 (pc := 98) q dX12_bests_98 rfl ?_
      refine r_aload_0 (pc := 100) q dX12_bests_100 ?_
      refine r_getr (pc := 101) q fX12_94 (kz := 36) rfl (by decide) rfl hM.o hM.r_row dX12_bests_101 ?_
      refine r_iload_5 (pc := 104) q dX12_bests_104 ?_
      refine r_iconst (pc := 106) q dX12_bests_106 ?_
      refine r_iadd (pc := 107) q dX12_bests_107 ?_
      refine r_sipush (pc := 108) q dX12_bests_108 (by decide) ?_
      refine r_iast (pc := 111) q hM.s_row (by omega) (by omega) dX12_bests_111 (fun h3 eh3 => ?_)
      refine r_iconst (pc := 112) q dX12_bests_112 ?_
      refine r_istore_7 (pc := 113) q dX12_bests_113 rfl ?_
      refine inner (rsM h m l1 i) 0 (by omega) h3 _ (fun a a1 a2 => by rw [eh3, up_n _ _ a1]; exact hA a a1 a2) (fun x x0 x1 => by rw [eh3, up_s, up_n _ _ (by omega)]) (fun x x0 x1 => by rw [eh3, up_n _ _ (by omega)]) (Or.inl ⟨by rw [eh3, up_s, up_s], fun k k0 k1 => by omega⟩)
  have lp : ∀ (h1 : sH), laidM h h1 m g n rg rn l1 day → bs < 1000000 → ∀ pm : Int, 0 ≤ pm → pm < 601 → RM h m g n rg rn l1 day (h (m + 5) l1 - 1).toNat pm = bs → ∀ (d j : Nat), (j : Int) + d = pm → (∀ x : Int, 0 ≤ x → x < j → RM h m g n rg rn l1 day (h (m + 5) l1 - 1).toNat x ≠ bs) → G X 0 0 18 [some (.ref m), some (.int (iI l1)), some (.int (iI day)), some (.int (iI bs)), some (.int (iI j)), none, none, none, none] [] sz S r h1 := by
    intro h1 hLd bf pm pm0 pm1 pm2 d
    induction d with
    | zero =>
      intro j hj hx
      have e := (hLd.2.2 0 j (by omega) (by omega) (by omega) (by omega)).2
      rw [show (601 * 0 + (j : Int)) = j by omega, show h (m + 5) l1 - 1 - 0 = h (m + 5) l1 - 1 by omega] at e
      have ej : (j : Int) = pm := by omega
      have fs : isFst (RM h m g n rg rn l1 day (h (m + 5) l1 - 1).toNat) bs j := ⟨by omega, by omega, by rw [ej]; exact pm2, hx⟩
      refine r_aload_0 (pc := 18) q dX12_bests_18 ?_
      refine r_getr (pc := 19) q fX12_88 (kz := 34) rfl (by decide) rfl hM.o hM.r_rest dX12_bests_19 ?_
      refine r_iload_4 (pc := 22) q dX12_bests_22 ?_
      refine r_iald (pc := 24) q hM.s_rest (by omega) (by omega) dX12_bests_24 ?_
      rw [e]
      have rb := rmb (h (m + 5) l1 - 1).toNat (by omega) j (by omega) (by omega)
      refine r_iload_3 (pc := 25) q dX12_bests_25 ?_
      refine r_icmp_eq (pc := 26) q 35 dX12_bests_26 (by decide) ⟨by omega, by omega⟩ ⟨by omega, by omega⟩ (fun c26 => ?_) (fun c26 => ?_)
      · refine r_aload_0 (pc := 35) q dX12_bests_35 ?_
        refine r_getr (pc := 36) q fX12_94 (kz := 36) rfl (by decide) rfl hM.o hM.r_row dX12_bests_36 ?_
        refine r_iconst (pc := 39) q dX12_bests_39 ?_
        refine r_iload_4 (pc := 40) q dX12_bests_40 ?_
        refine r_iast (pc := 42) q hM.s_row (by omega) (by omega) dX12_bests_42 (fun h2 eh2 => ?_)
        refine r_iconst (pc := 43) q dX12_bests_43 ?_
        refine r_istore_5 (pc := 44) q dX12_bests_44 rfl ?_
        have e25 : h2 (m + 25) = up (h1 (m + 25)) 0 j := by rw [eh2, up_s]
        refine rest h1 hLd bf j fs (h (m + 5) l1 - 1).toNat 0 (by omega) h2 _ _ _ rfl rfl (fun a a1 _ => by rw [eh2, up_n _ _ a1]) (by rw [e25, up_s]) (fun x x0 x1 => ?_) (fun x x0 x1 => by omega)
        rw [show x = 0 by omega, e25, up_s]
        refine ⟨by omega, by omega, ?_⟩
        rw [show h (m + 5) l1 - 1 - 0 = h (m + 5) l1 - 1 by omega, ej, pm2]
        exact bf
      exact absurd (by rw [ej]; exact pm2) c26
    | succ d ih =>
      intro j hj hx
      have e := (hLd.2.2 0 j (by omega) (by omega) (by omega) (by omega)).2
      rw [show (601 * 0 + (j : Int)) = j by omega, show h (m + 5) l1 - 1 - 0 = h (m + 5) l1 - 1 by omega] at e
      refine r_aload_0 (pc := 18) q dX12_bests_18 ?_
      refine r_getr (pc := 19) q fX12_88 (kz := 34) rfl (by decide) rfl hM.o hM.r_rest dX12_bests_19 ?_
      refine r_iload_4 (pc := 22) q dX12_bests_22 ?_
      refine r_iald (pc := 24) q hM.s_rest (by omega) (by omega) dX12_bests_24 ?_
      rw [e]
      have rb := rmb (h (m + 5) l1 - 1).toNat (by omega) j (by omega) (by omega)
      refine r_iload_3 (pc := 25) q dX12_bests_25 ?_
      refine r_icmp_eq (pc := 26) q 35 dX12_bests_26 (by decide) ⟨by omega, by omega⟩ ⟨by omega, by omega⟩ (fun c26 => ?_) (fun c26 => ?_)
      · refine r_aload_0 (pc := 35) q dX12_bests_35 ?_
        refine r_getr (pc := 36) q fX12_94 (kz := 36) rfl (by decide) rfl hM.o hM.r_row dX12_bests_36 ?_
        refine r_iconst (pc := 39) q dX12_bests_39 ?_
        refine r_iload_4 (pc := 40) q dX12_bests_40 ?_
        refine r_iast (pc := 42) q hM.s_row (by omega) (by omega) dX12_bests_42 (fun h2 eh2 => ?_)
        refine r_iconst (pc := 43) q dX12_bests_43 ?_
        refine r_istore_5 (pc := 44) q dX12_bests_44 rfl ?_
        have e25 : h2 (m + 25) = up (h1 (m + 25)) 0 j := by rw [eh2, up_s]
        have fs : isFst (RM h m g n rg rn l1 day (h (m + 5) l1 - 1).toNat) bs j := ⟨by omega, by omega, c26, hx⟩
        refine rest h1 hLd bf j fs (h (m + 5) l1 - 1).toNat 0 (by omega) h2 _ _ _ rfl rfl (fun a a1 _ => by rw [eh2, up_n _ _ a1]) (by rw [e25, up_s]) (fun x x0 x1 => ?_) (fun x x0 x1 => by omega)
        rw [show x = 0 by omega, e25, up_s]
        refine ⟨by omega, by omega, ?_⟩
        rw [show h (m + 5) l1 - 1 - 0 = h (m + 5) l1 - 1 by omega, c26]
        exact bf
      refine r_iinc_4 (pc := 29) q dX12_bests_29 rfl ?_
      refine r_goto (pc := 32) (tgt := 18) q dX12_bests_32 (by decide) ?_
      refine ih (j + 1) (by omega) (fun x x0 x1 => ?_)
      by_cases ex : x = j
      · rw [ex]; exact c26
      · exact hx x x0 (by omega)
  refine r_aload_0 (pc := 0) q dX12_bests_0 ?_
  refine r_iload_1 (pc := 1) q dX12_bests_1 ?_
  refine r_iload_2 (pc := 2) q dX12_bests_2 ?_
  refine r_cI2 (pc := 3) q (c_X12_lays hM hI l0 l2 d0 d1) mX12_227 hM.o (by decide) (Nat.le_of_ble_eq_true rfl) rfl dX12_bests_3 (fun z1 h1 hz1 => ?_)
  obtain ⟨ez, hLd⟩ := hz1
  rw [hbs] at ez
  subst ez
  refine r_istore_3 (pc := 6) q dX12_bests_6 rfl ?_
  refine r_iload_3 (pc := 7) q dX12_bests_7 ?_
  refine r_ldc (pc := 8) q kX12_204 dX12_bests_8 ?_
  refine r_icmp_ne (pc := 10) q 15 dX12_bests_10 (by decide) ⟨by omega, by omega⟩ ⟨by omega, by omega⟩ (fun c10 => ?_) (fun c10 => ?_)
  · refine r_iconst (pc := 15) q dX12_bests_15 ?_
    refine r_istore_4 (pc := 16) q dX12_bests_16 rfl ?_
    have bf : z1 < 1000000 := by omega
    obtain ⟨pm, pm0, pm1, pm2⟩ := mnP_att (f := RM h m g n rg rn l1 day (h (m + 5) l1 - 1).toNat) 601 (by rw [hbs]; exact bf)
    rw [hbs] at pm2
    exact lp h1 hLd bf pm pm0 (by omega) pm2 pm.toNat 0 (by omega) (fun x x0 x1 => by omega)
  refine r_iconst (pc := 13) q dX12_bests_13 ?_
  refine r_zreturn (pc := 14) q rt dX12_bests_14 (by decide) ?_
  exact ⟨fun a a1 a2 a3 a4 a5 a6 _ _ => hLd.1 a a1 a2 a3 a4 a5 a6, Or.inl ⟨rfl, by rw [hbs]; exact c10⟩⟩
