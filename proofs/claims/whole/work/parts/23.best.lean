/-- two states hold the same of all that laying reads -/
def agM (h h2 : sH) (m : Nat) : Prop := (∀ a : Nat, m < a → a < m + 19 → a ≠ m + 1 → a ≠ m + 3 → h2 a = h a) ∧ h2 m 5 = h m 5 ∧ h2 m 14 = h m 14 ∧ h2 m 18 = h m 18 ∧ h2 m 23 = h m 23 ∧ h2 m 27 = h m 27 ∧ h2 m 28 = h m 28 ∧ h2 m 29 = h m 29
theorem agM_RM {h h2 : sH} {m : Nat} (e : agM h h2 m) (g : Int → Int → Int → Int) (n : Int → Int → Int) (rg : Int → Int → Int) (rn : Int → Int) (l1 day : Int) : RM h2 m g n rg rn l1 day = RM h m g n rg rn l1 day ∧ rsM h2 m l1 = rsM h m l1 ∧ rvM h2 m l1 = rvM h m l1 ∧ rcM h2 m l1 = rcM h m l1 ∧ owF h2 m g n rg rn l1 day = owF h m g n rg rn l1 day := by
  obtain ⟨A, e5, e14, e18, e23, e27, e28, e29⟩ := e
  have a2 := A (m + 2) (by omega) (by omega) (by omega) (by omega)
  have a4 := A (m + 4) (by omega) (by omega) (by omega) (by omega)
  have a5 := A (m + 5) (by omega) (by omega) (by omega) (by omega)
  have a6 := A (m + 6) (by omega) (by omega) (by omega) (by omega)
  have a7 := A (m + 7) (by omega) (by omega) (by omega) (by omega)
  have a8 := A (m + 8) (by omega) (by omega) (by omega) (by omega)
  have a9 := A (m + 9) (by omega) (by omega) (by omega) (by omega)
  have a11 := A (m + 11) (by omega) (by omega) (by omega) (by omega)
  have a12 := A (m + 12) (by omega) (by omega) (by omega) (by omega)
  have a13 := A (m + 13) (by omega) (by omega) (by omega) (by omega)
  have a14 := A (m + 14) (by omega) (by omega) (by omega) (by omega)
  have a15 := A (m + 15) (by omega) (by omega) (by omega) (by omega)
  have a16 := A (m + 16) (by omega) (by omega) (by omega) (by omega)
  have a17 := A (m + 17) (by omega) (by omega) (by omega) (by omega)
  have a18 := A (m + 18) (by omega) (by omega) (by omega) (by omega)
  have rl : ∀ k b, RLM h2 m k b = RLM h m k b := fun k b => by unfold RLM; rw [a7, a8, a16, a17]
  have co : ∀ k v b, COM h2 m k v b = COM h m k v b := fun k v b => by unfold COM; rw [a7, a8, a16, a17, a18]
  have q1 : rsM h2 m l1 = rsM h m l1 := by funext i; unfold rsM; rw [rl, e23]
  have q2 : rvM h2 m l1 = rvM h m l1 := by funext i; unfold rvM; rw [rl, e23]
  have q3 : rcM h2 m l1 = rcM h m l1 := by funext i k; unfold rcM; rw [co, q2, e23]
  have q4 : owF h2 m g n rg rn l1 day = owF h m g n rg rn l1 day := by
    funext i p
    unfold owF owM
    rw [e27, e14, e28, e18, a2, a6, a9, a11, a12, a13, a14, a15]
  exact ⟨by unfold RM; rw [q1, q2, q3, q4, a4, a5], q1, q2, q3, q4⟩
theorem agM_mdI {h h2 : sH} {m : Nat} (e : agM h h2 m) {g : Int → Int → Int → Int} {n : Int → Int → Int} {rg sg : Int → Int → Int} {rn sn : Int → Int} (t0 : 0 ≤ h2 m 2) (t1 : h2 m 2 ≤ 200) (hI : mdI h m g n rg rn sg sn) : mdI h2 m g n rg rn sg sn := by
  obtain ⟨A, e5, e14, e18, e23, e27, e28, e29⟩ := e
  have a2 := A (m + 2) (by omega) (by omega) (by omega) (by omega)
  have a4 := A (m + 4) (by omega) (by omega) (by omega) (by omega)
  have a5 := A (m + 5) (by omega) (by omega) (by omega) (by omega)
  have a6 := A (m + 6) (by omega) (by omega) (by omega) (by omega)
  have a7 := A (m + 7) (by omega) (by omega) (by omega) (by omega)
  have a8 := A (m + 8) (by omega) (by omega) (by omega) (by omega)
  have a9 := A (m + 9) (by omega) (by omega) (by omega) (by omega)
  have a10 := A (m + 10) (by omega) (by omega) (by omega) (by omega)
  have a11 := A (m + 11) (by omega) (by omega) (by omega) (by omega)
  have a12 := A (m + 12) (by omega) (by omega) (by omega) (by omega)
  have a13 := A (m + 13) (by omega) (by omega) (by omega) (by omega)
  have a14 := A (m + 14) (by omega) (by omega) (by omega) (by omega)
  have a15 := A (m + 15) (by omega) (by omega) (by omega) (by omega)
  have a16 := A (m + 16) (by omega) (by omega) (by omega) (by omega)
  have a17 := A (m + 17) (by omega) (by omega) (by omega) (by omega)
  have a18 := A (m + 18) (by omega) (by omega) (by omega) (by omega)
  unfold mdI lsR nmR nuR hbR rsR at *
  rw [a2, a4, a5, a6, a7, a8, a9, a10, a11, a12, a13, a14, a15, a16, a17, a18, e5, e14, e18, e23, e27, e28, e29]
  exact ⟨⟨t0, t1⟩, hI.2⟩
theorem agM_th {h h0 : sH} {m : Nat} (e : h0 = up h m (up (h m) 0 0)) : agM h h0 m := by
  obtain ⟨f0, f1⟩ := th0 e
  exact ⟨fun a a1 _ _ _ => f0 a (by omega), f1 5 (by decide), f1 14 (by decide), f1 18 (by decide), f1 23 (by decide), f1 27 (by decide), f1 28 (by decide), f1 29 (by decide)⟩
theorem c_X12_best {l : Launch} {D : va_G} {aC : Nat → ClassId} {B t sz : Nat} {S : sS} {r : sR} {h : sH} {m : Nat} {l1 day : Int} {g : Int → Int → Int → Int} {n : Int → Int → Int} {rg sg : Int → Int → Int} {rn sn : Int → Int} (hM : LX12 S r m) (hI : mdI h m g n rg rn sg sn) (hl1 : inR l1) (hd : inR day) : CtI l yX12_best cX12_best 4 (some .int) 5 133 [.ref m, .int (iI l1), .int (iI day)] D aC B t sz S r h (fun z h1 => (∀ a : Nat, a ≠ m → a ≠ m + 3 → a ≠ m + 19 → a ≠ m + 20 → a ≠ m + 21 → a ≠ m + 22 → a ≠ m + 23 → h1 a = h a) ∧ h1 m = up (h m) 0 0 ∧ ((¬ (0 ≤ l1 ∧ l1 < h m 5 ∧ 0 ≤ day ∧ day ≤ h m 29) ∧ z = -1) ∨ ((0 ≤ l1 ∧ l1 < h m 5 ∧ 0 ≤ day ∧ day ≤ h m 29) ∧ z = (if mnP (RM h m g n rg rn l1 day (h (m + 5) l1 - 1).toNat) 601 = 1000000 then -2 else mnP (RM h m g n rg rn l1 day (h (m + 5) l1 - 1).toNat) 601)))) := by
  unfold CtI
  refine Ct.of (lv := [some (.ref m), some (.int (iI l1)), some (.int (iI day)), none]) (by decide +kernel) rfl (Nat.le_of_ble_eq_true rfl) (fun X hl q rt hnm => ?_)
  refine r_aload_0 (pc := 0) q dX12_best_0 ?_
  refine r_iconst (pc := 1) q dX12_best_1 ?_
  refine r_puti (pc := 2) q fX12_106 (kz := 0) rfl (by decide) rfl hM.o dX12_best_2 (fun h0 eh0 => ?_)
  obtain ⟨f0, f1⟩ := th0 eh0
  have ag := agM_th eh0
  have hI0 := agM_mdI ag (by rw [f1 2 (by decide)]; exact hI.1.1) (by rw [f1 2 (by decide)]; exact hI.1.2) hI
  have e5 := f1 5 (by decide)
  have e29 := f1 29 (by decide)
  have eM : h0 m = up (h m) 0 0 := by rw [eh0, up_s]
  have L0 := hI.2.2.1.1
  have L4 := hI.2.2.1.2.1
  have Y0 := hI.2.2.2.2.2.2.2.1
  have Y1 := hI.2.2.2.2.2.2.2.2
  refine r_aload_0 (pc := 5) q dX12_best_5 ?_
  refine r_iload_1 (pc := 6) q dX12_best_6 ?_
  refine r_iload_2 (pc := 7) q dX12_best_7 ?_
  refine r_cI2 (pc := 8) q (c_X12_isAsked (by first | assumption | exact ⟨by omega, by omega⟩ | omega) (by first | assumption | exact ⟨by omega, by omega⟩ | omega) (by first | assumption | exact ⟨by omega, by omega⟩ | omega) (by first | assumption | exact ⟨by omega, by omega⟩ | omega) (by first | assumption | exact ⟨by omega, by omega⟩ | omega) (by first | assumption | exact ⟨by omega, by omega⟩ | omega) (by first | assumption | exact ⟨by omega, by omega⟩ | omega)) mX12_224 hM.o (by decide) (Nat.le_of_ble_eq_true rfl) rfl dX12_best_8 (fun z1 h1 hz1 => ?_)
  obtain ⟨hz1, rfl⟩ := hz1
  rw [e5, e29] at hz1
  refine r_if_ne (pc := 11) q 16 dX12_best_11 (by decide) ⟨by omega, by omega⟩ (fun c11 => ?_) (fun c11 => ?_)
  · refine r_aload_0 (pc := 16) q dX12_best_16 ?_
    refine r_iload_1 (pc := 17) q dX12_best_17 ?_
    refine r_iload_2 (pc := 18) q dX12_best_18 ?_
    refine r_cI2 (pc := 19) q (c_X12_lays hM hI0 (by omega) (by omega) (by omega) (by omega)) mX12_227 hM.o (by decide) (Nat.le_of_ble_eq_true rfl) rfl dX12_best_19 (fun z2 h2 hz2 => ?_)
    rw [(agM_RM ag g n rg rn l1 day).1, f0 (m + 5) (by omega)] at hz2
    obtain ⟨ez, hLd⟩ := hz2
    have rmb := RM_in hI (day := day) (l1 := l1) (by omega) (by omega)
    have N2 := (hI.2.2.1.2.2 l1 (by omega) (by omega)).2.1
    have mb := mnP_in (f := RM h m g n rg rn l1 day (h (m + 5) l1 - 1).toNat) 601 (fun p p0 p1 => (rmb _ (by omega) p p0 (by omega)).1)
    rw [← ez] at mb
    have post : (∀ a : Nat, a ≠ m → a ≠ m + 3 → a ≠ m + 19 → a ≠ m + 20 → a ≠ m + 21 → a ≠ m + 22 → a ≠ m + 23 → h2 a = h a) ∧ h2 m = up (h m) 0 0 := ⟨fun a a1 a2 a3 a4 a5 a6 a7 => by rw [hLd.1 a a2 a3 a4 a5 a6 a7]; exact f0 a a1, by rw [hLd.1 m (by omega) (by omega) (by omega) (by omega) (by omega) (by omega)]; exact eM⟩
    refine r_istore_3 (pc := 22) q dX12_best_22 rfl ?_
    refine r_iload_3 (pc := 23) q dX12_best_23 ?_
    refine r_ldc (pc := 24) q kX12_204 dX12_best_24 ?_
    refine r_icmp_ne (pc := 26) q 34 dX12_best_26 (by decide) ⟨by omega, by omega⟩ ⟨by omega, by omega⟩ (fun c26 => ?_) (fun c26 => ?_)
    · refine r_iload_3 (pc := 34) q dX12_best_34 ?_
      refine r_ireturn (pc := 35) q rt dX12_best_35 ?_
      exact ⟨post.1, post.2, Or.inr ⟨by omega, by rw [← ez, if_neg c26]⟩⟩
    refine r_bipush (pc := 29) q dX12_best_29 (by decide) ?_
    refine r_goto (pc := 31) (tgt := 35) q dX12_best_31 (by decide) ?_
    refine r_ireturn (pc := 35) q rt dX12_best_35 ?_
    exact ⟨post.1, post.2, Or.inr ⟨by omega, by rw [← ez, if_pos c26]⟩⟩
  refine r_iconst (pc := 14) q dX12_best_14 ?_
  refine r_ireturn (pc := 15) q rt dX12_best_15 ?_
  exact ⟨fun a a1 _ _ _ _ _ _ => f0 a a1, eM, Or.inl ⟨by omega, rfl⟩⟩
