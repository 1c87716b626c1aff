theorem c_X11_list {l : Launch} {D : va_G} {aC : Nat → ClassId} {B t sz : Nat} {S : sS} {r : sR} {h : sH} {x : Nat} {w T : Int} {b : Int → Int} (hx : LX11 S r x) (ht : tpI h (x + 1) b T) (c0 : 0 ≤ h x 4) (c4 : h x 4 ≤ 4) (hw : inR w) : CtI l yX11_list cX11_list 3 (some .int) 5 118 [.ref x, .int (iI w)] D aC B t sz S r h (fun z h1 => (¬ (2 ≤ w ∧ w ≤ 3 ∧ h x 4 < 4) ∧ z = -1 ∧ h1 = h) ∨ ((2 ≤ w ∧ w ≤ 3 ∧ h x 4 < 4) ∧ ∃ (k p n : Int) (ns nl us ul : Int → Int), PR b T 0 true 0 fn0 fn0 fn0 fn0 = (k, p, n, ns, nl, us, ul) ∧ h1 (x + 1) = up (h (x + 1)) 1 0 ∧ h1 x 5 = p ∧ (∀ a : Nat, a ≠ x → a ≠ x + 1 → a ≠ x + 5 → (a < x + 7 + 44 * (h x 4).toNat ∨ x + 7 + 44 * (h x 4).toNat + 44 ≤ a) → h1 a = h a) ∧ (∀ j : Int, j ≠ 4 → j ≠ 5 → h1 x j = h x j) ∧ ((1 ≤ k ∧ k ≤ 3 ∧ z = -1 - k ∧ h1 x 4 = h x 4) ∨ (k = 0 ∧ p = -1 ∧ (2 ≤ n ∧ n ≤ 10) ∧ z = h x 4 ∧ h1 x 4 = h x 4 + 1 ∧ h1 (x + 7 + 44 * (h x 4).toNat) 3 = w ∧ h1 (x + 7 + 44 * (h x 4).toNat) 4 = n ∧ rtI h1 (x + 7 + 44 * (h x 4).toNat) (fun i j => b (ns i + j)) nl (fun i j => signC (b (us i + j))) ul)))) := by
  unfold CtI
  refine Ct.of (lv := [some (.ref x), some (.int (iI w)), none]) (by decide +kernel) rfl (Nat.le_of_ble_eq_true rfl) (fun X hl q rt hnm => ?_)
  obtain ⟨Y, hY⟩ : ∃ Y, x + 7 + 44 * (h x 4).toNat = Y := ⟨_, rfl⟩
  refine r_iload_1 (pc := 0) q dX11_list_0 ?_
  refine r_sI1 (pc := 1) q (c_X11_isUnit hw) mX11_82 (by decide) (Nat.le_of_ble_eq_true rfl) rfl dX11_list_1 (fun z1 h1 hz1 => ?_)
  obtain ⟨hz1, rfl⟩ := hz1
  refine r_if_eq (pc := 4) q 15 dX11_list_4 (by decide) ⟨by omega, by omega⟩ (fun c4 => ?_) (fun c4 => ?_)
  · refine r_iconst (pc := 15) q dX11_list_15 ?_
    refine r_ireturn (pc := 16) q rt dX11_list_16 ?_
    exact Or.inl ⟨by omega, rfl, rfl⟩
  refine r_aload_0 (pc := 7) q dX11_list_7 ?_
  refine r_geti (pc := 8) q fX11_37 (kz := 4) rfl (by decide) rfl hx.o dX11_list_8 ?_
  refine r_iconst (pc := 11) q dX11_list_11 ?_
  refine r_icmp_lt (pc := 12) q 17 dX11_list_12 (by decide) ⟨by omega, by omega⟩ ⟨by omega, by omega⟩ (fun c12 => ?_) (fun c12 => ?_)
  · refine r_aload_0 (pc := 17) q dX11_list_17 ?_
    refine r_getr (pc := 18) q fX11_32 (kz := 3) rfl (by decide) rfl hx.o hx.r_routes dX11_list_18 ?_
    refine r_aload_0 (pc := 21) q dX11_list_21 ?_
    refine r_geti (pc := 22) q fX11_37 (kz := 4) rfl (by decide) rfl hx.o dX11_list_22 ?_
    refine r_aald26 (pc := 25) q hx.s_routes (by omega) (by omega) (hx.e_routes (by omega) (by omega)) dX11_list_25 ?_
    refine r_astore_2 (pc := 26) q dX11_list_26 rfl ?_
    have hRt : LX7 S r (x + 7 + 44 * (h x 4).toNat) := hx.n_routes (by omega) (by omega)
    refine r_aload_0 (pc := 27) q dX11_list_27 ?_
    refine r_getr (pc := 28) q fX11_26 (kz := 2) rfl (by decide) rfl hx.o hx.r_scribe dX11_list_28 ?_
    refine r_aload_0 (pc := 31) q dX11_list_31 ?_
    refine r_getr (pc := 32) q fX11_12 (kz := 0) rfl (by decide) rfl hx.o hx.r_tape dX11_list_32 ?_
    refine r_aload_2 (pc := 35) q dX11_list_35 ?_
    refine r_cV2 (pc := 36) q (c_X8_readText hx.n_scribe hx.n_tape hRt ht (by omega) (by omega)) mX11_86 hx.n_scribe.o (by decide) (Nat.le_of_ble_eq_true rfl) rfl dX11_list_36 (fun h2 hz2 => ?_)
    obtain ⟨⟨f1, f2⟩, k, p, n, ns, nl, us, ul, hP, e0, e1, ec⟩ := hz2
    refine r_aload_0 (pc := 39) q dX11_list_39 ?_
    refine r_getr (pc := 40) q fX11_12 (kz := 0) rfl (by decide) rfl hx.o hx.r_tape dX11_list_40 ?_
    refine r_iconst (pc := 43) q dX11_list_43 ?_
    refine r_puti (pc := 44) q fX11_75 (kz := 1) rfl (by decide) rfl hx.n_tape.o dX11_list_44 (fun h3 eh3 => ?_)
    refine r_aload_0 (pc := 47) q dX11_list_47 ?_
    refine r_aload_0 (pc := 48) q dX11_list_48 ?_
    refine r_getr (pc := 49) q fX11_26 (kz := 2) rfl (by decide) rfl hx.o hx.r_scribe dX11_list_49 ?_
    refine r_geti (pc := 52) q fX11_90 (kz := 1) rfl (by decide) rfl hx.n_scribe.o dX11_list_52 ?_
    have s1 : h3 (x + 5) 1 = p := by rw [eh3, up_n _ _ (by omega)]; exact e1
    rw [s1]
    refine r_puti (pc := 55) q fX11_41 (kz := 5) rfl (by decide) rfl hx.o dX11_list_55 (fun h4 eh4 => ?_)
    refine r_aload_0 (pc := 58) q dX11_list_58 ?_
    refine r_getr (pc := 59) q fX11_26 (kz := 2) rfl (by decide) rfl hx.o hx.r_scribe dX11_list_59 ?_
    refine r_geti (pc := 62) q fX11_91 (kz := 0) rfl (by decide) rfl hx.n_scribe.o dX11_list_62 ?_
    have s0 : h4 (x + 5) 0 = k := by rw [eh4, up_n _ _ (by omega), eh3, up_n _ _ (by omega)]; exact e0
    rw [s0]
    have kb : 0 ≤ k ∧ k ≤ 3 := by rcases ec with y | ⟨y, -⟩ <;> omega
    have o4 : ∀ a : Nat, a ≠ x → a ≠ x + 1 → h4 a = h2 a := fun a a0 a1 => by rw [eh4, up_n _ _ a0, eh3, up_n _ _ a1]
    have t4 : h4 (x + 1) = up (h (x + 1)) 1 0 := by rw [eh4, up_n _ _ (by omega), eh3, up_s, f1 _ (by omega) (by omega) (by omega)]
    have x4 : h4 x = up (h x) 5 p := by rw [eh4, up_s, eh3, up_n _ _ (by omega), f1 x (by omega) (by omega) (by omega)]
    refine r_if_eq (pc := 65) q 79 dX11_list_65 (by decide) ⟨by omega, by omega⟩ (fun c65 => ?_) (fun c65 => ?_)
    · refine r_aload_2 (pc := 79) q dX11_list_79 ?_
      refine r_iload_1 (pc := 80) q dX11_list_80 ?_
      refine r_puti (pc := 81) q fX11_94 (kz := 3) rfl (by decide) rfl hRt.o dX11_list_81 (fun h5 eh5 => ?_)
      refine r_aload_0 (pc := 84) q dX11_list_84 ?_
      refine r_dup (pc := 85) q dX11_list_85 rfl ?_
      refine r_geti (pc := 86) q fX11_37 (kz := 4) rfl (by decide) rfl hx.o dX11_list_86 ?_
      have x5 : h5 x 4 = h x 4 := by rw [eh5, up_n _ _ (by omega), x4, up_n _ _ (by decide)]
      rw [x5]
      refine r_iconst (pc := 89) q dX11_list_89 ?_
      refine r_iadd (pc := 90) q dX11_list_90 ?_
      refine r_puti (pc := 91) q fX11_37 (kz := 4) rfl (by decide) rfl hx.o dX11_list_91 (fun h6 eh6 => ?_)
      refine r_aload_0 (pc := 94) q dX11_list_94 ?_
      refine r_geti (pc := 95) q fX11_37 (kz := 4) rfl (by decide) rfl hx.o dX11_list_95 ?_
      have x6 : h6 x 4 = h x 4 + 1 := by rw [eh6, up_s, up_s]
      rw [x6]
      refine r_iconst (pc := 98) q dX11_list_98 ?_
      refine r_isub (pc := 99) q dX11_list_99 ?_
      refine r_ireturn (pc := 100) q rt dX11_list_100 ?_
      have ec' : k = 0 ∧ p = -1 ∧ 2 ≤ n ∧ rdS h2 (x + 5) (x + 7 + 44 * (h x 4).toNat) b false n ns nl us ul := by
        rcases ec with y | y
        · exfalso; omega
        · exact y
      obtain ⟨k0, pm, n2, q1, q2, q3, q4, q5, q6⟩ := ec'
      have o6 : ∀ a : Nat, a ≠ x → a ≠ x + 1 → a ≠ x + 7 + 44 * (h x 4).toNat → h6 a = h2 a := fun a a0 a1 a2 => by rw [eh6, up_n _ _ a0, eh5, up_n _ _ a2]; exact o4 a a0 a1
      have y6 : h6 (x + 7 + 44 * (h x 4).toNat) = up (h2 (x + 7 + 44 * (h x 4).toNat)) 3 w := by rw [eh6, up_n _ _ (by omega), eh5, up_s, o4 _ (by omega) (by omega)]
      have y63 : h6 (x + 7 + 44 * (h x 4).toNat) 3 = w := by rw [y6, up_s]
      have y64 : h6 (x + 7 + 44 * (h x 4).toNat) 4 = n := by rw [y6, up_n _ _ (by decide)]; exact q2
      have xx6 : h6 x = up (up (h x) 5 p) 4 (h x 4 + 1) := by rw [eh6, up_s, eh5, up_n _ _ (by omega), x4]
      have aF : awI false = 0 := rfl
      refine Or.inr ⟨by omega, k, p, n, ns, nl, us, ul, hP, ?_, ?_, fun a a0 a1 a2 a3 => by rw [o6 a a0 a1 (by omega)]; exact f1 a a2 (by omega) (by omega), fun j j4 j5 => by rw [xx6, up_n _ _ j4, up_n _ _ j5], Or.inr ⟨k0, pm, ⟨n2, q3.2⟩, by omega, x6, y63, y64, by rw [y63]; omega, by rw [y64]; exact ⟨n2, q3.2⟩, fun i i0 i1 => ?_, fun i i0 i1 => ?_⟩⟩
      · rw [eh6, up_n _ _ (by omega), eh5, up_n _ _ (by omega)]; exact t4
      · rw [xx6, up_n _ _ (by decide), up_s]
      · rw [y64] at i1
        have q5' := q5 i i0 i1
        exact ⟨nmC_fr q5'.1 (o6 _ (by omega) (by omega) (by omega)) (o6 _ (by omega) (by omega) (by omega)), q5'.2⟩
      · rw [y64] at i1
        have q6' := q6 i i0 (by omega)
        exact ⟨nuC_fr q6'.1 (o6 _ (by omega) (by omega) (by omega)) (o6 _ (by omega) (by omega) (by omega)), q6'.2⟩
    refine r_aload_0 (pc := 68) q dX11_list_68 ?_
    refine r_getr (pc := 69) q fX11_26 (kz := 2) rfl (by decide) rfl hx.o hx.r_scribe dX11_list_69 ?_
    refine r_geti (pc := 72) q fX11_91 (kz := 0) rfl (by decide) rfl hx.n_scribe.o dX11_list_72 ?_
    have s0' : h4 (x + 5) 0 = k := s0
    rw [s0']
    refine r_ineg (pc := 75) q dX11_list_75 ?_
    refine r_iconst (pc := 76) q dX11_list_76 ?_
    refine r_isub (pc := 77) q dX11_list_77 ?_
    refine r_ireturn (pc := 78) q rt dX11_list_78 ?_
    refine Or.inr ⟨by omega, k, p, n, ns, nl, us, ul, hP, t4, by rw [x4, up_s], fun a a0 a1 a2 a3 => by rw [o4 a a0 a1]; exact f1 a a2 (by omega) (by omega), fun j j4 j5 => by rw [x4, up_n _ _ j5], Or.inl ⟨?_, ?_, by omega, by rw [x4, up_n _ _ (by decide)]⟩⟩
    · omega
    · omega
  refine r_iconst (pc := 15) q dX11_list_15 ?_
  refine r_ireturn (pc := 16) q rt dX11_list_16 ?_
  exact Or.inl ⟨by omega, rfl, rfl⟩
