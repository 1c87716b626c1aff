theorem up_uu {α β : Type} [DecidableEq α] (f : α → β) (a : α) (b c : β) : up (up f a b) a c = up f a c := by
  funext x
  by_cases e : x = a
  · subst e; rw [up_s, up_s]
  · rw [up_n _ _ e, up_n _ _ e, up_n _ _ e]
theorem up_id {α β : Type} [DecidableEq α] (f : α → β) (a : α) : up f a (f a) = f := by
  funext x
  by_cases e : x = a
  · subst e; rw [up_s]
  · rw [up_n _ _ e]
theorem awt {L : Int} (h : L ≤ 8) : ¬ ((true : Bool) = false ∨ 8 < L) := by
  rintro (z | z)
  · exact absurd z (by decide)
  · omega
theorem bA_out {h : sH} {m : Nat} {k : Int} (e : h m 2 ≤ k) : bA h m k = 0 := by unfold bA; rw [if_neg (by omega)]
theorem bA_eq {h h1 : sH} {m : Nat} (e1 : h1 (m + 1) = h (m + 1)) (e2 : h1 m 2 = h m 2) : bA h1 m = bA h m := by
  funext k; unfold bA; rw [e1, e2]
theorem c_X12_blanks {l : Launch} {D : va_G} {aC : Nat → ClassId} {B t sz : Nat} {S : sS} {r : sR} {h : sH} {m : Nat} (hM : LX12 S r m) (t0 : 0 ≤ h m 2) (t1 : h m 2 ≤ 200) (a0 : 0 ≤ h m 13) (a1 : h m 13 ≤ h m 2) : CtV l yX12_blanks cX12_blanks 1 none 1 21 [.ref m] D aC B t sz S r h (fun h1 => ∃ a : Int, h1 = pf h m 13 a ∧ h m 13 ≤ a ∧ a ≤ h m 2 ∧ (∀ j : Int, h m 13 ≤ j → j < a → bA h m j = 32 ∨ bA h m j = 10) ∧ (a < h m 2 → ¬ (bA h m a = 32 ∨ bA h m a = 10))) := by
  unfold CtV
  refine Ct.of (lv := [some (.ref m)]) (by decide +kernel) rfl (Nat.le_of_ble_eq_true rfl) (fun X hl q rt hnm => ?_)
  have lp : ∀ (d : Nat) (a : Int), a + d = h m 2 → h m 13 ≤ a → (∀ j : Int, h m 13 ≤ j → j < a → bA h m j = 32 ∨ bA h m j = 10) → ∀ h2 : sH, h2 = pf h m 13 a → G X 0 0 0 [some (.ref m)] [] sz S r h2 := by
    intro d
    induction d with
    | zero =>
      intro a ha a2 hb h2 e2
      have k13 : h2 m 13 = a := by rw [e2]; exact pf_s h m 13 a
      have k2 : h2 m 2 = h m 2 := by rw [e2]; exact pf_f h m a (by decide)
      refine r_aload_0 (pc := 0) q dX12_blanks_0 ?_
      refine r_geti (pc := 1) q fX12_144 (kz := 13) rfl (by decide) rfl hM.o dX12_blanks_1 ?_
      rw [k13]
      refine r_aload_0 (pc := 4) q dX12_blanks_4 ?_
      refine r_geti (pc := 5) q fX12_109 (kz := 2) rfl (by decide) rfl hM.o dX12_blanks_5 ?_
      rw [k2]
      refine r_icmp_ge (pc := 8) q 50 dX12_blanks_8 (by decide) ⟨by omega, by omega⟩ ⟨by omega, by omega⟩ (fun c8 => ?_) (fun c8 => ?_)
      · refine r_return (pc := 50) q rt dX12_blanks_50 ?_
        exact ⟨a, e2, a2, by omega, hb, fun z => by omega⟩
      exact absurd (by omega) c8
    | succ d ih =>
      intro a ha a2 hb h2 e2
      have k13 : h2 m 13 = a := by rw [e2]; exact pf_s h m 13 a
      have k2 : h2 m 2 = h m 2 := by rw [e2]; exact pf_f h m a (by decide)
      have kt : h2 (m + 1) = h (m + 1) := by rw [e2]; exact pf_o h 13 a (by omega)
      have kb := bA_eq kt k2
      have bi := bA_in h m a
      have st : (bA h m a = 32 ∨ bA h m a = 10) → G X 0 0 37 [some (.ref m)] [] sz S r h2 := by
        intro z
        refine r_aload_0 (pc := 37) q dX12_blanks_37 ?_
        refine r_dup (pc := 38) q dX12_blanks_38 rfl ?_
        refine r_geti (pc := 39) q fX12_144 (kz := 13) rfl (by decide) rfl hM.o dX12_blanks_39 ?_
        rw [k13]
        refine r_iconst (pc := 42) q dX12_blanks_42 ?_
        refine r_iadd (pc := 43) q dX12_blanks_43 ?_
        refine r_puti (pc := 44) q fX12_144 (kz := 13) rfl (by decide) rfl hM.o dX12_blanks_44 (fun h3 eh3 => ?_)
        refine r_goto (pc := 47) (tgt := 0) q dX12_blanks_47 (by decide) ?_
        refine ih (a + 1) (by omega) (by omega) (fun j j0 j1 => ?_) h3 ?_
        · by_cases ej : j = a
          · rw [ej]; exact z
          · exact hb j j0 (by omega)
        · rw [eh3, e2]
          unfold pf
          rw [up_s, up_uu, up_uu]
      refine r_aload_0 (pc := 0) q dX12_blanks_0 ?_
      refine r_geti (pc := 1) q fX12_144 (kz := 13) rfl (by decide) rfl hM.o dX12_blanks_1 ?_
      rw [k13]
      refine r_aload_0 (pc := 4) q dX12_blanks_4 ?_
      refine r_geti (pc := 5) q fX12_109 (kz := 2) rfl (by decide) rfl hM.o dX12_blanks_5 ?_
      rw [k2]
      refine r_icmp_ge (pc := 8) q 50 dX12_blanks_8 (by decide) ⟨by omega, by omega⟩ ⟨by omega, by omega⟩ (fun c8 => ?_) (fun c8 => ?_)
      · exact absurd c8 (by omega)
      refine r_aload_0 (pc := 11) q dX12_blanks_11 ?_
      refine r_aload_0 (pc := 12) q dX12_blanks_12 ?_
      refine r_geti (pc := 13) q fX12_144 (kz := 13) rfl (by decide) rfl hM.o dX12_blanks_13 ?_
      rw [k13]
      refine r_cI1 (pc := 16) q (c_X12_byteAt hM (by omega) (by omega) (by omega) (by omega)) mX12_116 hM.o (by decide) (Nat.le_of_ble_eq_true rfl) rfl dX12_blanks_16 (fun z1 h1 hz1 => ?_)
      obtain ⟨rfl, rfl⟩ := hz1
      rw [kb]
      refine r_bipush (pc := 19) q dX12_blanks_19 (by decide) ?_
      refine r_icmp_eq (pc := 21) q 37 dX12_blanks_21 (by decide) ⟨by omega, by omega⟩ ⟨by omega, by omega⟩ (fun c21 => ?_) (fun c21 => ?_)
      · exact st (Or.inl c21)
      refine r_aload_0 (pc := 24) q dX12_blanks_24 ?_
      refine r_aload_0 (pc := 25) q dX12_blanks_25 ?_
      refine r_geti (pc := 26) q fX12_144 (kz := 13) rfl (by decide) rfl hM.o dX12_blanks_26 ?_
      rw [k13]
      refine r_cI1 (pc := 29) q (c_X12_byteAt hM (by omega) (by omega) (by omega) (by omega)) mX12_116 hM.o (by decide) (Nat.le_of_ble_eq_true rfl) rfl dX12_blanks_29 (fun z2 h2 hz2 => ?_)
      obtain ⟨rfl, rfl⟩ := hz2
      rw [kb]
      refine r_bipush (pc := 32) q dX12_blanks_32 (by decide) ?_
      refine r_icmp_ne (pc := 34) q 50 dX12_blanks_34 (by decide) ⟨by omega, by omega⟩ ⟨by omega, by omega⟩ (fun c34 => ?_) (fun c34 => ?_)
      · refine r_return (pc := 50) q rt dX12_blanks_50 ?_
        exact ⟨a, e2, a2, by omega, hb, fun _ z => by omega⟩
      exact st (Or.inr (by omega))
  have e0 : h = pf h m 13 (h m 13) := by
    unfold pf
    rw [up_id, up_id]
  exact lp (h m 2 - h m 13).toNat (h m 13) (by omega) (by omega) (fun j j0 j1 => by omega) h e0
theorem c_X12_station {l : Launch} {D : va_G} {aC : Nat → ClassId} {B t sz : Nat} {S : sS} {r : sR} {h : sH} {m : Nat} {n : Int} {ns nl us ul : Int → Int} (hM : LX12 S r m) (t0 : 0 ≤ h m 2) (t1 : h m 2 ≤ 200) (a0 : 0 ≤ h m 13) (a1 : h m 13 ≤ h m 2) (hn : h (m + 5) 4 = n) (n0 : 0 ≤ n) (n10 : n ≤ 10) (hNm : ∀ i : Int, 0 ≤ i → i < n → NmP (h (m + 6) (40 + i)) (fun j => bA h m (ns i + j)) (nl i)) : CtI l yX12_station cX12_station 5 (some .boolean) 2 48 [.ref m] D aC B t sz S r h (fun z h1 => (∀ x : Nat, x ≠ m → x ≠ m + 5 → x ≠ m + 6 → h1 x = h x) ∧ (∀ k : Int, k ≠ 11 → k ≠ 12 → k ≠ 13 → h1 m k = h m k) ∧ ((z = 0 ∧ h1 (m + 5) = h (m + 5) ∧ h1 (m + 6) = h (m + 6) ∧ ∃ k p : Int, (1 ≤ k ∧ k ≤ 3) ∧ h1 m 11 = k ∧ h1 m 12 = p ∧ (h m 13 ≤ h1 m 13 ∧ h1 m 13 ≤ h m 2) ∧ PR (bA h m) (h m 2) (h m 13) true n ns nl us ul = (k, p, n, ns, nl, us, ul)) ∨ (z = 1 ∧ n < 10 ∧ h1 m 11 = h m 11 ∧ h1 m 12 = h m 12 ∧ h1 (m + 5) = up (h (m + 5)) 4 (n + 1) ∧ ∃ a L v : Int, (h m 13 ≤ a ∧ 1 ≤ L ∧ a + L ≤ h m 2) ∧ h1 m 13 = a + L ∧ h1 (m + 6) = up (h (m + 6)) (40 + n) v ∧ NmP v (fun j => bA h m (a + j)) L ∧ PR (bA h m) (h m 2) (h m 13) true n ns nl us ul = PR (bA h m) (h m 2) (a + L) false (n + 1) (up ns n a) (up nl n L) us ul))) := by
  unfold CtI
  refine Ct.of (lv := [some (.ref m), none, none, none, none]) (by decide +kernel) rfl (Nat.le_of_ble_eq_true rfl) (fun X hl q rt hnm => ?_)
  have hb : ∀ k : Int, h m 2 ≤ k → bA h m k = 0 := fun k e => bA_out e
  have con : ∀ (a : Int) (h1 : sH), h1 = pf h m 13 a → h m 13 ≤ a → a ≤ h m 2 → (∀ j : Int, h m 13 ≤ j → j < a → bA h m j = 32 ∨ bA h m j = 10) → (a < h m 2 → ¬ (bA h m a = 32 ∨ bA h m a = 10)) → G X 0 0 4 [some (.ref m), none, none, none, none] [] sz S r h1 := by
    intro a h1 e1 a2 a3 hbl hnb
    have k13 : h1 m 13 = a := by rw [e1]; exact pf_s h m 13 a
    have kf : ∀ k : Int, k ≠ 13 → h1 m k = h m k := fun k e => by rw [e1]; exact pf_f h m a e
    have ko : ∀ x : Nat, x ≠ m → h1 x = h x := fun x e => by rw [e1]; exact pf_o h 13 a e
    have k2 := kf 2 (by decide)
    have kb := bA_eq (ko (m + 1) (by omega)) k2
    have e5 := ko (m + 5) (by omega)
    have e6 := ko (m + 6) (by omega)
    have eP : PR (bA h m) (h m 2) (h m 13) true n ns nl us ul = PR (bA h m) (h m 2) a true n ns nl us ul := by
      have := PR_blks (b := bA h m) (T := h m 2) (aw := true) (n := n) (ns := ns) (nl := nl) (us := us) (ul := ul) (a - h m 13).toNat (h m 13) (by omega) (fun j j0 j1 => hbl j j0 (by omega))
      rw [this, show h m 13 + ((a - h m 13).toNat : Int) = a by omega]
    have wr : ∀ (k : Int) (h2 : sH), 1 ≤ k → k ≤ 3 → PR (bA h m) (h m 2) a true n ns nl us ul = (k, a, n, ns, nl, us, ul) → h2 = pf (pf h1 m 11 k) m 12 a → (∀ x : Nat, x ≠ m → x ≠ m + 5 → x ≠ m + 6 → h2 x = h x) ∧ (∀ k : Int, k ≠ 11 → k ≠ 12 → k ≠ 13 → h2 m k = h m k) ∧ h2 (m + 5) = h (m + 5) ∧ h2 (m + 6) = h (m + 6) ∧ ∃ k p : Int, (1 ≤ k ∧ k ≤ 3) ∧ h2 m 11 = k ∧ h2 m 12 = p ∧ (h m 13 ≤ h2 m 13 ∧ h2 m 13 ≤ h m 2) ∧ PR (bA h m) (h m 2) (h m 13) true n ns nl us ul = (k, p, n, ns, nl, us, ul) := by
      intro k h2 k1 k3 hP e2
      have o2 : ∀ x : Nat, x ≠ m → h2 x = h x := fun x e => by rw [e2, pf_o _ 12 a e, pf_o _ 11 k e]; exact ko x e
      have f2 : ∀ x : Int, x ≠ 11 → x ≠ 12 → h2 m x = h1 m x := fun x q1 q2 => by rw [e2, pf_f _ m a q2, pf_f _ m k q1]
      refine ⟨fun x x0 _ _ => o2 x x0, fun x x1 x2 x3 => by rw [f2 x x1 x2]; exact kf x x3, o2 _ (by omega), o2 _ (by omega), k, a, ⟨k1, k3⟩, ?_, ?_, ?_, by rw [eP]; exact hP⟩
      · rw [e2, pf_f _ m a (by decide)]; exact pf_s _ _ _ _
      · rw [e2]; exact pf_s _ _ _ _
      · rw [f2 13 (by decide) (by decide), k13]; omega
    have J30 : ∀ e : Int, a ≤ e → e ≤ h m 2 → isRun (fun x => isL (bA h m x)) a (e - a) → G X 0 0 30 [some (.ref m), some (.int (iI e)), none, none, none] [] sz S r h1 := by
      intro e ea eT hrun
      have put : ∀ v : Int, NmP v (fun j => bA h m (a + j)) (e - a) → n < 10 → ¬ dupN (bA h m) ns nl n a (e - a) → G X 0 0 122 [some (.ref m), some (.int (iI e)), some (.long (lI v)), none, some (.int (iI n))] [] sz S r h1 := by
        intro v hv n9 nd
        have hn1 : h1 (m + 5) 4 = n := by rw [e5]; exact hn
        refine r_aload_0 (pc := 122) q dX12_station_122 ?_
        refine r_getr (pc := 123) q fX12_26 (kz := 8) rfl (by decide) rfl hM.o hM.r_name dX12_station_123 ?_
        refine r_bipush (pc := 126) q dX12_station_126 (by decide) ?_
        refine r_aload_0 (pc := 128) q dX12_station_128 ?_
        refine r_getr (pc := 129) q fX12_23 (kz := 7) rfl (by decide) rfl hM.o hM.r_stations dX12_station_129 ?_
        refine r_iconst (pc := 132) q dX12_station_132 ?_
        refine r_iald (pc := 133) q hM.s_stations (by omega) (by omega) dX12_station_133 ?_
        rw [hn1]
        refine r_iadd (pc := 134) q dX12_station_134 ?_
        refine r_lload_2 (pc := 135) q dX12_station_135 ?_
        refine r_last (pc := 136) q hM.s_name (by omega) (by omega) dX12_station_136 (fun h2 eh2 => ?_)
        refine r_aload_0 (pc := 137) q dX12_station_137 ?_
        refine r_getr (pc := 138) q fX12_23 (kz := 7) rfl (by decide) rfl hM.o hM.r_stations dX12_station_138 ?_
        refine r_iconst (pc := 141) q dX12_station_141 ?_
        refine r_dup2 (pc := 142) q dX12_station_142 rfl rfl ?_
        refine r_iald (pc := 143) q hM.s_stations (by omega) (by omega) dX12_station_143 ?_
        have hn2 : h2 (m + 5) 4 = n := by rw [eh2, up_n _ _ (by omega)]; exact hn1
        rw [hn2]
        refine r_iconst (pc := 144) q dX12_station_144 ?_
        refine r_iadd (pc := 145) q dX12_station_145 ?_
        refine r_iast (pc := 146) q hM.s_stations (by omega) (by omega) dX12_station_146 (fun h3 eh3 => ?_)
        refine r_aload_0 (pc := 147) q dX12_station_147 ?_
        refine r_iload_1 (pc := 148) q dX12_station_148 ?_
        refine r_puti (pc := 149) q fX12_144 (kz := 13) rfl (by decide) rfl hM.o dX12_station_149 (fun h4 eh4 => ?_)
        refine r_iconst (pc := 152) q dX12_station_152 ?_
        refine r_zreturn (pc := 153) q rt dX12_station_153 (by decide) ?_
        have o4 : ∀ x : Nat, x ≠ m → x ≠ m + 5 → x ≠ m + 6 → h4 x = h x := fun x q1 q2 q3 => by rw [eh4, up_n _ _ q1, eh3, up_n _ _ q2, eh2, up_n _ _ q3]; exact ko x q1
        have m3 : h3 m = h1 m := by rw [eh3, up_n _ _ (by omega), eh2, up_n _ _ (by omega)]
        have f4 : ∀ k : Int, k ≠ 13 → h4 m k = h m k := fun k q1 => by rw [eh4, up_s, up_n _ _ q1, m3]; exact kf k q1
        refine ⟨o4, fun k _ _ q3 => f4 k q3, Or.inr ⟨rfl, n9, f4 11 (by decide), f4 12 (by decide), ?_, a, e - a, v, ⟨a2, by have := hv.1; omega, by omega⟩, ?_, ?_, hv, ?_⟩⟩
        · rw [eh4, up_n _ _ (by omega), eh3, up_s, eh2, up_n _ _ (by omega), e5]
        · rw [eh4, up_s, up_s]; omega
        · rw [eh4, up_n _ _ (by omega), eh3, up_n _ _ (by omega), eh2, up_s, e6]
        · have L1 := hv.1
          have L8 := hv.2.1
          rw [eP, PR_wrd (by omega) hb hrun (by omega), if_neg (awt (by omega)), if_neg (by omega), cif_f nd]
      have dl : ∀ v : Int, NmP v (fun j => bA h m (a + j)) (e - a) → n < 10 → ∀ (d i : Nat), (i : Int) + d = n → (∀ x : Int, 0 ≤ x → x < i → ¬ (nl x = e - a ∧ ∀ j : Int, 0 ≤ j → j < e - a → bA h m (ns x + j) = bA h m (a + j))) → G X 0 0 80 [some (.ref m), some (.int (iI e)), some (.long (lI v)), none, some (.int (iI i))] [] sz S r h1 := by
        intro v hv n9 d
        have hn1 : h1 (m + 5) 4 = n := by rw [e5]; exact hn
        have v0 := hv.nn
        have v1 := hv.lt
        induction d with
        | zero =>
          intro i hi hx
          refine r_iload_4 (pc := 80) q dX12_station_80 ?_
          refine r_aload_0 (pc := 82) q dX12_station_82 ?_
          refine r_getr (pc := 83) q fX12_23 (kz := 7) rfl (by decide) rfl hM.o hM.r_stations dX12_station_83 ?_
          refine r_iconst (pc := 86) q dX12_station_86 ?_
          refine r_iald (pc := 87) q hM.s_stations (by omega) (by omega) dX12_station_87 ?_
          rw [hn1]
          refine r_icmp_ge (pc := 88) q 122 dX12_station_88 (by decide) ⟨by omega, by omega⟩ ⟨by omega, by omega⟩ (fun c88 => ?_) (fun c88 => ?_)
          · rw [show (i : Int) = n by omega]
            exact put v hv n9 (fun ⟨x, x0, x1, x2⟩ => hx x x0 (by omega) x2)
          exact absurd (show n ≤ (i : Int) by omega) c88
        | succ d ih =>
          intro i hi hx
          have ni := hNm i (by omega) (by omega)
          rw [← e6] at ni
          have w0 := ni.nn
          have w1 := ni.lt
          refine r_iload_4 (pc := 80) q dX12_station_80 ?_
          refine r_aload_0 (pc := 82) q dX12_station_82 ?_
          refine r_getr (pc := 83) q fX12_23 (kz := 7) rfl (by decide) rfl hM.o hM.r_stations dX12_station_83 ?_
          refine r_iconst (pc := 86) q dX12_station_86 ?_
          refine r_iald (pc := 87) q hM.s_stations (by omega) (by omega) dX12_station_87 ?_
          rw [hn1]
          refine r_icmp_ge (pc := 88) q 122 dX12_station_88 (by decide) ⟨by omega, by omega⟩ ⟨by omega, by omega⟩ (fun c88 => ?_) (fun c88 => ?_)
          · exact absurd c88 (by omega)
          refine r_aload_0 (pc := 91) q dX12_station_91 ?_
          refine r_getr (pc := 92) q fX12_26 (kz := 8) rfl (by decide) rfl hM.o hM.r_name dX12_station_92 ?_
          refine r_bipush (pc := 95) q dX12_station_95 (by decide) ?_
          refine r_iload_4 (pc := 97) q dX12_station_97 ?_
          refine r_iadd (pc := 99) q dX12_station_99 ?_
          refine r_lald (pc := 100) q hM.s_name (by omega) (by omega) dX12_station_100 ?_
          refine r_lload_2 (pc := 101) q dX12_station_101 ?_
          refine r_lcmp (pc := 102) q dX12_station_102 ⟨by omega, by omega⟩ ⟨by omega, by omega⟩ ?_
          refine r_if_ne (pc := 103) q 116 dX12_station_103 (by decide) ⟨by have := cmpI_in (h1 (m + 6) (40 + i)) v; omega, by have := cmpI_in (h1 (m + 6) (40 + i)) v; omega⟩ (fun c103 => ?_) (fun c103 => ?_)
          · refine r_iinc_4 (pc := 116) q dX12_station_116 rfl ?_
            refine r_goto (pc := 119) (tgt := 80) q dX12_station_119 (by decide) ?_
            rw [cmpI_0] at c103
            refine ih (i + 1) (by omega) (fun x x0 x1 => ?_)
            by_cases ex : x = i
            · rw [ex]
              rintro ⟨z1, z2⟩
              apply c103
              have ni' := ni.congr (f := fun j => bA h m (a + j)) (fun j j0 j1 => z2 j j0 (by omega))
              rw [z1] at ni'
              rw [ni'.2.2.2, hv.2.2.2]
            · exact hx x x0 (by omega)
          refine r_aload_0 (pc := 106) q dX12_station_106 ?_
          refine r_iconst (pc := 107) q dX12_station_107 ?_
          refine r_aload_0 (pc := 108) q dX12_station_108 ?_
          refine r_geti (pc := 109) q fX12_144 (kz := 13) rfl (by decide) rfl hM.o dX12_station_109 ?_
          rw [k13]
          refine r_cI2 (pc := 112) q (c_X12_wrong (by first | assumption | exact ⟨by omega, by omega⟩ | omega)) mX12_150 hM.o (by decide) (Nat.le_of_ble_eq_true rfl) rfl dX12_station_112 (fun z5 h5 hz5 => ?_)
          refine r_zreturn (pc := 115) q rt dX12_station_115 (by rcases hz5 with ⟨z, -⟩; omega) ?_
          obtain ⟨ez, eh5⟩ := hz5
          rw [cmpI_0] at c103
          rw [c103] at ni
          have q5 := NmP.inj ni hv
          have L1 := hv.1
          have L8 := hv.2.1
          obtain ⟨w1, w2, w3, w4, w5⟩ := wr 3 h5 (by omega) (by omega) (by rw [PR_wrd (by omega) hb hrun (by omega), if_neg (awt (by omega)), if_neg (by omega), cif_t ⟨(i : Int), by omega, by omega, q5.1, fun j j0 j1 => q5.2 j j0 (by omega)⟩]) eh5
          exact ⟨w1, w2, Or.inl ⟨ez, w3, w4, w5⟩⟩
      have hn1 : h1 (m + 5) 4 = n := by rw [e5]; exact hn
      have lt0 : ∀ L1 : 1 ≤ e - a, a < h m 2 := fun L1 => by omega
      refine r_aload_0 (pc := 30) q dX12_station_30 ?_
      refine r_aload_0 (pc := 31) q dX12_station_31 ?_
      refine r_geti (pc := 32) q fX12_144 (kz := 13) rfl (by decide) rfl hM.o dX12_station_32 ?_
      rw [k13]
      refine r_iload_1 (pc := 35) q dX12_station_35 ?_
      refine r_cL2 (pc := 36) q (c_X12_nameOf hM (by omega) (by omega) (by omega) (by omega) (by omega) (by omega)) mX12_120 hM.o (by decide) (Nat.le_of_ble_eq_true rfl) rfl dX12_station_36 (fun z2 h2 hz2 => ?_)
      obtain ⟨hz2, rfl⟩ := hz2
      rw [kb] at hz2
      have iN : isNm (bA h m) a e ↔ (1 ≤ e - a ∧ e - a ≤ 8) := ⟨fun z => ⟨z.1, z.2.1⟩, fun z => ⟨z.1, z.2, fun k k0 k1 => by
        have := hrun.2.1 (k - a) (by omega) (by omega)
        rw [show a + (k - a) = k by omega] at this
        exact this⟩⟩
      have yv : (1 ≤ e - a ∧ e - a ≤ 8) → NmP z2 (fun j => bA h m (a + j)) (e - a) := fun z => ⟨z.1, z.2, fun i i0 i1 => hrun.2.1 i i0 i1, hz2.1 (iN.mpr z)⟩
      have zb : 0 ≤ z2 ∧ z2 ≤ 9223372036854775807 := by
        by_cases z : 1 ≤ e - a ∧ e - a ≤ 8
        · have := (yv z).nn; have := (yv z).lt; omega
        · have := hz2.2 (fun y => z (iN.mp y)); omega
      refine r_lstore_2 (pc := 39) q dX12_station_39 rfl ?_
      refine r_lload_2 (pc := 40) q dX12_station_40 ?_
      refine r_lconst (pc := 41) q dX12_station_41 (by decide) ?_
      refine r_lcmp (pc := 42) q dX12_station_42 ⟨by omega, by omega⟩ ⟨by decide, by decide⟩ ?_
      refine r_if_ne (pc := 43) q 56 dX12_station_43 (by decide) ⟨by have := cmpI_in z2 ((0 : Fin 2) : Nat); omega, by have := cmpI_in z2 ((0 : Fin 2) : Nat); omega⟩ (fun c43 => ?_) (fun c43 => ?_)
      · rw [cmpI_0] at c43
        have zL : 1 ≤ e - a ∧ e - a ≤ 8 := by
          by_cases z : 1 ≤ e - a ∧ e - a ≤ 8
          · exact z
          · exact absurd (hz2.2 (fun y => z (iN.mp y))) c43
        refine r_aload_0 (pc := 56) q dX12_station_56 ?_
        refine r_getr (pc := 57) q fX12_23 (kz := 7) rfl (by decide) rfl hM.o hM.r_stations dX12_station_57 ?_
        refine r_iconst (pc := 60) q dX12_station_60 ?_
        refine r_iald (pc := 61) q hM.s_stations (by omega) (by omega) dX12_station_61 ?_
        rw [hn1]
        refine r_bipush (pc := 62) q dX12_station_62 (by decide) ?_
        refine r_icmp_ne (pc := 64) q 77 dX12_station_64 (by decide) ⟨by omega, by omega⟩ ⟨by omega, by omega⟩ (fun c64 => ?_) (fun c64 => ?_)
        · refine r_iconst (pc := 77) q dX12_station_77 ?_
          refine r_istore_4 (pc := 78) q dX12_station_78 rfl ?_
          exact dl z2 (yv zL) (by omega) n.toNat 0 (by omega) (fun x x0 x1 => by omega)
        refine r_aload_0 (pc := 67) q dX12_station_67 ?_
        refine r_iconst (pc := 68) q dX12_station_68 ?_
        refine r_aload_0 (pc := 69) q dX12_station_69 ?_
        refine r_geti (pc := 70) q fX12_144 (kz := 13) rfl (by decide) rfl hM.o dX12_station_70 ?_
        rw [k13]
        refine r_cI2 (pc := 73) q (c_X12_wrong (by first | assumption | exact ⟨by omega, by omega⟩ | omega)) mX12_150 hM.o (by decide) (Nat.le_of_ble_eq_true rfl) rfl dX12_station_73 (fun z5 h5 hz5 => ?_)
        refine r_zreturn (pc := 76) q rt dX12_station_76 (by rcases hz5 with ⟨z, -⟩; omega) ?_
        obtain ⟨ez, eh5⟩ := hz5
        obtain ⟨w1, w2, w3, w4, w5⟩ := wr 2 h5 (by omega) (by omega) (by rw [PR_wrd (by omega) hb hrun (by omega), if_neg (awt (by omega)), if_pos (by omega)]) eh5
        exact ⟨w1, w2, Or.inl ⟨ez, w3, w4, w5⟩⟩
      refine r_aload_0 (pc := 46) q dX12_station_46 ?_
      refine r_iconst (pc := 47) q dX12_station_47 ?_
      refine r_aload_0 (pc := 48) q dX12_station_48 ?_
      refine r_geti (pc := 49) q fX12_144 (kz := 13) rfl (by decide) rfl hM.o dX12_station_49 ?_
      rw [k13]
      refine r_cI2 (pc := 52) q (c_X12_wrong (by first | assumption | exact ⟨by omega, by omega⟩ | omega)) mX12_150 hM.o (by decide) (Nat.le_of_ble_eq_true rfl) rfl dX12_station_52 (fun z6 h6 hz6 => ?_)
      refine r_zreturn (pc := 55) q rt dX12_station_55 (by rcases hz6 with ⟨z, -⟩; omega) ?_
      obtain ⟨ez, eh6⟩ := hz6
      rw [cmpI_0] at c43
      have zL : ¬ (1 ≤ e - a ∧ e - a ≤ 8) := fun z => by have := (yv z).nn; rw [c43] at this; exact absurd this (by decide)
      obtain ⟨w1, w2, w3, w4, w5⟩ := wr 1 h6 (by omega) (by omega) (by
        by_cases L0 : e - a = 0
        · refine PR_noN (by omega) hb hnb ?_
          have := hrun.2.2
          rw [L0, Int.add_zero] at this
          exact this
        · have := hrun.1
          rw [PR_wrd (by omega) hb hrun (by omega), if_pos (Or.inr (by omega))]) eh6
      exact ⟨w1, w2, Or.inl ⟨ez, w3, w4, w5⟩⟩
    have lp : ∀ (d : Nat) (e : Int), e + d = h m 2 → a ≤ e → (∀ j : Int, a ≤ j → j < e → isL (bA h m j)) → G X 0 0 9 [some (.ref m), some (.int (iI e)), none, none, none] [] sz S r h1 := by
      intro d
      have go : ∀ e : Int, e ≤ h m 2 → a ≤ e → (∀ j : Int, a ≤ j → j < e → isL (bA h m j)) → (isL (bA h m e) → G X 0 0 9 [some (.ref m), some (.int (iI (e + 1))), none, none, none] [] sz S r h1) → G X 0 0 9 [some (.ref m), some (.int (iI e)), none, none, none] [] sz S r h1 := by
        intro e eT ea hl2 kk
        have bi := bA_in h m e
        refine r_aload_0 (pc := 9) q dX12_station_9 ?_
        refine r_iload_1 (pc := 10) q dX12_station_10 ?_
        refine r_cI1 (pc := 11) q (c_X12_byteAt hM (by omega) (by omega) (by omega) (by omega)) mX12_116 hM.o (by decide) (Nat.le_of_ble_eq_true rfl) rfl dX12_station_11 (fun z1 h1 hz1 => ?_)
        obtain ⟨rfl, rfl⟩ := hz1
        rw [kb]
        refine r_bipush (pc := 14) q dX12_station_14 (by decide) ?_
        refine r_bipush (pc := 16) q dX12_station_16 (by decide) ?_
        refine r_sI3 (pc := 18) q (c_X12_within (by first | assumption | exact ⟨by omega, by omega⟩ | omega) (by first | assumption | exact ⟨by omega, by omega⟩ | omega) (by first | assumption | exact ⟨by omega, by omega⟩ | omega)) mX12_112 (by decide) (Nat.le_of_ble_eq_true rfl) rfl dX12_station_18 (fun z3 h3 hz3 => ?_)
        obtain ⟨hz3, rfl⟩ := hz3
        refine r_if_eq (pc := 21) q 30 dX12_station_21 (by decide) ⟨by omega, by omega⟩ (fun c21 => ?_) (fun c21 => ?_)
        · refine J30 e ea eT ⟨by omega, fun j j0 j1 => hl2 (a + j) (by omega) (by omega), fun z => ?_⟩
          rw [show a + (e - a) = e by omega] at z
          unfold isL at z
          omega
        refine r_iinc_1 (pc := 24) q dX12_station_24 rfl ?_
        refine r_goto (pc := 27) (tgt := 9) q dX12_station_27 (by decide) ?_
        exact kk (by unfold isL; omega)
      induction d with
      | zero =>
        intro e he ea hl2
        refine go e (by omega) ea hl2 (fun z => ?_)
        have := hb e (by omega)
        unfold isL at z
        omega
      | succ d ih =>
        intro e he ea hl2
        refine go e (by omega) ea hl2 (fun z => ih (e + 1) (by omega) (by omega) (fun j j0 j1 => ?_))
        by_cases ej : j = e
        · rw [ej]; exact z
        · exact hl2 j j0 (by omega)
    refine r_aload_0 (pc := 4) q dX12_station_4 ?_
    refine r_geti (pc := 5) q fX12_144 (kz := 13) rfl (by decide) rfl hM.o dX12_station_5 ?_
    rw [k13]
    refine r_istore_1 (pc := 8) q dX12_station_8 rfl ?_
    exact lp (h m 2 - a).toNat a (by omega) (by omega) (fun j j0 j1 => by omega)
  refine r_aload_0 (pc := 0) q dX12_station_0 ?_
  refine r_cV0 (pc := 1) q (c_X12_blanks hM t0 t1 a0 a1) mX12_147 hM.o (by decide) (Nat.le_of_ble_eq_true rfl) rfl dX12_station_1 (fun h1 hz1 => ?_)
  obtain ⟨a, e1, a2, a3, hbl, hnb⟩ := hz1
  exact con a h1 e1 a2 a3 hbl hnb
