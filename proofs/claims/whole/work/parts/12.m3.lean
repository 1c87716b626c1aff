def lsR (h : sH) (m : Nat) : Prop := 0 ≤ h m 5 ∧ h m 5 ≤ 4 ∧ ∀ l : Int, 0 ≤ l → l < h m 5 → (h (m + 4) l = 2 ∨ h (m + 4) l = 3) ∧ 2 ≤ h (m + 5) l ∧ h (m + 5) l ≤ 10
def nuR (h : sH) (m : Nat) (k : Int) : Prop := 1 ≤ h (m + 8) k ∧ h (m + 8) k ≤ 8 ∧ ∀ j : Int, 0 ≤ j → j < h (m + 8) k → 1 ≤ h (m + 7) (9 * k + j) ∧ h (m + 7) (9 * k + j) ≤ 4
def hbR (h : sH) (m : Nat) : Prop := 0 ≤ h m 23 ∧ h m 23 ≤ 20 ∧ ∀ k : Int, 0 ≤ k → k < h m 23 → (0 ≤ h (m + 16) k ∧ h (m + 16) k ≤ 4) ∧ (0 ≤ h (m + 17) k ∧ h (m + 17) k ≤ 4) ∧ (1 ≤ h (m + 18) k ∧ h (m + 18) k ≤ 20) ∧ h (m + 16) k ≠ h (m + 17) k
theorem c_X12_isList {l : Launch} {D : va_G} {aC : Nat → ClassId} {B t sz : Nat} {S : sS} {r : sR} {h : sH} {m : Nat} {l1 : Int} (hM : LX12 S r m) (hl1 : inR l1) (L0 : 0 ≤ h m 5) (L1 : h m 5 ≤ 4) : CtI l yX12_isList cX12_isList 2 (some .boolean) 1 22 [.ref m, .int (iI l1)] D aC B t sz S r h (fun z h1 => ((z = 1 ∧ 0 ≤ l1 ∧ l1 < h m 5) ∨ (z = 0 ∧ (l1 < 0 ∨ h m 5 ≤ l1))) ∧ h = h1) := by
  unfold CtI
  refine Ct.of (lv := [some (.ref m), some (.int (iI l1))]) (by decide +kernel) rfl (Nat.le_of_ble_eq_true rfl) (fun X hl q rt hnm => ?_)
  refine r_iload_1 (pc := 0) q dX12_isList_0 ?_
  refine r_iconst (pc := 1) q dX12_isList_1 ?_
  refine r_aload_0 (pc := 2) q dX12_isList_2 ?_
  refine r_geti (pc := 3) q fX12_157 (kz := 5) rfl (by decide) rfl hM.o dX12_isList_3 ?_
  refine r_iconst (pc := 6) q dX12_isList_6 ?_
  refine r_isub (pc := 7) q dX12_isList_7 ?_
  refine r_sI3 (pc := 8) q (c_X12_within (by first | assumption | exact ⟨by omega, by omega⟩ | omega) (by first | assumption | exact ⟨by omega, by omega⟩ | omega) (by first | assumption | exact ⟨by omega, by omega⟩ | omega)) mX12_112 (by decide) (Nat.le_of_ble_eq_true rfl) rfl dX12_isList_8 (fun z1 h1 hz1 => ?_)
  obtain ⟨hz1, rfl⟩ := hz1
  refine r_zreturn (pc := 11) q rt dX12_isList_11 (by omega) ?_
  exact ⟨by omega, rfl⟩
theorem c_X12_isStation {l : Launch} {D : va_G} {aC : Nat → ClassId} {B t sz : Nat} {S : sS} {r : sR} {h : sH} {m : Nat} {l1 i : Int} (hM : LX12 S r m) (hl1 : inR l1) (hi : inR i) (hL : lsR h m) : CtI l yX12_isStation cX12_isStation 3 (some .boolean) 2 43 [.ref m, .int (iI l1), .int (iI i)] D aC B t sz S r h (fun z h1 => ((z = 1 ∧ 0 ≤ l1 ∧ l1 < h m 5 ∧ 0 ≤ i ∧ i < h (m + 5) l1) ∨ (z = 0 ∧ ¬ (0 ≤ l1 ∧ l1 < h m 5 ∧ 0 ≤ i ∧ i < h (m + 5) l1))) ∧ h = h1) := by
  unfold CtI
  refine Ct.of (lv := [some (.ref m), some (.int (iI l1)), some (.int (iI i))]) (by decide +kernel) rfl (Nat.le_of_ble_eq_true rfl) (fun X hl q rt hnm => ?_)
  obtain ⟨L0, L1, L2⟩ := hL
  refine r_aload_0 (pc := 0) q dX12_isStation_0 ?_
  refine r_iload_1 (pc := 1) q dX12_isStation_1 ?_
  refine r_cI1 (pc := 2) q (c_X12_isList (by first | assumption | exact ⟨by omega, by omega⟩ | omega) (by first | assumption | exact ⟨by omega, by omega⟩ | omega) (by first | assumption | exact ⟨by omega, by omega⟩ | omega) (by first | assumption | exact ⟨by omega, by omega⟩ | omega)) mX12_167 hM.o (by decide) (Nat.le_of_ble_eq_true rfl) rfl dX12_isStation_2 (fun z1 h1 hz1 => ?_)
  obtain ⟨hz1, rfl⟩ := hz1
  refine r_if_eq (pc := 5) q 28 dX12_isStation_5 (by decide) ⟨by omega, by omega⟩ (fun c5 => ?_) (fun c5 => ?_)
  · refine r_iconst (pc := 28) q dX12_isStation_28 ?_
    refine r_zreturn (pc := 29) q rt dX12_isStation_29 (by decide) ?_
    exact ⟨by omega, rfl⟩
  have L3 := L2 l1 (by omega) (by omega)
  refine r_iload_2 (pc := 8) q dX12_isStation_8 ?_
  refine r_iconst (pc := 9) q dX12_isStation_9 ?_
  refine r_aload_0 (pc := 10) q dX12_isStation_10 ?_
  refine r_getr (pc := 11) q fX12_23 (kz := 7) rfl (by decide) rfl hM.o hM.r_stations dX12_isStation_11 ?_
  refine r_iload_1 (pc := 14) q dX12_isStation_14 ?_
  refine r_iald (pc := 15) q hM.s_stations (by omega) (by omega) dX12_isStation_15 ?_
  refine r_iconst (pc := 16) q dX12_isStation_16 ?_
  refine r_isub (pc := 17) q dX12_isStation_17 ?_
  refine r_sI3 (pc := 18) q (c_X12_within (by first | assumption | exact ⟨by omega, by omega⟩ | omega) (by first | assumption | exact ⟨by omega, by omega⟩ | omega) (by first | assumption | exact ⟨by omega, by omega⟩ | omega)) mX12_112 (by decide) (Nat.le_of_ble_eq_true rfl) rfl dX12_isStation_18 (fun z2 h2 hz2 => ?_)
  obtain ⟨hz2, rfl⟩ := hz2
  refine r_if_eq (pc := 21) q 28 dX12_isStation_21 (by decide) ⟨by omega, by omega⟩ (fun c21 => ?_) (fun c21 => ?_)
  · refine r_iconst (pc := 28) q dX12_isStation_28 ?_
    refine r_zreturn (pc := 29) q rt dX12_isStation_29 (by decide) ?_
    exact ⟨by omega, rfl⟩
  refine r_iconst (pc := 24) q dX12_isStation_24 ?_
  refine r_goto (pc := 25) (tgt := 29) q dX12_isStation_25 (by decide) ?_
  refine r_zreturn (pc := 29) q rt dX12_isStation_29 (by decide) ?_
  exact ⟨by omega, rfl⟩
theorem c_X12_isAsked {l : Launch} {D : va_G} {aC : Nat → ClassId} {B t sz : Nat} {S : sS} {r : sR} {h : sH} {m : Nat} {l1 d : Int} (hM : LX12 S r m) (hl1 : inR l1) (hd : inR d) (L0 : 0 ≤ h m 5) (L1 : h m 5 ≤ 4) (N0 : 0 ≤ h m 29) (N1 : h m 29 ≤ 100000) : CtI l yX12_isAsked cX12_isAsked 3 (some .boolean) 2 43 [.ref m, .int (iI l1), .int (iI d)] D aC B t sz S r h (fun z h1 => ((z = 1 ∧ 0 ≤ l1 ∧ l1 < h m 5 ∧ 0 ≤ d ∧ d ≤ h m 29) ∨ (z = 0 ∧ ¬ (0 ≤ l1 ∧ l1 < h m 5 ∧ 0 ≤ d ∧ d ≤ h m 29))) ∧ h = h1) := by
  unfold CtI
  refine Ct.of (lv := [some (.ref m), some (.int (iI l1)), some (.int (iI d))]) (by decide +kernel) rfl (Nat.le_of_ble_eq_true rfl) (fun X hl q rt hnm => ?_)
  refine r_aload_0 (pc := 0) q dX12_isAsked_0 ?_
  refine r_iload_1 (pc := 1) q dX12_isAsked_1 ?_
  refine r_cI1 (pc := 2) q (c_X12_isList (by first | assumption | exact ⟨by omega, by omega⟩ | omega) (by first | assumption | exact ⟨by omega, by omega⟩ | omega) (by first | assumption | exact ⟨by omega, by omega⟩ | omega) (by first | assumption | exact ⟨by omega, by omega⟩ | omega)) mX12_167 hM.o (by decide) (Nat.le_of_ble_eq_true rfl) rfl dX12_isAsked_2 (fun z1 h1 hz1 => ?_)
  obtain ⟨hz1, rfl⟩ := hz1
  refine r_if_eq (pc := 5) q 24 dX12_isAsked_5 (by decide) ⟨by omega, by omega⟩ (fun c5 => ?_) (fun c5 => ?_)
  · refine r_iconst (pc := 24) q dX12_isAsked_24 ?_
    refine r_zreturn (pc := 25) q rt dX12_isAsked_25 (by decide) ?_
    exact ⟨by omega, rfl⟩
  refine r_iload_2 (pc := 8) q dX12_isAsked_8 ?_
  refine r_iconst (pc := 9) q dX12_isAsked_9 ?_
  refine r_aload_0 (pc := 10) q dX12_isAsked_10 ?_
  refine r_geti (pc := 11) q fX12_181 (kz := 29) rfl (by decide) rfl hM.o dX12_isAsked_11 ?_
  refine r_sI3 (pc := 14) q (c_X12_within (by first | assumption | exact ⟨by omega, by omega⟩ | omega) (by first | assumption | exact ⟨by omega, by omega⟩ | omega) (by first | assumption | exact ⟨by omega, by omega⟩ | omega)) mX12_112 (by decide) (Nat.le_of_ble_eq_true rfl) rfl dX12_isAsked_14 (fun z2 h2 hz2 => ?_)
  obtain ⟨hz2, rfl⟩ := hz2
  refine r_if_eq (pc := 17) q 24 dX12_isAsked_17 (by decide) ⟨by omega, by omega⟩ (fun c17 => ?_) (fun c17 => ?_)
  · refine r_iconst (pc := 24) q dX12_isAsked_24 ?_
    refine r_zreturn (pc := 25) q rt dX12_isAsked_25 (by decide) ?_
    exact ⟨by omega, rfl⟩
  refine r_iconst (pc := 20) q dX12_isAsked_20 ?_
  refine r_goto (pc := 21) (tgt := 25) q dX12_isAsked_21 (by decide) ?_
  refine r_zreturn (pc := 25) q rt dX12_isAsked_25 (by decide) ?_
  exact ⟨by omega, rfl⟩
def vS (g : Int → Int) : Nat → Int
  | 0 => 0
  | n + 1 => vS g n + svI (g n)
theorem vS_in (g : Int → Int) : ∀ n : Nat, 0 ≤ vS g n ∧ vS g n ≤ 50 * n
  | 0 => by simp [vS]
  | n + 1 => by
    have a := vS_in g n
    have b := svI_in (g n)
    simp only [vS]; omega
theorem c_X12_valueOf {l : Launch} {D : va_G} {aC : Nat → ClassId} {B t sz : Nat} {S : sS} {r : sR} {h : sH} {m : Nat} {l1 i : Int} (hM : LX12 S r m) (l0 : 0 ≤ l1) (l3 : l1 ≤ 4) (i0 : 0 ≤ i) (i9 : i ≤ 9) (hN : nuR h m (10 * l1 + i)) : CtI l yX12_valueOf cX12_valueOf 5 (some .int) 1 20 [.ref m, .int (iI l1), .int (iI i)] D aC B t sz S r h (fun z h1 => vS (fun j => h (m + 7) (9 * (10 * l1 + i) + j)) (h (m + 8) (10 * l1 + i)).toNat = z ∧ h = h1) := by
  unfold CtI
  refine Ct.of (lv := [some (.ref m), some (.int (iI l1)), some (.int (iI i)), none, none]) (by decide +kernel) rfl (Nat.le_of_ble_eq_true rfl) (fun X hl q rt hnm => ?_)
  obtain ⟨n1, n8, hs⟩ := hN
  have lp : ∀ (k j : Nat), (j : Int) + k = h (m + 8) (10 * l1 + i) → G X 0 0 5 [some (.ref m), some (.int (iI l1)), some (.int (iI i)), some (.int (iI (vS (fun j => h (m + 7) (9 * (10 * l1 + i) + j)) j))), some (.int (iI j))] [] sz S r h := by
    intro k
    induction k with
    | zero =>
      intro j hj
      refine r_iload_4 (pc := 5) q dX12_valueOf_5 ?_
      refine r_aload_0 (pc := 7) q dX12_valueOf_7 ?_
      refine r_getr (pc := 8) q fX12_33 (kz := 10) rfl (by decide) rfl hM.o hM.r_many dX12_valueOf_8 ?_
      refine r_bipush (pc := 11) q dX12_valueOf_11 (by decide) ?_
      refine r_iload_1 (pc := 13) q dX12_valueOf_13 ?_
      refine r_imul (pc := 14) q dX12_valueOf_14 ?_
      refine r_iload_2 (pc := 15) q dX12_valueOf_15 ?_
      refine r_iadd (pc := 16) q dX12_valueOf_16 ?_
      refine r_iald (pc := 17) q hM.s_many (by omega) (by omega) dX12_valueOf_17 ?_
      refine r_icmp_ge (pc := 18) q 50 dX12_valueOf_18 (by decide) ⟨by omega, by omega⟩ ⟨by omega, by omega⟩ (fun c18 => ?_) (fun c18 => ?_)
      · refine r_iload_3 (pc := 50) q dX12_valueOf_50 ?_
        refine r_ireturn (pc := 51) q rt dX12_valueOf_51 ?_
        exact ⟨by rw [show (h (m + 8) (10 * l1 + i)).toNat = j by omega], rfl⟩
      exact absurd (show h (m + 8) (10 * l1 + i) ≤ (j : Int) by omega) c18
    | succ k ih =>
      intro j hj
      have b := hs j (by omega) (by omega)
      refine r_iload_4 (pc := 5) q dX12_valueOf_5 ?_
      refine r_aload_0 (pc := 7) q dX12_valueOf_7 ?_
      refine r_getr (pc := 8) q fX12_33 (kz := 10) rfl (by decide) rfl hM.o hM.r_many dX12_valueOf_8 ?_
      refine r_bipush (pc := 11) q dX12_valueOf_11 (by decide) ?_
      refine r_iload_1 (pc := 13) q dX12_valueOf_13 ?_
      refine r_imul (pc := 14) q dX12_valueOf_14 ?_
      refine r_iload_2 (pc := 15) q dX12_valueOf_15 ?_
      refine r_iadd (pc := 16) q dX12_valueOf_16 ?_
      refine r_iald (pc := 17) q hM.s_many (by omega) (by omega) dX12_valueOf_17 ?_
      refine r_icmp_ge (pc := 18) q 50 dX12_valueOf_18 (by decide) ⟨by omega, by omega⟩ ⟨by omega, by omega⟩ (fun c18 => ?_) (fun c18 => ?_)
      · exact absurd c18 (by omega)
      refine r_iload_3 (pc := 21) q dX12_valueOf_21 ?_
      refine r_aload_0 (pc := 22) q dX12_valueOf_22 ?_
      refine r_getr (pc := 23) q fX12_30 (kz := 9) rfl (by decide) rfl hM.o hM.r_signs dX12_valueOf_23 ?_
      refine r_bipush (pc := 26) q dX12_valueOf_26 (by decide) ?_
      refine r_bipush (pc := 28) q dX12_valueOf_28 (by decide) ?_
      refine r_iload_1 (pc := 30) q dX12_valueOf_30 ?_
      refine r_imul (pc := 31) q dX12_valueOf_31 ?_
      refine r_iload_2 (pc := 32) q dX12_valueOf_32 ?_
      refine r_iadd (pc := 33) q dX12_valueOf_33 ?_
      refine r_imul (pc := 34) q dX12_valueOf_34 ?_
      refine r_iload_4 (pc := 35) q dX12_valueOf_35 ?_
      refine r_iadd (pc := 37) q dX12_valueOf_37 ?_
      refine r_iald (pc := 38) q hM.s_signs (by omega) (by omega) dX12_valueOf_38 ?_
      refine r_sI1 (pc := 39) q (c_X12_worth (by first | assumption | exact ⟨by omega, by omega⟩ | omega)) mX12_171 (by decide) (Nat.le_of_ble_eq_true rfl) rfl dX12_valueOf_39 (fun z1 h1 hz1 => ?_)
      obtain ⟨rfl, rfl⟩ := hz1
      refine r_iadd (pc := 42) q dX12_valueOf_42 ?_
      refine r_istore_3 (pc := 43) q dX12_valueOf_43 rfl ?_
      refine r_iinc_4 (pc := 44) q dX12_valueOf_44 rfl ?_
      refine r_goto (pc := 47) (tgt := 5) q dX12_valueOf_47 (by decide) ?_
      exact ih (j + 1) (by omega)
  refine r_iconst (pc := 0) q dX12_valueOf_0 ?_
  refine r_istore_3 (pc := 1) q dX12_valueOf_1 rfl ?_
  refine r_iconst (pc := 2) q dX12_valueOf_2 ?_
  refine r_istore_4 (pc := 3) q dX12_valueOf_3 rfl ?_
  exact lp (h (m + 8) (10 * l1 + i)).toNat 0 (by omega)
def eqS (g f : Int → Int) (n : Int) : Prop := ∀ j : Int, 0 ≤ j → j < n → g j = f j
theorem c_X12_areSame {l : Launch} {D : va_G} {aC : Nat → ClassId} {B t sz : Nat} {S : sS} {r : sR} {h : sH} {m : Nat} {k o : Int} (hM : LX12 S r m) (k0 : 0 ≤ k) (k1 : k ≤ 49) (o0 : 0 ≤ o) (o1 : o ≤ 49) (hk : nuR h m k) (ho : nuR h m o) : CtI l yX12_areSame cX12_areSame 5 (some .boolean) 0 0 [.ref m, .int (iI k), .int (iI o)] D aC B t sz S r h (fun z h1 => ((z = 1 ∧ h (m + 8) k = h (m + 8) o ∧ eqS (fun j => h (m + 7) (9 * k + j)) (fun j => h (m + 7) (9 * o + j)) (h (m + 8) k)) ∨ (z = 0 ∧ ¬ (h (m + 8) k = h (m + 8) o ∧ eqS (fun j => h (m + 7) (9 * k + j)) (fun j => h (m + 7) (9 * o + j)) (h (m + 8) k)))) ∧ h = h1) := by
  unfold CtI
  refine Ct.of (lv := [some (.ref m), some (.int (iI k)), some (.int (iI o)), none, none]) (by decide +kernel) rfl (Nat.le_of_ble_eq_true rfl) (fun X hl q rt hnm => ?_)
  obtain ⟨n1, n8, hs⟩ := hk
  obtain ⟨p1, p8, hp⟩ := ho
  have no : ∀ j : Int, inR j → ¬ (h (m + 8) k = h (m + 8) o ∧ eqS (fun j => h (m + 7) (9 * k + j)) (fun j => h (m + 7) (9 * o + j)) (h (m + 8) k)) → G X 0 0 24 [some (.ref m), some (.int (iI k)), some (.int (iI o)), some (.int (iI 0)), some (.int (iI j))] [] sz S r h := by
    intro j hj hn
    refine r_iload_4 (pc := 24) q dX12_areSame_24 ?_
    refine r_aload_0 (pc := 26) q dX12_areSame_26 ?_
    refine r_getr (pc := 27) q fX12_33 (kz := 10) rfl (by decide) rfl hM.o hM.r_many dX12_areSame_27 ?_
    refine r_iload_1 (pc := 30) q dX12_areSame_30 ?_
    refine r_iald (pc := 31) q hM.s_many (by omega) (by omega) dX12_areSame_31 ?_
    refine r_icmp_ge (pc := 32) q 78 dX12_areSame_32 (by decide) hj ⟨by omega, by omega⟩ (fun c32 => ?_) (fun c32 => ?_)
    · refine r_iload_3 (pc := 78) q dX12_areSame_78 ?_
      refine r_zreturn (pc := 79) q rt dX12_areSame_79 (by decide) ?_
      exact ⟨Or.inr ⟨rfl, hn⟩, rfl⟩
    refine r_iload_3 (pc := 35) q dX12_areSame_35 ?_
    refine r_if_eq (pc := 36) q 78 dX12_areSame_36 (by decide) ⟨by omega, by omega⟩ (fun c36 => ?_) (fun c36 => ?_)
    · refine r_iload_3 (pc := 78) q dX12_areSame_78 ?_
      refine r_zreturn (pc := 79) q rt dX12_areSame_79 (by decide) ?_
      exact ⟨Or.inr ⟨rfl, hn⟩, rfl⟩
    exact absurd rfl c36
  have lp : ∀ (d j : Nat), (j : Int) + d = h (m + 8) k → h (m + 8) k = h (m + 8) o → (∀ i : Int, 0 ≤ i → i < j → h (m + 7) (9 * k + i) = h (m + 7) (9 * o + i)) → G X 0 0 24 [some (.ref m), some (.int (iI k)), some (.int (iI o)), some (.int (iI 1)), some (.int (iI j))] [] sz S r h := by
    intro d
    induction d with
    | zero =>
      intro j hj he hi
      refine r_iload_4 (pc := 24) q dX12_areSame_24 ?_
      refine r_aload_0 (pc := 26) q dX12_areSame_26 ?_
      refine r_getr (pc := 27) q fX12_33 (kz := 10) rfl (by decide) rfl hM.o hM.r_many dX12_areSame_27 ?_
      refine r_iload_1 (pc := 30) q dX12_areSame_30 ?_
      refine r_iald (pc := 31) q hM.s_many (by omega) (by omega) dX12_areSame_31 ?_
      refine r_icmp_ge (pc := 32) q 78 dX12_areSame_32 (by decide) ⟨by omega, by omega⟩ ⟨by omega, by omega⟩ (fun c32 => ?_) (fun c32 => ?_)
      · refine r_iload_3 (pc := 78) q dX12_areSame_78 ?_
        refine r_zreturn (pc := 79) q rt dX12_areSame_79 (by decide) ?_
        exact ⟨Or.inl ⟨rfl, he, fun i i0 i1 => hi i i0 (by omega)⟩, rfl⟩
      exact absurd (show h (m + 8) k ≤ (j : Int) by omega) c32
    | succ d ih =>
      intro j hj he hi
      have b := hs j (by omega) (by omega)
      have b2 := hp j (by omega) (by omega)
      refine r_iload_4 (pc := 24) q dX12_areSame_24 ?_
      refine r_aload_0 (pc := 26) q dX12_areSame_26 ?_
      refine r_getr (pc := 27) q fX12_33 (kz := 10) rfl (by decide) rfl hM.o hM.r_many dX12_areSame_27 ?_
      refine r_iload_1 (pc := 30) q dX12_areSame_30 ?_
      refine r_iald (pc := 31) q hM.s_many (by omega) (by omega) dX12_areSame_31 ?_
      refine r_icmp_ge (pc := 32) q 78 dX12_areSame_32 (by decide) ⟨by omega, by omega⟩ ⟨by omega, by omega⟩ (fun c32 => ?_) (fun c32 => ?_)
      · exact absurd c32 (by omega)
      refine r_iload_3 (pc := 35) q dX12_areSame_35 ?_
      refine r_if_eq (pc := 36) q 78 dX12_areSame_36 (by decide) ⟨by omega, by omega⟩ (fun c36 => ?_) (fun c36 => ?_)
      · exact absurd c36 (by decide)
      refine r_aload_0 (pc := 39) q dX12_areSame_39 ?_
      refine r_getr (pc := 40) q fX12_30 (kz := 9) rfl (by decide) rfl hM.o hM.r_signs dX12_areSame_40 ?_
      refine r_bipush (pc := 43) q dX12_areSame_43 (by decide) ?_
      refine r_iload_1 (pc := 45) q dX12_areSame_45 ?_
      refine r_imul (pc := 46) q dX12_areSame_46 ?_
      refine r_iload_4 (pc := 47) q dX12_areSame_47 ?_
      refine r_iadd (pc := 49) q dX12_areSame_49 ?_
      refine r_iald (pc := 50) q hM.s_signs (by omega) (by omega) dX12_areSame_50 ?_
      refine r_aload_0 (pc := 51) q dX12_areSame_51 ?_
      refine r_getr (pc := 52) q fX12_30 (kz := 9) rfl (by decide) rfl hM.o hM.r_signs dX12_areSame_52 ?_
      refine r_bipush (pc := 55) q dX12_areSame_55 (by decide) ?_
      refine r_iload_2 (pc := 57) q dX12_areSame_57 ?_
      refine r_imul (pc := 58) q dX12_areSame_58 ?_
      refine r_iload_4 (pc := 59) q dX12_areSame_59 ?_
      refine r_iadd (pc := 61) q dX12_areSame_61 ?_
      refine r_iald (pc := 62) q hM.s_signs (by omega) (by omega) dX12_areSame_62 ?_
      refine r_icmp_ne (pc := 63) q 70 dX12_areSame_63 (by decide) ⟨by omega, by omega⟩ ⟨by omega, by omega⟩ (fun c63 => ?_) (fun c63 => ?_)
      · refine r_iconst (pc := 70) q dX12_areSame_70 ?_
        refine r_istore_3 (pc := 71) q dX12_areSame_71 rfl ?_
        refine r_iinc_4 (pc := 72) q dX12_areSame_72 rfl ?_
        refine r_goto (pc := 75) (tgt := 24) q dX12_areSame_75 (by decide) ?_
        exact no _ ⟨by omega, by omega⟩ (fun e => c63 (e.2 j (by omega) (by omega)))
      refine r_iconst (pc := 66) q dX12_areSame_66 ?_
      refine r_goto (pc := 67) (tgt := 71) q dX12_areSame_67 (by decide) ?_
      refine r_istore_3 (pc := 71) q dX12_areSame_71 rfl ?_
      refine r_iinc_4 (pc := 72) q dX12_areSame_72 rfl ?_
      refine r_goto (pc := 75) (tgt := 24) q dX12_areSame_75 (by decide) ?_
      exact ih (j + 1) (by omega) he (fun i i0 i1 => by
        by_cases e : i = j
        · rw [e]; exact c63
        · exact hi i i0 (by omega))
  refine r_aload_0 (pc := 0) q dX12_areSame_0 ?_
  refine r_getr (pc := 1) q fX12_33 (kz := 10) rfl (by decide) rfl hM.o hM.r_many dX12_areSame_1 ?_
  refine r_iload_1 (pc := 4) q dX12_areSame_4 ?_
  refine r_iald (pc := 5) q hM.s_many (by omega) (by omega) dX12_areSame_5 ?_
  refine r_aload_0 (pc := 6) q dX12_areSame_6 ?_
  refine r_getr (pc := 7) q fX12_33 (kz := 10) rfl (by decide) rfl hM.o hM.r_many dX12_areSame_7 ?_
  refine r_iload_2 (pc := 10) q dX12_areSame_10 ?_
  refine r_iald (pc := 11) q hM.s_many (by omega) (by omega) dX12_areSame_11 ?_
  refine r_icmp_ne (pc := 12) q 19 dX12_areSame_12 (by decide) ⟨by omega, by omega⟩ ⟨by omega, by omega⟩ (fun c12 => ?_) (fun c12 => ?_)
  · refine r_iconst (pc := 19) q dX12_areSame_19 ?_
    refine r_istore_3 (pc := 20) q dX12_areSame_20 rfl ?_
    refine r_iconst (pc := 21) q dX12_areSame_21 ?_
    refine r_istore_4 (pc := 22) q dX12_areSame_22 rfl ?_
    exact no _ ⟨by omega, by omega⟩ (fun e => c12 e.1)
  refine r_iconst (pc := 15) q dX12_areSame_15 ?_
  refine r_goto (pc := 16) (tgt := 20) q dX12_areSame_16 (by decide) ?_
  refine r_istore_3 (pc := 20) q dX12_areSame_20 rfl ?_
  refine r_iconst (pc := 21) q dX12_areSame_21 ?_
  refine r_istore_4 (pc := 22) q dX12_areSame_22 rfl ?_
  exact lp (h (m + 8) k).toNat 0 (by omega) c12 (fun i i0 i1 => by omega)
theorem c_X12_first {l : Launch} {D : va_G} {aC : Nat → ClassId} {B t sz : Nat} {S : sS} {r : sR} {h : sH} {m : Nat} {k sg : Int} (hM : LX12 S r m) (k0 : 0 ≤ k) (k1 : k ≤ 49) (hk : nuR h m k) (hsg : inR sg) : CtI l yX12_first cX12_first 4 (some .int) 0 0 [.ref m, .int (iI k), .int (iI sg)] D aC B t sz S r h (fun z h1 => ((z = -1 ∧ ∀ j : Int, 0 ≤ j → j < h (m + 8) k → h (m + 7) (9 * k + j) ≠ sg) ∨ (0 ≤ z ∧ z < h (m + 8) k ∧ h (m + 7) (9 * k + z) = sg)) ∧ h = h1) := by
  unfold CtI
  refine Ct.of (lv := [some (.ref m), some (.int (iI k)), some (.int (iI sg)), none]) (by decide +kernel) rfl (Nat.le_of_ble_eq_true rfl) (fun X hl q rt hnm => ?_)
  obtain ⟨n1, n8, hs⟩ := hk
  have lp : ∀ (d j : Nat), (j : Int) + d = h (m + 8) k → (∀ i : Int, 0 ≤ i → i < j → h (m + 7) (9 * k + i) ≠ sg) → G X 0 0 2 [some (.ref m), some (.int (iI k)), some (.int (iI sg)), some (.int (iI j))] [] sz S r h := by
    intro d
    induction d with
    | zero =>
      intro j hj hi
      refine r_iload_3 (pc := 2) q dX12_first_2 ?_
      refine r_aload_0 (pc := 3) q dX12_first_3 ?_
      refine r_getr (pc := 4) q fX12_33 (kz := 10) rfl (by decide) rfl hM.o hM.r_many dX12_first_4 ?_
      refine r_iload_1 (pc := 7) q dX12_first_7 ?_
      refine r_iald (pc := 8) q hM.s_many (by omega) (by omega) dX12_first_8 ?_
      refine r_icmp_ge (pc := 9) q 35 dX12_first_9 (by decide) ⟨by omega, by omega⟩ ⟨by omega, by omega⟩ (fun c9 => ?_) (fun c9 => ?_)
      · refine r_iconst (pc := 35) q dX12_first_35 ?_
        refine r_ireturn (pc := 36) q rt dX12_first_36 ?_
        exact ⟨Or.inl ⟨rfl, fun i i0 i1 => hi i i0 (by omega)⟩, rfl⟩
      exact absurd (show h (m + 8) k ≤ (j : Int) by omega) c9
    | succ d ih =>
      intro j hj hi
      have b := hs j (by omega) (by omega)
      refine r_iload_3 (pc := 2) q dX12_first_2 ?_
      refine r_aload_0 (pc := 3) q dX12_first_3 ?_
      refine r_getr (pc := 4) q fX12_33 (kz := 10) rfl (by decide) rfl hM.o hM.r_many dX12_first_4 ?_
      refine r_iload_1 (pc := 7) q dX12_first_7 ?_
      refine r_iald (pc := 8) q hM.s_many (by omega) (by omega) dX12_first_8 ?_
      refine r_icmp_ge (pc := 9) q 35 dX12_first_9 (by decide) ⟨by omega, by omega⟩ ⟨by omega, by omega⟩ (fun c9 => ?_) (fun c9 => ?_)
      · exact absurd c9 (by omega)
      refine r_aload_0 (pc := 12) q dX12_first_12 ?_
      refine r_getr (pc := 13) q fX12_30 (kz := 9) rfl (by decide) rfl hM.o hM.r_signs dX12_first_13 ?_
      refine r_bipush (pc := 16) q dX12_first_16 (by decide) ?_
      refine r_iload_1 (pc := 18) q dX12_first_18 ?_
      refine r_imul (pc := 19) q dX12_first_19 ?_
      refine r_iload_3 (pc := 20) q dX12_first_20 ?_
      refine r_iadd (pc := 21) q dX12_first_21 ?_
      refine r_iald (pc := 22) q hM.s_signs (by omega) (by omega) dX12_first_22 ?_
      refine r_iload_2 (pc := 23) q dX12_first_23 ?_
      refine r_icmp_ne (pc := 24) q 29 dX12_first_24 (by decide) ⟨by omega, by omega⟩ hsg (fun c24 => ?_) (fun c24 => ?_)
      · refine r_iinc_3 (pc := 29) q dX12_first_29 rfl ?_
        refine r_goto (pc := 32) (tgt := 2) q dX12_first_32 (by decide) ?_
        exact ih (j + 1) (by omega) (fun i i0 i1 => by
          by_cases e : i = j
          · rw [e]; exact c24
          · exact hi i i0 (by omega))
      refine r_iload_3 (pc := 27) q dX12_first_27 ?_
      refine r_ireturn (pc := 28) q rt dX12_first_28 ?_
      exact ⟨Or.inr ⟨by omega, by omega, c24⟩, rfl⟩
  refine r_iconst (pc := 0) q dX12_first_0 ?_
  refine r_istore_3 (pc := 1) q dX12_first_1 rfl ?_
  exact lp (h (m + 8) k).toNat 0 (by omega) (fun i i0 i1 => by omega)
/-- a habit that wrote w for t can have been at work in the signs g, n of them -/
def wks (g : Int → Int) (n w t : Int) : Prop := w = 0 ∨ (w ≠ 0 ∧ t = 0 ∧ 1 < n ∧ ∃ j : Int, 0 ≤ j ∧ j < n ∧ g j = w) ∨ (w ≠ 0 ∧ t ≠ 0 ∧ ∃ j : Int, 0 ≤ j ∧ j < n ∧ g j = w ∧ (j = 0 ∨ t ≤ g (j - 1)) ∧ (j = n - 1 ∨ g (j + 1) ≤ t))
theorem c_X12_canBe {l : Launch} {D : va_G} {aC : Nat → ClassId} {B t sz : Nat} {S : sS} {r : sR} {h : sH} {m : Nat} {l1 i b : Int} (hM : LX12 S r m) (l0 : 0 ≤ l1) (l3 : l1 ≤ 4) (i0 : 0 ≤ i) (i9 : i ≤ 9) (hN : nuR h m (10 * l1 + i)) (hH : hbR h m) (b0 : 0 ≤ b) (b1 : b < h m 23) : CtI l yX12_canBe cX12_canBe 7 (some .boolean) 1 23 [.ref m, .int (iI l1), .int (iI i), .int (iI b)] D aC B t sz S r h (fun z h1 => ((z = 1 ∧ wks (fun j => h (m + 7) (9 * (10 * l1 + i) + j)) (h (m + 8) (10 * l1 + i)) (h (m + 17) b) (h (m + 16) b)) ∨ (z = 0 ∧ ¬ wks (fun j => h (m + 7) (9 * (10 * l1 + i) + j)) (h (m + 8) (10 * l1 + i)) (h (m + 17) b) (h (m + 16) b))) ∧ h = h1) := by
  unfold CtI
  refine Ct.of (lv := [some (.ref m), some (.int (iI l1)), some (.int (iI i)), some (.int (iI b)), none, none, none]) (by decide +kernel) rfl (Nat.le_of_ble_eq_true rfl) (fun X hl q rt hnm => ?_)
  obtain ⟨n1, n8, hs⟩ := id hN
  obtain ⟨H0, H20, hh⟩ := hH
  obtain ⟨ht, hw, hc, hne⟩ := hh b b0 b1
  obtain ⟨K, hK⟩ : ∃ K, 10 * l1 + i = K := ⟨_, rfl⟩
  rw [hK] at hN n1 n8 hs rt
  have lp : ∀ (d j : Nat), (j : Int) + d = h (m + 8) K → h (m + 17) b ≠ 0 → h (m + 16) b ≠ 0 → (∀ i : Int, 0 ≤ i → i < j → ¬ (h (m + 7) (9 * K + i) = h (m + 17) b ∧ (i = 0 ∨ h (m + 16) b ≤ h (m + 7) (9 * K + (i - 1))) ∧ (i = h (m + 8) K - 1 ∨ h (m + 7) (9 * K + (i + 1)) ≤ h (m + 16) b))) → ∀ o : Option Value, G X 0 0 64 [some (.ref m), some (.int (iI l1)), some (.int (iI i)), some (.int (iI b)), some (.int (iI K)), some (.int (iI j)), o] [] sz S r h := by
    intro d
    induction d with
    | zero =>
      intro j hj hw0 ht0 hi o
      refine r_iload_5 (pc := 64) q dX12_canBe_64 ?_
      refine r_aload_0 (pc := 66) q dX12_canBe_66 ?_
      refine r_getr (pc := 67) q fX12_33 (kz := 10) rfl (by decide) rfl hM.o hM.r_many dX12_canBe_67 ?_
      refine r_iload_4 (pc := 70) q dX12_canBe_70 ?_
      refine r_iald (pc := 72) q hM.s_many (by omega) (by omega) dX12_canBe_72 ?_
      refine r_icmp_ge (pc := 73) q 188 dX12_canBe_73 (by decide) ⟨by omega, by omega⟩ ⟨by omega, by omega⟩ (fun c73 => ?_) (fun c73 => ?_)
      · refine r_iconst (pc := 188) q dX12_canBe_188 ?_
        refine r_zreturn (pc := 189) q rt dX12_canBe_189 (by decide) ?_
        exact ⟨Or.inr ⟨rfl, fun e => by
          rcases e with e | ⟨e1, e2, -⟩ | ⟨e1, e2, x, x0, x1, e3⟩
          · exact hw0 e
          · exact ht0 e2
          · exact hi x x0 (by omega) e3⟩, rfl⟩
      exact absurd (show h (m + 8) K ≤ (j : Int) by omega) c73
    | succ d ih =>
      intro j hj hw0 ht0 hi o
      have g0 := hs j (by omega) (by omega)
      have gp : 0 < j → 1 ≤ h (m + 7) (9 * K + j - 1) ∧ h (m + 7) (9 * K + j - 1) ≤ 4 := fun e => by
        have := hs (j - 1) (by omega) (by omega)
        rw [show 9 * K + ((j : Int) - 1) = 9 * K + j - 1 by omega] at this
        exact this
      have gn : (j : Int) + 1 < h (m + 8) K → 1 ≤ h (m + 7) (9 * K + j + 1) ∧ h (m + 7) (9 * K + j + 1) ≤ 4 := fun e => by
        have := hs (j + 1) (by omega) (by omega)
        rw [show 9 * K + ((j : Int) + 1) = 9 * K + j + 1 by omega] at this
        exact this
      have cont : ∀ o : Option Value, ¬ (h (m + 7) (9 * K + j) = h (m + 17) b ∧ ((j : Int) = 0 ∨ h (m + 16) b ≤ h (m + 7) (9 * K + j - 1)) ∧ ((j : Int) = h (m + 8) K - 1 ∨ h (m + 7) (9 * K + j + 1) ≤ h (m + 16) b)) → G X 0 0 182 [some (.ref m), some (.int (iI l1)), some (.int (iI i)), some (.int (iI b)), some (.int (iI K)), some (.int (iI j)), o] [] sz S r h := by
        intro o hn
        refine r_iinc_5 (pc := 182) q dX12_canBe_182 rfl ?_
        refine r_goto (pc := 185) (tgt := 64) q dX12_canBe_185 (by decide) ?_
        exact ih (j + 1) (by omega) hw0 ht0 (fun x x0 x1 => by
          by_cases e : x = j
          · rw [e, show 9 * K + ((j : Int) - 1) = 9 * K + j - 1 by omega, show 9 * K + ((j : Int) + 1) = 9 * K + j + 1 by omega]; exact hn
          · exact hi x x0 (by omega)) o
      have yes : (h (m + 7) (9 * K + j) = h (m + 17) b ∧ ((j : Int) = 0 ∨ h (m + 16) b ≤ h (m + 7) (9 * K + j - 1)) ∧ ((j : Int) = h (m + 8) K - 1 ∨ h (m + 7) (9 * K + j + 1) ≤ h (m + 16) b)) → wks (fun j => h (m + 7) (9 * K + j)) (h (m + 8) K) (h (m + 17) b) (h (m + 16) b) := fun e => Or.inr (Or.inr ⟨hw0, ht0, j, by omega, by omega, by
        show h (m + 7) (9 * K + j) = _ ∧ (_ ∨ _ ≤ h (m + 7) (9 * K + ((j : Int) - 1))) ∧ (_ ∨ h (m + 7) (9 * K + ((j : Int) + 1)) ≤ _)
        rw [show 9 * K + ((j : Int) - 1) = 9 * K + j - 1 by omega, show 9 * K + ((j : Int) + 1) = 9 * K + j + 1 by omega]
        exact e⟩)
      refine r_iload_5 (pc := 64) q dX12_canBe_64 ?_
      refine r_aload_0 (pc := 66) q dX12_canBe_66 ?_
      refine r_getr (pc := 67) q fX12_33 (kz := 10) rfl (by decide) rfl hM.o hM.r_many dX12_canBe_67 ?_
      refine r_iload_4 (pc := 70) q dX12_canBe_70 ?_
      refine r_iald (pc := 72) q hM.s_many (by omega) (by omega) dX12_canBe_72 ?_
      refine r_icmp_ge (pc := 73) q 188 dX12_canBe_73 (by decide) ⟨by omega, by omega⟩ ⟨by omega, by omega⟩ (fun c73 => ?_) (fun c73 => ?_)
      · exact absurd c73 (by omega)
      refine r_aload_0 (pc := 76) q dX12_canBe_76 ?_
      refine r_getr (pc := 77) q fX12_30 (kz := 9) rfl (by decide) rfl hM.o hM.r_signs dX12_canBe_77 ?_
      refine r_bipush (pc := 80) q dX12_canBe_80 (by decide) ?_
      refine r_iload_4 (pc := 82) q dX12_canBe_82 ?_
      refine r_imul (pc := 84) q dX12_canBe_84 ?_
      refine r_iload_5 (pc := 85) q dX12_canBe_85 ?_
      refine r_iadd (pc := 87) q dX12_canBe_87 ?_
      refine r_iald (pc := 88) q hM.s_signs (by omega) (by omega) dX12_canBe_88 ?_
      refine r_aload_0 (pc := 89) q dX12_canBe_89 ?_
      refine r_getr (pc := 90) q fX12_64 (kz := 25) rfl (by decide) rfl hM.o hM.r_written dX12_canBe_90 ?_
      refine r_iload_3 (pc := 93) q dX12_canBe_93 ?_
      refine r_iald (pc := 94) q hM.s_written (by omega) (by omega) dX12_canBe_94 ?_
      refine r_icmp_eq (pc := 95) q 101 dX12_canBe_95 (by decide) ⟨by omega, by omega⟩ ⟨by omega, by omega⟩ (fun c95 => ?_) (fun c95 => ?_)
      · refine r_iload_5 (pc := 101) q dX12_canBe_101 ?_
        refine r_if_eq (pc := 103) q 130 dX12_canBe_103 (by decide) ⟨by omega, by omega⟩ (fun c103 => ?_) (fun c103 => ?_)
        · refine r_iload_5 (pc := 130) q dX12_canBe_130 ?_
          refine r_aload_0 (pc := 132) q dX12_canBe_132 ?_
          refine r_getr (pc := 133) q fX12_33 (kz := 10) rfl (by decide) rfl hM.o hM.r_many dX12_canBe_133 ?_
          refine r_iload_4 (pc := 136) q dX12_canBe_136 ?_
          refine r_iald (pc := 138) q hM.s_many (by omega) (by omega) dX12_canBe_138 ?_
          refine r_iconst (pc := 139) q dX12_canBe_139 ?_
          refine r_isub (pc := 140) q dX12_canBe_140 ?_
          refine r_icmp_eq (pc := 141) q 168 dX12_canBe_141 (by decide) ⟨by omega, by omega⟩ ⟨by omega, by omega⟩ (fun c141 => ?_) (fun c141 => ?_)
          · refine r_iconst (pc := 168) q dX12_canBe_168 ?_
            refine r_goto (pc := 169) (tgt := 173) q dX12_canBe_169 (by decide) ?_
            refine r_istore_6 (pc := 173) q dX12_canBe_173 rfl ?_
            refine r_iload_6 (pc := 175) q dX12_canBe_175 ?_
            refine r_if_eq (pc := 177) q 182 dX12_canBe_177 (by decide) ⟨by omega, by omega⟩ (fun c177 => ?_) (fun c177 => ?_)
            · first | exact absurd c177 (by decide) | exact cont _ (by omega)
            first | exact absurd rfl c177 | exact r_iconst (pc := 180) q dX12_canBe_180 (r_zreturn (pc := 181) q rt dX12_canBe_181 (by decide) ⟨Or.inl ⟨rfl, yes (by omega)⟩, rfl⟩)
          refine r_aload_0 (pc := 144) q dX12_canBe_144 ?_
          refine r_getr (pc := 145) q fX12_30 (kz := 9) rfl (by decide) rfl hM.o hM.r_signs dX12_canBe_145 ?_
          refine r_bipush (pc := 148) q dX12_canBe_148 (by decide) ?_
          refine r_iload_4 (pc := 150) q dX12_canBe_150 ?_
          refine r_imul (pc := 152) q dX12_canBe_152 ?_
          refine r_iload_5 (pc := 153) q dX12_canBe_153 ?_
          refine r_iadd (pc := 155) q dX12_canBe_155 ?_
          refine r_iconst (pc := 156) q dX12_canBe_156 ?_
          refine r_iadd (pc := 157) q dX12_canBe_157 ?_
          refine r_iald (pc := 158) q hM.s_signs (by omega) (by omega) dX12_canBe_158 ?_
          refine r_aload_0 (pc := 159) q dX12_canBe_159 ?_
          refine r_getr (pc := 160) q fX12_61 (kz := 24) rfl (by decide) rfl hM.o hM.r_truly dX12_canBe_160 ?_
          refine r_iload_3 (pc := 163) q dX12_canBe_163 ?_
          refine r_iald (pc := 164) q hM.s_truly (by omega) (by omega) dX12_canBe_164 ?_
          have gq := gn (by omega)
          refine r_icmp_gt (pc := 165) q 172 dX12_canBe_165 (by decide) ⟨by omega, by omega⟩ ⟨by omega, by omega⟩ (fun c165 => ?_) (fun c165 => ?_)
          · refine r_iconst (pc := 172) q dX12_canBe_172 ?_
            refine r_istore_6 (pc := 173) q dX12_canBe_173 rfl ?_
            refine r_iload_6 (pc := 175) q dX12_canBe_175 ?_
            refine r_if_eq (pc := 177) q 182 dX12_canBe_177 (by decide) ⟨by omega, by omega⟩ (fun c177 => ?_) (fun c177 => ?_)
            · first | exact absurd c177 (by decide) | exact cont _ (by omega)
            first | exact absurd rfl c177 | exact r_iconst (pc := 180) q dX12_canBe_180 (r_zreturn (pc := 181) q rt dX12_canBe_181 (by decide) ⟨Or.inl ⟨rfl, yes (by omega)⟩, rfl⟩)
          refine r_iconst (pc := 168) q dX12_canBe_168 ?_
          refine r_goto (pc := 169) (tgt := 173) q dX12_canBe_169 (by decide) ?_
          refine r_istore_6 (pc := 173) q dX12_canBe_173 rfl ?_
          refine r_iload_6 (pc := 175) q dX12_canBe_175 ?_
          refine r_if_eq (pc := 177) q 182 dX12_canBe_177 (by decide) ⟨by omega, by omega⟩ (fun c177 => ?_) (fun c177 => ?_)
          · first | exact absurd c177 (by decide) | exact cont _ (by omega)
          first | exact absurd rfl c177 | exact r_iconst (pc := 180) q dX12_canBe_180 (r_zreturn (pc := 181) q rt dX12_canBe_181 (by decide) ⟨Or.inl ⟨rfl, yes (by omega)⟩, rfl⟩)
        refine r_aload_0 (pc := 106) q dX12_canBe_106 ?_
        refine r_getr (pc := 107) q fX12_30 (kz := 9) rfl (by decide) rfl hM.o hM.r_signs dX12_canBe_107 ?_
        refine r_bipush (pc := 110) q dX12_canBe_110 (by decide) ?_
        refine r_iload_4 (pc := 112) q dX12_canBe_112 ?_
        refine r_imul (pc := 114) q dX12_canBe_114 ?_
        refine r_iload_5 (pc := 115) q dX12_canBe_115 ?_
        refine r_iadd (pc := 117) q dX12_canBe_117 ?_
        refine r_iconst (pc := 118) q dX12_canBe_118 ?_
        refine r_isub (pc := 119) q dX12_canBe_119 ?_
        refine r_iald (pc := 120) q hM.s_signs (by omega) (by omega) dX12_canBe_120 ?_
        refine r_aload_0 (pc := 121) q dX12_canBe_121 ?_
        refine r_getr (pc := 122) q fX12_61 (kz := 24) rfl (by decide) rfl hM.o hM.r_truly dX12_canBe_122 ?_
        refine r_iload_3 (pc := 125) q dX12_canBe_125 ?_
        refine r_iald (pc := 126) q hM.s_truly (by omega) (by omega) dX12_canBe_126 ?_
        have gq := gp (by omega)
        refine r_icmp_lt (pc := 127) q 172 dX12_canBe_127 (by decide) ⟨by omega, by omega⟩ ⟨by omega, by omega⟩ (fun c127 => ?_) (fun c127 => ?_)
        · refine r_iconst (pc := 172) q dX12_canBe_172 ?_
          refine r_istore_6 (pc := 173) q dX12_canBe_173 rfl ?_
          refine r_iload_6 (pc := 175) q dX12_canBe_175 ?_
          refine r_if_eq (pc := 177) q 182 dX12_canBe_177 (by decide) ⟨by omega, by omega⟩ (fun c177 => ?_) (fun c177 => ?_)
          · first | exact absurd c177 (by decide) | exact cont _ (by omega)
          first | exact absurd rfl c177 | exact r_iconst (pc := 180) q dX12_canBe_180 (r_zreturn (pc := 181) q rt dX12_canBe_181 (by decide) ⟨Or.inl ⟨rfl, yes (by omega)⟩, rfl⟩)
        refine r_iload_5 (pc := 130) q dX12_canBe_130 ?_
        refine r_aload_0 (pc := 132) q dX12_canBe_132 ?_
        refine r_getr (pc := 133) q fX12_33 (kz := 10) rfl (by decide) rfl hM.o hM.r_many dX12_canBe_133 ?_
        refine r_iload_4 (pc := 136) q dX12_canBe_136 ?_
        refine r_iald (pc := 138) q hM.s_many (by omega) (by omega) dX12_canBe_138 ?_
        refine r_iconst (pc := 139) q dX12_canBe_139 ?_
        refine r_isub (pc := 140) q dX12_canBe_140 ?_
        refine r_icmp_eq (pc := 141) q 168 dX12_canBe_141 (by decide) ⟨by omega, by omega⟩ ⟨by omega, by omega⟩ (fun c141 => ?_) (fun c141 => ?_)
        · refine r_iconst (pc := 168) q dX12_canBe_168 ?_
          refine r_goto (pc := 169) (tgt := 173) q dX12_canBe_169 (by decide) ?_
          refine r_istore_6 (pc := 173) q dX12_canBe_173 rfl ?_
          refine r_iload_6 (pc := 175) q dX12_canBe_175 ?_
          refine r_if_eq (pc := 177) q 182 dX12_canBe_177 (by decide) ⟨by omega, by omega⟩ (fun c177 => ?_) (fun c177 => ?_)
          · first | exact absurd c177 (by decide) | exact cont _ (by omega)
          first | exact absurd rfl c177 | exact r_iconst (pc := 180) q dX12_canBe_180 (r_zreturn (pc := 181) q rt dX12_canBe_181 (by decide) ⟨Or.inl ⟨rfl, yes (by omega)⟩, rfl⟩)
        refine r_aload_0 (pc := 144) q dX12_canBe_144 ?_
        refine r_getr (pc := 145) q fX12_30 (kz := 9) rfl (by decide) rfl hM.o hM.r_signs dX12_canBe_145 ?_
        refine r_bipush (pc := 148) q dX12_canBe_148 (by decide) ?_
        refine r_iload_4 (pc := 150) q dX12_canBe_150 ?_
        refine r_imul (pc := 152) q dX12_canBe_152 ?_
        refine r_iload_5 (pc := 153) q dX12_canBe_153 ?_
        refine r_iadd (pc := 155) q dX12_canBe_155 ?_
        refine r_iconst (pc := 156) q dX12_canBe_156 ?_
        refine r_iadd (pc := 157) q dX12_canBe_157 ?_
        refine r_iald (pc := 158) q hM.s_signs (by omega) (by omega) dX12_canBe_158 ?_
        refine r_aload_0 (pc := 159) q dX12_canBe_159 ?_
        refine r_getr (pc := 160) q fX12_61 (kz := 24) rfl (by decide) rfl hM.o hM.r_truly dX12_canBe_160 ?_
        refine r_iload_3 (pc := 163) q dX12_canBe_163 ?_
        refine r_iald (pc := 164) q hM.s_truly (by omega) (by omega) dX12_canBe_164 ?_
        have gq := gn (by omega)
        refine r_icmp_gt (pc := 165) q 172 dX12_canBe_165 (by decide) ⟨by omega, by omega⟩ ⟨by omega, by omega⟩ (fun c165 => ?_) (fun c165 => ?_)
        · refine r_iconst (pc := 172) q dX12_canBe_172 ?_
          refine r_istore_6 (pc := 173) q dX12_canBe_173 rfl ?_
          refine r_iload_6 (pc := 175) q dX12_canBe_175 ?_
          refine r_if_eq (pc := 177) q 182 dX12_canBe_177 (by decide) ⟨by omega, by omega⟩ (fun c177 => ?_) (fun c177 => ?_)
          · first | exact absurd c177 (by decide) | exact cont _ (by omega)
          first | exact absurd rfl c177 | exact r_iconst (pc := 180) q dX12_canBe_180 (r_zreturn (pc := 181) q rt dX12_canBe_181 (by decide) ⟨Or.inl ⟨rfl, yes (by omega)⟩, rfl⟩)
        refine r_iconst (pc := 168) q dX12_canBe_168 ?_
        refine r_goto (pc := 169) (tgt := 173) q dX12_canBe_169 (by decide) ?_
        refine r_istore_6 (pc := 173) q dX12_canBe_173 rfl ?_
        refine r_iload_6 (pc := 175) q dX12_canBe_175 ?_
        refine r_if_eq (pc := 177) q 182 dX12_canBe_177 (by decide) ⟨by omega, by omega⟩ (fun c177 => ?_) (fun c177 => ?_)
        · first | exact absurd c177 (by decide) | exact cont _ (by omega)
        first | exact absurd rfl c177 | exact r_iconst (pc := 180) q dX12_canBe_180 (r_zreturn (pc := 181) q rt dX12_canBe_181 (by decide) ⟨Or.inl ⟨rfl, yes (by omega)⟩, rfl⟩)
      refine r_goto (pc := 98) (tgt := 182) q dX12_canBe_98 (by decide) ?_
      exact cont _ (by omega)
  refine r_bipush (pc := 0) q dX12_canBe_0 (by decide) ?_
  refine r_iload_1 (pc := 2) q dX12_canBe_2 ?_
  refine r_imul (pc := 3) q dX12_canBe_3 ?_
  refine r_iload_2 (pc := 4) q dX12_canBe_4 ?_
  refine r_iadd (pc := 5) q dX12_canBe_5 ?_
  refine r_topi hK ?_
  refine r_istore_4 (pc := 6) q dX12_canBe_6 rfl ?_
  refine r_aload_0 (pc := 8) q dX12_canBe_8 ?_
  refine r_getr (pc := 9) q fX12_64 (kz := 25) rfl (by decide) rfl hM.o hM.r_written dX12_canBe_9 ?_
  refine r_iload_3 (pc := 12) q dX12_canBe_12 ?_
  refine r_iald (pc := 13) q hM.s_written (by omega) (by omega) dX12_canBe_13 ?_
  refine r_if_ne (pc := 14) q 19 dX12_canBe_14 (by decide) ⟨by omega, by omega⟩ (fun c14 => ?_) (fun c14 => ?_)
  · refine r_aload_0 (pc := 19) q dX12_canBe_19 ?_
    refine r_getr (pc := 20) q fX12_61 (kz := 24) rfl (by decide) rfl hM.o hM.r_truly dX12_canBe_20 ?_
    refine r_iload_3 (pc := 23) q dX12_canBe_23 ?_
    refine r_iald (pc := 24) q hM.s_truly (by omega) (by omega) dX12_canBe_24 ?_
    refine r_if_ne (pc := 25) q 61 dX12_canBe_25 (by decide) ⟨by omega, by omega⟩ (fun c25 => ?_) (fun c25 => ?_)
    · refine r_iconst (pc := 61) q dX12_canBe_61 ?_
      refine r_istore_5 (pc := 62) q dX12_canBe_62 rfl ?_
      exact lp (h (m + 8) K).toNat 0 (by omega) c14 c25 (fun i i0 i1 => by omega) _
    refine r_aload_0 (pc := 28) q dX12_canBe_28 ?_
    refine r_getr (pc := 29) q fX12_33 (kz := 10) rfl (by decide) rfl hM.o hM.r_many dX12_canBe_29 ?_
    refine r_iload_4 (pc := 32) q dX12_canBe_32 ?_
    refine r_iald (pc := 34) q hM.s_many (by omega) (by omega) dX12_canBe_34 ?_
    refine r_iconst (pc := 35) q dX12_canBe_35 ?_
    refine r_icmp_le (pc := 36) q 59 dX12_canBe_36 (by decide) ⟨by omega, by omega⟩ ⟨by omega, by omega⟩ (fun c36 => ?_) (fun c36 => ?_)
    · refine r_iconst (pc := 59) q dX12_canBe_59 ?_
      refine r_zreturn (pc := 60) q rt dX12_canBe_60 (by decide) ?_
      exact ⟨Or.inr ⟨rfl, fun e => by
        rcases e with e | ⟨e1, e2, e3, -⟩ | ⟨e1, e2, -⟩
        · exact c14 e
        · omega
        · exact e2 c25⟩, rfl⟩
    refine r_aload_0 (pc := 39) q dX12_canBe_39 ?_
    refine r_iload_4 (pc := 40) q dX12_canBe_40 ?_
    refine r_aload_0 (pc := 42) q dX12_canBe_42 ?_
    refine r_getr (pc := 43) q fX12_64 (kz := 25) rfl (by decide) rfl hM.o hM.r_written dX12_canBe_43 ?_
    refine r_iload_3 (pc := 46) q dX12_canBe_46 ?_
    refine r_iald (pc := 47) q hM.s_written (by omega) (by omega) dX12_canBe_47 ?_
    refine r_cI2 (pc := 48) q (c_X12_first (by first | assumption | exact ⟨by omega, by omega⟩ | omega) (by first | assumption | exact ⟨by omega, by omega⟩ | omega) (by first | assumption | exact ⟨by omega, by omega⟩ | omega) (by first | assumption | exact ⟨by omega, by omega⟩ | omega) (by first | assumption | exact ⟨by omega, by omega⟩ | omega)) mX12_198 hM.o (by decide) (Nat.le_of_ble_eq_true rfl) rfl dX12_canBe_48 (fun z7 h7 hz7 => ?_)
    obtain ⟨hz7, rfl⟩ := hz7
    refine r_iconst (pc := 51) q dX12_canBe_51 ?_
    refine r_icmp_eq (pc := 52) q 59 dX12_canBe_52 (by decide) ⟨by omega, by omega⟩ ⟨by omega, by omega⟩ (fun c52 => ?_) (fun c52 => ?_)
    · refine r_iconst (pc := 59) q dX12_canBe_59 ?_
      refine r_zreturn (pc := 60) q rt dX12_canBe_60 (by decide) ?_
      exact ⟨Or.inr ⟨rfl, fun e => by
        rcases e with e | ⟨e1, e2, e3, x, x0, x1, e4⟩ | ⟨e1, e2, -⟩
        · exact c14 e
        · rcases hz7 with ⟨y1, y2⟩ | ⟨y1, y2, y3⟩
          · exact y2 x x0 x1 e4
          · omega
        · exact e2 c25⟩, rfl⟩
    refine r_iconst (pc := 55) q dX12_canBe_55 ?_
    refine r_goto (pc := 56) (tgt := 60) q dX12_canBe_56 (by decide) ?_
    refine r_zreturn (pc := 60) q rt dX12_canBe_60 (by decide) ?_
    exact ⟨Or.inl ⟨rfl, by
      rcases hz7 with ⟨y1, y2⟩ | ⟨y1, y2, y3⟩
      · exact absurd y1 c52
      · exact Or.inr (Or.inl ⟨c14, c25, by omega, z7, y1, y2, y3⟩)⟩, rfl⟩
  refine r_iconst (pc := 17) q dX12_canBe_17 ?_
  refine r_zreturn (pc := 18) q rt dX12_canBe_18 (by decide) ?_
  exact ⟨Or.inl ⟨rfl, Or.inl c14⟩, rfl⟩
