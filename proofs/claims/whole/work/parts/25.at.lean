/-- only what is for asking has changed -/
def frM (h h1 : sH) (m : Nat) : Prop := (∀ a : Nat, a ≠ m → a ≠ m + 3 → (a < m + 19 ∨ m + 28 < a) → h1 a = h a) ∧ h1 m = up (h m) 0 0
def okA (h : sH) (m : Nat) (l1 day : Int) : Prop := 0 ≤ l1 ∧ l1 < h m 5 ∧ 0 ≤ day ∧ day ≤ h m 29
def bRM (h : sH) (m : Nat) (g : Int → Int → Int → Int) (n : Int → Int → Int) (rg : Int → Int → Int) (rn : Int → Int) (l1 day : Int) (row : Int → Int) : Prop := bRow (h (m + 5) l1) (h (m + 4) l1) (rsM h m l1) (rvM h m l1) (rcM h m l1) (owF h m g n rg rn l1 day) (RM h m g n rg rn l1 day) row
noncomputable def lsM (h : sH) (m : Nat) (g : Int → Int → Int → Int) (n : Int → Int → Int) (rg : Int → Int → Int) (rn : Int → Int) (l1 day : Int) : Int := mnP (RM h m g n rg rn l1 day (h (m + 5) l1 - 1).toNat) 601
theorem c_X12_at {l : Launch} {D : va_G} {aC : Nat → ClassId} {B t sz : Nat} {S : sS} {r : sR} {h : sH} {m : Nat} {l1 day st : Int} {g : Int → Int → Int → Int} {n : Int → Int → Int} {rg sg : Int → Int → Int} {rn sn : Int → Int} (hM : LX12 S r m) (hI : mdI h m g n rg rn sg sn) (hl1 : inR l1) (hd : inR day) (hst : inR st) : CtI l yX12_at cX12_at 4 (some .int) 6 161 [.ref m, .int (iI l1), .int (iI day), .int (iI st)] D aC B t sz S r h (fun z h1 => frM h h1 m ∧ ((¬ (okA h m l1 day ∧ 0 ≤ st ∧ st < h (m + 5) l1) ∧ z = -1) ∨ ((okA h m l1 day ∧ 0 ≤ st ∧ st < h (m + 5) l1) ∧ lsM h m g n rg rn l1 day = 1000000 ∧ z = -1) ∨ ((okA h m l1 day ∧ 0 ≤ st ∧ st < h (m + 5) l1) ∧ lsM h m g n rg rn l1 day < 1000000 ∧ ∃ row : Int → Int, bRM h m g n rg rn l1 day row ∧ z = row st))) := by
  unfold CtI
  refine Ct.of (lv := [some (.ref m), some (.int (iI l1)), some (.int (iI day)), some (.int (iI st))]) (by decide +kernel) rfl (Nat.le_of_ble_eq_true rfl) (fun X hl q rt hnm => ?_)
  refine r_aload_0 (pc := 0) q dX12_at_0 ?_
  refine r_iconst (pc := 1) q dX12_at_1 ?_
  refine r_puti (pc := 2) q fX12_106 (kz := 0) rfl (by decide) rfl hM.o dX12_at_2 (fun h0 eh0 => ?_)
  obtain ⟨f0, f1⟩ := th0 eh0
  have ag := agM_th eh0
  have hI0 := agM_mdI ag (by rw [f1 2 (by decide)]; exact hI.1.1) (by rw [f1 2 (by decide)]; exact hI.1.2) hI
  have e5 := f1 5 (by decide)
  have e29 := f1 29 (by decide)
  have eM : h0 m = up (h m) 0 0 := by rw [eh0, up_s]
  have L0 := hI.2.2.1.1
  have L4 := hI.2.2.1.2.1
  have Y0 := hI.2.2.2.2.2.2.2.1
  have Y1 := hI.2.2.2.2.2.2.2.2
  have es := f0 (m + 5) (by omega)
  have fr0 : frM h h0 m := ⟨fun a a1 _ _ => f0 a a1, eM⟩
  refine r_aload_0 (pc := 5) q dX12_at_5 ?_
  refine r_iload_1 (pc := 6) q dX12_at_6 ?_
  refine r_iload_2 (pc := 7) q dX12_at_7 ?_
  refine r_cI2 (pc := 8) q (c_X12_isAsked (by first | assumption | exact ⟨by omega, by omega⟩ | omega) (by first | assumption | exact ⟨by omega, by omega⟩ | omega) (by first | assumption | exact ⟨by omega, by omega⟩ | omega) (by first | assumption | exact ⟨by omega, by omega⟩ | omega) (by first | assumption | exact ⟨by omega, by omega⟩ | omega) (by first | assumption | exact ⟨by omega, by omega⟩ | omega) (by first | assumption | exact ⟨by omega, by omega⟩ | omega)) mX12_224 hM.o (by decide) (Nat.le_of_ble_eq_true rfl) rfl dX12_at_8 (fun z1 h1 hz1 => ?_)
  obtain ⟨hz1, rfl⟩ := hz1
  rw [e5, e29] at hz1
  refine r_if_eq (pc := 11) q 41 dX12_at_11 (by decide) ⟨by omega, by omega⟩ (fun c11 => ?_) (fun c11 => ?_)
  · refine r_iconst (pc := 41) q dX12_at_41 ?_
    refine r_ireturn (pc := 42) q rt dX12_at_42 ?_
    exact ⟨fr0, Or.inl ⟨fun z => by unfold okA at z; omega, rfl⟩⟩
  refine r_aload_0 (pc := 14) q dX12_at_14 ?_
  refine r_iload_1 (pc := 15) q dX12_at_15 ?_
  refine r_iload_3 (pc := 16) q dX12_at_16 ?_
  refine r_cI2 (pc := 17) q (c_X12_isStation hM (by assumption) (by assumption) hI0.2.2.1) mX12_191 hM.o (by decide) (Nat.le_of_ble_eq_true rfl) rfl dX12_at_17 (fun z2 h2 hz2 => ?_)
  obtain ⟨hz2, rfl⟩ := hz2
  rw [e5, es] at hz2
  refine r_if_eq (pc := 20) q 41 dX12_at_20 (by decide) ⟨by omega, by omega⟩ (fun c20 => ?_) (fun c20 => ?_)
  · refine r_iconst (pc := 41) q dX12_at_41 ?_
    refine r_ireturn (pc := 42) q rt dX12_at_42 ?_
    exact ⟨fr0, Or.inl ⟨fun z => by unfold okA at z; omega, rfl⟩⟩
  refine r_aload_0 (pc := 23) q dX12_at_23 ?_
  refine r_iload_1 (pc := 24) q dX12_at_24 ?_
  refine r_iload_2 (pc := 25) q dX12_at_25 ?_
  have ok : okA h m l1 day ∧ 0 ≤ st ∧ st < h (m + 5) l1 := ⟨⟨by omega, by omega, by omega, by omega⟩, by omega, by omega⟩
  have N10 := (hI.2.2.1.2.2 l1 (by omega) (by omega)).2.2
  refine r_cI2 (pc := 26) q (c_X12_bests hM hI0 (by omega) (by omega) (by omega) (by omega)) mX12_230 hM.o (by decide) (Nat.le_of_ble_eq_true rfl) rfl dX12_at_26 (fun z3 h3 hz3 => ?_)
  obtain ⟨fr, hz3⟩ := hz3
  obtain ⟨a1, a2, a3, a4, a5⟩ := agM_RM ag g n rg rn l1 day
  rw [a1, a2, a3, a4, a5, es, f0 (m + 4) (by omega)] at hz3
  have fr3 : frM h h3 m := ⟨fun a q0 q1 q2 => by rw [fr a q1 (by omega) (by omega) (by omega) (by omega) (by omega) (by omega) (by omega)]; exact f0 a q0, by rw [fr m (by omega) (by omega) (by omega) (by omega) (by omega) (by omega) (by omega) (by omega)]; exact eM⟩
  refine r_if_eq (pc := 29) q 41 dX12_at_29 (by decide) ⟨by omega, by omega⟩ (fun c29 => ?_) (fun c29 => ?_)
  · refine r_iconst (pc := 41) q dX12_at_41 ?_
    refine r_ireturn (pc := 42) q rt dX12_at_42 ?_
    rcases hz3 with ⟨_, q⟩ | ⟨q, -⟩
    · exact ⟨fr3, Or.inr (Or.inl ⟨ok, q, rfl⟩)⟩
    · omega
  refine r_aload_0 (pc := 32) q dX12_at_32 ?_
  refine r_getr (pc := 33) q fX12_94 (kz := 36) rfl (by decide) rfl hM.o hM.r_row dX12_at_33 ?_
  refine r_iload_3 (pc := 36) q dX12_at_36 ?_
  refine r_iald (pc := 37) q hM.s_row (by omega) (by omega) dX12_at_37 ?_
  refine r_goto (pc := 38) (tgt := 42) q dX12_at_38 (by decide) ?_
  refine r_ireturn (pc := 42) q rt dX12_at_42 ?_
  rcases hz3 with ⟨q, -⟩ | ⟨_, q, q1, -⟩
  · omega
  · exact ⟨fr3, Or.inr (Or.inr ⟨ok, q, _, q1, rfl⟩)⟩
/-! ===== shared ===== -/
noncomputable def cJ (P : Int → Prop) : Nat → Int
  | 0 => 0
  | j + 1 => cJ P j + cif (P j) 1 0
noncomputable def cIJ (P : Int → Int → Prop) (nb : Nat) : Nat → Int
  | 0 => 0
  | i + 1 => cIJ P nb i + cJ (P i) nb
theorem cJ_in (P : Int → Prop) : ∀ k : Nat, 0 ≤ cJ P k ∧ cJ P k ≤ k
  | 0 => by simp only [cJ]; omega
  | k + 1 => by
    have := cJ_in P k
    simp only [cJ]
    by_cases q : P k
    · rw [cif_t q]; omega
    · rw [cif_f q]; omega
theorem cIJ_in (P : Int → Int → Prop) (nb : Nat) : ∀ k : Nat, 0 ≤ cIJ P nb k ∧ cIJ P nb k ≤ nb * k
  | 0 => by simp only [cIJ]; omega
  | k + 1 => by
    have a := cIJ_in P nb k
    have b := cJ_in (P k) nb
    simp only [cIJ]
    have : ((nb : Int) * ((k + 1 : Nat) : Int)) = nb * k + nb := by rw [show ((k + 1 : Nat) : Int) = (k : Int) + 1 by omega, Int.mul_add]; omega
    omega
theorem cJ_congr {P Q : Int → Prop} : ∀ k : Nat, (∀ j : Int, 0 ≤ j → j < k → (P j ↔ Q j)) → cJ P k = cJ Q k
  | 0, _ => rfl
  | k + 1, h => by
    have a := cJ_congr (P := P) (Q := Q) k (fun j j0 j1 => h j j0 (by omega))
    have b := h k (by omega) (by omega)
    simp only [cJ, a]
    by_cases q : P k
    · rw [cif_t q, cif_t (b.mp q)]
    · rw [cif_f q, cif_f (fun z => q (b.mpr z))]
theorem cIJ_congr {P Q : Int → Int → Prop} {nb : Nat} : ∀ k : Nat, (∀ i j : Int, 0 ≤ i → i < k → 0 ≤ j → j < nb → (P i j ↔ Q i j)) → cIJ P nb k = cIJ Q nb k
  | 0, _ => rfl
  | k + 1, h => by
    have a := cIJ_congr (P := P) (Q := Q) (nb := nb) k (fun i j i0 i1 => h i j i0 (by omega))
    have b := cJ_congr (P := P k) (Q := Q k) nb (fun j j0 j1 => h k j (by omega) (by omega) j0 j1)
    simp only [cIJ, a, b]
def misP (U : Int) (row vl : Int → Int) (i : Int) : Prop := row (i + 1) - row i ≠ U * vl i
def shP (U V : Int) (ra rb va vb : Int → Int) (sm : Int → Int → Prop) (i j : Int) : Prop := misP U ra va i ∧ misP V rb vb j ∧ sm i j
noncomputable def vlM (h : sH) (m : Nat) (l1 i : Int) : Int := vS (fun j => h (m + 7) (9 * (10 * l1 + i) + j)) (h (m + 8) (10 * l1 + i)).toNat
def smM (h : sH) (m : Nat) (a b i j : Int) : Prop := h (m + 6) (10 * a + i) = h (m + 6) (10 * b + j) ∧ h (m + 6) (10 * a + i + 1) = h (m + 6) (10 * b + j + 1) ∧ (h (m + 8) (10 * a + i) = h (m + 8) (10 * b + j) ∧ eqS (fun x => h (m + 7) (9 * (10 * a + i) + x)) (fun x => h (m + 7) (9 * (10 * b + j) + x)) (h (m + 8) (10 * a + i)))
theorem misP_tk {U : Int} {row vl tk : Int → Int} {i : Int} (u : U = 2 ∨ U = 3) (e : row (i + 1) = row i + U * tk i) : misP U row vl i ↔ tk i ≠ vl i := by
  unfold misP
  rw [e]
  constructor
  · intro a b; apply a; rw [b]; omega
  · intro a b; apply a; rcases u with u | u <;> subst u <;> omega
theorem agM_sh {h h2 : sH} {m : Nat} (e : agM h h2 m) : vlM h2 m = vlM h m ∧ smM h2 m = smM h m := by
  have A := e.1
  have a6 := A (m + 6) (by omega) (by omega) (by omega) (by omega)
  have a7 := A (m + 7) (by omega) (by omega) (by omega) (by omega)
  have a8 := A (m + 8) (by omega) (by omega) (by omega) (by omega)
  refine ⟨?_, ?_⟩
  · funext a i; unfold vlM; rw [a7, a8]
  · funext a b i j; unfold smM; rw [a6, a7, a8]
theorem agM_fr {h h1 : sH} {m : Nat} (e : frM h h1 m) : agM h h1 m := by
  have k : ∀ k : Int, k ≠ 0 → h1 m k = h m k := fun k q => by rw [e.2, up_n _ _ q]
  exact ⟨fun a a1 a2 _ a4 => e.1 a (by omega) a4 (Or.inl a2), k 5 (by decide), k 14 (by decide), k 18 (by decide), k 23 (by decide), k 27 (by decide), k 28 (by decide), k 29 (by decide)⟩
theorem mdI_fr {h h1 : sH} {m : Nat} (e : frM h h1 m) {g : Int → Int → Int → Int} {n : Int → Int → Int} {rg sg : Int → Int → Int} {rn sn : Int → Int} (hI : mdI h m g n rg rn sg sn) : mdI h1 m g n rg rn sg sn := by
  have k : h1 m 2 = h m 2 := by rw [e.2, up_n _ _ (by decide)]
  exact agM_mdI (agM_fr e) (by rw [k]; exact hI.1.1) (by rw [k]; exact hI.1.2) hI
theorem c_X12_shared {l : Launch} {D : va_G} {aC : Nat → ClassId} {B t sz : Nat} {S : sS} {r : sR} {h : sH} {m : Nat} {a b day : Int} {g : Int → Int → Int → Int} {n : Int → Int → Int} {rg sg : Int → Int → Int} {rn sn : Int → Int} (hM : LX12 S r m) (hI : mdI h m g n rg rn sg sn) (ha : inR a) (hb : inR b) (hd : inR day) : CtI l yX12_shared cX12_shared 8 (some .int) 6 161 [.ref m, .int (iI a), .int (iI b), .int (iI day)] D aC B t sz S r h (fun z h1 => frM h h1 m ∧ ((¬ (okA h m a day ∧ 0 ≤ b ∧ b < h m 5 ∧ a ≠ b) ∧ z = -1) ∨ ((okA h m a day ∧ 0 ≤ b ∧ b < h m 5 ∧ a ≠ b) ∧ (lsM h m g n rg rn a day = 1000000 ∨ lsM h m g n rg rn b day = 1000000) ∧ z = 0) ∨ ((okA h m a day ∧ 0 ≤ b ∧ b < h m 5 ∧ a ≠ b) ∧ lsM h m g n rg rn a day < 1000000 ∧ lsM h m g n rg rn b day < 1000000 ∧ ∃ ra rb : Int → Int, bRM h m g n rg rn a day ra ∧ bRM h m g n rg rn b day rb ∧ z = cIJ (shP (h (m + 4) a) (h (m + 4) b) ra rb (vlM h m a) (vlM h m b) (smM h m a b)) (h (m + 5) b - 1).toNat (h (m + 5) a - 1).toNat))) := by
  unfold CtI
  refine Ct.of (lv := [some (.ref m), some (.int (iI a)), some (.int (iI b)), some (.int (iI day)), none, none, none, none]) (by decide +kernel) rfl (Nat.le_of_ble_eq_true rfl) (fun X hl q rt hnm => ?_)
  have fin : (okA h m a day ∧ 0 ≤ b ∧ b < h m 5 ∧ a ≠ b) → lsM h m g n rg rn a day < 1000000 → lsM h m g n rg rn b day < 1000000 → ∀ (h3 : sH) (ra rb : Int → Int), frM h h3 m → bRM h m g n rg rn a day ra → bRM h m g n rg rn b day rb → (∀ i : Int, 0 ≤ i → i + 1 < h (m + 5) a → ra (i + 1) = ra i + h (m + 4) a * h3 (m + 28) i ∧ 0 ≤ h3 (m + 28) i ∧ h3 (m + 28) i ≤ 450) → (∀ i : Int, 0 ≤ i → i + 1 < h (m + 5) b → rb (i + 1) = rb i + h (m + 4) b * h3 (m + 26) i ∧ 0 ≤ h3 (m + 26) i ∧ h3 (m + 26) i ≤ 450) → G X 0 0 81 [some (.ref m), some (.int (iI a)), some (.int (iI b)), some (.int (iI day)), some (.int (iI 10)), none, none, none] [] sz S r h3 := by
    intro ok fa fb h3 ra rb fr ba bb ta tb
    obtain ⟨⟨a0, a1, d0, d1⟩, b0, b1, ab⟩ := id ok
    have hI3 := mdI_fr fr hI
    have ag := agM_fr fr
    obtain ⟨esv, ess⟩ := agM_sh ag
    obtain ⟨LL0, LL4, hls⟩ := id hI.2.2.1
    obtain ⟨ua, Na2, Na10⟩ := hls a a0 a1
    obtain ⟨ub, Nb2, Nb10⟩ := hls b b0 b1
    have e5 := fr.1 (m + 5) (by omega) (by omega) (Or.inl (by omega))
    have e6 := fr.1 (m + 6) (by omega) (by omega) (Or.inl (by omega))
    have hm5 : h3 m 5 = h m 5 := ag.2.1
    obtain ⟨P, hP⟩ : ∃ P, P = shP (h (m + 4) a) (h (m + 4) b) ra rb (vlM h m a) (vlM h m b) (smM h m a b) := ⟨_, rfl⟩
    have outer : ∀ (d i : Nat), (i : Int) + d = h (m + 5) a - 1 → ∀ o6 o7 : Option Value, noL o6 = true → G X 0 0 87 [some (.ref m), some (.int (iI a)), some (.int (iI b)), some (.int (iI day)), some (.int (iI (cIJ P (h (m + 5) b - 1).toNat i))), some (.int (iI i)), o6, o7] [] sz S r h3 := by
      intro d
      induction d with
      | zero =>
        intro i hi o6 o7 n6
        have cb := cIJ_in P (h (m + 5) b - 1).toNat i
        refine r_iload_5 (pc := 87) q dX12_shared_87 ?_
        refine r_iconst (pc := 89) q dX12_shared_89 ?_
        refine r_iadd (pc := 90) q dX12_shared_90 ?_
        refine r_aload_0 (pc := 91) q dX12_shared_91 ?_
        refine r_getr (pc := 92) q fX12_23 (kz := 7) rfl (by decide) rfl hM.o hM.r_stations dX12_shared_92 ?_
        refine r_iload_1 (pc := 95) q dX12_shared_95 ?_
        refine r_iald (pc := 96) q hM.s_stations (by omega) (by omega) dX12_shared_96 ?_
        rw [e5]
        refine r_icmp_ge (pc := 97) q 265 dX12_shared_97 (by decide) ⟨by omega, by omega⟩ ⟨by omega, by omega⟩ (fun c97 => ?_) (fun c97 => ?_)
        · refine r_iload_4 (pc := 265) q dX12_shared_265 ?_
          refine r_ireturn (pc := 267) q rt dX12_shared_267 ?_
          exact ⟨fr, Or.inr (Or.inr ⟨ok, fa, fb, ra, rb, ba, bb, by rw [← hP, show (h (m + 5) a - 1).toNat = i by omega]⟩)⟩
        exact absurd (show h (m + 5) a ≤ (i : Int) + 1 by omega) c97
      | succ d ih =>
        intro i hi o6 o7 n6
        have cb := cIJ_in P (h (m + 5) b - 1).toNat i
        have cbb : cIJ P (h (m + 5) b - 1).toNat i ≤ 100 := by
          have : ((h (m + 5) b - 1).toNat : Int) * (i : Int) ≤ 9 * 9 := Int.mul_le_mul (by omega) (by omega) (by omega) (by omega)
          omega
        have inner : ∀ (e j : Nat), (j : Int) + e = h (m + 5) b - 1 → ∀ o7 : Option Value, G X 0 0 103 [some (.ref m), some (.int (iI a)), some (.int (iI b)), some (.int (iI day)), some (.int (iI (cIJ P (h (m + 5) b - 1).toNat i + cJ (P i) j))), some (.int (iI i)), some (.int (iI j)), o7] [] sz S r h3 := by
          intro e
          induction e with
          | zero =>
            intro j hj o7
            have cj := cJ_in (P i) j
            refine r_iload_6 (pc := 103) q dX12_shared_103 ?_
            refine r_iconst (pc := 105) q dX12_shared_105 ?_
            refine r_iadd (pc := 106) q dX12_shared_106 ?_
            refine r_aload_0 (pc := 107) q dX12_shared_107 ?_
            refine r_getr (pc := 108) q fX12_23 (kz := 7) rfl (by decide) rfl hM.o hM.r_stations dX12_shared_108 ?_
            refine r_iload_2 (pc := 111) q dX12_shared_111 ?_
            refine r_iald (pc := 112) q hM.s_stations (by omega) (by omega) dX12_shared_112 ?_
            rw [e5]
            refine r_icmp_ge (pc := 113) q 259 dX12_shared_113 (by decide) ⟨by omega, by omega⟩ ⟨by omega, by omega⟩ (fun c113 => ?_) (fun c113 => ?_)
            · refine r_iinc_5 (pc := 259) q dX12_shared_259 rfl ?_
              refine r_goto (pc := 262) (tgt := 87) q dX12_shared_262 (by decide) ?_
              have q := ih (i + 1) (by omega) (some (.int (iI j))) o7 rfl
              rw [show cIJ P (h (m + 5) b - 1).toNat (i + 1) = cIJ P (h (m + 5) b - 1).toNat i + cJ (P i) j by rw [show (h (m + 5) b - 1).toNat = j by omega]; rfl] at q
              exact q
            exact absurd (show h (m + 5) b ≤ (j : Int) + 1 by omega) c113
          | succ e ih2 =>
            intro j hj o7
            have cj := cJ_in (P i) j
            have na := hI3.2.2.2.1 a i a0 (by omega) (by omega) (by rw [e5]; omega)
            have na' := hI3.2.2.2.1 a (i + 1) a0 (by omega) (by omega) (by rw [e5]; omega)
            have nb := hI3.2.2.2.1 b j b0 (by omega) (by omega) (by rw [e5]; omega)
            have nb' := hI3.2.2.2.1 b (j + 1) b0 (by omega) (by omega) (by rw [e5]; omega)
            have ua3 := hI3.2.2.2.2.1 a i a0 (by omega) (by omega) (by rw [e5]; omega)
            have ub3 := hI3.2.2.2.2.1 b j b0 (by omega) (by omega) (by rw [e5]; omega)
            have na1 := na.nn
            have na2 := na.lt
            have nb1 := nb.nn
            have nb2 := nb.lt
            have na1' := na'.nn
            have na2' := na'.lt
            have nb1' := nb'.nn
            have nb2' := nb'.lt
            rw [show 10 * a + ((i : Int) + 1) = 10 * a + i + 1 by omega] at na1' na2'
            rw [show 10 * b + ((j : Int) + 1) = 10 * b + j + 1 by omega] at nb1' nb2'
            obtain ⟨ta1, ta2, ta3⟩ := ta i (by omega) (by omega)
            obtain ⟨tb1, tb2, tb3⟩ := tb j (by omega) (by omega)
            have mA := misP_tk (vl := vlM h m a) (tk := h3 (m + 28)) ua ta1
            have mB := misP_tk (vl := vlM h m b) (tk := h3 (m + 26)) ub tb1
            have nxt : ∀ w : Int, w = cif (P i j) 1 0 → ∀ o7 : Option Value, G X 0 0 250 [some (.ref m), some (.int (iI a)), some (.int (iI b)), some (.int (iI day)), some (.int (iI (cIJ P (h (m + 5) b - 1).toNat i + cJ (P i) j))), some (.int (iI i)), some (.int (iI j)), o7] [.int (iI w), .int (iI (cIJ P (h (m + 5) b - 1).toNat i + cJ (P i) j))] sz S r h3 := by
              intro w hw o7
              refine r_iadd (pc := 250) q dX12_shared_250 ?_
              refine r_istore_4 (pc := 251) q dX12_shared_251 rfl ?_
              refine r_iinc_6 (pc := 253) q dX12_shared_253 rfl ?_
              refine r_goto (pc := 256) (tgt := 103) q dX12_shared_256 (by decide) ?_
              have q := ih2 (j + 1) (by omega) o7
              rw [show cIJ P (h (m + 5) b - 1).toNat i + cJ (P i) (j + 1) = cIJ P (h (m + 5) b - 1).toNat i + cJ (P i) j + w by rw [hw, Int.add_assoc]; rfl] at q
              exact q
            have J202 : ∀ w : Int, (w = 1 ∧ smM h m a b i j) ∨ (w = 0 ∧ ¬ smM h m a b i j) → ∀ o7 : Option Value, G X 0 0 202 [some (.ref m), some (.int (iI a)), some (.int (iI b)), some (.int (iI day)), some (.int (iI (cIJ P (h (m + 5) b - 1).toNat i + cJ (P i) j))), some (.int (iI i)), some (.int (iI j)), o7] [.int (iI w)] sz S r h3 := by
              intro w hw o7
              have va : vS (fun x => h3 (m + 7) (9 * (10 * a + i) + x)) (h3 (m + 8) (10 * a + i)).toNat = vlM h m a i := by rw [← esv]; rfl
              have vb : vS (fun x => h3 (m + 7) (9 * (10 * b + j) + x)) (h3 (m + 8) (10 * b + j)).toNat = vlM h m b j := by rw [← esv]; rfl
              have va2 := vS_in (fun x => h3 (m + 7) (9 * (10 * a + i) + x)) (h3 (m + 8) (10 * a + i)).toNat
              have vb2 := vS_in (fun x => h3 (m + 7) (9 * (10 * b + j) + x)) (h3 (m + 8) (10 * b + j)).toNat
              have ua8 := ua3.2.1
              have ub8 := ub3.2.1
              rw [va] at va2
              rw [vb] at vb2
              refine r_istore_7 (pc := 202) q dX12_shared_202 rfl ?_
              refine r_iload_4 (pc := 204) q dX12_shared_204 ?_
              refine r_iload_7 (pc := 206) q dX12_shared_206 ?_
              refine r_if_eq (pc := 208) q 249 dX12_shared_208 (by decide) ⟨by omega, by omega⟩ (fun c208 => ?_) (fun c208 => ?_)
              · refine r_iconst (pc := 249) q dX12_shared_249 ?_
                exact nxt _ (by rw [cif_f]; rw [hP]; intro z; rcases hw with ⟨k, _⟩ | ⟨_, k⟩ <;> first | omega | exact k z.2.2) _
              refine r_aload_0 (pc := 211) q dX12_shared_211 ?_
              refine r_getr (pc := 212) q fX12_103 (kz := 39) rfl (by decide) rfl hM.o hM.r_took dX12_shared_212 ?_
              refine r_iload_5 (pc := 215) q dX12_shared_215 ?_
              refine r_iald (pc := 217) q hM.s_took (by omega) (by omega) dX12_shared_217 ?_
              refine r_aload_0 (pc := 218) q dX12_shared_218 ?_
              refine r_iload_1 (pc := 219) q dX12_shared_219 ?_
              refine r_iload_5 (pc := 220) q dX12_shared_220 ?_
              refine r_cI2 (pc := 222) q (c_X12_valueOf hM a0 (by omega) (by omega) (by omega) ua3) mX12_201 hM.o (by decide) (Nat.le_of_ble_eq_true rfl) rfl dX12_shared_222 (fun z1 h1 hz1 => ?_)
              obtain ⟨rfl, rfl⟩ := hz1
              rw [va]
              refine r_icmp_eq (pc := 225) q 249 dX12_shared_225 (by decide) ⟨by omega, by omega⟩ ⟨by omega, by omega⟩ (fun c225 => ?_) (fun c225 => ?_)
              · refine r_iconst (pc := 249) q dX12_shared_249 ?_
                exact nxt _ (by rw [cif_f]; rw [hP]; intro z; exact mA.mp z.1 c225) _
              refine r_aload_0 (pc := 228) q dX12_shared_228 ?_
              refine r_getr (pc := 229) q fX12_97 (kz := 37) rfl (by decide) rfl hM.o hM.r_taken dX12_shared_229 ?_
              refine r_iload_6 (pc := 232) q dX12_shared_232 ?_
              refine r_iald (pc := 234) q hM.s_taken (by omega) (by omega) dX12_shared_234 ?_
              refine r_aload_0 (pc := 235) q dX12_shared_235 ?_
              refine r_iload_2 (pc := 236) q dX12_shared_236 ?_
              refine r_iload_6 (pc := 237) q dX12_shared_237 ?_
              refine r_cI2 (pc := 239) q (c_X12_valueOf hM b0 (by omega) (by omega) (by omega) ub3) mX12_201 hM.o (by decide) (Nat.le_of_ble_eq_true rfl) rfl dX12_shared_239 (fun z2 h2 hz2 => ?_)
              obtain ⟨rfl, rfl⟩ := hz2
              rw [vb]
              refine r_icmp_eq (pc := 242) q 249 dX12_shared_242 (by decide) ⟨by omega, by omega⟩ ⟨by omega, by omega⟩ (fun c242 => ?_) (fun c242 => ?_)
              · refine r_iconst (pc := 249) q dX12_shared_249 ?_
                exact nxt _ (by rw [cif_f]; rw [hP]; intro z; exact mB.mp z.2.1 c242) _
              refine r_iconst (pc := 245) q dX12_shared_245 ?_
              refine r_goto (pc := 246) (tgt := 250) q dX12_shared_246 (by decide) ?_
              exact nxt _ (by rw [cif_t]; rw [hP]; exact ⟨mA.mpr c225, mB.mpr c242, by rcases hw with ⟨_, k⟩ | ⟨k, _⟩ <;> first | exact k | omega⟩) _
            refine r_iload_6 (pc := 103) q dX12_shared_103 ?_
            refine r_iconst (pc := 105) q dX12_shared_105 ?_
            refine r_iadd (pc := 106) q dX12_shared_106 ?_
            refine r_aload_0 (pc := 107) q dX12_shared_107 ?_
            refine r_getr (pc := 108) q fX12_23 (kz := 7) rfl (by decide) rfl hM.o hM.r_stations dX12_shared_108 ?_
            refine r_iload_2 (pc := 111) q dX12_shared_111 ?_
            refine r_iald (pc := 112) q hM.s_stations (by omega) (by omega) dX12_shared_112 ?_
            rw [e5]
            refine r_icmp_ge (pc := 113) q 259 dX12_shared_113 (by decide) ⟨by omega, by omega⟩ ⟨by omega, by omega⟩ (fun c113 => ?_) (fun c113 => ?_)
            · exact absurd c113 (by omega)
            refine r_aload_0 (pc := 116) q dX12_shared_116 ?_
            refine r_getr (pc := 117) q fX12_26 (kz := 8) rfl (by decide) rfl hM.o hM.r_name dX12_shared_117 ?_
            refine r_bipush (pc := 120) q dX12_shared_120 (by decide) ?_
            refine r_iload_1 (pc := 122) q dX12_shared_122 ?_
            refine r_imul (pc := 123) q dX12_shared_123 ?_
            refine r_iload_5 (pc := 124) q dX12_shared_124 ?_
            refine r_iadd (pc := 126) q dX12_shared_126 ?_
            refine r_lald (pc := 127) q hM.s_name (by omega) (by omega) dX12_shared_127 ?_
            refine r_aload_0 (pc := 128) q dX12_shared_128 ?_
            refine r_getr (pc := 129) q fX12_26 (kz := 8) rfl (by decide) rfl hM.o hM.r_name dX12_shared_129 ?_
            refine r_bipush (pc := 132) q dX12_shared_132 (by decide) ?_
            refine r_iload_2 (pc := 134) q dX12_shared_134 ?_
            refine r_imul (pc := 135) q dX12_shared_135 ?_
            refine r_iload_6 (pc := 136) q dX12_shared_136 ?_
            refine r_iadd (pc := 138) q dX12_shared_138 ?_
            refine r_lald (pc := 139) q hM.s_name (by omega) (by omega) dX12_shared_139 ?_
            refine r_lcmp (pc := 140) q dX12_shared_140 ⟨by omega, by omega⟩ ⟨by omega, by omega⟩ ?_
            refine r_if_ne (pc := 141) q 201 dX12_shared_141 (by decide) ⟨by have := cmpI_in (h3 (m + 6) (10 * a + i)) (h3 (m + 6) (10 * b + j)); omega, by have := cmpI_in (h3 (m + 6) (10 * a + i)) (h3 (m + 6) (10 * b + j)); omega⟩ (fun c141 => ?_) (fun c141 => ?_)
            · refine r_iconst (pc := 201) q dX12_shared_201 ?_
              rw [cmpI_0] at c141
              exact J202 0 (Or.inr ⟨rfl, fun z => c141 (by rw [e6]; exact z.1)⟩) _
            refine r_aload_0 (pc := 144) q dX12_shared_144 ?_
            refine r_getr (pc := 145) q fX12_26 (kz := 8) rfl (by decide) rfl hM.o hM.r_name dX12_shared_145 ?_
            refine r_bipush (pc := 148) q dX12_shared_148 (by decide) ?_
            refine r_iload_1 (pc := 150) q dX12_shared_150 ?_
            refine r_imul (pc := 151) q dX12_shared_151 ?_
            refine r_iload_5 (pc := 152) q dX12_shared_152 ?_
            refine r_iadd (pc := 154) q dX12_shared_154 ?_
            refine r_iconst (pc := 155) q dX12_shared_155 ?_
            refine r_iadd (pc := 156) q dX12_shared_156 ?_
            refine r_lald (pc := 157) q hM.s_name (by omega) (by omega) dX12_shared_157 ?_
            refine r_aload_0 (pc := 158) q dX12_shared_158 ?_
            refine r_getr (pc := 159) q fX12_26 (kz := 8) rfl (by decide) rfl hM.o hM.r_name dX12_shared_159 ?_
            refine r_bipush (pc := 162) q dX12_shared_162 (by decide) ?_
            refine r_iload_2 (pc := 164) q dX12_shared_164 ?_
            refine r_imul (pc := 165) q dX12_shared_165 ?_
            refine r_iload_6 (pc := 166) q dX12_shared_166 ?_
            refine r_iadd (pc := 168) q dX12_shared_168 ?_
            refine r_iconst (pc := 169) q dX12_shared_169 ?_
            refine r_iadd (pc := 170) q dX12_shared_170 ?_
            refine r_lald (pc := 171) q hM.s_name (by omega) (by omega) dX12_shared_171 ?_
            refine r_lcmp (pc := 172) q dX12_shared_172 ⟨by omega, by omega⟩ ⟨by omega, by omega⟩ ?_
            refine r_if_ne (pc := 173) q 201 dX12_shared_173 (by decide) ⟨by have := cmpI_in (h3 (m + 6) (10 * a + i + 1)) (h3 (m + 6) (10 * b + j + 1)); omega, by have := cmpI_in (h3 (m + 6) (10 * a + i + 1)) (h3 (m + 6) (10 * b + j + 1)); omega⟩ (fun c173 => ?_) (fun c173 => ?_)
            · refine r_iconst (pc := 201) q dX12_shared_201 ?_
              rw [cmpI_0] at c173
              exact J202 0 (Or.inr ⟨rfl, fun z => c173 (by rw [e6]; exact z.2.1)⟩) _
            refine r_aload_0 (pc := 176) q dX12_shared_176 ?_
            refine r_bipush (pc := 177) q dX12_shared_177 (by decide) ?_
            refine r_iload_1 (pc := 179) q dX12_shared_179 ?_
            refine r_imul (pc := 180) q dX12_shared_180 ?_
            refine r_iload_5 (pc := 181) q dX12_shared_181 ?_
            refine r_iadd (pc := 183) q dX12_shared_183 ?_
            refine r_bipush (pc := 184) q dX12_shared_184 (by decide) ?_
            refine r_iload_2 (pc := 186) q dX12_shared_186 ?_
            refine r_imul (pc := 187) q dX12_shared_187 ?_
            refine r_iload_6 (pc := 188) q dX12_shared_188 ?_
            refine r_iadd (pc := 190) q dX12_shared_190 ?_
            refine r_cI2 (pc := 191) q (c_X12_areSame hM (by omega) (by omega) (by omega) (by omega) ua3 ub3) mX12_241 hM.o (by decide) (Nat.le_of_ble_eq_true rfl) rfl dX12_shared_191 (fun z9 h9 hz9 => ?_)
            obtain ⟨hz9, rfl⟩ := hz9
            refine r_if_eq (pc := 194) q 201 dX12_shared_194 (by decide) ⟨by omega, by omega⟩ (fun c194 => ?_) (fun c194 => ?_)
            · refine r_iconst (pc := 201) q dX12_shared_201 ?_
              rw [cmpI_0] at c141 c173
              refine J202 0 (Or.inr ⟨rfl, fun z => ?_⟩) _
              rw [← ess] at z
              rcases hz9 with ⟨k, _⟩ | ⟨_, k⟩
              · omega
              · exact k z.2.2
            refine r_iconst (pc := 197) q dX12_shared_197 ?_
            refine r_goto (pc := 198) (tgt := 202) q dX12_shared_198 (by decide) ?_
            rw [cmpI_0] at c141 c173
            refine J202 1 (Or.inl ⟨rfl, ?_⟩) _
            rw [← ess]
            rcases hz9 with ⟨_, k⟩ | ⟨k, _⟩
            · exact ⟨c141, c173, k⟩
            · omega
        refine r_iload_5 (pc := 87) q dX12_shared_87 ?_
        refine r_iconst (pc := 89) q dX12_shared_89 ?_
        refine r_iadd (pc := 90) q dX12_shared_90 ?_
        refine r_aload_0 (pc := 91) q dX12_shared_91 ?_
        refine r_getr (pc := 92) q fX12_23 (kz := 7) rfl (by decide) rfl hM.o hM.r_stations dX12_shared_92 ?_
        refine r_iload_1 (pc := 95) q dX12_shared_95 ?_
        refine r_iald (pc := 96) q hM.s_stations (by omega) (by omega) dX12_shared_96 ?_
        rw [e5]
        refine r_icmp_ge (pc := 97) q 265 dX12_shared_97 (by decide) ⟨by omega, by omega⟩ ⟨by omega, by omega⟩ (fun c97 => ?_) (fun c97 => ?_)
        · exact absurd c97 (by omega)
        refine r_iconst (pc := 100) q dX12_shared_100 ?_
        refine r_istore_6 (pc := 101) q dX12_shared_101 rfl ?_
        have q := inner (h (m + 5) b - 1).toNat 0 (by omega) o7
        rw [show cIJ P (h (m + 5) b - 1).toNat i + cJ (P i) 0 = cIJ P (h (m + 5) b - 1).toNat i by simp only [cJ]; omega] at q
        exact q
    refine r_iconst (pc := 81) q dX12_shared_81 ?_
    refine r_istore_4 (pc := 82) q dX12_shared_82 rfl ?_
    refine r_iconst (pc := 84) q dX12_shared_84 ?_
    refine r_istore_5 (pc := 85) q dX12_shared_85 rfl ?_
    exact outer (h (m + 5) a - 1).toNat 0 (by omega) _ _ rfl
  have con : ∀ (h4 : sH) (ra tk : Int → Int), (okA h m a day ∧ 0 ≤ b ∧ b < h m 5 ∧ a ≠ b) → lsM h m g n rg rn a day < 1000000 → frM h h4 m → bRM h m g n rg rn a day ra → (∀ i : Int, 0 ≤ i → i + 1 < h (m + 5) a → ra (i + 1) = ra i + h (m + 4) a * tk i ∧ 0 ≤ tk i ∧ tk i ≤ 450) → (∀ k : Int, 0 ≤ k → k < 10 → h4 (m + 28) k = tk k) → G X 0 0 70 [some (.ref m), some (.int (iI a)), some (.int (iI b)), some (.int (iI day)), some (.int (iI 10)), none, none, none] [] sz S r h4 := by
    intro h4 ra tk ok fa fr4 bra ta g4
    obtain ⟨⟨a0, a1, d0, d1⟩, b0, b1, ab⟩ := id ok
    have hI4 := mdI_fr fr4 hI
    have ag4 := agM_fr fr4
    have e5 : h4 m 5 = h m 5 := ag4.2.1
    have e29 : h4 m 29 = h m 29 := ag4.2.2.2.2.2.2.2
    have es := fr4.1 (m + 5) (by omega) (by omega) (Or.inl (by omega))
    have eu := fr4.1 (m + 4) (by omega) (by omega) (Or.inl (by omega))
    have Na10 := (hI.2.2.1.2.2 a (by omega) (by omega)).2.2
    refine r_aload_0 (pc := 70) q dX12_shared_70 ?_
    refine r_iload_2 (pc := 71) q dX12_shared_71 ?_
    refine r_iload_3 (pc := 72) q dX12_shared_72 ?_
    refine r_cI2 (pc := 73) q (c_X12_bests hM hI4 (by omega) (by omega) (by omega) (by omega)) mX12_230 hM.o (by decide) (Nat.le_of_ble_eq_true rfl) rfl dX12_shared_73 (fun z5 h5 hz5 => ?_)
    obtain ⟨fr, hz5⟩ := hz5
    obtain ⟨q1, q2, q3, q4, q5⟩ := agM_RM ag4 g n rg rn b day
    rw [q1, q2, q3, q4, q5, es, eu] at hz5
    have fr5 : frM h h5 m := ⟨fun a q0 q1 q2 => by rw [fr a q1 (by omega) (by omega) (by omega) (by omega) (by omega) (by omega) (by omega)]; exact fr4.1 a q0 q1 q2, by rw [fr m (by omega) (by omega) (by omega) (by omega) (by omega) (by omega) (by omega) (by omega)]; exact fr4.2⟩
    refine r_if_ne (pc := 76) q 81 dX12_shared_76 (by decide) ⟨by omega, by omega⟩ (fun c76 => ?_) (fun c76 => ?_)
    · have hz5' : z5 = 1 ∧ lsM h m g n rg rn b day < 1000000 ∧ bRM h m g n rg rn b day (h5 (m + 25)) ∧ ∀ i : Int, 0 ≤ i → i + 1 < h (m + 5) b → h5 (m + 25) (i + 1) = h5 (m + 25) i + h (m + 4) b * h5 (m + 26) i ∧ 0 ≤ h5 (m + 26) i ∧ h5 (m + 26) i ≤ 450 := by
        rcases hz5 with ⟨q, -⟩ | q
        · omega
        · exact q
      obtain ⟨-, fb, brb, tb⟩ := hz5'
      refine fin ok fa fb h5 ra _ fr5 bra brb (fun i i0 i1 => ?_) tb
      rw [fr (m + 28) (by omega) (by omega) (by omega) (by omega) (by omega) (by omega) (by omega) (by omega), g4 i i0 (by omega)]
      exact ta i i0 i1
    refine r_iconst (pc := 79) q dX12_shared_79 ?_
    refine r_ireturn (pc := 80) q rt dX12_shared_80 ?_
    rcases hz5 with ⟨_, q⟩ | ⟨q, -⟩
    · exact ⟨fr5, Or.inr (Or.inl ⟨ok, Or.inr q, rfl⟩)⟩
    · omega
  have tkl : ∀ (h1 : sH), (∀ h2 : sH, (∀ x : Nat, x ≠ m + 28 → h2 x = h1 x) → (∀ k : Int, 0 ≤ k → k < 10 → h2 (m + 28) k = h1 (m + 26) k) → G X 0 0 70 [some (.ref m), some (.int (iI a)), some (.int (iI b)), some (.int (iI day)), some (.int (iI 10)), none, none, none] [] sz S r h2) → ∀ (d j : Nat), j + d = 10 → ∀ h2 : sH, (∀ x : Nat, x ≠ m + 28 → h2 x = h1 x) → (∀ k : Int, 0 ≤ k → k < j → h2 (m + 28) k = h1 (m + 26) k) → G X 0 0 43 [some (.ref m), some (.int (iI a)), some (.int (iI b)), some (.int (iI day)), some (.int (iI j)), none, none, none] [] sz S r h2 := by
    intro h1 kk d
    induction d with
    | zero =>
      intro j hj h2 f2 g2
      have ej : j = 10 := by omega
      subst ej
      refine r_iload_4 (pc := 43) q dX12_shared_43 ?_
      refine r_bipush (pc := 45) q dX12_shared_45 (by decide) ?_
      refine r_icmp_ge (pc := 47) q 70 dX12_shared_47 (by decide) ⟨by omega, by omega⟩ ⟨by omega, by omega⟩ (fun c47 => ?_) (fun c47 => ?_)
      · exact kk h2 f2 g2
      exact absurd (by omega) c47
    | succ d ih =>
      intro j hj h2 f2 g2
      refine r_iload_4 (pc := 43) q dX12_shared_43 ?_
      refine r_bipush (pc := 45) q dX12_shared_45 (by decide) ?_
      refine r_icmp_ge (pc := 47) q 70 dX12_shared_47 (by decide) ⟨by omega, by omega⟩ ⟨by omega, by omega⟩ (fun c47 => ?_) (fun c47 => ?_)
      · exact absurd c47 (by omega)
      refine r_aload_0 (pc := 50) q dX12_shared_50 ?_
      refine r_getr (pc := 51) q fX12_103 (kz := 39) rfl (by decide) rfl hM.o hM.r_took dX12_shared_51 ?_
      refine r_iload_4 (pc := 54) q dX12_shared_54 ?_
      refine r_aload_0 (pc := 56) q dX12_shared_56 ?_
      refine r_getr (pc := 57) q fX12_97 (kz := 37) rfl (by decide) rfl hM.o hM.r_taken dX12_shared_57 ?_
      refine r_iload_4 (pc := 60) q dX12_shared_60 ?_
      refine r_iald (pc := 62) q hM.s_taken (by omega) (by omega) dX12_shared_62 ?_
      refine r_iast (pc := 63) q hM.s_took (by omega) (by omega) dX12_shared_63 (fun h3 eh3 => ?_)
      refine r_iinc_4 (pc := 64) q dX12_shared_64 rfl ?_
      refine r_goto (pc := 67) (tgt := 43) q dX12_shared_67 (by decide) ?_
      refine ih (j + 1) (by omega) h3 (fun x x0 => by rw [eh3, up_n _ _ x0]; exact f2 x x0) (fun k k0 k1 => ?_)
      rw [eh3, up_s]
      by_cases ek : k = j
      · rw [ek, up_s, f2 (m + 26) (by omega)]
      · rw [up_n _ _ ek]; exact g2 k k0 (by omega)
  refine r_aload_0 (pc := 0) q dX12_shared_0 ?_
  refine r_iconst (pc := 1) q dX12_shared_1 ?_
  refine r_puti (pc := 2) q fX12_106 (kz := 0) rfl (by decide) rfl hM.o dX12_shared_2 (fun h0 eh0 => ?_)
  obtain ⟨f0, f1⟩ := th0 eh0
  have eM : h0 m = up (h m) 0 0 := by rw [eh0, up_s]
  have fr0 : frM h h0 m := ⟨fun a a1 _ _ => f0 a a1, eM⟩
  have ag := agM_fr fr0
  have hI0 := mdI_fr fr0 hI
  have e5 := f1 5 (by decide)
  have e29 := f1 29 (by decide)
  have L0 := hI.2.2.1.1
  have L4 := hI.2.2.1.2.1
  have Y0 := hI.2.2.2.2.2.2.2.1
  have Y1 := hI.2.2.2.2.2.2.2.2
  have es := f0 (m + 5) (by omega)
  refine r_aload_0 (pc := 5) q dX12_shared_5 ?_
  refine r_iload_1 (pc := 6) q dX12_shared_6 ?_
  refine r_iload_3 (pc := 7) q dX12_shared_7 ?_
  refine r_cI2 (pc := 8) q (c_X12_isAsked (by first | assumption | exact ⟨by omega, by omega⟩ | omega) (by first | assumption | exact ⟨by omega, by omega⟩ | omega) (by first | assumption | exact ⟨by omega, by omega⟩ | omega) (by first | assumption | exact ⟨by omega, by omega⟩ | omega) (by first | assumption | exact ⟨by omega, by omega⟩ | omega) (by first | assumption | exact ⟨by omega, by omega⟩ | omega) (by first | assumption | exact ⟨by omega, by omega⟩ | omega)) mX12_224 hM.o (by decide) (Nat.le_of_ble_eq_true rfl) rfl dX12_shared_8 (fun z1 h1 hz1 => ?_)
  obtain ⟨hz1, rfl⟩ := hz1
  rw [e5, e29] at hz1
  refine r_if_eq (pc := 11) q 27 dX12_shared_11 (by decide) ⟨by omega, by omega⟩ (fun c11 => ?_) (fun c11 => ?_)
  · refine r_iconst (pc := 27) q dX12_shared_27 ?_
    refine r_ireturn (pc := 28) q rt dX12_shared_28 ?_
    exact ⟨fr0, Or.inl ⟨fun z => by unfold okA at z; omega, rfl⟩⟩
  refine r_aload_0 (pc := 14) q dX12_shared_14 ?_
  refine r_iload_2 (pc := 15) q dX12_shared_15 ?_
  refine r_cI1 (pc := 16) q (c_X12_isList (by first | assumption | exact ⟨by omega, by omega⟩ | omega) (by first | assumption | exact ⟨by omega, by omega⟩ | omega) (by first | assumption | exact ⟨by omega, by omega⟩ | omega) (by first | assumption | exact ⟨by omega, by omega⟩ | omega)) mX12_167 hM.o (by decide) (Nat.le_of_ble_eq_true rfl) rfl dX12_shared_16 (fun z2 h2 hz2 => ?_)
  obtain ⟨hz2, rfl⟩ := hz2
  rw [e5] at hz2
  refine r_if_eq (pc := 19) q 27 dX12_shared_19 (by decide) ⟨by omega, by omega⟩ (fun c19 => ?_) (fun c19 => ?_)
  · refine r_iconst (pc := 27) q dX12_shared_27 ?_
    refine r_ireturn (pc := 28) q rt dX12_shared_28 ?_
    exact ⟨fr0, Or.inl ⟨fun z => by unfold okA at z; omega, rfl⟩⟩
  refine r_iload_1 (pc := 22) q dX12_shared_22 ?_
  refine r_iload_2 (pc := 23) q dX12_shared_23 ?_
  refine r_icmp_ne (pc := 24) q 29 dX12_shared_24 (by decide) ⟨by omega, by omega⟩ ⟨by omega, by omega⟩ (fun c24 => ?_) (fun c24 => ?_)
  · refine r_aload_0 (pc := 29) q dX12_shared_29 ?_
    refine r_iload_1 (pc := 30) q dX12_shared_30 ?_
    refine r_iload_3 (pc := 31) q dX12_shared_31 ?_
    have ok : okA h m a day ∧ 0 ≤ b ∧ b < h m 5 ∧ a ≠ b := ⟨⟨by omega, by omega, by omega, by omega⟩, by omega, by omega, c24⟩
    have Na10 := (hI.2.2.1.2.2 a (by omega) (by omega)).2.2
    have Nb10 := (hI.2.2.1.2.2 b (by omega) (by omega)).2.2
    refine r_cI2 (pc := 32) q (c_X12_bests hM hI0 (by omega) (by omega) (by omega) (by omega)) mX12_230 hM.o (by decide) (Nat.le_of_ble_eq_true rfl) rfl dX12_shared_32 (fun z3 h3 hz3 => ?_)
    obtain ⟨fr, hz3⟩ := hz3
    obtain ⟨a1, a2, a3, a4, a5⟩ := agM_RM ag g n rg rn a day
    rw [a1, a2, a3, a4, a5, es, f0 (m + 4) (by omega)] at hz3
    have fr3 : frM h h3 m := ⟨fun a q0 q1 q2 => by rw [fr a q1 (by omega) (by omega) (by omega) (by omega) (by omega) (by omega) (by omega)]; exact f0 a q0, by rw [fr m (by omega) (by omega) (by omega) (by omega) (by omega) (by omega) (by omega) (by omega)]; exact eM⟩
    refine r_if_ne (pc := 35) q 40 dX12_shared_35 (by decide) ⟨by omega, by omega⟩ (fun c35 => ?_) (fun c35 => ?_)
    · refine r_iconst (pc := 40) q dX12_shared_40 ?_
      refine r_istore_4 (pc := 41) q dX12_shared_41 rfl ?_
      have hz3' : z3 = 1 ∧ lsM h m g n rg rn a day < 1000000 ∧ bRM h m g n rg rn a day (h3 (m + 25)) ∧ ∀ i : Int, 0 ≤ i → i + 1 < h (m + 5) a → h3 (m + 25) (i + 1) = h3 (m + 25) i + h (m + 4) a * h3 (m + 26) i ∧ 0 ≤ h3 (m + 26) i ∧ h3 (m + 26) i ≤ 450 := by
        rcases hz3 with ⟨q, -⟩ | q
        · omega
        · exact q
      obtain ⟨-, fa, bra, ta⟩ := hz3'
      refine tkl h3 (fun h4 f4 g4 => ?_) 10 0 rfl h3 (fun _ _ => rfl) (fun k k0 k1 => by omega)
      have fr4 : frM h h4 m := ⟨fun x q0 q1 q2 => by rw [f4 x (by omega)]; exact fr3.1 x q0 q1 q2, by rw [f4 m (by omega)]; exact fr3.2⟩
      exact con h4 (h3 (m + 25)) (h3 (m + 26)) ok fa fr4 bra ta g4 
    refine r_iconst (pc := 38) q dX12_shared_38 ?_
    refine r_ireturn (pc := 39) q rt dX12_shared_39 ?_
    rcases hz3 with ⟨_, q⟩ | ⟨q, -⟩
    · exact ⟨fr3, Or.inr (Or.inl ⟨ok, Or.inl q, rfl⟩)⟩
    · omega
  refine r_iconst (pc := 27) q dX12_shared_27 ?_
  refine r_ireturn (pc := 28) q rt dX12_shared_28 ?_
  exact ⟨fr0, Or.inl ⟨fun z => by unfold okA at z; omega, rfl⟩⟩
