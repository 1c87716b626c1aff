/-! ===== what a station costs at a place ===== -/
/-- by the first k ruins: lost, or how far the names are apart (ds) -/
def owR (lost : Int) (ra rd ds : Int → Int) (day p : Int) : Nat → Int
  | 0 => lost
  | k + 1 => if ra k = p ∧ rd k ≤ day then ds k else owR lost ra rd ds day p k
/-- .. and by the first k stones: moved for each of the same name (sm) that isn't so far -/
noncomputable def owS (w moved : Int) (sa sf sd : Int → Int) (sm : Int → Prop) (day p : Int) : Nat → Int
  | 0 => w
  | k + 1 => cif (sm k ∧ sd k ≤ day ∧ ¬ (if sa k > p then sa k - p else p - sa k) = sf k) (owS w moved sa sf sd sm day p k + moved) (owS w moved sa sf sd sm day p k)
theorem owR_in {lost : Int} {ra rd ds : Int → Int} {day p : Int} (l0 : 0 ≤ lost) (l1 : lost ≤ 50) : ∀ k : Nat, (∀ j : Int, 0 ≤ j → j < k → 0 ≤ ds j ∧ ds j ≤ 32) → 0 ≤ owR lost ra rd ds day p k ∧ owR lost ra rd ds day p k ≤ 50
  | 0, _ => by simp only [owR]; omega
  | k + 1, h => by
    have a := owR_in (lost := lost) (ra := ra) (rd := rd) (ds := ds) (day := day) (p := p) l0 l1 k (fun j j0 j1 => h j j0 (by omega))
    have b := h k (by omega) (by omega)
    simp only [owR]; split <;> omega
theorem owS_in {w moved : Int} {sa sf sd : Int → Int} {sm : Int → Prop} {day p : Int} (w0 : 0 ≤ w) (w1 : w ≤ 50) (m0 : 0 ≤ moved) (m1 : moved ≤ 50) : ∀ k : Nat, 0 ≤ owS w moved sa sf sd sm day p k ∧ owS w moved sa sf sd sm day p k ≤ 50 + 50 * k
  | 0 => by simp only [owS]; omega
  | k + 1 => by
    have a := owS_in (w := w) (moved := moved) (sa := sa) (sf := sf) (sd := sd) (sm := sm) (day := day) (p := p) w0 w1 m0 m1 k
    simp only [owS]
    by_cases e : sm k ∧ sd k ≤ day ∧ ¬ (if sa k > p then sa k - p else p - sa k) = sf k
    · rw [cif_t e]; omega
    · rw [cif_f e]; omega
/-- the distance of two names, the first n letters g, the other k letters f -/
def dst (so g : Int → Int) (n : Int) (f : Int → Int) (k : Int) : Int := DD (fun a b => cs so (g a) (f b)) n.toNat k.toNat
theorem cr_dst {so g f : Int → Int} {n k : Int} (n0 : 0 ≤ n) (k0 : 0 ≤ k) : DD (cr so g f n k) n.toNat k.toNat = dst so g n f k := by
  have := DD_rev (fun a b => cs so (g a) (f b)) n.toNat k.toNat
  unfold dst
  rw [← this]
  congr 1
  funext p q
  rw [Int.toNat_of_nonneg n0, Int.toNat_of_nonneg k0]
theorem cs_sym (so : Int → Int) (a b : Int) : cs so a b = cs so b a := by
  unfold cs
  by_cases e : a = b
  · rw [if_pos e, if_pos e.symm]
  · rw [if_neg e, if_neg (Ne.symm e)]
    by_cases q : so (a - 97) = so (b - 97)
    · rw [if_pos q, if_pos q.symm]
    · rw [if_neg q, if_neg (Ne.symm q)]
theorem dst_sym (so g f : Int → Int) (n k : Int) : dst so g n f k = dst so f k g n := by
  unfold dst
  rw [DD_sym]
  congr 1
  funext a b
  exact cs_sym so (g b) (f a)
theorem dst_in {so g f : Int → Int} {n k : Int} (n0 : 0 ≤ n) (n8 : n ≤ 8) (k0 : 0 ≤ k) (k8 : k ≤ 8) : 0 ≤ dst so g n f k ∧ dst so g n f k ≤ 32 := by
  have a := DD_nn (c := fun a b => cs so (g a) (f b)) (fun _ _ => (cs_in _ _ _).1) n.toNat k.toNat
  have b := DD_le (fun a b => cs so (g a) (f b)) n.toNat k.toNat
  unfold dst
  omega
theorem dst_congr {so so2 g g2 f f2 : Int → Int} {n k : Int} (hs : ∀ x : Int, 0 ≤ x → x < 26 → so x = so2 x) (hg : ∀ i : Int, 0 ≤ i → i < n → g i = g2 i ∧ isL (g i)) (hf : ∀ i : Int, 0 ≤ i → i < k → f i = f2 i ∧ isL (f i)) : dst so g n f k = dst so2 g2 n f2 k := by
  unfold dst
  refine DD_congr (n := n.toNat) (m := k.toNat) (fun i j i0 i1 j0 j1 => ?_) _ _ (Nat.le_refl _) (Nat.le_refl _)
  have a := hg i i0 (by omega)
  have b := hf j j0 (by omega)
  have a2 := a.2
  have b2 := b.2
  unfold isL at a2 b2
  show cs so (g i) (f j) = cs so2 (g2 i) (f2 j)
  unfold cs
  rw [← a.1, ← b.1, hs (g i - 97) (by omega) (by omega), hs (f j - 97) (by omega) (by omega)]
/-- what the model holds of ruins and stones -/
def rsR (h : sH) (m : Nat) (rg : Int → Int → Int) (rn : Int → Int) (sg : Int → Int → Int) (sn : Int → Int) : Prop :=
  (0 ≤ h m 14 ∧ h m 14 ≤ 12) ∧ (∀ k : Int, 0 ≤ k → k < h m 14 → (0 ≤ h (m + 9) k ∧ h (m + 9) k ≤ 600) ∧ NmP (h (m + 10) k) (rg k) (rn k) ∧ 0 ≤ h (m + 11) k ∧ h (m + 11) k ≤ 100000) ∧
  (0 ≤ h m 18 ∧ h m 18 ≤ 12) ∧ (∀ k : Int, 0 ≤ k → k < h m 18 → (0 ≤ h (m + 12) k ∧ h (m + 12) k ≤ 600) ∧ NmP (h (m + 13) k) (sg k) (sn k) ∧ (0 ≤ h (m + 14) k ∧ h (m + 14) k ≤ 600) ∧ 0 ≤ h (m + 15) k ∧ h (m + 15) k ≤ 100000) ∧
  (0 ≤ h m 27 ∧ h m 27 ≤ 50) ∧ (0 ≤ h m 28 ∧ h m 28 ≤ 50)
noncomputable def owM (h : sH) (m : Nat) (rg : Int → Int → Int) (rn : Int → Int) (g : Int → Int) (n v day p : Int) : Int :=
  owS (owR (h m 27) (h (m + 9)) (h (m + 11)) (fun k => dst (h (m + 2)) (rg k) (rn k) g n) day p (h m 14).toNat) (h m 28) (h (m + 12)) (h (m + 14)) (h (m + 15)) (fun k => h (m + 13) k = v) day p (h m 18).toNat
theorem c_X12_ownCost {l : Launch} {D : va_G} {aC : Nat → ClassId} {B t sz : Nat} {S : sS} {r : sR} {h : sH} {m : Nat} {l1 i p day n : Int} {g : Int → Int} {rg sg : Int → Int → Int} {rn sn : Int → Int} (hM : LX12 S r m) (hs : soR (h (m + 2))) (l0 : 0 ≤ l1) (l3 : l1 ≤ 3) (i0 : 0 ≤ i) (i9 : i ≤ 9) (p0 : 0 ≤ p) (p6 : p ≤ 600) (d0 : 0 ≤ day) (d1 : day ≤ 100000) (hN : NmP (h (m + 6) (10 * l1 + i)) g n) (hR : rsR h m rg rn sg sn) : CtI l yX12_ownCost cX12_ownCost 10 (some .int) 3 75 [.ref m, .int (iI l1), .int (iI i), .int (iI p), .int (iI day)] D aC B t sz S r h (fun z h1 => z = owM h m rg rn g n (h (m + 6) (10 * l1 + i)) day p ∧ ∀ a : Nat, a ≠ m + 3 → h1 a = h a) := by
  unfold CtI
  refine Ct.of (lv := [some (.ref m), some (.int (iI l1)), some (.int (iI i)), some (.int (iI p)), some (.int (iI day)), none, none, none, none, none]) (by decide +kernel) rfl (Nat.le_of_ble_eq_true rfl) (fun X hl q rt hnm => ?_)
  obtain ⟨⟨R0, R12⟩, hr, ⟨S0, S12⟩, hst, ⟨L0, L50⟩, ⟨M0, M50⟩⟩ := hR
  obtain ⟨n1, n8, -, -⟩ := id hN
  have dsb : ∀ k : Int, 0 ≤ k → k < h m 14 → 0 ≤ dst (h (m + 2)) (rg k) (rn k) g n ∧ dst (h (m + 2)) (rg k) (rn k) g n ≤ 32 := fun k k0 k1 => by
    have := (hr k k0 k1).2.1
    exact dst_in (by have := this.1; omega) this.2.1 (by omega) n8
  have orb : ∀ k : Nat, (k : Int) ≤ h m 14 → 0 ≤ owR (h m 27) (h (m + 9)) (h (m + 11)) (fun k => dst (h (m + 2)) (rg k) (rn k) g n) day p k ∧ owR (h m 27) (h (m + 9)) (h (m + 11)) (fun k => dst (h (m + 2)) (rg k) (rn k) g n) day p k ≤ 50 := fun k hk => owR_in L0 L50 k (fun j j0 j1 => dsb j j0 (by omega))
  obtain ⟨v, hv⟩ : ∃ v, h (m + 6) (10 * l1 + i) = v := ⟨_, rfl⟩
  rw [hv] at hN rt
  have v0 := hN.nn
  have v1 := hN.lt
  obtain ⟨w, hw⟩ : ∃ w, owR (h m 27) (h (m + 9)) (h (m + 11)) (fun k => dst (h (m + 2)) (rg k) (rn k) g n) day p (h m 14).toNat = w := ⟨_, rfl⟩
  have wb := orb (h m 14).toNat (by omega)
  rw [hw] at wb
  have osb := fun k => owS_in (w := w) (moved := h m 28) (sa := h (m + 12)) (sf := h (m + 14)) (sd := h (m + 15)) (sm := fun k => h (m + 13) k = v) (day := day) (p := p) wb.1 wb.2 M0 M50 k
  have L2 : ∀ (h2 : sH), (∀ a : Nat, a ≠ m + 3 → h2 a = h a) → ∀ (d j : Nat), (j : Int) + d = h m 18 → ∀ o : Option Value, G X 0 0 78 [some (.ref m), some (.int (iI l1)), some (.int (iI i)), some (.int (iI p)), some (.int (iI day)), some (.long (lI v)), none, some (.int (iI (owS w (h m 28) (h (m + 12)) (h (m + 14)) (h (m + 15)) (fun k => h (m + 13) k = v) day p j))), some (.int (iI j)), o] [] sz S r h2 := by
    intro h2 hA
    have a0 := hA m (by omega)
    have a12 := hA (m + 12) (by omega)
    have a13 := hA (m + 13) (by omega)
    have a14 := hA (m + 14) (by omega)
    have a15 := hA (m + 15) (by omega)
    intro d
    induction d with
    | zero =>
      intro j hj o
      refine r_iload_8 (pc := 78) q dX12_ownCost_78 ?_
      refine r_aload_0 (pc := 80) q dX12_ownCost_80 ?_
      refine r_geti (pc := 81) q fX12_184 (kz := 18) rfl (by decide) rfl hM.o dX12_ownCost_81 ?_
      rw [a0]
      refine r_icmp_ge (pc := 84) q 180 dX12_ownCost_84 (by decide) ⟨by omega, by omega⟩ ⟨by omega, by omega⟩ (fun c84 => ?_) (fun c84 => ?_)
      · refine r_iload_7 (pc := 180) q dX12_ownCost_180 ?_
        refine r_ireturn (pc := 182) q rt dX12_ownCost_182 ?_
        refine ⟨?_, hA⟩
        unfold owM
        rw [hw, show (h m 18).toNat = j by omega]
      exact absurd (show h m 18 ≤ (j : Int) by omega) c84
    | succ d ih =>
      intro j hj o
      have sj := hst j (by omega) (by omega)
      have sv0 := sj.2.1.nn
      have sv1 := sj.2.1.lt
      have ob := osb j
      have nxt : ∀ (x : Int) (o : Option Value), ((h (m + 13) j = v ∧ h (m + 15) j ≤ day ∧ ¬ (if h (m + 12) j > p then h (m + 12) j - p else p - h (m + 12) j) = h (m + 14) j) → x = owS w (h m 28) (h (m + 12)) (h (m + 14)) (h (m + 15)) (fun k => h (m + 13) k = v) day p j + h m 28) → (¬ (h (m + 13) j = v ∧ h (m + 15) j ≤ day ∧ ¬ (if h (m + 12) j > p then h (m + 12) j - p else p - h (m + 12) j) = h (m + 14) j) → x = owS w (h m 28) (h (m + 12)) (h (m + 14)) (h (m + 15)) (fun k => h (m + 13) k = v) day p j) → G X 0 0 174 [some (.ref m), some (.int (iI l1)), some (.int (iI i)), some (.int (iI p)), some (.int (iI day)), some (.long (lI v)), none, some (.int (iI x)), some (.int (iI j)), o] [] sz S r h2 := by
        intro x o x1 x2
        have ex : x = owS w (h m 28) (h (m + 12)) (h (m + 14)) (h (m + 15)) (fun k => h (m + 13) k = v) day p (j + 1) := by
          simp only [owS]
          by_cases e : h (m + 13) j = v ∧ h (m + 15) j ≤ day ∧ ¬ (if h (m + 12) j > p then h (m + 12) j - p else p - h (m + 12) j) = h (m + 14) j
          · rw [cif_t e]; exact x1 e
          · rw [cif_f e]; exact x2 e
        subst ex
        refine r_iinc_8 (pc := 174) q dX12_ownCost_174 rfl ?_
        refine r_goto (pc := 177) (tgt := 78) q dX12_ownCost_177 (by decide) ?_
        exact ih (j + 1) (by omega) o
      have J147 : ∀ f : Int, f = (if h (m + 12) j > p then h (m + 12) j - p else p - h (m + 12) j) → -600 ≤ f → f ≤ 600 → h (m + 13) j = v → h (m + 15) j ≤ day → G X 0 0 147 [some (.ref m), some (.int (iI l1)), some (.int (iI i)), some (.int (iI p)), some (.int (iI day)), some (.long (lI v)), none, some (.int (iI (owS w (h m 28) (h (m + 12)) (h (m + 14)) (h (m + 15)) (fun k => h (m + 13) k = v) day p j))), some (.int (iI j)), o] [.int (iI f)] sz S r h2 := by
        intro f ef f0 f1 e1 e2
        refine r_istore_9 (pc := 147) q dX12_ownCost_147 rfl ?_
        refine r_iload_7 (pc := 149) q dX12_ownCost_149 ?_
        refine r_iload_9 (pc := 151) q dX12_ownCost_151 ?_
        refine r_aload_0 (pc := 153) q dX12_ownCost_153 ?_
        refine r_getr (pc := 154) q fX12_55 (kz := 21) rfl (by decide) rfl hM.o hM.r_stoneFar dX12_ownCost_154 ?_
        refine r_iload_8 (pc := 157) q dX12_ownCost_157 ?_
        refine r_iald (pc := 159) q hM.s_stoneFar (by omega) (by omega) dX12_ownCost_159 ?_
        rw [a14]
        refine r_icmp_ne (pc := 160) q 167 dX12_ownCost_160 (by decide) ⟨by omega, by omega⟩ ⟨by omega, by omega⟩ (fun c160 => ?_) (fun c160 => ?_)
        · refine r_aload_0 (pc := 167) q dX12_ownCost_167 ?_
          refine r_geti (pc := 168) q fX12_73 (kz := 28) rfl (by decide) rfl hM.o dX12_ownCost_168 ?_
          rw [a0]
          refine r_iadd (pc := 171) q dX12_ownCost_171 ?_
          refine r_istore_7 (pc := 172) q dX12_ownCost_172 rfl ?_
          exact nxt _ _ (fun _ => rfl) (fun e => absurd ⟨e1, e2, by rw [← ef]; exact c160⟩ e)
        refine r_iconst (pc := 163) q dX12_ownCost_163 ?_
        refine r_goto (pc := 164) (tgt := 171) q dX12_ownCost_164 (by decide) ?_
        refine r_iadd (pc := 171) q dX12_ownCost_171 ?_
        refine r_istore_7 (pc := 172) q dX12_ownCost_172 rfl ?_
        exact nxt _ _ (fun e => absurd (ef ▸ c160) e.2.2) (fun _ => Int.add_zero _)
      refine r_iload_8 (pc := 78) q dX12_ownCost_78 ?_
      refine r_aload_0 (pc := 80) q dX12_ownCost_80 ?_
      refine r_geti (pc := 81) q fX12_184 (kz := 18) rfl (by decide) rfl hM.o dX12_ownCost_81 ?_
      rw [a0]
      refine r_icmp_ge (pc := 84) q 180 dX12_ownCost_84 (by decide) ⟨by omega, by omega⟩ ⟨by omega, by omega⟩ (fun c84 => ?_) (fun c84 => ?_)
      · exact absurd c84 (by omega)
      refine r_aload_0 (pc := 87) q dX12_ownCost_87 ?_
      refine r_getr (pc := 88) q fX12_52 (kz := 20) rfl (by decide) rfl hM.o hM.r_stoneName dX12_ownCost_88 ?_
      refine r_iload_8 (pc := 91) q dX12_ownCost_91 ?_
      refine r_lald (pc := 93) q hM.s_stoneName (by omega) (by omega) dX12_ownCost_93 ?_
      rw [a13]
      refine r_lload_5 (pc := 94) q dX12_ownCost_94 ?_
      refine r_lcmp (pc := 96) q dX12_ownCost_96 ⟨by omega, by omega⟩ ⟨by omega, by omega⟩ ?_
      refine r_if_ne (pc := 97) q 174 dX12_ownCost_97 (by decide) ⟨by have := cmpI_in (h (m + 13) j) v; omega, by have := cmpI_in (h (m + 13) j) v; omega⟩ (fun c97 => ?_) (fun c97 => ?_)
      · rw [cmpI_0] at c97
        exact nxt _ _ (fun e => absurd e.1 c97) (fun _ => rfl)
      rw [cmpI_0] at c97
      refine r_aload_0 (pc := 100) q dX12_ownCost_100 ?_
      refine r_getr (pc := 101) q fX12_58 (kz := 22) rfl (by decide) rfl hM.o hM.r_stoneDay dX12_ownCost_101 ?_
      refine r_iload_8 (pc := 104) q dX12_ownCost_104 ?_
      refine r_iald (pc := 106) q hM.s_stoneDay (by omega) (by omega) dX12_ownCost_106 ?_
      rw [a15]
      refine r_iload_4 (pc := 107) q dX12_ownCost_107 ?_
      refine r_icmp_le (pc := 109) q 115 dX12_ownCost_109 (by decide) ⟨by omega, by omega⟩ ⟨by omega, by omega⟩ (fun c109 => ?_) (fun c109 => ?_)
      · skip
        refine r_aload_0 (pc := 115) q dX12_ownCost_115 ?_
        refine r_getr (pc := 116) q fX12_49 (kz := 19) rfl (by decide) rfl hM.o hM.r_stoneAt dX12_ownCost_116 ?_
        refine r_iload_8 (pc := 119) q dX12_ownCost_119 ?_
        refine r_iald (pc := 121) q hM.s_stoneAt (by omega) (by omega) dX12_ownCost_121 ?_
        rw [a12]
        refine r_iload_3 (pc := 122) q dX12_ownCost_122 ?_
        refine r_icmp_le (pc := 123) q 138 dX12_ownCost_123 (by decide) ⟨by omega, by omega⟩ ⟨by omega, by omega⟩ (fun c123 => ?_) (fun c123 => ?_)
        · refine r_iload_3 (pc := 138) q dX12_ownCost_138 ?_
          refine r_aload_0 (pc := 139) q dX12_ownCost_139 ?_
          refine r_getr (pc := 140) q fX12_49 (kz := 19) rfl (by decide) rfl hM.o hM.r_stoneAt dX12_ownCost_140 ?_
          refine r_iload_8 (pc := 143) q dX12_ownCost_143 ?_
          refine r_iald (pc := 145) q hM.s_stoneAt (by omega) (by omega) dX12_ownCost_145 ?_
          rw [a12]
          refine r_isub (pc := 146) q dX12_ownCost_146 ?_
          exact J147 _ (by rw [if_neg (by omega)]) (by omega) (by omega) c97 c109
        refine r_aload_0 (pc := 126) q dX12_ownCost_126 ?_
        refine r_getr (pc := 127) q fX12_49 (kz := 19) rfl (by decide) rfl hM.o hM.r_stoneAt dX12_ownCost_127 ?_
        refine r_iload_8 (pc := 130) q dX12_ownCost_130 ?_
        refine r_iald (pc := 132) q hM.s_stoneAt (by omega) (by omega) dX12_ownCost_132 ?_
        rw [a12]
        refine r_iload_3 (pc := 133) q dX12_ownCost_133 ?_
        refine r_isub (pc := 134) q dX12_ownCost_134 ?_
        refine r_goto (pc := 135) (tgt := 147) q dX12_ownCost_135 (by decide) ?_
        exact J147 _ (by rw [if_pos (by omega)]) (by omega) (by omega) c97 c109
      refine r_goto (pc := 112) (tgt := 174) q dX12_ownCost_112 (by decide) ?_
      exact nxt _ _ (fun e => absurd e.2.1 c109) (fun _ => rfl)
  have L1 : ∀ (d j : Nat), (j : Int) + d = h m 14 → ∀ (h2 : sH), (∀ a : Nat, a ≠ m + 3 → h2 a = h a) → G X 0 0 22 [some (.ref m), some (.int (iI l1)), some (.int (iI i)), some (.int (iI p)), some (.int (iI day)), some (.long (lI v)), none, some (.int (iI (owR (h m 27) (h (m + 9)) (h (m + 11)) (fun k => dst (h (m + 2)) (rg k) (rn k) g n) day p j))), some (.int (iI j)), none] [] sz S r h2 := by
    intro d
    induction d with
    | zero =>
      intro j hj h2 hA
      have a0 := hA m (by omega)
      refine r_iload_8 (pc := 22) q dX12_ownCost_22 ?_
      refine r_aload_0 (pc := 24) q dX12_ownCost_24 ?_
      refine r_geti (pc := 25) q fX12_178 (kz := 14) rfl (by decide) rfl hM.o dX12_ownCost_25 ?_
      rw [a0]
      refine r_icmp_ge (pc := 28) q 75 dX12_ownCost_28 (by decide) ⟨by omega, by omega⟩ ⟨by omega, by omega⟩ (fun c28 => ?_) (fun c28 => ?_)
      · refine r_iconst (pc := 75) q dX12_ownCost_75 ?_
        refine r_istore_8 (pc := 76) q dX12_ownCost_76 rfl ?_
        rw [show j = (h m 14).toNat by omega, hw]
        exact L2 h2 hA (h m 18).toNat 0 (by omega) _
      exact absurd (show h m 14 ≤ (j : Int) by omega) c28
    | succ d ih =>
      intro j hj h2 hA
      have a0 := hA m (by omega)
      have a2 := hA (m + 2) (by omega)
      have a9 := hA (m + 9) (by omega)
      have a10 := hA (m + 10) (by omega)
      have a11 := hA (m + 11) (by omega)
      have rj := hr j (by omega) (by omega)
      have ob := orb j (by omega)
      have nxt : ∀ (x : Int) (h3 : sH), (∀ a : Nat, a ≠ m + 3 → h3 a = h a) → x = (if h (m + 9) j = p ∧ h (m + 11) j ≤ day then dst (h (m + 2)) (rg j) (rn j) g n else owR (h m 27) (h (m + 9)) (h (m + 11)) (fun k => dst (h (m + 2)) (rg k) (rn k) g n) day p j) → G X 0 0 69 [some (.ref m), some (.int (iI l1)), some (.int (iI i)), some (.int (iI p)), some (.int (iI day)), some (.long (lI v)), none, some (.int (iI x)), some (.int (iI j)), none] [] sz S r h3 := by
        intro x h3 hA3 ex
        subst ex
        refine r_iinc_8 (pc := 69) q dX12_ownCost_69 rfl ?_
        refine r_goto (pc := 72) (tgt := 22) q dX12_ownCost_72 (by decide) ?_
        exact ih (j + 1) (by omega) h3 hA3
      refine r_iload_8 (pc := 22) q dX12_ownCost_22 ?_
      refine r_aload_0 (pc := 24) q dX12_ownCost_24 ?_
      refine r_geti (pc := 25) q fX12_178 (kz := 14) rfl (by decide) rfl hM.o dX12_ownCost_25 ?_
      rw [a0]
      refine r_icmp_ge (pc := 28) q 75 dX12_ownCost_28 (by decide) ⟨by omega, by omega⟩ ⟨by omega, by omega⟩ (fun c28 => ?_) (fun c28 => ?_)
      · exact absurd c28 (by omega)
      refine r_aload_0 (pc := 31) q dX12_ownCost_31 ?_
      refine r_getr (pc := 32) q fX12_40 (kz := 15) rfl (by decide) rfl hM.o hM.r_ruinAt dX12_ownCost_32 ?_
      refine r_iload_8 (pc := 35) q dX12_ownCost_35 ?_
      refine r_iald (pc := 37) q hM.s_ruinAt (by omega) (by omega) dX12_ownCost_37 ?_
      rw [a9]
      refine r_iload_3 (pc := 38) q dX12_ownCost_38 ?_
      refine r_icmp_ne (pc := 39) q 69 dX12_ownCost_39 (by decide) ⟨by omega, by omega⟩ ⟨by omega, by omega⟩ (fun c39 => ?_) (fun c39 => ?_)
      · exact nxt _ h2 hA (by rw [if_neg (fun e => c39 e.1)])
      refine r_aload_0 (pc := 42) q dX12_ownCost_42 ?_
      refine r_getr (pc := 43) q fX12_46 (kz := 17) rfl (by decide) rfl hM.o hM.r_ruinDay dX12_ownCost_43 ?_
      refine r_iload_8 (pc := 46) q dX12_ownCost_46 ?_
      refine r_iald (pc := 48) q hM.s_ruinDay (by omega) (by omega) dX12_ownCost_48 ?_
      rw [a11]
      refine r_iload_4 (pc := 49) q dX12_ownCost_49 ?_
      refine r_icmp_gt (pc := 51) q 69 dX12_ownCost_51 (by decide) ⟨by omega, by omega⟩ ⟨by omega, by omega⟩ (fun c51 => ?_) (fun c51 => ?_)
      · exact nxt _ h2 hA (by rw [if_neg (fun e => by omega)])
      refine r_aload_0 (pc := 54) q dX12_ownCost_54 ?_
      refine r_aload_0 (pc := 55) q dX12_ownCost_55 ?_
      refine r_getr (pc := 56) q fX12_43 (kz := 16) rfl (by decide) rfl hM.o hM.r_ruinName dX12_ownCost_56 ?_
      refine r_iload_8 (pc := 59) q dX12_ownCost_59 ?_
      refine r_lald (pc := 61) q hM.s_ruinName (by omega) (by omega) dX12_ownCost_61 ?_
      rw [a10]
      refine r_lload_5 (pc := 62) q dX12_ownCost_62 ?_
      refine r_cI2 (pc := 64) q (c_X12_apart hM (by rw [a2]; exact hs) rj.2.1 hN) mX12_194 hM.o (by decide) (Nat.le_of_ble_eq_true rfl) rfl dX12_ownCost_64 (fun z5 h5 hz5 => ?_)
      refine r_istore_7 (pc := 67) q dX12_ownCost_67 rfl ?_
      exact nxt _ h5 (fun a q1 => by rw [hz5.2 a q1]; exact hA a q1) (by rw [if_pos ⟨c39, by omega⟩, hz5.1, a2, cr_dst (by have := rj.2.1.1; omega) (by omega)])
  refine r_aload_0 (pc := 0) q dX12_ownCost_0 ?_
  refine r_getr (pc := 1) q fX12_26 (kz := 8) rfl (by decide) rfl hM.o hM.r_name dX12_ownCost_1 ?_
  refine r_bipush (pc := 4) q dX12_ownCost_4 (by decide) ?_
  refine r_iload_1 (pc := 6) q dX12_ownCost_6 ?_
  refine r_imul (pc := 7) q dX12_ownCost_7 ?_
  refine r_iload_2 (pc := 8) q dX12_ownCost_8 ?_
  refine r_iadd (pc := 9) q dX12_ownCost_9 ?_
  refine r_lald (pc := 10) q hM.s_name (by omega) (by omega) dX12_ownCost_10 ?_
  rw [hv]
  refine r_lstore_5 (pc := 11) q dX12_ownCost_11 rfl ?_
  refine r_aload_0 (pc := 13) q dX12_ownCost_13 ?_
  refine r_geti (pc := 14) q fX12_70 (kz := 27) rfl (by decide) rfl hM.o dX12_ownCost_14 ?_
  refine r_istore_7 (pc := 17) q dX12_ownCost_17 rfl ?_
  refine r_iconst (pc := 19) q dX12_ownCost_19 ?_
  refine r_istore_8 (pc := 20) q dX12_ownCost_20 rfl ?_
  exact L1 (h m 14).toNat 0 (by omega) h (fun _ _ => rfl)
