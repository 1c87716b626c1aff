def mnC (b : Int → Int) (a c : Int) : Prop := ∀ j : Int, 0 ≤ j → j + 1 < c → j + 1 < 8 → signC (b (a + j + 1)) ≤ signC (b (a + j))
theorem c_X12_numeral {l : Launch} {D : va_G} {aC : Nat → ClassId} {B t sz : Nat} {S : sS} {r : sR} {h : sH} {m : Nat} {n : Int} {ns nl us ul : Int → Int} (hM : LX12 S r m) (t0 : 0 ≤ h m 2) (t1 : h m 2 ≤ 200) (a0 : 0 ≤ h m 13) (a1 : h m 13 < h m 2) (nb : ¬ (bA h m (h m 13) = 32 ∨ bA h m (h m 13) = 10)) (hn : h (m + 5) 4 = n) (n1 : 1 ≤ n) (n10 : n ≤ 10) : CtI l yX12_numeral cX12_numeral 5 (some .boolean) 2 41 [.ref m] D aC B t sz S r h (fun z h1 => (∀ x : Nat, x ≠ m → x ≠ m + 7 → x ≠ m + 8 → h1 x = h x) ∧ (∀ k : Int, k ≠ 11 → k ≠ 12 → k ≠ 13 → h1 m k = h m k) ∧ (∀ x : Int, x ≠ 39 + n → h1 (m + 8) x = h (m + 8) x) ∧ (∀ x : Int, x < 9 * (39 + n) ∨ 9 * (39 + n) + 9 ≤ x → h1 (m + 7) x = h (m + 7) x) ∧ ((z = 0 ∧ ∃ p : Int, h1 m 11 = 1 ∧ h1 m 12 = p ∧ (h m 13 ≤ h1 m 13 ∧ h1 m 13 ≤ h m 2) ∧ PR (bA h m) (h m 2) (h m 13) false n ns nl us ul = (1, p, n, ns, nl, us, ul)) ∨ (z = 1 ∧ h1 m 11 = h m 11 ∧ h1 m 12 = h m 12 ∧ ∃ L : Int, (1 ≤ L ∧ L ≤ 8) ∧ h1 m 13 = h m 13 + L ∧ h m 13 + L ≤ h m 2 ∧ h1 (m + 8) (39 + n) = L ∧ (∀ j : Int, 0 ≤ j → j < L → h1 (m + 7) (9 * (39 + n) + j) = signC (bA h m (h m 13 + j)) ∧ 1 ≤ signC (bA h m (h m 13 + j))) ∧ PR (bA h m) (h m 2) (h m 13) false n ns nl us ul = PR (bA h m) (h m 2) (h m 13 + L) true n ns nl (up us (n - 1) (h m 13)) (up ul (n - 1) L)))) := by
  unfold CtI
  refine Ct.of (lv := [some (.ref m), none, none, none, none]) (by decide +kernel) rfl (Nat.le_of_ble_eq_true rfl) (fun X hl q rt hnm => ?_)
  have hb : ∀ k : Int, h m 2 ≤ k → bA h m k = 0 := fun k e => bA_out e
  obtain ⟨a, ea⟩ : ∃ a, h m 13 = a := ⟨_, rfl⟩
  rw [ea] at a0 a1 nb rt
  have ex : ∀ (c : Nat) (w : Int) (h3 : sH) (o4 : Option Value), (a + c ≤ h m 2) → isRun (fun x => signC (bA h m x) ≠ 0) a c → (∀ x : Nat, x ≠ m → x ≠ m + 7 → x ≠ m + 8 → h3 x = h x) → (∀ k : Int, k ≠ 13 → h3 m k = h m k) → h3 m 13 = a + c → (∀ x : Int, x ≠ 39 + n → h3 (m + 8) x = h (m + 8) x) → h3 (m + 8) (39 + n) = c → (∀ x : Int, x < 9 * (39 + n) ∨ 9 * (39 + n) + 9 ≤ x → h3 (m + 7) x = h (m + 7) x) → (∀ j : Int, 0 ≤ j → j < c → j < 8 → h3 (m + 7) (9 * (39 + n) + j) = signC (bA h m (a + j))) → ((w = 1 ∧ mnC (bA h m) a c) ∨ (w = 0 ∧ ¬ mnC (bA h m) a c)) → G X 0 0 151 [some (.ref m), some (.int (iI (39 + n))), some (.int (iI a)), some (.int (iI w)), o4] [] sz S r h3 := by
    intro c w h3 o4 cT hrun fo ff f13 fm em fs es hw
    have sgi : ((1 ≤ (c : Int) ∧ (c : Int) ≤ 8) ∧ mnC (bA h m) a c) ↔ (1 ≤ (c : Int) ∧ sgN (bA h m) a c) := by
      constructor
      · rintro ⟨⟨z1, z2⟩, z3⟩
        exact ⟨z1, z2, fun j j0 j1 => z3 j j0 j1 (by omega)⟩
      · rintro ⟨z1, z2, z3⟩
        exact ⟨⟨z1, z2⟩, fun j j0 j1 _ => z3 j j0 j1⟩
    have bad : ¬ (1 ≤ (c : Int) ∧ sgN (bA h m) a c) → PR (bA h m) (h m 2) a false n ns nl us ul = (1, a, n, ns, nl, us, ul) := by
      intro z
      by_cases c0 : c = 0
      · subst c0
        have := hrun.2.2
        rw [show a + ((0 : Nat) : Int) = a by omega] at this
        refine PR_noG a1 hb nb ?_
        by_cases y : signC (bA h m a) = 0
        · exact y
        · exact absurd y this
      · rw [PR_sgn a1 hb hrun (by omega), if_neg (by decide), cif_f (fun y => z ⟨by omega, y⟩)]
    have fin : ¬ (1 ≤ (c : Int) ∧ sgN (bA h m) a c) → ∀ h5 : sH, h5 = pf (pf h3 m 11 1) m 12 a → (∀ x : Nat, x ≠ m → x ≠ m + 7 → x ≠ m + 8 → h5 x = h x) ∧ (∀ k : Int, k ≠ 11 → k ≠ 12 → k ≠ 13 → h5 m k = h m k) ∧ (∀ x : Int, x ≠ 39 + n → h5 (m + 8) x = h (m + 8) x) ∧ (∀ x : Int, x < 9 * (39 + n) ∨ 9 * (39 + n) + 9 ≤ x → h5 (m + 7) x = h (m + 7) x) ∧ ∃ p : Int, h5 m 11 = 1 ∧ h5 m 12 = p ∧ (a ≤ h5 m 13 ∧ h5 m 13 ≤ h m 2) ∧ PR (bA h m) (h m 2) a false n ns nl us ul = (1, p, n, ns, nl, us, ul) := by
      intro z h5 e5
      have o5 : ∀ x : Nat, x ≠ m → h5 x = h3 x := fun x e => by rw [e5, pf_o _ 12 a e, pf_o _ 11 1 e]
      have f5 : ∀ x : Int, x ≠ 11 → x ≠ 12 → h5 m x = h3 m x := fun x q1 q2 => by rw [e5, pf_f _ m a q2, pf_f _ m 1 q1]
      refine ⟨fun x x0 x1 x2 => by rw [o5 x x0]; exact fo x x0 x1 x2, fun k k1 k2 k3 => by rw [f5 k k1 k2]; exact ff k k3, fun x x0 => by rw [o5 _ (by omega)]; exact fm x x0, fun x x0 => by rw [o5 _ (by omega)]; exact fs x x0, a, ?_, ?_, ?_, bad z⟩
      · rw [e5, pf_f _ m a (by decide)]; exact pf_s _ _ _ _
      · rw [e5]; exact pf_s _ _ _ _
      · rw [f5 13 (by decide) (by decide), f13]; omega
    have W : ∀ st : ¬ (1 ≤ (c : Int) ∧ sgN (bA h m) a c), G X 0 0 175 [some (.ref m), some (.int (iI (39 + n))), some (.int (iI a)), some (.int (iI w)), o4] [] sz S r h3 := by
      intro z
      refine r_aload_0 (pc := 175) q dX12_numeral_175 ?_
      refine r_iconst (pc := 176) q dX12_numeral_176 ?_
      refine r_iload_2 (pc := 177) q dX12_numeral_177 ?_
      refine r_cI2 (pc := 178) q (c_X12_wrong (by first | assumption | exact ⟨by omega, by omega⟩ | omega)) mX12_150 hM.o (by decide) (Nat.le_of_ble_eq_true rfl) rfl dX12_numeral_178 (fun z5 h5 hz5 => ?_)
      refine r_if_eq (pc := 181) q 188 dX12_numeral_181 (by decide) ⟨by omega, by omega⟩ (fun c181 => ?_) (fun c181 => ?_)
      · refine r_iconst (pc := 188) q dX12_numeral_188 ?_
        refine r_zreturn (pc := 189) q rt dX12_numeral_189 (by decide) ?_
        obtain ⟨ez, eh5⟩ := hz5
        obtain ⟨w1, w2, w3, w4, w5⟩ := fin z h5 eh5
        rw [← ea] at w5
        exact ⟨w1, w2, w3, w4, Or.inl ⟨rfl, ea ▸ w5⟩⟩
      exact absurd hz5.1 c181
    refine r_aload_0 (pc := 151) q dX12_numeral_151 ?_
    refine r_getr (pc := 152) q fX12_33 (kz := 10) rfl (by decide) rfl hM.o hM.r_many dX12_numeral_152 ?_
    refine r_iload_1 (pc := 155) q dX12_numeral_155 ?_
    refine r_iald (pc := 156) q hM.s_many (by omega) (by omega) dX12_numeral_156 ?_
    rw [em]
    refine r_if_le (pc := 157) q 175 dX12_numeral_157 (by decide) ⟨by omega, by omega⟩ (fun c157 => ?_) (fun c157 => ?_)
    · exact W (fun z => by omega)
    refine r_aload_0 (pc := 160) q dX12_numeral_160 ?_
    refine r_getr (pc := 161) q fX12_33 (kz := 10) rfl (by decide) rfl hM.o hM.r_many dX12_numeral_161 ?_
    refine r_iload_1 (pc := 164) q dX12_numeral_164 ?_
    refine r_iald (pc := 165) q hM.s_many (by omega) (by omega) dX12_numeral_165 ?_
    rw [em]
    refine r_bipush (pc := 166) q dX12_numeral_166 (by decide) ?_
    refine r_icmp_ge (pc := 168) q 175 dX12_numeral_168 (by decide) ⟨by omega, by omega⟩ ⟨by omega, by omega⟩ (fun c168 => ?_) (fun c168 => ?_)
    · exact W (fun z => by have := z.2.1; omega)
    refine r_iload_3 (pc := 171) q dX12_numeral_171 ?_
    refine r_if_ne (pc := 172) q 184 dX12_numeral_172 (by decide) ⟨by omega, by omega⟩ (fun c172 => ?_) (fun c172 => ?_)
    · refine r_iconst (pc := 184) q dX12_numeral_184 ?_
      refine r_goto (pc := 185) (tgt := 189) q dX12_numeral_185 (by decide) ?_
      refine r_zreturn (pc := 189) q rt dX12_numeral_189 (by decide) ?_
      have w1 : mnC (bA h m) a c := by
        rcases hw with ⟨-, z⟩ | ⟨z, -⟩
        · exact z
        · exact absurd z c172
      have sg := (sgi.mp ⟨⟨by omega, by omega⟩, w1⟩).2
      refine ⟨fo, fun k _ _ k3 => ff k k3, fm, fs, Or.inr ⟨rfl, ff 11 (by decide), ff 12 (by decide), c, ⟨by omega, by omega⟩, f13, cT, em, fun j j0 j1 => ⟨es j j0 j1 (by omega), ?_⟩, ?_⟩⟩
      · have y := hrun.2.1 j j0 j1
        have y2 := signC_in (bA h m (a + j))
        simp only at y
        omega
      · rw [PR_sgn a1 hb hrun (by omega), if_neg (by decide), cif_t sg]
    refine W (fun z => ?_)
    rcases hw with ⟨y, -⟩ | ⟨-, y⟩
    · omega
    · exact y (sgi.mpr z).2
  have lp : ∀ (d c : Nat), a + c + d = h m 2 → ∀ (w : Int) (h3 : sH) (o4 : Option Value), (∀ j : Int, 0 ≤ j → j < c → signC (bA h m (a + j)) ≠ 0) → (∀ x : Nat, x ≠ m → x ≠ m + 7 → x ≠ m + 8 → h3 x = h x) → (∀ k : Int, k ≠ 13 → h3 m k = h m k) → h3 m 13 = a + c → (∀ x : Int, x ≠ 39 + n → h3 (m + 8) x = h (m + 8) x) → h3 (m + 8) (39 + n) = c → (∀ x : Int, x < 9 * (39 + n) ∨ 9 * (39 + n) + 9 ≤ x → h3 (m + 7) x = h (m + 7) x) → (∀ j : Int, 0 ≤ j → j < c → j < 8 → h3 (m + 7) (9 * (39 + n) + j) = signC (bA h m (a + j))) → ((w = 1 ∧ mnC (bA h m) a c) ∨ (w = 0 ∧ ¬ mnC (bA h m) a c)) → G X 0 0 30 [some (.ref m), some (.int (iI (39 + n))), some (.int (iI a)), some (.int (iI w)), o4] [] sz S r h3 := by
    intro d
    induction d with
    | zero =>
      intro c hc w h3 o4 hs fo ff f13 fm em fs es hw
      have k2 := ff 2 (by decide)
      have kb := bA_eq (fo (m + 1) (by omega) (by omega) (by omega)) k2
      have b0 : bA h m (a + c) = 0 := hb _ (by omega)
      have sC0 : signC (bA h m (a + c)) = 0 := by rw [b0]; decide
      have bi := bA_in h m (a + c)
      refine r_aload_0 (pc := 30) q dX12_numeral_30 ?_
      refine r_aload_0 (pc := 31) q dX12_numeral_31 ?_
      refine r_geti (pc := 32) q fX12_144 (kz := 13) rfl (by decide) rfl hM.o dX12_numeral_32 ?_
      rw [f13]
      refine r_cI1 (pc := 35) q (c_X12_byteAt hM (by omega) (by omega) (by omega) (by omega)) mX12_116 hM.o (by decide) (Nat.le_of_ble_eq_true rfl) rfl dX12_numeral_35 (fun z1 h1 hz1 => ?_)
      obtain ⟨rfl, rfl⟩ := hz1
      rw [kb]
      refine r_sI1 (pc := 38) q (c_X12_signOf (by first | assumption | exact ⟨by omega, by omega⟩ | omega)) mX12_154 (by decide) (Nat.le_of_ble_eq_true rfl) rfl dX12_numeral_38 (fun z2 h2 hz2 => ?_)
      obtain ⟨rfl, rfl⟩ := hz2
      rw [sC0]
      refine r_if_le (pc := 41) q 151 dX12_numeral_41 (by decide) ⟨by omega, by omega⟩ (fun c41 => ?_) (fun c41 => ?_)
      · exact ex c w h3 _ (by omega) ⟨by omega, hs, fun z => z sC0⟩ fo ff f13 fm em fs es hw
      exact absurd (by omega) c41
    | succ d ih =>
      intro c hc w h3 o4 hs fo ff f13 fm em fs es hw
      have k2 := ff 2 (by decide)
      have kb := bA_eq (fo (m + 1) (by omega) (by omega) (by omega)) k2
      have bi := bA_in h m (a + c)
      obtain ⟨sv, hsv⟩ : ∃ sv, signC (bA h m (a + c)) = sv := ⟨_, rfl⟩
      have svb := signC_in (bA h m (a + c))
      rw [hsv] at svb
      have J128 : ∀ (w2 : Int) (h4 : sH), 0 < sv → (∀ x : Nat, x ≠ m + 7 → h4 x = h3 x) → (∀ x : Int, x ≠ 9 * (39 + n) + c → h4 (m + 7) x = h3 (m + 7) x) → ((c : Int) < 8 → h4 (m + 7) (9 * (39 + n) + c) = sv) → (8 ≤ (c : Int) → h4 (m + 7) = h3 (m + 7)) → ((w2 = 1 ∧ mnC (bA h m) a (c + 1)) ∨ (w2 = 0 ∧ ¬ mnC (bA h m) a (c + 1))) → G X 0 0 128 [some (.ref m), some (.int (iI (39 + n))), some (.int (iI a)), some (.int (iI w2)), some (.int (iI sv))] [] sz S r h4 := by
        intro w2 h4 sv1 go gs g8 g9 hw2
        have em4 : h4 (m + 8) (39 + n) = c := by rw [go _ (by omega)]; exact em
        refine r_aload_0 (pc := 128) q dX12_numeral_128 ?_
        refine r_getr (pc := 129) q fX12_33 (kz := 10) rfl (by decide) rfl hM.o hM.r_many dX12_numeral_129 ?_
        refine r_iload_1 (pc := 132) q dX12_numeral_132 ?_
        refine r_dup2 (pc := 133) q dX12_numeral_133 rfl rfl ?_
        refine r_iald (pc := 134) q hM.s_many (by omega) (by omega) dX12_numeral_134 ?_
        rw [em4]
        refine r_iconst (pc := 135) q dX12_numeral_135 ?_
        refine r_iadd (pc := 136) q dX12_numeral_136 ?_
        refine r_iast (pc := 137) q hM.s_many (by omega) (by omega) dX12_numeral_137 (fun h5 eh5 => ?_)
        refine r_aload_0 (pc := 138) q dX12_numeral_138 ?_
        refine r_dup (pc := 139) q dX12_numeral_139 rfl ?_
        refine r_geti (pc := 140) q fX12_144 (kz := 13) rfl (by decide) rfl hM.o dX12_numeral_140 ?_
        have f13' : h5 m 13 = a + c := by rw [eh5, up_n _ _ (by omega), go m (by omega)]; exact f13
        rw [f13']
        refine r_iconst (pc := 143) q dX12_numeral_143 ?_
        refine r_iadd (pc := 144) q dX12_numeral_144 ?_
        refine r_puti (pc := 145) q fX12_144 (kz := 13) rfl (by decide) rfl hM.o dX12_numeral_145 (fun h6 eh6 => ?_)
        refine r_goto (pc := 148) (tgt := 30) q dX12_numeral_148 (by decide) ?_
        have m5 : h5 m = h3 m := by rw [eh5, up_n _ _ (by omega), go m (by omega)]
        have e8 : h6 (m + 8) = up (h3 (m + 8)) (39 + n) (c + 1) := by rw [eh6, up_n _ _ (by omega), eh5, up_s, go _ (by omega)]
        have e7 : h6 (m + 7) = h4 (m + 7) := by rw [eh6, up_n _ _ (by omega), eh5, up_n _ _ (by omega)]
        refine ih (c + 1) (by omega) w2 h6 _ (fun j j0 j1 => ?_) (fun x x0 x1 x2 => ?_) (fun k k1 => ?_) ?_ (fun x x0 => ?_) ?_ (fun x x0 => ?_) (fun j j0 j1 j2 => ?_) hw2
        · by_cases ej : j = c
          · rw [ej, hsv]; omega
          · exact hs j j0 (by omega)
        · rw [eh6, up_n _ _ x0, eh5, up_n _ _ x2, go x x1]; exact fo x x0 x1 x2
        · rw [eh6, up_s, up_n _ _ k1, m5]; exact ff k k1
        · rw [eh6, up_s, up_s]; omega
        · rw [e8, up_n _ _ x0]; exact fm x x0
        · rw [e8, up_s]; omega
        · rw [e7]
          by_cases c8 : (c : Int) < 8
          · rw [gs x (by omega)]; exact fs x x0
          · rw [g9 (by omega)]; exact fs x x0
        · rw [e7]
          by_cases ej : j = c
          · rw [ej, g8 (by omega), hsv]
          · rw [gs _ (by omega)]; exact es j j0 (by omega) j2
      have J109 : ∀ w2 : Int, 0 < sv → (c : Int) < 8 → ((w2 = 1 ∧ mnC (bA h m) a (c + 1)) ∨ (w2 = 0 ∧ ¬ mnC (bA h m) a (c + 1))) → G X 0 0 109 [some (.ref m), some (.int (iI (39 + n))), some (.int (iI a)), some (.int (iI w)), some (.int (iI sv))] [.int (iI w2)] sz S r h3 := by
        intro w2 sv1 c8 hw2
        refine r_istore_3 (pc := 109) q dX12_numeral_109 rfl ?_
        refine r_aload_0 (pc := 110) q dX12_numeral_110 ?_
        refine r_getr (pc := 111) q fX12_30 (kz := 9) rfl (by decide) rfl hM.o hM.r_signs dX12_numeral_111 ?_
        refine r_bipush (pc := 114) q dX12_numeral_114 (by decide) ?_
        refine r_iload_1 (pc := 116) q dX12_numeral_116 ?_
        refine r_imul (pc := 117) q dX12_numeral_117 ?_
        refine r_aload_0 (pc := 118) q dX12_numeral_118 ?_
        refine r_getr (pc := 119) q fX12_33 (kz := 10) rfl (by decide) rfl hM.o hM.r_many dX12_numeral_119 ?_
        refine r_iload_1 (pc := 122) q dX12_numeral_122 ?_
        refine r_iald (pc := 123) q hM.s_many (by omega) (by omega) dX12_numeral_123 ?_
        rw [em]
        refine r_iadd (pc := 124) q dX12_numeral_124 ?_
        refine r_iload_4 (pc := 125) q dX12_numeral_125 ?_
        refine r_iast (pc := 127) q hM.s_signs (by omega) (by omega) dX12_numeral_127 (fun h4 eh4 => ?_)
        exact J128 w2 h4 sv1 (fun x x0 => by rw [eh4, up_n _ _ x0]) (fun x x0 => by rw [eh4, up_s, up_n _ _ x0]) (fun _ => by rw [eh4, up_s, up_s]) (fun z => by omega) hw2
      have mw : mnC (bA h m) a (c + 1) → mnC (bA h m) a c := fun z j j0 j1 j2 => z j j0 (by omega) j2
      refine r_aload_0 (pc := 30) q dX12_numeral_30 ?_
      refine r_aload_0 (pc := 31) q dX12_numeral_31 ?_
      refine r_geti (pc := 32) q fX12_144 (kz := 13) rfl (by decide) rfl hM.o dX12_numeral_32 ?_
      rw [f13]
      refine r_cI1 (pc := 35) q (c_X12_byteAt hM (by omega) (by omega) (by omega) (by omega)) mX12_116 hM.o (by decide) (Nat.le_of_ble_eq_true rfl) rfl dX12_numeral_35 (fun z1 h1 hz1 => ?_)
      obtain ⟨rfl, rfl⟩ := hz1
      rw [kb]
      refine r_sI1 (pc := 38) q (c_X12_signOf (by first | assumption | exact ⟨by omega, by omega⟩ | omega)) mX12_154 (by decide) (Nat.le_of_ble_eq_true rfl) rfl dX12_numeral_38 (fun z2 h2 hz2 => ?_)
      obtain ⟨rfl, rfl⟩ := hz2
      rw [hsv]
      refine r_if_le (pc := 41) q 151 dX12_numeral_41 (by decide) ⟨by omega, by omega⟩ (fun c41 => ?_) (fun c41 => ?_)
      · exact ex c w h3 _ (by omega) ⟨by omega, hs, fun z => z (by rw [hsv]; omega)⟩ fo ff f13 fm em fs es hw
      refine r_aload_0 (pc := 44) q dX12_numeral_44 ?_
      refine r_aload_0 (pc := 45) q dX12_numeral_45 ?_
      refine r_geti (pc := 46) q fX12_144 (kz := 13) rfl (by decide) rfl hM.o dX12_numeral_46 ?_
      rw [f13]
      refine r_cI1 (pc := 49) q (c_X12_byteAt hM (by omega) (by omega) (by omega) (by omega)) mX12_116 hM.o (by decide) (Nat.le_of_ble_eq_true rfl) rfl dX12_numeral_49 (fun z3 h3 hz3 => ?_)
      obtain ⟨rfl, rfl⟩ := hz3
      rw [kb]
      refine r_sI1 (pc := 52) q (c_X12_signOf (by first | assumption | exact ⟨by omega, by omega⟩ | omega)) mX12_154 (by decide) (Nat.le_of_ble_eq_true rfl) rfl dX12_numeral_52 (fun z4 h4 hz4 => ?_)
      obtain ⟨rfl, rfl⟩ := hz4
      rw [hsv]
      refine r_istore_4 (pc := 55) q dX12_numeral_55 rfl ?_
      refine r_aload_0 (pc := 57) q dX12_numeral_57 ?_
      refine r_getr (pc := 58) q fX12_33 (kz := 10) rfl (by decide) rfl hM.o hM.r_many dX12_numeral_58 ?_
      refine r_iload_1 (pc := 61) q dX12_numeral_61 ?_
      refine r_iald (pc := 62) q hM.s_many (by omega) (by omega) dX12_numeral_62 ?_
      rw [em]
      refine r_bipush (pc := 63) q dX12_numeral_63 (by decide) ?_
      refine r_icmp_ge (pc := 65) q 128 dX12_numeral_65 (by decide) ⟨by omega, by omega⟩ ⟨by omega, by omega⟩ (fun c65 => ?_) (fun c65 => ?_)
      · refine J128 w h3 (by omega) (fun _ _ => rfl) (fun _ _ => rfl) (fun z => by omega) (fun _ => rfl) ?_
        have eqv : mnC (bA h m) a (c + 1) ↔ mnC (bA h m) a c := ⟨mw, fun z j j0 j1 j2 => z j j0 (by omega) j2⟩
        rw [eqv]; exact hw
      refine r_iload_3 (pc := 68) q dX12_numeral_68 ?_
      refine r_if_eq (pc := 69) q 108 dX12_numeral_69 (by decide) ⟨by omega, by omega⟩ (fun c69 => ?_) (fun c69 => ?_)
      · refine r_iconst (pc := 108) q dX12_numeral_108 ?_
        refine J109 0 (by omega) (by omega) (Or.inr ⟨rfl, fun z => ?_⟩)
        rcases hw with ⟨y, -⟩ | ⟨-, y⟩
        · omega
        · exact y (mw z)
      refine r_aload_0 (pc := 72) q dX12_numeral_72 ?_
      refine r_getr (pc := 73) q fX12_33 (kz := 10) rfl (by decide) rfl hM.o hM.r_many dX12_numeral_73 ?_
      refine r_iload_1 (pc := 76) q dX12_numeral_76 ?_
      refine r_iald (pc := 77) q hM.s_many (by omega) (by omega) dX12_numeral_77 ?_
      rw [em]
      refine r_if_eq (pc := 78) q 104 dX12_numeral_78 (by decide) ⟨by omega, by omega⟩ (fun c78 => ?_) (fun c78 => ?_)
      · refine r_iconst (pc := 104) q dX12_numeral_104 ?_
        refine r_goto (pc := 105) (tgt := 109) q dX12_numeral_105 (by decide) ?_
        refine J109 1 (by omega) (by omega) (Or.inl ⟨rfl, fun j j0 j1 => by omega⟩)
      refine r_iload_4 (pc := 81) q dX12_numeral_81 ?_
      refine r_aload_0 (pc := 83) q dX12_numeral_83 ?_
      refine r_getr (pc := 84) q fX12_30 (kz := 9) rfl (by decide) rfl hM.o hM.r_signs dX12_numeral_84 ?_
      refine r_bipush (pc := 87) q dX12_numeral_87 (by decide) ?_
      refine r_iload_1 (pc := 89) q dX12_numeral_89 ?_
      refine r_imul (pc := 90) q dX12_numeral_90 ?_
      refine r_aload_0 (pc := 91) q dX12_numeral_91 ?_
      refine r_getr (pc := 92) q fX12_33 (kz := 10) rfl (by decide) rfl hM.o hM.r_many dX12_numeral_92 ?_
      refine r_iload_1 (pc := 95) q dX12_numeral_95 ?_
      refine r_iald (pc := 96) q hM.s_many (by omega) (by omega) dX12_numeral_96 ?_
      rw [em]
      refine r_iadd (pc := 97) q dX12_numeral_97 ?_
      refine r_iconst (pc := 98) q dX12_numeral_98 ?_
      refine r_isub (pc := 99) q dX12_numeral_99 ?_
      refine r_iald (pc := 100) q hM.s_signs (by omega) (by omega) dX12_numeral_100 ?_
      have ec : 9 * (39 + n) + (c : Int) - 1 = 9 * (39 + n) + ((c : Int) - 1) := by omega
      rw [ec, es ((c : Int) - 1) (by omega) (by omega) (by omega)]
      have sb2 := signC_in (bA h m (a + ((c : Int) - 1)))
      refine r_icmp_gt (pc := 101) q 108 dX12_numeral_101 (by decide) ⟨by omega, by omega⟩ ⟨by omega, by omega⟩ (fun c101 => ?_) (fun c101 => ?_)
      · refine r_iconst (pc := 108) q dX12_numeral_108 ?_
        refine J109 0 (by omega) (by omega) (Or.inr ⟨rfl, fun z => ?_⟩)
        have y := z ((c : Int) - 1) (by omega) (by omega) (by omega)
        rw [show a + ((c : Int) - 1) + 1 = a + c by omega, hsv] at y
        omega
      refine r_iconst (pc := 104) q dX12_numeral_104 ?_
      refine r_goto (pc := 105) (tgt := 109) q dX12_numeral_105 (by decide) ?_
      refine J109 1 (by omega) (by omega) (Or.inl ⟨rfl, fun j j0 j1 j2 => ?_⟩)
      have hwm : mnC (bA h m) a c := by
        rcases hw with ⟨-, y⟩ | ⟨y, -⟩
        · exact y
        · omega
      by_cases ej : j + 1 = c
      · rw [show j = (c : Int) - 1 by omega, show a + ((c : Int) - 1) + 1 = a + c by omega, hsv]; omega
      · exact hwm j j0 (by omega) j2
  refine r_aload_0 (pc := 0) q dX12_numeral_0 ?_
  refine r_cV0 (pc := 1) q (c_X12_blanks hM t0 t1 (by omega) (by omega)) mX12_147 hM.o (by decide) (Nat.le_of_ble_eq_true rfl) rfl dX12_numeral_1 (fun h1 hz1 => ?_)
  have e1 : h1 = h := by
    obtain ⟨x, e1, x1, x2, x3, x4⟩ := hz1
    have xa : x = a := by
      by_cases z : a < x
      · exact absurd (x3 a (by omega) z) nb
      · omega
    rw [e1, xa, ← ea]
    unfold pf
    rw [up_id, up_id]
  subst e1
  refine r_bipush (pc := 4) q dX12_numeral_4 (by decide) ?_
  refine r_aload_0 (pc := 6) q dX12_numeral_6 ?_
  refine r_getr (pc := 7) q fX12_23 (kz := 7) rfl (by decide) rfl hM.o hM.r_stations dX12_numeral_7 ?_
  refine r_iconst (pc := 10) q dX12_numeral_10 ?_
  refine r_iald (pc := 11) q hM.s_stations (by omega) (by omega) dX12_numeral_11 ?_
  rw [hn]
  refine r_iadd (pc := 12) q dX12_numeral_12 ?_
  refine r_iconst (pc := 13) q dX12_numeral_13 ?_
  refine r_isub (pc := 14) q dX12_numeral_14 ?_
  rw [show (40 : Int) + n - 1 = 39 + n by omega]
  refine r_istore_1 (pc := 15) q dX12_numeral_15 rfl ?_
  refine r_aload_0 (pc := 16) q dX12_numeral_16 ?_
  refine r_geti (pc := 17) q fX12_144 (kz := 13) rfl (by decide) rfl hM.o dX12_numeral_17 ?_
  rw [ea]
  refine r_istore_2 (pc := 20) q dX12_numeral_20 rfl ?_
  refine r_aload_0 (pc := 21) q dX12_numeral_21 ?_
  refine r_getr (pc := 22) q fX12_33 (kz := 10) rfl (by decide) rfl hM.o hM.r_many dX12_numeral_22 ?_
  refine r_iload_1 (pc := 25) q dX12_numeral_25 ?_
  refine r_iconst (pc := 26) q dX12_numeral_26 ?_
  refine r_iast (pc := 27) q hM.s_many (by omega) (by omega) dX12_numeral_27 (fun h2 eh2 => ?_)
  refine r_iconst (pc := 28) q dX12_numeral_28 ?_
  refine r_istore_3 (pc := 29) q dX12_numeral_29 rfl ?_
  have e2m : h2 m = h1 m := by rw [eh2, up_n _ _ (by omega)]
  refine lp (h1 m 2 - a).toNat 0 (by omega) 1 h2 _ (fun j j0 j1 => by omega) (fun x x0 x1 x2 => by rw [eh2, up_n _ _ x2]) (fun k _ => by rw [e2m]) (by rw [e2m, ea]; omega) (fun x x0 => by rw [eh2, up_s, up_n _ _ x0]) (by rw [eh2, up_s, up_s]; rfl) (fun x _ => by rw [eh2, up_n _ _ (by omega)]) (fun j j0 j1 => by omega) (Or.inl ⟨rfl, fun j j0 j1 => by omega⟩)
