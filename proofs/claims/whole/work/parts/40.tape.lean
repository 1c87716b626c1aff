/-! ===== the class: its tape, names, numerals ===== -/
theorem iushr_c {w s : Int} {p : Nat} (hs : (((iI s).toUInt32 &&& Int32.toUInt32 31).toBitVec % 32).toNat = p) : ((iI w).toUInt32 >>> ((iI s).toUInt32 &&& Int32.toUInt32 31)).toInt32 = iI ((w % 4294967296) / 2 ^ p) := by
  apply Int32.toBitVec_inj.mp
  apply BitVec.eq_of_toNat_eq
  rw [pk_ushr _ _ p hs]
  show (BitVec.ofInt 32 w).toNat / 2 ^ p = (BitVec.ofInt 32 ((w % 4294967296) / 2 ^ p)).toNat
  rw [BitVec.toNat_ofInt, BitVec.toNat_ofInt]
  have e0 : 0 ≤ w % 4294967296 := Int.emod_nonneg _ (by decide)
  have e1 : w % 4294967296 < 4294967296 := Int.emod_lt_of_pos _ (by decide)
  obtain ⟨n, hn⟩ : ∃ n : Nat, w % 4294967296 = n := ⟨(w % 4294967296).toNat, by omega⟩
  show (w % 4294967296).toNat / 2 ^ p = ((w % 4294967296 / 2 ^ p) % 4294967296).toNat
  rw [hn]
  have e2 : ((n : Int) / 2 ^ p) = ((n / 2 ^ p : Nat) : Int) := by
    rw [Int.natCast_ediv, Int.natCast_pow]; rfl
  rw [e2]
  have e3 : n / 2 ^ p ≤ n := Nat.div_le_self _ _
  rw [Int.toNat_natCast]
  obtain ⟨q, hq⟩ : ∃ q, n / 2 ^ p = q := ⟨_, rfl⟩
  rw [hq] at e3 ⊢
  omega
theorem bAnd {w z : Int} {p : Nat} (hp : p = 24 ∨ p = 16 ∨ p = 8 ∨ p = 0) (hz : z = (w % 4294967296) / 2 ^ p) : z % 256 = (w / 2 ^ p) % 256 := by
  subst hz
  rcases hp with rfl | rfl | rfl | rfl
  · show w % 4294967296 / 16777216 % 256 = w / 16777216 % 256; omega
  · show w % 4294967296 / 65536 % 256 = w / 65536 % 256; omega
  · show w % 4294967296 / 256 % 256 = w / 256 % 256; omega
  · show w % 4294967296 / 1 % 256 = w / 1 % 256; omega
/-- the tape at x: T bytes, b -/
def tpI (h : sH) (x : Nat) (b : Int → Int) (T : Int) : Prop := h x 1 = T ∧ (0 ≤ T ∧ T ≤ 200) ∧ (∀ j : Int, 0 ≤ j → j < T → h (x + 1) j = b j ∧ 0 ≤ b j ∧ b j ≤ 255) ∧ ∀ j : Int, T ≤ j → b j = 0
theorem c_X10_addFour {l : Launch} {D : va_G} {aC : Nat → ClassId} {B t sz : Nat} {S : sS} {r : sR} {h : sH} {x : Nat} {v : Int} (hx : LX10 S r x) (t0 : 0 ≤ h x 1) (t1 : h x 1 ≤ 196) : CtV l yX10_addFour cX10_addFour 3 none 0 0 [.ref x, .int (iI v)] D aC B t sz S r h (fun h1 => (∀ a : Nat, a ≠ x → a ≠ x + 1 → h1 a = h a) ∧ h1 x = up (h x) 1 (h x 1 + 4) ∧ (∀ j : Int, 0 ≤ j → j < 4 → h1 (x + 1) (h x 1 + j) = sI v j % 256) ∧ ∀ j : Int, j < h x 1 → h1 (x + 1) j = h (x + 1) j) := by
  unfold CtV
  refine Ct.of (lv := [some (.ref x), some (.int (iI v)), none]) (by decide +kernel) rfl (Nat.le_of_ble_eq_true rfl) (fun X hl q rt hnm => ?_)
  have go : ∀ (k : Nat) (s : Int) (h2 : sH), k < 4 → s = 24 - 8 * k → (∀ a : Nat, a ≠ x → a ≠ x + 1 → h2 a = h a) → h2 x = up (h x) 1 (h x 1 + k) → (∀ j : Int, 0 ≤ j → j < k → h2 (x + 1) (h x 1 + j) = sI v j % 256) → (∀ j : Int, j < h x 1 → h2 (x + 1) j = h (x + 1) j) → (∀ h4 : sH, (∀ a : Nat, a ≠ x → a ≠ x + 1 → h4 a = h a) → h4 x = up (h x) 1 (h x 1 + ((k + 1 : Nat) : Int)) → (∀ j : Int, 0 ≤ j → j < ((k + 1 : Nat) : Int) → h4 (x + 1) (h x 1 + j) = sI v j % 256) → (∀ j : Int, j < h x 1 → h4 (x + 1) j = h (x + 1) j) → G X 0 0 3 [some (.ref x), some (.int (iI v)), some (.int (iI (s + -8)))] [] sz S r h4) → G X 0 0 3 [some (.ref x), some (.int (iI v)), some (.int (iI s))] [] sz S r h2 := by
    intro k s h2 k4 es f1 f2 f3 f4 kk
    have e1 : h2 x 1 = h x 1 + k := by rw [f2, up_s]
    obtain ⟨p, hp1, hp2, hp3⟩ : ∃ p : Nat, (((iI s).toUInt32 &&& Int32.toUInt32 31).toBitVec % 32).toNat = p ∧ (p = 24 ∨ p = 16 ∨ p = 8 ∨ p = 0) ∧ sI v k = v / 2 ^ p := by
      unfold sI
      rcases (show k = 0 ∨ k = 1 ∨ k = 2 ∨ k = 3 by omega) with rfl | rfl | rfl | rfl
      · exact ⟨24, by rw [es]; decide, by omega, rfl⟩
      · exact ⟨16, by rw [es]; decide, by omega, rfl⟩
      · exact ⟨8, by rw [es]; decide, by omega, rfl⟩
      · exact ⟨0, by rw [es]; decide, by omega, by simp⟩
    obtain ⟨z, hz⟩ : ∃ z, (v % 4294967296) / 2 ^ p = z := ⟨_, rfl⟩
    have zb := bAnd (z := z) (w := v) hp2 hz.symm
    refine r_iload_2 (pc := 3) q dX10_addFour_3 ?_
    refine r_if_lt (pc := 4) q 58 dX10_addFour_4 (by decide) ⟨by omega, by omega⟩ (fun c4 => ?_) (fun c4 => ?_)
    · exact absurd c4 (by omega)
    refine r_aload_0 (pc := 7) q dX10_addFour_7 ?_
    refine r_geti (pc := 8) q fX10_15 (kz := 1) rfl (by decide) rfl hx.o dX10_addFour_8 ?_
    rw [e1]
    refine r_if_lt (pc := 11) q 52 dX10_addFour_11 (by decide) ⟨by omega, by omega⟩ (fun c11 => ?_) (fun c11 => ?_)
    · exact absurd c11 (by omega)
    refine r_aload_0 (pc := 14) q dX10_addFour_14 ?_
    refine r_geti (pc := 15) q fX10_15 (kz := 1) rfl (by decide) rfl hx.o dX10_addFour_15 ?_
    rw [e1]
    refine r_aload_0 (pc := 18) q dX10_addFour_18 ?_
    refine r_getr (pc := 19) q fX10_9 (kz := 0) rfl (by decide) rfl hx.o hx.r_bytes dX10_addFour_19 ?_
    refine r_alen20 (pc := 22) q hx.s_bytes dX10_addFour_22 ?_
    refine r_icmp_ge (pc := 23) q 52 dX10_addFour_23 (by decide) ⟨by omega, by omega⟩ ⟨by omega, by omega⟩ (fun c23 => ?_) (fun c23 => ?_)
    · exact absurd c23 (by omega)
    refine r_aload_0 (pc := 26) q dX10_addFour_26 ?_
    refine r_getr (pc := 27) q fX10_9 (kz := 0) rfl (by decide) rfl hx.o hx.r_bytes dX10_addFour_27 ?_
    refine r_aload_0 (pc := 30) q dX10_addFour_30 ?_
    refine r_geti (pc := 31) q fX10_15 (kz := 1) rfl (by decide) rfl hx.o dX10_addFour_31 ?_
    rw [e1]
    refine r_iload_1 (pc := 34) q dX10_addFour_34 ?_
    refine r_iload_2 (pc := 35) q dX10_addFour_35 ?_
    refine r_iushr (pc := 36) (z := z) q dX10_addFour_36 (by rw [← hz]; exact iushr_c hp1) ?_
    refine r_sipush (pc := 37) q dX10_addFour_37 (by decide) ?_
    refine r_iand (pc := 40) (z := z % 256) q dX10_addFour_40 (iI_and255 _) ?_
    refine r_iast (pc := 41) q hx.s_bytes (by omega) (by omega) dX10_addFour_41 (fun h3 eh3 => ?_)
    refine r_aload_0 (pc := 42) q dX10_addFour_42 ?_
    refine r_dup (pc := 43) q dX10_addFour_43 rfl ?_
    refine r_geti (pc := 44) q fX10_15 (kz := 1) rfl (by decide) rfl hx.o dX10_addFour_44 ?_
    have e3 : h3 x 1 = h x 1 + k := by rw [eh3, up_n _ _ (by omega)]; exact e1
    rw [e3]
    refine r_iconst (pc := 47) q dX10_addFour_47 ?_
    refine r_iadd (pc := 48) q dX10_addFour_48 ?_
    refine r_puti (pc := 49) q fX10_15 (kz := 1) rfl (by decide) rfl hx.o dX10_addFour_49 (fun h4 eh4 => ?_)
    refine r_iinc_2 (pc := 52) q dX10_addFour_52 rfl ?_
    refine r_goto (pc := 55) (tgt := 3) q dX10_addFour_55 (by decide) ?_
    have e3x : h3 x = h2 x := by rw [eh3, up_n _ _ (by omega)]
    have e41 : h4 (x + 1) = up (h2 (x + 1)) (h x 1 + k) (z % 256) := by rw [eh4, up_n _ _ (by omega), eh3, up_s]
    refine kk h4 (fun a a0 a1 => by rw [eh4, up_n _ _ a0, eh3, up_n _ _ a1]; exact f1 a a0 a1) ?_ (fun j j0 j1 => ?_) (fun j j0 => ?_)
    · rw [eh4, up_s, e3x, f2, up_uu]
      congr 1
      omega
    · rw [e41]
      by_cases ej : j = k
      · rw [ej, up_s, zb, hp3]
      · rw [up_n _ _ (by omega)]; exact f3 j j0 (by omega)
    · rw [e41, up_n _ _ (by omega)]; exact f4 j j0
  have e0 : h x = up (h x) 1 (h x 1 + ((0 : Nat) : Int)) := by
    rw [show h x 1 + ((0 : Nat) : Int) = h x 1 by omega, up_id]
  refine r_bipush (pc := 0) q dX10_addFour_0 (by decide) ?_
  refine r_istore_2 (pc := 2) q dX10_addFour_2 rfl ?_
  refine go 0 24 h (by omega) rfl (fun _ _ _ => rfl) e0 (fun j j0 j1 => by omega) (fun _ _ => rfl) (fun h4 a1 a2 a3 a4 => ?_)
  refine go 1 _ h4 (by omega) rfl a1 a2 a3 a4 (fun h5 b1 b2 b3 b4 => ?_)
  refine go 2 _ h5 (by omega) rfl b1 b2 b3 b4 (fun h6 c1 c2 c3 c4 => ?_)
  refine go 3 _ h6 (by omega) rfl c1 c2 c3 c4 (fun h7 d1 d2 d3 d4 => ?_)
  refine r_iload_2 (pc := 3) q dX10_addFour_3 ?_
  refine r_if_lt (pc := 4) q 58 dX10_addFour_4 (by decide) ⟨by decide, by decide⟩ (fun _ => ?_) (fun c4 => absurd (by decide) c4)
  refine r_return (pc := 58) q rt dX10_addFour_58 ?_
  exact ⟨d1, d2, d3, d4⟩
theorem c_X10_isBlank {l : Launch} {D : va_G} {aC : Nat → ClassId} {B t sz : Nat} {S : sS} {r : sR} {h : sH} {x : Nat} {i T : Int} {b : Int → Int} (hx : LX10 S r x) (ht : tpI h x b T) (hi : inR i) : CtI l yX10_isBlank cX10_isBlank 2 (some .boolean) 0 0 [.ref x, .int (iI i)] D aC B t sz S r h (fun z h1 => ((z = 1 ∧ 0 ≤ i ∧ i < T ∧ (b i = 32 ∨ b i = 10)) ∨ (z = 0 ∧ ¬ (0 ≤ i ∧ i < T ∧ (b i = 32 ∨ b i = 10)))) ∧ h = h1) := by
  unfold CtI
  refine Ct.of (lv := [some (.ref x), some (.int (iI i))]) (by decide +kernel) rfl (Nat.le_of_ble_eq_true rfl) (fun X hl q rt hnm => ?_)
  obtain ⟨e1, ⟨T0, T1⟩, hb, -⟩ := ht
  obtain ⟨i0, i1⟩ := hi
  refine r_iload_1 (pc := 0) q dX10_isBlank_0 ?_
  refine r_if_lt (pc := 1) q 38 dX10_isBlank_1 (by decide) ⟨by omega, by omega⟩ (fun c1 => ?_) (fun c1 => ?_)
  · refine r_iconst (pc := 38) q dX10_isBlank_38 ?_
    refine r_zreturn (pc := 39) q rt dX10_isBlank_39 (by decide) ?_
    exact ⟨by omega, rfl⟩
  refine r_iload_1 (pc := 4) q dX10_isBlank_4 ?_
  refine r_aload_0 (pc := 5) q dX10_isBlank_5 ?_
  refine r_geti (pc := 6) q fX10_15 (kz := 1) rfl (by decide) rfl hx.o dX10_isBlank_6 ?_
  rw [e1]
  refine r_icmp_ge (pc := 9) q 38 dX10_isBlank_9 (by decide) ⟨by omega, by omega⟩ ⟨by omega, by omega⟩ (fun c9 => ?_) (fun c9 => ?_)
  · refine r_iconst (pc := 38) q dX10_isBlank_38 ?_
    refine r_zreturn (pc := 39) q rt dX10_isBlank_39 (by decide) ?_
    exact ⟨by omega, rfl⟩
  have hbi := hb i (by omega) (by omega)
  refine r_aload_0 (pc := 12) q dX10_isBlank_12 ?_
  refine r_getr (pc := 13) q fX10_9 (kz := 0) rfl (by decide) rfl hx.o hx.r_bytes dX10_isBlank_13 ?_
  refine r_iload_1 (pc := 16) q dX10_isBlank_16 ?_
  refine r_iald (pc := 17) q hx.s_bytes (by omega) (by omega) dX10_isBlank_17 ?_
  rw [hbi.1]
  refine r_bipush (pc := 18) q dX10_isBlank_18 (by decide) ?_
  refine r_icmp_eq (pc := 20) q 34 dX10_isBlank_20 (by decide) ⟨by omega, by omega⟩ ⟨by omega, by omega⟩ (fun c20 => ?_) (fun c20 => ?_)
  · refine r_iconst (pc := 34) q dX10_isBlank_34 ?_
    refine r_goto (pc := 35) (tgt := 39) q dX10_isBlank_35 (by decide) ?_
    refine r_zreturn (pc := 39) q rt dX10_isBlank_39 (by decide) ?_
    exact ⟨by omega, rfl⟩
  refine r_aload_0 (pc := 23) q dX10_isBlank_23 ?_
  refine r_getr (pc := 24) q fX10_9 (kz := 0) rfl (by decide) rfl hx.o hx.r_bytes dX10_isBlank_24 ?_
  refine r_iload_1 (pc := 27) q dX10_isBlank_27 ?_
  refine r_iald (pc := 28) q hx.s_bytes (by omega) (by omega) dX10_isBlank_28 ?_
  rw [hbi.1]
  refine r_bipush (pc := 29) q dX10_isBlank_29 (by decide) ?_
  refine r_icmp_ne (pc := 31) q 38 dX10_isBlank_31 (by decide) ⟨by omega, by omega⟩ ⟨by omega, by omega⟩ (fun c31 => ?_) (fun c31 => ?_)
  · refine r_iconst (pc := 38) q dX10_isBlank_38 ?_
    refine r_zreturn (pc := 39) q rt dX10_isBlank_39 (by decide) ?_
    exact ⟨by omega, rfl⟩
  refine r_iconst (pc := 34) q dX10_isBlank_34 ?_
  refine r_goto (pc := 35) (tgt := 39) q dX10_isBlank_35 (by decide) ?_
  refine r_zreturn (pc := 39) q rt dX10_isBlank_39 (by decide) ?_
  exact ⟨by omega, rfl⟩
theorem c_X10_lettersFrom {l : Launch} {D : va_G} {aC : Nat → ClassId} {B t sz : Nat} {S : sS} {r : sR} {h : sH} {x : Nat} {i T : Int} {b : Int → Int} (hx : LX10 S r x) (ht : tpI h x b T) (i0 : 0 ≤ i) (i1 : i ≤ T) : CtI l yX10_lettersFrom cX10_lettersFrom 3 (some .int) 0 0 [.ref x, .int (iI i)] D aC B t sz S r h (fun z h1 => (isRun (fun k => isL (b k)) i z ∧ i + z ≤ T) ∧ h = h1) := by
  unfold CtI
  refine Ct.of (lv := [some (.ref x), some (.int (iI i)), none]) (by decide +kernel) rfl (Nat.le_of_ble_eq_true rfl) (fun X hl q rt hnm => ?_)
  obtain ⟨e1, ⟨T0, T1⟩, hb, hz⟩ := ht
  have out : ∀ e : Int, i ≤ e → e ≤ T → (∀ j : Int, i ≤ j → j < e → isL (b j)) → ¬ isL (b e) → G X 0 0 42 [some (.ref x), some (.int (iI i)), some (.int (iI e))] [] sz S r h := by
    intro e ei eT ha hn
    refine r_iload_2 (pc := 42) q dX10_lettersFrom_42 ?_
    refine r_iload_1 (pc := 43) q dX10_lettersFrom_43 ?_
    refine r_isub (pc := 44) q dX10_lettersFrom_44 ?_
    refine r_ireturn (pc := 45) q rt dX10_lettersFrom_45 ?_
    exact ⟨⟨⟨by omega, fun j j0 j1 => ha (i + j) (by omega) (by omega), by rw [show i + (e - i) = e by omega]; exact hn⟩, by omega⟩, rfl⟩
  have lp : ∀ (d : Nat) (e : Int), e + d = T → i ≤ e → (∀ j : Int, i ≤ j → j < e → isL (b j)) → G X 0 0 2 [some (.ref x), some (.int (iI i)), some (.int (iI e))] [] sz S r h := by
    intro d
    induction d with
    | zero =>
      intro e he ei ha
      have eb := hz e (by omega)
      refine r_iload_2 (pc := 2) q dX10_lettersFrom_2 ?_
      refine r_if_lt (pc := 3) q 42 dX10_lettersFrom_3 (by decide) ⟨by omega, by omega⟩ (fun c3 => ?_) (fun c3 => ?_)
      · exact absurd c3 (by omega)
      refine r_iload_2 (pc := 6) q dX10_lettersFrom_6 ?_
      refine r_aload_0 (pc := 7) q dX10_lettersFrom_7 ?_
      refine r_geti (pc := 8) q fX10_15 (kz := 1) rfl (by decide) rfl hx.o dX10_lettersFrom_8 ?_
      rw [e1]
      refine r_icmp_ge (pc := 11) q 42 dX10_lettersFrom_11 (by decide) ⟨by omega, by omega⟩ ⟨by omega, by omega⟩ (fun c11 => ?_) (fun c11 => ?_)
      · exact out e ei (by omega) ha (fun z => by unfold isL at z; omega)
      exact absurd (by omega) c11
    | succ d ih =>
      intro e he ei ha
      have eb := hb e (by omega) (by omega)
      refine r_iload_2 (pc := 2) q dX10_lettersFrom_2 ?_
      refine r_if_lt (pc := 3) q 42 dX10_lettersFrom_3 (by decide) ⟨by omega, by omega⟩ (fun c3 => ?_) (fun c3 => ?_)
      · exact absurd c3 (by omega)
      refine r_iload_2 (pc := 6) q dX10_lettersFrom_6 ?_
      refine r_aload_0 (pc := 7) q dX10_lettersFrom_7 ?_
      refine r_geti (pc := 8) q fX10_15 (kz := 1) rfl (by decide) rfl hx.o dX10_lettersFrom_8 ?_
      rw [e1]
      refine r_icmp_ge (pc := 11) q 42 dX10_lettersFrom_11 (by decide) ⟨by omega, by omega⟩ ⟨by omega, by omega⟩ (fun c11 => ?_) (fun c11 => ?_)
      · exact absurd c11 (by omega)
      refine r_aload_0 (pc := 14) q dX10_lettersFrom_14 ?_
      refine r_getr (pc := 15) q fX10_9 (kz := 0) rfl (by decide) rfl hx.o hx.r_bytes dX10_lettersFrom_15 ?_
      refine r_iload_2 (pc := 18) q dX10_lettersFrom_18 ?_
      refine r_iald (pc := 19) q hx.s_bytes (by omega) (by omega) dX10_lettersFrom_19 ?_
      rw [eb.1]
      refine r_bipush (pc := 20) q dX10_lettersFrom_20 (by decide) ?_
      refine r_icmp_lt (pc := 22) q 42 dX10_lettersFrom_22 (by decide) ⟨by omega, by omega⟩ ⟨by omega, by omega⟩ (fun c22 => ?_) (fun c22 => ?_)
      · exact out e ei (by omega) ha (fun z => by unfold isL at z; omega)
      refine r_aload_0 (pc := 25) q dX10_lettersFrom_25 ?_
      refine r_getr (pc := 26) q fX10_9 (kz := 0) rfl (by decide) rfl hx.o hx.r_bytes dX10_lettersFrom_26 ?_
      refine r_iload_2 (pc := 29) q dX10_lettersFrom_29 ?_
      refine r_iald (pc := 30) q hx.s_bytes (by omega) (by omega) dX10_lettersFrom_30 ?_
      rw [eb.1]
      refine r_bipush (pc := 31) q dX10_lettersFrom_31 (by decide) ?_
      refine r_icmp_gt (pc := 33) q 42 dX10_lettersFrom_33 (by decide) ⟨by omega, by omega⟩ ⟨by omega, by omega⟩ (fun c33 => ?_) (fun c33 => ?_)
      · exact out e ei (by omega) ha (fun z => by unfold isL at z; omega)
      refine r_iinc_2 (pc := 36) q dX10_lettersFrom_36 rfl ?_
      refine r_goto (pc := 39) (tgt := 2) q dX10_lettersFrom_39 (by decide) ?_
      refine ih (e + 1) (by omega) (by omega) (fun j j0 j1 => ?_)
      by_cases ej : j = e
      · rw [ej]; unfold isL; omega
      · exact ha j j0 (by omega)
  refine r_iload_1 (pc := 0) q dX10_lettersFrom_0 ?_
  refine r_istore_2 (pc := 1) q dX10_lettersFrom_1 rfl ?_
  exact lp (T - i).toNat i (by omega) (by omega) (fun j j0 j1 => by omega)
theorem c_X10_signOf {l : Launch} {D : va_G} {aC : Nat → ClassId} {B t sz : Nat} {S : sS} {r : sR} {h : sH} {c : Int} (h1 : inR c) : CtI l yX10_signOf cX10_signOf 1 (some .int) 0 0 [.int (iI c)] D aC B t sz S r h (fun z h1 => signC c = z ∧ h = h1) := by
  unfold CtI
  refine Ct.of (lv := [some (.int (iI c))]) (by decide +kernel) rfl (Nat.le_of_ble_eq_true rfl) (fun X hl q rt hnm => ?_)
  obtain ⟨c0, c2⟩ := h1
  refine r_iload_0 (pc := 0) q dX10_signOf_0 ?_
  rcases (show c = 73 ∨ c = 76 ∨ c = 86 ∨ c = 88 ∨ (c ≠ 73 ∧ c ≠ 76 ∧ c ≠ 86 ∧ c ≠ 88) by omega) with c1 | c1 | c1 | c1 | c1
  · refine r_topi c1 ?_
    refine r_lsw (pc := 1) q 44 dX10_signOf_1 (by decide) ⟨by decide, by decide⟩ rfl (by decide) ?_
    refine r_iconst (pc := 44) q dX10_signOf_44 ?_
    refine r_ireturn (pc := 45) q rt dX10_signOf_45 ?_
    exact ⟨by rw [c1]; rfl, rfl⟩
  · refine r_topi c1 ?_
    refine r_lsw (pc := 1) q 50 dX10_signOf_1 (by decide) ⟨by decide, by decide⟩ rfl (by decide) ?_
    refine r_iconst (pc := 50) q dX10_signOf_50 ?_
    refine r_ireturn (pc := 51) q rt dX10_signOf_51 ?_
    exact ⟨by rw [c1]; rfl, rfl⟩
  · refine r_topi c1 ?_
    refine r_lsw (pc := 1) q 46 dX10_signOf_1 (by decide) ⟨by decide, by decide⟩ rfl (by decide) ?_
    refine r_iconst (pc := 46) q dX10_signOf_46 ?_
    refine r_ireturn (pc := 47) q rt dX10_signOf_47 ?_
    exact ⟨by rw [c1]; rfl, rfl⟩
  · refine r_topi c1 ?_
    refine r_lsw (pc := 1) q 48 dX10_signOf_1 (by decide) ⟨by decide, by decide⟩ rfl (by decide) ?_
    refine r_iconst (pc := 48) q dX10_signOf_48 ?_
    refine r_ireturn (pc := 49) q rt dX10_signOf_49 ?_
    exact ⟨by rw [c1]; rfl, rfl⟩
  refine r_lsw (pc := 1) (off := 51) q 52 dX10_signOf_1 (by decide) ⟨by omega, by omega⟩ (by simp [Op.lookupswitch.offset, c1, Ne.symm c1.1, Ne.symm c1.2.1, Ne.symm c1.2.2.1, Ne.symm c1.2.2.2]) (by decide) ?_
  refine r_iconst (pc := 52) q dX10_signOf_52 ?_
  refine r_ireturn (pc := 53) q rt dX10_signOf_53 ?_
  exact ⟨by unfold signC; rw [if_neg (by omega), if_neg (by omega), if_neg (by omega), if_neg (by omega)], rfl⟩
theorem c_X10_signsFrom {l : Launch} {D : va_G} {aC : Nat → ClassId} {B t sz : Nat} {S : sS} {r : sR} {h : sH} {x : Nat} {i T : Int} {b : Int → Int} (hx : LX10 S r x) (ht : tpI h x b T) (i0 : 0 ≤ i) (i1 : i ≤ T) : CtI l yX10_signsFrom cX10_signsFrom 3 (some .int) 1 20 [.ref x, .int (iI i)] D aC B t sz S r h (fun z h1 => (isRun (fun k => signC (b k) ≠ 0) i z ∧ i + z ≤ T) ∧ h = h1) := by
  unfold CtI
  refine Ct.of (lv := [some (.ref x), some (.int (iI i)), none]) (by decide +kernel) rfl (Nat.le_of_ble_eq_true rfl) (fun X hl q rt hnm => ?_)
  obtain ⟨e1, ⟨T0, T1⟩, hb, hz⟩ := ht
  have out : ∀ e : Int, i ≤ e → e ≤ T → (∀ j : Int, i ≤ j → j < e → signC (b j) ≠ 0) → signC (b e) = 0 → G X 0 0 32 [some (.ref x), some (.int (iI i)), some (.int (iI e))] [] sz S r h := by
    intro e ei eT ha hn
    refine r_iload_2 (pc := 32) q dX10_signsFrom_32 ?_
    refine r_iload_1 (pc := 33) q dX10_signsFrom_33 ?_
    refine r_isub (pc := 34) q dX10_signsFrom_34 ?_
    refine r_ireturn (pc := 35) q rt dX10_signsFrom_35 ?_
    exact ⟨⟨⟨by omega, fun j j0 j1 => ha (i + j) (by omega) (by omega), by rw [show i + (e - i) = e by omega]; exact fun z => z hn⟩, by omega⟩, rfl⟩
  have lp : ∀ (d : Nat) (e : Int), e + d = T → i ≤ e → (∀ j : Int, i ≤ j → j < e → signC (b j) ≠ 0) → G X 0 0 2 [some (.ref x), some (.int (iI i)), some (.int (iI e))] [] sz S r h := by
    intro d
    induction d with
    | zero =>
      intro e he ei ha
      have eb := hz e (by omega)
      refine r_iload_2 (pc := 2) q dX10_signsFrom_2 ?_
      refine r_if_lt (pc := 3) q 32 dX10_signsFrom_3 (by decide) ⟨by omega, by omega⟩ (fun c3 => ?_) (fun c3 => ?_)
      · exact absurd c3 (by omega)
      refine r_iload_2 (pc := 6) q dX10_signsFrom_6 ?_
      refine r_aload_0 (pc := 7) q dX10_signsFrom_7 ?_
      refine r_geti (pc := 8) q fX10_15 (kz := 1) rfl (by decide) rfl hx.o dX10_signsFrom_8 ?_
      rw [e1]
      refine r_icmp_ge (pc := 11) q 32 dX10_signsFrom_11 (by decide) ⟨by omega, by omega⟩ ⟨by omega, by omega⟩ (fun c11 => ?_) (fun c11 => ?_)
      · exact out e ei (by omega) ha (by rw [eb]; decide)
      exact absurd (by omega) c11
    | succ d ih =>
      intro e he ei ha
      have eb := hb e (by omega) (by omega)
      have sb := signC_in (b e)
      refine r_iload_2 (pc := 2) q dX10_signsFrom_2 ?_
      refine r_if_lt (pc := 3) q 32 dX10_signsFrom_3 (by decide) ⟨by omega, by omega⟩ (fun c3 => ?_) (fun c3 => ?_)
      · exact absurd c3 (by omega)
      refine r_iload_2 (pc := 6) q dX10_signsFrom_6 ?_
      refine r_aload_0 (pc := 7) q dX10_signsFrom_7 ?_
      refine r_geti (pc := 8) q fX10_15 (kz := 1) rfl (by decide) rfl hx.o dX10_signsFrom_8 ?_
      rw [e1]
      refine r_icmp_ge (pc := 11) q 32 dX10_signsFrom_11 (by decide) ⟨by omega, by omega⟩ ⟨by omega, by omega⟩ (fun c11 => ?_) (fun c11 => ?_)
      · exact absurd c11 (by omega)
      refine r_aload_0 (pc := 14) q dX10_signsFrom_14 ?_
      refine r_getr (pc := 15) q fX10_9 (kz := 0) rfl (by decide) rfl hx.o hx.r_bytes dX10_signsFrom_15 ?_
      refine r_iload_2 (pc := 18) q dX10_signsFrom_18 ?_
      refine r_iald (pc := 19) q hx.s_bytes (by omega) (by omega) dX10_signsFrom_19 ?_
      rw [eb.1]
      refine r_sI1 (pc := 20) q (c_X10_signOf (by first | assumption | exact ⟨by omega, by omega⟩ | omega)) mX10_23 (by decide) (Nat.le_of_ble_eq_true rfl) rfl dX10_signsFrom_20 (fun z1 h1 hz1 => ?_)
      obtain ⟨rfl, rfl⟩ := hz1
      refine r_if_eq (pc := 23) q 32 dX10_signsFrom_23 (by decide) ⟨by omega, by omega⟩ (fun c23 => ?_) (fun c23 => ?_)
      · exact out e ei (by omega) ha c23
      refine r_iinc_2 (pc := 26) q dX10_signsFrom_26 rfl ?_
      refine r_goto (pc := 29) (tgt := 2) q dX10_signsFrom_29 (by decide) ?_
      refine ih (e + 1) (by omega) (by omega) (fun j j0 j1 => ?_)
      by_cases ej : j = e
      · rw [ej]; exact c23
      · exact ha j j0 (by omega)
  refine r_iload_1 (pc := 0) q dX10_signsFrom_0 ?_
  refine r_istore_2 (pc := 1) q dX10_signsFrom_1 rfl ?_
  exact lp (T - i).toNat i (by omega) (by omega) (fun j j0 j1 => by omega)
theorem c_X10_isName {l : Launch} {D : va_G} {aC : Nat → ClassId} {B t sz : Nat} {S : sS} {r : sR} {h : sH} {x : Nat} {T : Int} {b : Int → Int} (hx : LX10 S r x) (ht : tpI h x b T) : CtI l yX10_isName cX10_isName 1 (some .boolean) 1 22 [.ref x] D aC B t sz S r h (fun z h1 => ((z = 1 ∧ isNm b 0 T) ∨ (z = 0 ∧ ¬ isNm b 0 T)) ∧ h = h1) := by
  unfold CtI
  refine Ct.of (lv := [some (.ref x)]) (by decide +kernel) rfl (Nat.le_of_ble_eq_true rfl) (fun X hl q rt hnm => ?_)
  obtain ⟨e1, ⟨T0, T1⟩, hb, hz⟩ := id ht
  refine r_aload_0 (pc := 0) q dX10_isName_0 ?_
  refine r_geti (pc := 1) q fX10_15 (kz := 1) rfl (by decide) rfl hx.o dX10_isName_1 ?_
  rw [e1]
  refine r_iconst (pc := 4) q dX10_isName_4 ?_
  refine r_icmp_lt (pc := 5) q 33 dX10_isName_5 (by decide) ⟨by omega, by omega⟩ ⟨by omega, by omega⟩ (fun c5 => ?_) (fun c5 => ?_)
  · refine r_iconst (pc := 33) q dX10_isName_33 ?_
    refine r_zreturn (pc := 34) q rt dX10_isName_34 (by decide) ?_
    exact ⟨Or.inr ⟨rfl, fun z => by have := z.1; omega⟩, rfl⟩
  refine r_aload_0 (pc := 8) q dX10_isName_8 ?_
  refine r_geti (pc := 9) q fX10_15 (kz := 1) rfl (by decide) rfl hx.o dX10_isName_9 ?_
  rw [e1]
  refine r_bipush (pc := 12) q dX10_isName_12 (by decide) ?_
  refine r_icmp_gt (pc := 14) q 33 dX10_isName_14 (by decide) ⟨by omega, by omega⟩ ⟨by omega, by omega⟩ (fun c14 => ?_) (fun c14 => ?_)
  · refine r_iconst (pc := 33) q dX10_isName_33 ?_
    refine r_zreturn (pc := 34) q rt dX10_isName_34 (by decide) ?_
    exact ⟨Or.inr ⟨rfl, fun z => by have := z.2.1; omega⟩, rfl⟩
  refine r_aload_0 (pc := 17) q dX10_isName_17 ?_
  refine r_iconst (pc := 18) q dX10_isName_18 ?_
  refine r_cI1 (pc := 19) q (c_X10_lettersFrom hx ht (by omega) (by omega)) mX10_19 hx.o (by decide) (Nat.le_of_ble_eq_true rfl) rfl dX10_isName_19 (fun z2 h2 hz2 => ?_)
  obtain ⟨hz2, rfl⟩ := hz2
  refine r_aload_0 (pc := 22) q dX10_isName_22 ?_
  refine r_geti (pc := 23) q fX10_15 (kz := 1) rfl (by decide) rfl hx.o dX10_isName_23 ?_
  rw [e1]
  have z0 := hz2.1.1
  refine r_icmp_ne (pc := 26) q 33 dX10_isName_26 (by decide) ⟨by omega, by omega⟩ ⟨by omega, by omega⟩ (fun c26 => ?_) (fun c26 => ?_)
  · refine r_iconst (pc := 33) q dX10_isName_33 ?_
    refine r_zreturn (pc := 34) q rt dX10_isName_34 (by decide) ?_
    refine ⟨Or.inr ⟨rfl, fun z => ?_⟩, rfl⟩
    refine hz2.1.2.2 (z.2.2 (0 + z2) (by omega) (by omega))
  refine r_iconst (pc := 29) q dX10_isName_29 ?_
  refine r_goto (pc := 30) (tgt := 34) q dX10_isName_30 (by decide) ?_
  refine r_zreturn (pc := 34) q rt dX10_isName_34 (by decide) ?_
  refine ⟨Or.inl ⟨rfl, by omega, by omega, fun k k0 k1 => ?_⟩, rfl⟩
  have := hz2.1.2.1 k k0 (by omega)
  rw [Int.zero_add] at this
  exact this
