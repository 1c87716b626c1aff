def soF (so : Int → Int) (a b j : Int) : Int → Int := fun k => if 0 ≤ k ∧ k < j ∧ so k = so b then so a else so k
theorem soF_n {so : Int → Int} {a b j k : Int} (e : j ≤ k) : soF so a b j k = so k := by unfold soF; rw [if_neg (by omega)]
theorem soF_a {so : Int → Int} {a b j : Int} (e : so a ≠ so b) : soF so a b j a = so a := by unfold soF; rw [if_neg (fun q => e q.2.2)]
theorem soF_y {so : Int → Int} {a b j : Int} (j0 : 0 ≤ j) (e : so j = so b) : up (soF so a b j) j (so a) = soF so a b (j + 1) := by
  funext k
  unfold up soF
  by_cases hk : k = j
  · subst hk; rw [if_pos rfl, if_pos ⟨j0, by omega, e⟩]
  · rw [if_neg hk]
    by_cases q : 0 ≤ k ∧ k < j ∧ so k = so b
    · rw [if_pos q, if_pos ⟨q.1, by omega, q.2.2⟩]
    · rw [if_neg q, if_neg (fun z => q ⟨z.1, by omega, z.2.2⟩)]
theorem soF_x {so : Int → Int} {a b j : Int} (e : ¬ so j = so b) : soF so a b j = soF so a b (j + 1) := by
  funext k
  unfold soF
  by_cases q : 0 ≤ k ∧ k < j ∧ so k = so b
  · rw [if_pos q, if_pos ⟨q.1, by omega, q.2.2⟩]
  · rw [if_neg q, if_neg (fun z => by
      by_cases hk : k = j
      · rw [hk] at z; exact e z.2.2
      · exact q ⟨z.1, by omega, z.2.2⟩)]
theorem up_up {α β : Type} [DecidableEq α] (f : α → β) (a : α) (b c : β) : up (up f a b) a c = up f a c := by
  funext x; unfold up; split <;> rfl
theorem c_X12_sound {l : Launch} {D : va_G} {aC : Nat → ClassId} {B t sz : Nat} {S : sS} {r : sR} {h : sH} {m : Nat} {a b : Int} (hM : LX12 S r m) (hs : soR (h (m + 2))) (ha : inR a) (hb : inR b) : CtI l yX12_sound cX12_sound 5 (some .boolean) 1 22 [.ref m, .int (iI a), .int (iI b)] D aC B t sz S r h (fun z h1 => ((0 ≤ a ∧ a ≤ 25 ∧ 0 ≤ b ∧ b ≤ 25 ∧ h (m + 2) a ≠ h (m + 2) b) ∧ z = 1 ∧ h1 = up (pf h m 0 0) (m + 2) (soF (h (m + 2)) a b 26)) ∨ (¬ (0 ≤ a ∧ a ≤ 25 ∧ 0 ≤ b ∧ b ≤ 25 ∧ h (m + 2) a ≠ h (m + 2) b) ∧ z = 0 ∧ h1 = pf h m 0 0)) := by
  unfold CtI
  refine Ct.of (lv := [some (.ref m), some (.int (iI a)), some (.int (iI b)), none, none]) (by decide +kernel) rfl (Nat.le_of_ble_eq_true rfl) (fun X hl q rt hnm => ?_)
  have lp : ∀ (h0 : sH), h0 = pf h m 0 0 → (0 ≤ a ∧ a ≤ 25 ∧ 0 ≤ b ∧ b ≤ 25 ∧ h (m + 2) a ≠ h (m + 2) b) → ∀ (d j : Nat), (j : Int) + d = 26 → G X 0 0 52 [some (.ref m), some (.int (iI a)), some (.int (iI b)), some (.int (iI (h (m + 2) b))), some (.int (iI j))] [] sz S r (up h0 (m + 2) (soF (h (m + 2)) a b j)) := by
    intro h0 eh0 hy
    obtain ⟨y0, y1, y2, y3, y4⟩ := id hy
    have sb := hs b y2 (by omega)
    have sa := hs a y0 (by omega)
    intro d
    induction d with
    | zero =>
      intro j hj
      obtain rfl : j = 26 := by omega
      refine r_iload_4 (pc := 52) q dX12_sound_52 ?_
      refine r_bipush (pc := 54) q dX12_sound_54 (by decide) ?_
      refine r_icmp_ge (pc := 56) q 89 dX12_sound_56 (by decide) ⟨by omega, by omega⟩ ⟨by omega, by omega⟩ (fun c56 => ?_) (fun c56 => ?_)
      · refine r_iconst (pc := 89) q dX12_sound_89 ?_
        refine r_zreturn (pc := 90) q rt dX12_sound_90 (by decide) ?_
        exact Or.inl ⟨hy, rfl, by rw [eh0]; rfl⟩
      exact absurd (show (26 : Int) ≤ ((26 : Nat) : Int) by omega) c56
    | succ d ih =>
      intro j hj
      have sj := hs j (by omega) (by omega)
      generalize eh2 : up h0 (m + 2) (soF (h (m + 2)) a b j) = h2
      have e2 : h2 (m + 2) = soF (h (m + 2)) a b j := by rw [← eh2]; exact up_s _ _ _
      have e3 : h2 (m + 2) j = h (m + 2) j := by rw [e2]; exact soF_n (Int.le_refl _)
      have e4 : h2 (m + 2) a = h (m + 2) a := by rw [e2]; exact soF_a y4
      refine r_iload_4 (pc := 52) q dX12_sound_52 ?_
      refine r_bipush (pc := 54) q dX12_sound_54 (by decide) ?_
      refine r_icmp_ge (pc := 56) q 89 dX12_sound_56 (by decide) ⟨by omega, by omega⟩ ⟨by omega, by omega⟩ (fun c56 => ?_) (fun c56 => ?_)
      · exact absurd c56 (by omega)
      refine r_aload_0 (pc := 59) q dX12_sound_59 ?_
      refine r_getr (pc := 60) q fX12_13 (kz := 3) rfl (by decide) rfl hM.o hM.r_sound dX12_sound_60 ?_
      refine r_iload_4 (pc := 63) q dX12_sound_63 ?_
      refine r_iald (pc := 65) q hM.s_sound (by omega) (by omega) dX12_sound_65 ?_
      refine r_iload_3 (pc := 66) q dX12_sound_66 ?_
      refine r_icmp_ne (pc := 67) q 83 dX12_sound_67 (by decide) ⟨by omega, by omega⟩ ⟨by omega, by omega⟩ (fun c67 => ?_) (fun c67 => ?_)
      · refine r_iinc_4 (pc := 83) q dX12_sound_83 rfl ?_
        refine r_goto (pc := 86) (tgt := 52) q dX12_sound_86 (by decide) ?_
        rw [e3] at c67
        rw [← eh2, soF_x c67]
        exact ih (j + 1) (by omega)
      refine r_aload_0 (pc := 70) q dX12_sound_70 ?_
      refine r_getr (pc := 71) q fX12_13 (kz := 3) rfl (by decide) rfl hM.o hM.r_sound dX12_sound_71 ?_
      refine r_iload_4 (pc := 74) q dX12_sound_74 ?_
      refine r_aload_0 (pc := 76) q dX12_sound_76 ?_
      refine r_getr (pc := 77) q fX12_13 (kz := 3) rfl (by decide) rfl hM.o hM.r_sound dX12_sound_77 ?_
      refine r_iload_1 (pc := 80) q dX12_sound_80 ?_
      refine r_iald (pc := 81) q hM.s_sound (by omega) (by omega) dX12_sound_81 ?_
      refine r_iast (pc := 82) q hM.s_sound (by omega) (by omega) dX12_sound_82 (fun h3 eh3 => ?_)
      refine r_iinc_4 (pc := 83) q dX12_sound_83 rfl ?_
      refine r_goto (pc := 86) (tgt := 52) q dX12_sound_86 (by decide) ?_
      rw [e3] at c67
      rw [e4, e2, soF_y (by omega) c67, ← eh2, up_up] at eh3
      rw [eh3]
      exact ih (j + 1) (by omega)
  refine r_aload_0 (pc := 0) q dX12_sound_0 ?_
  refine r_iconst (pc := 1) q dX12_sound_1 ?_
  refine r_puti (pc := 2) q fX12_106 (kz := 0) rfl (by decide) rfl hM.o dX12_sound_2 (fun h0 eh0 => ?_)
  obtain ⟨f0, f1⟩ := th0 eh0
  have f2 := f0 (m + 2) (by omega)
  refine r_iload_1 (pc := 5) q dX12_sound_5 ?_
  refine r_iconst (pc := 6) q dX12_sound_6 ?_
  refine r_bipush (pc := 7) q dX12_sound_7 (by decide) ?_
  refine r_sI3 (pc := 9) q (c_X12_within (by first | assumption | exact ⟨by omega, by omega⟩ | omega) (by first | assumption | exact ⟨by omega, by omega⟩ | omega) (by first | assumption | exact ⟨by omega, by omega⟩ | omega)) mX12_112 (by decide) (Nat.le_of_ble_eq_true rfl) rfl dX12_sound_9 (fun z1 h1 hz1 => ?_)
  obtain ⟨hz1, rfl⟩ := hz1
  refine r_if_eq (pc := 12) q 40 dX12_sound_12 (by decide) ⟨by omega, by omega⟩ (fun c12 => ?_) (fun c12 => ?_)
  · refine r_iconst (pc := 40) q dX12_sound_40 ?_
    refine r_zreturn (pc := 41) q rt dX12_sound_41 (by decide) ?_
    exact Or.inr ⟨by omega, rfl, eh0⟩
  refine r_iload_2 (pc := 15) q dX12_sound_15 ?_
  refine r_iconst (pc := 16) q dX12_sound_16 ?_
  refine r_bipush (pc := 17) q dX12_sound_17 (by decide) ?_
  refine r_sI3 (pc := 19) q (c_X12_within (by first | assumption | exact ⟨by omega, by omega⟩ | omega) (by first | assumption | exact ⟨by omega, by omega⟩ | omega) (by first | assumption | exact ⟨by omega, by omega⟩ | omega)) mX12_112 (by decide) (Nat.le_of_ble_eq_true rfl) rfl dX12_sound_19 (fun z2 h2 hz2 => ?_)
  obtain ⟨hz2, rfl⟩ := hz2
  refine r_if_eq (pc := 22) q 40 dX12_sound_22 (by decide) ⟨by omega, by omega⟩ (fun c22 => ?_) (fun c22 => ?_)
  · refine r_iconst (pc := 40) q dX12_sound_40 ?_
    refine r_zreturn (pc := 41) q rt dX12_sound_41 (by decide) ?_
    exact Or.inr ⟨by omega, rfl, eh0⟩
  have sb := hs b (by omega) (by omega)
  have sa := hs a (by omega) (by omega)
  refine r_aload_0 (pc := 25) q dX12_sound_25 ?_
  refine r_getr (pc := 26) q fX12_13 (kz := 3) rfl (by decide) rfl hM.o hM.r_sound dX12_sound_26 ?_
  refine r_iload_1 (pc := 29) q dX12_sound_29 ?_
  refine r_iald (pc := 30) q hM.s_sound (by omega) (by omega) dX12_sound_30 ?_
  rw [f2]
  refine r_aload_0 (pc := 31) q dX12_sound_31 ?_
  refine r_getr (pc := 32) q fX12_13 (kz := 3) rfl (by decide) rfl hM.o hM.r_sound dX12_sound_32 ?_
  refine r_iload_2 (pc := 35) q dX12_sound_35 ?_
  refine r_iald (pc := 36) q hM.s_sound (by omega) (by omega) dX12_sound_36 ?_
  rw [f2]
  refine r_icmp_ne (pc := 37) q 42 dX12_sound_37 (by decide) ⟨by omega, by omega⟩ ⟨by omega, by omega⟩ (fun c37 => ?_) (fun c37 => ?_)
  · refine r_aload_0 (pc := 42) q dX12_sound_42 ?_
    refine r_getr (pc := 43) q fX12_13 (kz := 3) rfl (by decide) rfl hM.o hM.r_sound dX12_sound_43 ?_
    refine r_iload_2 (pc := 46) q dX12_sound_46 ?_
    refine r_iald (pc := 47) q hM.s_sound (by omega) (by omega) dX12_sound_47 ?_
    rw [f2]
    refine r_istore_3 (pc := 48) q dX12_sound_48 rfl ?_
    refine r_iconst (pc := 49) q dX12_sound_49 ?_
    refine r_istore_4 (pc := 50) q dX12_sound_50 rfl ?_
    have := lp h0 eh0 ⟨by omega, by omega, by omega, by omega, c37⟩ 26 0 (by omega)
    have e0 : up h0 (m + 2) (soF (h (m + 2)) a b ((0 : Nat) : Int)) = h0 := by
      have : soF (h (m + 2)) a b ((0 : Nat) : Int) = h0 (m + 2) := by
        rw [f2]; funext k; unfold soF; rw [if_neg (by omega)]
      rw [this]; funext x; unfold up; split
      · rename_i e; rw [e]
      · rfl
    rw [e0] at this
    exact this
  refine r_iconst (pc := 40) q dX12_sound_40 ?_
  refine r_zreturn (pc := 41) q rt dX12_sound_41 (by decide) ?_
  exact Or.inr ⟨fun e => e.2.2.2.2 c37, rfl, eh0⟩
/-- byte k of the five numbers, of each the highest first -/
def wsel (a b c d e k : Int) : Int := if k < 4 then a else if k < 8 then b else if k < 12 then c else if k < 16 then d else e
def sI (w k : Int) : Int := if k % 4 = 0 then w / 16777216 else if k % 4 = 1 then w / 65536 else if k % 4 = 2 then w / 256 else w
theorem ishr_c {w s : Int} {p : Nat} (hw : inR w) (hs : ((iI s &&& 31).toBitVec.smod 32).toNat = p) : iI w >>> (iI s &&& 31) = iI (w / 2 ^ p) := by
  apply Int32.toInt_inj.mp
  rw [pk_shr _ _ p hs, iI_toInt hw, Int.shiftRight_eq_div_pow, iI_toInt]
  · simp
  · have h0 : (0 : Int) < 2 ^ p := Int.pow_pos (by decide)
    have a := hw.1
    have b := hw.2
    constructor
    · rw [Int.le_ediv_iff_mul_le h0]
      have : (1 : Int) ≤ 2 ^ p := h0
      have : (-2147483648 : Int) * 2 ^ p ≤ -2147483648 * 1 := Int.mul_le_mul_of_nonpos_left (by decide) this
      omega
    · by_cases q : 0 ≤ w
      · exact Int.le_trans (Int.ediv_le_self _ q) b
      · have := Int.ediv_neg_of_neg_of_pos (by omega : w < 0) h0
        omega
theorem shr_k {w k : Int} (hw : inR w) (k0 : 0 ≤ k) : iI w >>> (iI (24 - 8 * (k % 4)) &&& 31) = iI (sI w k) := by
  unfold sI
  rcases (show k % 4 = 0 ∨ k % 4 = 1 ∨ k % 4 = 2 ∨ k % 4 = 3 by omega) with e | e | e | e
  · rw [e, if_pos rfl, ishr_c (p := 24) hw (by decide)]; rfl
  · rw [e, if_neg (by decide), if_pos rfl, ishr_c (p := 16) hw (by decide)]; rfl
  · rw [e, if_neg (by decide), if_neg (by decide), if_pos rfl, ishr_c (p := 8) hw (by decide)]; rfl
  · rw [e, if_neg (by decide), if_neg (by decide), if_neg (by decide), ishr_c (p := 0) hw (by decide)]; simp
theorem i2b_b (x : Int) : (iI x).toInt8.toInt32 = iI (Int.bmod x 256) := by
  apply Int32.toInt_inj.mp
  have b1 := Int.le_bmod (x := x) (m := 256) (by decide)
  have b2 := Int.bmod_lt (x := x) (m := 256) (by decide)
  have e9 : (iI (Int.bmod x 256)).toInt = Int.bmod x 256 := iI_toInt ⟨by omega, by omega⟩
  rw [Int8.toInt_toInt32, Int32.toInt_toInt8, e9]
  show ((Int32.ofInt x).toInt).bmod (2 ^ 8) = _
  rw [Int32.toInt_ofInt]
  exact Int.bmod_bmod_of_dvd (by decide)
theorem c_X12_feed {l : Launch} {D : va_G} {aC : Nat → ClassId} {B t sz : Nat} {S : sS} {r : sR} {h : sH} {m : Nat} {a b c d e : Int} (hM : LX12 S r m) (t0 : 0 ≤ h m 2) (t1 : h m 2 ≤ 200) (ha : inR a) (hb : inR b) (hc : inR c) (hd : inR d) (he : inR e) : CtI l yX12_feed cX12_feed 8 (some .int) 0 0 [.ref m, .int (iI a), .int (iI b), .int (iI c), .int (iI d), .int (iI e)] D aC B t sz S r h (fun z h1 => (180 < h m 2 ∧ z = -1 ∧ h1 = pf h m 0 0) ∨ (h m 2 ≤ 180 ∧ z = h m 2 + 20 ∧ h1 m = up (up (h m) 0 0) 2 (h m 2 + 20) ∧ (∀ j : Int, 0 ≤ j → j < 20 → h1 (m + 1) (h m 2 + j) % 256 = sI (wsel a b c d e j) j % 256) ∧ (∀ j : Int, j < h m 2 → h1 (m + 1) j = h (m + 1) j) ∧ ∀ x : Nat, x ≠ m → x ≠ m + 1 → h1 x = h x)) := by
  unfold CtI
  refine Ct.of (lv := [some (.ref m), some (.int (iI a)), some (.int (iI b)), some (.int (iI c)), some (.int (iI d)), some (.int (iI e)), none, none]) (by decide +kernel) rfl (Nat.le_of_ble_eq_true rfl) (fun X hl q rt hnm => ?_)
  have lp : h m 2 ≤ 180 → ∀ (n k : Nat), (k : Int) + n = 20 → ∀ (o : Option Value) (h2 : sH), h2 m = up (up (h m) 0 0) 2 (h m 2 + k) → (∀ j : Int, 0 ≤ j → j < k → h2 (m + 1) (h m 2 + j) % 256 = sI (wsel a b c d e j) j % 256) → (∀ j : Int, j < h m 2 → h2 (m + 1) j = h (m + 1) j) → (∀ x : Nat, x ≠ m → x ≠ m + 1 → h2 x = h x) → G X 0 0 20 [some (.ref m), some (.int (iI a)), some (.int (iI b)), some (.int (iI c)), some (.int (iI d)), some (.int (iI e)), some (.int (iI k)), o] [] sz S r h2 := by
    intro t8 n
    induction n with
    | zero =>
      intro k hk o h2 i1 i2 i3 i4
      obtain rfl : k = 20 := by omega
      have e2 : h2 m 2 = h m 2 + 20 := by rw [i1]; simp [up]
      refine r_iload_6 (pc := 20) q dX12_feed_20 ?_
      refine r_bipush (pc := 22) q dX12_feed_22 (by decide) ?_
      refine r_icmp_ge (pc := 24) q 114 dX12_feed_24 (by decide) ⟨by omega, by omega⟩ ⟨by omega, by omega⟩ (fun c24 => ?_) (fun c24 => ?_)
      · refine r_aload_0 (pc := 114) q dX12_feed_114 ?_
        refine r_geti (pc := 115) q fX12_109 (kz := 2) rfl (by decide) rfl hM.o dX12_feed_115 ?_
        refine r_ireturn (pc := 118) q rt dX12_feed_118 ?_
        exact Or.inr ⟨t8, e2, i1, i2, i3, i4⟩
      exact absurd (show (20 : Int) ≤ ((20 : Nat) : Int) by omega) c24
    | succ n ih =>
      intro k hk o h2 i1 i2 i3 i4
      have e2 : h2 m 2 = h m 2 + k := by rw [i1]; simp [up]
      have j73 : ∀ w : Int, inR w → w = wsel a b c d e k → G X 0 0 73 [some (.ref m), some (.int (iI a)), some (.int (iI b)), some (.int (iI c)), some (.int (iI d)), some (.int (iI e)), some (.int (iI k)), o] [.int (iI w)] sz S r h2 := by
        intro w hw ew
        have b1 := Int.le_bmod (x := sI w k) (m := 256) (by decide)
        have b2 := Int.bmod_lt (x := sI w k) (m := 256) (by decide)
        have b3 : Int.bmod (sI w k) 256 % 256 = sI w k % 256 := Int.bmod_emod
        refine r_istore_7 (pc := 73) q dX12_feed_73 rfl ?_
        refine r_aload_0 (pc := 75) q dX12_feed_75 ?_
        refine r_getr (pc := 76) q fX12_7 (kz := 1) rfl (by decide) rfl hM.o hM.r_tape dX12_feed_76 ?_
        refine r_aload_0 (pc := 79) q dX12_feed_79 ?_
        refine r_geti (pc := 80) q fX12_109 (kz := 2) rfl (by decide) rfl hM.o dX12_feed_80 ?_
        refine r_iload_7 (pc := 83) q dX12_feed_83 ?_
        refine r_bipush (pc := 85) q dX12_feed_85 (by decide) ?_
        refine r_bipush (pc := 87) q dX12_feed_87 (by decide) ?_
        refine r_iload_6 (pc := 89) q dX12_feed_89 ?_
        refine r_iconst (pc := 91) q dX12_feed_91 ?_
        refine r_irem (pc := 92) q dX12_feed_92 ⟨by omega, by omega⟩ (by omega) (by omega) (by omega) ?_
        refine r_imul (pc := 93) q dX12_feed_93 ?_
        refine r_isub (pc := 94) q dX12_feed_94 ?_
        refine r_ishr (pc := 95) (z := sI w k) q dX12_feed_95 (shr_k hw (by omega)) ?_
        refine r_i2b (pc := 96) (z := Int.bmod (sI w k) 256) q dX12_feed_96 (i2b_b _) ?_
        refine r_bast (pc := 97) q hM.s_tape (by omega) (by omega) (by omega) (by omega) dX12_feed_97 (fun h3 eh3 => ?_)
        have g2 : h3 m = h2 m := by rw [eh3]; exact pf_o _ _ _ (by omega)
        have g2b : h3 m 2 = h m 2 + k := by rw [g2]; exact e2
        refine r_aload_0 (pc := 98) q dX12_feed_98 ?_
        refine r_dup (pc := 99) q dX12_feed_99 rfl ?_
        refine r_geti (pc := 100) q fX12_109 (kz := 2) rfl (by decide) rfl hM.o dX12_feed_100 ?_
        refine r_iconst (pc := 103) q dX12_feed_103 ?_
        refine r_iadd (pc := 104) q dX12_feed_104 ?_
        refine r_puti (pc := 105) q fX12_109 (kz := 2) rfl (by decide) rfl hM.o dX12_feed_105 (fun h4 eh4 => ?_)
        refine r_iinc_6 (pc := 108) q dX12_feed_108 rfl ?_
        refine r_goto (pc := 111) (tgt := 20) q dX12_feed_111 (by decide) ?_
        refine ih (k + 1) (by omega) _ h4 ?_ ?_ ?_ ?_
        · rw [eh4, up_s, g2b, g2, i1, up_up]
          congr 1
          omega
        · intro j j0 j1
          have g4 : h4 (m + 1) = h3 (m + 1) := by rw [eh4]; exact pf_o _ _ _ (by omega)
          rw [g4, eh3, up_s]
          by_cases ej : j = k
          · rw [ej, e2, up_s, b3, ← ew]
          · rw [e2, up_n _ _ (by omega)]
            exact i2 j j0 (by omega)
        · intro j j1
          have g4 : h4 (m + 1) = h3 (m + 1) := by rw [eh4]; exact pf_o _ _ _ (by omega)
          rw [g4, eh3, up_s, e2, up_n _ _ (by omega)]
          exact i3 j j1
        · intro x x0 x1
          rw [eh4, up_n _ _ x0, eh3, up_n _ _ x1]
          exact i4 x x0 x1
      refine r_iload_6 (pc := 20) q dX12_feed_20 ?_
      refine r_bipush (pc := 22) q dX12_feed_22 (by decide) ?_
      refine r_icmp_ge (pc := 24) q 114 dX12_feed_24 (by decide) ⟨by omega, by omega⟩ ⟨by omega, by omega⟩ (fun c24 => ?_) (fun c24 => ?_)
      · exact absurd c24 (by omega)
      refine r_iload_6 (pc := 27) q dX12_feed_27 ?_
      refine r_iconst (pc := 29) q dX12_feed_29 ?_
      refine r_icmp_ge (pc := 30) q 37 dX12_feed_30 (by decide) ⟨by omega, by omega⟩ ⟨by omega, by omega⟩ (fun c30 => ?_) (fun c30 => ?_)
      · refine r_iload_6 (pc := 37) q dX12_feed_37 ?_
        refine r_bipush (pc := 39) q dX12_feed_39 (by decide) ?_
        refine r_icmp_ge (pc := 41) q 48 dX12_feed_41 (by decide) ⟨by omega, by omega⟩ ⟨by omega, by omega⟩ (fun c41 => ?_) (fun c41 => ?_)
        · refine r_iload_6 (pc := 48) q dX12_feed_48 ?_
          refine r_bipush (pc := 50) q dX12_feed_50 (by decide) ?_
          refine r_icmp_ge (pc := 52) q 59 dX12_feed_52 (by decide) ⟨by omega, by omega⟩ ⟨by omega, by omega⟩ (fun c52 => ?_) (fun c52 => ?_)
          · refine r_iload_6 (pc := 59) q dX12_feed_59 ?_
            refine r_bipush (pc := 61) q dX12_feed_61 (by decide) ?_
            refine r_icmp_ge (pc := 63) q 71 dX12_feed_63 (by decide) ⟨by omega, by omega⟩ ⟨by omega, by omega⟩ (fun c63 => ?_) (fun c63 => ?_)
            · refine r_iload_5 (pc := 71) q dX12_feed_71 ?_
              exact j73 _ he (by unfold wsel; rw [if_neg (by omega), if_neg (by omega), if_neg (by omega), if_neg (by omega)])
            refine r_iload_4 (pc := 66) q dX12_feed_66 ?_
            refine r_goto (pc := 68) (tgt := 73) q dX12_feed_68 (by decide) ?_
            exact j73 _ hd (by unfold wsel; rw [if_neg (by omega), if_neg (by omega), if_neg (by omega), if_pos (by omega)])
          refine r_iload_3 (pc := 55) q dX12_feed_55 ?_
          refine r_goto (pc := 56) (tgt := 73) q dX12_feed_56 (by decide) ?_
          exact j73 _ hc (by unfold wsel; rw [if_neg (by omega), if_neg (by omega), if_pos (by omega)])
        refine r_iload_2 (pc := 44) q dX12_feed_44 ?_
        refine r_goto (pc := 45) (tgt := 73) q dX12_feed_45 (by decide) ?_
        exact j73 _ hb (by unfold wsel; rw [if_neg (by omega), if_pos (by omega)])
      refine r_iload_1 (pc := 33) q dX12_feed_33 ?_
      refine r_goto (pc := 34) (tgt := 73) q dX12_feed_34 (by decide) ?_
      exact j73 _ ha (by unfold wsel; rw [if_pos (by omega)])
  refine r_aload_0 (pc := 0) q dX12_feed_0 ?_
  refine r_iconst (pc := 1) q dX12_feed_1 ?_
  refine r_puti (pc := 2) q fX12_106 (kz := 0) rfl (by decide) rfl hM.o dX12_feed_2 (fun h0 eh0 => ?_)
  obtain ⟨f0, f1⟩ := th0 eh0
  have f2 := f1 2 (by decide)
  refine r_aload_0 (pc := 5) q dX12_feed_5 ?_
  refine r_geti (pc := 6) q fX12_109 (kz := 2) rfl (by decide) rfl hM.o dX12_feed_6 ?_
  refine r_sipush (pc := 9) q dX12_feed_9 (by decide) ?_
  refine r_icmp_le (pc := 12) q 17 dX12_feed_12 (by decide) ⟨by omega, by omega⟩ ⟨by omega, by omega⟩ (fun c12 => ?_) (fun c12 => ?_)
  · refine r_iconst (pc := 17) q dX12_feed_17 ?_
    refine r_istore_6 (pc := 18) q dX12_feed_18 rfl ?_
    refine lp (by omega) 20 0 (by omega) _ h0 ?_ (fun j j0 j1 => by omega) (fun j _ => by rw [f0 (m + 1) (by omega)]) (fun x x0 x1 => f0 x x0)
    rw [eh0, up_s]
    funext x
    unfold up
    by_cases ex : x = 2
    · subst ex; simp
    · simp [ex]
  refine r_iconst (pc := 15) q dX12_feed_15 ?_
  refine r_ireturn (pc := 16) q rt dX12_feed_16 ?_
  exact Or.inl ⟨by omega, rfl, eh0⟩
