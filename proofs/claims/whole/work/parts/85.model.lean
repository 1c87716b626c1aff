/-! ===== the model's constructor (rows by gen85.py) ===== -/
def tX12 : List (Int × Nat × Nat) := [(1, 21, 200), (3, 20, 26), (4, 20, 81), (6, 20, 5), (7, 20, 5), (8, 23, 50), (9, 20, 450), (10, 20, 50), (15, 20, 12), (16, 23, 12), (17, 20, 12), (19, 20, 12), (20, 23, 12), (21, 20, 12), (22, 20, 12), (24, 20, 20), (25, 20, 20), (26, 20, 20), (30, 20, 210), (31, 20, 210), (32, 20, 10), (33, 20, 6010), (34, 20, 6010), (35, 20, 6010), (36, 20, 10), (37, 20, 10), (38, 20, 25242), (39, 20, 10)]
def snd26 (h h1 : sH) (z m : Nat) : Prop := (∀ b : Nat, b ≠ z → h1 b = h b) ∧ ∀ k : Int, 0 ≤ k → k < m → h1 z k = k
theorem snd26_s {h h1 h2 : sH} {z m : Nat} {j w : Int} (s : snd26 h h1 z m) (e : h2 = up h1 z (up (h1 z) j w)) (ej : j = (m : Int)) (ew : w = (m : Int)) : snd26 h h2 z (m + 1) := by
  refine ⟨fun b hb => by rw [e, up_n _ _ hb]; exact s.1 b hb, fun k k0 k1 => ?_⟩
  rw [e, up_s]
  by_cases q : k = j
  · rw [q, up_s, ew, ej]
  · rw [up_n _ _ q]; exact s.2 k k0 (by omega)
theorem ini_h {T : List (Int × Nat × Nat)} {a ci c m sz : Nat} {S0 : sS} {r0 : sR} {h0 : sH} {f : Int → Int} {g : sH} {S : sS} {r : sR} {h h1 : sH} (hi : ini T a ci S0 r0 h0 f c g (m + 1) (sz + 1) S r h) (e : ∀ b : Nat, b ≠ sz → h1 b = h b) (hc : c ≤ m) : ini T a ci S0 r0 h0 f c g (m + 1) (sz + 1) S r h1 := by
  obtain ⟨i1, i2, i3, i4, i5, i6⟩ := hi
  exact ⟨i1, i2, fun b hb => by rw [e b (by omega)]; exact i3 b hb, by rw [e a (by omega)]; exact i4, fun b b0 b1 => by rw [e b (by omega)]; exact i5 b b0 b1, i6⟩
def eX12 (h : sH) (a : Nat) : Prop := h a = up (up (up (fun _ => 0) 12 (-1)) 27 10) 28 6 ∧ ∀ k : Int, 0 ≤ k → k < 26 → h (a + 2) k = k
set_option maxHeartbeats 4000000 in
theorem c_X12_init {l : Launch} {D : va_G} {aC : Nat → ClassId} {B t sz : Nat} {S : sS} {r : sR} {h : sH} {a : Nat} (ha : S a = some (12, 0)) (hs : sz = a + 1) (hz : ∀ k : Int, h a k = 0) : CtN l yX12_init cX12_init 1 1 12 28 44743 [.ref a] D aC B t sz S r h (mkP 29 LX12 eX12 a S r h) := by
  refine CtN.of (lv := [some (.ref a)]) (by decide +kernel) rfl (Nat.le_of_ble_eq_true rfl) (fun X hl q rt hnm ao _ _ _ _ => ?_)
  have i0 := ini_0 (T := tX12) (r := r) (h := h) hs ha
  refine r_aload_0 (pc := 0) q dX12_init_0 ?_
  refine r_oinit (pc := 1) q mX12_1 (by decide) (by decide) rfl dX12_init_1 ?_
  refine r_aload_0 (pc := 4) q dX12_init_4 ?_
  refine r_sipush (pc := 5) q dX12_init_5 (by decide) ?_
  refine r_ini (pc := 8) (T := tX12) (kd := 21) (N := 200) q hnm i0 (r_newB q (by decide) rfl (by decide) (by decide) dX12_init_8) fX12_7 (kz := 1) rfl rfl (by decide) rfl (fun _ => rfl) (fun _ => rfl) rfl (nodk (by decide)) (by decide) dX12_init_10 (fun S1 r1 h1 i1 => ?_)
  refine r_aload_0 (pc := 13) q dX12_init_13 ?_
  refine r_bipush (pc := 14) q dX12_init_14 (by decide) ?_
  refine r_newI (pc := 16) q (by decide) rfl (by decide) (by decide) dX12_init_16 (fun Sn rn hn n2 => ?_)
  have g0 : snd26 hn hn (sz + 1) 0 := ⟨fun _ _ => rfl, fun k k0 k1 => absurd k1 (by omega)⟩
  refine r_dup (pc := 18) q dX12_init_18 rfl ?_
  refine r_iconst (pc := 19) q dX12_init_19 ?_
  refine r_iconst (pc := 20) q dX12_init_20 ?_
  refine r_iast (pc := 21) q n2.1 (by decide) (by decide) dX12_init_21 (fun ha0 ea0 => ?_)
  have g1 := snd26_s g0 ea0 rfl rfl
  refine r_dup (pc := 22) q dX12_init_22 rfl ?_
  refine r_iconst (pc := 23) q dX12_init_23 ?_
  refine r_iconst (pc := 24) q dX12_init_24 ?_
  refine r_iast (pc := 25) q n2.1 (by decide) (by decide) dX12_init_25 (fun ha1 ea1 => ?_)
  have g2 := snd26_s g1 ea1 rfl rfl
  refine r_dup (pc := 26) q dX12_init_26 rfl ?_
  refine r_iconst (pc := 27) q dX12_init_27 ?_
  refine r_iconst (pc := 28) q dX12_init_28 ?_
  refine r_iast (pc := 29) q n2.1 (by decide) (by decide) dX12_init_29 (fun ha2 ea2 => ?_)
  have g3 := snd26_s g2 ea2 rfl rfl
  refine r_dup (pc := 30) q dX12_init_30 rfl ?_
  refine r_iconst (pc := 31) q dX12_init_31 ?_
  refine r_iconst (pc := 32) q dX12_init_32 ?_
  refine r_iast (pc := 33) q n2.1 (by decide) (by decide) dX12_init_33 (fun ha3 ea3 => ?_)
  have g4 := snd26_s g3 ea3 rfl rfl
  refine r_dup (pc := 34) q dX12_init_34 rfl ?_
  refine r_iconst (pc := 35) q dX12_init_35 ?_
  refine r_iconst (pc := 36) q dX12_init_36 ?_
  refine r_iast (pc := 37) q n2.1 (by decide) (by decide) dX12_init_37 (fun ha4 ea4 => ?_)
  have g5 := snd26_s g4 ea4 rfl rfl
  refine r_dup (pc := 38) q dX12_init_38 rfl ?_
  refine r_iconst (pc := 39) q dX12_init_39 ?_
  refine r_iconst (pc := 40) q dX12_init_40 ?_
  refine r_iast (pc := 41) q n2.1 (by decide) (by decide) dX12_init_41 (fun ha5 ea5 => ?_)
  have g6 := snd26_s g5 ea5 rfl rfl
  refine r_dup (pc := 42) q dX12_init_42 rfl ?_
  refine r_bipush (pc := 43) q dX12_init_43 (by decide) ?_
  refine r_bipush (pc := 45) q dX12_init_45 (by decide) ?_
  refine r_iast (pc := 47) q n2.1 (by decide) (by decide) dX12_init_47 (fun ha6 ea6 => ?_)
  have g7 := snd26_s g6 ea6 rfl rfl
  refine r_dup (pc := 48) q dX12_init_48 rfl ?_
  refine r_bipush (pc := 49) q dX12_init_49 (by decide) ?_
  refine r_bipush (pc := 51) q dX12_init_51 (by decide) ?_
  refine r_iast (pc := 53) q n2.1 (by decide) (by decide) dX12_init_53 (fun ha7 ea7 => ?_)
  have g8 := snd26_s g7 ea7 rfl rfl
  refine r_dup (pc := 54) q dX12_init_54 rfl ?_
  refine r_bipush (pc := 55) q dX12_init_55 (by decide) ?_
  refine r_bipush (pc := 57) q dX12_init_57 (by decide) ?_
  refine r_iast (pc := 59) q n2.1 (by decide) (by decide) dX12_init_59 (fun ha8 ea8 => ?_)
  have g9 := snd26_s g8 ea8 rfl rfl
  refine r_dup (pc := 60) q dX12_init_60 rfl ?_
  refine r_bipush (pc := 61) q dX12_init_61 (by decide) ?_
  refine r_bipush (pc := 63) q dX12_init_63 (by decide) ?_
  refine r_iast (pc := 65) q n2.1 (by decide) (by decide) dX12_init_65 (fun ha9 ea9 => ?_)
  have g10 := snd26_s g9 ea9 rfl rfl
  refine r_dup (pc := 66) q dX12_init_66 rfl ?_
  refine r_bipush (pc := 67) q dX12_init_67 (by decide) ?_
  refine r_bipush (pc := 69) q dX12_init_69 (by decide) ?_
  refine r_iast (pc := 71) q n2.1 (by decide) (by decide) dX12_init_71 (fun ha10 ea10 => ?_)
  have g11 := snd26_s g10 ea10 rfl rfl
  refine r_dup (pc := 72) q dX12_init_72 rfl ?_
  refine r_bipush (pc := 73) q dX12_init_73 (by decide) ?_
  refine r_bipush (pc := 75) q dX12_init_75 (by decide) ?_
  refine r_iast (pc := 77) q n2.1 (by decide) (by decide) dX12_init_77 (fun ha11 ea11 => ?_)
  have g12 := snd26_s g11 ea11 rfl rfl
  refine r_dup (pc := 78) q dX12_init_78 rfl ?_
  refine r_bipush (pc := 79) q dX12_init_79 (by decide) ?_
  refine r_bipush (pc := 81) q dX12_init_81 (by decide) ?_
  refine r_iast (pc := 83) q n2.1 (by decide) (by decide) dX12_init_83 (fun ha12 ea12 => ?_)
  have g13 := snd26_s g12 ea12 rfl rfl
  refine r_dup (pc := 84) q dX12_init_84 rfl ?_
  refine r_bipush (pc := 85) q dX12_init_85 (by decide) ?_
  refine r_bipush (pc := 87) q dX12_init_87 (by decide) ?_
  refine r_iast (pc := 89) q n2.1 (by decide) (by decide) dX12_init_89 (fun ha13 ea13 => ?_)
  have g14 := snd26_s g13 ea13 rfl rfl
  refine r_dup (pc := 90) q dX12_init_90 rfl ?_
  refine r_bipush (pc := 91) q dX12_init_91 (by decide) ?_
  refine r_bipush (pc := 93) q dX12_init_93 (by decide) ?_
  refine r_iast (pc := 95) q n2.1 (by decide) (by decide) dX12_init_95 (fun ha14 ea14 => ?_)
  have g15 := snd26_s g14 ea14 rfl rfl
  refine r_dup (pc := 96) q dX12_init_96 rfl ?_
  refine r_bipush (pc := 97) q dX12_init_97 (by decide) ?_
  refine r_bipush (pc := 99) q dX12_init_99 (by decide) ?_
  refine r_iast (pc := 101) q n2.1 (by decide) (by decide) dX12_init_101 (fun ha15 ea15 => ?_)
  have g16 := snd26_s g15 ea15 rfl rfl
  refine r_dup (pc := 102) q dX12_init_102 rfl ?_
  refine r_bipush (pc := 103) q dX12_init_103 (by decide) ?_
  refine r_bipush (pc := 105) q dX12_init_105 (by decide) ?_
  refine r_iast (pc := 107) q n2.1 (by decide) (by decide) dX12_init_107 (fun ha16 ea16 => ?_)
  have g17 := snd26_s g16 ea16 rfl rfl
  refine r_dup (pc := 108) q dX12_init_108 rfl ?_
  refine r_bipush (pc := 109) q dX12_init_109 (by decide) ?_
  refine r_bipush (pc := 111) q dX12_init_111 (by decide) ?_
  refine r_iast (pc := 113) q n2.1 (by decide) (by decide) dX12_init_113 (fun ha17 ea17 => ?_)
  have g18 := snd26_s g17 ea17 rfl rfl
  refine r_dup (pc := 114) q dX12_init_114 rfl ?_
  refine r_bipush (pc := 115) q dX12_init_115 (by decide) ?_
  refine r_bipush (pc := 117) q dX12_init_117 (by decide) ?_
  refine r_iast (pc := 119) q n2.1 (by decide) (by decide) dX12_init_119 (fun ha18 ea18 => ?_)
  have g19 := snd26_s g18 ea18 rfl rfl
  refine r_dup (pc := 120) q dX12_init_120 rfl ?_
  refine r_bipush (pc := 121) q dX12_init_121 (by decide) ?_
  refine r_bipush (pc := 123) q dX12_init_123 (by decide) ?_
  refine r_iast (pc := 125) q n2.1 (by decide) (by decide) dX12_init_125 (fun ha19 ea19 => ?_)
  have g20 := snd26_s g19 ea19 rfl rfl
  refine r_dup (pc := 126) q dX12_init_126 rfl ?_
  refine r_bipush (pc := 127) q dX12_init_127 (by decide) ?_
  refine r_bipush (pc := 129) q dX12_init_129 (by decide) ?_
  refine r_iast (pc := 131) q n2.1 (by decide) (by decide) dX12_init_131 (fun ha20 ea20 => ?_)
  have g21 := snd26_s g20 ea20 rfl rfl
  refine r_dup (pc := 132) q dX12_init_132 rfl ?_
  refine r_bipush (pc := 133) q dX12_init_133 (by decide) ?_
  refine r_bipush (pc := 135) q dX12_init_135 (by decide) ?_
  refine r_iast (pc := 137) q n2.1 (by decide) (by decide) dX12_init_137 (fun ha21 ea21 => ?_)
  have g22 := snd26_s g21 ea21 rfl rfl
  refine r_dup (pc := 138) q dX12_init_138 rfl ?_
  refine r_bipush (pc := 139) q dX12_init_139 (by decide) ?_
  refine r_bipush (pc := 141) q dX12_init_141 (by decide) ?_
  refine r_iast (pc := 143) q n2.1 (by decide) (by decide) dX12_init_143 (fun ha22 ea22 => ?_)
  have g23 := snd26_s g22 ea22 rfl rfl
  refine r_dup (pc := 144) q dX12_init_144 rfl ?_
  refine r_bipush (pc := 145) q dX12_init_145 (by decide) ?_
  refine r_bipush (pc := 147) q dX12_init_147 (by decide) ?_
  refine r_iast (pc := 149) q n2.1 (by decide) (by decide) dX12_init_149 (fun ha23 ea23 => ?_)
  have g24 := snd26_s g23 ea23 rfl rfl
  refine r_dup (pc := 150) q dX12_init_150 rfl ?_
  refine r_bipush (pc := 151) q dX12_init_151 (by decide) ?_
  refine r_bipush (pc := 153) q dX12_init_153 (by decide) ?_
  refine r_iast (pc := 155) q n2.1 (by decide) (by decide) dX12_init_155 (fun ha24 ea24 => ?_)
  have g25 := snd26_s g24 ea24 rfl rfl
  refine r_dup (pc := 156) q dX12_init_156 rfl ?_
  refine r_bipush (pc := 157) q dX12_init_157 (by decide) ?_
  refine r_bipush (pc := 159) q dX12_init_159 (by decide) ?_
  refine r_iast (pc := 161) q n2.1 (by decide) (by decide) dX12_init_161 (fun ha25 ea25 => ?_)
  have g26 := snd26_s g25 ea25 rfl rfl
  refine r_putrF (pc := 162) q hnm fX12_13 (kz := 3) rfl rfl (by decide) rfl (fun _ => rfl) (fun _ => rfl) (by rw [(n2.2.2.2 a (by omega)).1]; exact i1.2.1) dX12_init_162 (fun r2 er2 => ?_)
  have i2 := ini_c (ini_h (ini_s i1 n2 er2 rfl (nodk (by decide)) (by decide)) g26.1 (by decide))
  refine r_aload_0 (pc := 165) q dX12_init_165 ?_
  refine r_bipush (pc := 166) q dX12_init_166 (by decide) ?_
  refine r_ini (pc := 168) (T := tX12) (kd := 20) (N := 81) q hnm i2 (r_newI q (by decide) rfl (by decide) (by decide) dX12_init_168) fX12_17 (kz := 4) rfl rfl (by decide) rfl (fun _ => rfl) (fun _ => rfl) rfl (nodk (by decide)) (by decide) dX12_init_170 (fun S3 r3 h3 i3 => ?_)
  refine r_aload_0 (pc := 173) q dX12_init_173 ?_
  refine r_iconst (pc := 174) q dX12_init_174 ?_
  refine r_ini (pc := 175) (T := tX12) (kd := 20) (N := 5) q hnm i3 (r_newI q (by decide) rfl (by decide) (by decide) dX12_init_175) fX12_20 (kz := 6) rfl rfl (by decide) rfl (fun _ => rfl) (fun _ => rfl) rfl (nodk (by decide)) (by decide) dX12_init_177 (fun S4 r4 h4 i4 => ?_)
  refine r_aload_0 (pc := 180) q dX12_init_180 ?_
  refine r_iconst (pc := 181) q dX12_init_181 ?_
  refine r_ini (pc := 182) (T := tX12) (kd := 20) (N := 5) q hnm i4 (r_newI q (by decide) rfl (by decide) (by decide) dX12_init_182) fX12_23 (kz := 7) rfl rfl (by decide) rfl (fun _ => rfl) (fun _ => rfl) rfl (nodk (by decide)) (by decide) dX12_init_184 (fun S5 r5 h5 i5 => ?_)
  refine r_aload_0 (pc := 187) q dX12_init_187 ?_
  refine r_bipush (pc := 188) q dX12_init_188 (by decide) ?_
  refine r_ini (pc := 190) (T := tX12) (kd := 23) (N := 50) q hnm i5 (r_newL q (by decide) rfl (by decide) (by decide) dX12_init_190) fX12_26 (kz := 8) rfl rfl (by decide) rfl (fun _ => rfl) (fun _ => rfl) rfl (nodk (by decide)) (by decide) dX12_init_192 (fun S6 r6 h6 i6 => ?_)
  refine r_aload_0 (pc := 195) q dX12_init_195 ?_
  refine r_sipush (pc := 196) q dX12_init_196 (by decide) ?_
  refine r_ini (pc := 199) (T := tX12) (kd := 20) (N := 450) q hnm i6 (r_newI q (by decide) rfl (by decide) (by decide) dX12_init_199) fX12_30 (kz := 9) rfl rfl (by decide) rfl (fun _ => rfl) (fun _ => rfl) rfl (nodk (by decide)) (by decide) dX12_init_201 (fun S7 r7 h7 i7 => ?_)
  refine r_aload_0 (pc := 204) q dX12_init_204 ?_
  refine r_bipush (pc := 205) q dX12_init_205 (by decide) ?_
  refine r_ini (pc := 207) (T := tX12) (kd := 20) (N := 50) q hnm i7 (r_newI q (by decide) rfl (by decide) (by decide) dX12_init_207) fX12_33 (kz := 10) rfl rfl (by decide) rfl (fun _ => rfl) (fun _ => rfl) rfl (nodk (by decide)) (by decide) dX12_init_209 (fun S8 r8 h8 i8 => ?_)
  refine r_aload_0 (pc := 212) q dX12_init_212 ?_
  refine r_iconst (pc := 213) q dX12_init_213 ?_
  refine r_puti (pc := 214) q fX12_36 (kz := 12) rfl (by decide) rfl i8.2.1 dX12_init_214 (fun hp1 ep1 => ?_)
  have j1 := ini_p i8 ep1
  refine r_aload_0 (pc := 217) q dX12_init_217 ?_
  refine r_bipush (pc := 218) q dX12_init_218 (by decide) ?_
  refine r_ini (pc := 220) (T := tX12) (kd := 20) (N := 12) q hnm j1 (r_newI q (by decide) rfl (by decide) (by decide) dX12_init_220) fX12_40 (kz := 15) rfl rfl (by decide) rfl (fun _ => rfl) (fun _ => rfl) rfl (nodk (by decide)) (by decide) dX12_init_222 (fun S9 r9 h9 i9 => ?_)
  refine r_aload_0 (pc := 225) q dX12_init_225 ?_
  refine r_bipush (pc := 226) q dX12_init_226 (by decide) ?_
  refine r_ini (pc := 228) (T := tX12) (kd := 23) (N := 12) q hnm i9 (r_newL q (by decide) rfl (by decide) (by decide) dX12_init_228) fX12_43 (kz := 16) rfl rfl (by decide) rfl (fun _ => rfl) (fun _ => rfl) rfl (nodk (by decide)) (by decide) dX12_init_230 (fun S10 r10 h10 i10 => ?_)
  refine r_aload_0 (pc := 233) q dX12_init_233 ?_
  refine r_bipush (pc := 234) q dX12_init_234 (by decide) ?_
  refine r_ini (pc := 236) (T := tX12) (kd := 20) (N := 12) q hnm i10 (r_newI q (by decide) rfl (by decide) (by decide) dX12_init_236) fX12_46 (kz := 17) rfl rfl (by decide) rfl (fun _ => rfl) (fun _ => rfl) rfl (nodk (by decide)) (by decide) dX12_init_238 (fun S11 r11 h11 i11 => ?_)
  refine r_aload_0 (pc := 241) q dX12_init_241 ?_
  refine r_bipush (pc := 242) q dX12_init_242 (by decide) ?_
  refine r_ini (pc := 244) (T := tX12) (kd := 20) (N := 12) q hnm i11 (r_newI q (by decide) rfl (by decide) (by decide) dX12_init_244) fX12_49 (kz := 19) rfl rfl (by decide) rfl (fun _ => rfl) (fun _ => rfl) rfl (nodk (by decide)) (by decide) dX12_init_246 (fun S12 r12 h12 i12 => ?_)
  refine r_aload_0 (pc := 249) q dX12_init_249 ?_
  refine r_bipush (pc := 250) q dX12_init_250 (by decide) ?_
  refine r_ini (pc := 252) (T := tX12) (kd := 23) (N := 12) q hnm i12 (r_newL q (by decide) rfl (by decide) (by decide) dX12_init_252) fX12_52 (kz := 20) rfl rfl (by decide) rfl (fun _ => rfl) (fun _ => rfl) rfl (nodk (by decide)) (by decide) dX12_init_254 (fun S13 r13 h13 i13 => ?_)
  refine r_aload_0 (pc := 257) q dX12_init_257 ?_
  refine r_bipush (pc := 258) q dX12_init_258 (by decide) ?_
  refine r_ini (pc := 260) (T := tX12) (kd := 20) (N := 12) q hnm i13 (r_newI q (by decide) rfl (by decide) (by decide) dX12_init_260) fX12_55 (kz := 21) rfl rfl (by decide) rfl (fun _ => rfl) (fun _ => rfl) rfl (nodk (by decide)) (by decide) dX12_init_262 (fun S14 r14 h14 i14 => ?_)
  refine r_aload_0 (pc := 265) q dX12_init_265 ?_
  refine r_bipush (pc := 266) q dX12_init_266 (by decide) ?_
  refine r_ini (pc := 268) (T := tX12) (kd := 20) (N := 12) q hnm i14 (r_newI q (by decide) rfl (by decide) (by decide) dX12_init_268) fX12_58 (kz := 22) rfl rfl (by decide) rfl (fun _ => rfl) (fun _ => rfl) rfl (nodk (by decide)) (by decide) dX12_init_270 (fun S15 r15 h15 i15 => ?_)
  refine r_aload_0 (pc := 273) q dX12_init_273 ?_
  refine r_bipush (pc := 274) q dX12_init_274 (by decide) ?_
  refine r_ini (pc := 276) (T := tX12) (kd := 20) (N := 20) q hnm i15 (r_newI q (by decide) rfl (by decide) (by decide) dX12_init_276) fX12_61 (kz := 24) rfl rfl (by decide) rfl (fun _ => rfl) (fun _ => rfl) rfl (nodk (by decide)) (by decide) dX12_init_278 (fun S16 r16 h16 i16 => ?_)
  refine r_aload_0 (pc := 281) q dX12_init_281 ?_
  refine r_bipush (pc := 282) q dX12_init_282 (by decide) ?_
  refine r_ini (pc := 284) (T := tX12) (kd := 20) (N := 20) q hnm i16 (r_newI q (by decide) rfl (by decide) (by decide) dX12_init_284) fX12_64 (kz := 25) rfl rfl (by decide) rfl (fun _ => rfl) (fun _ => rfl) rfl (nodk (by decide)) (by decide) dX12_init_286 (fun S17 r17 h17 i17 => ?_)
  refine r_aload_0 (pc := 289) q dX12_init_289 ?_
  refine r_bipush (pc := 290) q dX12_init_290 (by decide) ?_
  refine r_ini (pc := 292) (T := tX12) (kd := 20) (N := 20) q hnm i17 (r_newI q (by decide) rfl (by decide) (by decide) dX12_init_292) fX12_67 (kz := 26) rfl rfl (by decide) rfl (fun _ => rfl) (fun _ => rfl) rfl (nodk (by decide)) (by decide) dX12_init_294 (fun S18 r18 h18 i18 => ?_)
  refine r_aload_0 (pc := 297) q dX12_init_297 ?_
  refine r_bipush (pc := 298) q dX12_init_298 (by decide) ?_
  refine r_puti (pc := 300) q fX12_70 (kz := 27) rfl (by decide) rfl i18.2.1 dX12_init_300 (fun hp2 ep2 => ?_)
  have j2 := ini_p i18 ep2
  refine r_aload_0 (pc := 303) q dX12_init_303 ?_
  refine r_bipush (pc := 304) q dX12_init_304 (by decide) ?_
  refine r_puti (pc := 306) q fX12_73 (kz := 28) rfl (by decide) rfl j2.2.1 dX12_init_306 (fun hp3 ep3 => ?_)
  have j3 := ini_p j2 ep3
  refine r_aload_0 (pc := 309) q dX12_init_309 ?_
  refine r_sipush (pc := 310) q dX12_init_310 (by decide) ?_
  refine r_ini (pc := 313) (T := tX12) (kd := 20) (N := 210) q hnm j3 (r_newI q (by decide) rfl (by decide) (by decide) dX12_init_313) fX12_76 (kz := 30) rfl rfl (by decide) rfl (fun _ => rfl) (fun _ => rfl) rfl (nodk (by decide)) (by decide) dX12_init_315 (fun S19 r19 h19 i19 => ?_)
  refine r_aload_0 (pc := 318) q dX12_init_318 ?_
  refine r_sipush (pc := 319) q dX12_init_319 (by decide) ?_
  refine r_ini (pc := 322) (T := tX12) (kd := 20) (N := 210) q hnm i19 (r_newI q (by decide) rfl (by decide) (by decide) dX12_init_322) fX12_79 (kz := 31) rfl rfl (by decide) rfl (fun _ => rfl) (fun _ => rfl) rfl (nodk (by decide)) (by decide) dX12_init_324 (fun S20 r20 h20 i20 => ?_)
  refine r_aload_0 (pc := 327) q dX12_init_327 ?_
  refine r_bipush (pc := 328) q dX12_init_328 (by decide) ?_
  refine r_ini (pc := 330) (T := tX12) (kd := 20) (N := 10) q hnm i20 (r_newI q (by decide) rfl (by decide) (by decide) dX12_init_330) fX12_82 (kz := 32) rfl rfl (by decide) rfl (fun _ => rfl) (fun _ => rfl) rfl (nodk (by decide)) (by decide) dX12_init_332 (fun S21 r21 h21 i21 => ?_)
  refine r_aload_0 (pc := 335) q dX12_init_335 ?_
  refine r_sipush (pc := 336) q dX12_init_336 (by decide) ?_
  refine r_ini (pc := 339) (T := tX12) (kd := 20) (N := 6010) q hnm i21 (r_newI q (by decide) rfl (by decide) (by decide) dX12_init_339) fX12_85 (kz := 33) rfl rfl (by decide) rfl (fun _ => rfl) (fun _ => rfl) rfl (nodk (by decide)) (by decide) dX12_init_341 (fun S22 r22 h22 i22 => ?_)
  refine r_aload_0 (pc := 344) q dX12_init_344 ?_
  refine r_sipush (pc := 345) q dX12_init_345 (by decide) ?_
  refine r_ini (pc := 348) (T := tX12) (kd := 20) (N := 6010) q hnm i22 (r_newI q (by decide) rfl (by decide) (by decide) dX12_init_348) fX12_88 (kz := 34) rfl rfl (by decide) rfl (fun _ => rfl) (fun _ => rfl) rfl (nodk (by decide)) (by decide) dX12_init_350 (fun S23 r23 h23 i23 => ?_)
  refine r_aload_0 (pc := 353) q dX12_init_353 ?_
  refine r_sipush (pc := 354) q dX12_init_354 (by decide) ?_
  refine r_ini (pc := 357) (T := tX12) (kd := 20) (N := 6010) q hnm i23 (r_newI q (by decide) rfl (by decide) (by decide) dX12_init_357) fX12_91 (kz := 35) rfl rfl (by decide) rfl (fun _ => rfl) (fun _ => rfl) rfl (nodk (by decide)) (by decide) dX12_init_359 (fun S24 r24 h24 i24 => ?_)
  refine r_aload_0 (pc := 362) q dX12_init_362 ?_
  refine r_bipush (pc := 363) q dX12_init_363 (by decide) ?_
  refine r_ini (pc := 365) (T := tX12) (kd := 20) (N := 10) q hnm i24 (r_newI q (by decide) rfl (by decide) (by decide) dX12_init_365) fX12_94 (kz := 36) rfl rfl (by decide) rfl (fun _ => rfl) (fun _ => rfl) rfl (nodk (by decide)) (by decide) dX12_init_367 (fun S25 r25 h25 i25 => ?_)
  refine r_aload_0 (pc := 370) q dX12_init_370 ?_
  refine r_bipush (pc := 371) q dX12_init_371 (by decide) ?_
  refine r_ini (pc := 373) (T := tX12) (kd := 20) (N := 10) q hnm i25 (r_newI q (by decide) rfl (by decide) (by decide) dX12_init_373) fX12_97 (kz := 37) rfl rfl (by decide) rfl (fun _ => rfl) (fun _ => rfl) rfl (nodk (by decide)) (by decide) dX12_init_375 (fun S26 r26 h26 i26 => ?_)
  refine r_aload_0 (pc := 378) q dX12_init_378 ?_
  refine r_sipush (pc := 379) q dX12_init_379 (by decide) ?_
  refine r_ini (pc := 382) (T := tX12) (kd := 20) (N := 25242) q hnm i26 (r_newI q (by decide) rfl (by decide) (by decide) dX12_init_382) fX12_100 (kz := 38) rfl rfl (by decide) rfl (fun _ => rfl) (fun _ => rfl) rfl (nodk (by decide)) (by decide) dX12_init_384 (fun S27 r27 h27 i27 => ?_)
  refine r_aload_0 (pc := 387) q dX12_init_387 ?_
  refine r_bipush (pc := 388) q dX12_init_388 (by decide) ?_
  refine r_ini (pc := 390) (T := tX12) (kd := 20) (N := 10) q hnm i27 (r_newI q (by decide) rfl (by decide) (by decide) dX12_init_390) fX12_103 (kz := 39) rfl rfl (by decide) rfl (fun _ => rfl) (fun _ => rfl) rfl (nodk (by decide)) (by decide) dX12_init_392 (fun S28 r28 h28 i28 => ?_)
  refine g_return (pc := 395) q rt (by decide) (by decide) dX12_init_395 ⟨rfl, by have := i28.1; omega, i28.2.2.1, ⟨i28.2.1, i28.2.2.2.2.2 0 (by decide) _ rfl, i28.2.2.2.2.2 1 (by decide) _ rfl, i28.2.2.2.2.2 2 (by decide) _ rfl, i28.2.2.2.2.2 3 (by decide) _ rfl, i28.2.2.2.2.2 4 (by decide) _ rfl, i28.2.2.2.2.2 5 (by decide) _ rfl, i28.2.2.2.2.2 6 (by decide) _ rfl, i28.2.2.2.2.2 7 (by decide) _ rfl, i28.2.2.2.2.2 8 (by decide) _ rfl, i28.2.2.2.2.2 9 (by decide) _ rfl, i28.2.2.2.2.2 10 (by decide) _ rfl, i28.2.2.2.2.2 11 (by decide) _ rfl, i28.2.2.2.2.2 12 (by decide) _ rfl, i28.2.2.2.2.2 13 (by decide) _ rfl, i28.2.2.2.2.2 14 (by decide) _ rfl, i28.2.2.2.2.2 15 (by decide) _ rfl, i28.2.2.2.2.2 16 (by decide) _ rfl, i28.2.2.2.2.2 17 (by decide) _ rfl, i28.2.2.2.2.2 18 (by decide) _ rfl, i28.2.2.2.2.2 19 (by decide) _ rfl, i28.2.2.2.2.2 20 (by decide) _ rfl, i28.2.2.2.2.2 21 (by decide) _ rfl, i28.2.2.2.2.2 22 (by decide) _ rfl, i28.2.2.2.2.2 23 (by decide) _ rfl, i28.2.2.2.2.2 24 (by decide) _ rfl, i28.2.2.2.2.2 25 (by decide) _ rfl, i28.2.2.2.2.2 26 (by decide) _ rfl, i28.2.2.2.2.2 27 (by decide) _ rfl⟩, ?_, fun k k0 k1 => ?_⟩
  · rw [i28.2.2.2.1, show h a = fun _ => 0 from funext hz]
  · rw [i28.2.2.2.2.1 (a + 2) (by omega) (by omega), show a + 2 = sz + 1 by omega]
    exact g26.2 k k0 (by omega)
