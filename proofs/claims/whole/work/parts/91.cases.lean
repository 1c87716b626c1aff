/-! ===== the law's cases (rows by gen91.py) ===== -/
section LWS
variable {X : CX} {k n sz : Nat} {S : sS} {r : sR} {h : sH} {b L : Nat} {xv : Nat → Int32} {s1 s2 x : Nat} {i : Int} {l5 l6 : Option Value}
abbrev nxL (X : CX) (k n b x : Nat) (i : Int) (S : sS) (r : sR) : Prop := ∀ (h2 : sH) (sz2 : Nat) (l5 l6 : Option Value), relX h2 x (x + 325) → G X (k + 1) (n + 6) 979 [some (.ref b), some (.ref x), some (.ref (x + 325)), some (.ref (x + 354)), some (.int (iI i)), l5, l6] [] sz2 S r h2
theorem lw_c_feed (w : LwC X b L xv s1 s2) (hx : LX11 S r x) (hm : LX12 S r (x + 325)) (hrel : relX h x (x + 325)) (i0 : 0 ≤ i) (i6 : i + 6 ≤ L) (hk : k + 1 ≤ 601024) (hn : n + 6 ≤ 7293034) (nxt : nxL X k n b x i S r) : G X k n 136 [some (.ref b), some (.ref x), some (.ref (x + 325)), some (.ref (x + 354)), some (.int (iI i)), l5, l6] [] sz S r h := by
  obtain ⟨g, nn, u, un, rg, rn, sg, sn, hr⟩ := hrel
  have q := w.1
  have hI := hr.1
  refine r_aload_1 (pc := 136) q dL_law_136 ?_
  refine r_arg (pc := 137) w i0 (by decide) (by omega) dL_law_137 dL_law_138 dL_law_140 dL_law_141 dL_law_142 ?_
  refine r_arg (pc := 143) w i0 (by decide) (by omega) dL_law_143 dL_law_144 dL_law_146 dL_law_147 dL_law_148 ?_
  refine r_arg (pc := 149) w i0 (by decide) (by omega) dL_law_149 dL_law_150 dL_law_152 dL_law_153 dL_law_154 ?_
  refine r_arg (pc := 155) w i0 (by decide) (by omega) dL_law_155 dL_law_156 dL_law_158 dL_law_159 dL_law_160 ?_
  refine r_arg (pc := 161) w i0 (by decide) (by omega) dL_law_161 dL_law_162 dL_law_164 dL_law_165 dL_law_166 ?_
  refine r_cI5 (pc := 167) q (c_X11_feed hx hI.1.1 hI.1.2.1.1 hI.1.2.1.2) mL_19 hx.o ⟨by decide, by decide, by omega, by omega⟩ (Nat.le_of_ble_eq_true rfl) rfl dL_law_167 (fun z h1 p1 => ?_)
  have em : ∀ a : Nat, x + 325 ≤ a → h1 a = h a := fun a ha => by
    rcases p1 with ⟨-, -, e⟩ | ⟨-, -, -, -, -, e⟩
    · rw [e]
    · exact e a (by omega) (by omega)
  have hM1 := mdI_ge (rel_md hr) em
  refine r_aload_2 (pc := 170) q dL_law_170 ?_
  refine r_arg (pc := 171) w i0 (by decide) (by omega) dL_law_171 dL_law_172 dL_law_174 dL_law_175 dL_law_176 ?_
  refine r_arg (pc := 177) w i0 (by decide) (by omega) dL_law_177 dL_law_178 dL_law_180 dL_law_181 dL_law_182 ?_
  refine r_arg (pc := 183) w i0 (by decide) (by omega) dL_law_183 dL_law_184 dL_law_186 dL_law_187 dL_law_188 ?_
  refine r_arg (pc := 189) w i0 (by decide) (by omega) dL_law_189 dL_law_190 dL_law_192 dL_law_193 dL_law_194 ?_
  refine r_arg (pc := 195) w i0 (by decide) (by omega) dL_law_195 dL_law_196 dL_law_198 dL_law_199 dL_law_200 ?_
  refine r_cI5 (pc := 201) q (c_X12_feed hm hM1.1.1 hM1.1.2 (iI_in _) (iI_in _) (iI_in _) (iI_in _) (iI_in _)) mL_23 hm.o ⟨by decide, by decide, by omega, by omega⟩ (Nat.le_of_ble_eq_true rfl) rfl dL_law_201 (fun z2 h2 p2 => ?_)
  obtain ⟨ez, hX⟩ := step_feed (Nat.le_refl _) hr p1 p2
  have hX := hX.X
  rw [ez]
  refine r_icmp_same (pc := 204) q 979 dL_law_204 (by decide) ?_
  exact G.w (by omega) (by omega) (nxt h2 sz l5 l6 hX)
theorem lw_c_end (w : LwC X b L xv s1 s2) (hx : LX11 S r x) (hm : LX12 S r (x + 325)) (hrel : relX h x (x + 325)) (i0 : 0 ≤ i) (i6 : i + 6 ≤ L) (hk : k + 1 ≤ 601024) (hn : n + 6 ≤ 7293034) (nxt : nxL X k n b x i S r) : G X k n 209 [some (.ref b), some (.ref x), some (.ref (x + 325)), some (.ref (x + 354)), some (.int (iI i)), l5, l6] [] sz S r h := by
  obtain ⟨g, nn, u, un, rg, rn, sg, sn, hr⟩ := hrel
  have q := w.1
  have hI := hr.1
  refine r_aload_1 (pc := 209) q dL_law_209 ?_
  refine r_arg (pc := 210) w i0 (by decide) (by omega) dL_law_210 dL_law_211 dL_law_213 dL_law_214 dL_law_215 ?_
  refine r_cI1 (pc := 216) q (c_X11_end hx (iI_in _) (by rw [hI.1.1]; exact hI.1.2.1.1) (by rw [hI.1.1]; exact hI.1.2.1.2)) mL_24 hx.o ⟨by decide, by decide, by omega, by omega⟩ (Nat.le_of_ble_eq_true rfl) rfl dL_law_216 (fun z h1 p1 => ?_)
  have em : ∀ a : Nat, x + 325 ≤ a → h1 a = h a := fun a ha => by
    rcases p1 with ⟨-, -, -, e⟩ | ⟨-, -, e⟩
    · rw [e, pf_o _ 1 _ (show a ≠ x + 1 by omega)]
    · rw [e]
  have hM1 := mdI_ge (rel_md hr) em
  refine r_aload_2 (pc := 219) q dL_law_219 ?_
  refine r_arg (pc := 220) w i0 (by decide) (by omega) dL_law_220 dL_law_221 dL_law_223 dL_law_224 dL_law_225 ?_
  refine r_cI1 (pc := 226) q (c_X12_end hm hM1.1.1 hM1.1.2 (iI_in _)) mL_28 hm.o ⟨by decide, by decide, by omega, by omega⟩ (Nat.le_of_ble_eq_true rfl) rfl dL_law_226 (fun z2 h2 p2 => ?_)
  obtain ⟨ez, hX⟩ := step_end (Nat.le_refl _) hr p1 p2
  have hX := hX.X
  rw [ez]
  refine r_icmp_same (pc := 229) q 979 dL_law_229 (by decide) ?_
  exact G.w (by omega) (by omega) (nxt h2 sz l5 l6 hX)
theorem lw_c_list (w : LwC X b L xv s1 s2) (hx : LX11 S r x) (hm : LX12 S r (x + 325)) (hrel : relX h x (x + 325)) (i0 : 0 ≤ i) (i6 : i + 6 ≤ L) (hk : k + 1 ≤ 601024) (hn : n + 6 ≤ 7293034) (nxt : nxL X k n b x i S r) : G X k n 234 [some (.ref b), some (.ref x), some (.ref (x + 325)), some (.ref (x + 354)), some (.int (iI i)), l5, l6] [] sz S r h := by
  obtain ⟨g, nn, u, un, rg, rn, sg, sn, hr⟩ := hrel
  have q := w.1
  have hI := hr.1
  refine r_aload_1 (pc := 234) q dL_law_234 ?_
  refine r_arg (pc := 235) w i0 (by decide) (by omega) dL_law_235 dL_law_236 dL_law_238 dL_law_239 dL_law_240 ?_
  refine r_cI1 (pc := 241) q (c_X11_list hx hI.1 hI.2.1.1 hI.2.1.2 (iI_in _)) mL_29 hx.o ⟨by decide, by decide, by omega, by omega⟩ (Nat.le_of_ble_eq_true rfl) rfl dL_law_241 (fun z h1 p1 => ?_)
  have em : ∀ a : Nat, x + 325 ≤ a → h1 a = h a := fun a ha => by
    rcases p1 with ⟨-, -, e⟩ | ⟨-, k', p', n', ns', nl', us', ul', -, -, -, e, -⟩
    · rw [e]
    · exact e a (by omega) (by omega) (by omega) (by have := hI.2.1.2; have := hI.2.1.1; omega)
  have hM1 := mdI_ge (rel_md hr) em
  refine r_aload_2 (pc := 244) q dL_law_244 ?_
  refine r_arg (pc := 245) w i0 (by decide) (by omega) dL_law_245 dL_law_246 dL_law_248 dL_law_249 dL_law_250 ?_
  refine r_cI1 (pc := 251) q (c_X12_list hm hM1.1.1 hM1.1.2 hM1.2.2.1.1 hM1.2.2.1.2.1 (iI_in _)) mL_32 hm.o ⟨by decide, by decide, by omega, by omega⟩ (Nat.le_of_ble_eq_true rfl) rfl dL_law_251 (fun z2 h2 p2 => ?_)
  obtain ⟨ez, hX⟩ := step_list (Nat.le_refl _) hr p1 p2
  rw [ez]
  refine r_icmp_same (pc := 254) q 979 dL_law_254 (by decide) ?_
  exact G.w (by omega) (by omega) (nxt h2 sz l5 l6 hX)
theorem lw_c_place (w : LwC X b L xv s1 s2) (hx : LX11 S r x) (hm : LX12 S r (x + 325)) (hrel : relX h x (x + 325)) (i0 : 0 ≤ i) (i6 : i + 6 ≤ L) (hk : k + 1 ≤ 601024) (hn : n + 6 ≤ 7293034) (nxt : nxL X k n b x i S r) : G X k n 259 [some (.ref b), some (.ref x), some (.ref (x + 325)), some (.ref (x + 354)), some (.int (iI i)), l5, l6] [] sz S r h := by
  obtain ⟨g, nn, u, un, rg, rn, sg, sn, hr⟩ := hrel
  have q := w.1
  have hI := hr.1
  refine r_aload_1 (pc := 259) q dL_law_259 ?_
  refine r_cI0 (pc := 260) q (c_X11_place hx) mL_33 hx.o ⟨by decide, by decide, by omega, by omega⟩ (Nat.le_of_ble_eq_true rfl) rfl dL_law_260 (fun z h1 p1 => ?_)
  have em : ∀ a : Nat, x + 325 ≤ a → h1 a = h a := fun a ha => by
    rw [← p1.2]
  have hM1 := mdI_ge (rel_md hr) em
  refine r_aload_2 (pc := 263) q dL_law_263 ?_
  refine r_cI0 (pc := 264) q (c_X12_place hm) mL_37 hm.o ⟨by decide, by decide, by omega, by omega⟩ (Nat.le_of_ble_eq_true rfl) rfl dL_law_264 (fun z2 h2 p2 => ?_)
  obtain ⟨p1a, p1b⟩ := p1
  subst p1b
  have ez : z = z2 := by rw [← p1a, p2.1]; exact hr.2.2.1
  have hX := (rel_th (Nat.le_refl _) hr p2.2).X
  rw [ez]
  refine r_icmp_same (pc := 267) q 979 dL_law_267 (by decide) ?_
  exact G.w (by omega) (by omega) (nxt h2 sz l5 l6 hX)
theorem lw_c_ruin (w : LwC X b L xv s1 s2) (hx : LX11 S r x) (hm : LX12 S r (x + 325)) (hrel : relX h x (x + 325)) (i0 : 0 ≤ i) (i6 : i + 6 ≤ L) (hk : k + 1 ≤ 601024) (hn : n + 6 ≤ 7293034) (nxt : nxL X k n b x i S r) : G X k n 272 [some (.ref b), some (.ref x), some (.ref (x + 325)), some (.ref (x + 354)), some (.int (iI i)), l5, l6] [] sz S r h := by
  obtain ⟨g, nn, u, un, rg, rn, sg, sn, hr⟩ := hrel
  have q := w.1
  have hI := hr.1
  refine r_aload_1 (pc := 272) q dL_law_272 ?_
  refine r_arg (pc := 273) w i0 (by decide) (by omega) dL_law_273 dL_law_274 dL_law_276 dL_law_277 dL_law_278 ?_
  refine r_cI1 (pc := 279) q (c_X11_ruin hx hI.1 hI.2.2.2.1 (iI_in _)) mL_38 hx.o ⟨by decide, by decide, by omega, by omega⟩ (Nat.le_of_ble_eq_true rfl) rfl dL_law_279 (fun z h1 p1 => ?_)
  have em : ∀ a : Nat, x + 325 ≤ a → h1 a = h a := fun a ha => by
    have R0 := hI.2.2.2.1.1
    rcases p1.2 with ⟨⟨-, -, -, R1, -⟩, -, e, -⟩ | ⟨-, -, e⟩
    · exact e a (by omega) (by omega) (by omega) (by omega) (by omega) (by omega) (by omega)
    · exact e a (by omega) (by omega) (by omega)
  have hM1 := mdI_ge (rel_md hr) em
  refine r_aload_2 (pc := 282) q dL_law_282 ?_
  refine r_arg (pc := 283) w i0 (by decide) (by omega) dL_law_283 dL_law_284 dL_law_286 dL_law_287 dL_law_288 ?_
  refine r_cI1 (pc := 289) q (c_X12_ruin hm hM1.1.1 hM1.1.2 ⟨hM1.2.2.2.2.2.2.1.1.1, hM1.2.2.2.2.2.2.1.1.2, fun k k0 k1 => (hM1.2.2.2.2.2.2.1.2.1 k k0 k1).1⟩ (iI_in _)) mL_41 hm.o ⟨by decide, by decide, by omega, by omega⟩ (Nat.le_of_ble_eq_true rfl) rfl dL_law_289 (fun z2 h2 p2 => ?_)
  obtain ⟨ez, hX⟩ := step_ruin (Nat.le_refl _) hr p1 p2
  rw [ez]
  refine r_icmp_same (pc := 292) q 979 dL_law_292 (by decide) ?_
  exact G.w (by omega) (by omega) (nxt h2 sz l5 l6 hX)
theorem lw_c_stone (w : LwC X b L xv s1 s2) (hx : LX11 S r x) (hm : LX12 S r (x + 325)) (hrel : relX h x (x + 325)) (i0 : 0 ≤ i) (i6 : i + 6 ≤ L) (hk : k + 1 ≤ 601024) (hn : n + 6 ≤ 7293034) (nxt : nxL X k n b x i S r) : G X k n 297 [some (.ref b), some (.ref x), some (.ref (x + 325)), some (.ref (x + 354)), some (.int (iI i)), l5, l6] [] sz S r h := by
  obtain ⟨g, nn, u, un, rg, rn, sg, sn, hr⟩ := hrel
  have q := w.1
  have hI := hr.1
  refine r_aload_1 (pc := 297) q dL_law_297 ?_
  refine r_arg (pc := 298) w i0 (by decide) (by omega) dL_law_298 dL_law_299 dL_law_301 dL_law_302 dL_law_303 ?_
  refine r_arg (pc := 304) w i0 (by decide) (by omega) dL_law_304 dL_law_305 dL_law_307 dL_law_308 dL_law_309 ?_
  refine r_arg (pc := 310) w i0 (by decide) (by omega) dL_law_310 dL_law_311 dL_law_313 dL_law_314 dL_law_315 ?_
  refine r_cI3 (pc := 316) q (c_X11_stone hx hI.1 hI.2.2.2.1 (iI_in _) (iI_in _) (iI_in _)) mL_42 hx.o ⟨by decide, by decide, by omega, by omega⟩ (Nat.le_of_ble_eq_true rfl) rfl dL_law_316 (fun z h1 p1 => ?_)
  have em : ∀ a : Nat, x + 325 ≤ a → h1 a = h a := fun a ha => by
    have R0 := hI.2.2.2.1.2.2.1
    rcases p1.2 with ⟨-, -, e, -⟩ | ⟨-, -, e⟩
    · exact e a (by omega) (by omega) (by omega) (by omega) (by omega) (by omega) (by omega)
    · exact e a (by omega) (by omega) (by omega)
  have hM1 := mdI_ge (rel_md hr) em
  refine r_aload_2 (pc := 319) q dL_law_319 ?_
  refine r_arg (pc := 320) w i0 (by decide) (by omega) dL_law_320 dL_law_321 dL_law_323 dL_law_324 dL_law_325 ?_
  refine r_arg (pc := 326) w i0 (by decide) (by omega) dL_law_326 dL_law_327 dL_law_329 dL_law_330 dL_law_331 ?_
  refine r_arg (pc := 332) w i0 (by decide) (by omega) dL_law_332 dL_law_333 dL_law_335 dL_law_336 dL_law_337 ?_
  refine r_cI3 (pc := 338) q (c_X12_stone hm hM1.1.1 hM1.1.2 hM1.2.2.2.2.2.2.1.2.2.1.1 hM1.2.2.2.2.2.2.1.2.2.1.2 (iI_in _) (iI_in _) (iI_in _)) mL_46 hm.o ⟨by decide, by decide, by omega, by omega⟩ (Nat.le_of_ble_eq_true rfl) rfl dL_law_338 (fun z2 h2 p2 => ?_)
  obtain ⟨ez, hX⟩ := step_stone (Nat.le_refl _) hr p1 p2
  rw [ez]
  refine r_icmp_same (pc := 341) q 979 dL_law_341 (by decide) ?_
  exact G.w (by omega) (by omega) (nxt h2 sz l5 l6 hX)
theorem lw_c_habit (w : LwC X b L xv s1 s2) (hx : LX11 S r x) (hm : LX12 S r (x + 325)) (hrel : relX h x (x + 325)) (i0 : 0 ≤ i) (i6 : i + 6 ≤ L) (hk : k + 1 ≤ 601024) (hn : n + 6 ≤ 7293034) (nxt : nxL X k n b x i S r) : G X k n 346 [some (.ref b), some (.ref x), some (.ref (x + 325)), some (.ref (x + 354)), some (.int (iI i)), l5, l6] [] sz S r h := by
  obtain ⟨g, nn, u, un, rg, rn, sg, sn, hr⟩ := hrel
  have q := w.1
  have hI := hr.1
  refine r_aload_1 (pc := 346) q dL_law_346 ?_
  refine r_arg (pc := 347) w i0 (by decide) (by omega) dL_law_347 dL_law_348 dL_law_350 dL_law_351 dL_law_352 ?_
  refine r_arg (pc := 353) w i0 (by decide) (by omega) dL_law_353 dL_law_354 dL_law_356 dL_law_357 dL_law_358 ?_
  refine r_arg (pc := 359) w i0 (by decide) (by omega) dL_law_359 dL_law_360 dL_law_362 dL_law_363 dL_law_364 ?_
  refine r_cI3 (pc := 365) q (c_X11_habit hx (iI_in _) (iI_in _) (iI_in _) hI.2.2.2.2.1.1 hI.2.2.2.2.1.2.1) mL_47 hx.o ⟨by decide, by decide, by omega, by omega⟩ (Nat.le_of_ble_eq_true rfl) rfl dL_law_365 (fun z h1 p1 => ?_)
  have em : ∀ a : Nat, x + 325 ≤ a → h1 a = h a := fun a ha => by
    rcases p1 with ⟨-, -, e⟩ | ⟨-, -, e⟩
    · rw [e, pf_o _ _ _ (show a ≠ x + 258 by omega), pf_o _ _ _ (show a ≠ x + 261 by omega), pf_o _ _ _ (show a ≠ x + 260 by omega), pf_o _ _ _ (show a ≠ x + 259 by omega)]
    · rw [e]
  have hM1 := mdI_ge (rel_md hr) em
  refine r_aload_2 (pc := 368) q dL_law_368 ?_
  refine r_arg (pc := 369) w i0 (by decide) (by omega) dL_law_369 dL_law_370 dL_law_372 dL_law_373 dL_law_374 ?_
  refine r_arg (pc := 375) w i0 (by decide) (by omega) dL_law_375 dL_law_376 dL_law_378 dL_law_379 dL_law_380 ?_
  refine r_arg (pc := 381) w i0 (by decide) (by omega) dL_law_381 dL_law_382 dL_law_384 dL_law_385 dL_law_386 ?_
  refine r_cI3 (pc := 387) q (c_X12_habit hm (iI_in _) (iI_in _) (iI_in _) hM1.2.2.2.2.2.1.1 hM1.2.2.2.2.2.1.2.1) mL_50 hm.o ⟨by decide, by decide, by omega, by omega⟩ (Nat.le_of_ble_eq_true rfl) rfl dL_law_387 (fun z2 h2 p2 => ?_)
  obtain ⟨ez, hX⟩ := step_habit (Nat.le_refl _) hr p1 p2
  have hX := hX.X
  rw [ez]
  refine r_icmp_same (pc := 390) q 979 dL_law_390 (by decide) ?_
  exact G.w (by omega) (by omega) (nxt h2 sz l5 l6 hX)
theorem lw_c_sound (w : LwC X b L xv s1 s2) (hx : LX11 S r x) (hm : LX12 S r (x + 325)) (hrel : relX h x (x + 325)) (i0 : 0 ≤ i) (i6 : i + 6 ≤ L) (hk : k + 1 ≤ 601024) (hn : n + 6 ≤ 7293034) (nxt : nxL X k n b x i S r) : G X k n 395 [some (.ref b), some (.ref x), some (.ref (x + 325)), some (.ref (x + 354)), some (.int (iI i)), l5, l6] [] sz S r h := by
  obtain ⟨g, nn, u, un, rg, rn, sg, sn, hr⟩ := hrel
  have q := w.1
  have hI := hr.1
  refine r_aload_1 (pc := 395) q dL_law_395 ?_
  refine r_arg (pc := 396) w i0 (by decide) (by omega) dL_law_396 dL_law_397 dL_law_399 dL_law_400 dL_law_401 ?_
  refine r_arg (pc := 402) w i0 (by decide) (by omega) dL_law_402 dL_law_403 dL_law_405 dL_law_406 dL_law_407 ?_
  refine r_cI2 (pc := 408) q (c_X11_sound hx hI.2.2.2.2.2.1 (iI_in _) (iI_in _)) mL_51 hx.o ⟨by decide, by decide, by omega, by omega⟩ (Nat.le_of_ble_eq_true rfl) rfl dL_law_408 (fun z h1 p1 => ?_)
  have em : ∀ a : Nat, x + 325 ≤ a → h1 a = h a := fun a ha => by
    rcases p1 with ⟨-, -, e⟩ | ⟨-, -, e⟩
    · rw [e, up_n _ _ (show a ≠ x + 263 by omega)]
    · rw [e]
  have hM1 := mdI_ge (rel_md hr) em
  refine r_aload_2 (pc := 411) q dL_law_411 ?_
  refine r_arg (pc := 412) w i0 (by decide) (by omega) dL_law_412 dL_law_413 dL_law_415 dL_law_416 dL_law_417 ?_
  refine r_arg (pc := 418) w i0 (by decide) (by omega) dL_law_418 dL_law_419 dL_law_421 dL_law_422 dL_law_423 ?_
  refine r_cI2 (pc := 424) q (c_X12_sound hm hM1.2.1 (iI_in _) (iI_in _)) mL_55 hm.o ⟨by decide, by decide, by omega, by omega⟩ (Nat.le_of_ble_eq_true rfl) rfl dL_law_424 (fun z2 h2 p2 => ?_)
  obtain ⟨ez, hX⟩ := step_sound (Nat.le_refl _) hr p1 p2
  have hX := hX.X
  rw [ez]
  refine r_icmp_same (pc := 427) q 979 dL_law_427 (by decide) ?_
  exact G.w (by omega) (by omega) (nxt h2 sz l5 l6 hX)
theorem lw_c_costs (w : LwC X b L xv s1 s2) (hx : LX11 S r x) (hm : LX12 S r (x + 325)) (hrel : relX h x (x + 325)) (i0 : 0 ≤ i) (i6 : i + 6 ≤ L) (hk : k + 1 ≤ 601024) (hn : n + 6 ≤ 7293034) (nxt : nxL X k n b x i S r) : G X k n 432 [some (.ref b), some (.ref x), some (.ref (x + 325)), some (.ref (x + 354)), some (.int (iI i)), l5, l6] [] sz S r h := by
  obtain ⟨g, nn, u, un, rg, rn, sg, sn, hr⟩ := hrel
  have q := w.1
  have hI := hr.1
  refine r_aload_1 (pc := 432) q dL_law_432 ?_
  refine r_arg (pc := 433) w i0 (by decide) (by omega) dL_law_433 dL_law_434 dL_law_436 dL_law_437 dL_law_438 ?_
  refine r_arg (pc := 439) w i0 (by decide) (by omega) dL_law_439 dL_law_440 dL_law_442 dL_law_443 dL_law_444 ?_
  refine r_cI2 (pc := 445) q (c_X11_costs hx (iI_in _) (iI_in _)) mL_56 hx.o ⟨by decide, by decide, by omega, by omega⟩ (Nat.le_of_ble_eq_true rfl) rfl dL_law_445 (fun z h1 p1 => ?_)
  have em : ∀ a : Nat, x + 325 ≤ a → h1 a = h a := fun a ha => by
    rcases p1 with ⟨-, -, -, -, -, e⟩ | ⟨-, -, e⟩
    · rw [e, pf_o _ _ _ (show a ≠ x + 183 by omega), pf_o _ _ _ (show a ≠ x + 183 by omega)]
    · rw [e]
  have hM1 := mdI_ge (rel_md hr) em
  refine r_aload_2 (pc := 448) q dL_law_448 ?_
  refine r_arg (pc := 449) w i0 (by decide) (by omega) dL_law_449 dL_law_450 dL_law_452 dL_law_453 dL_law_454 ?_
  refine r_arg (pc := 455) w i0 (by decide) (by omega) dL_law_455 dL_law_456 dL_law_458 dL_law_459 dL_law_460 ?_
  refine r_cI2 (pc := 461) q (c_X12_costs hm (iI_in _) (iI_in _)) mL_59 hm.o ⟨by decide, by decide, by omega, by omega⟩ (Nat.le_of_ble_eq_true rfl) rfl dL_law_461 (fun z2 h2 p2 => ?_)
  obtain ⟨ez, hX⟩ := step_costs (Nat.le_refl _) hr p1 p2
  have hX := hX.X
  rw [ez]
  refine r_icmp_same (pc := 464) q 979 dL_law_464 (by decide) ?_
  exact G.w (by omega) (by omega) (nxt h2 sz l5 l6 hX)
theorem lw_c_day (w : LwC X b L xv s1 s2) (hx : LX11 S r x) (hm : LX12 S r (x + 325)) (hrel : relX h x (x + 325)) (i0 : 0 ≤ i) (i6 : i + 6 ≤ L) (hk : k + 1 ≤ 601024) (hn : n + 6 ≤ 7293034) (nxt : nxL X k n b x i S r) : G X k n 469 [some (.ref b), some (.ref x), some (.ref (x + 325)), some (.ref (x + 354)), some (.int (iI i)), l5, l6] [] sz S r h := by
  obtain ⟨g, nn, u, un, rg, rn, sg, sn, hr⟩ := hrel
  have q := w.1
  have hI := hr.1
  refine r_aload_1 (pc := 469) q dL_law_469 ?_
  refine r_arg (pc := 470) w i0 (by decide) (by omega) dL_law_470 dL_law_471 dL_law_473 dL_law_474 dL_law_475 ?_
  refine r_cI1 (pc := 476) q (c_X11_day hx (iI_in _) hI.2.2.2.2.2.2.1 hI.2.2.2.2.2.2.2) mL_60 hx.o ⟨by decide, by decide, by omega, by omega⟩ (Nat.le_of_ble_eq_true rfl) rfl dL_law_476 (fun z h1 p1 => ?_)
  have em : ∀ a : Nat, x + 325 ≤ a → h1 a = h a := fun a ha => by
    rcases p1 with ⟨-, -, -, -, e⟩ | ⟨-, -, e⟩
    · rw [e, pf_o _ _ _ (show a ≠ x by omega)]
    · rw [e]
  have hM1 := mdI_ge (rel_md hr) em
  refine r_aload_2 (pc := 479) q dL_law_479 ?_
  refine r_arg (pc := 480) w i0 (by decide) (by omega) dL_law_480 dL_law_481 dL_law_483 dL_law_484 dL_law_485 ?_
  refine r_cI1 (pc := 486) q (c_X12_day hm (iI_in _) hM1.2.2.2.2.2.2.2.1 hM1.2.2.2.2.2.2.2.2) mL_63 hm.o ⟨by decide, by decide, by omega, by omega⟩ (Nat.le_of_ble_eq_true rfl) rfl dL_law_486 (fun z2 h2 p2 => ?_)
  obtain ⟨ez, hX⟩ := step_day (Nat.le_refl _) hr p1 p2
  have hX := hX.X
  rw [ez]
  refine r_icmp_same (pc := 489) q 979 dL_law_489 (by decide) ?_
  exact G.w (by omega) (by omega) (nxt h2 sz l5 l6 hX)
theorem lw_c_apart (w : LwC X b L xv s1 s2) (hx : LX11 S r x) (hm : LX12 S r (x + 325)) (hrel : relX h x (x + 325)) (i0 : 0 ≤ i) (i6 : i + 6 ≤ L) (hk : k + 1 ≤ 601024) (hn : n + 6 ≤ 7293034) (nxt : nxL X k n b x i S r) : G X k n 494 [some (.ref b), some (.ref x), some (.ref (x + 325)), some (.ref (x + 354)), some (.int (iI i)), l5, l6] [] sz S r h := by
  obtain ⟨g, nn, u, un, rg, rn, sg, sn, hr⟩ := hrel
  have q := w.1
  have hI := hr.1
  refine r_aload_1 (pc := 494) q dL_law_494 ?_
  refine r_arg (pc := 495) w i0 (by decide) (by omega) dL_law_495 dL_law_496 dL_law_498 dL_law_499 dL_law_500 ?_
  refine r_arg (pc := 501) w i0 (by decide) (by omega) dL_law_501 dL_law_502 dL_law_504 dL_law_505 dL_law_506 ?_
  refine r_cI2 (pc := 507) q (c_X11_apart hx hI (iI_in _) (iI_in _)) mL_64 hx.o ⟨by decide, by decide, by omega, by omega⟩ (Nat.le_of_ble_eq_true rfl) rfl dL_law_507 (fun z h1 p1 => ?_)
  have em : ∀ a : Nat, x + 325 ≤ a → h1 a = h a := fun a ha => by
    exact p1.2.1 a (by omega) (by omega) (by omega) (by omega)
  have hM1 := mdI_ge (rel_md hr) em
  refine r_aload_2 (pc := 510) q dL_law_510 ?_
  refine r_arg (pc := 511) w i0 (by decide) (by omega) dL_law_511 dL_law_512 dL_law_514 dL_law_515 dL_law_516 ?_
  refine r_arg (pc := 517) w i0 (by decide) (by omega) dL_law_517 dL_law_518 dL_law_520 dL_law_521 dL_law_522 ?_
  refine r_cI2 (pc := 523) q (c_X12_apart_ hm hM1.1.1 hM1.1.2 hM1.2.1 (iI_in _) (iI_in _) hM1.2.2.1 hM1.2.2.2.1) mL_67 hm.o ⟨by decide, by decide, by omega, by omega⟩ (Nat.le_of_ble_eq_true rfl) rfl dL_law_523 (fun z2 h2 p2 => ?_)
  have ez := same_apart hr em p1.2.2 p2.2.2
  have hX := step_apart (Nat.le_refl _) hr p1.1 p1.2.1 p2.1 p2.2.1
  rw [ez]
  refine r_icmp_same (pc := 526) q 979 dL_law_526 (by decide) ?_
  exact G.w (by omega) (by omega) (nxt h2 sz l5 l6 hX)
theorem lw_c_reading (w : LwC X b L xv s1 s2) (hx : LX11 S r x) (hm : LX12 S r (x + 325)) (hrel : relX h x (x + 325)) (i0 : 0 ≤ i) (i6 : i + 6 ≤ L) (hk : k + 1 ≤ 601024) (hn : n + 6 ≤ 7293034) (nxt : nxL X k n b x i S r) : G X k n 531 [some (.ref b), some (.ref x), some (.ref (x + 325)), some (.ref (x + 354)), some (.int (iI i)), l5, l6] [] sz S r h := by
  obtain ⟨g, nn, u, un, rg, rn, sg, sn, hr⟩ := hrel
  have q := w.1
  have hI := hr.1
  refine r_aload_1 (pc := 531) q dL_law_531 ?_
  refine r_arg (pc := 532) w i0 (by decide) (by omega) dL_law_532 dL_law_533 dL_law_535 dL_law_536 dL_law_537 ?_
  refine r_arg (pc := 538) w i0 (by decide) (by omega) dL_law_538 dL_law_539 dL_law_541 dL_law_542 dL_law_543 ?_
  refine r_arg (pc := 544) w i0 (by decide) (by omega) dL_law_544 dL_law_545 dL_law_547 dL_law_548 dL_law_549 ?_
  refine r_cI3 (pc := 550) q (c_X11_reading hx hI (iI_in _) (iI_in _) (iI_in _)) mL_68 hx.o ⟨by decide, by decide, by omega, by omega⟩ (Nat.le_of_ble_eq_true rfl) rfl dL_law_550 (fun z h1 p1 => ?_)
  have em : ∀ a : Nat, x + 325 ≤ a → h1 a = h a := fun a ha => by
    exact p1.1 a (by omega)
  have hM1 := mdI_ge (rel_md hr) em
  refine r_aload_2 (pc := 553) q dL_law_553 ?_
  refine r_arg (pc := 554) w i0 (by decide) (by omega) dL_law_554 dL_law_555 dL_law_557 dL_law_558 dL_law_559 ?_
  refine r_arg (pc := 560) w i0 (by decide) (by omega) dL_law_560 dL_law_561 dL_law_563 dL_law_564 dL_law_565 ?_
  refine r_arg (pc := 566) w i0 (by decide) (by omega) dL_law_566 dL_law_567 dL_law_569 dL_law_570 dL_law_571 ?_
  refine r_cI3 (pc := 572) q (c_X12_reading hm (iI_in _) (iI_in _) (iI_in _) hM1.2.2.1 hM1.2.2.2.2.1 hM1.2.2.2.2.2.1) mL_71 hm.o ⟨by decide, by decide, by omega, by omega⟩ (Nat.le_of_ble_eq_true rfl) rfl dL_law_572 (fun z2 h2 p2 => ?_)
  have ez := same_reading hr em p1.2 p2.2
  have hr1 := rel_fr hr (h2 := h1) (fun a _ a1 _ => p1.1 a (by omega)) (fun a a0 _ _ => em a (by omega)) (fun k _ => by rw [em _ (Nat.le_refl _)])
  have hX := (rel_th (Nat.le_refl _) hr1 p2.1).X
  rw [ez]
  refine r_icmp_same (pc := 575) q 979 dL_law_575 (by decide) ?_
  exact G.w (by omega) (by omega) (nxt h2 sz l5 l6 hX)
theorem lw_c_best (w : LwC X b L xv s1 s2) (hx : LX11 S r x) (hm : LX12 S r (x + 325)) (hrel : relX h x (x + 325)) (i0 : 0 ≤ i) (i6 : i + 6 ≤ L) (hk : k + 1 ≤ 601024) (hn : n + 6 ≤ 7293034) (nxt : nxL X k n b x i S r) : G X k n 580 [some (.ref b), some (.ref x), some (.ref (x + 325)), some (.ref (x + 354)), some (.int (iI i)), l5, l6] [] sz S r h := by
  obtain ⟨g, nn, u, un, rg, rn, sg, sn, hr⟩ := hrel
  have q := w.1
  have hI := hr.1
  refine r_aload_1 (pc := 580) q dL_law_580 ?_
  refine r_arg (pc := 581) w i0 (by decide) (by omega) dL_law_581 dL_law_582 dL_law_584 dL_law_585 dL_law_586 ?_
  refine r_arg (pc := 587) w i0 (by decide) (by omega) dL_law_587 dL_law_588 dL_law_590 dL_law_591 dL_law_592 ?_
  refine r_cI2 (pc := 593) q (c_X11_best hx hI (iI_in _) (iI_in _)) mL_72 hx.o ⟨by decide, by decide, by omega, by omega⟩ (Nat.le_of_ble_eq_true rfl) rfl dL_law_593 (fun z h1 p1 => ?_)
  have em : ∀ a : Nat, x + 325 ≤ a → h1 a = h a := fun a ha => by
    exact p1.1 a (by omega) (by omega) (fun l _ => by omega)
  have hM1 := mdI_ge (rel_md hr) em
  refine r_aload_2 (pc := 596) q dL_law_596 ?_
  refine r_arg (pc := 597) w i0 (by decide) (by omega) dL_law_597 dL_law_598 dL_law_600 dL_law_601 dL_law_602 ?_
  refine r_arg (pc := 603) w i0 (by decide) (by omega) dL_law_603 dL_law_604 dL_law_606 dL_law_607 dL_law_608 ?_
  refine r_cI2 (pc := 609) q (c_X12_best hm hM1 (iI_in _) (iI_in _)) mL_75 hm.o ⟨by decide, by decide, by omega, by omega⟩ (Nat.le_of_ble_eq_true rfl) rfl dL_law_609 (fun z2 h2 p2 => ?_)
  have ez := same_best (Nat.le_refl _) hr p1.1 p1.2 p2.2.2
  have hX := ((rel_ask (Nat.le_refl _) hr p1.1).2 ⟨fun a a0 a3 ac => p2.1 a a0 a3 (by omega) (by omega) (by omega) (by omega) (by omega), p2.2.1⟩).X
  rw [ez]
  refine r_icmp_same (pc := 612) q 979 dL_law_612 (by decide) ?_
  exact G.w (by omega) (by omega) (nxt h2 sz l5 l6 hX)
theorem lw_c_at (w : LwC X b L xv s1 s2) (hx : LX11 S r x) (hm : LX12 S r (x + 325)) (hrel : relX h x (x + 325)) (i0 : 0 ≤ i) (i6 : i + 6 ≤ L) (hk : k + 1 ≤ 601024) (hn : n + 6 ≤ 7293034) (nxt : nxL X k n b x i S r) : G X k n 617 [some (.ref b), some (.ref x), some (.ref (x + 325)), some (.ref (x + 354)), some (.int (iI i)), l5, l6] [] sz S r h := by
  obtain ⟨g, nn, u, un, rg, rn, sg, sn, hr⟩ := hrel
  have q := w.1
  have hI := hr.1
  refine r_aload_1 (pc := 617) q dL_law_617 ?_
  refine r_arg (pc := 618) w i0 (by decide) (by omega) dL_law_618 dL_law_619 dL_law_621 dL_law_622 dL_law_623 ?_
  refine r_arg (pc := 624) w i0 (by decide) (by omega) dL_law_624 dL_law_625 dL_law_627 dL_law_628 dL_law_629 ?_
  refine r_arg (pc := 630) w i0 (by decide) (by omega) dL_law_630 dL_law_631 dL_law_633 dL_law_634 dL_law_635 ?_
  refine r_cI3 (pc := 636) q (c_X11_at hx hI (iI_in _) (iI_in _) (iI_in _)) mL_76 hx.o ⟨by decide, by decide, by omega, by omega⟩ (Nat.le_of_ble_eq_true rfl) rfl dL_law_636 (fun z h1 p1 => ?_)
  have em : ∀ a : Nat, x + 325 ≤ a → h1 a = h a := fun a ha => by
    exact p1.1 a (by omega) (by omega) (fun l _ => by omega)
  have hM1 := mdI_ge (rel_md hr) em
  refine r_aload_2 (pc := 639) q dL_law_639 ?_
  refine r_arg (pc := 640) w i0 (by decide) (by omega) dL_law_640 dL_law_641 dL_law_643 dL_law_644 dL_law_645 ?_
  refine r_arg (pc := 646) w i0 (by decide) (by omega) dL_law_646 dL_law_647 dL_law_649 dL_law_650 dL_law_651 ?_
  refine r_arg (pc := 652) w i0 (by decide) (by omega) dL_law_652 dL_law_653 dL_law_655 dL_law_656 dL_law_657 ?_
  refine r_cI3 (pc := 658) q (c_X12_at hm hM1 (iI_in _) (iI_in _) (iI_in _)) mL_79 hm.o ⟨by decide, by decide, by omega, by omega⟩ (Nat.le_of_ble_eq_true rfl) rfl dL_law_658 (fun z2 h2 p2 => ?_)
  have ez := same_at (Nat.le_refl _) hr p1.1 p1.2 p2.2
  have hX := ((rel_ask (Nat.le_refl _) hr p1.1).2 p2.1).X
  rw [ez]
  refine r_icmp_same (pc := 661) q 979 dL_law_661 (by decide) ?_
  exact G.w (by omega) (by omega) (nxt h2 sz l5 l6 hX)
theorem lw_c_span (w : LwC X b L xv s1 s2) (hx : LX11 S r x) (hm : LX12 S r (x + 325)) (hrel : relX h x (x + 325)) (i0 : 0 ≤ i) (i6 : i + 6 ≤ L) (hk : k + 1 ≤ 601024) (hn : n + 6 ≤ 7293034) (nxt : nxL X k n b x i S r) : G X k n 666 [some (.ref b), some (.ref x), some (.ref (x + 325)), some (.ref (x + 354)), some (.int (iI i)), l5, l6] [] sz S r h := by
  obtain ⟨g, nn, u, un, rg, rn, sg, sn, hr⟩ := hrel
  have q := w.1
  have hI := hr.1
  refine r_aload_1 (pc := 666) q dL_law_666 ?_
  refine r_arg (pc := 667) w i0 (by decide) (by omega) dL_law_667 dL_law_668 dL_law_670 dL_law_671 dL_law_672 ?_
  refine r_arg (pc := 673) w i0 (by decide) (by omega) dL_law_673 dL_law_674 dL_law_676 dL_law_677 dL_law_678 ?_
  refine r_arg (pc := 679) w i0 (by decide) (by omega) dL_law_679 dL_law_680 dL_law_682 dL_law_683 dL_law_684 ?_
  refine r_arg (pc := 685) w i0 (by decide) (by omega) dL_law_685 dL_law_686 dL_law_688 dL_law_689 dL_law_690 ?_
  refine r_arg (pc := 691) w i0 (by decide) (by omega) dL_law_691 dL_law_692 dL_law_694 dL_law_695 dL_law_696 ?_
  refine r_cI5 (pc := 697) q (c_X11_span hx hI (iI_in _) (iI_in _) (iI_in _) (iI_in _) (iI_in _)) mL_80 hx.o ⟨by decide, by decide, by omega, by omega⟩ (Nat.le_of_ble_eq_true rfl) rfl dL_law_697 (fun z h1 p1 => ?_)
  have em : ∀ a : Nat, x + 325 ≤ a → h1 a = h a := fun a ha => by
    exact p1.1 a (by omega) (by omega) (fun l _ => by omega)
  have hM1 := mdI_ge (rel_md hr) em
  refine r_aload_2 (pc := 700) q dL_law_700 ?_
  refine r_arg (pc := 701) w i0 (by decide) (by omega) dL_law_701 dL_law_702 dL_law_704 dL_law_705 dL_law_706 ?_
  refine r_arg (pc := 707) w i0 (by decide) (by omega) dL_law_707 dL_law_708 dL_law_710 dL_law_711 dL_law_712 ?_
  refine r_arg (pc := 713) w i0 (by decide) (by omega) dL_law_713 dL_law_714 dL_law_716 dL_law_717 dL_law_718 ?_
  refine r_arg (pc := 719) w i0 (by decide) (by omega) dL_law_719 dL_law_720 dL_law_722 dL_law_723 dL_law_724 ?_
  refine r_arg (pc := 725) w i0 (by decide) (by omega) dL_law_725 dL_law_726 dL_law_728 dL_law_729 dL_law_730 ?_
  refine r_cI5 (pc := 731) q (c_X12_span hm hM1 (iI_in _) (iI_in _) (iI_in _) (iI_in _) (iI_in _)) mL_83 hm.o ⟨by decide, by decide, by omega, by omega⟩ (Nat.le_of_ble_eq_true rfl) rfl dL_law_731 (fun z2 h2 p2 => ?_)
  have ez := same_span (Nat.le_refl _) hr p1.1 p1.2 p2.2
  have hX := ((rel_ask (Nat.le_refl _) hr p1.1).2 p2.1).X
  rw [ez]
  refine r_icmp_same (pc := 734) q 979 dL_law_734 (by decide) ?_
  exact G.w (by omega) (by omega) (nxt h2 sz l5 l6 hX)
theorem lw_c_rivals (w : LwC X b L xv s1 s2) (hx : LX11 S r x) (hm : LX12 S r (x + 325)) (hrel : relX h x (x + 325)) (i0 : 0 ≤ i) (i6 : i + 6 ≤ L) (hk : k + 1 ≤ 601024) (hn : n + 6 ≤ 7293034) (nxt : nxL X k n b x i S r) : G X k n 739 [some (.ref b), some (.ref x), some (.ref (x + 325)), some (.ref (x + 354)), some (.int (iI i)), l5, l6] [] sz S r h := by
  obtain ⟨g, nn, u, un, rg, rn, sg, sn, hr⟩ := hrel
  have q := w.1
  have hI := hr.1
  refine r_aload_1 (pc := 739) q dL_law_739 ?_
  refine r_arg (pc := 740) w i0 (by decide) (by omega) dL_law_740 dL_law_741 dL_law_743 dL_law_744 dL_law_745 ?_
  refine r_arg (pc := 746) w i0 (by decide) (by omega) dL_law_746 dL_law_747 dL_law_749 dL_law_750 dL_law_751 ?_
  refine r_arg (pc := 752) w i0 (by decide) (by omega) dL_law_752 dL_law_753 dL_law_755 dL_law_756 dL_law_757 ?_
  refine r_cI3 (pc := 758) q (c_X11_rivals hx hI (iI_in _) (iI_in _) (iI_in _)) mL_84 hx.o ⟨by decide, by decide, by omega, by omega⟩ (Nat.le_of_ble_eq_true rfl) rfl dL_law_758 (fun z h1 p1 => ?_)
  have em : ∀ a : Nat, x + 325 ≤ a → h1 a = h a := fun a ha => by
    exact p1.1 a (by omega) (by omega) (fun l _ => by omega)
  have hM1 := mdI_ge (rel_md hr) em
  refine r_aload_2 (pc := 761) q dL_law_761 ?_
  refine r_arg (pc := 762) w i0 (by decide) (by omega) dL_law_762 dL_law_763 dL_law_765 dL_law_766 dL_law_767 ?_
  refine r_arg (pc := 768) w i0 (by decide) (by omega) dL_law_768 dL_law_769 dL_law_771 dL_law_772 dL_law_773 ?_
  refine r_arg (pc := 774) w i0 (by decide) (by omega) dL_law_774 dL_law_775 dL_law_777 dL_law_778 dL_law_779 ?_
  refine r_cI3 (pc := 780) q (c_X12_rivals hm hM1 (iI_in _) (iI_in _) (iI_in _)) mL_87 hm.o ⟨by decide, by decide, by omega, by omega⟩ (Nat.le_of_ble_eq_true rfl) rfl dL_law_780 (fun z2 h2 p2 => ?_)
  have ez := same_rivals (Nat.le_refl _) hr p1.1 p1.2 p2.2
  have hX := ((rel_ask (Nat.le_refl _) hr p1.1).2 p2.1).X
  rw [ez]
  refine r_icmp_same (pc := 783) q 979 dL_law_783 (by decide) ?_
  exact G.w (by omega) (by omega) (nxt h2 sz l5 l6 hX)
theorem lw_c_shared (w : LwC X b L xv s1 s2) (hx : LX11 S r x) (hm : LX12 S r (x + 325)) (hrel : relX h x (x + 325)) (i0 : 0 ≤ i) (i6 : i + 6 ≤ L) (hk : k + 1 ≤ 601024) (hn : n + 6 ≤ 7293034) (nxt : nxL X k n b x i S r) : G X k n 788 [some (.ref b), some (.ref x), some (.ref (x + 325)), some (.ref (x + 354)), some (.int (iI i)), l5, l6] [] sz S r h := by
  obtain ⟨g, nn, u, un, rg, rn, sg, sn, hr⟩ := hrel
  have q := w.1
  have hI := hr.1
  refine r_aload_1 (pc := 788) q dL_law_788 ?_
  refine r_arg (pc := 789) w i0 (by decide) (by omega) dL_law_789 dL_law_790 dL_law_792 dL_law_793 dL_law_794 ?_
  refine r_arg (pc := 795) w i0 (by decide) (by omega) dL_law_795 dL_law_796 dL_law_798 dL_law_799 dL_law_800 ?_
  refine r_arg (pc := 801) w i0 (by decide) (by omega) dL_law_801 dL_law_802 dL_law_804 dL_law_805 dL_law_806 ?_
  refine r_cI3 (pc := 807) q (c_X11_shared hx hI (iI_in _) (iI_in _) (iI_in _)) mL_88 hx.o ⟨by decide, by decide, by omega, by omega⟩ (Nat.le_of_ble_eq_true rfl) rfl dL_law_807 (fun z h1 p1 => ?_)
  have em : ∀ a : Nat, x + 325 ≤ a → h1 a = h a := fun a ha => by
    exact p1.1 a (by omega) (by omega) (fun l _ => by omega)
  have hM1 := mdI_ge (rel_md hr) em
  refine r_aload_2 (pc := 810) q dL_law_810 ?_
  refine r_arg (pc := 811) w i0 (by decide) (by omega) dL_law_811 dL_law_812 dL_law_814 dL_law_815 dL_law_816 ?_
  refine r_arg (pc := 817) w i0 (by decide) (by omega) dL_law_817 dL_law_818 dL_law_820 dL_law_821 dL_law_822 ?_
  refine r_arg (pc := 823) w i0 (by decide) (by omega) dL_law_823 dL_law_824 dL_law_826 dL_law_827 dL_law_828 ?_
  refine r_cI3 (pc := 829) q (c_X12_shared hm hM1 (iI_in _) (iI_in _) (iI_in _)) mL_91 hm.o ⟨by decide, by decide, by omega, by omega⟩ (Nat.le_of_ble_eq_true rfl) rfl dL_law_829 (fun z2 h2 p2 => ?_)
  have ez := same_shared (Nat.le_refl _) hr p1.1 p1.2 p2.2
  have hX := ((rel_ask (Nat.le_refl _) hr p1.1).2 p2.1).X
  rw [ez]
  refine r_icmp_same (pc := 832) q 979 dL_law_832 (by decide) ?_
  exact G.w (by omega) (by omega) (nxt h2 sz l5 l6 hX)
theorem lw_c_letter (w : LwC X b L xv s1 s2) (hx : LX11 S r x) (hm : LX12 S r (x + 325)) (hrel : relX h x (x + 325)) (i0 : 0 ≤ i) (i6 : i + 6 ≤ L) (hk : k + 1 ≤ 601024) (hn : n + 6 ≤ 7293034) (nxt : nxL X k n b x i S r) : G X k n 905 [some (.ref b), some (.ref x), some (.ref (x + 325)), some (.ref (x + 354)), some (.int (iI i)), l5, l6] [] sz S r h := by
  obtain ⟨g, nn, u, un, rg, rn, sg, sn, hr⟩ := hrel
  have q := w.1
  have hI := hr.1
  refine r_aload_1 (pc := 905) q dL_law_905 ?_
  refine r_arg (pc := 906) w i0 (by decide) (by omega) dL_law_906 dL_law_907 dL_law_909 dL_law_910 dL_law_911 ?_
  refine r_arg (pc := 912) w i0 (by decide) (by omega) dL_law_912 dL_law_913 dL_law_915 dL_law_916 dL_law_917 ?_
  refine r_arg (pc := 918) w i0 (by decide) (by omega) dL_law_918 dL_law_919 dL_law_921 dL_law_922 dL_law_923 ?_
  refine r_cI3 (pc := 924) q (c_X11_letter hx hI (iI_in _) (iI_in _) (iI_in _)) mL_101 hx.o ⟨by decide, by decide, by omega, by omega⟩ (Nat.le_of_ble_eq_true rfl) rfl dL_law_924 (fun z h1 p1 => ?_)
  have em : ∀ a : Nat, x + 325 ≤ a → h1 a = h a := fun a ha => by
    rw [← p1.2]
  have hM1 := mdI_ge (rel_md hr) em
  refine r_aload_2 (pc := 927) q dL_law_927 ?_
  refine r_arg (pc := 928) w i0 (by decide) (by omega) dL_law_928 dL_law_929 dL_law_931 dL_law_932 dL_law_933 ?_
  refine r_arg (pc := 934) w i0 (by decide) (by omega) dL_law_934 dL_law_935 dL_law_937 dL_law_938 dL_law_939 ?_
  refine r_arg (pc := 940) w i0 (by decide) (by omega) dL_law_940 dL_law_941 dL_law_943 dL_law_944 dL_law_945 ?_
  refine r_cI3 (pc := 946) q (c_X12_letter hm (iI_in _) (iI_in _) (iI_in _) hM1.2.2.1 hM1.2.2.2.1) mL_104 hm.o ⟨by decide, by decide, by omega, by omega⟩ (Nat.le_of_ble_eq_true rfl) rfl dL_law_946 (fun z2 h2 p2 => ?_)
  have ez := same_letter hr em p1.1 p2.2
  have hX : relX h2 x (x + 325) := by
    obtain ⟨-, e⟩ := p1
    subst e
    exact (rel_th (Nat.le_refl _) hr p2.1).X
  rw [ez]
  refine r_icmp_same (pc := 949) q 979 dL_law_949 (by decide) ?_
  exact G.w (by omega) (by omega) (nxt h2 sz l5 l6 hX)
theorem lw_c_count (w : LwC X b L xv s1 s2) (hx : LX11 S r x) (hm : LX12 S r (x + 325)) (hrel : relX h x (x + 325)) (i0 : 0 ≤ i) (i6 : i + 6 ≤ L) (hk : k + 1 ≤ 601024) (hn : n + 6 ≤ 7293034) (nxt : nxL X k n b x i S r) : G X k n 954 [some (.ref b), some (.ref x), some (.ref (x + 325)), some (.ref (x + 354)), some (.int (iI i)), l5, l6] [] sz S r h := by
  obtain ⟨g, nn, u, un, rg, rn, sg, sn, hr⟩ := hrel
  have q := w.1
  have hI := hr.1
  refine r_aload_1 (pc := 954) q dL_law_954 ?_
  refine r_arg (pc := 955) w i0 (by decide) (by omega) dL_law_955 dL_law_956 dL_law_958 dL_law_959 dL_law_960 ?_
  refine r_cI1 (pc := 961) q (c_X11_count hx (iI_in _) hI.2.2.2.1.1.1 hI.2.2.2.1.1.2) mL_105 hx.o ⟨by decide, by decide, by omega, by omega⟩ (Nat.le_of_ble_eq_true rfl) rfl dL_law_961 (fun z h1 p1 => ?_)
  have em : ∀ a : Nat, x + 325 ≤ a → h1 a = h a := fun a ha => by
    rw [← p1.2]
  have hM1 := mdI_ge (rel_md hr) em
  refine r_aload_2 (pc := 964) q dL_law_964 ?_
  refine r_arg (pc := 965) w i0 (by decide) (by omega) dL_law_965 dL_law_966 dL_law_968 dL_law_969 dL_law_970 ?_
  refine r_cI1 (pc := 971) q (c_X12_count hm (iI_in _) hM1.2.2.2.2.2.2.1.1.1 hM1.2.2.2.2.2.2.1.1.2) mL_108 hm.o ⟨by decide, by decide, by omega, by omega⟩ (Nat.le_of_ble_eq_true rfl) rfl dL_law_971 (fun z2 h2 p2 => ?_)
  obtain ⟨p1a, p1b⟩ := p1
  subst p1b
  have ez : z = z2 := by rw [← p1a, p2.1]; exact same_count hr _
  have hX := (rel_th (Nat.le_refl _) hr p2.2).X
  rw [ez]
  refine r_icmp_same (pc := 974) q 979 dL_law_974 (by decide) ?_
  exact G.w (by omega) (by omega) (nxt h2 sz l5 l6 hX)
end LWS
