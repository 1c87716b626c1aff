/-- while a text is read, only the fifth row and the fields of reading change -/
def lsF (h h2 : sH) (m : Nat) : Prop := (∀ x : Nat, x ≠ m → x ≠ m + 5 → x ≠ m + 6 → x ≠ m + 7 → x ≠ m + 8 → h2 x = h x) ∧ (∀ x : Int, x ≠ 4 → h2 (m + 5) x = h (m + 5) x) ∧ (∀ x : Int, x < 40 → h2 (m + 6) x = h (m + 6) x) ∧ (∀ x : Int, x < 360 → h2 (m + 7) x = h (m + 7) x) ∧ (∀ x : Int, x < 40 → h2 (m + 8) x = h (m + 8) x) ∧ h2 m 0 = 0 ∧ ∀ k : Int, k ≠ 0 → k ≠ 11 → k ≠ 12 → k ≠ 13 → h2 m k = h m k
def lsN (b : Int → Int) (h2 : sH) (m : Nat) (n nn : Int) (ns nl us ul : Int → Int) : Prop := h2 (m + 5) 4 = n ∧ (∀ i : Int, 0 ≤ i → i < n → NmP (h2 (m + 6) (40 + i)) (fun j => b (ns i + j)) (nl i)) ∧ ∀ i : Int, 0 ≤ i → i < nn → h2 (m + 8) (40 + i) = ul i ∧ (1 ≤ ul i ∧ ul i ≤ 8) ∧ ∀ j : Int, 0 ≤ j → j < ul i → h2 (m + 7) (9 * (40 + i) + j) = signC (b (us i + j)) ∧ 1 ≤ signC (b (us i + j))
theorem lsF_pf {h h2 : sH} {m : Nat} (f : lsF h h2 m) {k z : Int} (hk : k = 11 ∨ k = 12 ∨ k = 13) : lsF h (pf h2 m k z) m := by
  obtain ⟨f1, f2, f3, f4, f5, f6, f7⟩ := f
  refine ⟨fun x x0 x1 x2 x3 x4 => by rw [pf_o _ k z x0]; exact f1 x x0 x1 x2 x3 x4, fun x x0 => by rw [pf_o _ k z (by omega)]; exact f2 x x0, fun x x0 => by rw [pf_o _ k z (by omega)]; exact f3 x x0, fun x x0 => by rw [pf_o _ k z (by omega)]; exact f4 x x0, fun x x0 => by rw [pf_o _ k z (by omega)]; exact f5 x x0, by rw [pf_f _ m z (by omega)]; exact f6, fun x x0 x1 x2 x3 => by rw [pf_f _ m z (by omega)]; exact f7 x x0 x1 x2 x3⟩
theorem lsN_pf {b : Int → Int} {h2 : sH} {m : Nat} {n nn : Int} {ns nl us ul : Int → Int} (f : lsN b h2 m n nn ns nl us ul) {k z : Int} : lsN b (pf h2 m k z) m n nn ns nl us ul := by
  unfold lsN at f ⊢
  rw [pf_o _ k z (show m + 5 ≠ m by omega), pf_o _ k z (show m + 6 ≠ m by omega), pf_o _ k z (show m + 7 ≠ m by omega), pf_o _ k z (show m + 8 ≠ m by omega)]
  exact f
def cpW (w : Int → Int) (b o e x : Int) : Int := if b ≤ x ∧ x < b + e then w (x + o) else w x
/-- the fifth row laid into row L -/
def lsC (h4 h5 : sH) (m : Nat) (L u n : Int) : Prop := (∀ x : Nat, x ≠ m → x ≠ m + 4 → x ≠ m + 5 → x ≠ m + 6 → x ≠ m + 7 → x ≠ m + 8 → h5 x = h4 x) ∧ h5 m = up (h4 m) 5 (L + 1) ∧ h5 (m + 4) = up (h4 (m + 4)) L u ∧ h5 (m + 5) = up (h4 (m + 5)) L n ∧ (∀ x : Int, h5 (m + 6) x = cpW (h4 (m + 6)) (10 * L) (40 - 10 * L) 10 x) ∧ (∀ x : Int, h5 (m + 8) x = cpW (h4 (m + 8)) (10 * L) (40 - 10 * L) 10 x) ∧ ∀ x : Int, h5 (m + 7) x = cpW (h4 (m + 7)) (90 * L) (360 - 90 * L) 90 x
def fn0 : Int → Int := fun _ => 0
/-- what list leaves -/
def lsP (h h1 : sH) (m : Nat) (u z : Int) : Prop := (∀ x : Nat, x ≠ m → x ≠ m + 4 → x ≠ m + 5 → x ≠ m + 6 → x ≠ m + 7 → x ≠ m + 8 → h1 x = h x) ∧ ∃ (k p n : Int) (ns nl us ul : Int → Int), PR (bA h m) (h m 2) 0 true 0 fn0 fn0 fn0 fn0 = (k, p, n, ns, nl, us, ul) ∧ h1 m 0 = 0 ∧ h1 m 2 = 0 ∧ h1 m 12 = p ∧ (∀ x : Int, x ≠ 0 → x ≠ 2 → x ≠ 5 → x ≠ 11 → x ≠ 12 → x ≠ 13 → h1 m x = h m x) ∧ ((1 ≤ k ∧ k ≤ 3 ∧ z = -1 - k ∧ h1 m 5 = h m 5 ∧ h1 (m + 4) = h (m + 4) ∧ (∀ x : Int, x ≠ 4 → h1 (m + 5) x = h (m + 5) x) ∧ (∀ x : Int, x < 40 → h1 (m + 6) x = h (m + 6) x) ∧ (∀ x : Int, x < 360 → h1 (m + 7) x = h (m + 7) x) ∧ (∀ x : Int, x < 40 → h1 (m + 8) x = h (m + 8) x)) ∨ (k = 0 ∧ p = -1 ∧ (2 ≤ n ∧ n ≤ 10) ∧ z = h m 5 ∧ h1 m 5 = h m 5 + 1 ∧ h1 (m + 4) = up (h (m + 4)) (h m 5) u ∧ h1 (m + 5) (h m 5) = n ∧ (∀ x : Int, x ≠ 4 → x ≠ h m 5 → h1 (m + 5) x = h (m + 5) x) ∧ (∀ i : Int, 0 ≤ i → i < n → NmP (h1 (m + 6) (10 * h m 5 + i)) (fun j => bA h m (ns i + j)) (nl i)) ∧ (∀ x : Int, x < 10 * h m 5 → h1 (m + 6) x = h (m + 6) x) ∧ (∀ i : Int, 0 ≤ i → i + 1 < n → h1 (m + 8) (10 * h m 5 + i) = ul i ∧ (1 ≤ ul i ∧ ul i ≤ 8) ∧ ∀ j : Int, 0 ≤ j → j < ul i → h1 (m + 7) (9 * (10 * h m 5 + i) + j) = signC (bA h m (us i + j)) ∧ 1 ≤ signC (bA h m (us i + j))) ∧ (∀ x : Int, x < 10 * h m 5 → h1 (m + 8) x = h (m + 8) x) ∧ (∀ x : Int, x < 90 * h m 5 → h1 (m + 7) x = h (m + 7) x)))
theorem lsP_bad {h h2 : sH} {m : Nat} {u k p n : Int} {ns nl us ul : Int → Int} (f : lsF h h2 m) (hP : PR (bA h m) (h m 2) 0 true 0 fn0 fn0 fn0 fn0 = (k, p, n, ns, nl, us, ul)) (k1 : 1 ≤ k) (k3 : k ≤ 3) (e12 : h2 m 12 = p) : lsP h (pf h2 m 2 0) m u (-1 - k) := by
  obtain ⟨f1, f2, f3, f4, f5, f6, f7⟩ := f
  have o : ∀ x : Nat, x ≠ m → pf h2 m 2 0 x = h2 x := fun x e => pf_o _ 2 0 e
  refine ⟨fun x x0 _ x1 x2 x3 x4 => by rw [o x x0]; exact f1 x x0 x1 x2 x3 x4, k, p, n, ns, nl, us, ul, hP, by rw [pf_f _ m 0 (by decide)]; exact f6, pf_s _ _ _ _, by rw [pf_f _ m 0 (by decide)]; exact e12, fun x x0 x2 x5 x11 x12 x13 => by rw [pf_f _ m 0 x2]; exact f7 x x0 x11 x12 x13, Or.inl ⟨k1, k3, rfl, by rw [pf_f _ m 0 (by decide)]; exact f7 5 (by decide) (by decide) (by decide) (by decide), by rw [o _ (by omega)]; exact f1 _ (by omega) (by omega) (by omega) (by omega) (by omega), fun x x0 => by rw [o _ (by omega)]; exact f2 x x0, fun x x0 => by rw [o _ (by omega)]; exact f3 x x0, fun x x0 => by rw [o _ (by omega)]; exact f4 x x0, fun x x0 => by rw [o _ (by omega)]; exact f5 x x0⟩⟩
theorem lsP_ok {h h2 h5 : sH} {m : Nat} {u n : Int} {ns nl us ul : Int → Int} (f : lsF h h2 m) (hN : lsN (bA h m) h2 m n (n - 1) ns nl us ul) (n2 : 2 ≤ n) (n10 : n ≤ 10) (L0 : 0 ≤ h m 5) (L3 : h m 5 ≤ 3) (hP : PR (bA h m) (h m 2) 0 true 0 fn0 fn0 fn0 fn0 = (0, -1, n, ns, nl, us, ul)) (e12 : h2 m 12 = -1) (hC : lsC (pf h2 m 2 0) h5 m (h m 5) u n) : lsP h h5 m u (h m 5) := by
  obtain ⟨f1, f2, f3, f4, f5, f6, f7⟩ := f
  obtain ⟨N1, N2, N3⟩ := hN
  obtain ⟨c1, c2, c3, c4, c5, c6, c7⟩ := hC
  have o : ∀ x : Nat, x ≠ m → pf h2 m 2 0 x = h2 x := fun x e => pf_o _ 2 0 e
  rw [o (m + 4) (by omega)] at c3
  rw [o (m + 5) (by omega)] at c4
  rw [o (m + 6) (by omega)] at c5
  rw [o (m + 8) (by omega)] at c6
  rw [o (m + 7) (by omega)] at c7
  have fm : ∀ x : Int, x ≠ 5 → h5 m x = pf h2 m 2 0 m x := fun x e => by rw [c2, up_n _ _ e]
  refine ⟨fun x x0 x4 x5 x6 x7 x8 => by rw [c1 x x0 x4 x5 x6 x7 x8, o x x0]; exact f1 x x0 x5 x6 x7 x8, 0, -1, n, ns, nl, us, ul, hP, by rw [fm 0 (by decide), pf_f _ m 0 (by decide)]; exact f6, by rw [fm 2 (by decide)]; exact pf_s _ _ _ _, by rw [fm 12 (by decide), pf_f _ m 0 (by decide)]; exact e12, fun x x0 x2 x5 x11 x12 x13 => by rw [fm x x5, pf_f _ m 0 x2]; exact f7 x x0 x11 x12 x13, Or.inr ⟨rfl, rfl, ⟨n2, n10⟩, rfl, by rw [c2, up_s], ?_, by rw [c4, up_s], fun x x0 x1 => by rw [c4, up_n _ _ x1]; exact f2 x x0, fun i i0 i1 => ?_, fun x x0 => ?_, fun i i0 i1 => ?_, fun x x0 => ?_, fun x x0 => ?_⟩⟩
  · rw [c3, f1 _ (by omega) (by omega) (by omega) (by omega) (by omega)]
  · rw [c5]
    unfold cpW
    rw [if_pos (by omega), show 10 * h m 5 + i + (40 - 10 * h m 5) = 40 + i by omega]
    exact N2 i i0 i1
  · rw [c5]
    unfold cpW
    rw [if_neg (by omega)]; exact f3 x (by omega)
  · obtain ⟨q1, q2, q3⟩ := N3 i i0 (by omega)
    refine ⟨?_, q2, fun j j0 j1 => ?_⟩
    · rw [c6]
      unfold cpW
      rw [if_pos (by omega), show 10 * h m 5 + i + (40 - 10 * h m 5) = 40 + i by omega]
      exact q1
    · rw [c7]
      unfold cpW
      rw [if_pos (by omega), show 9 * (10 * h m 5 + i) + j + (360 - 90 * h m 5) = 9 * (40 + i) + j by omega]
      exact q3 j j0 j1
  · rw [c6]
    unfold cpW
    rw [if_neg (by omega)]; exact f5 x (by omega)
  · rw [c7]
    unfold cpW
    rw [if_neg (by omega)]; exact f4 x (by omega)
theorem c_X12_list {l : Launch} {D : va_G} {aC : Nat → ClassId} {B t sz : Nat} {S : sS} {r : sR} {h : sH} {m : Nat} {u : Int} (hM : LX12 S r m) (t0 : 0 ≤ h m 2) (t1 : h m 2 ≤ 200) (L0 : 0 ≤ h m 5) (L4 : h m 5 ≤ 4) (hu : inR u) : CtI l yX12_list cX12_list 5 (some .int) 3 72 [.ref m, .int (iI u)] D aC B t sz S r h (fun z h1 => (¬ (2 ≤ u ∧ u ≤ 3 ∧ h m 5 < 4) ∧ z = -1 ∧ h1 = pf h m 0 0) ∨ ((2 ≤ u ∧ u ≤ 3 ∧ h m 5 < 4) ∧ lsP h h1 m u z)) := by
  unfold CtI
  refine Ct.of (lv := [some (.ref m), some (.int (iI u)), none, none, none]) (by decide +kernel) rfl (Nat.le_of_ble_eq_true rfl) (fun X hl q rt hnm => ?_)
  have cpy : (2 ≤ u ∧ u ≤ 3 ∧ h m 5 < 4) → ∀ (w n : Int) (h4 : sH), h4 m 5 = h m 5 → h4 (m + 5) 4 = n → (∀ h5 : sH, lsC h4 h5 m (h m 5) u n → lsP h h5 m u (h m 5)) → G X 0 0 143 [some (.ref m), some (.int (iI u)), some (.int (iI w)), none, none] [] sz S r h4 := by
    intro ok w n h4 e5 en kk
    obtain ⟨L, hL⟩ : ∃ L, h m 5 = L := ⟨_, rfl⟩
    rw [hL] at e5 L0 L4 ok kk
    have rowL : ∀ (d i : Nat), i + d = 10 → ∀ (h5 : sH) (o4 : Option Value), (∀ x : Nat, x ≠ m + 4 → x ≠ m + 5 → x ≠ m + 6 → x ≠ m + 7 → x ≠ m + 8 → h5 x = h4 x) → h5 (m + 4) = up (h4 (m + 4)) L u → h5 (m + 5) = up (h4 (m + 5)) L n → (∀ x : Int, h5 (m + 6) x = cpW (h4 (m + 6)) (10 * L) (40 - 10 * L) i x) → (∀ x : Int, h5 (m + 8) x = cpW (h4 (m + 8)) (10 * L) (40 - 10 * L) i x) → (∀ x : Int, h5 (m + 7) x = cpW (h4 (m + 7)) (90 * L) (360 - 90 * L) (9 * i) x) → G X 0 0 170 [some (.ref m), some (.int (iI u)), some (.int (iI w)), some (.int (iI i)), o4] [] sz S r h5 := by
      intro d
      induction d with
      | zero =>
        intro i hi h5 o4 f1 f2 f3 f4 f5 f6
        have ei : i = 10 := by omega
        subst ei
        have em := f1 m (by omega) (by omega) (by omega) (by omega) (by omega)
        have e55 : h5 m 5 = L := by rw [em]; exact e5
        refine r_iload_3 (pc := 170) q dX12_list_170 ?_
        refine r_bipush (pc := 171) q dX12_list_171 (by decide) ?_
        refine r_icmp_ge (pc := 173) q 279 dX12_list_173 (by decide) ⟨by omega, by omega⟩ ⟨by omega, by omega⟩ (fun c173 => ?_) (fun c173 => ?_)
        · refine r_aload_0 (pc := 279) q dX12_list_279 ?_
          refine r_dup (pc := 280) q dX12_list_280 rfl ?_
          refine r_geti (pc := 281) q fX12_157 (kz := 5) rfl (by decide) rfl hM.o dX12_list_281 ?_
          rw [e55]
          refine r_iconst (pc := 284) q dX12_list_284 ?_
          refine r_iadd (pc := 285) q dX12_list_285 ?_
          refine r_puti (pc := 286) q fX12_157 (kz := 5) rfl (by decide) rfl hM.o dX12_list_286 (fun h6 eh6 => ?_)
          refine r_aload_0 (pc := 289) q dX12_list_289 ?_
          refine r_geti (pc := 290) q fX12_157 (kz := 5) rfl (by decide) rfl hM.o dX12_list_290 ?_
          have e65 : h6 m 5 = L + 1 := by rw [eh6, up_s, up_s]
          rw [e65]
          refine r_iconst (pc := 293) q dX12_list_293 ?_
          refine r_isub (pc := 294) q dX12_list_294 ?_
          refine r_ireturn (pc := 295) q rt dX12_list_295 ?_
          refine Or.inr ⟨hL ▸ ok, ?_⟩
          rw [show L + 1 - 1 = h m 5 by omega]
          rw [hL]
          refine kk h6 ⟨fun x x0 x4 x5 x6 x7 x8 => by rw [eh6, up_n _ _ x0]; exact f1 x x4 x5 x6 x7 x8, by rw [eh6, up_s, em], by rw [eh6, up_n _ _ (by omega)]; exact f2, by rw [eh6, up_n _ _ (by omega)]; exact f3, fun x => by rw [eh6, up_n _ _ (by omega)]; exact f4 x, fun x => by rw [eh6, up_n _ _ (by omega)]; exact f5 x, fun x => by rw [eh6, up_n _ _ (by omega)]; exact f6 x⟩
        exact absurd (by omega) c173
      | succ d ih =>
        intro i hi h5 o4 f1 f2 f3 f4 f5 f6
        have em := f1 m (by omega) (by omega) (by omega) (by omega) (by omega)
        have e55 : h5 m 5 = L := by rw [em]; exact e5
        have cell : ∀ (e j : Nat), j + e = 9 → ∀ (h7 : sH), (∀ x : Nat, x ≠ m + 4 → x ≠ m + 5 → x ≠ m + 6 → x ≠ m + 7 → x ≠ m + 8 → h7 x = h4 x) → h7 (m + 4) = up (h4 (m + 4)) L u → h7 (m + 5) = up (h4 (m + 5)) L n → (∀ x : Int, h7 (m + 6) x = cpW (h4 (m + 6)) (10 * L) (40 - 10 * L) (i + 1) x) → (∀ x : Int, h7 (m + 8) x = cpW (h4 (m + 8)) (10 * L) (40 - 10 * L) (i + 1) x) → (∀ x : Int, h7 (m + 7) x = cpW (h4 (m + 7)) (90 * L) (360 - 90 * L) (9 * i + j) x) → G X 0 0 225 [some (.ref m), some (.int (iI u)), some (.int (iI w)), some (.int (iI i)), some (.int (iI j))] [] sz S r h7 := by
          intro e
          induction e with
          | zero =>
            intro j hj h7 g1 g2 g3 g4 g5 g6
            have ej : j = 9 := by omega
            subst ej
            refine r_iload_4 (pc := 225) q dX12_list_225 ?_
            refine r_bipush (pc := 227) q dX12_list_227 (by decide) ?_
            refine r_icmp_ge (pc := 229) q 273 dX12_list_229 (by decide) ⟨by omega, by omega⟩ ⟨by omega, by omega⟩ (fun c229 => ?_) (fun c229 => ?_)
            · refine r_iinc_3 (pc := 273) q dX12_list_273 rfl ?_
              refine r_goto (pc := 276) (tgt := 170) q dX12_list_276 (by decide) ?_
              refine ih (i + 1) (by omega) h7 _ g1 g2 g3 g4 g5 (fun x => ?_)
              rw [g6 x, show 9 * (i : Int) + ((9 : Nat) : Int) = 9 * ((i + 1 : Nat) : Int) by omega]
            exact absurd (by omega) c229
          | succ e ih2 =>
            intro j hj h7 g1 g2 g3 g4 g5 g6
            have em7 := g1 m (by omega) (by omega) (by omega) (by omega) (by omega)
            have e75 : h7 m 5 = L := by rw [em7]; exact e5
            refine r_iload_4 (pc := 225) q dX12_list_225 ?_
            refine r_bipush (pc := 227) q dX12_list_227 (by decide) ?_
            refine r_icmp_ge (pc := 229) q 273 dX12_list_229 (by decide) ⟨by omega, by omega⟩ ⟨by omega, by omega⟩ (fun c229 => ?_) (fun c229 => ?_)
            · exact absurd c229 (by omega)
            refine r_aload_0 (pc := 232) q dX12_list_232 ?_
            refine r_getr (pc := 233) q fX12_30 (kz := 9) rfl (by decide) rfl hM.o hM.r_signs dX12_list_233 ?_
            refine r_bipush (pc := 236) q dX12_list_236 (by decide) ?_
            refine r_bipush (pc := 238) q dX12_list_238 (by decide) ?_
            refine r_aload_0 (pc := 240) q dX12_list_240 ?_
            refine r_geti (pc := 241) q fX12_157 (kz := 5) rfl (by decide) rfl hM.o dX12_list_241 ?_
            rw [e75]
            refine r_imul (pc := 244) q dX12_list_244 ?_
            refine r_iload_3 (pc := 245) q dX12_list_245 ?_
            refine r_iadd (pc := 246) q dX12_list_246 ?_
            refine r_imul (pc := 247) q dX12_list_247 ?_
            refine r_iload_4 (pc := 248) q dX12_list_248 ?_
            refine r_iadd (pc := 250) q dX12_list_250 ?_
            refine r_aload_0 (pc := 251) q dX12_list_251 ?_
            refine r_getr (pc := 252) q fX12_30 (kz := 9) rfl (by decide) rfl hM.o hM.r_signs dX12_list_252 ?_
            refine r_bipush (pc := 255) q dX12_list_255 (by decide) ?_
            refine r_bipush (pc := 257) q dX12_list_257 (by decide) ?_
            refine r_iload_3 (pc := 259) q dX12_list_259 ?_
            refine r_iadd (pc := 260) q dX12_list_260 ?_
            refine r_imul (pc := 261) q dX12_list_261 ?_
            refine r_iload_4 (pc := 262) q dX12_list_262 ?_
            refine r_iadd (pc := 264) q dX12_list_264 ?_
            refine r_iald (pc := 265) q hM.s_signs (by omega) (by omega) dX12_list_265 ?_
            have v := g6 (9 * (40 + (i : Int)) + j)
            unfold cpW at v
            rw [if_neg (by omega)] at v
            rw [v]
            refine r_iast (pc := 266) q hM.s_signs (by omega) (by omega) dX12_list_266 (fun h8 eh8 => ?_)
            refine r_iinc_4 (pc := 267) q dX12_list_267 rfl ?_
            refine r_goto (pc := 270) (tgt := 225) q dX12_list_270 (by decide) ?_
            have e7 : h8 (m + 7) = up (h7 (m + 7)) (9 * (10 * L + (i : Int)) + j) (h4 (m + 7) (9 * (40 + (i : Int)) + j)) := by rw [eh8, up_s]
            refine ih2 (j + 1) (by omega) h8 (fun x x4 x5 x6 x7 x8 => by rw [eh8, up_n _ _ x7]; exact g1 x x4 x5 x6 x7 x8) (by rw [eh8, up_n _ _ (by omega)]; exact g2) (by rw [eh8, up_n _ _ (by omega)]; exact g3) (fun x => by rw [eh8, up_n _ _ (by omega)]; exact g4 x) (fun x => by rw [eh8, up_n _ _ (by omega)]; exact g5 x) (fun x => ?_)
            rw [e7]
            by_cases ex : x = 9 * (10 * L + (i : Int)) + j
            · rw [ex, up_s]
              unfold cpW
              rw [if_pos (by omega), show 9 * (10 * L + (i : Int)) + j + (360 - 90 * L) = 9 * (40 + (i : Int)) + j by omega]
            · rw [up_n _ _ ex, g6 x]
              unfold cpW
              by_cases q1 : 90 * L ≤ x ∧ x < 90 * L + (9 * (i : Int) + j)
              · rw [if_pos q1, if_pos (by omega)]
              · rw [if_neg q1, if_neg (by omega)]
        refine r_iload_3 (pc := 170) q dX12_list_170 ?_
        refine r_bipush (pc := 171) q dX12_list_171 (by decide) ?_
        refine r_icmp_ge (pc := 173) q 279 dX12_list_173 (by decide) ⟨by omega, by omega⟩ ⟨by omega, by omega⟩ (fun c173 => ?_) (fun c173 => ?_)
        · exact absurd c173 (by omega)
        refine r_aload_0 (pc := 176) q dX12_list_176 ?_
        refine r_getr (pc := 177) q fX12_26 (kz := 8) rfl (by decide) rfl hM.o hM.r_name dX12_list_177 ?_
        refine r_bipush (pc := 180) q dX12_list_180 (by decide) ?_
        refine r_aload_0 (pc := 182) q dX12_list_182 ?_
        refine r_geti (pc := 183) q fX12_157 (kz := 5) rfl (by decide) rfl hM.o dX12_list_183 ?_
        rw [e55]
        refine r_imul (pc := 186) q dX12_list_186 ?_
        refine r_iload_3 (pc := 187) q dX12_list_187 ?_
        refine r_iadd (pc := 188) q dX12_list_188 ?_
        refine r_aload_0 (pc := 189) q dX12_list_189 ?_
        refine r_getr (pc := 190) q fX12_26 (kz := 8) rfl (by decide) rfl hM.o hM.r_name dX12_list_190 ?_
        refine r_bipush (pc := 193) q dX12_list_193 (by decide) ?_
        refine r_iload_3 (pc := 195) q dX12_list_195 ?_
        refine r_iadd (pc := 196) q dX12_list_196 ?_
        refine r_lald (pc := 197) q hM.s_name (by omega) (by omega) dX12_list_197 ?_
        have v := f4 (40 + (i : Int))
        unfold cpW at v
        rw [if_neg (by omega)] at v
        rw [v]
        refine r_last (pc := 198) q hM.s_name (by omega) (by omega) dX12_list_198 (fun h6 eh6 => ?_)
        refine r_aload_0 (pc := 199) q dX12_list_199 ?_
        refine r_getr (pc := 200) q fX12_33 (kz := 10) rfl (by decide) rfl hM.o hM.r_many dX12_list_200 ?_
        refine r_bipush (pc := 203) q dX12_list_203 (by decide) ?_
        refine r_aload_0 (pc := 205) q dX12_list_205 ?_
        refine r_geti (pc := 206) q fX12_157 (kz := 5) rfl (by decide) rfl hM.o dX12_list_206 ?_
        have e65 : h6 m 5 = L := by rw [eh6, up_n _ _ (by omega)]; exact e55
        rw [e65]
        refine r_imul (pc := 209) q dX12_list_209 ?_
        refine r_iload_3 (pc := 210) q dX12_list_210 ?_
        refine r_iadd (pc := 211) q dX12_list_211 ?_
        refine r_aload_0 (pc := 212) q dX12_list_212 ?_
        refine r_getr (pc := 213) q fX12_33 (kz := 10) rfl (by decide) rfl hM.o hM.r_many dX12_list_213 ?_
        refine r_bipush (pc := 216) q dX12_list_216 (by decide) ?_
        refine r_iload_3 (pc := 218) q dX12_list_218 ?_
        refine r_iadd (pc := 219) q dX12_list_219 ?_
        refine r_iald (pc := 220) q hM.s_many (by omega) (by omega) dX12_list_220 ?_
        have v := f5 (40 + (i : Int))
        unfold cpW at v
        rw [if_neg (by omega)] at v
        have v' : h6 (m + 8) (40 + (i : Int)) = h4 (m + 8) (40 + (i : Int)) := by rw [eh6, up_n _ _ (by omega)]; exact v
        rw [v']
        refine r_iast (pc := 221) q hM.s_many (by omega) (by omega) dX12_list_221 (fun h7 eh7 => ?_)
        refine r_iconst (pc := 222) q dX12_list_222 ?_
        refine r_istore_4 (pc := 223) q dX12_list_223 rfl ?_
        have e6 : h7 (m + 6) = up (h5 (m + 6)) (10 * L + (i : Int)) (h4 (m + 6) (40 + (i : Int))) := by rw [eh7, up_n _ _ (by omega), eh6, up_s]
        have e8 : h7 (m + 8) = up (h5 (m + 8)) (10 * L + (i : Int)) (h4 (m + 8) (40 + (i : Int))) := by rw [eh7, up_s, eh6, up_n _ _ (by omega)]
        refine cell 9 0 (by omega) h7 (fun x x4 x5 x6 x7 x8 => by rw [eh7, up_n _ _ x8, eh6, up_n _ _ x6]; exact f1 x x4 x5 x6 x7 x8) (by rw [eh7, up_n _ _ (by omega), eh6, up_n _ _ (by omega)]; exact f2) (by rw [eh7, up_n _ _ (by omega), eh6, up_n _ _ (by omega)]; exact f3) (fun x => ?_) (fun x => ?_) (fun x => by rw [eh7, up_n _ _ (by omega), eh6, up_n _ _ (by omega), f6 x, show 9 * (i : Int) + ((0 : Nat) : Int) = 9 * i by omega])
        · rw [e6]
          by_cases ex : x = 10 * L + (i : Int)
          · rw [ex, up_s]
            unfold cpW
            rw [if_pos (by omega), show 10 * L + (i : Int) + (40 - 10 * L) = 40 + (i : Int) by omega]
          · rw [up_n _ _ ex, f4 x]
            unfold cpW
            by_cases q1 : 10 * L ≤ x ∧ x < 10 * L + (i : Int)
            · rw [if_pos q1, if_pos (by omega)]
            · rw [if_neg q1, if_neg (by omega)]
        · rw [e8]
          by_cases ex : x = 10 * L + (i : Int)
          · rw [ex, up_s]
            unfold cpW
            rw [if_pos (by omega), show 10 * L + (i : Int) + (40 - 10 * L) = 40 + (i : Int) by omega]
          · rw [up_n _ _ ex, f5 x]
            unfold cpW
            by_cases q1 : 10 * L ≤ x ∧ x < 10 * L + (i : Int)
            · rw [if_pos q1, if_pos (by omega)]
            · rw [if_neg q1, if_neg (by omega)]
    refine r_aload_0 (pc := 143) q dX12_list_143 ?_
    refine r_getr (pc := 144) q fX12_20 (kz := 6) rfl (by decide) rfl hM.o hM.r_unit dX12_list_144 ?_
    refine r_aload_0 (pc := 147) q dX12_list_147 ?_
    refine r_geti (pc := 148) q fX12_157 (kz := 5) rfl (by decide) rfl hM.o dX12_list_148 ?_
    rw [e5]
    refine r_iload_1 (pc := 151) q dX12_list_151 ?_
    refine r_iast (pc := 152) q hM.s_unit (by omega) (by omega) dX12_list_152 (fun h5 eh5 => ?_)
    refine r_aload_0 (pc := 153) q dX12_list_153 ?_
    refine r_getr (pc := 154) q fX12_23 (kz := 7) rfl (by decide) rfl hM.o hM.r_stations dX12_list_154 ?_
    refine r_aload_0 (pc := 157) q dX12_list_157 ?_
    refine r_geti (pc := 158) q fX12_157 (kz := 5) rfl (by decide) rfl hM.o dX12_list_158 ?_
    have e5' : h5 m 5 = L := by rw [eh5, up_n _ _ (by omega)]; exact e5
    rw [e5']
    refine r_aload_0 (pc := 161) q dX12_list_161 ?_
    refine r_getr (pc := 162) q fX12_23 (kz := 7) rfl (by decide) rfl hM.o hM.r_stations dX12_list_162 ?_
    refine r_iconst (pc := 165) q dX12_list_165 ?_
    refine r_iald (pc := 166) q hM.s_stations (by omega) (by omega) dX12_list_166 ?_
    have en' : h5 (m + 5) 4 = n := by rw [eh5, up_n _ _ (by omega)]; exact en
    rw [en']
    refine r_iast (pc := 167) q hM.s_stations (by omega) (by omega) dX12_list_167 (fun h6 eh6 => ?_)
    refine r_iconst (pc := 168) q dX12_list_168 ?_
    refine r_istore_3 (pc := 169) q dX12_list_169 rfl ?_
    refine rowL 10 0 (by omega) h6 _ (fun x x4 x5 _ _ _ => by rw [eh6, up_n _ _ x5, eh5, up_n _ _ x4]) (by rw [eh6, up_n _ _ (by omega), eh5, up_s]) (by rw [eh6, up_s, eh5, up_n _ _ (by omega)]) (fun x => ?_) (fun x => ?_) (fun x => ?_)
    · rw [eh6, up_n _ _ (by omega), eh5, up_n _ _ (by omega)]; unfold cpW; rw [if_neg (by omega)]
    · rw [eh6, up_n _ _ (by omega), eh5, up_n _ _ (by omega)]; unfold cpW; rw [if_neg (by omega)]
    · rw [eh6, up_n _ _ (by omega), eh5, up_n _ _ (by omega)]; unfold cpW; rw [if_neg (by omega)]
  sorry
