/-! ===== the law's loop (rows by gen93.py) ===== -/
theorem rel_0 {h : sH} {x m : Nat} (e1 : eX11 h x) (e2 : eX12 h m) : relX h x m := by
  obtain ⟨a4, a5, a10, at1, ⟨b2, b3, b4, b5⟩, c3, so⟩ := e1
  obtain ⟨hm, sm⟩ := e2
  have v : ∀ k : Int, k ≠ 12 → k ≠ 27 → k ≠ 28 → h m k = 0 := fun k k1 k2 k3 => by rw [hm, up_n _ _ k3, up_n _ _ k2, up_n _ _ k1]
  have v12 : h m 12 = -1 := by rw [hm, up_n _ _ (by decide), up_n _ _ (by decide), up_s]
  have v27 : h m 27 = 10 := by rw [hm, up_n _ _ (by decide), up_s]
  have v28 : h m 28 = 6 := by rw [hm, up_s]
  have w2 := v 2 (by decide) (by decide) (by decide)
  have w5 := v 5 (by decide) (by decide) (by decide)
  have w14 := v 14 (by decide) (by decide) (by decide)
  have w18 := v 18 (by decide) (by decide) (by decide)
  have w23 := v 23 (by decide) (by decide) (by decide)
  have w29 := v 29 (by decide) (by decide) (by decide)
  refine (rel_mk (g := fun _ _ _ => 0) (n := fun _ _ => 0) (u := fun _ _ _ => 0) (un := fun _ _ => 0) (rg := fun _ _ => 0) (rn := fun _ => 0) (sg := fun _ _ => 0) (sn := fun _ => 0) (rTp_0 at1 w2) ⟨by omega, by omega, fun l l0 l1 => absurd l1 (by omega)⟩ ⟨by omega, by omega, fun l l0 l1 => absurd l1 (by omega)⟩ ⟨by omega, by omega, fun l l0 l1 => absurd l1 (by omega)⟩ ⟨⟨by omega, by omega⟩, by omega, by omega⟩ ⟨⟨by omega, by omega, fun l l0 l1 => absurd l1 (by omega)⟩, by omega, fun l l0 l1 => absurd l1 (by omega)⟩ ⟨fun k k0 k1 => by rw [so k k0 k1]; omega, fun k k0 k1 => by rw [so k k0 k1, sm k k0 k1]⟩ ⟨by omega, by omega, by omega⟩ (by omega)).X
theorem lw_loop {X : CX} {S : sS} {r : sR} {b L : Nat} {xv : Nat → Int32} {s1 s2 x : Nat} (w : LwC X b L xv s1 s2) (hx : LX11 S r x) (hm : LX12 S r (x + 325)) (ho : S (x + 354) = some (23, 1)) (hend : ∀ (k n sz : Nat) (l4 l5 l6 : Option Value) (h : sH), k ≤ 601024 → n ≤ 7293034 → G X k n 985 [some (.ref b), some (.ref x), some (.ref (x + 325)), some (.ref (x + 354)), l4, l5, l6] [] sz S r h) : ∀ (d j sz : Nat) (h : sH) (l5 l6 : Option Value), j + d = 513 → relX h x (x + 325) → G X (355 + j) (72208 + 6 * j) 23 [some (.ref b), some (.ref x), some (.ref (x + 325)), some (.ref (x + 354)), some (.int (iI (6 * (j : Int)))), l5, l6] [] sz S r h := by
  have q := w.1
  have hL := w.2.2.2.2
  intro d
  induction d with
  | zero =>
    intro j sz h l5 l6 hj hr
    refine r_iload_4 (pc := 23) q dL_law_23 ?_
    refine r_aload_0 (pc := 25) q dL_law_25 ?_
    refine r_slen (pc := 26) w dL_law_26 ?_
    refine r_bipush (pc := 27) q dL_law_27 (by decide) ?_
    refine r_isub (pc := 29) q dL_law_29 ?_
    exact r_icmp_gt (pc := 30) q 985 dL_law_30 (by decide) ⟨by omega, by omega⟩ ⟨by omega, by omega⟩ (fun c => hend _ _ _ _ _ _ _ (by omega) (by omega)) (fun c => absurd (by omega) c)
  | succ d ih =>
    intro j sz h l5 l6 hj hr
    refine r_iload_4 (pc := 23) q dL_law_23 ?_
    refine r_aload_0 (pc := 25) q dL_law_25 ?_
    refine r_slen (pc := 26) w dL_law_26 ?_
    refine r_bipush (pc := 27) q dL_law_27 (by decide) ?_
    refine r_isub (pc := 29) q dL_law_29 ?_
    refine r_icmp_gt (pc := 30) q 985 dL_law_30 (by decide) ⟨by omega, by omega⟩ ⟨by omega, by omega⟩ (fun c => hend _ _ _ _ _ _ _ (by omega) (by omega)) (fun c => ?_)
    have i0 : 0 ≤ 6 * (j : Int) := by omega
    have i6 : 6 * (j : Int) + 6 ≤ L := by omega
    have nxt : nxL X (355 + j) (72208 + 6 * j) b x (6 * (j : Int)) S r := fun h2 sz2 l5 l6 hr2 => by
      refine r_iinc_4 (pc := 979) q dL_law_979 rfl ?_
      refine r_goto (pc := 982) (tgt := 23) q dL_law_982 (by decide) ?_
      have e : 6 * (j : Int) + 6 = 6 * ((j + 1 : Nat) : Int) := by omega
      rw [e]
      exact ih (j + 1) sz2 h2 l5 l6 (by omega) hr2
    refine r_arg0 (pc := 33) w i0 (by omega) dL_law_33 dL_law_34 dL_law_36 ?_
    refine r_bipush (pc := 37) q dL_law_37 (by decide) ?_
    obtain ⟨z, ⟨z0, z31⟩, ez⟩ := and31 (iI (xv (6 * (j : Int)).toNat).toInt)
    refine r_iand (pc := 39) q dL_law_39 ez ?_
    by_cases zb : 20 ≤ z
    · refine r_tswO (pc := 40) q 979 dL_law_40 ⟨by omega, by omega⟩ (by omega) (by decide) ?_
      exact G.w (by omega) (by omega) (nxt h sz l5 l6 hr)
    · have hz : z = 0 ∨ z = 1 ∨ z = 2 ∨ z = 3 ∨ z = 4 ∨ z = 5 ∨ z = 6 ∨ z = 7 ∨ z = 8 ∨ z = 9 ∨ z = 10 ∨ z = 11 ∨ z = 12 ∨ z = 13 ∨ z = 14 ∨ z = 15 ∨ z = 16 ∨ z = 17 ∨ z = 18 ∨ z = 19 := by omega
      rcases hz with rfl | rfl | rfl | rfl | rfl | rfl | rfl | rfl | rfl | rfl | rfl | rfl | rfl | rfl | rfl | rfl | rfl | rfl | rfl | rfl
      · exact r_tswI (pc := 40) (off := 96) q 136 dL_law_40 ⟨by decide, by decide⟩ (by decide) (by decide) rfl (by decide) (lw_c_feed w hx hm hr i0 i6 (by omega) (by omega) nxt)
      · exact r_tswI (pc := 40) (off := 169) q 209 dL_law_40 ⟨by decide, by decide⟩ (by decide) (by decide) rfl (by decide) (lw_c_end w hx hm hr i0 i6 (by omega) (by omega) nxt)
      · exact r_tswI (pc := 40) (off := 194) q 234 dL_law_40 ⟨by decide, by decide⟩ (by decide) (by decide) rfl (by decide) (lw_c_list w hx hm hr i0 i6 (by omega) (by omega) nxt)
      · exact r_tswI (pc := 40) (off := 219) q 259 dL_law_40 ⟨by decide, by decide⟩ (by decide) (by decide) rfl (by decide) (lw_c_place w hx hm hr i0 i6 (by omega) (by omega) nxt)
      · exact r_tswI (pc := 40) (off := 232) q 272 dL_law_40 ⟨by decide, by decide⟩ (by decide) (by decide) rfl (by decide) (lw_c_ruin w hx hm hr i0 i6 (by omega) (by omega) nxt)
      · exact r_tswI (pc := 40) (off := 257) q 297 dL_law_40 ⟨by decide, by decide⟩ (by decide) (by decide) rfl (by decide) (lw_c_stone w hx hm hr i0 i6 (by omega) (by omega) nxt)
      · exact r_tswI (pc := 40) (off := 306) q 346 dL_law_40 ⟨by decide, by decide⟩ (by decide) (by decide) rfl (by decide) (lw_c_habit w hx hm hr i0 i6 (by omega) (by omega) nxt)
      · exact r_tswI (pc := 40) (off := 355) q 395 dL_law_40 ⟨by decide, by decide⟩ (by decide) (by decide) rfl (by decide) (lw_c_sound w hx hm hr i0 i6 (by omega) (by omega) nxt)
      · exact r_tswI (pc := 40) (off := 392) q 432 dL_law_40 ⟨by decide, by decide⟩ (by decide) (by decide) rfl (by decide) (lw_c_costs w hx hm hr i0 i6 (by omega) (by omega) nxt)
      · exact r_tswI (pc := 40) (off := 429) q 469 dL_law_40 ⟨by decide, by decide⟩ (by decide) (by decide) rfl (by decide) (lw_c_day w hx hm hr i0 i6 (by omega) (by omega) nxt)
      · exact r_tswI (pc := 40) (off := 454) q 494 dL_law_40 ⟨by decide, by decide⟩ (by decide) (by decide) rfl (by decide) (lw_c_apart w hx hm hr i0 i6 (by omega) (by omega) nxt)
      · exact r_tswI (pc := 40) (off := 491) q 531 dL_law_40 ⟨by decide, by decide⟩ (by decide) (by decide) rfl (by decide) (lw_c_reading w hx hm hr i0 i6 (by omega) (by omega) nxt)
      · exact r_tswI (pc := 40) (off := 540) q 580 dL_law_40 ⟨by decide, by decide⟩ (by decide) (by decide) rfl (by decide) (lw_c_best w hx hm hr i0 i6 (by omega) (by omega) nxt)
      · exact r_tswI (pc := 40) (off := 577) q 617 dL_law_40 ⟨by decide, by decide⟩ (by decide) (by decide) rfl (by decide) (lw_c_at w hx hm hr i0 i6 (by omega) (by omega) nxt)
      · exact r_tswI (pc := 40) (off := 626) q 666 dL_law_40 ⟨by decide, by decide⟩ (by decide) (by decide) rfl (by decide) (lw_c_span w hx hm hr i0 i6 (by omega) (by omega) nxt)
      · exact r_tswI (pc := 40) (off := 699) q 739 dL_law_40 ⟨by decide, by decide⟩ (by decide) (by decide) rfl (by decide) (lw_c_rivals w hx hm hr i0 i6 (by omega) (by omega) nxt)
      · exact r_tswI (pc := 40) (off := 748) q 788 dL_law_40 ⟨by decide, by decide⟩ (by decide) (by decide) rfl (by decide) (lw_c_shared w hx hm hr i0 i6 (by omega) (by omega) nxt)
      · exact r_tswI (pc := 40) (off := 797) q 837 dL_law_40 ⟨by decide, by decide⟩ (by decide) (by decide) rfl (by decide) (lw_c_of w hx hm ho hr i0 i6 (by omega) (by omega) nxt)
      · exact r_tswI (pc := 40) (off := 865) q 905 dL_law_40 ⟨by decide, by decide⟩ (by decide) (by decide) rfl (by decide) (lw_c_letter w hx hm hr i0 i6 (by omega) (by omega) nxt)
      · exact r_tswI (pc := 40) (off := 914) q 954 dL_law_40 ⟨by decide, by decide⟩ (by decide) (by decide) rfl (by decide) (lw_c_count w hx hm hr i0 i6 (by omega) (by omega) nxt)
