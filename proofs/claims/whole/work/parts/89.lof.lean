/-! ===== the law's own of: calls of, catches ===== -/
def hhL : List (Nat × Nat × Nat × Nat) := [(0, 10, 13, 13)]
set_option maxRecDepth 100000 in
theorem wcL_of : Cond.codeWith yL_of cL_of 5 (some .int) hhL ∈ UG := UG_of (i := 767) rfl (by decide +kernel)
theorem wlL_13 : Cond.classLink RL 13 NSE ∈ UG := UG_of (i := 768) (by decide +kernel) (by decide +kernel)
theorem wlL_92 : Cond.methodLink RL 92 yL_of ∈ UG := UG_of (i := 765) (by decide +kernel) (by decide +kernel)
theorem wsL_of : Cond.static yL_of ∈ UG := UG_of (i := 766) (by decide +kernel) (by decide +kernel)
theorem ofV_in {h : sH} {x : Nat} {b : Int → Int} {T : Int} {g : Int → Int → Int → Int} {n : Int → Int → Int} {u : Int → Int → Int → Int} {un : Int → Int → Int} {rg sg : Int → Int → Int} {rn sn : Int → Int} {l1 w : Int} (hI : clI h x b T g n u un rg rn sg sn) (o : okO h x l1 w) : 0 ≤ ofV h x n u un l1 w ∧ ofV h x n u un l1 w ≤ 1000 := by
  obtain ⟨o0, o1, o2⟩ := o
  obtain ⟨r1, r2, r3, r4⟩ := hI.2.2.1 l1 o0 o1
  unfold ofV
  by_cases e0 : w = 0
  · rw [if_pos e0]; omega
  · rw [if_neg e0]
    by_cases e1 : w = 1
    · rw [if_pos e1]; omega
    · rw [if_neg e1]
      by_cases e2 : w < 20
      · rw [if_pos e2]
        have q := r4 (w - 10) (by omega) (by omega)
        have v := vS_in (u l1 (w - 10)) (un l1 (w - 10)).toNat
        have b8 := q.1.2.1.2
        omega
      · rw [if_neg e2]
        have q := (r3 (w - 20) (by omega) (by omega)).1.2.1
        omega
def lofP (S : sS) (r : sR) (h : sH) (x o : Nat) (n : Int → Int → Int) (u : Int → Int → Int → Int) (un : Int → Int → Int) (l1 w : Int) : sP := fun v _ S1 r1 h1 => S1 = S ∧ r1 = r ∧ ∃ z : Int, v = some (.int (iI z)) ∧ ((okO h x l1 w ∧ z = 0 ∧ h1 = up h o (up (h o) 0 (ofV h x n u un l1 w))) ∨ (¬ okO h x l1 w ∧ z = 1 ∧ h1 = h))
theorem c_L_of {l : Launch} {D : va_G} {aC : Nat → ClassId} {B t sz : Nat} {S : sS} {r : sR} {h : sH} {s1 s2 x o : Nat} {l1 w T : Int} {b : Int → Int} {g : Int → Int → Int → Int} {n : Int → Int → Int} {u : Int → Int → Int → Int} {un : Int → Int → Int} {rg sg : Int → Int → Int} {rn sn : Int → Int} (hnt : l.stackTraces = false) (hx : LX11 S r x) (ho : S o = some (23, 1)) (hI : clI h x b T g n u un rg rn sg sn) (hl1 : inR l1) (hw : inR w) : Met l yL_of (Cond.codeWith yL_of cL_of 5 (some .int) hhL :: UG) ({ frames := 7, cells := 1, slots := 6, locals := 113 } : Room) (va_Pc [.ref x, .int (iI l1), .int (iI w), .ref o] (fun U => Rel D aC B sz S r h U.heap ∧ KK D aC B t U ∧ EX B s1 s2 U)) (QP D aC B (lofP S r h x o n u un l1 w)) 1 6 (fun q => B ≤ q) := by
  refine va_MetW (cc := cL_of) (maxL := 5) (ret := some .int) (hh := hhL) (by decide +kernel) rfl ?_
  intro p e s m args below meth c s₁ Bd hml hv
  obtain ⟨rfl, hRel, hKK, hEX⟩ := hv
  have hts := atoms_spec (ws := Cond.codeWith yL_of cL_of 5 (some .int) hhL :: UG) Bd.pre
  have htab : c.exceptionTable.toList = tableOf hhL := vx_table (x := yL_of) Bd (hts _ List.mem_cons_self)
  obtain ⟨X, hX⟩ : ∃ X : CX, X = (p, l, e, (headSpec (Cond.codeWith yL_of cL_of 5 (some .int) hhL :: UG) ({ frames := 7, cells := 1, slots := 6, locals := 113 } : Room)).room, s, m, [Value.ref x, .int (iI l1), .int (iI w), .ref o].toArray, below, meth, c, MQ below (QP D aC B (lofP S r h x o n u un l1 w)) [Value.ref x, .int (iI l1), .int (iI w), .ref o].toArray s 1 6 (fun q => B ≤ q), D, aC, B, t) := ⟨_, rfl⟩
  have q : Ok X cL_of RL 5 7 113 1 6 := by rw [hX]; exact ⟨Bd.exec, Bd.bytes, hml, findClass_of_methodNamed Bd.named, fun w hw => hts w (List.mem_cons_of_mem _ hw), hKK, rfl, rfl, rfl, rfl⟩
  have rt : Rt X (some .int) 1 6 (lofP S r h x o n u un l1 w) := by rw [hX]; exact ⟨Bd.notSynchronized, Bd.returns, rfl⟩
  have ex : EX (xB X) s1 s2 (xs X) := by rw [hX]; exact hEX
  have tab : (xc X).exceptionTable.toList = tableOf hhL := by rw [hX]; exact htab
  have nt : (xl X).stackTraces = false := by rw [hX]; exact hnt
  have gg : G X 0 0 0 [some (.ref x), some (.int (iI l1)), some (.int (iI w)), some (.ref o), none] [] sz S r h := by
    refine r_aload_3 (pc := 0) q dL_of_0 ?_
    refine r_iconst (pc := 1) q dL_of_1 ?_
    refine r_aload_0 (pc := 2) q dL_of_2 ?_
    refine r_iload_1 (pc := 3) q dL_of_3 ?_
    refine r_iload_2 (pc := 4) q dL_of_4 ?_
    refine g_cvX (As := [.int (iI l1), .int (iI w)]) (pc := 5) q ex (c_X11_of nt hx hI hl1 hw) mL_7 hx.o rfl (by decide) (Nat.le_of_ble_eq_true rfl) rfl dL_of_5 (fun ls H1 locs1 sz' ce q9 hlv hC hR hS hce hcv hcl => ?_) (fun v sz1 S1 r1 h1 hP => ?_)
    · refine vx_catch (own := RL) (name := NSE) (E := NSE) q.ow [] ⟨0, 10, 13, 13⟩ [] (by rw [tab]; rfl) (fun z hz => nomatch hz) rfl (by decide) (q.w wlL_13) (va_Nw.use rfl ex.2.2.2.2.2.2.2) hce hcv hcl ?_
      have g2 : G X (0 + 1) (0 + 6) 13 [some (.ref x), some (.int (iI l1)), some (.int (iI w)), some (.ref o), none] [.ref q9] sz' S r h := by
        refine r_astore_4 (pc := 13) q dL_of_13 rfl ?_
        refine r_iconst (pc := 15) q dL_of_15 ?_
        exact g_ireturn (pc := 16) q rt (by decide) (by decide) dL_of_16 ⟨rfl, rfl, 1, rfl, Or.inr ⟨hC, rfl, rfl⟩⟩
      exact g2 ls H1 locs1 hlv hR hS
    · obtain ⟨rfl, rfl, rfl, z, rfl, hok, rfl, rfl⟩ := hP
      have hin := ofV_in hI hok
      refine r_i2l (pc := 8) q dL_of_8 ⟨by omega, by omega⟩ ?_
      refine r_last (pc := 9) q ho (by decide) (by decide) dL_of_9 (fun h2 e2 => ?_)
      refine r_goto (pc := 10) (tgt := 17) q dL_of_10 (by decide) ?_
      refine r_iconst (pc := 17) q dL_of_17 ?_
      exact g_ireturn (pc := 18) q rt (by decide) (by decide) dL_of_18 ⟨rfl, rfl, 0, rfl, Or.inl ⟨hok, rfl, e2⟩⟩
  rw [lg_entry_eq]
  have := gg _ s.heap [] (LV.entry [Value.ref x, .int (iI l1), .int (iI w), .ref o] (n := 5) (Nat.le_of_ble_eq_true rfl)) (by rw [hX]; exact hRel) (by rw [hX]; exact va_S.rf)
  rw [hX] at this
  exact this
section RW
variable {X : CX} {k n pc : Nat} {lv : List (Option Value)} {st : List Value} {sz : Nat} {S : sS} {r : sR} {h : sH} {cc : ByteArray} {nL fr lo mc ms : Nat}
theorem UG_wm {s U : State} {args a' : Array Value} (hw : ∀ w ∈ UG, w.before args s = true) (hW : s.WarmedH U.vm) {w : Cond} (h : w ∈ UG) : w.before a' U = true := word_at hW (good_of_word (UG_good h)) (hw w h)
theorem r_Lof (q : Ok X cc RL nL fr lo mc ms) {s1 s2 : Nat} (ex : EX (xB X) s1 s2 (xs X)) {rm : Room} {As : List Value} {P : sP} (hC : Met (xl X) yL_of (Cond.codeWith yL_of cL_of 5 (some .int) hhL :: UG) ({ frames := 7, cells := 1, slots := 6, locals := 113 } : Room) (va_Pc As (fun U => Rel (xD X) (xA X) (xB X) sz S r h U.heap ∧ KK (xD X) (xA X) (xB X) (xt X) U ∧ EX (xB X) s1 s2 U)) (QP (xD X) (xA X) (xB X) P) 1 6 (fun q => xB X ≤ q)) (hnp : As.length = 4) (hrm : 8 ≤ fr ∧ 137 ≤ lo ∧ k + 1 ≤ mc ∧ n + 6 ≤ ms) (hst : (st.map fun v => v.category).sum ≤ 8) (hl : lv.length = nL) (hd : decode cc pc = .ok (.invokestatic 92, 3))
    (kk : ∀ (v : Option Value) (sz1 : Nat) (S1 : sS) (r1 : sR) (h1 : sH), P v sz1 S1 r1 h1 → G X (k + 1) (n + 6) (pc + 3) lv (v.toList ++ st) sz1 S1 r1 h1) : G X k n pc lv (As.reverse ++ st) sz S r h := by
  intro ls H locs a1 b1 c1
  have hws : ∀ w ∈ Cond.codeWith yL_of cL_of 5 (some .int) hhL :: UG, w ∈ UG := fun w hw => by
    rcases List.mem_cons.mp hw with e | e
    · rw [e]; exact wcL_of
    · exact e
  have wi : Cond.initialized RL ∈ UG := UG_of (i := 52) (by decide +kernel) (by decide +kernel)
  refine g_run (mc1 := 1) (ms1 := 6) (vx_runSW (As := As) (rest := st) (Ts := UG) (hh := hhL) (bytes := cL_of) (maxL := 5) (ret := some .int) (n := 4) ⟨q.exec, q.byt, q.ml, q.ow, fun w h => q.w h⟩ hC ⟨⟨rfl, rfl, by rw [q.2.2.2.2.2.2.1]; exact hrm.1, by rw [q.2.2.2.2.2.2.2.2.2]; exact hrm.2.1, fun w hw a' U hW => UG_wm (fun w h => q.w h) hW (hws w hw), List.mem_cons_self⟩, q.w wcL_of, q.w wi, ⟨by decide +kernel, by decide +kernel⟩, ?_, q.w wlL_92, q.w wsL_of⟩ ⟨PcX_blind, fun U hU hW => ⟨rfl, by rw [hU]; exact b1, q.atX ex c1 hU hW⟩⟩ rfl hnp (a1.1.trans hl) rfl (lv_room hst) hd ⟨by rw [q.2.2.2.2.2.2.2.1]; exact hrm.2.2.1, by rw [q.2.2.2.2.2.2.2.2.1]; exact hrm.2.2.2⟩) c1 fun v sz1 S1 r1 h1 hP H1 locs1 hR hS => kk v sz1 S1 r1 h1 hP ls H1 locs1 a1 hR hS
  intro sig hsig
  have : (parseMethodDescriptor yL_of.desc).map (fun d => d.parameters.length) = some 4 := by decide +kernel
  rw [hsig] at this
  exact (Option.some.inj this).symm
end RW
