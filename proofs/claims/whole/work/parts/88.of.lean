/-! ===== of: it returns or throws ===== -/
def NSE : String := "java/util/NoSuchElementException"
def nsC : ByteArray := .mk #[0x2a, 0x2b, 0xb7, 0x00, 0x0d, 0xb1]
def nsN : List String := ["java/lang/RuntimeException", "java/lang/Exception"]
def wNs : List Cond := (Bundle.ownAtomsX RX11 209 NSE 13 nsC nsN).filter vx_no
def wNb : List Cond := [Cond.declares (Bundle.initS "java/lang/RuntimeException"), Cond.declares (Bundle.initS "java/lang/Exception"), Cond.declares (Bundle.initS Bundle.tN), Cond.castable NSE NSE]
theorem wNs_g : ∀ w ∈ wNs.filter goodWord, w ∈ UG := UG_ws _ [67, 795, 804, 806, 809, 811, 796, 797, 77, 78, 798, 803, 807, 827, 785, 828, 787, 829, 789, 799, 801, 791, 823, 824, 826, 791, 814, 815, 816, 817, 817, 818, 819, 820, 820, 821, 822, 823, 813, 774, 782, 783, 784, 786, 788, 790, 794, 793, 792] (by decide +kernel) (by decide +kernel)
theorem wNs_b : ∀ w ∈ wNs.filter (fun w => !goodWord w), w ∈ wNb := by decide +kernel
theorem wNs_t : ∀ w ∈ Cond.classLink RX11 205 NSE :: Cond.initialized NSE :: wNs, vx_ot w = true := by decide +kernel
theorem wi_NSE : Cond.initialized NSE ∈ UG := UG_of (i := 70) (by decide +kernel) (by decide +kernel)
/-- what a throw wants of a state, beside its words -/
def EX (B s1 s2 : Nat) (U : State) : Prop := vk_R RX11 207 "no such list" s1 U ∧ vk_R RX11 226 "no such what" s2 U ∧ vx_Zq Bundle.tN "UNASSIGNED_STACK" Bundle.steD (fun q => B ≤ q) U U.heap ∧ vx_Zq Bundle.tN "SUPPRESSED_SENTINEL" Bundle.listD (fun q => B ≤ q) U U.heap ∧ va_Nw (.declares (Bundle.initS "java/lang/RuntimeException")) U ∧ va_Nw (.declares (Bundle.initS "java/lang/Exception")) U ∧ va_Nw (.declares (Bundle.initS Bundle.tN)) U ∧ va_Nw (.castable NSE NSE) U
theorem EX.moved {B s1 s2 : Nat} {s U : State} (h : EX B s1 s2 s) (hW : s.WarmedH U.vm) (o : ∀ q : Nat, q < s.heap.size → ¬ B ≤ q → U.heap[q]? = s.heap[q]?) : EX B s1 s2 U :=
  ⟨h.1.warm hW, h.2.1.warm hW, (vx_Zq.moved hW.alike h.2.2.1).kept o, (vx_Zq.moved hW.alike h.2.2.2.1).kept o, va_Nw.warmD hW h.2.2.2.2.1, va_Nw.warmD hW h.2.2.2.2.2.1, va_Nw.warmD hW h.2.2.2.2.2.2.1, va_Nw.warmC hW h.2.2.2.2.2.2.2⟩
theorem EX.hat {B s1 s2 : Nat} {s : State} {args : Array Value} (h : EX B s1 s2 s) (hw : ∀ w ∈ UG, w.before args s = true) : ∀ w ∈ wNs, w.before args s = true :=
  vx_hat (B := wNb) (fun w hm => hw w (wNs_g w hm)) wNs_b (vx_c (va_Nw.use rfl h.2.2.2.2.1) (vx_c (va_Nw.use rfl h.2.2.2.2.2.1) (vx_c (va_Nw.use rfl h.2.2.2.2.2.2.1) (vx_c (va_Nw.use rfl h.2.2.2.2.2.2.2) vx_n))))
theorem Rel.grow {D : va_G} {aC : Nat → ClassId} {B sz : Nat} {S : sS} {r : sR} {h : sH} {H H1 : Heap} (R : Rel D aC B sz S r h H) (o : ∀ q : Nat, q < H.size → H1[q]? = H[q]?) : Rel D aC B H1.size S r h H1 := ⟨rfl, fun b kd n hb => by
  obtain ⟨q1, q2, q3⟩ := R.2 b kd n hb
  exact ⟨q1, q2, q3.kept (o b q3.lt)⟩⟩
/-- thrown, C being so: the picture as it was, in a larger heap -/
def XCo (D : va_G) (aC : Nat → ClassId) (B : Nat) (S : sS) (r : sR) (h : sH) (C : Prop) : String → State → State → Prop := fun E st t => (E = NSE ∧ C ∧ ∃ sz' : Nat, Rel D aC B sz' S r h t.heap) ∧ va_F (fun q => B ≤ q) st t
def RtX (X : CX) (ret : Option FieldType) (mc ms : Nat) (P : sP) (XC : String → State → State → Prop) : Prop :=
  (xh X).locks = false ∧ (xh X).sig.returnType = ret ∧ xQ X = vx_MQ (xb X) (QP (xD X) (xA X) (xB X) P) XC (xa X) (xs X) mc ms (fun q => xB X ≤ q)
def CtX (l : Launch) (y : MethodName) (cc : ByteArray) (maxL : Nat) (ret : Option FieldType) (fr lo mc ms : Nat) (av : List Value) (D : va_G) (aC : Nat → ClassId) (B t s1 s2 sz : Nat) (S : sS) (r : sR) (h : sH) (P : sP) (C : Prop) : Prop :=
  vx_Met l y (Cond.code y cc maxL ret :: UG) ({ frames := fr, cells := mc, slots := ms, locals := lo } : Room) (va_Pc av (fun U => Rel D aC B sz S r h U.heap ∧ KK D aC B t U ∧ EX B s1 s2 U)) (QP D aC B P) (XCo D aC B S r h C) mc ms (fun q => B ≤ q)
theorem CtX.of {l : Launch} {y : MethodName} {cc : ByteArray} {maxL : Nat} {ret : Option FieldType} {fr lo mc ms : Nat} {av : List Value} {D : va_G} {aC : Nat → ClassId} {B t s1 s2 sz : Nat} {S : sS} {r : sR} {h : sH} {P : sP} {C : Prop} {lv : List (Option Value)}
    (hy : plainName y.cls = true) (hlv : elv av maxL = lv) (hlen : (lg_sl av).length ≤ maxL)
    (body : ∀ X : CX, xl X = l → Ok X cc y.cls maxL fr lo mc ms → RtX X ret mc ms P (XCo (xD X) (xA X) (xB X) S r h C) → EX (xB X) s1 s2 (xs X) → (∀ x ∈ (xc X).exceptionTable.toList, False) → G X 0 0 0 lv [] sz S r h) : CtX l y cc maxL ret fr lo mc ms av D aC B t s1 s2 sz S r h P C := by
  refine vx_ofW (cc := cc) (maxL := maxL) (ret := ret) hy rfl ?_
  intro p e s m args below meth c s₁ Bd hml hex hv
  obtain ⟨rfl, hRel, hKK, hEX⟩ := hv
  have hts := atoms_spec (ws := Cond.code y cc maxL ret :: UG) Bd.pre
  have g := body (p, l, e, (headSpec (Cond.code y cc maxL ret :: UG) ({ frames := fr, cells := mc, slots := ms, locals := lo } : Room)).room, s, m, av.toArray, below, meth, c, vx_MQ below (QP D aC B P) (XCo D aC B S r h C) av.toArray s mc ms (fun q => B ≤ q), D, aC, B, t) rfl
    ⟨Bd.exec, Bd.bytes, hml, findClass_of_methodNamed Bd.named, fun w hw => hts w (List.mem_cons_of_mem _ hw), hKK, rfl, rfl, rfl, rfl⟩ ⟨Bd.notSynchronized, Bd.returns, rfl⟩ hEX hex
  have := g _ s.heap [] (by rw [← hlv]; exact LV.entry av hlen) hRel va_S.rf
  rw [lg_entry_eq]
  exact this
section RX
variable {X : CX} {k n pc : Nat} {lv : List (Option Value)} {st : List Value} {sz : Nat} {S : sS} {r : sR} {h : sH} {cc : ByteArray} {own : String} {nL fr lo mc ms : Nat}
theorem x_ireturn (q : Ok X cc own nL fr lo mc ms) {P : sP} {XC : String → State → State → Prop} (rt : RtX X (some .int) mc ms P XC) (hk : k ≤ mc) (hn : n ≤ ms) {z : Int} (hd : decode cc pc = .ok (.ireturn, 1)) (hP : P (some (.int (iI z))) sz S r h) : G X k n pc lv [.int (iI z)] sz S r h := by
  intro ls H locs a b c
  unfold WX
  rw [rt.2.2]
  refine W.widen hk hn (vx_ret ?_)
  exact W.iret q.exec q.byt rt.2.1 (fun t ht hW => ⟨⟨_, _, _, _, _, rfl, hP, by rw [ht]; exact b⟩, c.F ht⟩) c.2.2 hd rt.1
theorem x_throw (q : Ok X cc RX11 nL fr lo mc ms) {P : sP} {C : Prop} {s1 s2 is sa : Nat} {text : String} (rt : RtX X (some .int) mc ms P (XCo (xD X) (xA X) (xB X) S r h C)) (hl : (xl X).stackTraces = false) (ex : EX (xB X) s1 s2 (xs X)) (hstr : vk_R RX11 is text sa (xs X)) (hout : ∀ x ∈ (xc X).exceptionTable.toList, False) (hC : C) (hll : lv.length = nL)
    (hrm : 5 < fr ∧ (st.map fun v => v.category).sum + 82 ≤ lo ∧ k + 1 ≤ mc ∧ n + 6 ≤ ms) (d0 : decode cc pc = .ok (.new 205, 3)) (d3 : decode cc (pc + 3) = .ok (.dup, 1)) (d4 : decode cc (pc + 4) = .ok (.ldc is, 2)) (d6 : decode cc (pc + 6) = .ok (.invokespecial 209, 3)) (d9 : decode cc (pc + 9) = .ok (.athrow, 1)) : G X k n pc lv st sz S r h := by
  intro ls H locs a b c
  unfold WX
  rw [rt.2.2]
  refine vx_throwSX (own := RX11) (cls := NSE) (text := text) (names := nsN) (ik := 205) (is := is) (ic := 209) (ix := 13) (rx := nsC) (sa := sa) (A := fun q => xB X ≤ q) q.exec q.byt hl q.ow (by decide +kernel) (by decide +kernel) (by decide +kernel) (by decide +kernel) (by decide +kernel) (by decide +kernel) (q.w xX11_205) (q.w wi_NSE) hstr (ex.hat (fun w h => q.w h)) wNs_t ex.2.2.1 ex.2.2.2.1 c (a.1.trans (hll.trans q.ml.symm)) d0 d3 d4 d6 d9 (fun x hx => (hout x hx).elim) (by rw [q.2.2.2.2.2.2.1]; exact hrm.1) (by rw [q.2.2.2.2.2.2.2.2.2]; exact hrm.2.1) (by rw [q.2.2.2.2.2.2.2.1]; exact hrm.2.2.1) (by rw [q.2.2.2.2.2.2.2.2.1]; exact hrm.2.2.2) rt.1 (fun t ha hz ho => ⟨⟨rfl, hC, t.heap.size, b.grow ho⟩, ?_, ?_⟩) c.2.2 hrm.2.2.1 hrm.2.2.2
  · exact Nat.le_trans c.1 hz
  · intro z h1 h2
    rw [ho z (Nat.lt_of_lt_of_le h1 c.1)]
    exact c.2.1 z h1 h2
theorem PcX_blind {D : va_G} {aC : Nat → ClassId} {B t s1 s2 : Nat} {av : List Value} : FrameBlind (va_Pc av (fun U => Rel D aC B sz S r h U.heap ∧ KK D aC B t U ∧ EX B s1 s2 U)) := by
  intro a U g mk hq
  obtain ⟨q0, q1, q2, q3⟩ := hq
  exact ⟨q0, q1, q2.moved (U := U.calling g mk a) (State.WarmedH.refl U) (Nat.le_refl _) (fun _ _ _ => rfl), q3.moved (U := U.calling g mk a) (State.WarmedH.refl U) (fun _ _ _ => rfl)⟩
theorem Ok.atX (q : Ok X cc own nL fr lo mc ms) {s1 s2 : Nat} (ex : EX (xB X) s1 s2 (xs X)) {H : Heap} {locs : List Loc} (hS : va_S (fun q => xB X ≤ q) (xs X).heap H locs) {U : State} (hU : U.heap = H) (hW : (xs X).WarmedH U.vm) : KK (xD X) (xA X) (xB X) (xt X) U ∧ EX (xB X) s1 s2 U := ⟨q.at hS hU hW, ex.moved hW (fun z h1 h2 => by rw [hU]; exact hS.2.1 z h1 h2)⟩
theorem g_cvX (q : Ok X cc own nL fr lo mc ms) {s1 s2 : Nat} (ex : EX (xB X) s1 s2 (xs X)) {idx maxL1 fr1 lo1 mc1 ms1 np ci nn b : Nat} {y : MethodName} {c1 : ByteArray} {ret1 : Option FieldType} {As : List Value} {P : sP} {C : Prop} (hC : CtX (xl X) y c1 maxL1 ret1 fr1 lo1 mc1 ms1 (.ref b :: As) (xD X) (xA X) (xB X) (xt X) s1 s2 sz S r h P C) (hm : MLV own idx y c1 maxL1 ret1 ci np) (hb : S b = some (ci, nn)) (hnp : As.length = np) (hrm : fr1 + 1 ≤ fr ∧ 8 + (maxL1 + 11) + lo1 ≤ lo ∧ k + mc1 ≤ mc ∧ n + ms1 ≤ ms) (hst : (st.map fun v => v.category).sum ≤ 8) (hl : lv.length = nL) (hd : decode cc pc = .ok (.invokevirtual idx, 3))
    (kx : ∀ (ls : Array Slot) (H1 : Heap) (locs1 : List Loc) (sz' : Nat) (ce : Cell) (q9 : Addr), LV ls lv → C → Rel (xD X) (xA X) (xB X) sz' S r h H1 → va_S (fun q => xB X ≤ q) (xs X).heap H1 locs1 → H1[q9]? = some ce → ce.vm = .none → (xs X).vm.findClass NSE = some ce.cls → vx_W (xp X) (xl X) (xe X) (xR X) (xs X) (xm X) (xa X) (xb X) (xh X) (xc X) H1 locs1 (k + mc1) (n + ms1) (xQ X) (F0 (xm X) pc ls st) q9)
    (kk : ∀ (v : Option Value) (sz1 : Nat) (S1 : sS) (r1 : sR) (h1 : sH), P v sz1 S1 r1 h1 → G X (k + mc1) (n + ms1) (pc + 3) lv (v.toList ++ st) sz1 S1 r1 h1) : G X k n pc lv (As.reverse ++ .ref b :: st) sz S r h := by
  intro ls H locs a1 b1 c1
  obtain ⟨hB, hlk, hin, hse, hcl, hci⟩ := hm
  have hrun := vx_runV (As := As) (rest := st) (Ts := UG) (H := H) (locs := locs) (cells := k) (slots := n) (e := xe X) (below := xb X) (meth := xh X) (g := F0 (xm X) pc ls (As.reverse ++ .ref b :: st)) ⟨q.exec, q.byt, q.ml, q.ow, fun w h => q.w h⟩ hC ⟨q.cb hB hlk hrm.1 hrm.2.1, q.w hin, q.w hse⟩ ⟨PcX_blind, (by
    obtain ⟨q', hq', cell, g1, g2, g3, -⟩ := ((b1.2 b ci nn hb).2.2).obj hci
    rw [hq'] at hcl
    refine ⟨cell, g1, by rw [g3]; rfl, ?_⟩
    rw [g2, ← Option.some.inj hcl]
    exact (q.va.1 ci q' hq').2.1), fun U hU hW => ⟨rfl, by rw [hU]; exact b1, q.atX ex c1 hU hW⟩⟩ rfl hnp (a1.1.trans hl) rfl (lv_room hst) hd ⟨by rw [q.2.2.2.2.2.2.2.1]; exact hrm.2.2.1, by rw [q.2.2.2.2.2.2.2.2.1]; exact hrm.2.2.2⟩
  intro T hT Xs
  rcases hrun T hT Xs with ⟨v, st₀, t, T', L, h0, X', hL, e1, e2, ⟨⟨v', sz1, S1, r1, h1, hv, hP, hRel⟩, hz, hk⟩, stp⟩ | ⟨q9, st₀, t, T', L, E, ce, h0, X', hL, e1, e2, ⟨⟨rfl, hCC, sz', hRel⟩, hz, hk⟩, hce, hcv, hclE, stp⟩
  · cases hv
    rw [h0] at hz hk
    obtain ⟨t2, g1, g2⟩ := kk v sz1 S1 r1 h1 hP ls T'.heap (locs ++ L) a1 (by rw [e1]; exact hRel)
      ⟨Nat.le_trans c1.1 (by rw [e1]; exact hz), fun z g1 g2 => by rw [e1, hk z (Nat.lt_of_lt_of_le g1 c1.1) g2]; exact c1.2.1 z g1 g2, fun z hz => by
        rcases List.mem_append.mp hz with h | h
        · exact c1.2.2 z h
        · exact hL z h⟩ T' rfl X'
    exact ⟨t2, stp t2 g1, g2⟩
  · rw [h0] at hz hk
    obtain ⟨t2, g1, g2⟩ := kx ls T'.heap (locs ++ L) sz' ce q9 a1 hCC (by rw [e1]; exact hRel)
      ⟨Nat.le_trans c1.1 (by rw [e1]; exact hz), fun z g1 g2 => by rw [e1, hk z (Nat.lt_of_lt_of_le g1 c1.1) g2]; exact c1.2.1 z g1 g2, fun z hz => by
        rcases List.mem_append.mp hz with h | h
        · exact c1.2.2 z h
        · exact hL z h⟩ (by rw [e1]; exact hce) hcv hclE T' rfl X'
    exact ⟨t2, stp.trans g1, g2⟩
end RX
def okO (h : sH) (x : Nat) (l1 w : Int) : Prop := 0 ≤ l1 ∧ l1 < h x 4 ∧ ((0 ≤ w ∧ w ≤ 1) ∨ (10 ≤ w ∧ w < 9 + h (x + 7 + 44 * l1.toNat) 4) ∨ (20 ≤ w ∧ w < 20 + h (x + 7 + 44 * l1.toNat) 4))
def ofV (h : sH) (x : Nat) (n : Int → Int → Int) (u : Int → Int → Int → Int) (un : Int → Int → Int) (l1 w : Int) : Int := if w = 0 then h (x + 7 + 44 * l1.toNat) 3 else if w = 1 then h (x + 7 + 44 * l1.toNat) 4 else if w < 20 then vS (u l1 (w - 10)) (un l1 (w - 10)).toNat else n l1 (w - 20)
theorem c_X11_of {l : Launch} {D : va_G} {aC : Nat → ClassId} {B t sz : Nat} {S : sS} {r : sR} {h : sH} {s1 s2 x : Nat} {l1 w T : Int} {b : Int → Int} {g : Int → Int → Int → Int} {n : Int → Int → Int} {u : Int → Int → Int → Int} {un : Int → Int → Int} {rg sg : Int → Int → Int} {rn sn : Int → Int} (hnt : l.stackTraces = false) (hx : LX11 S r x) (hI : clI h x b T g n u un rg rn sg sn) (hl1 : inR l1) (hw : inR w) : CtX l yX11_of cX11_of 4 (some .int) 6 90 1 6 [.ref x, .int (iI l1), .int (iI w)] D aC B t s1 s2 sz S r h (nPI sz S r (fun z h1 => okO h x l1 w ∧ z = ofV h x n u un l1 w ∧ h1 = h)) (¬ okO h x l1 w) := by
  refine CtX.of (lv := [some (.ref x), some (.int (iI l1)), some (.int (iI w)), none]) (by decide +kernel) rfl (Nat.le_of_ble_eq_true rfl) (fun X hl q rt ex hout => ?_)
  rw [← hl] at hnt
  obtain ⟨l0, l9⟩ := hl1
  obtain ⟨w0, w9⟩ := hw
  obtain ⟨ht, ⟨c0, c4⟩, hr, hL, hH, hs, dd⟩ := hI
  refine r_aload_0 (pc := 0) q dX11_of_0 ?_
  refine r_iload_1 (pc := 1) q dX11_of_1 ?_
  refine g_cv (As := [.int (iI l1)]) (pc := 2) q (c_X11_hasList hx ⟨l0, l9⟩ c0 c4) mX11_159 hx.o rfl (by decide) (Nat.le_of_ble_eq_true rfl) rfl dX11_of_2 (fun v sz1 S1 r1 h1 hP => ?_)
  obtain ⟨rfl, rfl, rfl, z, rfl, hz, rfl⟩ := hP
  refine r_if_ne (pc := 5) q 18 dX11_of_5 (by decide) ⟨by omega, by omega⟩ (fun c5 => ?_) (fun c5 => ?_)
  · have hin : 0 ≤ l1 ∧ l1 < h x 4 := by omega
    have hy : LX7 S1 r1 (x + 7 + 44 * l1.toNat) := hx.n_routes hin.1 (by omega)
    obtain ⟨r1', ⟨r2, r3⟩, r4, r5⟩ := hr l1 hin.1 hin.2
    refine r_aload_0 (pc := 18) q dX11_of_18 ?_
    refine r_getr (pc := 19) q fX11_32 (kz := 3) rfl (by decide) rfl hx.o hx.r_routes dX11_of_19 ?_
    refine r_iload_1 (pc := 22) q dX11_of_22 ?_
    refine r_aald26 (pc := 23) q hx.s_routes (by omega) (by omega) (hx.e_routes hin.1 (by omega)) dX11_of_23 ?_
    refine r_astore_3 (pc := 24) q dX11_of_24 rfl ?_
    refine r_iload_2 (pc := 25) q dX11_of_25 ?_
    refine r_if_ne (pc := 26) q 34 dX11_of_26 (by decide) ⟨by omega, by omega⟩ (fun c26 => ?_) (fun c26 => ?_)
    · refine r_iload_2 (pc := 34) q dX11_of_34 ?_
      refine r_iconst (pc := 35) q dX11_of_35 ?_
      refine r_icmp_ne (pc := 36) q 44 dX11_of_36 (by decide) ⟨by omega, by omega⟩ ⟨by omega, by omega⟩ (fun c36 => ?_) (fun c36 => ?_)
      · have last : ¬ (20 ≤ w ∧ w < 20 + h (x + 7 + 44 * l1.toNat) 4) → ¬ (10 ≤ w ∧ w < 9 + h (x + 7 + 44 * l1.toNat) 4) → G X (0 + 0) (0 + 0) 104 [some (.ref x), some (.int (iI l1)), some (.int (iI w)), some (.ref (x + 7 + 44 * l1.toNat))] [] sz1 S1 r1 h := fun n1 n2 =>
          x_throw (pc := 104) q rt hnt ex ex.2.1 hout (fun o => by rcases o.2.2 with p | p | p <;> omega) rfl (by decide) dX11_of_104 dX11_of_107 dX11_of_108 dX11_of_110 dX11_of_113
        have mid : ¬ (10 ≤ w ∧ w < 9 + h (x + 7 + 44 * l1.toNat) 4) → G X (0 + 0) (0 + 0) 74 [some (.ref x), some (.int (iI l1)), some (.int (iI w)), some (.ref (x + 7 + 44 * l1.toNat))] [] sz1 S1 r1 h := fun n2 => by
          refine r_iload_2 (pc := 74) q dX11_of_74 ?_
          refine r_bipush (pc := 75) q dX11_of_75 (by decide) ?_
          refine r_icmp_lt (pc := 77) q 104 dX11_of_77 (by decide) ⟨by omega, by omega⟩ ⟨by omega, by omega⟩ (fun c77 => last (by omega) n2) (fun c77 => ?_)
          refine r_aload_3 (pc := 80) q dX11_of_80 ?_
          refine r_iload_2 (pc := 81) q dX11_of_81 ?_
          refine r_bipush (pc := 82) q dX11_of_82 (by decide) ?_
          refine r_isub (pc := 84) q dX11_of_84 ?_
          refine g_cv (As := [.int (iI (w - 20))]) (pc := 85) q (c_X7_hasStation hy ⟨by omega, by omega⟩ (by omega) r3) mX11_223 hy.o rfl (by decide) (Nat.le_of_ble_eq_true rfl) rfl dX11_of_85 (fun v sz2 S2 r2' h2 hP2 => ?_)
          obtain ⟨rfl, rfl, rfl, z2, rfl, hz2, rfl⟩ := hP2
          refine r_if_eq (pc := 88) q 104 dX11_of_88 (by decide) ⟨by omega, by omega⟩ (fun c88 => last (by omega) n2) (fun c88 => ?_)
          have hi : 0 ≤ w - 20 ∧ w - 20 < h (x + 7 + 44 * l1.toNat) 4 := by omega
          refine r_aload_3 (pc := 91) q dX11_of_91 ?_
          refine r_getr (pc := 92) q fX11_140 (kz := 0) rfl (by decide) rfl hy.o hy.r_names dX11_of_92 ?_
          refine r_iload_2 (pc := 95) q dX11_of_95 ?_
          refine r_bipush (pc := 96) q dX11_of_96 (by decide) ?_
          refine r_isub (pc := 98) q dX11_of_98 ?_
          refine r_aald24 (pc := 99) q hy.s_names (by omega) (by omega) (hy.e_names hi.1 (by omega)) dX11_of_99 ?_
          refine r_geti (pc := 100) q fX11_225 (kz := 1) rfl (by decide) rfl (hy.n_names hi.1 (by omega)).o dX11_of_100 ?_
          have en := (r4 (w - 20) hi.1 hi.2).1.1
          rw [en]
          refine x_ireturn (pc := 103) q rt (by decide) (by decide) dX11_of_103 ⟨rfl, rfl, rfl, _, rfl, ⟨hin.1, hin.2, by omega⟩, ?_, rfl⟩
          unfold ofV
          rw [if_neg (by omega), if_neg (by omega), if_neg (by omega)]
        refine r_iload_2 (pc := 44) q dX11_of_44 ?_
        refine r_bipush (pc := 45) q dX11_of_45 (by decide) ?_
        refine r_icmp_lt (pc := 47) q 74 dX11_of_47 (by decide) ⟨by omega, by omega⟩ ⟨by omega, by omega⟩ (fun c47 => mid (by omega)) (fun c47 => ?_)
        refine r_aload_3 (pc := 50) q dX11_of_50 ?_
        refine r_iload_2 (pc := 51) q dX11_of_51 ?_
        refine r_bipush (pc := 52) q dX11_of_52 (by decide) ?_
        refine r_isub (pc := 54) q dX11_of_54 ?_
        refine g_cv (As := [.int (iI (w - 10))]) (pc := 55) q (c_X7_hasNumeral hy ⟨by omega, by omega⟩ (by omega) r3) mX11_215 hy.o rfl (by decide) (Nat.le_of_ble_eq_true rfl) rfl dX11_of_55 (fun v sz2 S2 r2' h2 hP2 => ?_)
        obtain ⟨rfl, rfl, rfl, z2, rfl, hz2, rfl⟩ := hP2
        refine r_if_eq (pc := 58) q 74 dX11_of_58 (by decide) ⟨by omega, by omega⟩ (fun c58 => mid (by omega)) (fun c58 => ?_)
        have hi : 0 ≤ w - 10 ∧ w - 10 + 1 < h (x + 7 + 44 * l1.toNat) 4 := by omega
        refine r_aload_3 (pc := 61) q dX11_of_61 ?_
        refine r_getr (pc := 62) q fX11_151 (kz := 1) rfl (by decide) rfl hy.o hy.r_numerals dX11_of_62 ?_
        refine r_iload_2 (pc := 65) q dX11_of_65 ?_
        refine r_bipush (pc := 66) q dX11_of_66 (by decide) ?_
        refine r_isub (pc := 68) q dX11_of_68 ?_
        refine r_aald25 (pc := 69) q hy.s_numerals (by omega) (by omega) (hy.e_numerals hi.1 (by omega)) dX11_of_69 ?_
        refine g_cv (As := []) (pc := 70) q (c_X4_value (hy.n_numerals hi.1 (by omega)) (r5 (w - 10) hi.1 hi.2).1) mX11_217 (hy.n_numerals hi.1 (by omega)).o rfl (by decide) (Nat.le_of_ble_eq_true rfl) rfl dX11_of_70 (fun v sz3 S3 r3' h3 hP3 => ?_)
        obtain ⟨rfl, rfl, rfl, z3, rfl, rfl, rfl⟩ := hP3
        refine x_ireturn (pc := 73) q rt (by decide) (by decide) dX11_of_73 ⟨rfl, rfl, rfl, _, rfl, ⟨hin.1, hin.2, by omega⟩, ?_, rfl⟩
        unfold ofV
        rw [if_neg (by omega), if_neg (by omega), if_pos (by omega)]
      · refine r_aload_3 (pc := 39) q dX11_of_39 ?_
        refine r_geti (pc := 40) q fX11_212 (kz := 4) rfl (by decide) rfl hy.o dX11_of_40 ?_
        refine x_ireturn (pc := 43) q rt (by decide) (by decide) dX11_of_43 ⟨rfl, rfl, rfl, _, rfl, ⟨hin.1, hin.2, by omega⟩, ?_, rfl⟩
        unfold ofV
        rw [if_neg (by omega), if_pos (by omega)]
    · refine r_aload_3 (pc := 29) q dX11_of_29 ?_
      refine r_geti (pc := 30) q fX11_94 (kz := 3) rfl (by decide) rfl hy.o dX11_of_30 ?_
      refine x_ireturn (pc := 33) q rt (by decide) (by decide) dX11_of_33 ⟨rfl, rfl, rfl, _, rfl, ⟨hin.1, hin.2, by omega⟩, ?_, rfl⟩
      unfold ofV
      rw [if_pos (by omega)]
  · refine x_throw (pc := 8) q rt hnt ex ex.1 hout (fun o => ?_) rfl (by decide) dX11_of_8 dX11_of_11 dX11_of_12 dX11_of_14 dX11_of_17
    have o1 := o.1
    have o2 := o.2.1
    omega
