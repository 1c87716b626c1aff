/-! ===== ends and calls ===== -/
def nP (sz : Nat) (S : sS) (r : sR) (Q : Option Value → sH → Prop) : sP := fun v sz1 S1 r1 h1 => sz1 = sz ∧ S1 = S ∧ r1 = r ∧ Q v h1
def nPI (sz : Nat) (S : sS) (r : sR) (Q : Int → sH → Prop) : sP := nP sz S r (fun v h1 => ∃ z : Int, v = some (.int (iI z)) ∧ Q z h1)
def nPL (sz : Nat) (S : sS) (r : sR) (Q : Int → sH → Prop) : sP := nP sz S r (fun v h1 => ∃ z : Int, v = some (.long (lI z)) ∧ Q z h1)
def nPV (sz : Nat) (S : sS) (r : sR) (Q : sH → Prop) : sP := nP sz S r (fun v h1 => v = none ∧ Q h1)
/-- contracts of methods that make nothing: an int, a long, nothing as the answer -/
def CtI (l : Launch) (y : MethodName) (cc : ByteArray) (maxL : Nat) (ret : Option FieldType) (fr lo : Nat) (av : List Value) (D : va_G) (aC : Nat → ClassId) (B t sz : Nat) (S : sS) (r : sR) (h : sH) (Q : Int → sH → Prop) : Prop := Ct l y cc maxL ret fr lo 0 0 av D aC B t sz S r h (nPI sz S r Q)
def CtL (l : Launch) (y : MethodName) (cc : ByteArray) (maxL : Nat) (ret : Option FieldType) (fr lo : Nat) (av : List Value) (D : va_G) (aC : Nat → ClassId) (B t sz : Nat) (S : sS) (r : sR) (h : sH) (Q : Int → sH → Prop) : Prop := Ct l y cc maxL ret fr lo 0 0 av D aC B t sz S r h (nPL sz S r Q)
def CtV (l : Launch) (y : MethodName) (cc : ByteArray) (maxL : Nat) (ret : Option FieldType) (fr lo : Nat) (av : List Value) (D : va_G) (aC : Nat → ClassId) (B t sz : Nat) (S : sS) (r : sR) (h : sH) (Q : sH → Prop) : Prop := Ct l y cc maxL ret fr lo 0 0 av D aC B t sz S r h (nPV sz S r Q)
def MLB (own : String) (idx : Nat) (y : MethodName) (cc : ByteArray) (maxL : Nat) (ret : Option FieldType) (np : Nat) : Prop :=
  Cond.initialized y.cls ∈ UG ∧ Cond.code y cc maxL ret ∈ UG ∧ (y.cls ≠ "java/lang/invoke/MethodHandle" ∧ y.cls ≠ "java/lang/invoke/VarHandle" ∧ (parseMethodDescriptor y.desc).map (fun d => d.parameters.length) = some np)
def MLV (own : String) (idx : Nat) (y : MethodName) (cc : ByteArray) (maxL : Nat) (ret : Option FieldType) (ci np : Nat) : Prop :=
  MLB own idx y cc maxL ret np ∧ Cond.methodLink own idx y ∈ UG ∧ Cond.instanceMethod y ∈ UG ∧ Cond.selects y.cls y y ∈ UG ∧ vwCl[ci]?.map (fun q => q.1) = some y.cls ∧ ci < 20
def MLS (own : String) (idx : Nat) (y : MethodName) (cc : ByteArray) (maxL : Nat) (ret : Option FieldType) (np : Nat) : Prop :=
  MLB own idx y cc maxL ret np ∧ Cond.methodLink own idx y ∈ UG ∧ Cond.static y ∈ UG
def MLI (own : String) (idx : Nat) (y : MethodName) (cc : ByteArray) (maxL : Nat) (np : Nat) : Prop :=
  MLB own idx y cc maxL none np ∧ Cond.methodLink own idx y ∈ UG ∧ Cond.instanceMethod y ∈ UG ∧ y.name = "<init>"
def MLN (own : String) (idx : Nat) (y : MethodName) (cc : ByteArray) (maxL : Nat) (np : Nat) : Prop :=
  MLB own idx y cc maxL none np ∧ (own, idx, y) ∈ nwM ∧ Cond.instanceMethod y ∈ UG ∧ y.name = "<init>"
section RC
variable {X : CX} {k n pc : Nat} {lv : List (Option Value)} {st : List Value} {sz : Nat} {S : sS} {r : sR} {h : sH} {cc : ByteArray} {own : String} {nL fr lo mc ms : Nat}
theorem g_ireturn (q : Ok X cc own nL fr lo mc ms) {P : sP} (rt : Rt X (some .int) mc ms P) (hk : k ≤ mc) (hn : n ≤ ms) {z : Int} (hd : decode cc pc = .ok (.ireturn, 1)) (hP : P (some (.int (iI z))) sz S r h) : G X k n pc lv [.int (iI z)] sz S r h := by
  intro ls H locs a b c
  unfold WX
  rw [rt.2.2]
  refine W.widen hk hn ?_
  exact W.iret q.exec q.byt rt.2.1 (fun t ht hW => ⟨⟨_, _, _, _, _, rfl, hP, by rw [ht]; exact b⟩, c.F ht⟩) c.2.2 hd rt.1
theorem g_zreturn (q : Ok X cc own nL fr lo mc ms) {P : sP} (rt : Rt X (some .boolean) mc ms P) (hk : k ≤ mc) (hn : n ≤ ms) {z : Int} (hz : z = 0 ∨ z = 1) (hd : decode cc pc = .ok (.ireturn, 1)) (hP : P (some (.int (iI z))) sz S r h) : G X k n pc lv [.int (iI z)] sz S r h := by
  intro ls H locs a b c
  unfold WX
  rw [rt.2.2]
  refine W.widen hk hn ?_
  exact W.zret q.exec q.byt rt.2.1 (nar_z hz) (fun t ht hW => ⟨⟨_, _, _, _, _, rfl, hP, by rw [ht]; exact b⟩, c.F ht⟩) c.2.2 hd rt.1
theorem g_lreturn (q : Ok X cc own nL fr lo mc ms) {P : sP} (rt : Rt X (some .long) mc ms P) (hk : k ≤ mc) (hn : n ≤ ms) {z : Int} (hd : decode cc pc = .ok (.lreturn, 1)) (hP : P (some (.long (lI z))) sz S r h) : G X k n pc lv [.long (lI z)] sz S r h := by
  intro ls H locs a b c
  unfold WX
  rw [rt.2.2]
  refine W.widen hk hn ?_
  exact W.lret q.exec q.byt rt.2.1 (fun t ht hW => ⟨⟨_, _, _, _, _, rfl, hP, by rw [ht]; exact b⟩, c.F ht⟩) c.2.2 hd rt.1
theorem g_return (q : Ok X cc own nL fr lo mc ms) {P : sP} (rt : Rt X none mc ms P) (hk : k ≤ mc) (hn : n ≤ ms) (hd : decode cc pc = .ok (.return_, 1)) (hP : P none sz S r h) : G X k n pc lv [] sz S r h := by
  intro ls H locs a b c
  unfold WX
  rw [rt.2.2]
  refine W.widen hk hn ?_
  exact W.vret q.exec q.byt rt.2.1 (fun t ht hW => ⟨⟨_, _, _, _, _, rfl, hP, by rw [ht]; exact b⟩, c.F ht⟩) c.2.2 hd rt.1
theorem r_ireturn (q : Ok X cc own nL fr lo 0 0) {Q : Int → sH → Prop} (rt : Rt X (some .int) 0 0 (nPI sz S r Q)) {z : Int} (hd : decode cc pc = .ok (.ireturn, 1)) (hQ : Q z h) : G X 0 0 pc lv [.int (iI z)] sz S r h := g_ireturn q rt (Nat.le_refl 0) (Nat.le_refl 0) hd ⟨rfl, rfl, rfl, z, rfl, hQ⟩
theorem r_zreturn (q : Ok X cc own nL fr lo 0 0) {Q : Int → sH → Prop} (rt : Rt X (some .boolean) 0 0 (nPI sz S r Q)) {z : Int} (hd : decode cc pc = .ok (.ireturn, 1)) (hz : z = 0 ∨ z = 1) (hQ : Q z h) : G X 0 0 pc lv [.int (iI z)] sz S r h := g_zreturn q rt (Nat.le_refl 0) (Nat.le_refl 0) hz hd ⟨rfl, rfl, rfl, z, rfl, hQ⟩
theorem r_lreturn (q : Ok X cc own nL fr lo 0 0) {Q : Int → sH → Prop} (rt : Rt X (some .long) 0 0 (nPL sz S r Q)) {z : Int} (hd : decode cc pc = .ok (.lreturn, 1)) (hQ : Q z h) : G X 0 0 pc lv [.long (lI z)] sz S r h := g_lreturn q rt (Nat.le_refl 0) (Nat.le_refl 0) hd ⟨rfl, rfl, rfl, z, rfl, hQ⟩
theorem r_return (q : Ok X cc own nL fr lo 0 0) {Q : sH → Prop} (rt : Rt X none 0 0 (nPV sz S r Q)) (hd : decode cc pc = .ok (.return_, 1)) (hQ : Q h) : G X 0 0 pc lv [] sz S r h := g_return q rt (Nat.le_refl 0) (Nat.le_refl 0) hd ⟨rfl, rfl, rfl, rfl, hQ⟩
theorem g_run {mc1 ms1 : Nat} {rest st0 : List Value} {av : Array Value} {P : sP} {ls : Array Slot} {H : Heap} {locs : List Loc} (hr : va_Run (xp X) (xl X) (xe X) (xR X) (xs X) (xm X) (xa X) (xb X) (xh X) (xc X) H locs k n mc1 ms1 (F0 (xm X) pc ls st0) rest (QP (xD X) (xA X) (xB X) P av) (fun q => xB X ≤ q)) (hS : va_S (fun q => xB X ≤ q) (xs X).heap H locs)
    (kk : ∀ (v : Option Value) (sz1 : Nat) (S1 : sS) (r1 : sR) (h1 : sH), P v sz1 S1 r1 h1 → ∀ (H1 : Heap) (locs1 : List Loc), Rel (xD X) (xA X) (xB X) sz1 S1 r1 h1 H1 → va_S (fun q => xB X ≤ q) (xs X).heap H1 locs1 → WX X (k + mc1) (n + ms1) H1 locs1 (F0 (xm X) (pc + 3) ls (v.toList ++ rest))) : WX X k n H locs (F0 (xm X) pc ls st0) := by
  intro T hT Xs
  obtain ⟨v, st₀, t, T', L, h0, X', hL, e1, e2, ⟨⟨v', sz1, S1, r1, h1, hv, hP, hRel⟩, hz, hk⟩, st⟩ := hr T hT Xs
  cases hv
  rw [h0] at hz hk
  obtain ⟨t2, a1, b1⟩ := kk v sz1 S1 r1 h1 hP T'.heap (locs ++ L) (by rw [e1]; exact hRel)
    ⟨Nat.le_trans hS.1 (by rw [e1]; exact hz), fun q g1 g2 => by rw [e1, hk q (Nat.lt_of_lt_of_le g1 hS.1) g2]; exact hS.2.1 q g1 g2, fun q hq => by
      rcases List.mem_append.mp hq with h | h
      · exact hS.2.2 q h
      · exact hL q h⟩ T' rfl X'
  exact ⟨t2, st t2 a1, b1⟩
theorem Pc_blind {D : va_G} {aC : Nat → ClassId} {B t : Nat} {av : List Value} : FrameBlind (va_Pc av (fun U => Rel D aC B sz S r h U.heap ∧ KK D aC B t U)) := by
  intro a U g mk hq
  obtain ⟨q0, q1, q2⟩ := hq
  exact ⟨q0, q1, q2.moved (U := U.calling g mk a) (State.WarmedH.refl U) (Nat.le_refl _) (fun _ _ _ => rfl)⟩
theorem Ok.at (q : Ok X cc own nL fr lo mc ms) {H : Heap} {locs : List Loc} (hS : va_S (fun q => xB X ≤ q) (xs X).heap H locs) {U : State} (hU : U.heap = H) (hW : (xs X).WarmedH U.vm) : KK (xD X) (xA X) (xB X) (xt X) U := q.kk.moved hW (by rw [hU]; exact hS.1) (fun z h1 h2 => by rw [hU]; exact hS.2.1 z h1 h2)
theorem Ok.cb (q : Ok X cc own nL fr lo mc ms) {idx maxL1 fr1 lo1 mc1 ms1 np : Nat} {y : MethodName} {c1 : ByteArray} {ret1 : Option FieldType} (hm : MLB own idx y c1 maxL1 ret1 np) (hl : Cond.methodLink own idx y ∈ UG) (hfr : fr1 + 1 ≤ fr) (hlo : 8 + (maxL1 + 11) + lo1 ≤ lo) : CallB (xR X) (xs X) (xa X) own idx y c1 maxL1 ret1 (Cond.code y c1 maxL1 ret1 :: UG) ({ frames := fr1, cells := mc1, slots := ms1, locals := lo1 } : Room) mc1 ms1 np :=
  callB_of (Ts := UG) np (fun w h => q.w h) (UG_in2 hm.2.1) rfl rfl rfl (q.w hm.1) (q.w hl) hm.2.2 ⟨by rw [q.2.2.2.2.2.2.1]; exact hfr, by rw [q.2.2.2.2.2.2.2.2.2]; exact hlo⟩
theorem g_cv (q : Ok X cc own nL fr lo mc ms) {idx maxL1 fr1 lo1 mc1 ms1 np ci nn b : Nat} {y : MethodName} {c1 : ByteArray} {ret1 : Option FieldType} {As : List Value} {P : sP} (hC : Ct (xl X) y c1 maxL1 ret1 fr1 lo1 mc1 ms1 (.ref b :: As) (xD X) (xA X) (xB X) (xt X) sz S r h P) (hm : MLV own idx y c1 maxL1 ret1 ci np) (hb : S b = some (ci, nn)) (hnp : As.length = np) (hrm : fr1 + 1 ≤ fr ∧ 8 + (maxL1 + 11) + lo1 ≤ lo ∧ k + mc1 ≤ mc ∧ n + ms1 ≤ ms) (hst : (st.map fun v => v.category).sum ≤ 8) (hl : lv.length = nL) (hd : decode cc pc = .ok (.invokevirtual idx, 3))
    (kk : ∀ (v : Option Value) (sz1 : Nat) (S1 : sS) (r1 : sR) (h1 : sH), P v sz1 S1 r1 h1 → G X (k + mc1) (n + ms1) (pc + 3) lv (v.toList ++ st) sz1 S1 r1 h1) : G X k n pc lv (As.reverse ++ .ref b :: st) sz S r h := by
  intro ls H locs a1 b1 c1
  obtain ⟨hB, hlk, hin, hse, hcl, hci⟩ := hm
  refine g_run (mc1 := mc1) (ms1 := ms1) (va_runV (As := As) (rest := st) (Ts := UG) ⟨q.exec, q.byt, q.ml, q.ow, fun w h => q.w h⟩ hC ⟨q.cb hB hlk hrm.1 hrm.2.1, q.w hin, q.w hse⟩ ⟨Pc_blind, ?_, fun U hU hW => ⟨rfl, by rw [hU]; exact b1, q.at c1 hU hW⟩⟩ rfl hnp (a1.1.trans hl) rfl (lv_room hst) hd ⟨by rw [q.2.2.2.2.2.2.2.1]; exact hrm.2.2.1, by rw [q.2.2.2.2.2.2.2.2.1]; exact hrm.2.2.2⟩) c1 fun v sz1 S1 r1 h1 hP H1 locs1 hR hS => kk v sz1 S1 r1 h1 hP ls H1 locs1 a1 hR hS
  obtain ⟨q', hq', cell, g1, g2, g3, -⟩ := ((b1.2 b ci nn hb).2.2).obj hci
  rw [hq'] at hcl
  refine ⟨cell, g1, by rw [g3]; rfl, ?_⟩
  rw [g2, ← Option.some.inj hcl]
  exact (q.va.1 ci q' hq').2.1
theorem g_cs (q : Ok X cc own nL fr lo mc ms) {idx maxL1 fr1 lo1 mc1 ms1 np : Nat} {y : MethodName} {c1 : ByteArray} {ret1 : Option FieldType} {As : List Value} {P : sP} (hC : Ct (xl X) y c1 maxL1 ret1 fr1 lo1 mc1 ms1 As (xD X) (xA X) (xB X) (xt X) sz S r h P) (hm : MLS own idx y c1 maxL1 ret1 np) (hnp : As.length = np) (hrm : fr1 + 1 ≤ fr ∧ 8 + (maxL1 + 11) + lo1 ≤ lo ∧ k + mc1 ≤ mc ∧ n + ms1 ≤ ms) (hst : (st.map fun v => v.category).sum ≤ 8) (hl : lv.length = nL) (hd : decode cc pc = .ok (.invokestatic idx, 3))
    (kk : ∀ (v : Option Value) (sz1 : Nat) (S1 : sS) (r1 : sR) (h1 : sH), P v sz1 S1 r1 h1 → G X (k + mc1) (n + ms1) (pc + 3) lv (v.toList ++ st) sz1 S1 r1 h1) : G X k n pc lv (As.reverse ++ st) sz S r h := by
  intro ls H locs a1 b1 c1
  obtain ⟨hB, hlk, hse⟩ := hm
  exact g_run (mc1 := mc1) (ms1 := ms1) (va_runS (As := As) (rest := st) (Ts := UG) ⟨q.exec, q.byt, q.ml, q.ow, fun w h => q.w h⟩ hC ⟨q.cb hB hlk hrm.1 hrm.2.1, q.w hse⟩ ⟨Pc_blind, fun U hU hW => ⟨rfl, by rw [hU]; exact b1, q.at c1 hU hW⟩⟩ rfl hnp (a1.1.trans hl) rfl (lv_room hst) hd ⟨by rw [q.2.2.2.2.2.2.2.1]; exact hrm.2.2.1, by rw [q.2.2.2.2.2.2.2.2.1]; exact hrm.2.2.2⟩) c1 fun v sz1 S1 r1 h1 hP H1 locs1 hR hS => kk v sz1 S1 r1 h1 hP ls H1 locs1 a1 hR hS
theorem g_ci (q : Ok X cc own nL fr lo mc ms) {idx maxL1 fr1 lo1 mc1 ms1 np b : Nat} {y : MethodName} {c1 : ByteArray} {As : List Value} {P : sP} (hC : Ct (xl X) y c1 maxL1 none fr1 lo1 mc1 ms1 (.ref b :: As) (xD X) (xA X) (xB X) (xt X) sz S r h P) (hm : MLI own idx y c1 maxL1 np) (hnp : As.length = np) (hrm : fr1 + 1 ≤ fr ∧ 8 + (maxL1 + 11) + lo1 ≤ lo ∧ k + mc1 ≤ mc ∧ n + ms1 ≤ ms) (hst : (st.map fun v => v.category).sum ≤ 8) (hl : lv.length = nL) (hd : decode cc pc = .ok (.invokespecial idx, 3))
    (kk : ∀ (v : Option Value) (sz1 : Nat) (S1 : sS) (r1 : sR) (h1 : sH), P v sz1 S1 r1 h1 → G X (k + mc1) (n + ms1) (pc + 3) lv (v.toList ++ st) sz1 S1 r1 h1) : G X k n pc lv (As.reverse ++ .ref b :: st) sz S r h := by
  intro ls H locs a1 b1 c1
  obtain ⟨hB, hlk, hin, hnm⟩ := hm
  exact g_run (mc1 := mc1) (ms1 := ms1) (va_runI (As := As) (rest := st) (Ts := UG) ⟨q.exec, q.byt, q.ml, q.ow, fun w h => q.w h⟩ hC ⟨q.cb hB hlk hrm.1 hrm.2.1, hnm, q.w hin⟩ ⟨Pc_blind, fun U hU hW => ⟨rfl, by rw [hU]; exact b1, q.at c1 hU hW⟩⟩ rfl hnp (a1.1.trans hl) rfl (lv_room hst) hd ⟨by rw [q.2.2.2.2.2.2.2.1]; exact hrm.2.2.1, by rw [q.2.2.2.2.2.2.2.2.1]; exact hrm.2.2.2⟩) c1 fun v sz1 S1 r1 h1 hP H1 locs1 hR hS => kk v sz1 S1 r1 h1 hP ls H1 locs1 a1 hR hS
theorem g_cn (q : Ok X cc own nL fr lo mc ms) {idx maxL1 fr1 lo1 mc1 ms1 np b : Nat} {y : MethodName} {c1 : ByteArray} {As : List Value} {P : sP} (hC : Ct (xl X) y c1 maxL1 none fr1 lo1 mc1 ms1 (.ref b :: As) (xD X) (xA X) (xB X) (xt X) sz S r h P) (hm : MLN own idx y c1 maxL1 np) (hnp : As.length = np) (hrm : fr1 + 1 ≤ fr ∧ 8 + (maxL1 + 11) + lo1 ≤ lo ∧ k + mc1 ≤ mc ∧ n + ms1 ≤ ms) (hst : (st.map fun v => v.category).sum ≤ 8) (hl : lv.length = nL) (hd : decode cc pc = .ok (.invokespecial idx, 3))
    (kk : ∀ (v : Option Value) (sz1 : Nat) (S1 : sS) (r1 : sR) (h1 : sH), P v sz1 S1 r1 h1 → G X (k + mc1) (n + ms1) (pc + 3) lv (v.toList ++ st) sz1 S1 r1 h1) : G X k n pc lv (As.reverse ++ .ref b :: st) sz S r h := by
  intro ls H locs a1 b1 c1
  obtain ⟨hB, hlk, hin, hnm⟩ := hm
  exact g_run (mc1 := mc1) (ms1 := ms1) (va_runIN (As := As) (rest := st) (Ts := UG) (host := "MileLists") ⟨q.exec, q.byt, q.ml, q.ow, fun w h => q.w h⟩ hC ⟨va_cnB (Ts := UG) np (fun w h => q.w h) (UG_in2 hB.2.1) rfl rfl rfl (q.kk.2.2.2.1 _ hlk) (q.w hB.1) hB.2.2 ⟨by rw [q.2.2.2.2.2.2.1]; exact hrm.1, by rw [q.2.2.2.2.2.2.2.2.2]; exact hrm.2.1⟩, hnm, q.w hin⟩ ⟨Pc_blind, fun U hU hW => ⟨rfl, by rw [hU]; exact b1, q.at c1 hU hW⟩⟩ rfl hnp (a1.1.trans hl) rfl (lv_room hst) hd ⟨by rw [q.2.2.2.2.2.2.2.1]; exact hrm.2.2.1, by rw [q.2.2.2.2.2.2.2.2.1]; exact hrm.2.2.2⟩) c1 fun v sz1 S1 r1 h1 hP H1 locs1 hR hS => kk v sz1 S1 r1 h1 hP ls H1 locs1 a1 hR hS

theorem r_cI0 (q : Ok X cc own nL fr lo mc ms) {idx maxL1 fr1 lo1 ci nn b : Nat} {y : MethodName} {c1 : ByteArray} {ret1 : Option FieldType} {Q : Int → sH → Prop} (hC : CtI (xl X) y c1 maxL1 ret1 fr1 lo1 (.ref b :: []) (xD X) (xA X) (xB X) (xt X) sz S r h Q) (hm : MLV own idx y c1 maxL1 ret1 ci 0) (hb : S b = some (ci, nn)) (hrm : fr1 + 1 ≤ fr ∧ 8 + (maxL1 + 11) + lo1 ≤ lo ∧ k + 0 ≤ mc ∧ n + 0 ≤ ms) (hst : (st.map fun v => v.category).sum ≤ 8) (hl : lv.length = nL) (hd : decode cc pc = .ok (.invokevirtual idx, 3)) (kk : ∀ (z : Int) (h1 : sH), Q z h1 → G X k n (pc + 3) lv (.int (iI z) :: st) sz S r h1) : G X k n pc lv (.ref b :: st) sz S r h := by
  refine g_cv (As := []) q hC hm hb rfl hrm hst hl hd fun v sz1 S1 r1 h1 hP => ?_
  obtain ⟨rfl, rfl, rfl, z, rfl, hQ⟩ := hP
  exact kk z h1 hQ
theorem r_cL0 (q : Ok X cc own nL fr lo mc ms) {idx maxL1 fr1 lo1 ci nn b : Nat} {y : MethodName} {c1 : ByteArray} {ret1 : Option FieldType} {Q : Int → sH → Prop} (hC : CtL (xl X) y c1 maxL1 ret1 fr1 lo1 (.ref b :: []) (xD X) (xA X) (xB X) (xt X) sz S r h Q) (hm : MLV own idx y c1 maxL1 ret1 ci 0) (hb : S b = some (ci, nn)) (hrm : fr1 + 1 ≤ fr ∧ 8 + (maxL1 + 11) + lo1 ≤ lo ∧ k + 0 ≤ mc ∧ n + 0 ≤ ms) (hst : (st.map fun v => v.category).sum ≤ 8) (hl : lv.length = nL) (hd : decode cc pc = .ok (.invokevirtual idx, 3)) (kk : ∀ (z : Int) (h1 : sH), Q z h1 → G X k n (pc + 3) lv (.long (lI z) :: st) sz S r h1) : G X k n pc lv (.ref b :: st) sz S r h := by
  refine g_cv (As := []) q hC hm hb rfl hrm hst hl hd fun v sz1 S1 r1 h1 hP => ?_
  obtain ⟨rfl, rfl, rfl, z, rfl, hQ⟩ := hP
  exact kk z h1 hQ
theorem r_cV0 (q : Ok X cc own nL fr lo mc ms) {idx maxL1 fr1 lo1 ci nn b : Nat} {y : MethodName} {c1 : ByteArray} {ret1 : Option FieldType} {Q : sH → Prop} (hC : CtV (xl X) y c1 maxL1 ret1 fr1 lo1 (.ref b :: []) (xD X) (xA X) (xB X) (xt X) sz S r h Q) (hm : MLV own idx y c1 maxL1 ret1 ci 0) (hb : S b = some (ci, nn)) (hrm : fr1 + 1 ≤ fr ∧ 8 + (maxL1 + 11) + lo1 ≤ lo ∧ k + 0 ≤ mc ∧ n + 0 ≤ ms) (hst : (st.map fun v => v.category).sum ≤ 8) (hl : lv.length = nL) (hd : decode cc pc = .ok (.invokevirtual idx, 3)) (kk : ∀ (h1 : sH), Q h1 → G X k n (pc + 3) lv (st) sz S r h1) : G X k n pc lv (.ref b :: st) sz S r h := by
  refine g_cv (As := []) q hC hm hb rfl hrm hst hl hd fun v sz1 S1 r1 h1 hP => ?_
  obtain ⟨rfl, rfl, rfl, rfl, hQ⟩ := hP
  exact kk h1 hQ
theorem r_cI1 (q : Ok X cc own nL fr lo mc ms) {idx maxL1 fr1 lo1 ci nn b : Nat} {y : MethodName} {c1 : ByteArray} {ret1 : Option FieldType} {v1 : Value} {Q : Int → sH → Prop} (hC : CtI (xl X) y c1 maxL1 ret1 fr1 lo1 (.ref b :: [v1]) (xD X) (xA X) (xB X) (xt X) sz S r h Q) (hm : MLV own idx y c1 maxL1 ret1 ci 1) (hb : S b = some (ci, nn)) (hrm : fr1 + 1 ≤ fr ∧ 8 + (maxL1 + 11) + lo1 ≤ lo ∧ k + 0 ≤ mc ∧ n + 0 ≤ ms) (hst : (st.map fun v => v.category).sum ≤ 8) (hl : lv.length = nL) (hd : decode cc pc = .ok (.invokevirtual idx, 3)) (kk : ∀ (z : Int) (h1 : sH), Q z h1 → G X k n (pc + 3) lv (.int (iI z) :: st) sz S r h1) : G X k n pc lv (v1 :: .ref b :: st) sz S r h := by
  refine g_cv (As := [v1]) q hC hm hb rfl hrm hst hl hd fun v sz1 S1 r1 h1 hP => ?_
  obtain ⟨rfl, rfl, rfl, z, rfl, hQ⟩ := hP
  exact kk z h1 hQ
theorem r_sI1 (q : Ok X cc own nL fr lo mc ms) {idx maxL1 fr1 lo1 : Nat} {y : MethodName} {c1 : ByteArray} {ret1 : Option FieldType} {v1 : Value} {Q : Int → sH → Prop} (hC : CtI (xl X) y c1 maxL1 ret1 fr1 lo1 [v1] (xD X) (xA X) (xB X) (xt X) sz S r h Q) (hm : MLS own idx y c1 maxL1 ret1 1) (hrm : fr1 + 1 ≤ fr ∧ 8 + (maxL1 + 11) + lo1 ≤ lo ∧ k + 0 ≤ mc ∧ n + 0 ≤ ms) (hst : (st.map fun v => v.category).sum ≤ 8) (hl : lv.length = nL) (hd : decode cc pc = .ok (.invokestatic idx, 3)) (kk : ∀ (z : Int) (h1 : sH), Q z h1 → G X k n (pc + 3) lv (.int (iI z) :: st) sz S r h1) : G X k n pc lv (v1 :: st) sz S r h := by
  refine g_cs (As := [v1]) q hC hm rfl hrm hst hl hd fun v sz1 S1 r1 h1 hP => ?_
  obtain ⟨rfl, rfl, rfl, z, rfl, hQ⟩ := hP
  exact kk z h1 hQ
theorem r_cL1 (q : Ok X cc own nL fr lo mc ms) {idx maxL1 fr1 lo1 ci nn b : Nat} {y : MethodName} {c1 : ByteArray} {ret1 : Option FieldType} {v1 : Value} {Q : Int → sH → Prop} (hC : CtL (xl X) y c1 maxL1 ret1 fr1 lo1 (.ref b :: [v1]) (xD X) (xA X) (xB X) (xt X) sz S r h Q) (hm : MLV own idx y c1 maxL1 ret1 ci 1) (hb : S b = some (ci, nn)) (hrm : fr1 + 1 ≤ fr ∧ 8 + (maxL1 + 11) + lo1 ≤ lo ∧ k + 0 ≤ mc ∧ n + 0 ≤ ms) (hst : (st.map fun v => v.category).sum ≤ 8) (hl : lv.length = nL) (hd : decode cc pc = .ok (.invokevirtual idx, 3)) (kk : ∀ (z : Int) (h1 : sH), Q z h1 → G X k n (pc + 3) lv (.long (lI z) :: st) sz S r h1) : G X k n pc lv (v1 :: .ref b :: st) sz S r h := by
  refine g_cv (As := [v1]) q hC hm hb rfl hrm hst hl hd fun v sz1 S1 r1 h1 hP => ?_
  obtain ⟨rfl, rfl, rfl, z, rfl, hQ⟩ := hP
  exact kk z h1 hQ
theorem r_sL1 (q : Ok X cc own nL fr lo mc ms) {idx maxL1 fr1 lo1 : Nat} {y : MethodName} {c1 : ByteArray} {ret1 : Option FieldType} {v1 : Value} {Q : Int → sH → Prop} (hC : CtL (xl X) y c1 maxL1 ret1 fr1 lo1 [v1] (xD X) (xA X) (xB X) (xt X) sz S r h Q) (hm : MLS own idx y c1 maxL1 ret1 1) (hrm : fr1 + 1 ≤ fr ∧ 8 + (maxL1 + 11) + lo1 ≤ lo ∧ k + 0 ≤ mc ∧ n + 0 ≤ ms) (hst : (st.map fun v => v.category).sum ≤ 8) (hl : lv.length = nL) (hd : decode cc pc = .ok (.invokestatic idx, 3)) (kk : ∀ (z : Int) (h1 : sH), Q z h1 → G X k n (pc + 3) lv (.long (lI z) :: st) sz S r h1) : G X k n pc lv (v1 :: st) sz S r h := by
  refine g_cs (As := [v1]) q hC hm rfl hrm hst hl hd fun v sz1 S1 r1 h1 hP => ?_
  obtain ⟨rfl, rfl, rfl, z, rfl, hQ⟩ := hP
  exact kk z h1 hQ
theorem r_cV1 (q : Ok X cc own nL fr lo mc ms) {idx maxL1 fr1 lo1 ci nn b : Nat} {y : MethodName} {c1 : ByteArray} {ret1 : Option FieldType} {v1 : Value} {Q : sH → Prop} (hC : CtV (xl X) y c1 maxL1 ret1 fr1 lo1 (.ref b :: [v1]) (xD X) (xA X) (xB X) (xt X) sz S r h Q) (hm : MLV own idx y c1 maxL1 ret1 ci 1) (hb : S b = some (ci, nn)) (hrm : fr1 + 1 ≤ fr ∧ 8 + (maxL1 + 11) + lo1 ≤ lo ∧ k + 0 ≤ mc ∧ n + 0 ≤ ms) (hst : (st.map fun v => v.category).sum ≤ 8) (hl : lv.length = nL) (hd : decode cc pc = .ok (.invokevirtual idx, 3)) (kk : ∀ (h1 : sH), Q h1 → G X k n (pc + 3) lv (st) sz S r h1) : G X k n pc lv (v1 :: .ref b :: st) sz S r h := by
  refine g_cv (As := [v1]) q hC hm hb rfl hrm hst hl hd fun v sz1 S1 r1 h1 hP => ?_
  obtain ⟨rfl, rfl, rfl, rfl, hQ⟩ := hP
  exact kk h1 hQ
theorem r_sV1 (q : Ok X cc own nL fr lo mc ms) {idx maxL1 fr1 lo1 : Nat} {y : MethodName} {c1 : ByteArray} {ret1 : Option FieldType} {v1 : Value} {Q : sH → Prop} (hC : CtV (xl X) y c1 maxL1 ret1 fr1 lo1 [v1] (xD X) (xA X) (xB X) (xt X) sz S r h Q) (hm : MLS own idx y c1 maxL1 ret1 1) (hrm : fr1 + 1 ≤ fr ∧ 8 + (maxL1 + 11) + lo1 ≤ lo ∧ k + 0 ≤ mc ∧ n + 0 ≤ ms) (hst : (st.map fun v => v.category).sum ≤ 8) (hl : lv.length = nL) (hd : decode cc pc = .ok (.invokestatic idx, 3)) (kk : ∀ (h1 : sH), Q h1 → G X k n (pc + 3) lv (st) sz S r h1) : G X k n pc lv (v1 :: st) sz S r h := by
  refine g_cs (As := [v1]) q hC hm rfl hrm hst hl hd fun v sz1 S1 r1 h1 hP => ?_
  obtain ⟨rfl, rfl, rfl, rfl, hQ⟩ := hP
  exact kk h1 hQ
theorem r_cI2 (q : Ok X cc own nL fr lo mc ms) {idx maxL1 fr1 lo1 ci nn b : Nat} {y : MethodName} {c1 : ByteArray} {ret1 : Option FieldType} {v1 v2 : Value} {Q : Int → sH → Prop} (hC : CtI (xl X) y c1 maxL1 ret1 fr1 lo1 (.ref b :: [v1, v2]) (xD X) (xA X) (xB X) (xt X) sz S r h Q) (hm : MLV own idx y c1 maxL1 ret1 ci 2) (hb : S b = some (ci, nn)) (hrm : fr1 + 1 ≤ fr ∧ 8 + (maxL1 + 11) + lo1 ≤ lo ∧ k + 0 ≤ mc ∧ n + 0 ≤ ms) (hst : (st.map fun v => v.category).sum ≤ 8) (hl : lv.length = nL) (hd : decode cc pc = .ok (.invokevirtual idx, 3)) (kk : ∀ (z : Int) (h1 : sH), Q z h1 → G X k n (pc + 3) lv (.int (iI z) :: st) sz S r h1) : G X k n pc lv (v2 :: v1 :: .ref b :: st) sz S r h := by
  refine g_cv (As := [v1, v2]) q hC hm hb rfl hrm hst hl hd fun v sz1 S1 r1 h1 hP => ?_
  obtain ⟨rfl, rfl, rfl, z, rfl, hQ⟩ := hP
  exact kk z h1 hQ
theorem r_sI2 (q : Ok X cc own nL fr lo mc ms) {idx maxL1 fr1 lo1 : Nat} {y : MethodName} {c1 : ByteArray} {ret1 : Option FieldType} {v1 v2 : Value} {Q : Int → sH → Prop} (hC : CtI (xl X) y c1 maxL1 ret1 fr1 lo1 [v1, v2] (xD X) (xA X) (xB X) (xt X) sz S r h Q) (hm : MLS own idx y c1 maxL1 ret1 2) (hrm : fr1 + 1 ≤ fr ∧ 8 + (maxL1 + 11) + lo1 ≤ lo ∧ k + 0 ≤ mc ∧ n + 0 ≤ ms) (hst : (st.map fun v => v.category).sum ≤ 8) (hl : lv.length = nL) (hd : decode cc pc = .ok (.invokestatic idx, 3)) (kk : ∀ (z : Int) (h1 : sH), Q z h1 → G X k n (pc + 3) lv (.int (iI z) :: st) sz S r h1) : G X k n pc lv (v2 :: v1 :: st) sz S r h := by
  refine g_cs (As := [v1, v2]) q hC hm rfl hrm hst hl hd fun v sz1 S1 r1 h1 hP => ?_
  obtain ⟨rfl, rfl, rfl, z, rfl, hQ⟩ := hP
  exact kk z h1 hQ
theorem r_cL2 (q : Ok X cc own nL fr lo mc ms) {idx maxL1 fr1 lo1 ci nn b : Nat} {y : MethodName} {c1 : ByteArray} {ret1 : Option FieldType} {v1 v2 : Value} {Q : Int → sH → Prop} (hC : CtL (xl X) y c1 maxL1 ret1 fr1 lo1 (.ref b :: [v1, v2]) (xD X) (xA X) (xB X) (xt X) sz S r h Q) (hm : MLV own idx y c1 maxL1 ret1 ci 2) (hb : S b = some (ci, nn)) (hrm : fr1 + 1 ≤ fr ∧ 8 + (maxL1 + 11) + lo1 ≤ lo ∧ k + 0 ≤ mc ∧ n + 0 ≤ ms) (hst : (st.map fun v => v.category).sum ≤ 8) (hl : lv.length = nL) (hd : decode cc pc = .ok (.invokevirtual idx, 3)) (kk : ∀ (z : Int) (h1 : sH), Q z h1 → G X k n (pc + 3) lv (.long (lI z) :: st) sz S r h1) : G X k n pc lv (v2 :: v1 :: .ref b :: st) sz S r h := by
  refine g_cv (As := [v1, v2]) q hC hm hb rfl hrm hst hl hd fun v sz1 S1 r1 h1 hP => ?_
  obtain ⟨rfl, rfl, rfl, z, rfl, hQ⟩ := hP
  exact kk z h1 hQ
theorem r_sL2 (q : Ok X cc own nL fr lo mc ms) {idx maxL1 fr1 lo1 : Nat} {y : MethodName} {c1 : ByteArray} {ret1 : Option FieldType} {v1 v2 : Value} {Q : Int → sH → Prop} (hC : CtL (xl X) y c1 maxL1 ret1 fr1 lo1 [v1, v2] (xD X) (xA X) (xB X) (xt X) sz S r h Q) (hm : MLS own idx y c1 maxL1 ret1 2) (hrm : fr1 + 1 ≤ fr ∧ 8 + (maxL1 + 11) + lo1 ≤ lo ∧ k + 0 ≤ mc ∧ n + 0 ≤ ms) (hst : (st.map fun v => v.category).sum ≤ 8) (hl : lv.length = nL) (hd : decode cc pc = .ok (.invokestatic idx, 3)) (kk : ∀ (z : Int) (h1 : sH), Q z h1 → G X k n (pc + 3) lv (.long (lI z) :: st) sz S r h1) : G X k n pc lv (v2 :: v1 :: st) sz S r h := by
  refine g_cs (As := [v1, v2]) q hC hm rfl hrm hst hl hd fun v sz1 S1 r1 h1 hP => ?_
  obtain ⟨rfl, rfl, rfl, z, rfl, hQ⟩ := hP
  exact kk z h1 hQ
theorem r_cV2 (q : Ok X cc own nL fr lo mc ms) {idx maxL1 fr1 lo1 ci nn b : Nat} {y : MethodName} {c1 : ByteArray} {ret1 : Option FieldType} {v1 v2 : Value} {Q : sH → Prop} (hC : CtV (xl X) y c1 maxL1 ret1 fr1 lo1 (.ref b :: [v1, v2]) (xD X) (xA X) (xB X) (xt X) sz S r h Q) (hm : MLV own idx y c1 maxL1 ret1 ci 2) (hb : S b = some (ci, nn)) (hrm : fr1 + 1 ≤ fr ∧ 8 + (maxL1 + 11) + lo1 ≤ lo ∧ k + 0 ≤ mc ∧ n + 0 ≤ ms) (hst : (st.map fun v => v.category).sum ≤ 8) (hl : lv.length = nL) (hd : decode cc pc = .ok (.invokevirtual idx, 3)) (kk : ∀ (h1 : sH), Q h1 → G X k n (pc + 3) lv (st) sz S r h1) : G X k n pc lv (v2 :: v1 :: .ref b :: st) sz S r h := by
  refine g_cv (As := [v1, v2]) q hC hm hb rfl hrm hst hl hd fun v sz1 S1 r1 h1 hP => ?_
  obtain ⟨rfl, rfl, rfl, rfl, hQ⟩ := hP
  exact kk h1 hQ
theorem r_sV2 (q : Ok X cc own nL fr lo mc ms) {idx maxL1 fr1 lo1 : Nat} {y : MethodName} {c1 : ByteArray} {ret1 : Option FieldType} {v1 v2 : Value} {Q : sH → Prop} (hC : CtV (xl X) y c1 maxL1 ret1 fr1 lo1 [v1, v2] (xD X) (xA X) (xB X) (xt X) sz S r h Q) (hm : MLS own idx y c1 maxL1 ret1 2) (hrm : fr1 + 1 ≤ fr ∧ 8 + (maxL1 + 11) + lo1 ≤ lo ∧ k + 0 ≤ mc ∧ n + 0 ≤ ms) (hst : (st.map fun v => v.category).sum ≤ 8) (hl : lv.length = nL) (hd : decode cc pc = .ok (.invokestatic idx, 3)) (kk : ∀ (h1 : sH), Q h1 → G X k n (pc + 3) lv (st) sz S r h1) : G X k n pc lv (v2 :: v1 :: st) sz S r h := by
  refine g_cs (As := [v1, v2]) q hC hm rfl hrm hst hl hd fun v sz1 S1 r1 h1 hP => ?_
  obtain ⟨rfl, rfl, rfl, rfl, hQ⟩ := hP
  exact kk h1 hQ
theorem r_cI3 (q : Ok X cc own nL fr lo mc ms) {idx maxL1 fr1 lo1 ci nn b : Nat} {y : MethodName} {c1 : ByteArray} {ret1 : Option FieldType} {v1 v2 v3 : Value} {Q : Int → sH → Prop} (hC : CtI (xl X) y c1 maxL1 ret1 fr1 lo1 (.ref b :: [v1, v2, v3]) (xD X) (xA X) (xB X) (xt X) sz S r h Q) (hm : MLV own idx y c1 maxL1 ret1 ci 3) (hb : S b = some (ci, nn)) (hrm : fr1 + 1 ≤ fr ∧ 8 + (maxL1 + 11) + lo1 ≤ lo ∧ k + 0 ≤ mc ∧ n + 0 ≤ ms) (hst : (st.map fun v => v.category).sum ≤ 8) (hl : lv.length = nL) (hd : decode cc pc = .ok (.invokevirtual idx, 3)) (kk : ∀ (z : Int) (h1 : sH), Q z h1 → G X k n (pc + 3) lv (.int (iI z) :: st) sz S r h1) : G X k n pc lv (v3 :: v2 :: v1 :: .ref b :: st) sz S r h := by
  refine g_cv (As := [v1, v2, v3]) q hC hm hb rfl hrm hst hl hd fun v sz1 S1 r1 h1 hP => ?_
  obtain ⟨rfl, rfl, rfl, z, rfl, hQ⟩ := hP
  exact kk z h1 hQ
theorem r_sI3 (q : Ok X cc own nL fr lo mc ms) {idx maxL1 fr1 lo1 : Nat} {y : MethodName} {c1 : ByteArray} {ret1 : Option FieldType} {v1 v2 v3 : Value} {Q : Int → sH → Prop} (hC : CtI (xl X) y c1 maxL1 ret1 fr1 lo1 [v1, v2, v3] (xD X) (xA X) (xB X) (xt X) sz S r h Q) (hm : MLS own idx y c1 maxL1 ret1 3) (hrm : fr1 + 1 ≤ fr ∧ 8 + (maxL1 + 11) + lo1 ≤ lo ∧ k + 0 ≤ mc ∧ n + 0 ≤ ms) (hst : (st.map fun v => v.category).sum ≤ 8) (hl : lv.length = nL) (hd : decode cc pc = .ok (.invokestatic idx, 3)) (kk : ∀ (z : Int) (h1 : sH), Q z h1 → G X k n (pc + 3) lv (.int (iI z) :: st) sz S r h1) : G X k n pc lv (v3 :: v2 :: v1 :: st) sz S r h := by
  refine g_cs (As := [v1, v2, v3]) q hC hm rfl hrm hst hl hd fun v sz1 S1 r1 h1 hP => ?_
  obtain ⟨rfl, rfl, rfl, z, rfl, hQ⟩ := hP
  exact kk z h1 hQ
theorem r_cL3 (q : Ok X cc own nL fr lo mc ms) {idx maxL1 fr1 lo1 ci nn b : Nat} {y : MethodName} {c1 : ByteArray} {ret1 : Option FieldType} {v1 v2 v3 : Value} {Q : Int → sH → Prop} (hC : CtL (xl X) y c1 maxL1 ret1 fr1 lo1 (.ref b :: [v1, v2, v3]) (xD X) (xA X) (xB X) (xt X) sz S r h Q) (hm : MLV own idx y c1 maxL1 ret1 ci 3) (hb : S b = some (ci, nn)) (hrm : fr1 + 1 ≤ fr ∧ 8 + (maxL1 + 11) + lo1 ≤ lo ∧ k + 0 ≤ mc ∧ n + 0 ≤ ms) (hst : (st.map fun v => v.category).sum ≤ 8) (hl : lv.length = nL) (hd : decode cc pc = .ok (.invokevirtual idx, 3)) (kk : ∀ (z : Int) (h1 : sH), Q z h1 → G X k n (pc + 3) lv (.long (lI z) :: st) sz S r h1) : G X k n pc lv (v3 :: v2 :: v1 :: .ref b :: st) sz S r h := by
  refine g_cv (As := [v1, v2, v3]) q hC hm hb rfl hrm hst hl hd fun v sz1 S1 r1 h1 hP => ?_
  obtain ⟨rfl, rfl, rfl, z, rfl, hQ⟩ := hP
  exact kk z h1 hQ
theorem r_sL3 (q : Ok X cc own nL fr lo mc ms) {idx maxL1 fr1 lo1 : Nat} {y : MethodName} {c1 : ByteArray} {ret1 : Option FieldType} {v1 v2 v3 : Value} {Q : Int → sH → Prop} (hC : CtL (xl X) y c1 maxL1 ret1 fr1 lo1 [v1, v2, v3] (xD X) (xA X) (xB X) (xt X) sz S r h Q) (hm : MLS own idx y c1 maxL1 ret1 3) (hrm : fr1 + 1 ≤ fr ∧ 8 + (maxL1 + 11) + lo1 ≤ lo ∧ k + 0 ≤ mc ∧ n + 0 ≤ ms) (hst : (st.map fun v => v.category).sum ≤ 8) (hl : lv.length = nL) (hd : decode cc pc = .ok (.invokestatic idx, 3)) (kk : ∀ (z : Int) (h1 : sH), Q z h1 → G X k n (pc + 3) lv (.long (lI z) :: st) sz S r h1) : G X k n pc lv (v3 :: v2 :: v1 :: st) sz S r h := by
  refine g_cs (As := [v1, v2, v3]) q hC hm rfl hrm hst hl hd fun v sz1 S1 r1 h1 hP => ?_
  obtain ⟨rfl, rfl, rfl, z, rfl, hQ⟩ := hP
  exact kk z h1 hQ
theorem r_cV3 (q : Ok X cc own nL fr lo mc ms) {idx maxL1 fr1 lo1 ci nn b : Nat} {y : MethodName} {c1 : ByteArray} {ret1 : Option FieldType} {v1 v2 v3 : Value} {Q : sH → Prop} (hC : CtV (xl X) y c1 maxL1 ret1 fr1 lo1 (.ref b :: [v1, v2, v3]) (xD X) (xA X) (xB X) (xt X) sz S r h Q) (hm : MLV own idx y c1 maxL1 ret1 ci 3) (hb : S b = some (ci, nn)) (hrm : fr1 + 1 ≤ fr ∧ 8 + (maxL1 + 11) + lo1 ≤ lo ∧ k + 0 ≤ mc ∧ n + 0 ≤ ms) (hst : (st.map fun v => v.category).sum ≤ 8) (hl : lv.length = nL) (hd : decode cc pc = .ok (.invokevirtual idx, 3)) (kk : ∀ (h1 : sH), Q h1 → G X k n (pc + 3) lv (st) sz S r h1) : G X k n pc lv (v3 :: v2 :: v1 :: .ref b :: st) sz S r h := by
  refine g_cv (As := [v1, v2, v3]) q hC hm hb rfl hrm hst hl hd fun v sz1 S1 r1 h1 hP => ?_
  obtain ⟨rfl, rfl, rfl, rfl, hQ⟩ := hP
  exact kk h1 hQ
theorem r_sV3 (q : Ok X cc own nL fr lo mc ms) {idx maxL1 fr1 lo1 : Nat} {y : MethodName} {c1 : ByteArray} {ret1 : Option FieldType} {v1 v2 v3 : Value} {Q : sH → Prop} (hC : CtV (xl X) y c1 maxL1 ret1 fr1 lo1 [v1, v2, v3] (xD X) (xA X) (xB X) (xt X) sz S r h Q) (hm : MLS own idx y c1 maxL1 ret1 3) (hrm : fr1 + 1 ≤ fr ∧ 8 + (maxL1 + 11) + lo1 ≤ lo ∧ k + 0 ≤ mc ∧ n + 0 ≤ ms) (hst : (st.map fun v => v.category).sum ≤ 8) (hl : lv.length = nL) (hd : decode cc pc = .ok (.invokestatic idx, 3)) (kk : ∀ (h1 : sH), Q h1 → G X k n (pc + 3) lv (st) sz S r h1) : G X k n pc lv (v3 :: v2 :: v1 :: st) sz S r h := by
  refine g_cs (As := [v1, v2, v3]) q hC hm rfl hrm hst hl hd fun v sz1 S1 r1 h1 hP => ?_
  obtain ⟨rfl, rfl, rfl, rfl, hQ⟩ := hP
  exact kk h1 hQ
theorem r_cI4 (q : Ok X cc own nL fr lo mc ms) {idx maxL1 fr1 lo1 ci nn b : Nat} {y : MethodName} {c1 : ByteArray} {ret1 : Option FieldType} {v1 v2 v3 v4 : Value} {Q : Int → sH → Prop} (hC : CtI (xl X) y c1 maxL1 ret1 fr1 lo1 (.ref b :: [v1, v2, v3, v4]) (xD X) (xA X) (xB X) (xt X) sz S r h Q) (hm : MLV own idx y c1 maxL1 ret1 ci 4) (hb : S b = some (ci, nn)) (hrm : fr1 + 1 ≤ fr ∧ 8 + (maxL1 + 11) + lo1 ≤ lo ∧ k + 0 ≤ mc ∧ n + 0 ≤ ms) (hst : (st.map fun v => v.category).sum ≤ 8) (hl : lv.length = nL) (hd : decode cc pc = .ok (.invokevirtual idx, 3)) (kk : ∀ (z : Int) (h1 : sH), Q z h1 → G X k n (pc + 3) lv (.int (iI z) :: st) sz S r h1) : G X k n pc lv (v4 :: v3 :: v2 :: v1 :: .ref b :: st) sz S r h := by
  refine g_cv (As := [v1, v2, v3, v4]) q hC hm hb rfl hrm hst hl hd fun v sz1 S1 r1 h1 hP => ?_
  obtain ⟨rfl, rfl, rfl, z, rfl, hQ⟩ := hP
  exact kk z h1 hQ
theorem r_sI4 (q : Ok X cc own nL fr lo mc ms) {idx maxL1 fr1 lo1 : Nat} {y : MethodName} {c1 : ByteArray} {ret1 : Option FieldType} {v1 v2 v3 v4 : Value} {Q : Int → sH → Prop} (hC : CtI (xl X) y c1 maxL1 ret1 fr1 lo1 [v1, v2, v3, v4] (xD X) (xA X) (xB X) (xt X) sz S r h Q) (hm : MLS own idx y c1 maxL1 ret1 4) (hrm : fr1 + 1 ≤ fr ∧ 8 + (maxL1 + 11) + lo1 ≤ lo ∧ k + 0 ≤ mc ∧ n + 0 ≤ ms) (hst : (st.map fun v => v.category).sum ≤ 8) (hl : lv.length = nL) (hd : decode cc pc = .ok (.invokestatic idx, 3)) (kk : ∀ (z : Int) (h1 : sH), Q z h1 → G X k n (pc + 3) lv (.int (iI z) :: st) sz S r h1) : G X k n pc lv (v4 :: v3 :: v2 :: v1 :: st) sz S r h := by
  refine g_cs (As := [v1, v2, v3, v4]) q hC hm rfl hrm hst hl hd fun v sz1 S1 r1 h1 hP => ?_
  obtain ⟨rfl, rfl, rfl, z, rfl, hQ⟩ := hP
  exact kk z h1 hQ
theorem r_cL4 (q : Ok X cc own nL fr lo mc ms) {idx maxL1 fr1 lo1 ci nn b : Nat} {y : MethodName} {c1 : ByteArray} {ret1 : Option FieldType} {v1 v2 v3 v4 : Value} {Q : Int → sH → Prop} (hC : CtL (xl X) y c1 maxL1 ret1 fr1 lo1 (.ref b :: [v1, v2, v3, v4]) (xD X) (xA X) (xB X) (xt X) sz S r h Q) (hm : MLV own idx y c1 maxL1 ret1 ci 4) (hb : S b = some (ci, nn)) (hrm : fr1 + 1 ≤ fr ∧ 8 + (maxL1 + 11) + lo1 ≤ lo ∧ k + 0 ≤ mc ∧ n + 0 ≤ ms) (hst : (st.map fun v => v.category).sum ≤ 8) (hl : lv.length = nL) (hd : decode cc pc = .ok (.invokevirtual idx, 3)) (kk : ∀ (z : Int) (h1 : sH), Q z h1 → G X k n (pc + 3) lv (.long (lI z) :: st) sz S r h1) : G X k n pc lv (v4 :: v3 :: v2 :: v1 :: .ref b :: st) sz S r h := by
  refine g_cv (As := [v1, v2, v3, v4]) q hC hm hb rfl hrm hst hl hd fun v sz1 S1 r1 h1 hP => ?_
  obtain ⟨rfl, rfl, rfl, z, rfl, hQ⟩ := hP
  exact kk z h1 hQ
theorem r_sL4 (q : Ok X cc own nL fr lo mc ms) {idx maxL1 fr1 lo1 : Nat} {y : MethodName} {c1 : ByteArray} {ret1 : Option FieldType} {v1 v2 v3 v4 : Value} {Q : Int → sH → Prop} (hC : CtL (xl X) y c1 maxL1 ret1 fr1 lo1 [v1, v2, v3, v4] (xD X) (xA X) (xB X) (xt X) sz S r h Q) (hm : MLS own idx y c1 maxL1 ret1 4) (hrm : fr1 + 1 ≤ fr ∧ 8 + (maxL1 + 11) + lo1 ≤ lo ∧ k + 0 ≤ mc ∧ n + 0 ≤ ms) (hst : (st.map fun v => v.category).sum ≤ 8) (hl : lv.length = nL) (hd : decode cc pc = .ok (.invokestatic idx, 3)) (kk : ∀ (z : Int) (h1 : sH), Q z h1 → G X k n (pc + 3) lv (.long (lI z) :: st) sz S r h1) : G X k n pc lv (v4 :: v3 :: v2 :: v1 :: st) sz S r h := by
  refine g_cs (As := [v1, v2, v3, v4]) q hC hm rfl hrm hst hl hd fun v sz1 S1 r1 h1 hP => ?_
  obtain ⟨rfl, rfl, rfl, z, rfl, hQ⟩ := hP
  exact kk z h1 hQ
theorem r_cV4 (q : Ok X cc own nL fr lo mc ms) {idx maxL1 fr1 lo1 ci nn b : Nat} {y : MethodName} {c1 : ByteArray} {ret1 : Option FieldType} {v1 v2 v3 v4 : Value} {Q : sH → Prop} (hC : CtV (xl X) y c1 maxL1 ret1 fr1 lo1 (.ref b :: [v1, v2, v3, v4]) (xD X) (xA X) (xB X) (xt X) sz S r h Q) (hm : MLV own idx y c1 maxL1 ret1 ci 4) (hb : S b = some (ci, nn)) (hrm : fr1 + 1 ≤ fr ∧ 8 + (maxL1 + 11) + lo1 ≤ lo ∧ k + 0 ≤ mc ∧ n + 0 ≤ ms) (hst : (st.map fun v => v.category).sum ≤ 8) (hl : lv.length = nL) (hd : decode cc pc = .ok (.invokevirtual idx, 3)) (kk : ∀ (h1 : sH), Q h1 → G X k n (pc + 3) lv (st) sz S r h1) : G X k n pc lv (v4 :: v3 :: v2 :: v1 :: .ref b :: st) sz S r h := by
  refine g_cv (As := [v1, v2, v3, v4]) q hC hm hb rfl hrm hst hl hd fun v sz1 S1 r1 h1 hP => ?_
  obtain ⟨rfl, rfl, rfl, rfl, hQ⟩ := hP
  exact kk h1 hQ
theorem r_sV4 (q : Ok X cc own nL fr lo mc ms) {idx maxL1 fr1 lo1 : Nat} {y : MethodName} {c1 : ByteArray} {ret1 : Option FieldType} {v1 v2 v3 v4 : Value} {Q : sH → Prop} (hC : CtV (xl X) y c1 maxL1 ret1 fr1 lo1 [v1, v2, v3, v4] (xD X) (xA X) (xB X) (xt X) sz S r h Q) (hm : MLS own idx y c1 maxL1 ret1 4) (hrm : fr1 + 1 ≤ fr ∧ 8 + (maxL1 + 11) + lo1 ≤ lo ∧ k + 0 ≤ mc ∧ n + 0 ≤ ms) (hst : (st.map fun v => v.category).sum ≤ 8) (hl : lv.length = nL) (hd : decode cc pc = .ok (.invokestatic idx, 3)) (kk : ∀ (h1 : sH), Q h1 → G X k n (pc + 3) lv (st) sz S r h1) : G X k n pc lv (v4 :: v3 :: v2 :: v1 :: st) sz S r h := by
  refine g_cs (As := [v1, v2, v3, v4]) q hC hm rfl hrm hst hl hd fun v sz1 S1 r1 h1 hP => ?_
  obtain ⟨rfl, rfl, rfl, rfl, hQ⟩ := hP
  exact kk h1 hQ
theorem r_cI5 (q : Ok X cc own nL fr lo mc ms) {idx maxL1 fr1 lo1 ci nn b : Nat} {y : MethodName} {c1 : ByteArray} {ret1 : Option FieldType} {v1 v2 v3 v4 v5 : Value} {Q : Int → sH → Prop} (hC : CtI (xl X) y c1 maxL1 ret1 fr1 lo1 (.ref b :: [v1, v2, v3, v4, v5]) (xD X) (xA X) (xB X) (xt X) sz S r h Q) (hm : MLV own idx y c1 maxL1 ret1 ci 5) (hb : S b = some (ci, nn)) (hrm : fr1 + 1 ≤ fr ∧ 8 + (maxL1 + 11) + lo1 ≤ lo ∧ k + 0 ≤ mc ∧ n + 0 ≤ ms) (hst : (st.map fun v => v.category).sum ≤ 8) (hl : lv.length = nL) (hd : decode cc pc = .ok (.invokevirtual idx, 3)) (kk : ∀ (z : Int) (h1 : sH), Q z h1 → G X k n (pc + 3) lv (.int (iI z) :: st) sz S r h1) : G X k n pc lv (v5 :: v4 :: v3 :: v2 :: v1 :: .ref b :: st) sz S r h := by
  refine g_cv (As := [v1, v2, v3, v4, v5]) q hC hm hb rfl hrm hst hl hd fun v sz1 S1 r1 h1 hP => ?_
  obtain ⟨rfl, rfl, rfl, z, rfl, hQ⟩ := hP
  exact kk z h1 hQ
theorem r_sI5 (q : Ok X cc own nL fr lo mc ms) {idx maxL1 fr1 lo1 : Nat} {y : MethodName} {c1 : ByteArray} {ret1 : Option FieldType} {v1 v2 v3 v4 v5 : Value} {Q : Int → sH → Prop} (hC : CtI (xl X) y c1 maxL1 ret1 fr1 lo1 [v1, v2, v3, v4, v5] (xD X) (xA X) (xB X) (xt X) sz S r h Q) (hm : MLS own idx y c1 maxL1 ret1 5) (hrm : fr1 + 1 ≤ fr ∧ 8 + (maxL1 + 11) + lo1 ≤ lo ∧ k + 0 ≤ mc ∧ n + 0 ≤ ms) (hst : (st.map fun v => v.category).sum ≤ 8) (hl : lv.length = nL) (hd : decode cc pc = .ok (.invokestatic idx, 3)) (kk : ∀ (z : Int) (h1 : sH), Q z h1 → G X k n (pc + 3) lv (.int (iI z) :: st) sz S r h1) : G X k n pc lv (v5 :: v4 :: v3 :: v2 :: v1 :: st) sz S r h := by
  refine g_cs (As := [v1, v2, v3, v4, v5]) q hC hm rfl hrm hst hl hd fun v sz1 S1 r1 h1 hP => ?_
  obtain ⟨rfl, rfl, rfl, z, rfl, hQ⟩ := hP
  exact kk z h1 hQ
theorem r_cL5 (q : Ok X cc own nL fr lo mc ms) {idx maxL1 fr1 lo1 ci nn b : Nat} {y : MethodName} {c1 : ByteArray} {ret1 : Option FieldType} {v1 v2 v3 v4 v5 : Value} {Q : Int → sH → Prop} (hC : CtL (xl X) y c1 maxL1 ret1 fr1 lo1 (.ref b :: [v1, v2, v3, v4, v5]) (xD X) (xA X) (xB X) (xt X) sz S r h Q) (hm : MLV own idx y c1 maxL1 ret1 ci 5) (hb : S b = some (ci, nn)) (hrm : fr1 + 1 ≤ fr ∧ 8 + (maxL1 + 11) + lo1 ≤ lo ∧ k + 0 ≤ mc ∧ n + 0 ≤ ms) (hst : (st.map fun v => v.category).sum ≤ 8) (hl : lv.length = nL) (hd : decode cc pc = .ok (.invokevirtual idx, 3)) (kk : ∀ (z : Int) (h1 : sH), Q z h1 → G X k n (pc + 3) lv (.long (lI z) :: st) sz S r h1) : G X k n pc lv (v5 :: v4 :: v3 :: v2 :: v1 :: .ref b :: st) sz S r h := by
  refine g_cv (As := [v1, v2, v3, v4, v5]) q hC hm hb rfl hrm hst hl hd fun v sz1 S1 r1 h1 hP => ?_
  obtain ⟨rfl, rfl, rfl, z, rfl, hQ⟩ := hP
  exact kk z h1 hQ
theorem r_sL5 (q : Ok X cc own nL fr lo mc ms) {idx maxL1 fr1 lo1 : Nat} {y : MethodName} {c1 : ByteArray} {ret1 : Option FieldType} {v1 v2 v3 v4 v5 : Value} {Q : Int → sH → Prop} (hC : CtL (xl X) y c1 maxL1 ret1 fr1 lo1 [v1, v2, v3, v4, v5] (xD X) (xA X) (xB X) (xt X) sz S r h Q) (hm : MLS own idx y c1 maxL1 ret1 5) (hrm : fr1 + 1 ≤ fr ∧ 8 + (maxL1 + 11) + lo1 ≤ lo ∧ k + 0 ≤ mc ∧ n + 0 ≤ ms) (hst : (st.map fun v => v.category).sum ≤ 8) (hl : lv.length = nL) (hd : decode cc pc = .ok (.invokestatic idx, 3)) (kk : ∀ (z : Int) (h1 : sH), Q z h1 → G X k n (pc + 3) lv (.long (lI z) :: st) sz S r h1) : G X k n pc lv (v5 :: v4 :: v3 :: v2 :: v1 :: st) sz S r h := by
  refine g_cs (As := [v1, v2, v3, v4, v5]) q hC hm rfl hrm hst hl hd fun v sz1 S1 r1 h1 hP => ?_
  obtain ⟨rfl, rfl, rfl, z, rfl, hQ⟩ := hP
  exact kk z h1 hQ
theorem r_cV5 (q : Ok X cc own nL fr lo mc ms) {idx maxL1 fr1 lo1 ci nn b : Nat} {y : MethodName} {c1 : ByteArray} {ret1 : Option FieldType} {v1 v2 v3 v4 v5 : Value} {Q : sH → Prop} (hC : CtV (xl X) y c1 maxL1 ret1 fr1 lo1 (.ref b :: [v1, v2, v3, v4, v5]) (xD X) (xA X) (xB X) (xt X) sz S r h Q) (hm : MLV own idx y c1 maxL1 ret1 ci 5) (hb : S b = some (ci, nn)) (hrm : fr1 + 1 ≤ fr ∧ 8 + (maxL1 + 11) + lo1 ≤ lo ∧ k + 0 ≤ mc ∧ n + 0 ≤ ms) (hst : (st.map fun v => v.category).sum ≤ 8) (hl : lv.length = nL) (hd : decode cc pc = .ok (.invokevirtual idx, 3)) (kk : ∀ (h1 : sH), Q h1 → G X k n (pc + 3) lv (st) sz S r h1) : G X k n pc lv (v5 :: v4 :: v3 :: v2 :: v1 :: .ref b :: st) sz S r h := by
  refine g_cv (As := [v1, v2, v3, v4, v5]) q hC hm hb rfl hrm hst hl hd fun v sz1 S1 r1 h1 hP => ?_
  obtain ⟨rfl, rfl, rfl, rfl, hQ⟩ := hP
  exact kk h1 hQ
theorem r_sV5 (q : Ok X cc own nL fr lo mc ms) {idx maxL1 fr1 lo1 : Nat} {y : MethodName} {c1 : ByteArray} {ret1 : Option FieldType} {v1 v2 v3 v4 v5 : Value} {Q : sH → Prop} (hC : CtV (xl X) y c1 maxL1 ret1 fr1 lo1 [v1, v2, v3, v4, v5] (xD X) (xA X) (xB X) (xt X) sz S r h Q) (hm : MLS own idx y c1 maxL1 ret1 5) (hrm : fr1 + 1 ≤ fr ∧ 8 + (maxL1 + 11) + lo1 ≤ lo ∧ k + 0 ≤ mc ∧ n + 0 ≤ ms) (hst : (st.map fun v => v.category).sum ≤ 8) (hl : lv.length = nL) (hd : decode cc pc = .ok (.invokestatic idx, 3)) (kk : ∀ (h1 : sH), Q h1 → G X k n (pc + 3) lv (st) sz S r h1) : G X k n pc lv (v5 :: v4 :: v3 :: v2 :: v1 :: st) sz S r h := by
  refine g_cs (As := [v1, v2, v3, v4, v5]) q hC hm rfl hrm hst hl hd fun v sz1 S1 r1 h1 hP => ?_
  obtain ⟨rfl, rfl, rfl, rfl, hQ⟩ := hP
  exact kk h1 hQ
/-! Math -/
def MJ (own : String) (idx : Nat) (y : MethodName) (c : ByteArray) (m : Nat) : Prop := Cond.methodLink own idx y ∈ UG ∧ Cond.static y ∈ UG ∧ Cond.initialized "java/lang/Math" ∈ UG ∧ Cond.code y c m (some .int) ∈ UG
theorem r_min (q : Ok X cc own nL fr lo mc ms) {idx : Nat} (hm : MJ own idx Lib.Math.min.name Lib.Math.min.code 2) {x y : Int} (hx : inR x) (hy : inR y) (hrm : 1 ≤ fr ∧ (st.map fun v => v.category).sum + 13 ≤ lo ∧ k ≤ mc ∧ n ≤ ms) (hl : lv.length = nL) (hd : decode cc pc = .ok (.invokestatic idx, 3)) (kk : G X k n (pc + 3) lv (.int (iI (min x y)) :: st) sz S r h) : G X k n pc lv (.int (iI y) :: .int (iI x) :: st) sz S r h := by
  intro ls H locs a b c
  refine va_mmin q.exec q.byt (q.ml.trans (hl.symm.trans a.1.symm)) q.ow (q.w hm.1) (q.w hm.2.1) (q.w hm.2.2.1) (q.w hm.2.2.2) (by rw [q.2.2.2.2.2.2.1]; exact hrm.1) (by rw [q.2.2.2.2.2.2.2.2.2]; exact hrm.2.1) (by rw [q.2.2.2.2.2.2.2.1]; exact hrm.2.2.1) (by rw [q.2.2.2.2.2.2.2.2.1]; exact hrm.2.2.2) hd ?_
  have e : (if iI y < iI x then iI y else iI x) = iI (min x y) := by
    by_cases hxy : y < x
    · rw [if_pos ((iI_lt hy hx).mpr hxy), show min x y = y by omega]
    · rw [if_neg (fun z => hxy ((iI_lt hy hx).mp z)), show min x y = x by omega]
  rw [e]
  exact kk ls H locs a b c
theorem r_max (q : Ok X cc own nL fr lo mc ms) {idx : Nat} (hm : MJ own idx Lib.Math.max.name Lib.Math.max.code 2) {x y : Int} (hx : inR x) (hy : inR y) (hrm : 1 ≤ fr ∧ (st.map fun v => v.category).sum + 13 ≤ lo ∧ k ≤ mc ∧ n ≤ ms) (hl : lv.length = nL) (hd : decode cc pc = .ok (.invokestatic idx, 3)) (kk : G X k n (pc + 3) lv (.int (iI (max x y)) :: st) sz S r h) : G X k n pc lv (.int (iI y) :: .int (iI x) :: st) sz S r h := by
  intro ls H locs a b c
  refine va_mmax q.exec q.byt (q.ml.trans (hl.symm.trans a.1.symm)) q.ow (q.w hm.1) (q.w hm.2.1) (q.w hm.2.2.1) (q.w hm.2.2.2) (by rw [q.2.2.2.2.2.2.1]; exact hrm.1) (by rw [q.2.2.2.2.2.2.2.2.2]; exact hrm.2.1) (by rw [q.2.2.2.2.2.2.2.1]; exact hrm.2.2.1) (by rw [q.2.2.2.2.2.2.2.2.1]; exact hrm.2.2.2) hd ?_
  have e : (if iI x < iI y then iI y else iI x) = iI (max x y) := by
    by_cases hxy : x < y
    · rw [if_pos ((iI_lt hx hy).mpr hxy), show max x y = y by omega]
    · rw [if_neg (fun z => hxy ((iI_lt hx hy).mp z)), show max x y = x by omega]
  rw [e]
  exact kk ls H locs a b c
theorem r_abs (q : Ok X cc own nL fr lo mc ms) {idx : Nat} (hm : MJ own idx Lib.Math.abs.name Lib.Math.abs.code 1) {x : Int} (hx : inR x) (hrm : 1 ≤ fr ∧ (st.map fun v => v.category).sum + 13 ≤ lo ∧ k ≤ mc ∧ n ≤ ms) (hl : lv.length = nL) (hd : decode cc pc = .ok (.invokestatic idx, 3)) (kk : G X k n (pc + 3) lv (.int (iI (if 0 ≤ x then x else -x)) :: st) sz S r h) : G X k n pc lv (.int (iI x) :: st) sz S r h := by
  intro ls H locs a b c
  refine va_mabs q.exec q.byt (q.ml.trans (hl.symm.trans a.1.symm)) q.ow (q.w hm.1) (q.w hm.2.1) (q.w hm.2.2.1) (q.w hm.2.2.2) (by rw [q.2.2.2.2.2.2.1]; exact hrm.1) (by rw [q.2.2.2.2.2.2.2.2.2]; exact hrm.2.1) (by rw [q.2.2.2.2.2.2.2.1]; exact hrm.2.2.1) (by rw [q.2.2.2.2.2.2.2.2.1]; exact hrm.2.2.2) hd ?_
  have e : (if 0 ≤ iI x then iI x else 0 - iI x) = iI (if 0 ≤ x then x else -x) := by
    by_cases hxy : 0 ≤ x
    · rw [if_pos (by rw [← iI_0]; exact (iI_le inR_0 hx).mpr hxy), if_pos hxy]
    · rw [if_neg (fun z => hxy ((iI_le inR_0 hx).mp (by rw [iI_0]; exact z))), if_neg hxy, ← iI_0, ← iI_sub, Int.zero_sub]
  rw [e]
  exact kk ls H locs a b c
/-! switches -/
theorem r_tswI (q : Ok X cc own nL fr lo mc ms) {dflt lw hi : Int} {offs : Array Int} {len : Nat} {x off : Int} (tgt : Nat) (hd : decode cc pc = .ok (.tableswitch dflt lw hi offs, len)) (hx : inR x) (h1 : lw ≤ x) (h2 : x ≤ hi) (ho : offs[(x - lw).toNat]? = some off) (ht : (pc : Int) + off = (tgt : Int)) (kk : G X k n tgt lv st sz S r h) : G X k n pc lv (.int (iI x) :: st) sz S r h := fun ls H locs a b c => lv_tableIn q.exec q.byt hd (by rw [iI_toInt hx]; omega) (by rw [iI_toInt hx]; omega) (by rw [iI_toInt hx]; exact ho) ht (kk ls H locs a b c)
theorem r_tswO (q : Ok X cc own nL fr lo mc ms) {dflt lw hi : Int} {offs : Array Int} {len : Nat} {x : Int} (tgt : Nat) (hd : decode cc pc = .ok (.tableswitch dflt lw hi offs, len)) (hx : inR x) (h1 : x < lw ∨ hi < x) (ht : (pc : Int) + dflt = (tgt : Int)) (kk : G X k n tgt lv st sz S r h) : G X k n pc lv (.int (iI x) :: st) sz S r h := fun ls H locs a b c => lv_tableOut q.exec q.byt hd (by rw [iI_toInt hx]; exact h1) ht (kk ls H locs a b c)
theorem r_lsw (q : Ok X cc own nL fr lo mc ms) {dflt : Int} {ps : Array (Int × Int)} {len : Nat} {x off : Int} (tgt : Nat) (hd : decode cc pc = .ok (.lookupswitch dflt ps, len)) (hp : (ps.toList.zip (ps.toList.drop 1)).all (fun (a, next) => a.1 < next.1) = true) (hx : inR x) (ho : Op.lookupswitch.offset ps.toList dflt x = off) (ht : (pc : Int) + off = (tgt : Int)) (kk : G X k n tgt lv st sz S r h) : G X k n pc lv (.int (iI x) :: st) sz S r h := fun ls H locs a b c => lv_lookup q.exec q.byt hd hp (by rw [iI_toInt hx]; exact ho) ht (kk ls H locs a b c)
end RC
