/-! ===== things made anew ===== -/
def oA (t : FieldType) (U : State) : Prop := (Cond.arrayOver t).before #[] U = true
theorem oA.movedA {t : FieldType} {u U : State} (hvm : u.vm.Alike U.vm) (h : oA (.array t) u) : oA (.array t) U := by
  obtain ⟨comp, c, k, h1, h2, h3, h4, h5⟩ := arrayOverA_spec h
  obtain ⟨k', hk', he⟩ := hvm.2.2 _ _ h3
  have hi : (U.vm.classes.findIdx? fun (x : Class) => match x.kind with | .array component _ => component == comp | _ => false) = some c := by
    have e1 := va_idx_bare U.vm comp
    have e2 := va_idx_bare u.vm comp
    have e3 : U.vm.bare = u.vm.bare := by first | exact hvm.bare_eq | exact hvm.bare_eq.symm
    rw [e3] at e1
    exact (e1.symm.trans e2).trans h2
  have hkind : k'.kind = .array comp (.array t) := by rw [he]; exact h4
  have f1 : U.vm.findClass (FieldType.array t).toString = some comp := by rw [hvm.findClass]; exact h1
  have f2 : U.vm.findClass ("[" ++ (FieldType.array t).toString) = some c := by rw [hvm.findClass]; exact h5
  unfold oA Cond.before Cond.holds
  simp only [Cond.value]
  rw [f1, Option.bind_some]
  refine (congrArg (fun o : Option Nat => (o.bind (fun c => (U.vm.classes[c]?).map fun (k : Class) => match k.kind with | .array _ ty => decide (ty = FieldType.array t) && decide (U.vm.findClass ("[" ++ (FieldType.array t).toString) = some c) | _ => false) == some true)) hi).trans ?_
  simp [hk', hkind, f2]
def AO (U : State) : Prop := va_AO "MileLists$Name" U ∧ va_AO "MileLists$Numeral" U ∧ va_AO "MileLists$Route" U ∧ va_AO "MileLists$Find" U ∧ va_AO "MileLists$Readings" U ∧ oA (.array .int) U
theorem AO.moved {u U : State} (hvm : u.vm.Alike U.vm) (h : AO u) : AO U := ⟨h.1.moved hvm, h.2.1.moved hvm, h.2.2.1.moved hvm, h.2.2.2.1.moved hvm, h.2.2.2.2.1.moved hvm, h.2.2.2.2.2.movedA hvm⟩
abbrev nQ : Type := Nat → sS → sR → sH → Prop
/-- a constructor's contract -/
def CtN (l : Launch) (y : MethodName) (cc : ByteArray) (maxL : Nat) (fr lo mc ms : Nat) (av : List Value) (D : va_G) (aC : Nat → ClassId) (B t sz : Nat) (S : sS) (r : sR) (h : sH) (Q : nQ) : Prop :=
  Met l y (Cond.code y cc maxL none :: UG) ({ frames := fr, cells := mc, slots := ms, locals := lo } : Room) (va_Pc av (fun U => Rel D aC B sz S r h U.heap ∧ KK D aC B t U ∧ AO U)) (QP D aC B (fun v sz1 S1 r1 h1 => v = none ∧ Q sz1 S1 r1 h1)) mc ms (fun q => B ≤ q)
theorem CtN.of {l : Launch} {y : MethodName} {cc : ByteArray} {maxL : Nat} {fr lo mc ms : Nat} {av : List Value} {D : va_G} {aC : Nat → ClassId} {B t sz : Nat} {S : sS} {r : sR} {h : sH} {Q : nQ} {lv : List (Option Value)}
    (hy : plainName y.cls = true) (hlv : elv av maxL = lv) (hlen : (lg_sl av).length ≤ maxL)
    (body : ∀ X : CX, xl X = l → Ok X cc y.cls maxL fr lo mc ms → Rt X none mc ms (fun v sz1 S1 r1 h1 => v = none ∧ Q sz1 S1 r1 h1) → (xh X).name = y.name → AO (xs X) → xD X = D → xA X = aC → xB X = B → xt X = t → G X 0 0 0 lv [] sz S r h) : CtN l y cc maxL fr lo mc ms av D aC B t sz S r h Q := by
  refine Met.ofW (cc := cc) (maxL := maxL) (ret := none) hy rfl ?_
  intro p e s m args below meth c s₁ Bd hml hv
  obtain ⟨rfl, hRel, hKK, hAO⟩ := hv
  have hts := atoms_spec (ws := Cond.code y cc maxL none :: UG) Bd.pre
  have g := body (p, l, e, (headSpec (Cond.code y cc maxL none :: UG) ({ frames := fr, cells := mc, slots := ms, locals := lo } : Room)).room, s, m, av.toArray, below, meth, c, MQ below (QP D aC B (fun v sz1 S1 r1 h1 => v = none ∧ Q sz1 S1 r1 h1)) av.toArray s mc ms (fun q => B ≤ q), D, aC, B, t) rfl
    ⟨Bd.exec, Bd.bytes, hml, findClass_of_methodNamed Bd.named, fun w hw => hts w (List.mem_cons_of_mem _ hw), hKK, rfl, rfl, rfl, rfl⟩ ⟨Bd.notSynchronized, Bd.returns, rfl⟩ (name_of_methodNamed Bd.named Bd.method).1 hAO rfl rfl rfl rfl
  have := g _ s.heap [] (by rw [← hlv]; exact LV.entry av hlen) hRel va_S.rf
  rw [lg_entry_eq]
  exact this
theorem Rel.push {D : va_G} {aC : Nat → ClassId} {B sz : Nat} {S : sS} {r : sR} {h : sH} {H H1 : Heap} (R : Rel D aC B sz S r h H) (hB : B ≤ sz) {kd n : Nat} (ra : Int → Option Nat) (ha : Int → Int) (z : H1.size = sz + 1) (o : ∀ q : Nat, q < sz → H1[q]? = H[q]?) (hn : n ≤ 2147483647) (e : cellAt D aC kd n ra ha sz H1) : Rel D aC B (sz + 1) (up S sz (some (kd, n))) (up r sz ra) (up h sz ha) H1 := by
  refine ⟨z, fun b kd2 n2 hb => ?_⟩
  by_cases e2 : b = sz
  · subst e2
    rw [up_s] at hb
    cases hb
    rw [up_s, up_s]
    exact ⟨hB, hn, e⟩
  · rw [up_n _ _ e2] at hb
    rw [up_n _ _ e2, up_n _ _ e2]
    obtain ⟨q1, q2, q3⟩ := R.2 b kd2 n2 hb
    exact ⟨q1, q2, q3.kept (o b (by have := q3.lt; rw [R.1] at this; exact this))⟩
/-- a cell more, at the end -/
def nw1 (S S1 : sS) (r r1 : sR) (h h1 : sH) (a : Nat) (e : Nat × Nat) : Prop := S1 a = some e ∧ (∀ k : Int, h1 a k = 0) ∧ (∀ k : Int, r1 a k = none) ∧ ∀ b : Nat, b ≠ a → S1 b = S b ∧ r1 b = r b ∧ h1 b = h b
theorem nw1.mk {S : sS} {r : sR} {h : sH} {a : Nat} {e : Nat × Nat} : nw1 S (up S a (some e)) r (up r a (fun _ => none)) h (up h a (fun _ => 0)) a e := ⟨up_s _ _ _, fun k => by rw [up_s], fun k => by rw [up_s], fun b hb => ⟨up_n _ _ hb, up_n _ _ hb, up_n _ _ hb⟩⟩
theorem wn_X0 : Cond.instantiable RX0 4 ∈ UG := UG_of (i := 194) (by decide +kernel) (by decide +kernel)
theorem wn_X1 : Cond.instantiable RX1 4 ∈ UG := UG_of (i := 245) (by decide +kernel) (by decide +kernel)
theorem wn_X2 : Cond.instantiable RX2 6 ∈ UG := UG_of (i := 187) (by decide +kernel) (by decide +kernel)
theorem wn_X3 : Cond.instantiable RX3 2 ∈ UG := UG_of (i := 100) (by decide +kernel) (by decide +kernel)
theorem wn_X4 : Cond.instantiable RX4 2 ∈ UG := UG_of (i := 146) (by decide +kernel) (by decide +kernel)
theorem wn_X5 : Cond.instantiable RX5 10 ∈ UG := UG_of (i := 280) (by decide +kernel) (by decide +kernel)
theorem wn_X6 : Cond.instantiable RX6 3 ∈ UG := UG_of (i := 289) (by decide +kernel) (by decide +kernel)
theorem wn_X7 : Cond.instantiable RX7 5 ∈ UG := UG_of (i := 136) (by decide +kernel) (by decide +kernel)
theorem wn_X8 : Cond.instantiable RX8 3 ∈ UG := UG_of (i := 117) (by decide +kernel) (by decide +kernel)
theorem wn_X9 : Cond.instantiable RX9 2 ∈ UG := UG_of (i := 267) (by decide +kernel) (by decide +kernel)
theorem wn_X10 : Cond.instantiable RX10 2 ∈ UG := UG_of (i := 80) (by decide +kernel) (by decide +kernel)
theorem wn_X11 : Cond.instantiable RX11 11 ∈ UG := UG_of (i := 72) (by decide +kernel) (by decide +kernel)
theorem wn_X12 : Cond.instantiable RX12 40 ∈ UG := UG_of (i := 842) (by decide +kernel) (by decide +kernel)
theorem wa_int : Cond.arrayClass .int ∈ UG := UG_of (i := 98) (by decide +kernel) (by decide +kernel)
theorem wa_bool : Cond.arrayClass .boolean ∈ UG := UG_of (i := 159) (by decide +kernel) (by decide +kernel)
theorem wa_long : Cond.arrayClass .long ∈ UG := UG_of (i := 307) (by decide +kernel) (by decide +kernel)
theorem wa_byte : Cond.arrayClass .byte ∈ UG := UG_of (i := 838) (by decide +kernel) (by decide +kernel)
theorem wo_m : Cond.instanceMethod objectInit ∈ UG := UG_of (i := 77) (by decide +kernel) (by decide +kernel)
theorem wo_c : Cond.code objectInit ⟨#[0xb1]⟩ 1 none ∈ UG := UG_of (i := 78) rfl (by decide +kernel)
section RN
variable {X : CX} {k n pc : Nat} {lv : List (Option Value)} {st : List Value} {sz : Nat} {S : sS} {r : sR} {h : sH} {cc : ByteArray} {own : String} {nL fr lo mc ms : Nat}
theorem G.w {k' n' : Nat} (h1 : k ≤ k') (h2 : n ≤ n') (kk : G X k' n' pc lv st sz S r h) : G X k n pc lv st sz S r h := fun ls H locs a b c => W.widen h1 h2 (kk ls H locs a b c)
theorem Ok.bz (q : Ok X cc own nL fr lo mc ms) {H : Heap} {locs : List Loc} (hR : Rel (xD X) (xA X) (xB X) sz S r h H) (hS : va_S (fun q => xB X ≤ q) (xs X).heap H locs) : xB X ≤ sz := by
  have h1 := q.kk.2.2.2.2.2
  have h2 := hS.1
  have h3 := hR.1
  omega
theorem S_push {A : Nat → Prop} {H0 H H1 : Heap} {locs : List Loc} (hS : va_S A H0 H locs) {sz : Nat} (hs : H.size = sz) (z : sz ≤ H1.size) (o : ∀ q : Nat, q < sz → H1[q]? = H[q]?) : va_S A H0 H1 locs := ⟨by have := hS.1; omega, fun x h1 h2 => (o x (by have := hS.1; omega)).trans (hS.2.1 x h1 h2), hS.2.2⟩
theorem r_new (q : Ok X cc own nL fr lo mc ms) {idx ci N : Nat} {C : String} {T : u_T} (f : FC C T N ci) (hci : ci < 20) (hl : Cond.classLink own idx C ∈ UG) (hi : Cond.instantiable C N ∈ UG) (hini : Cond.initialized C ∈ UG) (hdv : ∀ j, j < N → defaultValue (tyc ci j) = fv ci j (fun _ => none) (fun _ => 0)) (hrm : k + 1 ≤ mc ∧ n + N ≤ ms) (hd : decode cc pc = .ok (.new idx, 3))
    (kk : ∀ (S1 : sS) (r1 : sR) (h1 : sH), nw1 S S1 r r1 h h1 sz (ci, 0) → G X (k + 1) (n + N) (pc + 3) lv (.ref sz :: st) (sz + 1) S1 r1 h1) : G X k n pc lv st sz S r h := by
  intro ls H locs a1 b1 c1
  obtain ⟨hc, hin, hty, hnm⟩ := f
  have hKn := q.va.1 ci _ hc
  refine W.newcK q.exec q.byt q.ow (q.w hl) (q.w hi) (q.w hini) rfl hd (by rw [q.2.2.2.2.2.2.2.1]; exact hrm.1) (by rw [q.2.2.2.2.2.2.2.2.1]; exact hrm.2) hKn.2.1 b1.1 fun H1 kC hkC e1 z1 o1 => ?_
  refine kk _ _ _ nw1.mk ls H1 locs a1 (b1.push (q.bz b1 c1) _ _ z1 o1 (by decide) ?_) (S_push c1 b1.1 (by omega) o1)
  unfold cellAt
  rw [if_pos hci]
  exact ⟨_, hc, (u_born (tyc ci) (fun w h => q.w h) hin hKn hkC e1 hty).to hdv⟩
theorem g_newa (q : Ok X cc own nL fr lo mc ms) {atype : ArrayType} {kd N : Nat} {ty : FieldType} (hty : newarray.typeOf atype = ty) (hra : (xs X).vm.findClass ("[" ++ ty.toString) = some (xA X kd)) (ha : Cond.arrayClass ty ∈ UG) (hk : ¬ kd < 20) (hav : av kd none 0 = defaultValue ty) {z : Int} (z0 : 0 ≤ z) (hN : z.toNat = N) (hz : z ≤ 100000) (hbytes : N * componentBytes ty ≤ 536870912) (hrm : k + 1 ≤ mc ∧ n + N ≤ ms) (hd : decode cc pc = .ok (.newarray atype, 2))
    (kk : ∀ (S1 : sS) (r1 : sR) (h1 : sH), nw1 S S1 r r1 h h1 sz (kd, N) → G X (k + 1) (n + N) (pc + 2) lv (.ref sz :: st) (sz + 1) S1 r1 h1) : G X k n pc lv (.int (iI z) :: st) sz S r h := by
  intro ls H locs a1 b1 c1
  subst hty
  refine va_newaK q.exec q.byt (q.w ha) rfl hd rfl ?_ (by rw [iI_clamp z0 (by omega)]; exact hN) hbytes (by rw [q.2.2.2.2.2.2.2.1]; exact hrm.1) (by rw [q.2.2.2.2.2.2.2.2.1]; exact hrm.2) b1.1 fun H1 cA e1 z1 o1 _ hf => ?_
  · intro e
    rw [← iI_0] at e
    have := (iI_lt ⟨by omega, by omega⟩ inR_0).mp e
    omega
  · have ec : cA = xA X kd := Option.some.inj (hf.symm.trans hra)
    subst ec
    refine kk _ _ _ nw1.mk ls H1 locs a1 (b1.push (q.bz b1 c1) _ _ z1 o1 (by omega) ?_) (S_push c1 b1.1 (by omega) o1)
    unfold cellAt
    rw [if_neg hk, e1]
    exact congrArg (fun V => some (arrV (xA X kd) N V)) (funext fun _ => hav.symm)
theorem r_newI (q : Ok X cc own nL fr lo mc ms) {z : Int} {N : Nat} (z0 : 0 ≤ z) (hN : z.toNat = N) (hz : z ≤ 100000) (hrm : k + 1 ≤ mc ∧ n + N ≤ ms) (hd : decode cc pc = .ok (.newarray .int, 2))
    (kk : ∀ (S1 : sS) (r1 : sR) (h1 : sH), nw1 S S1 r r1 h h1 sz (20, N) → G X (k + 1) (n + N) (pc + 2) lv (.ref sz :: st) (sz + 1) S1 r1 h1) : G X k n pc lv (.int (iI z) :: st) sz S r h :=
  g_newa q (ty := .int) rfl (q.va.2 0 _ rfl).2 wa_int (by decide) rfl z0 hN hz (by show N * 4 ≤ _; omega) hrm hd kk
theorem r_newB (q : Ok X cc own nL fr lo mc ms) {z : Int} {N : Nat} (z0 : 0 ≤ z) (hN : z.toNat = N) (hz : z ≤ 100000) (hrm : k + 1 ≤ mc ∧ n + N ≤ ms) (hd : decode cc pc = .ok (.newarray .byte, 2))
    (kk : ∀ (S1 : sS) (r1 : sR) (h1 : sH), nw1 S S1 r r1 h h1 sz (21, N) → G X (k + 1) (n + N) (pc + 2) lv (.ref sz :: st) (sz + 1) S1 r1 h1) : G X k n pc lv (.int (iI z) :: st) sz S r h :=
  g_newa q (ty := .byte) rfl (q.va.2 1 _ rfl).2 wa_byte (by decide) rfl z0 hN hz (by show N * 1 ≤ _; omega) hrm hd kk
theorem r_newZ (q : Ok X cc own nL fr lo mc ms) {z : Int} {N : Nat} (z0 : 0 ≤ z) (hN : z.toNat = N) (hz : z ≤ 100000) (hrm : k + 1 ≤ mc ∧ n + N ≤ ms) (hd : decode cc pc = .ok (.newarray .boolean, 2))
    (kk : ∀ (S1 : sS) (r1 : sR) (h1 : sH), nw1 S S1 r r1 h h1 sz (22, N) → G X (k + 1) (n + N) (pc + 2) lv (.ref sz :: st) (sz + 1) S1 r1 h1) : G X k n pc lv (.int (iI z) :: st) sz S r h :=
  g_newa q (ty := .boolean) rfl (q.va.2 2 _ rfl).2 wa_bool (by decide) rfl z0 hN hz (by show N * 1 ≤ _; omega) hrm hd kk
theorem r_newL (q : Ok X cc own nL fr lo mc ms) {z : Int} {N : Nat} (z0 : 0 ≤ z) (hN : z.toNat = N) (hz : z ≤ 100000) (hrm : k + 1 ≤ mc ∧ n + N ≤ ms) (hd : decode cc pc = .ok (.newarray .long, 2))
    (kk : ∀ (S1 : sS) (r1 : sR) (h1 : sH), nw1 S S1 r r1 h h1 sz (23, N) → G X (k + 1) (n + N) (pc + 2) lv (.ref sz :: st) (sz + 1) S1 r1 h1) : G X k n pc lv (.int (iI z) :: st) sz S r h :=
  g_newa q (ty := .long) rfl (q.va.2 3 _ rfl).2 wa_long (by decide) rfl z0 hN hz (by show N * 8 ≤ _; omega) hrm hd kk
theorem r_anew (q : Ok X cc own nL fr lo mc ms) {idx kd t0 N : Nat} {C : String} (ht : (tysL (xA X))[t0]? = some (xA X kd, .object C)) (hao : va_AO C (xs X)) (hl : Cond.classLink own idx C ∈ UG) (hk : 24 ≤ kd) {z : Int} (z0 : 0 ≤ z) (hN : z.toNat = N) (hz : z ≤ 100000) (hrm : k + 1 ≤ mc ∧ n + N ≤ ms) (hd : decode cc pc = .ok (.anewarray idx, 3))
    (kk : ∀ (S1 : sS) (r1 : sR) (h1 : sH), nw1 S S1 r r1 h h1 sz (kd, N) → G X (k + 1) (n + N) (pc + 3) lv (.ref sz :: st) (sz + 1) S1 r1 h1) : G X k n pc lv (.int (iI z) :: st) sz S r h := by
  intro ls H locs a1 b1 c1
  have hcl : (iI z).toNatClampNeg = N := by rw [iI_clamp z0 (by omega)]; exact hN
  obtain ⟨kA0, comp0, -, -, -, hra⟩ := (q.va.2 t0 _ ht).2
  refine W.anew q.exec q.byt q.ow (q.w hl) (va_AO.use hao) rfl hd rfl ?_ (by rw [hcl]; omega) (by rw [q.2.2.2.2.2.2.2.1]; exact hrm.1) (by rw [hcl, q.2.2.2.2.2.2.2.2.1]; exact hrm.2) fun cA kA comp f1 f2 f3 f4 => ?_
  · intro e
    rw [← iI_0] at e
    have := (iI_lt ⟨by omega, by omega⟩ inR_0).mp e
    omega
  · rw [hcl]
    have ec : cA = xA X kd := Option.some.inj (f1.symm.trans hra)
    subst ec
    generalize hH1 : H.push ({ cls := xA X kd, slots := Array.replicate N .null, vm := .none } : Cell) = H1
    have z1 : H1.size = sz + 1 := by rw [← hH1, Array.size_push, b1.1]
    have e1 : H1[sz]? = some (arrV (xA X kd) N (fun _ => .null)) := by rw [← hH1, ← b1.1, Array.getElem?_push_size, ← arrV_new]
    have o1 : ∀ q : Nat, q < sz → H1[q]? = H[q]? := fun q hq => by rw [← hH1, Array.getElem?_push, if_neg (by rw [b1.1]; omega)]
    rw [b1.1]
    refine kk _ _ _ nw1.mk ls H1 locs a1 (b1.push (q.bz b1 c1) _ _ z1 o1 (by omega) ?_) (S_push c1 b1.1 (by omega) o1)
    unfold cellAt
    rw [if_neg (by omega), e1]
    refine congrArg (fun V => some (arrV (xA X kd) N V)) (funext fun _ => ?_)
    simp only [av, va_rf]
    rw [if_neg (by omega), if_neg (by omega)]
theorem r_oinit (q : Ok X cc own nL fr lo mc ms) {idx a : Nat} (hl : Cond.methodLink own idx objectInit ∈ UG) (hf : 1 ≤ fr) (ho : (st.map fun v => v.category).sum + 12 ≤ lo) (hll : lv.length = nL) (hd : decode cc pc = .ok (.invokespecial idx, 3)) (kk : G X k n (pc + 3) lv st sz S r h) : G X k n pc lv (.ref a :: st) sz S r h := by
  intro ls H locs a1 b1 c1
  refine W.objInit q.exec q.byt q.ow (q.w hl) (q.w wo_m) (q.w wo_c) rfl (a1.1.trans (hll.trans q.ml.symm)) rfl hd (by rw [q.2.2.2.2.2.2.1]; exact hf) ?_ (kk ls H locs a1 b1 c1)
  rw [q.2.2.2.2.2.2.2.2.2]
  have e : 2 * (F0 (xm X) pc ls (.ref a :: st)).monitorRoom = 0 := rfl
  omega
theorem av_upr {kd : Nat} {ra : Int → Option Nat} {ha : Int → Int} {j : Int} (h0 : 0 ≤ j) {b : Nat} (h1 : 24 ≤ kd) : ∀ i : Nat, updV (fun i => av kd (ra i) (ha i)) j.toNat (.ref b) i = av kd (up ra j (some b) i) (ha i) := by
  intro i
  have h23 : ¬ kd = 23 := by omega
  have h24 : ¬ kd < 24 := by omega
  by_cases e : i = j.toNat
  · subst e
    have : ((j.toNat : Nat) : Int) = j := Int.toNat_of_nonneg h0
    simp [updV, av, h23, h24, up, this, va_rf]
  · have : ¬ (i : Int) = j := by omega
    simp [updV, e, up, this]
theorem r_aast (q : Ok X cc own nL fr lo mc ms) {kd t0 ci nn n2 : Nat} {C : String} (ht : (tysL (xA X))[t0]? = some (xA X kd, .object C)) (hc : vwCl[ci]?.map (fun q => q.1) = some C) (hk : 24 ≤ kd) (hci : ci < 20) {a v : Nat} (ha : S a = some (kd, nn)) (hv : S v = some (ci, n2)) {j : Int} (h0 : 0 ≤ j) (h1 : j < nn) (hd : decode cc pc = .ok (.aastore, 1)) (kk : ∀ r1 : sR, r1 = up r a (up (r a) j (some v)) → G X k n (pc + 1) lv st sz S r1 h) : G X k n pc lv (.ref v :: .int (iI j) :: .ref a :: st) sz S r h := by
  intro ls H locs a1 b1 c1
  obtain ⟨hBa, hn, hca⟩ := b1.2 a kd nn ha
  obtain ⟨-, -, hcv⟩ := b1.2 v ci n2 hv
  obtain ⟨q', hq', cellV, g1, g2, g3, -⟩ := hcv.obj hci
  rw [hq'] at hc
  have eC : q'.1 = C := Option.some.inj hc
  have hcls := (q.va.1 ci q' hq').2
  obtain ⟨kA, comp, k1, k2, k3, -⟩ := (q.va.2 t0 _ ht).2
  have hcomp : comp = (xD X).1 ci := Option.some.inj (k3.symm.trans (by rw [← eC]; exact hcls.1))
  subst hcomp
  obtain ⟨kC, hkC, -⟩ := hcls.2
  have e := hca.arr (by omega)
  have hin := vinA (cA := xA X kd) (V := fun j => av kd (r a j) (h a j)) h0 h1 hn
  refine W.aast q.exec q.byt e (fun q h => by cases h) (fun h => by cases h) k1 k2 rfl hkC ⟨fun z => hin (Or.inl z), Nat.not_le.mp fun z => hin (Or.inr z)⟩ g1 (fun q h => by rw [g3] at h; cases h) (by rw [g2]; exact hkC) (by rw [g2]; exact va_assign hcls) rfl rfl hd fun H1 e1 z1 o1 => ?_
  rw [iI_clamp h0 (by omega)] at e1
  exact kk _ rfl ls H1 _ a1 (b1.setr ha _ z1 o1 (cellAt.upa (by omega) e1 (av_upr h0 hk))) (c1.put z1 o1 hBa)
theorem Ok.atN (q : Ok X cc own nL fr lo mc ms) (ao : AO (xs X)) {H : Heap} {locs : List Loc} (hS : va_S (fun q => xB X ≤ q) (xs X).heap H locs) {U : State} (hU : U.heap = H) (hW : (xs X).WarmedH U.vm) : KK (xD X) (xA X) (xB X) (xt X) U ∧ AO U := ⟨q.at hS hU hW, ao.moved hW.alike⟩
theorem PcN_blind {D : va_G} {aC : Nat → ClassId} {B t : Nat} {av : List Value} : FrameBlind (va_Pc av (fun U => Rel D aC B sz S r h U.heap ∧ KK D aC B t U ∧ AO U)) := by
  intro a U g mk hq
  obtain ⟨q0, q1, q2, q3⟩ := hq
  exact ⟨q0, q1, q2.moved (U := U.calling g mk a) (State.WarmedH.refl U) (Nat.le_refl _) (fun _ _ _ => rfl), q3⟩
theorem g_ciN (q : Ok X cc own nL fr lo mc ms) (ao : AO (xs X)) {idx maxL1 fr1 lo1 mc1 ms1 b : Nat} {y : MethodName} {c1 : ByteArray} {Q : nQ} (hC : CtN (xl X) y c1 maxL1 fr1 lo1 mc1 ms1 [.ref b] (xD X) (xA X) (xB X) (xt X) sz S r h Q) (hm : MLI own idx y c1 maxL1 0) (hrm : fr1 + 1 ≤ fr ∧ 8 + (maxL1 + 11) + lo1 ≤ lo ∧ k + mc1 ≤ mc ∧ n + ms1 ≤ ms) (hst : (st.map fun v => v.category).sum ≤ 8) (hl : lv.length = nL) (hd : decode cc pc = .ok (.invokespecial idx, 3))
    (kk : ∀ (sz1 : Nat) (S1 : sS) (r1 : sR) (h1 : sH), Q sz1 S1 r1 h1 → G X (k + mc1) (n + ms1) (pc + 3) lv st sz1 S1 r1 h1) : G X k n pc lv (.ref b :: st) sz S r h := by
  intro ls H locs a1 b1 c1
  obtain ⟨hB, hlk, hin, hnm⟩ := hm
  refine g_run (mc1 := mc1) (ms1 := ms1) (va_runI (As := []) (rest := st) (Ts := UG) ⟨q.exec, q.byt, q.ml, q.ow, fun w h => q.w h⟩ hC ⟨q.cb hB hlk hrm.1 hrm.2.1, hnm, q.w hin⟩ ⟨PcN_blind, fun U hU hW => ⟨rfl, by rw [hU]; exact b1, q.atN ao c1 hU hW⟩⟩ rfl rfl (a1.1.trans hl) rfl (lv_room hst) hd ⟨by rw [q.2.2.2.2.2.2.2.1]; exact hrm.2.2.1, by rw [q.2.2.2.2.2.2.2.2.1]; exact hrm.2.2.2⟩) c1 fun v sz1 S1 r1 h1 hP H1 locs1 hR hS => ?_
  obtain ⟨rfl, hQ⟩ := hP
  exact kk sz1 S1 r1 h1 hQ ls H1 locs1 a1 hR hS
theorem g_cnN (q : Ok X cc own nL fr lo mc ms) (ao : AO (xs X)) {idx maxL1 fr1 lo1 mc1 ms1 b : Nat} {y : MethodName} {c1 : ByteArray} {Q : nQ} (hC : CtN (xl X) y c1 maxL1 fr1 lo1 mc1 ms1 [.ref b] (xD X) (xA X) (xB X) (xt X) sz S r h Q) (hm : MLN own idx y c1 maxL1 0) (hrm : fr1 + 1 ≤ fr ∧ 8 + (maxL1 + 11) + lo1 ≤ lo ∧ k + mc1 ≤ mc ∧ n + ms1 ≤ ms) (hst : (st.map fun v => v.category).sum ≤ 8) (hl : lv.length = nL) (hd : decode cc pc = .ok (.invokespecial idx, 3))
    (kk : ∀ (sz1 : Nat) (S1 : sS) (r1 : sR) (h1 : sH), Q sz1 S1 r1 h1 → G X (k + mc1) (n + ms1) (pc + 3) lv st sz1 S1 r1 h1) : G X k n pc lv (.ref b :: st) sz S r h := by
  intro ls H locs a1 b1 c1
  obtain ⟨hB, hlk, hin, hnm⟩ := hm
  refine g_run (mc1 := mc1) (ms1 := ms1) (va_runIN (As := []) (rest := st) (Ts := UG) (host := "MileLists") ⟨q.exec, q.byt, q.ml, q.ow, fun w h => q.w h⟩ hC ⟨va_cnB (Ts := UG) 0 (fun w h => q.w h) (UG_in2 hB.2.1) rfl rfl rfl (q.kk.2.2.2.1 _ hlk) (q.w hB.1) hB.2.2 ⟨by rw [q.2.2.2.2.2.2.1]; exact hrm.1, by rw [q.2.2.2.2.2.2.2.2.2]; exact hrm.2.1⟩, hnm, q.w hin⟩ ⟨PcN_blind, fun U hU hW => ⟨rfl, by rw [hU]; exact b1, q.atN ao c1 hU hW⟩⟩ rfl rfl (a1.1.trans hl) rfl (lv_room hst) hd ⟨by rw [q.2.2.2.2.2.2.2.1]; exact hrm.2.2.1, by rw [q.2.2.2.2.2.2.2.2.1]; exact hrm.2.2.2⟩) c1 fun v sz1 S1 r1 h1 hP H1 locs1 hR hS => ?_
  obtain ⟨rfl, hQ⟩ := hP
  exact kk sz1 S1 r1 h1 hQ ls H1 locs1 a1 hR hS
end RN
