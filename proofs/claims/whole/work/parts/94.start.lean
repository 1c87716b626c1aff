/-! ===== the start ===== -/
def R_law : String := "MileListsLaw"
def lw_P (b : Addr) (xs : List Int32) (args : Array Value) (s : State) : Prop := args = #[.ref b] ∧ s.IntsAt b xs ∧ xs.length ≤ 3072 ∧ (Jvm.Cond.and given_1 narrow_1).before args s = true
def lw_Q (_ : Array Value) (s : State) (o : Outcome) (t : State) : Prop := o = .returned (some (.int 1)) ∧ Framed s o t [] 601024 7293034
def lw_Z (below : List Frame) (a : Array Value) (s : State) : State → Prop := fun t => ∃ o, t.status = .running ∧ Ended t below o ∧ lw_Q a s o t
/-- the law's own end, with 1 on the stack, nothing written that was there before, its room as the claim has it -/
theorem lw_ret {p : Program} {l : Launch} {e : Env} {s : State} {m : MethodId} {below : List Frame} {meth : Method} {c : Code} {b : Nat} (hx : p.tables.exec = Jvm.exec) (hb : c.code = code) (hr : meth.sig.returnType = ret) (hlocks : meth.locks = false) {pc : Nat} {H : Heap} {ls : Array Slot} (hdg : decode code pc = .ok (.ireturn, 1)) : W p l e room_1 s m #[Value.ref b] below meth c H [] 601024 7293034 (lw_Z below #[Value.ref b] s) (F0 m pc ls [.int 1]) := by
  intro T hT X
  obtain ⟨fs, hret, hrun, hended, hW, hframe⟩ := X.leave (v := some (.int 1)) (hlocks := hlocks) (fun h => by rw [hr] at h; cases h)
  have hmeth' : T.vm.method? m = some meth := X.method'
  refine ⟨T.setFrames fs, ?_, .returned (some (.int 1)), hrun, hended, rfl, ⟨_, rfl⟩, hW, hframe⟩
  jvm_step X.here [X.here.top, hx, hb, hdg, hmeth', hr, ret, narrow_b1]
  (try refine ⟨rfl, ?_⟩); (try refine ⟨rfl, ?_⟩)
  first | (intro acts; rw [hret _ acts rfl rfl rfl]) | rw [hret _ _ rfl rfl rfl]
  exact Steps.refl _
/-- what holds at the law's entry: the machine, the code, the tables' words (any of lw_tbl by 'hts w (by decide +kernel)'), the script of L ints xs at the cell b, what the Statement gives of the start (any of its parts by flat_of_before) -/
def lw_At (p : Program) (s : State) (m : MethodId) (meth : Method) (c : Code) (b L : Nat) (xs : Nat → Int32) : Prop :=
  p.tables.exec = Jvm.exec ∧ c.code = code ∧ meth.sig.returnType = ret ∧ c.maxLocals = 7 ∧ s.vm.findClass R_law = some m.cls ∧ (∀ w ∈ lw_tbl, w.before #[Value.ref b] s = true) ∧ va_X b L xs s s.heap ∧ b < s.heap.size ∧ meth.locks = false ∧ (Jvm.Cond.and given_1 narrow_1).before #[Value.ref b] s = true
theorem LX5.fr {S S2 : sS} {r r2 : sR} {a : Nat} (h : LX5 S r a) (f : sm S S2 r r2 a (a + 60)) : LX5 S2 r2 a := by
  obtain ⟨p1, ⟨p2, p3, p4⟩, ⟨p5, p6, p7⟩, ⟨p8, p9⟩, ⟨p10, p11⟩, ⟨p12, p13, p14⟩, ⟨p15, p16⟩, p17, p18⟩ := h
  have es : ∀ c : Nat, a ≤ c → c < a + 60 → S2 c = S c := fun c c0 c1 => (f c c0 c1).1
  have er : ∀ c : Nat, a ≤ c → c < a + 60 → r2 c = r c := fun c c0 c1 => (f c c0 c1).2
  have ra := er a (by omega) (by omega)
  exact ⟨by rw [es a (by omega) (by omega)]; exact p1, ⟨by rw [ra]; exact p2, by rw [es _ (by omega) (by omega)]; exact p3, fun j j0 j1 => by rw [er _ (by omega) (by omega), es _ (by omega) (by omega)]; exact p4 j j0 j1⟩, ⟨by rw [ra]; exact p5, by rw [es _ (by omega) (by omega)]; exact p6, fun j j0 j1 => by rw [er _ (by omega) (by omega), es _ (by omega) (by omega)]; exact p7 j j0 j1⟩, ⟨by rw [ra]; exact p8, by rw [es _ (by omega) (by omega)]; exact p9⟩, ⟨by rw [ra]; exact p10, by rw [es _ (by omega) (by omega)]; exact p11⟩, ⟨by rw [ra]; exact p12, by rw [es _ (by omega) (by omega)]; exact p13, fun j j0 j1 => ⟨by rw [er _ (by omega) (by omega)]; exact (p14 j j0 j1).1, (p14 j j0 j1).2.fr fun c c0 c1 => f c (by omega) (by omega)⟩⟩, ⟨by rw [ra]; exact p15, p16.fr fun c c0 c1 => f c (by omega) (by omega)⟩, by rw [ra]; exact p17, by rw [es _ (by omega) (by omega)]; exact p18⟩
theorem LX11.fr {S S2 : sS} {r r2 : sR} {a : Nat} (h : LX11 S r a) (f : sm S S2 r r2 a (a + 325)) : LX11 S2 r2 a := by
  obtain ⟨p1, ⟨p2, p3⟩, ⟨p4, p5⟩, ⟨p6, p7⟩, ⟨p8, p9, p10⟩, ⟨p11, p12⟩, ⟨p13, p14⟩, ⟨p15, p16⟩, p17, p18⟩ := h
  have ra := (f a (by omega) (by omega)).2
  exact ⟨by rw [(f a (by omega) (by omega)).1]; exact p1, ⟨by rw [ra]; exact p2, p3.fr fun c c0 c1 => f c (by omega) (by omega)⟩, ⟨by rw [ra]; exact p4, p5.fr fun c c0 c1 => f c (by omega) (by omega)⟩, ⟨by rw [ra]; exact p6, p7.fr fun c c0 c1 => f c (by omega) (by omega)⟩, ⟨by rw [ra]; exact p8, by rw [(f _ (by omega) (by omega)).1]; exact p9, fun j j0 j1 => ⟨by rw [(f _ (by omega) (by omega)).2]; exact (p10 j j0 j1).1, (p10 j j0 j1).2.fr fun c c0 c1 => f c (by omega) (by omega)⟩⟩, ⟨by rw [ra]; exact p11, p12.fr fun c c0 c1 => f c (by omega) (by omega)⟩, ⟨by rw [ra]; exact p13, p14.fr fun c c0 c1 => f c (by omega) (by omega)⟩, ⟨by rw [ra]; exact p15, p16.fr fun c c0 c1 => f c (by omega) (by omega)⟩, by rw [ra]; exact p17, p18.fr fun c c0 c1 => f c (by omega) (by omega)⟩
theorem LX12.fr {S S2 : sS} {r r2 : sR} {a : Nat} (h : LX12 S r a) (f : sm S S2 r r2 a (a + 29)) : LX12 S2 r2 a := by
  unfold LX12 at h ⊢
  rw [(f a (by omega) (by omega)).2, (f a (by omega) (by omega)).1, (f (a + 1) (by omega) (by omega)).1, (f (a + 2) (by omega) (by omega)).1, (f (a + 3) (by omega) (by omega)).1, (f (a + 4) (by omega) (by omega)).1, (f (a + 5) (by omega) (by omega)).1, (f (a + 6) (by omega) (by omega)).1, (f (a + 7) (by omega) (by omega)).1, (f (a + 8) (by omega) (by omega)).1, (f (a + 9) (by omega) (by omega)).1, (f (a + 10) (by omega) (by omega)).1, (f (a + 11) (by omega) (by omega)).1, (f (a + 12) (by omega) (by omega)).1, (f (a + 13) (by omega) (by omega)).1, (f (a + 14) (by omega) (by omega)).1, (f (a + 15) (by omega) (by omega)).1, (f (a + 16) (by omega) (by omega)).1, (f (a + 17) (by omega) (by omega)).1, (f (a + 18) (by omega) (by omega)).1, (f (a + 19) (by omega) (by omega)).1, (f (a + 20) (by omega) (by omega)).1, (f (a + 21) (by omega) (by omega)).1, (f (a + 22) (by omega) (by omega)).1, (f (a + 23) (by omega) (by omega)).1, (f (a + 24) (by omega) (by omega)).1, (f (a + 25) (by omega) (by omega)).1, (f (a + 26) (by omega) (by omega)).1, (f (a + 27) (by omega) (by omega)).1, (f (a + 28) (by omega) (by omega)).1]
  exact h
/-- the classes and the arrays' classes at the start -/
theorem lw_K {s : State} {args : Array Value} (hug : ∀ w ∈ UG, w.before args s = true) (ao : AO s) : ∃ (D : va_G) (aC : Nat → ClassId), va_K D vwCl (tysL aC) s := by
  have one : ∀ {ci : Nat} {C : String} {T : u_T} {N : Nat}, FC C T N ci → Cond.instantiable C N ∈ UG → ∃ (cC : ClassId) (iS : Nat → Nat), ∀ q, vwCl[ci]? = some q → u_Kn s q.1 q.2.1 q.2.2 cC iS := fun f hi => by
    obtain ⟨hc, hin, -, -⟩ := f
    obtain ⟨cC, iS, hk⟩ := u_known hug hin (hug _ hi)
    exact ⟨cC, iS, fun q hq => by cases hq.symm.trans hc; exact hk⟩
  have k : ∀ ci : Nat, ∃ (cC : ClassId) (iS : Nat → Nat), ∀ q, vwCl[ci]? = some q → u_Kn s q.1 q.2.1 q.2.2 cC iS := by
    intro ci
    match ci with
    | 0 => exact one fcX0 wn_X0
    | 1 => exact one fcX1 wn_X1
    | 2 => exact one fcX2 wn_X2
    | 3 => exact one fcX3 wn_X3
    | 4 => exact one fcX4 wn_X4
    | 5 => exact one fcX5 wn_X5
    | 6 => exact one fcX6 wn_X6
    | 7 => exact one fcX7 wn_X7
    | 8 => exact one fcX8 wn_X8
    | 9 => exact one fcX9 wn_X9
    | 10 => exact one fcX10 wn_X10
    | 11 => exact one fcX11 wn_X11
    | 12 => exact one fcX12 wn_X12
    | ci + 13 => exact ⟨0, fun _ => 0, fun q hq => by simp at hq⟩
  have pr : ∀ {ty : FieldType}, Cond.arrayClass ty ∈ UG → ∃ cA : ClassId, ArrOfT s cA ty ∧ s.vm.findClass ("[" ++ ty.toString) = some cA := fun h => by
    obtain ⟨c, k, comp, h1, h2, h3⟩ := Cond.arrayClass_spec (hug _ h)
    exact ⟨c, fun n z => ⟨fun k h => (by cases h), k, h2, comp, h3⟩, h1⟩
  have ob : ∀ {C : String}, va_AO C s → ∃ cA : ClassId, ArrOfT s cA (.object C) ∧ va_RA s cA (.object C) := fun h => by
    obtain ⟨comp, c, k, h1, h2, h3, h4, h5⟩ := Cond.arrayOver_spec h
    exact ⟨c, fun n z => ⟨fun k h => (by cases h), k, h3, comp, h4⟩, k, comp, h3, h4, h1, h5⟩
  obtain ⟨a20, b20⟩ := pr wa_int
  obtain ⟨a21, b21⟩ := pr wa_byte
  obtain ⟨a22, b22⟩ := pr wa_bool
  obtain ⟨a23, b23⟩ := pr wa_long
  obtain ⟨a24, b24⟩ := ob ao.1
  obtain ⟨a25, b25⟩ := ob ao.2.1
  obtain ⟨a26, b26⟩ := ob ao.2.2.1
  obtain ⟨a27, b27⟩ := ob ao.2.2.2.1
  obtain ⟨a28, b28⟩ := ob ao.2.2.2.2.1
  obtain ⟨a29, b29⟩ : ∃ cA : ClassId, ArrOfT s cA (.array .int) ∧ va_RA s cA (.array .int) := by
    obtain ⟨comp, c, k, h1, h2, h3, h4, h5⟩ := arrayOverA_spec ao.2.2.2.2.2
    exact ⟨c, fun n z => ⟨fun k h => (by cases h), k, h3, comp, h4⟩, h5⟩
  obtain ⟨aC, ea⟩ : ∃ aC : Nat → ClassId, aC = fun kd => if kd = 20 then a20 else if kd = 21 then a21 else if kd = 22 then a22 else if kd = 23 then a23 else if kd = 24 then a24 else if kd = 25 then a25 else if kd = 26 then a26 else if kd = 27 then a27 else if kd = 28 then a28 else a29 := ⟨_, rfl⟩
  have c20 : aC 20 = a20 := by rw [ea]; rfl
  have c21 : aC 21 = a21 := by rw [ea]; rfl
  have c22 : aC 22 = a22 := by rw [ea]; rfl
  have c23 : aC 23 = a23 := by rw [ea]; rfl
  have c24 : aC 24 = a24 := by rw [ea]; rfl
  have c25 : aC 25 = a25 := by rw [ea]; rfl
  have c26 : aC 26 = a26 := by rw [ea]; rfl
  have c27 : aC 27 = a27 := by rw [ea]; rfl
  have c28 : aC 28 = a28 := by rw [ea]; rfl
  have c29 : aC 29 = a29 := by rw [ea]; rfl
  refine ⟨(fun ci => Classical.choose (k ci), fun ci => Classical.choose (Classical.choose_spec (k ci))), aC, fun ci q hq => Classical.choose_spec (Classical.choose_spec (k ci)) q hq, fun i q hq => ?_⟩
  unfold tysL at hq
  rw [c20, c21, c22, c23, c24, c25, c26, c27, c28, c29] at hq
  match i with
  | 0 => cases hq; exact b20
  | 1 => cases hq; exact b21
  | 2 => cases hq; exact b22
  | 3 => cases hq; exact b23
  | 4 => cases hq; exact b24
  | 5 => cases hq; exact b25
  | 6 => cases hq; exact b26
  | 7 => cases hq; exact b27
  | 8 => cases hq; exact b28
  | 9 => cases hq; exact b29
  | i + 10 => simp at hq
theorem lw_mem {w : Cond} {s : State} {args : Array Value} (hts : ∀ w ∈ lw_tbl, w.before args s = true) (i : Nat) (h : lw_tbl[i]? = some w) : w.before args s = true := hts w (List.mem_of_getElem? h)
theorem lw_AO {s : State} {args : Array Value} (hts : ∀ w ∈ lw_tbl, w.before args s = true) : AO s := ⟨va_AO.of (lw_mem hts 142 (by decide +kernel)), va_AO.of (lw_mem hts 144 (by decide +kernel)), va_AO.of (lw_mem hts 135 (by decide +kernel)), va_AO.of (lw_mem hts 193 (by decide +kernel)), va_AO.of (lw_mem hts 288 (by decide +kernel)), (lw_mem (w := Cond.arrayOver (.array .int)) hts 286 (by decide +kernel) : (Cond.arrayOver (.array .int)).before args s = true)⟩
theorem lw_nw {s : State} {args : Array Value} (hts : ∀ w ∈ lw_tbl, w.before args s = true) : ∀ q ∈ nwM, va_Nw (.methodLinkNest q.1 q.2.1 q.2.2 "MileLists") s := by
  intro q hq
  unfold nwM at hq
  simp only [List.mem_cons, List.not_mem_nil, or_false] at hq
  rcases hq with rfl | rfl | rfl | rfl | rfl | rfl | rfl | rfl | rfl
  · exact va_Nw.of rfl (lw_mem hts 81 (by decide +kernel))
  · exact va_Nw.of rfl (lw_mem hts 101 (by decide +kernel))
  · exact va_Nw.of rfl (lw_mem hts 118 (by decide +kernel))
  · exact va_Nw.of rfl (lw_mem hts 246 (by decide +kernel))
  · exact va_Nw.of rfl (lw_mem hts 200 (by decide +kernel))
  · exact va_Nw.of rfl (lw_mem hts 195 (by decide +kernel))
  · exact va_Nw.of rfl (lw_mem hts 290 (by decide +kernel))
  · exact va_Nw.of rfl (lw_mem hts 145 (by decide +kernel))
  · exact va_Nw.of rfl (lw_mem hts 147 (by decide +kernel))
theorem lw_nf {s : State} {args : Array Value} (hts : ∀ w ∈ lw_tbl, w.before args s = true) : ∀ q ∈ nwF, va_Nw (.fieldLinkNest q.1 q.2 "MileLists" "SIGN_VALUES" "[I" "MileLists") s := by
  intro q hq
  unfold nwF at hq
  simp only [List.mem_cons, List.not_mem_nil, or_false] at hq
  rcases hq with rfl | rfl
  · exact va_Nw.of rfl (lw_mem hts 607 (by decide +kernel))
  · exact va_Nw.of rfl (lw_mem hts 581 (by decide +kernel))
abbrev tSV : Term := .static "MileLists" "SIGN_VALUES" "[I"
theorem lw_sv {s : State} {args : Array Value} (hts : ∀ w ∈ lw_tbl, w.before args s = true) (hpre : (Jvm.Cond.and given_1 narrow_1).before args s = true) : ∃ t : Nat, va_Z "MileLists" "SIGN_VALUES" "[I" (.ref t) (fun q => s.heap.size ≤ q) s s.heap ∧ va_T .int t 5 (fun j => .int (iI (svI j))) (fun q => s.heap.size ≤ q) s s.heap := by
  have hs := flat_of_before _ hpre
  have el : ∀ j : Nat, j < 5 → (Term.elem tSV (.int (Int32.ofNat j))).eval args s none [] s = some (.int (iI (svI j))) := by
    intro j hj
    match j, hj with
    | 0, _ => exact (va_eqt (z := 0) (hs (Cond.eq (.elem tSV (.int 0)) (.int 0)) (by decide +kernel))).trans (by decide +kernel)
    | 1, _ => exact (va_eqt (z := 1) (hs (Cond.eq (.elem tSV (.int 1)) (.int 1)) (by decide +kernel))).trans (by decide +kernel)
    | 2, _ => exact (va_eqt (z := 5) (hs (Cond.eq (.elem tSV (.int 2)) (.int 5)) (by decide +kernel))).trans (by decide +kernel)
    | 3, _ => exact (va_eqt (z := 10) (hs (Cond.eq (.elem tSV (.int 3)) (.int 10)) (by decide +kernel))).trans (by decide +kernel)
    | 4, _ => exact (va_eqt (z := 50) (hs (Cond.eq (.elem tSV (.int 4)) (.int 50)) (by decide +kernel))).trans (by decide +kernel)
  have hA : ∀ a : Nat, a < s.heap.size → ¬ s.heap.size ≤ a := fun a h => by omega
  obtain ⟨t, ht, hT⟩ := va_Tof (tm := tSV) (ty := .int) (N := 5) (f := fun j => .int (iI (svI j))) (A := fun q => s.heap.size ≤ q) (by decide) (hs (Cond.arrayOf tSV .int) (by decide +kernel)) (va_eqt (z := 5) (hs (Cond.eq (.length tSV) (.int 5)) (by decide +kernel))) el hA
  exact ⟨t, va_Zof (lw_mem hts 503 (by decide +kernel)) (lw_mem hts 53 (by decide +kernel)) ht hA, hT⟩
theorem lw_EX {s : State} {args : Array Value} {cM : ClassId} (hfc : s.vm.findClass RX11 = some cM) (hts : ∀ w ∈ lw_tbl, w.before args s = true) (hpre : (Jvm.Cond.and given_1 narrow_1).before args s = true) : ∃ s1 s2 : Nat, EX s.heap.size s1 s2 s := by
  have hs := flat_of_before _ hpre
  have hA : ∀ a : Nat, a < s.heap.size → ¬ s.heap.size ≤ a := fun a h => by omega
  have w1 := lw_mem (w := Cond.stringRef RX11 207 "no such list") hts 812 (by decide +kernel)
  have w2 := lw_mem (w := Cond.stringRef RX11 226 "no such what") hts 840 (by decide +kernel)
  obtain ⟨_, _, _, s1, -, -, -, -, -, e1⟩ := Cond.stringRef_spec hfc w1
  obtain ⟨_, _, _, s2, -, -, -, -, -, e2⟩ := Cond.stringRef_spec hfc w2
  exact ⟨s1, s2, vk_R.of w1 e1, vk_R.of w2 e2, vx_Zqof (lw_mem hts 800 (by decide +kernel)) (lw_mem hts 67 (by decide +kernel)) (hs (Cond.isRef (.static Bundle.tN "UNASSIGNED_STACK" Bundle.steD)) (by decide +kernel)) hA, vx_Zqof (lw_mem hts 802 (by decide +kernel)) (lw_mem hts 67 (by decide +kernel)) (hs (Cond.isRef (.static Bundle.tN "SUPPRESSED_SENTINEL" Bundle.listD)) (by decide +kernel)) hA, va_Nw.of rfl (lw_mem hts 777 (by decide +kernel)), va_Nw.of rfl (lw_mem hts 779 (by decide +kernel)), va_Nw.of rfl (lw_mem hts 781 (by decide +kernel)), va_Nw.of rfl (lw_mem hts 775 (by decide +kernel))⟩
/-- from the entry on -/
theorem whole_start {p : Program} {e : Env} {s : State} {m : MethodId} {below : List Frame} {meth : Method} {c : Code} (l : Launch) (hnt : l.stackTraces = false) {b L : Nat} {xs : Nat → Int32} (hL : L ≤ 3072) (C0 : lw_At p s m meth c b L xs) : W p l e room_1 s m #[Value.ref b] below meth c s.heap [] 0 0 (lw_Z below #[Value.ref b] s) (entryFrame m ([Value.ref b] : List Value).toArray 7) := by
  obtain ⟨hexec, hbc, hret, hml, hown, hts, hX, hbl, hlocks, hpre⟩ := C0
  have hug : ∀ w ∈ UG, w.before #[Value.ref b] s = true := fun w h => hts w (UG_tbl h)
  have ao := lw_AO hts
  obtain ⟨D, aC, hK⟩ := lw_K hug ao
  obtain ⟨t, hZ, hT⟩ := lw_sv hts hpre
  obtain ⟨s1, s2, ex⟩ := lw_EX (hK.1 11 _ rfl).2.1 hts hpre
  have hKK : KK D aC s.heap.size t s := ⟨hK, hZ, hT, lw_nw hts, lw_nf hts, Nat.le_refl _⟩
  obtain ⟨X, hXX⟩ : ∃ X : CX, X = (p, l, e, room_1, s, m, #[Value.ref b], below, meth, c, lw_Z below #[Value.ref b] s, D, aC, s.heap.size, t) := ⟨_, rfl⟩
  have w : LwC X b L xs s1 s2 := by rw [hXX]; exact ⟨⟨hexec, hbc, hml, hown, hug, hKK, rfl, rfl, rfl, rfl⟩, ⟨hX, hbl, rfl⟩, ex, hnt, hL⟩
  have aoX : AO (Jvm.Pilot.CMileListsLaw_law_r1306_a32169.xs X) := by rw [hXX]; exact ao
  have q := w.1
  obtain ⟨x, ex0⟩ : ∃ x : Nat, x = s.heap.size := ⟨_, rfl⟩
  have hend : ∀ (S : sS) (r : sR) (k n sz : Nat) (lv : List (Option Value)) (h : sH), k ≤ 601024 → n ≤ 7293034 → G X k n 985 lv [] sz S r h := by
    intro S r k n sz lv h hk hn
    refine r_iconst (pc := 985) q dL_law_985 ?_
    intro ls H locs a1 b1 c1
    rw [hXX] at c1 ⊢
    exact va_forget (fun z hz => c1.2.2 z hz) (W.widen hk hn (lw_ret hexec hbc hret hlocks dL_law_986))
  have gg : G X 0 0 0 [some (.ref b), none, none, none, none, none, none] [] x (fun _ => none) (fun _ _ => none) (fun _ _ => 0) := by
    refine r_mkI (pc := 0) q aoX fcX11 (by decide) xL_8 wn_X11 wi_X11 dv_X11 (fun S' r' h' g1 g2 => c_X11_init g1 rfl g2) mL_15 (by decide) (Nat.le_of_ble_eq_true rfl) rfl dL_law_0 dL_law_3 dL_law_4 (fun S1 r1 h1 f1 L1 E1 => ?_)
    refine r_astore_1 (pc := 7) q dL_law_7 rfl ?_
    refine r_mkI (pc := 8) q aoX fcX12 (by decide) xL_16 wn_X12 wi_X12 dv_X12 (fun S' r' h' g1 g2 => c_X12_init g1 rfl g2) mL_18 (by decide) (Nat.le_of_ble_eq_true rfl) rfl dL_law_8 dL_law_11 dL_law_12 (fun S2 r2 h2 f2 L2 E2 => ?_)
    refine r_astore_2 (pc := 15) q dL_law_15 rfl ?_
    refine r_iconst (pc := 16) q dL_law_16 ?_
    refine r_newL (pc := 17) q (by decide) rfl (by decide) (by decide) dL_law_17 (fun S3 r3 h3 n3 => ?_)
    refine r_astore_3 (pc := 19) q dL_law_19 rfl ?_
    refine r_iconst (pc := 20) q dL_law_20 ?_
    refine r_istore_4 (pc := 21) q dL_law_21 rfl ?_
    have hx : LX11 S3 r3 x := L1.fr fun c c0 c1 => ⟨by rw [(n3.2.2.2 c (by omega)).1, (f2 c (by omega)).1], by rw [(n3.2.2.2 c (by omega)).2.1, (f2 c (by omega)).2.1]⟩
    have hm : LX12 S3 r3 (x + 325) := L2.fr fun c c0 c1 => ⟨(n3.2.2.2 c (by omega)).1, (n3.2.2.2 c (by omega)).2.1⟩
    have e3 : ∀ c : Nat, c < x + 354 → h3 c = h2 c := fun c hc => (n3.2.2.2 c (by omega)).2.2
    have e2 : ∀ c : Nat, c < x + 325 → h3 c = h1 c := fun c hc => by rw [e3 c (by omega), (f2 c hc).2.2]
    have E1' : eX11 h3 x := by
      unfold eX11 eX2 at E1 ⊢
      rw [e2 x (by omega), e2 (x + 1) (by omega), e2 (x + 183) (by omega), e2 (x + 258) (by omega), e2 (x + 263) (by omega)]
      exact E1
    have E2' : eX12 h3 (x + 325) := by
      unfold eX12 at E2 ⊢
      rw [e3 (x + 325) (by omega), e3 (x + 325 + 2) (by omega)]
      exact E2
    have ho : S3 (x + 354) = some (23, 1) := n3.1
    have lp := lw_loop w hx hm ho (fun k n sz l4 l5 l6 h hk hn => hend S3 r3 k n sz _ h hk hn) 513 0 (x + 325 + 29 + 1) h3 none none rfl (rel_0 E1' E2')
    exact G.w (by decide) (by decide) lp
  rw [lg_entry_eq]
  have := gg _ s.heap [] (LV.entry [Value.ref b] (n := 7) (Nat.le_of_ble_eq_true rfl)) (by rw [hXX]; exact ⟨ex0.symm, fun a kd n h => nomatch h⟩) (by rw [hXX]; exact va_S.rf)
  rw [hXX] at this
  exact this
