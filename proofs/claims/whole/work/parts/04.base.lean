/-! ===== numbers ===== -/
def iI (z : Int) : Int32 := Int32.ofInt z
def lI (z : Int) : Int64 := Int64.ofInt z
def inR (z : Int) : Prop := -2147483648 ≤ z ∧ z ≤ 2147483647
def inL (z : Int) : Prop := -9223372036854775808 ≤ z ∧ z ≤ 9223372036854775807
theorem iI_add (a b : Int) : iI (a + b) = iI a + iI b := Int32.ofInt_add a b
theorem iI_sub (a b : Int) : iI (a - b) = iI a - iI b := Int32.ofInt_sub a b
theorem iI_mul (a b : Int) : iI (a * b) = iI a * iI b := Int32.ofInt_mul a b
theorem iI_neg (a : Int) : iI (-a) = -iI a := Int32.ofInt_neg a
theorem lI_add (a b : Int) : lI (a + b) = lI a + lI b := Int64.ofInt_add a b
theorem iI_toInt {z : Int} (h : inR z) : (iI z).toInt = z := Int32.toInt_ofInt_of_le (by have := h.1; omega) (by have := h.2; omega)
theorem lI_toInt {z : Int} (h : inL z) : (lI z).toInt = z := Int64.toInt_ofInt_of_le (by have := h.1; omega) (by have := h.2; omega)
theorem iI_of (x : Int32) : x = iI x.toInt := (Int32.ofInt_toInt x).symm
theorem iI_in (x : Int32) : inR x.toInt := ⟨by have := Int32.le_toInt x; omega, by have := Int32.toInt_lt x; omega⟩
theorem iI_lt {a b : Int} (ha : inR a) (hb : inR b) : iI a < iI b ↔ a < b := by rw [Int32.lt_iff_toInt_lt, iI_toInt ha, iI_toInt hb]
theorem iI_le {a b : Int} (ha : inR a) (hb : inR b) : iI a ≤ iI b ↔ a ≤ b := by rw [Int32.le_iff_toInt_le, iI_toInt ha, iI_toInt hb]
theorem iI_eq {a b : Int} (ha : inR a) (hb : inR b) : iI a = iI b ↔ a = b := by rw [← Int32.toInt_inj, iI_toInt ha, iI_toInt hb]
theorem lI_eq {a b : Int} (ha : inL a) (hb : inL b) : lI a = lI b ↔ a = b := by rw [← Int64.toInt_inj, lI_toInt ha, lI_toInt hb]
theorem inR_0 : inR 0 := ⟨by decide, by decide⟩
theorem iI_0 : iI 0 = 0 := by decide
theorem iI_clamp {j : Int} (h0 : 0 ≤ j) (h : j ≤ 2147483647) : (iI j).toNatClampNeg = j.toNat := Int32.toNatClampNeg_ofInt_of_le (by omega) (by omega)
theorem iI_vin {j : Int} {n : Nat} (h0 : 0 ≤ j) (h1 : j < n) (hn : j ≤ 2147483647) : vp_in (iI j) n := by
  rw [vp_in_iff, iI_toInt ⟨by omega, hn⟩]
  exact ⟨h0, h1⟩
/-! ===== update of a function ===== -/
def up {α β : Type} [DecidableEq α] (f : α → β) (a : α) (b : β) : α → β := fun x => if x = a then b else f x
theorem up_s {α β : Type} [DecidableEq α] (f : α → β) (a : α) (b : β) : up f a b a = b := by simp [up]
theorem up_n {α β : Type} [DecidableEq α] (f : α → β) {a x : α} (b : β) (h : x ≠ a) : up f a b x = f x := by simp [up, h]
/-! ===== words ===== -/
def UG : List Cond := lw_tbl.filter goodWord
theorem UG_of {w : Cond} {i : Nat} (h : lw_tbl[i]? = some w) (g : goodWord w = true) : w ∈ UG := List.mem_filter.mpr ⟨List.mem_of_getElem? h, g⟩
theorem UG_tbl {w : Cond} (h : w ∈ UG) : w ∈ lw_tbl := (List.mem_filter.mp h).1
theorem UG_good {w : Cond} (h : w ∈ UG) : goodWord w = true := (List.mem_filter.mp h).2
theorem UG_in {c c0 : Cond} (h : c ∈ UG) : GoodIn (c0 :: UG) (c :: UG) := fun w hw => by
  rcases List.mem_cons.mp hw with e | e
  · subst e; exact ⟨List.mem_cons_of_mem _ h, good_of_word (UG_good h)⟩
  · exact ⟨List.mem_cons_of_mem _ e, good_of_word (UG_good e)⟩
theorem UG_in2 {c : Cond} (h : c ∈ UG) : GoodIn UG (c :: UG) := fun w hw => by
  rcases List.mem_cons.mp hw with e | e
  · subst e; exact ⟨h, good_of_word (UG_good h)⟩
  · exact ⟨e, good_of_word (UG_good e)⟩
/-! ===== the picture of the heap ===== -/
abbrev sS : Type := Nat → Option (Nat × Nat)
abbrev sR : Type := Nat → Int → Option Nat
abbrev sH : Type := Nat → Int → Int
def tyc (ci : Nat) : Nat → FieldType := match ci with
  | 0 => tyX0 | 1 => tyX1 | 2 => tyX2 | 3 => tyX3 | 4 => tyX4 | 5 => tyX5 | 6 => tyX6 | 7 => tyX7 | 8 => tyX8 | 9 => tyX9 | 10 => tyX10 | 11 => tyX11 | _ => tyX12
def isRf (t : FieldType) : Bool := match t with
  | .int => false
  | .boolean => false
  | _ => true
def fv (ci k : Nat) (ra : Int → Option Nat) (ha : Int → Int) : Value := if isRf (tyc ci k) then va_rf (ra k) else .int (iI (ha k))
def av (kd : Nat) (x : Option Nat) (z : Int) : Value := if kd = 23 then .long (lI z) else if kd < 24 then .int (iI z) else va_rf x
def cellAt (D : va_G) (aC : Nat → ClassId) (kd n : Nat) (ra : Int → Option Nat) (ha : Int → Int) (a : Nat) (H : Heap) : Prop :=
  if kd < 20 then ∃ q : vw_C, vwCl[kd]? = some q ∧ t_OB a (D.1 kd) q.2.2 (D.2 kd) H (fun k => fv kd k ra ha)
  else H[a]? = some (arrV (aC kd) n (fun j => av kd (ra j) (ha j)))
def Rel (D : va_G) (aC : Nat → ClassId) (B sz : Nat) (S : sS) (r : sR) (h : sH) (H : Heap) : Prop :=
  H.size = sz ∧ ∀ (a kd n : Nat), S a = some (kd, n) → B ≤ a ∧ n ≤ 2147483647 ∧ cellAt D aC kd n (r a) (h a) a H
theorem cellAt.kept {D : va_G} {aC : Nat → ClassId} {kd n : Nat} {ra : Int → Option Nat} {ha : Int → Int} {a : Nat} {H H1 : Heap} (h : cellAt D aC kd n ra ha a H) (e : H1[a]? = H[a]?) : cellAt D aC kd n ra ha a H1 := by
  unfold cellAt at h ⊢
  split at h
  · rename_i hk
    rw [if_pos hk]
    obtain ⟨q, h1, h2⟩ := h
    exact ⟨q, h1, h2.kept e⟩
  · rename_i hk
    rw [if_neg hk, e]
    exact h
theorem cellAt.lt {D : va_G} {aC : Nat → ClassId} {kd n : Nat} {ra : Int → Option Nat} {ha : Int → Int} {a : Nat} {H : Heap} (h : cellAt D aC kd n ra ha a H) : a < H.size := by
  unfold cellAt at h
  split at h
  · obtain ⟨q, h1, cell, h2, -⟩ := h
    exact (Array.getElem?_eq_some_iff.mp h2).1
  · exact (Array.getElem?_eq_some_iff.mp h).1
theorem cellAt.obj {D : va_G} {aC : Nat → ClassId} {kd n : Nat} {ra : Int → Option Nat} {ha : Int → Int} {a : Nat} {H : Heap} (h : cellAt D aC kd n ra ha a H) (hk : kd < 20) : ∃ q : vw_C, vwCl[kd]? = some q ∧ t_OB a (D.1 kd) q.2.2 (D.2 kd) H (fun k => fv kd k ra ha) := by
  unfold cellAt at h; rw [if_pos hk] at h; exact h
theorem cellAt.arr {D : va_G} {aC : Nat → ClassId} {kd n : Nat} {ra : Int → Option Nat} {ha : Int → Int} {a : Nat} {H : Heap} (h : cellAt D aC kd n ra ha a H) (hk : ¬ kd < 20) : H[a]? = some (arrV (aC kd) n (fun j => av kd (ra j) (ha j))) := by
  unfold cellAt at h; rw [if_neg hk] at h; exact h
/-- one cell changes: its new contents are there, all else as it was -/
theorem Rel.seth {D : va_G} {aC : Nat → ClassId} {B sz : Nat} {S : sS} {r : sR} {h : sH} {H H1 : Heap} (R : Rel D aC B sz S r h H) {a kd n : Nat} (ha : S a = some (kd, n)) (f : Int → Int) (z : H1.size = H.size) (o : ∀ q : Nat, q ≠ a → H1[q]? = H[q]?) (e : cellAt D aC kd n (r a) f a H1) : Rel D aC B sz S r (up h a f) H1 := by
  refine ⟨by rw [z]; exact R.1, fun b kd2 n2 hb => ?_⟩
  obtain ⟨q1, q2, q3⟩ := R.2 b kd2 n2 hb
  refine ⟨q1, q2, ?_⟩
  by_cases hba : b = a
  · subst hba
    cases hb.symm.trans ha
    rw [up_s]
    exact e
  · rw [up_n _ _ hba]
    exact q3.kept (o b hba)
theorem Rel.setr {D : va_G} {aC : Nat → ClassId} {B sz : Nat} {S : sS} {r : sR} {h : sH} {H H1 : Heap} (R : Rel D aC B sz S r h H) {a kd n : Nat} (ha : S a = some (kd, n)) (f : Int → Option Nat) (z : H1.size = H.size) (o : ∀ q : Nat, q ≠ a → H1[q]? = H[q]?) (e : cellAt D aC kd n f (h a) a H1) : Rel D aC B sz S (up r a f) h H1 := by
  refine ⟨by rw [z]; exact R.1, fun b kd2 n2 hb => ?_⟩
  obtain ⟨q1, q2, q3⟩ := R.2 b kd2 n2 hb
  refine ⟨q1, q2, ?_⟩
  by_cases hba : b = a
  · subst hba
    cases hb.symm.trans ha
    rw [up_s]
    exact e
  · rw [up_n _ _ hba]
    exact q3.kept (o b hba)
/-! ===== what the tables say, and the table of the signs' values ===== -/
def tysL (aC : Nat → ClassId) : List (ClassId × FieldType) := [(aC 20, .int), (aC 21, .byte), (aC 22, .boolean), (aC 23, .long), (aC 24, .object "MileLists$Name"), (aC 25, .object "MileLists$Numeral"), (aC 26, .object "MileLists$Route"), (aC 27, .object "MileLists$Find"), (aC 28, .object "MileLists$Readings"), (aC 29, .array .int)]
def svI (j : Int) : Int := if j = 1 then 1 else if j = 2 then 5 else if j = 3 then 10 else if j = 4 then 50 else 0
def nwM : List (String × Nat × MethodName) := [(RX11, 11, yX10_init), (RX11, 18, yX3_init), (RX11, 25, yX8_init), (RX11, 53, yX1_init), (RX0, 9, yX3_init), (RX2, 27, yX0_init), (RX5, 33, yX6_init), (RX7, 27, yX3_init), (RX7, 28, yX4_init)]
def nwF : List (String × Nat) := [(RX1, 36), (RX4, 29)]
def KK (D : va_G) (aC : Nat → ClassId) (B t : Nat) (U : State) : Prop :=
  va_K D vwCl (tysL aC) U ∧ va_Z "MileLists" "SIGN_VALUES" "[I" (.ref t) (fun q => B ≤ q) U U.heap ∧ va_T .int t 5 (fun j => .int (iI (svI j))) (fun q => B ≤ q) U U.heap ∧
  (∀ q ∈ nwM, va_Nw (.methodLinkNest q.1 q.2.1 q.2.2 "MileLists") U) ∧ (∀ q ∈ nwF, va_Nw (.fieldLinkNest q.1 q.2 "MileLists" "SIGN_VALUES" "[I" "MileLists") U) ∧ B ≤ U.heap.size
theorem KK.moved {D : va_G} {aC : Nat → ClassId} {B t : Nat} {s U : State} (h : KK D aC B t s) (hW : s.WarmedH U.vm) (z : s.heap.size ≤ U.heap.size) (o : ∀ q : Nat, q < s.heap.size → ¬ B ≤ q → U.heap[q]? = s.heap[q]?) : KK D aC B t U :=
  ⟨h.1.moved hW.alike, (h.2.1.moved hW.alike).kept o, (h.2.2.1.moved hW.alike).kept o, fun q hq => va_Nw.warmM hW (h.2.2.2.1 q hq), fun q hq => va_Nw.warmF hW (h.2.2.2.2.1 q hq), Nat.le_trans h.2.2.2.2.2 z⟩
/-! ===== the context of a walk ===== -/
abbrev CX : Type := Program × Launch × Env × Room × State × MethodId × Array Value × List Frame × Method × Code × (State → Prop) × va_G × (Nat → ClassId) × Nat × Nat
abbrev xp (X : CX) : Program := X.1
abbrev xl (X : CX) : Launch := X.2.1
abbrev xe (X : CX) : Env := X.2.2.1
abbrev xR (X : CX) : Room := X.2.2.2.1
abbrev xs (X : CX) : State := X.2.2.2.2.1
abbrev xm (X : CX) : MethodId := X.2.2.2.2.2.1
abbrev xa (X : CX) : Array Value := X.2.2.2.2.2.2.1
abbrev xb (X : CX) : List Frame := X.2.2.2.2.2.2.2.1
abbrev xh (X : CX) : Method := X.2.2.2.2.2.2.2.2.1
abbrev xc (X : CX) : Code := X.2.2.2.2.2.2.2.2.2.1
abbrev xQ (X : CX) : State → Prop := X.2.2.2.2.2.2.2.2.2.2.1
abbrev xD (X : CX) : va_G := X.2.2.2.2.2.2.2.2.2.2.2.1
abbrev xA (X : CX) : Nat → ClassId := X.2.2.2.2.2.2.2.2.2.2.2.2.1
abbrev xB (X : CX) : Nat := X.2.2.2.2.2.2.2.2.2.2.2.2.2.1
abbrev xt (X : CX) : Nat := X.2.2.2.2.2.2.2.2.2.2.2.2.2.2
def LV (ls : Array Slot) (lv : List (Option Value)) : Prop := ls.size = lv.length ∧ lv_wf ls ∧ ∀ (i : Nat) (v : Value), lv[i]? = some (some v) → ls[i]? = some (.val v)
def WX (X : CX) (k n : Nat) (H : Heap) (locs : List Loc) (g : JFrame) : Prop := W (xp X) (xl X) (xe X) (xR X) (xs X) (xm X) (xa X) (xb X) (xh X) (xc X) H locs k n (xQ X) g
def G (X : CX) (k n pc : Nat) (lv : List (Option Value)) (st : List Value) (sz : Nat) (S : sS) (r : sR) (h : sH) : Prop :=
  ∀ (ls : Array Slot) (H : Heap) (locs : List Loc), LV ls lv → Rel (xD X) (xA X) (xB X) sz S r h H → va_S (fun q => xB X ≤ q) (xs X).heap H locs → WX X k n H locs (F0 (xm X) pc ls st)
def Ok (X : CX) (cc : ByteArray) (own : String) (nL fr lo mc ms : Nat) : Prop :=
  (xp X).tables.exec = Jvm.exec ∧ (xc X).code = cc ∧ (xc X).maxLocals = nL ∧ (xs X).vm.findClass own = some (xm X).cls ∧ (∀ w ∈ UG, w.before (xa X) (xs X) = true) ∧ KK (xD X) (xA X) (xB X) (xt X) (xs X) ∧ (xR X).frames = fr ∧ (xR X).cells = mc ∧ (xR X).slots = ms ∧ (xR X).locals = lo
abbrev sP : Type := Option Value → Nat → sS → sR → sH → Prop
def QP (D : va_G) (aC : Nat → ClassId) (B : Nat) (P : sP) : Array Value → State → Outcome → State → Prop := fun _ st oc tt =>
  (∃ (v : Option Value) (sz : Nat) (S : sS) (r : sR) (h : sH), oc = .returned v ∧ P v sz S r h ∧ Rel D aC B sz S r h tt.heap) ∧ va_F (fun q => B ≤ q) st tt
def Rt (X : CX) (ret : Option FieldType) (mc ms : Nat) (P : sP) : Prop :=
  (xh X).locks = false ∧ (xh X).sig.returnType = ret ∧ xQ X = MQ (xb X) (QP (xD X) (xA X) (xB X) P) (xa X) (xs X) mc ms (fun q => xB X ≤ q)
/-- a method's contract: from the arguments av and the picture (sz, S, r, h) it returns, P holds of the answer and of the picture behind it -/
def Ct (l : Launch) (y : MethodName) (cc : ByteArray) (maxL : Nat) (ret : Option FieldType) (fr lo mc ms : Nat) (av : List Value) (D : va_G) (aC : Nat → ClassId) (B t sz : Nat) (S : sS) (r : sR) (h : sH) (P : sP) : Prop :=
  Met l y (Cond.code y cc maxL ret :: UG) ({ frames := fr, cells := mc, slots := ms, locals := lo } : Room) (va_Pc av (fun U => Rel D aC B sz S r h U.heap ∧ KK D aC B t U)) (QP D aC B P) mc ms (fun q => B ≤ q)
/-! ===== locals ===== -/
def vo (s : Slot) : Option Value := match s with
  | .val v => some v
  | _ => none
def elv (vs : List Value) (n : Nat) : List (Option Value) := (lg_sl vs ++ List.replicate (n - (lg_sl vs).length) Slot.unset).map vo
theorem LV.entry (vs : List Value) {n : Nat} (h : (lg_sl vs).length ≤ n) : LV ((lg_sl vs ++ List.replicate (n - (lg_sl vs).length) Slot.unset).toArray) (elv vs n) := by
  have e := lv_entry vs h
  refine ⟨by simp [elv], e.2.1, fun i v hv => ?_⟩
  unfold elv at hv
  rw [List.getElem?_map] at hv
  rw [List.getElem?_toArray]
  cases hx : (lg_sl vs ++ List.replicate (n - (lg_sl vs).length) Slot.unset)[i]? with
  | none => rw [hx] at hv; cases hv
  | some x =>
    rw [hx] at hv
    cases x with
    | val w => cases hv; rfl
    | second => cases hv
    | unset => cases hv
def lvA (lv : List (Option Value)) : List (Nat × Value) := (List.range lv.length).filterMap (fun j => match lv[j]? with
  | some (some w) => some (j, w)
  | _ => none)
theorem lvA_mem {lv : List (Option Value)} {q : Nat × Value} : q ∈ lvA lv ↔ lv[q.1]? = some (some q.2) := by
  unfold lvA
  rw [List.mem_filterMap]
  constructor
  · rintro ⟨j, -, hj⟩
    split at hj
    · rename_i w hw
      cases hj
      exact hw
    · cases hj
  · intro hq
    refine ⟨q.1, List.mem_range.mpr (List.getElem?_eq_some_iff.mp hq).1, ?_⟩
    rw [hq]
theorem LV.has {ls : Array Slot} {lv : List (Option Value)} (h : LV ls lv) : lv_has ls lv.length (lvA lv) := ⟨h.1, h.2.1, fun q hq => h.2.2 q.1 q.2 (lvA_mem.mp hq)⟩
def noL (o : Option Value) : Bool := match o with
  | some w => w.category != 2
  | none => true
def noP (lv : List (Option Value)) (i : Nat) : Bool := match i with
  | 0 => true
  | j + 1 => noL (lv.getD j none)
theorem LV.store1 {ls : Array Slot} {lv : List (Option Value)} {i : Nat} {v : Value} (h : LV ls lv) (hi : i < lv.length) (hc : v.category = 1) (hp : noP lv i = true) : ∃ ls', storeLocals ls i v = some ls' ∧ LV ls' (lv.set i (some v)) := by
  obtain ⟨ls', e, q1, q2, q3⟩ := lv_store1 h.has hi hc
  refine ⟨ls', e, by rw [List.length_set]; exact q1, q2, fun j w hj => ?_⟩
  by_cases hij : j = i
  · subst hij
    rw [List.getElem?_set_self hi] at hj
    cases hj
    exact q3 (j, v) List.mem_cons_self
  · rw [List.getElem?_set_ne (Ne.symm hij)] at hj
    refine q3 (j, w) (List.mem_cons_of_mem _ (List.mem_filter.mpr ⟨lvA_mem.mpr hj, ?_⟩))
    simp only [Bool.and_eq_true, Bool.not_eq_true', beq_eq_false_iff_ne, ne_eq, hij, not_false_eq_true, true_and, Bool.and_eq_false_iff]
    by_cases hji : j + 1 = i
    · right
      subst hji
      simp only [noP, List.getD, hj, Option.getD, noL] at hp
      simpa using hp
    · left; exact hji
theorem LV.store2 {ls : Array Slot} {lv : List (Option Value)} {i : Nat} {v : Value} (h : LV ls lv) (hi : i + 1 < lv.length) (hc : v.category = 2) (hp : noP lv i = true) : ∃ ls', storeLocals ls i v = some ls' ∧ LV ls' ((lv.set i (some v)).set (i + 1) none) := by
  obtain ⟨ls', e, q1, q2, q3⟩ := lv_store2 h.has hi hc
  refine ⟨ls', e, by rw [List.length_set, List.length_set]; exact q1, q2, fun j w hj => ?_⟩
  by_cases hi1 : j = i + 1
  · subst hi1
    rw [List.getElem?_set_self (by rw [List.length_set]; exact hi)] at hj
    cases hj
  · rw [List.getElem?_set_ne (Ne.symm hi1)] at hj
    by_cases hij : j = i
    · subst hij
      rw [List.getElem?_set_self (by omega)] at hj
      cases hj
      exact q3 (j, v) List.mem_cons_self
    · rw [List.getElem?_set_ne (Ne.symm hij)] at hj
      refine q3 (j, w) (List.mem_cons_of_mem _ (List.mem_filter.mpr ⟨lvA_mem.mpr hj, ?_⟩))
      simp only [Bool.and_eq_true, Bool.not_eq_true', beq_eq_false_iff_ne, ne_eq, hij, hi1, not_false_eq_true, true_and, Bool.and_eq_false_iff]
      by_cases hji : j + 1 = i
      · right
        subst hji
        simp only [noP, List.getD, hj, Option.getD, noL] at hp
        simpa using hp
      · left; exact hji
/-! ===== a contract out of a walk ===== -/
theorem Ct.of {l : Launch} {y : MethodName} {cc : ByteArray} {maxL : Nat} {ret : Option FieldType} {fr lo mc ms : Nat} {av : List Value} {D : va_G} {aC : Nat → ClassId} {B t sz : Nat} {S : sS} {r : sR} {h : sH} {P : sP} {lv : List (Option Value)}
    (hy : plainName y.cls = true) (hlv : elv av maxL = lv) (hlen : (lg_sl av).length ≤ maxL)
    (body : ∀ X : CX, xl X = l → Ok X cc y.cls maxL fr lo mc ms → Rt X ret mc ms P → (xh X).name = y.name → G X 0 0 0 lv [] sz S r h) : Ct l y cc maxL ret fr lo mc ms av D aC B t sz S r h P := by
  refine Met.ofW (cc := cc) (maxL := maxL) (ret := ret) hy rfl ?_
  intro p e s m args below meth c s₁ Bd hml hv
  obtain ⟨rfl, hRel, hKK⟩ := hv
  have hts := atoms_spec (ws := Cond.code y cc maxL ret :: UG) Bd.pre
  have g := body (p, l, e, (headSpec (Cond.code y cc maxL ret :: UG) ({ frames := fr, cells := mc, slots := ms, locals := lo } : Room)).room, s, m, av.toArray, below, meth, c, MQ below (QP D aC B P) av.toArray s mc ms (fun q => B ≤ q), D, aC, B, t) rfl
    ⟨Bd.exec, Bd.bytes, hml, findClass_of_methodNamed Bd.named, fun w hw => hts w (List.mem_cons_of_mem _ hw), hKK, rfl, rfl, rfl, rfl⟩ ⟨Bd.notSynchronized, Bd.returns, rfl⟩ (name_of_methodNamed Bd.named Bd.method).1
  have := g _ s.heap [] (by rw [← hlv]; exact LV.entry av hlen) hRel va_S.rf
  rw [lg_entry_eq]
  exact this
