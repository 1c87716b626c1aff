/-! ===== fields, arrays ===== -/
/-- the field k of class ci, by the pool entry idx of class own -/
def FC (C : String) (T : u_T) (N ci : Nat) : Prop := vwCl[ci]? = some (C, T, N) ∧ (∀ w ∈ u_ws C T N, w ∈ UG) ∧ (∀ j, j < N → parseFieldDescriptor (T j).2.2.1 = some (tyc ci j)) ∧ (∀ a, a < N → ∀ b, b < N → a ≠ b → (T a).2.1 ≠ (T b).2.1)
def FL (own : String) (idx ci k : Nat) (fin : Bool) : Prop := ∃ (C : String) (T : u_T) (N : Nat), FC C T N ci ∧ k < N ∧ (T k).2.2.2 = fin ∧ (T k).1 = C ∧ Cond.fieldLink own idx C (T k).2.1 (T k).2.2.1 ∈ UG
theorem fv_upi {ci k : Nat} {ra : Int → Option Nat} {ha : Int → Int} {z : Int} (hk : isRf (tyc ci k) = false) : ∀ j : Nat, updV (fun k => fv ci k ra ha) k (.int (iI z)) j = fv ci j ra (up ha (k : Int) z) := by
  intro j
  by_cases e : j = k
  · subst e
    simp [updV, fv, hk, up]
  · have : ¬ (j : Int) = (k : Int) := by omega
    simp [updV, fv, e, up, this]
theorem fv_upr {ci k : Nat} {ra : Int → Option Nat} {ha : Int → Int} {b : Option Nat} (hk : isRf (tyc ci k) = true) : ∀ j : Nat, updV (fun k => fv ci k ra ha) k (va_rf b) j = fv ci j (up ra (k : Int) b) ha := by
  intro j
  by_cases e : j = k
  · subst e
    simp [updV, fv, hk, up]
  · have : ¬ (j : Int) = (k : Int) := by omega
    simp [updV, fv, e, up, this]
section RH
variable {X : CX} {k n pc : Nat} {lv : List (Option Value)} {st : List Value} {sz : Nat} {S : sS} {r : sR} {h : sH} {cc : ByteArray} {own : String} {nL fr lo mc ms : Nat}
theorem g_get (q : Ok X cc own nL fr lo mc ms) {idx ci kf : Nat} {fin : Bool} (f : FL own idx ci kf fin) (hci : ci < 20) {a nn : Nat} (ha : S a = some (ci, nn)) {v : Value} (hv : fv ci kf (r a) (h a) = v) (hd : decode cc pc = .ok (.getfield idx, 3)) (kk : G X k n (pc + 3) lv (v :: st) sz S r h) : G X k n pc lv (.ref a :: st) sz S r h := by
  intro ls H locs a1 b1 c1
  obtain ⟨C, T, N, ⟨hc, hin, hty, hnm⟩, hk, hfin, hC, hl⟩ := f
  obtain ⟨q', hq', cell, q1, q2, q3, q4⟩ := ((b1.2 a ci nn ha).2.2).obj hci
  cases hq'.symm.trans hc
  obtain ⟨hS, hfc, kC, hkC, hkind⟩ := q.va.1 ci _ hc
  obtain ⟨cf, kf', fi, fd, hi, hsl⟩ := hS kf hk
  rw [hC] at hi
  refine W.getf q.exec q.byt q.ow (q.w hl) hi (u_facts hfc hkC (u_lays (ws := UG) (fun w h => q.w h) hin hk) (by rw [hC]; exact hi)).1 q1 (by rw [q3]; exact fun h => by cases h) (v := v) ?_ rfl rfl hd (kk ls H locs a1 b1 c1)
  rw [hsl, q4 kf hk]
  exact congrArg some hv
theorem r_geti (q : Ok X cc own nL fr lo mc ms) {idx ci kf : Nat} {kz : Int} {fin : Bool} (f : FL own idx ci kf fin) (ek : (kf : Int) = kz) (hci : ci < 20) (hk : isRf (tyc ci kf) = false) {a nn : Nat} (ha : S a = some (ci, nn)) (hd : decode cc pc = .ok (.getfield idx, 3)) (kk : G X k n (pc + 3) lv (.int (iI (h a kz)) :: st) sz S r h) : G X k n pc lv (.ref a :: st) sz S r h :=
  g_get q f hci ha (by simp [fv, hk, ek]) hd kk
theorem r_getr (q : Ok X cc own nL fr lo mc ms) {idx ci kf : Nat} {kz : Int} {fin : Bool} (f : FL own idx ci kf fin) (ek : (kf : Int) = kz) (hci : ci < 20) (hk : isRf (tyc ci kf) = true) {a nn b : Nat} (ha : S a = some (ci, nn)) (hb : r a kz = some b) (hd : decode cc pc = .ok (.getfield idx, 3)) (kk : G X k n (pc + 3) lv (.ref b :: st) sz S r h) : G X k n pc lv (.ref a :: st) sz S r h :=
  g_get q f hci ha (by simp [fv, hk, ek, hb, va_rf]) hd kk
theorem g_put (q : Ok X cc own nL fr lo mc ms) {idx ci kf : Nat} (f : FL own idx ci kf false) (hci : ci < 20) {a nn : Nat} (ha : S a = some (ci, nn)) {v : Value} (hn : narrow (tyc ci kf) v = v) (hfit : fits (tyc ci kf) v = true) (hd : decode cc pc = .ok (.putfield idx, 3))
    (kk : ∀ (ls : Array Slot) (H H1 : Heap) (locs : List Loc), LV ls lv → Rel (xD X) (xA X) (xB X) sz S r h H → H1.size = H.size → (∀ z : Nat, z ≠ a → H1[z]? = H[z]?) → (∀ q' : vw_C, vwCl[ci]? = some q' → t_OB a ((xD X).1 ci) q'.2.2 ((xD X).2 ci) H1 (updV (fun k => fv ci k (r a) (h a)) kf v)) → va_S (fun q => xB X ≤ q) (xs X).heap H1 locs → WX X k n H1 locs (F0 (xm X) (pc + 3) ls st)) : G X k n pc lv (v :: .ref a :: st) sz S r h := by
  intro ls H locs a1 b1 c1
  obtain ⟨C, T, N, ⟨hc, hin, hty, hnm⟩, hk, hfin, hC, hl⟩ := f
  have hts : ∀ w ∈ UG, w.before (xa X) (xs X) = true := fun w h => q.w h
  have hap := va_apart (own := own) hts hin (tyc ci) hty hnm q.va hc
  obtain ⟨hBa, hnn, hcell⟩ := b1.2 a ci nn ha
  obtain ⟨q', hq', cell, q1, q2, q3, q4⟩ := hcell.obj hci
  cases hq'.symm.trans hc
  obtain ⟨hS, hfc, kC, hkC, hkind⟩ := q.va.1 ci _ hc
  obtain ⟨cf, kf', fi, fd, hi, hsl⟩ := hS kf hk
  have hlay := hts _ (hin _ (u_in_lay hk))
  unfold u_lay at hlay
  rw [if_neg (by rw [hfin]; decide)] at hlay
  have hst := (u_facts hfc hkC (u_lays hts hin hk) hi).1
  have h6 := u_store hfc hkC hkind hlay hi (hty kf hk) hn hfit
  have hi' := hi
  rw [hC] at hi'
  refine W.putK q.exec q.byt (f := fd) ⟨q.ow, q.w hl, ⟨_, _, _, hi'⟩, hst⟩ (by rw [q2]; exact h6) q1 q3 (by rw [hsl]; exact k2_hasslot (q4 kf hk)) rfl rfl hd fun H' e1 e2 e3 => ?_
  rw [hsl] at e1 ⊢
  refine kk ls H H' _ a1 b1 e2 e3 (fun q'' hq'' => ?_) (c1.put e2 e3 hBa)
  cases hq''.symm.trans hc
  exact ⟨_, e1, q2, q3, t_set q4 hap hk v⟩
theorem g_putF (q : Ok X cc own nL fr lo mc ms) (hin2 : (xh X).name = "<init>") {idx ci kf : Nat} (f : FL own idx ci kf true) (hown : vwCl[ci]?.map (fun q => q.1) = some own) (hci : ci < 20) {a nn : Nat} (ha : S a = some (ci, nn)) {v : Value} (hn : narrow (tyc ci kf) v = v) (hfit : fits (tyc ci kf) v = true) (hd : decode cc pc = .ok (.putfield idx, 3))
    (kk : ∀ (ls : Array Slot) (H H1 : Heap) (locs : List Loc), LV ls lv → Rel (xD X) (xA X) (xB X) sz S r h H → H1.size = H.size → (∀ z : Nat, z ≠ a → H1[z]? = H[z]?) → (∀ q' : vw_C, vwCl[ci]? = some q' → t_OB a ((xD X).1 ci) q'.2.2 ((xD X).2 ci) H1 (updV (fun k => fv ci k (r a) (h a)) kf v)) → va_S (fun q => xB X ≤ q) (xs X).heap H1 locs → WX X k n H1 locs (F0 (xm X) (pc + 3) ls st)) : G X k n pc lv (v :: .ref a :: st) sz S r h := by
  intro ls H locs a1 b1 c1
  obtain ⟨C, T, N, ⟨hc, hin, hty, hnm⟩, hk, hfin, hC, hl⟩ := f
  rw [hc] at hown
  have hCo : C = own := Option.some.inj hown
  have hts : ∀ w ∈ UG, w.before (xa X) (xs X) = true := fun w h => q.w h
  have hap := va_apart (own := own) hts hin (tyc ci) hty hnm q.va hc
  obtain ⟨hBa, hnn, hcell⟩ := b1.2 a ci nn ha
  obtain ⟨q', hq', cell, q1, q2, q3, q4⟩ := hcell.obj hci
  cases hq'.symm.trans hc
  obtain ⟨hS, hfc, kC, hkC, hkind⟩ := q.va.1 ci _ hc
  obtain ⟨cf, kf', fi, fd, hi, hsl⟩ := hS kf hk
  have hlay := hts _ (hin _ (u_in_lay hk))
  unfold u_lay at hlay
  rw [if_pos hfin] at hlay
  have hst := (u_facts hfc hkC (u_lays hts hin hk) hi).1
  have hcf : (xm X).cls = cf := by
    obtain ⟨_, _, c', _, _, _, -, -, hf', -, -, -, hown2, -⟩ := Cond.laysFinal_spec hlay
    have e1 : c' = cf := by have := hi.symm.trans hf'; simp at this; exact this.1.symm
    rw [hC, hCo] at hown2
    rw [← e1]; exact Option.some.inj (q.ow.symm.trans hown2)
  have h6 := u_fits hfc hkC hkind (Or.inr hlay) hi (hty kf hk) hn hfit
  have hi' := hi
  rw [hC] at hi'
  refine W.putFinK q.exec q.byt q.ow (q.w hl) hi' hst hcf hin2 (by rw [q2]; exact h6) q1 q3 (by rw [hsl]; exact k2_hasslot (q4 kf hk)) rfl rfl hd fun H' e1 e2 e3 => ?_
  rw [hsl] at e1 ⊢
  refine kk ls H H' _ a1 b1 e2 e3 (fun q'' hq'' => ?_) (c1.put e2 e3 hBa)
  cases hq''.symm.trans hc
  exact ⟨_, e1, q2, q3, t_set q4 hap hk v⟩
theorem cellAt.mk {D : va_G} {aC : Nat → ClassId} {kd n a : Nat} {ra : Int → Option Nat} {ha : Int → Int} {H : Heap} {V : Nat → Value} (hk : kd < 20) (hq : kd < 13) (e : ∀ q : vw_C, vwCl[kd]? = some q → t_OB a (D.1 kd) q.2.2 (D.2 kd) H V) (hV : ∀ j, V j = fv kd j ra ha) : cellAt D aC kd n ra ha a H := by
  unfold cellAt
  rw [if_pos hk]
  have hl : kd < vwCl.length := hq
  exact ⟨vwCl[kd], List.getElem?_eq_getElem hl, (e _ (List.getElem?_eq_getElem hl)).to (fun j _ => hV j)⟩
/-- an int field (also a boolean one: 0 or 1) -/
theorem r_puti (q : Ok X cc own nL fr lo mc ms) {idx ci kf : Nat} {kz : Int} (f : FL own idx ci kf false) (ek : (kf : Int) = kz) (hci : ci < 13) (hk : tyc ci kf = .int) {a nn : Nat} (ha : S a = some (ci, nn)) {z : Int} (hd : decode cc pc = .ok (.putfield idx, 3))
    (kk : ∀ h1 : sH, h1 = up h a (up (h a) kz z) → G X k n (pc + 3) lv st sz S r h1) : G X k n pc lv (.int (iI z) :: .ref a :: st) sz S r h := by
  subst ek
  have hr : isRf (tyc ci kf) = false := by rw [hk]; rfl
  refine g_put q f (by omega) ha (by rw [hk]; rfl) (by rw [hk]; rfl) hd fun ls H H1 locs a1 b1 z1 o1 e1 s1 => ?_
  exact kk _ rfl ls H1 locs a1 (b1.seth ha _ z1 o1 (cellAt.mk (by omega) hci e1 (fv_upi hr))) s1
theorem r_putz (q : Ok X cc own nL fr lo mc ms) {idx ci kf : Nat} {kz : Int} (f : FL own idx ci kf false) (ek : (kf : Int) = kz) (hci : ci < 13) (hk : tyc ci kf = .boolean) {a nn : Nat} (ha : S a = some (ci, nn)) {z : Int} (hz : z = 0 ∨ z = 1) (hd : decode cc pc = .ok (.putfield idx, 3))
    (kk : ∀ h1 : sH, h1 = up h a (up (h a) kz z) → G X k n (pc + 3) lv st sz S r h1) : G X k n pc lv (.int (iI z) :: .ref a :: st) sz S r h := by
  subst ek
  have hr : isRf (tyc ci kf) = false := by rw [hk]; rfl
  refine g_put q f (by omega) ha (by rw [hk]; rcases hz with rfl | rfl <;> decide) (by rw [hk]; rcases hz with rfl | rfl <;> decide) hd fun ls H H1 locs a1 b1 z1 o1 e1 s1 => ?_
  exact kk _ rfl ls H1 locs a1 (b1.seth ha _ z1 o1 (cellAt.mk (by omega) hci e1 (fv_upi hr))) s1
/-- a final field of references, in the constructor -/
theorem r_putrF (q : Ok X cc own nL fr lo mc ms) (hin2 : (xh X).name = "<init>") {idx ci kf : Nat} {kz : Int} (f : FL own idx ci kf true) (ek : (kf : Int) = kz) (hown : vwCl[ci]?.map (fun q => q.1) = some own) (hci : ci < 13) (hk : isRf (tyc ci kf) = true) (hn : ∀ b, narrow (tyc ci kf) (.ref b) = .ref b) (hfit : ∀ b, fits (tyc ci kf) (.ref b) = true) {a nn b : Nat} (ha : S a = some (ci, nn)) (hd : decode cc pc = .ok (.putfield idx, 3))
    (kk : ∀ r1 : sR, r1 = up r a (up (r a) kz (some b)) → G X k n (pc + 3) lv st sz S r1 h) : G X k n pc lv (.ref b :: .ref a :: st) sz S r h := by
  subst ek
  refine g_putF q hin2 f hown (by omega) ha (hn b) (hfit b) hd fun ls H H1 locs a1 b1 z1 o1 e1 s1 => ?_
  exact kk _ rfl ls H1 locs a1 (b1.setr ha _ z1 o1 (cellAt.mk (by omega) hci e1 (fv_upr (b := some b) hk))) s1
/-! arrays -/
theorem av_upi {kd : Nat} {ra : Int → Option Nat} {ha : Int → Int} {j : Int} (h0 : 0 ≤ j) {z : Int} (h1 : kd < 23) : ∀ i : Nat, updV (fun i => av kd (ra i) (ha i)) j.toNat (.int (iI z)) i = av kd (ra i) (up ha j z i) := by
  intro i
  have h23 : ¬ kd = 23 := by omega
  have h24 : kd < 24 := by omega
  by_cases e : i = j.toNat
  · subst e
    have : ((j.toNat : Nat) : Int) = j := Int.toNat_of_nonneg h0
    simp [updV, av, h23, h24, up, this]
  · have : ¬ (i : Int) = j := by omega
    simp [updV, e, up, this]
theorem av_upl {ra : Int → Option Nat} {ha : Int → Int} {j : Int} (h0 : 0 ≤ j) {z : Int} : ∀ i : Nat, updV (fun i => av 23 (ra i) (ha i)) j.toNat (.long (lI z)) i = av 23 (ra i) (up ha j z i) := by
  intro i
  by_cases e : i = j.toNat
  · subst e
    have : ((j.toNat : Nat) : Int) = j := Int.toNat_of_nonneg h0
    simp [updV, av, up, this]
  · have : ¬ (i : Int) = j := by omega
    simp [updV, e, up, this]
theorem vinA {cA : ClassId} {nn : Nat} {V : Nat → Value} {j : Int} (h0 : 0 ≤ j) (h1 : j < nn) (hn : nn ≤ 2147483647) : ¬ (iI j < 0 ∨ (arrV cA nn V).slots.size ≤ (iI j).toNatClampNeg) := by
  rw [arrV_size]
  exact iI_vin h0 h1 (by omega)
theorem r_iald (q : Ok X cc own nL fr lo mc ms) {a nn : Nat} (ha : S a = some (20, nn)) {j : Int} (h0 : 0 ≤ j) (h1 : j < nn) (hd : decode cc pc = .ok (.iaload, 1)) (kk : G X k n (pc + 1) lv (.int (iI (h a j)) :: st) sz S r h) : G X k n pc lv (.int (iI j) :: .ref a :: st) sz S r h := by
  intro ls H locs a1 b1 c1
  obtain ⟨-, hn, hc⟩ := b1.2 a 20 nn ha
  have e := hc.arr (by decide)
  refine W.iald (v := .int (iI (h a j))) q.exec q.byt e ((q.va.2 0 _ rfl).1 nn _) (fun q => by cases q) (vinA h0 h1 hn) ?_ rfl rfl hd (kk ls H locs a1 b1 c1)
  rw [iI_clamp h0 (by omega), arrV_read _ _ (by omega), Int.toNat_of_nonneg h0]
  rfl
theorem r_bald (q : Ok X cc own nL fr lo mc ms) {a nn : Nat} (ha : S a = some (21, nn)) {j : Int} (h0 : 0 ≤ j) (h1 : j < nn) (hd : decode cc pc = .ok (.baload, 1)) (kk : G X k n (pc + 1) lv (.int (iI (h a j)) :: st) sz S r h) : G X k n pc lv (.int (iI j) :: .ref a :: st) sz S r h := by
  intro ls H locs a1 b1 c1
  obtain ⟨-, hn, hc⟩ := b1.2 a 21 nn ha
  have e := hc.arr (by decide)
  refine W.bald (v := .int (iI (h a j))) q.exec q.byt e ((q.va.2 1 _ rfl).1 nn _) (fun q => by cases q) (vinA h0 h1 hn) ?_ rfl rfl hd (kk ls H locs a1 b1 c1)
  rw [iI_clamp h0 (by omega), arrV_read _ _ (by omega), Int.toNat_of_nonneg h0]
  rfl
theorem r_zald (q : Ok X cc own nL fr lo mc ms) {a nn : Nat} (ha : S a = some (22, nn)) {j : Int} (h0 : 0 ≤ j) (h1 : j < nn) (hd : decode cc pc = .ok (.baload, 1)) (kk : G X k n (pc + 1) lv (.int (iI (h a j)) :: st) sz S r h) : G X k n pc lv (.int (iI j) :: .ref a :: st) sz S r h := by
  intro ls H locs a1 b1 c1
  obtain ⟨-, hn, hc⟩ := b1.2 a 22 nn ha
  have e := hc.arr (by decide)
  refine W.zald (v := .int (iI (h a j))) q.exec q.byt e ((q.va.2 2 _ rfl).1 nn _) (fun q => by cases q) (vinA h0 h1 hn) ?_ rfl rfl hd (kk ls H locs a1 b1 c1)
  rw [iI_clamp h0 (by omega), arrV_read _ _ (by omega), Int.toNat_of_nonneg h0]
  rfl
theorem r_lald (q : Ok X cc own nL fr lo mc ms) {a nn : Nat} (ha : S a = some (23, nn)) {j : Int} (h0 : 0 ≤ j) (h1 : j < nn) (hd : decode cc pc = .ok (.laload, 1)) (kk : G X k n (pc + 1) lv (.long (lI (h a j)) :: st) sz S r h) : G X k n pc lv (.int (iI j) :: .ref a :: st) sz S r h := by
  intro ls H locs a1 b1 c1
  obtain ⟨-, hn, hc⟩ := b1.2 a 23 nn ha
  have e := hc.arr (by decide)
  refine W.lald (v := .long (lI (h a j))) q.exec q.byt e ((q.va.2 3 _ rfl).1 nn _) (fun q => by cases q) (vinA h0 h1 hn) ?_ rfl rfl hd (kk ls H locs a1 b1 c1)
  rw [iI_clamp h0 (by omega), arrV_read _ _ (by omega), Int.toNat_of_nonneg h0]
  rfl
theorem g_aald (q : Ok X cc own nL fr lo mc ms) {kd t0 : Nat} {ty : FieldType} (ht : (tysL (xA X))[t0]? = some (xA X kd, ty)) (hrf : ty.isReference = true) (hk : 24 ≤ kd) {a nn b : Nat} (ha : S a = some (kd, nn)) {j : Int} (h0 : 0 ≤ j) (h1 : j < nn) (hb : r a j = some b) (hd : decode cc pc = .ok (.aaload, 1)) (kk : G X k n (pc + 1) lv (.ref b :: st) sz S r h) : G X k n pc lv (.int (iI j) :: .ref a :: st) sz S r h := by
  intro ls H locs a1 b1 c1
  obtain ⟨-, hn, hc⟩ := b1.2 a kd nn ha
  have e := hc.arr (by omega)
  refine W.aald (v := .ref b) (ty := ty) q.exec q.byt e ((q.va.2 t0 _ ht).1 nn _) hrf (fun q => by cases q) (vinA h0 h1 hn) ?_ rfl rfl hd (kk ls H locs a1 b1 c1)
  rw [iI_clamp h0 (by omega), arrV_read _ _ (by omega), Int.toNat_of_nonneg h0, hb]
  simp only [av, va_rf]
  rw [if_neg (by omega), if_neg (by omega)]
theorem r_aald24 (q : Ok X cc own nL fr lo mc ms) {a nn b : Nat} (ha : S a = some (24, nn)) {j : Int} (h0 : 0 ≤ j) (h1 : j < nn) (hb : r a j = some b) (hd : decode cc pc = .ok (.aaload, 1)) (kk : G X k n (pc + 1) lv (.ref b :: st) sz S r h) : G X k n pc lv (.int (iI j) :: .ref a :: st) sz S r h := g_aald q (t0 := 4) rfl rfl (by decide) ha h0 h1 hb hd kk
theorem r_aald25 (q : Ok X cc own nL fr lo mc ms) {a nn b : Nat} (ha : S a = some (25, nn)) {j : Int} (h0 : 0 ≤ j) (h1 : j < nn) (hb : r a j = some b) (hd : decode cc pc = .ok (.aaload, 1)) (kk : G X k n (pc + 1) lv (.ref b :: st) sz S r h) : G X k n pc lv (.int (iI j) :: .ref a :: st) sz S r h := g_aald q (t0 := 5) rfl rfl (by decide) ha h0 h1 hb hd kk
theorem r_aald26 (q : Ok X cc own nL fr lo mc ms) {a nn b : Nat} (ha : S a = some (26, nn)) {j : Int} (h0 : 0 ≤ j) (h1 : j < nn) (hb : r a j = some b) (hd : decode cc pc = .ok (.aaload, 1)) (kk : G X k n (pc + 1) lv (.ref b :: st) sz S r h) : G X k n pc lv (.int (iI j) :: .ref a :: st) sz S r h := g_aald q (t0 := 6) rfl rfl (by decide) ha h0 h1 hb hd kk
theorem r_aald27 (q : Ok X cc own nL fr lo mc ms) {a nn b : Nat} (ha : S a = some (27, nn)) {j : Int} (h0 : 0 ≤ j) (h1 : j < nn) (hb : r a j = some b) (hd : decode cc pc = .ok (.aaload, 1)) (kk : G X k n (pc + 1) lv (.ref b :: st) sz S r h) : G X k n pc lv (.int (iI j) :: .ref a :: st) sz S r h := g_aald q (t0 := 7) rfl rfl (by decide) ha h0 h1 hb hd kk
theorem r_aald28 (q : Ok X cc own nL fr lo mc ms) {a nn b : Nat} (ha : S a = some (28, nn)) {j : Int} (h0 : 0 ≤ j) (h1 : j < nn) (hb : r a j = some b) (hd : decode cc pc = .ok (.aaload, 1)) (kk : G X k n (pc + 1) lv (.ref b :: st) sz S r h) : G X k n pc lv (.int (iI j) :: .ref a :: st) sz S r h := g_aald q (t0 := 8) rfl rfl (by decide) ha h0 h1 hb hd kk
theorem r_aald29 (q : Ok X cc own nL fr lo mc ms) {a nn b : Nat} (ha : S a = some (29, nn)) {j : Int} (h0 : 0 ≤ j) (h1 : j < nn) (hb : r a j = some b) (hd : decode cc pc = .ok (.aaload, 1)) (kk : G X k n (pc + 1) lv (.ref b :: st) sz S r h) : G X k n pc lv (.int (iI j) :: .ref a :: st) sz S r h := g_aald q (t0 := 9) rfl rfl (by decide) ha h0 h1 hb hd kk
theorem cellAt.upa {D : va_G} {aC : Nat → ClassId} {kd n a : Nat} {ra : Int → Option Nat} {f : Int → Int} {H : Heap} {V : Nat → Value} {j : Nat} {v : Value} (hk : ¬ kd < 20) (e : H[a]? = some ((arrV (aC kd) n V).setSlot j v)) (hV : ∀ i : Nat, updV V j v i = av kd (ra i) (f i)) : cellAt D aC kd n ra f a H := by
  unfold cellAt
  rw [if_neg hk, e, arrV_store]
  exact congrArg (fun V => some (arrV (aC kd) n V)) (funext hV)
theorem r_iast (q : Ok X cc own nL fr lo mc ms) {a nn : Nat} (ha : S a = some (20, nn)) {j z : Int} (h0 : 0 ≤ j) (h1 : j < nn) (hd : decode cc pc = .ok (.iastore, 1)) (kk : ∀ h1 : sH, h1 = up h a (up (h a) j z) → G X k n (pc + 1) lv st sz S r h1) : G X k n pc lv (.int (iI z) :: .int (iI j) :: .ref a :: st) sz S r h := by
  intro ls H locs a1 b1 c1
  obtain ⟨hB, hn, hc⟩ := b1.2 a 20 nn ha
  have e := hc.arr (by decide)
  refine W.iast q.exec q.byt e ((q.va.2 0 _ rfl).1 nn _) (fun q => by cases q) (vinA h0 h1 hn) rfl rfl hd fun H1 e1 z1 o1 => ?_
  rw [iI_clamp h0 (by omega)] at e1
  exact kk _ rfl ls H1 _ a1 (b1.seth ha _ z1 o1 (cellAt.upa (by decide) e1 (av_upi h0 (by decide)))) (c1.put z1 o1 hB)
theorem nar_b {z : Int} (h0 : -128 ≤ z) (h1 : z ≤ 127) : narrow .byte (.int (iI z)) = .int (iI z) := by
  show Value.int (iI z).toInt8.toInt32 = _
  congr 1
  apply Int32.toInt_inj.mp
  rw [Int8.toInt_toInt32, Int32.toInt_toInt8, iI_toInt ⟨by omega, by omega⟩, Int.bmod_def]
  omega
theorem r_bast (q : Ok X cc own nL fr lo mc ms) {a nn : Nat} (ha : S a = some (21, nn)) {j z : Int} (h0 : 0 ≤ j) (h1 : j < nn) (z0 : -128 ≤ z) (z1 : z ≤ 127) (hd : decode cc pc = .ok (.bastore, 1)) (kk : ∀ h1 : sH, h1 = up h a (up (h a) j z) → G X k n (pc + 1) lv st sz S r h1) : G X k n pc lv (.int (iI z) :: .int (iI j) :: .ref a :: st) sz S r h := by
  intro ls H locs a1 b1 c1
  obtain ⟨hB, hn, hc⟩ := b1.2 a 21 nn ha
  have e := hc.arr (by decide)
  refine W.bast q.exec q.byt e ((q.va.2 1 _ rfl).1 nn _) (fun q => by cases q) (vinA h0 h1 hn) rfl rfl hd fun H1 e1 z1' o1 => ?_
  rw [iI_clamp h0 (by omega), nar_b z0 z1] at e1
  exact kk _ rfl ls H1 _ a1 (b1.seth ha _ z1' o1 (cellAt.upa (by decide) e1 (av_upi h0 (by decide)))) (c1.put z1' o1 hB)
theorem nar_z {z : Int} (hz : z = 0 ∨ z = 1) : narrow .boolean (.int (iI z)) = .int (iI z) := by rcases hz with rfl | rfl <;> decide
theorem r_zast (q : Ok X cc own nL fr lo mc ms) {a nn : Nat} (ha : S a = some (22, nn)) {j z : Int} (h0 : 0 ≤ j) (h1 : j < nn) (hz : z = 0 ∨ z = 1) (hd : decode cc pc = .ok (.bastore, 1)) (kk : ∀ h1 : sH, h1 = up h a (up (h a) j z) → G X k n (pc + 1) lv st sz S r h1) : G X k n pc lv (.int (iI z) :: .int (iI j) :: .ref a :: st) sz S r h := by
  intro ls H locs a1 b1 c1
  obtain ⟨hB, hn, hc⟩ := b1.2 a 22 nn ha
  have e := hc.arr (by decide)
  refine W.zast q.exec q.byt e ((q.va.2 2 _ rfl).1 nn _) (fun q => by cases q) (vinA h0 h1 hn) rfl rfl hd fun H1 e1 z1' o1 => ?_
  rw [iI_clamp h0 (by omega), nar_z hz] at e1
  exact kk _ rfl ls H1 _ a1 (b1.seth ha _ z1' o1 (cellAt.upa (by decide) e1 (av_upi h0 (by decide)))) (c1.put z1' o1 hB)
theorem r_last (q : Ok X cc own nL fr lo mc ms) {a nn : Nat} (ha : S a = some (23, nn)) {j z : Int} (h0 : 0 ≤ j) (h1 : j < nn) (hd : decode cc pc = .ok (.lastore, 1)) (kk : ∀ h1 : sH, h1 = up h a (up (h a) j z) → G X k n (pc + 1) lv st sz S r h1) : G X k n pc lv (.long (lI z) :: .int (iI j) :: .ref a :: st) sz S r h := by
  intro ls H locs a1 b1 c1
  obtain ⟨hB, hn, hc⟩ := b1.2 a 23 nn ha
  have e := hc.arr (by decide)
  refine W.last q.exec q.byt e ((q.va.2 3 _ rfl).1 nn _) (fun q => by cases q) (vinA h0 h1 hn) rfl rfl hd fun H1 e1 z1 o1 => ?_
  rw [iI_clamp h0 (by omega)] at e1
  exact kk _ rfl ls H1 _ a1 (b1.seth ha _ z1 o1 (cellAt.upa (by decide) e1 (av_upl h0))) (c1.put z1 o1 hB)
theorem g_alen (q : Ok X cc own nL fr lo mc ms) {kd t0 : Nat} {ty : FieldType} (ht : (tysL (xA X))[t0]? = some (xA X kd, ty)) (hk : 20 ≤ kd) {a nn : Nat} (ha : S a = some (kd, nn)) (hd : decode cc pc = .ok (.arraylength, 1)) (kk : G X k n (pc + 1) lv (.int (iI (nn : Int)) :: st) sz S r h) : G X k n pc lv (.ref a :: st) sz S r h := by
  intro ls H locs a1 b1 c1
  obtain ⟨-, hn, hc⟩ := b1.2 a kd nn ha
  have e := hc.arr (by omega)
  exact W.alen (n := iI (nn : Int)) q.exec q.byt e ((q.va.2 t0 _ ht).1 nn _) (by rw [arrV_size]; rfl) rfl rfl hd (kk ls H locs a1 b1 c1)
theorem r_alen20 (q : Ok X cc own nL fr lo mc ms) {a nn : Nat} (ha : S a = some (20, nn)) (hd : decode cc pc = .ok (.arraylength, 1)) (kk : G X k n (pc + 1) lv (.int (iI (nn : Int)) :: st) sz S r h) : G X k n pc lv (.ref a :: st) sz S r h := g_alen q (t0 := 0) rfl (by decide) ha hd kk
theorem r_alen23 (q : Ok X cc own nL fr lo mc ms) {a nn : Nat} (ha : S a = some (23, nn)) (hd : decode cc pc = .ok (.arraylength, 1)) (kk : G X k n (pc + 1) lv (.int (iI (nn : Int)) :: st) sz S r h) : G X k n pc lv (.ref a :: st) sz S r h := g_alen q (t0 := 3) rfl (by decide) ha hd kk
/-! the signs' values -/
theorem r_sv (q : Ok X cc own nL fr lo mc ms) {idx : Nat} (hl : Cond.fieldLink own idx "MileLists" "SIGN_VALUES" "[I" ∈ UG) (hd : decode cc pc = .ok (.getstatic idx, 3)) (kk : G X k n (pc + 3) lv (.ref (xt X) :: st) sz S r h) : G X k n pc lv st sz S r h := fun ls H locs a b c => va_gets q.exec q.byt q.kk.2.1 c q.ow (q.w hl) (fun _ h => h) hd (kk ls H locs a b c)
theorem r_svN (q : Ok X cc own nL fr lo mc ms) {idx : Nat} (hl : (own, idx) ∈ nwF) (hd : decode cc pc = .ok (.getstatic idx, 3)) (kk : G X k n (pc + 3) lv (.ref (xt X) :: st) sz S r h) : G X k n pc lv st sz S r h := fun ls H locs a b c => va_getsN (host := "MileLists") q.exec q.byt q.kk.2.1 c q.ow (va_Nw.use rfl (q.kk.2.2.2.2.1 _ hl)) (fun _ h => h) hd (kk ls H locs a b c)
theorem r_svld (q : Ok X cc own nL fr lo mc ms) {j : Int} (h0 : 0 ≤ j) (h1 : j < 5) (hd : decode cc pc = .ok (.iaload, 1)) (kk : G X k n (pc + 1) lv (.int (iI (svI j)) :: st) sz S r h) : G X k n pc lv (.int (iI j) :: .ref (xt X) :: st) sz S r h := fun ls H locs a b c => va_ti (v := .int (iI (svI j))) q.exec q.byt q.kk.2.2.1 c (iI_vin h0 h1 (by omega)) (by rw [iI_clamp h0 (by omega), Int.toNat_of_nonneg h0]) hd (kk ls H locs a b c)
theorem r_svlen (q : Ok X cc own nL fr lo mc ms) (hd : decode cc pc = .ok (.arraylength, 1)) (kk : G X k n (pc + 1) lv (.int (iI 5) :: st) sz S r h) : G X k n pc lv (.ref (xt X) :: st) sz S r h := fun ls H locs a b c => va_tlen (v := iI 5) q.exec q.byt q.kk.2.2.1 c rfl hd (kk ls H locs a b c)
end RH
