/-! ===== new int[N][K] ===== -/
theorem vr_outer (c : ClassId) (N h0 : Nat) : ∀ i : Nat, Jvm.Free.Multi.outerC c N h0 i = arrV c N (fun j => va_rf (if j < i then some (h0 + 1 + j) else none))
  | 0 => by
    show ({ cls := c, slots := Array.replicate N .null, vm := .none } : Cell) = _
    rw [arrV_new]
    refine congrArg (arrV c N) (funext fun j => ?_)
    simp [va_rf]
  | i + 1 => by
    show (Jvm.Free.Multi.outerC c N h0 i).setSlot i (.ref (h0 + 1 + i)) = _
    rw [vr_outer c N h0 i, arrV_store]
    refine congrArg (arrV c N) (funext fun j => ?_)
    by_cases e : j = i
    · subst e
      simp [updV, va_rf]
    · by_cases h : j < i
      · simp [updV, e, h, Nat.lt_succ_of_lt h]
      · simp [updV, e, h, show ¬ j < i + 1 by omega]
section RM
variable {X : CX} {k n pc : Nat} {lv : List (Option Value)} {st : List Value} {sz : Nat} {S : sS} {r : sR} {h : sH} {cc : ByteArray} {own : String} {nL fr lo mc ms : Nat}
theorem nn_iI {z : Int} (z0 : 0 ≤ z) (z1 : z ≤ 100000) : ¬ iI z < 0 := by
  intro e
  rw [← iI_0] at e
  have := (iI_lt ⟨by omega, by omega⟩ inR_0).mp e
  omega
theorem r_mna (q : Ok X cc own nL fr lo mc ms) (ao : AO (xs X)) {idx N K : Nat} (hl : Cond.classLink own idx "[[I" ∈ UG) {z w : Int} (z0 : 0 ≤ z) (hN : z.toNat = N) (hz : z ≤ 10000) (w0 : 0 ≤ w) (hK : w.toNat = K) (hw : w ≤ 10000) (hrm : k + (1 + N) ≤ mc ∧ n + (N + N * K) ≤ ms) (hd : decode cc pc = .ok (.multianewarray idx 2, 4))
    (kk : ∀ (S1 : sS) (r1 : sR) (h1 : sH), (∀ b : Nat, b < sz → S1 b = S b ∧ r1 b = r b ∧ h1 b = h b) → S1 sz = some (29, N) → (∀ j : Int, 0 ≤ j → j < N → r1 sz j = some (sz + 1 + j.toNat) ∧ S1 (sz + 1 + j.toNat) = some (20, K)) → G X (k + 1 + N) (n + N + N * K) (pc + 4) lv (.ref sz :: st) (sz + 1 + N) S1 r1 h1) : G X k n pc lv (.int (iI w) :: .int (iI z) :: st) sz S r h := by
  intro ls H locs a1 b1 c1
  have cN : (iI z).toNatClampNeg = N := by rw [iI_clamp z0 (by omega)]; exact hN
  have cK : (iI w).toNatClampNeg = K := by rw [iI_clamp w0 (by omega)]; exact hK
  intro T hT Xs
  obtain ⟨vm₁, cA, comp, -, fA, fC, hO, -, X', step⟩ := Xs.multianewarray2F (ty := .int) q.exec q.ow (q.w hl) ao.2.2.2.2.2 (q.w wa_int) (g := F0 (xm X) pc ls (.int (iI w) :: .int (iI z) :: st)) rfl (by rw [q.byt]; exact hd) rfl (nn_iI z0 (by omega)) (nn_iI w0 (by omega)) (by rw [cN]; omega) (by rw [cK]; show K * 4 ≤ _; omega) (by rw [cK]; omega) rfl rfl (by rw [cN, q.2.2.2.2.2.2.2.1]; exact hrm.1) (by rw [cN, cK, q.2.2.2.2.2.2.2.2.1]; exact hrm.2)
  rw [cN, cK] at X' step
  have eA : cA = xA X 29 := Option.some.inj (fA.symm.trans (q.va.2 9 _ rfl).2)
  have eC : comp = xA X 20 := Option.some.inj (fC.symm.trans (q.va.2 0 _ rfl).2)
  subst eA
  subst eC
  generalize hF : Jvm.Free.Multi.fill (T.setVm vm₁) (xA X 29) (xA X 20) N K (defaultValue .int) N = F at X' step
  have hTh : (T.setVm vm₁).heap = H := hT
  have hs := b1.1
  obtain ⟨f1, f2, -, -⟩ := Jvm.Free.Multi.fill_facts (T.setVm vm₁) (xA X 29) (xA X 20) N K (defaultValue .int) N
  rw [hF, hTh, hs] at f1 f2
  have hold : ∀ x : Nat, x < sz → F.heap[x]? = H[x]? := fun x hx => by
    have := Jvm.Free.Multi.fill_old (T.setVm vm₁) (xA X 29) (xA X 20) N K (defaultValue .int) (a := x) (by rw [hTh, hs]; exact hx) N
    rw [hF, hTh] at this
    exact this
  have hrow : ∀ j : Nat, j < N → F.heap[sz + 1 + j]? = some (arrV (xA X 20) K (fun _ => .int (iI 0))) := fun j hj => by
    have := Jvm.Free.Multi.fill_inner (T.setVm vm₁) (xA X 29) (xA X 20) N K (defaultValue .int) N j hj
    rw [hF, hTh, hs] at this
    rw [this]
    show some ({ cls := xA X 20, slots := Array.replicate K (.int 0), vm := .none } : Cell) = _
    rw [arrV_new]
    rfl
  rw [vr_outer] at f2
  obtain ⟨S1, eS⟩ : ∃ S1 : sS, S1 = fun a => if a < sz then S a else if a = sz then some (29, N) else if a < sz + 1 + N then some (20, K) else none := ⟨_, rfl⟩
  obtain ⟨r1, er⟩ : ∃ r1 : sR, r1 = fun a => if a < sz then r a else fun j => if j < N then some (sz + 1 + j.toNat) else none := ⟨_, rfl⟩
  obtain ⟨h1, eh⟩ : ∃ h1 : sH, h1 = fun a => if a < sz then h a else fun _ => 0 := ⟨_, rfl⟩
  have k1 : ∀ b : Nat, b < sz → S1 b = S b ∧ r1 b = r b ∧ h1 b = h b := fun b hb => by rw [eS, er, eh]; exact ⟨if_pos hb, if_pos hb, if_pos hb⟩
  have k2 : S1 sz = some (29, N) := by rw [eS]; show (if sz < sz then S sz else if sz = sz then some (29, N) else _) = _; rw [if_neg (by omega), if_pos rfl]
  have k3 : ∀ j : Nat, j < N → S1 (sz + 1 + j) = some (20, K) := fun j hj => by rw [eS]; show (if sz + 1 + j < sz then S (sz + 1 + j) else if sz + 1 + j = sz then some (29, N) else if sz + 1 + j < sz + 1 + N then some (20, K) else none) = _; rw [if_neg (by omega), if_neg (by omega), if_pos (by omega)]
  have k4 : ∀ j : Int, r1 sz j = if j < N then some (sz + 1 + j.toNat) else none := fun j => by rw [er]; show (if sz < sz then r sz else fun j : Int => if j < N then some (sz + 1 + j.toNat) else none) j = _; rw [if_neg (by omega)]
  have k5 : ∀ a : Nat, ¬ a < sz → ∀ j, h1 a j = 0 := fun a ha j => by rw [eh]; show (if a < sz then h a else fun _ => 0) j = 0; rw [if_neg ha]
  have hR : Rel (xD X) (xA X) (xB X) (sz + 1 + N) S1 r1 h1 F.heap := by
    have hB := q.bz b1 c1
    refine ⟨f1, fun b kd n2 hb => ?_⟩
    by_cases e1 : b < sz
    · obtain ⟨y1, y2, y3⟩ := k1 b e1
      rw [y1] at hb
      rw [y2, y3]
      obtain ⟨q1, q2, q3⟩ := b1.2 b kd n2 hb
      exact ⟨q1, q2, q3.kept (hold b e1)⟩
    · by_cases e2 : b = sz
      · subst e2
        rw [k2] at hb
        cases hb
        refine ⟨hB, by omega, ?_⟩
        unfold cellAt
        rw [if_neg (by decide), f2]
        refine congrArg (fun V => some (arrV (xA X 29) N V)) (funext fun j => ?_)
        rw [k4]
        show va_rf _ = va_rf _
        congr 1
        by_cases e3 : j < N
        · rw [if_pos e3, if_pos (by omega)]; rfl
        · rw [if_neg e3, if_neg (by omega)]
      · by_cases e3 : b < sz + 1 + N
        · obtain ⟨j, rfl⟩ : ∃ j : Nat, b = sz + 1 + j := ⟨b - (sz + 1), by omega⟩
          rw [k3 j (by omega)] at hb
          cases hb
          refine ⟨by omega, by omega, ?_⟩
          unfold cellAt
          rw [if_neg (by decide), hrow j (by omega)]
          refine congrArg (fun V => some (arrV (xA X 20) K V)) (funext fun j => ?_)
          rw [k5 _ e1]
          rfl
        · exfalso
          rw [eS] at hb
          have : (if b < sz then S b else if b = sz then some (29, N) else if b < sz + 1 + N then some (20, K) else none) = some (kd, n2) := hb
          rw [if_neg e1, if_neg e2, if_neg e3] at this
          cases this
  obtain ⟨t, g1, g2⟩ := kk S1 r1 h1 k1 k2 (fun j j0 j1 => ⟨by rw [k4, if_pos j1], k3 j.toNat (by omega)⟩) ls F.heap locs a1 hR (S_push c1 hs (by rw [f1]; omega) hold) F rfl X'
  refine ⟨t, step t ?_, g2⟩
  have e : T.heap.size = sz := by rw [hT, hs]
  rw [e]
  exact g1
end RM
