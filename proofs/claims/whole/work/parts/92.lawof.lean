/-! ===== the law's case of ===== -/
theorem lw_c_of {X : CX} {k n sz : Nat} {S : sS} {r : sR} {h : sH} {b L : Nat} {xv : Nat → Int32} {s1 s2 x : Nat} {i : Int} {l5 l6 : Option Value} (w : LwC X b L xv s1 s2) (hx : LX11 S r x) (hm : LX12 S r (x + 325)) (ho : S (x + 354) = some (23, 1)) (hrel : relX h x (x + 325)) (i0 : 0 ≤ i) (i6 : i + 6 ≤ L) (hk : k + 1 ≤ 601024) (hn : n + 6 ≤ 7293034) (nxt : nxL X k n b x i S r) : G X k n 837 [some (.ref b), some (.ref x), some (.ref (x + 325)), some (.ref (x + 354)), some (.int (iI i)), l5, l6] [] sz S r h := by
  obtain ⟨g, nn, u, un, rg, rn, sg, sn, hr⟩ := hrel
  have q := w.1
  have hI := hr.1
  refine r_aload_1 (pc := 837) q dL_law_837 ?_
  refine r_arg (pc := 838) w i0 (by decide) (by omega) dL_law_838 dL_law_839 dL_law_841 dL_law_842 dL_law_843 ?_
  refine r_arg (pc := 844) w i0 (by decide) (by omega) dL_law_844 dL_law_845 dL_law_847 dL_law_848 dL_law_849 ?_
  refine r_aload_3 (pc := 850) q dL_law_850 ?_
  obtain ⟨a1, ea1⟩ : ∃ a1 : Int, a1 = (xv (i + 1).toNat).toInt := ⟨_, rfl⟩
  obtain ⟨a2, ea2⟩ : ∃ a2 : Int, a2 = (xv (i + 2).toNat).toInt := ⟨_, rfl⟩
  have ia1 : inR a1 := by rw [ea1]; exact iI_in _
  have ia2 : inR a2 := by rw [ea2]; exact iI_in _
  rw [← ea1, ← ea2]
  refine r_Lof (pc := 851) (rm := ({ frames := 7, cells := 1, slots := 6, locals := 113 } : Room)) (As := [.ref x, .int (iI a1), .int (iI a2), .ref (x + 354)]) q w.2.2.1 (c_L_of w.2.2.2.1 hx ho hI ia1 ia2) rfl ⟨by decide, by decide, by omega, by omega⟩ (Nat.le_of_ble_eq_true rfl) rfl dL_law_851 (fun v sz1 S1 r1 h1 hP => ?_)
  obtain ⟨rfl, rfl, z, rfl, hz⟩ := hP
  refine r_istore_5 (pc := 854) q dL_law_854 rfl ?_
  have e1 : ∀ a : Nat, a < x + 325 + 29 → h1 a = h a := fun a ha => by
    rcases hz with ⟨-, -, e⟩ | ⟨-, -, e⟩
    · rw [e, up_n _ _ (show a ≠ x + 354 by omega)]
    · rw [e]
  have hr1 := rel_o hr (Nat.le_refl _) e1
  have hM1 := rel_md hr1
  refine r_aload_2 (pc := 856) q dL_law_856 ?_
  refine r_arg (pc := 857) w i0 (by decide) (by omega) dL_law_857 dL_law_858 dL_law_860 dL_law_861 dL_law_862 ?_
  refine r_arg (pc := 863) w i0 (by decide) (by omega) dL_law_863 dL_law_864 dL_law_866 dL_law_867 dL_law_868 ?_
  rw [← ea1, ← ea2]
  refine r_cI2 (pc := 869) q (c_X12_of hm ia1 ia2 hM1.2.2.1 hM1.2.2.2.1 hM1.2.2.2.2.1) mL_97 hm.o ⟨by decide, by decide, by omega, by omega⟩ (Nat.le_of_ble_eq_true rfl) rfl dL_law_869 (fun z2 h2 p2 => ?_)
  refine r_istore_6 (pc := 872) q dL_law_872 rfl ?_
  refine r_aload_2 (pc := 874) q dL_law_874 ?_
  refine r_cI0 (pc := 875) q (c_X12_thrown hm) mL_98 hm.o ⟨by decide, by decide, by omega, by omega⟩ (Nat.le_of_ble_eq_true rfl) rfl dL_law_875 (fun z3 h3 p3 => ?_)
  obtain ⟨p3a, rfl⟩ := p3
  refine r_iload_5 (pc := 878) q dL_law_878 ?_
  rcases hz with ⟨ok, rfl, e⟩ | ⟨nk, rfl, e⟩
  · have ok1 : okO h1 x a1 a2 := by
      obtain ⟨o0, o1, o2⟩ := ok
      have c4 := hI.2.1.2
      refine ⟨o0, by rw [e1 x (by omega)]; exact o1, ?_⟩
      rw [e1 _ (by omega)]
      exact o2
    rcases p2 with ⟨nk2, -⟩ | ⟨-, e2, ez2⟩
    · exact absurd ((okO_m hr1).mp ok1) nk2
    · have z30 : z3 = 0 := by rw [← p3a, e2]; exact pf_s _ _ _ _
      rw [z30]
      refine r_icmp_same (pc := 880) q 885 dL_law_880 (by decide) ?_
      refine r_iload_5 (pc := 885) q dL_law_885 ?_
      refine r_if_ne (pc := 887) q 902 dL_law_887 (by decide) ⟨by decide, by decide⟩ (fun c => absurd rfl c) (fun _ => ?_)
      refine r_aload_3 (pc := 890) q dL_law_890 ?_
      refine r_iconst (pc := 891) q dL_law_891 ?_
      refine r_lald (pc := 892) q ho (by decide) (by decide) dL_law_892 ?_
      have hv : h2 (x + 354) 0 = ofV h x nn u un a1 a2 := by rw [e2, pf_o _ _ _ (show x + 354 ≠ x + 325 by omega), e, up_s, up_s]
      have hv2 : z2 = ofV h x nn u un a1 a2 := by
        rw [ez2, ← same_of hr1 ok1]
        have c4 := hI.2.1.2
        have o1 := ok.2.1
        have o0 := ok.1
        unfold ofV
        rw [e1 _ (by omega)]
      have hin := ofV_in hI ok
      rw [hv, hv2]
      refine r_iload_6 (pc := 893) q dL_law_893 ?_
      refine r_i2l (pc := 895) q dL_law_895 ⟨by omega, by omega⟩ ?_
      refine r_lcmp (pc := 896) q dL_law_896 ⟨by omega, by omega⟩ ⟨by omega, by omega⟩ ?_
      have ec : cmpI (ofV h x nn u un a1 a2) (ofV h x nn u un a1 a2) = 0 := by unfold cmpI; rw [if_neg (by omega), if_pos rfl]
      rw [ec]
      refine r_if_eq (pc := 897) q 902 dL_law_897 (by decide) ⟨by decide, by decide⟩ (fun _ => ?_) (fun c => absurd rfl c)
      refine r_goto (pc := 902) (tgt := 979) q dL_law_902 (by decide) ?_
      exact nxt h2 _ _ _ (rel_th (Nat.le_refl _) hr1 e2).X
  · subst e
    rcases p2 with ⟨-, e2⟩ | ⟨ok2, -⟩
    · have z31 : z3 = 1 := by rw [← p3a, e2]; exact pf_s _ _ _ _
      rw [z31]
      refine r_icmp_same (pc := 880) q 885 dL_law_880 (by decide) ?_
      refine r_iload_5 (pc := 885) q dL_law_885 ?_
      refine r_if_ne (pc := 887) q 902 dL_law_887 (by decide) ⟨by decide, by decide⟩ (fun _ => ?_) (fun c => absurd c (by decide))
      refine r_goto (pc := 902) (tgt := 979) q dL_law_902 (by decide) ?_
      exact nxt h2 _ _ _ (rel_th (Nat.le_refl _) hr1 e2).X
    · exact absurd ((okO_m hr1).mpr ok2) nk
