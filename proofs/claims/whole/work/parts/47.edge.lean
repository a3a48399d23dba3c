/-! the class's board: changes of one line -/
theorem wayL_congr {on on' : Nat → Nat} (h : ∀ j, 1 ≤ j → j < 6 → on j < j) (e : ∀ j, j < 6 → on' j = on j) : ∀ (f j : Nat), j < 6 → wayL on' f j = wayL on f j
  | 0, _, _ => rfl
  | f + 1, j, hj => by
    unfold wayL
    by_cases z : j = 0
    · rw [if_pos z, if_pos z]
    · rw [if_neg z, if_neg z, e j hj, wayL_congr h e f (on j) (by have := h j (by omega) hj; omega)]
theorem RelB.ln {I J : pw_I} {b k0 : Nat} {S S' : Nat → Int32} (h : RelB I b S) (hI : InvB S) (hk0 : k0 < 16) (hJ : ∀ a, a ≠ b + 21 + k0 → J a = I a) (hS : ∀ i, (i < 5 ∨ 9 ≤ i) → (i < 166 + 13 * k0 ∨ 166 + 13 * k0 + 13 ≤ i ∨ i = 166 + 13 * k0 + 4 ∨ i = 166 + 13 * k0 + 11 ∨ i = 166 + 13 * k0 + 12) → S' i = S i) (hL0 : relL J b S' k0) (hY0 : J (b + 21 + k0) 12 = I (b + 21 + k0) 12 ∧ J (b + 21 + k0) 0 = I (b + 21 + k0) 0 := by constructor <;> simp (disch := omega) only [up_n, upd_n]) : RelB J b S' := by
  obtain ⟨⟨f1, f2, f3, f4, f5, f6, f7⟩, hN, hL, hV, hY, W, w1, w2, w3, w4, w5⟩ := h
  have v4 : vN S' 4 = vN S 4 := by unfold vN; rw [hS 4 (by omega) (by omega)]
  have v3 : vN S' 3 = vN S 3 := by unfold vN; rw [hS 3 (by omega) (by omega)]
  have v10 : vN S' 10 = vN S 10 := by unfold vN; rw [hS 10 (by omega) (by omega)]
  have hst : ∀ k, S' (166 + 13 * k + 4) = S (166 + 13 * k + 4) := fun k => hS _ (by omega) (by omega)
  have hdu : ∀ k, S' (166 + 13 * k + 11) = S (166 + 13 * k + 11) := fun k => hS _ (by omega) (by omega)
  have hdo : ∀ k, S' (166 + 13 * k + 12) = S (166 + 13 * k + 12) := fun k => hS _ (by omega) (by omega)
  refine ⟨⟨?_, ?_, ?_, ?_, ?_, ?_, ?_⟩, fun j hj => ?_, fun k hk => ?_, ?_, hY.to (fun k _ => ?_) (fun j _ => by rw [hJ _ (by omega)]) (hS 4 (by omega) (by omega)) (fun k hk => ?_), W, ?_, ?_, w3, ?_, ?_⟩
  · rw [hJ b (by omega), hS 3 (by omega) (by omega)]; exact f1
  · rw [hJ b (by omega), hS 4 (by omega) (by omega)]; exact f2
  · rw [hJ b (by omega), f3]
    unfold setF setF setF setF setF setF setF
    rw [hS (16 + 25 * 0 + 2) (by omega) (by omega), hS (16 + 25 * 1 + 2) (by omega) (by omega), hS (16 + 25 * 2 + 2) (by omega) (by omega), hS (16 + 25 * 3 + 2) (by omega) (by omega), hS (16 + 25 * 4 + 2) (by omega) (by omega), hS (16 + 25 * 5 + 2) (by omega) (by omega)]
  · rw [hJ b (by omega), hS 0 (by omega) (by omega)]; exact f4
  · rw [hJ b (by omega), hS 1 (by omega) (by omega)]; exact f5
  · rw [hJ b (by omega), hS 2 (by omega) (by omega)]; exact f6
  · rw [hJ b (by omega), hS 9 (by omega) (by omega)]; exact f7
  · obtain ⟨a1, a2, a3, a4, a5⟩ := hN j hj
    have ho : ∀ i, i < 6 → onS S' i = onS S i := fun i hi => by unfold onS vN; rw [hS (16 + 25 * i) (by omega) (by omega)]
    unfold relN
    rw [hJ (b + 2 + 3 * j) (by omega), hJ (b + 3 + 3 * j) (by omega), hJ (b + 4 + 3 * j) (by omega), hS (16 + 25 * j) (by omega) (by omega), hS (16 + 25 * j + 1) (by omega) (by omega), hS (16 + 25 * j + 3) (by omega) (by omega)]
    refine ⟨a1, a2, ?_, a4, fun i hi => ?_⟩
    · rw [a3]
      unfold wayF wayS
      rw [v3, wayL_congr hI.on ho (j + 1) j hj]
    · have hc2 : cntS S j ≤ 21 := (hI.2.2.2.1 j hj).2.2.2
      have hc3 : cntS S' j = cntS S j := by
        show (S' (16 + 25 * j + 3)).toNatClampNeg = (S (16 + 25 * j + 3)).toNatClampNeg
        rw [hS (16 + 25 * j + 3) (by omega) (by omega)]
      rw [hS (16 + 25 * j + 4 + i) (by omega) (by omega)]
      exact a5 i (by omega)
  · by_cases e : k = k0
    · rw [e]; exact hL0
    · have r := hL k hk
      unfold relL
      rw [hJ (b + 21 + k) (by omega), hst k, hdu k, hS (166 + 13 * k) (by omega) (by omega), hS (166 + 13 * k + 1) (by omega) (by omega), hS (166 + 13 * k + 2) (by omega) (by omega), hS (166 + 13 * k + 3) (by omega) (by omega), hS (166 + 13 * k + 5) (by omega) (by omega), hS (166 + 13 * k + 6) (by omega) (by omega), hS (166 + 13 * k + 7) (by omega) (by omega), hS (166 + 13 * k + 8) (by omega) (by omega), hS (166 + 13 * k + 9) (by omega) (by omega), hS (166 + 13 * k + 10) (by omega) (by omega)]
      exact r
  · unfold relS
    rw [hJ (b + 37) (by omega), hJ (b + 38) (by omega), hS 10 (by omega) (by omega), v10]
    have h10 := hI.2.2.1.2
    exact ⟨hV.1, fun i hi => (hV.2 i hi).trans (hS (11 + i) (by omega) (by omega)).symm⟩
  · by_cases e : k = k0
    · rw [e]; exact hY0.1
    · rw [hJ _ (by omega)]
  · by_cases e : k = k0
    · rw [e, ← hL0.1, ← (hL k0 hk0).1]; exact hY0.2
    · exact hS _ (by omega) (by omega)
  · rw [hJ (b + 39) (by omega)]; exact w1
  · rw [hJ (b + 40) (by omega)]; exact w2
  · intro k
    rw [v4, hst k]
    exact w4 k
  · refine w5.imp fun {a c} q => ?_
    unfold earlS
    rw [hdu a, hdu c, hdo a, hdo c]
    exact q
section EDG
variable {n base b : Nat} {sh : pw_Sh} {P : pw_P} {Ag : List Value} {I : pw_I} {S : Nat → Int32} {K : Option Value → pw_I → Prop}
def w_giveEdge (b : Nat) (S : Nat → Int32) : pw_Wp := fun Ag I K => match Ag with
  | [.ref o, .int x] => o = b ∧ InvB S ∧ RelB I b S ∧ (¬ okLine S x → K (some (.int (-1))) I) ∧ (∀ k, x = nI k → k < vN S 4 → ¬ S (166 + 13 * k + 2) = 0 → K (some (.int (-2))) I) ∧
    (∀ k, x = nI k → k < vN S 4 → S (166 + 13 * k + 2) = 0 → ∀ J, brdOK b I J → RelB J b (goEdgeS S k) → K (some (.int (if S (166 + 13 * k + 3) = 1 then 0 else 1))) J)
  | _ => False
set_option maxRecDepth 100000 in
set_option maxHeartbeats 4000000 in
theorem x_giveEdge (hM : pw_brd sh P b) (h : w_giveEdge b S Ag I K) : pw_ok mX0_giveEdge 1 base n sh P Ag I K := by
  unfold w_giveEdge at h
  split at h
  · rename_i o x
    obtain ⟨rfl, hI, hR, hA, hB, hC⟩ := h
    obtain ⟨b0, ⟨b1, b2⟩, bN, ⟨b3, b4⟩, bL, -⟩ := id hM
    obtain ⟨rF, rN, rL, -⟩ := id hR
    have h4 := hI.2.1
    have l4 : (S 4).toInt = (vN S 4 : Int) := (congrArg Int32.toInt h4.1).trans (ti_nI (by omega))
    refine pw_bd [_, _, _] pl_X0 c_ri rfl rfl ?_
    by_cases hx : okLine S x
    · obtain ⟨k, rfl, hk⟩ := tn16 (x := x) ⟨hx.1, by have := hx.2; omega⟩
      have ck : (nI k).toNatClampNeg = k := cl_nI (by omega)
      have hk4 : k < vN S 4 := by have := hx.2; rw [ti_nI (by omega), l4] at this; omega
      obtain ⟨l1, l2⟩ := bL k hk
      have r := rL k hk
      have hb := hI.2.2.2.2.2.1 k hk
      have hB := hB k rfl hk4
      have hC := hC k rfl hk4
      refine pw_go okX0_giveEdge (cc [(3, (w_hasLine o S))]) ⟨Nat.le_refl _, Nat.le_refl _⟩ (cc_c (fun Ag I K h => ⟨0, Nat.le_of_ble_eq_true rfl, x_hasLine hM h⟩) cc_n) (st0) 90 ?_
      simp only [↓f_vc_s, ↓vk_i, ↓cc_i, ↓reduceIte, f_vq_s, Bool.false_eq_true, ↓f_e_iconst, ↓f_e_bipush, ↓f_e_sipush, ↓f_e_ldc, ↓f_e_ldc_w, ↓f_e_iload_n, ↓f_e_iload, ↓f_e_aload_n, ↓f_e_aload, ↓f_e_istore_n, ↓f_e_istore, ↓f_e_astore_n, ↓f_e_astore, ↓f_e_iinc, ↓f_e_iadd, ↓f_e_isub, ↓f_e_imul, ↓f_e_iand, ↓f_e_ior, ↓f_e_ixor, ↓f_e_idiv, ↓f_e_irem, ↓f_e_ishl, ↓f_e_ishr, ↓f_e_iushr, ↓f_e_i2c, ↓f_e_dup, ↓f_e_dup2, ↓f_e_pop, ↓f_e_goto, ↓f_e_ifCond, ↓f_e_if_icmp, ↓f_e_tableswitch, ↓f_e_lookupswitch, ↓f_e_getfield_i, ↓f_e_getfield_r, ↓f_e_putfield_i, ↓f_e_putfield_z, ↓f_e_iaload, ↓f_e_caload, ↓f_e_aaload, ↓f_e_iastore, ↓f_e_castore, ↓f_e_arraylength, ↓f_e_invokestatic, ↓f_e_invokevirtual, ↓f_e_ireturn, ↓f_e_return_, ↓f_s_i_c, ↓f_s_r_c, ↓f_s_v_i, ↓f_s_v_r, ↓f_s_l_0, ↓s_l_1, ↓s_l_2, ↓s_l_3, ↓s_l_4, ↓s_l_5, ↓s_l_6, ↓s_a_0, ↓s_a_1, ↓s_a_2, ↓s_a_3, ↓s_m_0, ↓f_s_m_i, ↓f_s_m_r, ↓f_s_m_i7, ↓f_s_m_r7, ↓f_s_m_i6, ↓f_s_m_r6, ↓f_s_m_i5, ↓f_s_m_r5, ↓f_s_m_i4, ↓f_s_m_r4, ↓f_s_w_n, ↓f_s_w_c, ↓f_s_p_eq, ↓f_s_p_ne, ↓f_s_p_lt, ↓f_s_p_ge, ↓f_s_p_gt, ↓f_s_p_le, ↓nk_i, ↓nk_z, ↓nk_c, ↓rf_s, ↓ov_s, ↓ov_n, ↓fin0, ↓fin1, ↓fin2, ↓fin3, cond_true, cond_false, List.set_cons_zero, List.set_cons_succ, List.length_cons, List.length_nil, true_and, and_true, true_or, or_true, implies_true, forall_const, not_true_eq_false, not_false_eq_true, false_implies, Nat.reduceAdd, Nat.reduceLT, Nat.reduceBEq, Nat.reduceEqDiff, Bool.or_false, Bool.false_or, Bool.or_true, Bool.true_or, beq_self_eq_true, Nat.reduceLeDiff, Nat.reduceMul, Nat.reduceSub, eq_self, Nat.reduceBneDiff, st0_s, st1_s, st2_s, st3_s, reduceCtorEq, cc_0, tl_0, cl_0, il_0, tl_1, cl_1, il_1, tl_2, cl_2, il_2, tl_3, cl_3, il_3, tl_4, cl_4, il_4, tl_5, cl_5, il_5, tl_6, cl_6, il_6, tl_7, cl_7, il_7, tl_8, cl_8, il_8, tl_9, cl_9, il_9, tl_10, cl_10, il_10, tl_11, cl_11, il_11, tl_12, cl_12, il_12, tl_13, cl_13, il_13, tl_14, cl_14, il_14, tl_15, cl_15, il_15, tl_16, cl_16, il_16, tl_20, tl_21, tl_25, tl_32, tl_48, tl_50, tl_57, tl_58, tl_59, tl_60, tl_99, tl_100, tl_101, tl_108, tl_109, tl_116, tl_120, tl_126, tl_374, tl_1122, tl_50000, i10, i01, tl_m1, tl_m2, tl_m3, tl_m4, nr_X0_giveEdge, tX0_giveEdge_0, tX0_giveEdge_1, tX0_giveEdge_2, tX0_giveEdge_5, tX0_giveEdge_8, tX0_giveEdge_9, tX0_giveEdge_10, tX0_giveEdge_11, tX0_giveEdge_14, tX0_giveEdge_15, tX0_giveEdge_16, tX0_giveEdge_17, tX0_giveEdge_18, tX0_giveEdge_21, tX0_giveEdge_24, tX0_giveEdge_26, tX0_giveEdge_27, tX0_giveEdge_28, tX0_giveEdge_29, tX0_giveEdge_32, tX0_giveEdge_33, tX0_giveEdge_34, tX0_giveEdge_37, tX0_giveEdge_38, tX0_giveEdge_41, tX0_giveEdge_44, tX0_giveEdge_45, tX0_giveEdge_46, tX0_giveEdge_49, tX0_giveEdge_50, tX0_giveEdge_51, tX0_giveEdge_54, tX0_giveEdge_55, tX0_giveEdge_56, tX0_giveEdge_57, tX0_giveEdge_58, tX0_giveEdge_61, tX0_giveEdge_62, tX0_giveEdge_63, tX0_giveEdge_66, tX0_giveEdge_69, tX0_giveEdge_70, pw_QK_s, b0, b3, b4, ck, l1, l2, r.2.2.1, rF.2.2.2.1, ↓w_hasLine, rF.2.1]
      have hf := rF.2.2.2.1
      refine ⟨fun _ => ⟨in_nI hk (by omega), fun q => ⟨fun z => ?_, fun z => ?_⟩, hB⟩, fun q => absurd hx q⟩
      · rw [up_n (by omega), r.2.2.2.1] at z
        have hC := hC q
        rw [if_neg (by rw [z]; decide)] at hC
        refine hC _ (fun a h => ?_) (hR.ln hI hk (fun a h => ?_) (fun i h1 h2 => ?_) ?_)
        · rw [up_set, set_n (by omega), up_set, set_n (by omega), up_set, set_n (by omega)]
        · rw [up_set, set_n (by omega), up_set, set_n (by omega), up_set, set_n (by omega)]
        · unfold goEdgeS
          try dsimp only
          rw [if_neg (by rw [z]; decide), upd_n (by omega), upd_n (by omega), upd_n (by omega), upd_n (by omega)]
        · unfold goEdgeS relL
          try dsimp only
          rw [if_neg (by rw [z]; decide)]
          rw [show pw_up (pw_up I (o + 21 + k) 6 (I (o + 21 + k) 6 + 1)) (o + 21 + k) 3 1 o 5 = S 0 by rw [up_set, set_n (by omega), up_set, set_n (by omega)]; exact hf]
          refine ⟨?_, ?_, ?_, ?_, ?_, ?_, ?_, ?_, ?_, ?_, ?_, ?_⟩ <;> simp (disch := omega) only [up_n, up_r, upd_n, upd_s, r.1, r.2.1, r.2.2.1, r.2.2.2.1, r.2.2.2.2.1, r.2.2.2.2.2.1, r.2.2.2.2.2.2.1, r.2.2.2.2.2.2.2.1, r.2.2.2.2.2.2.2.2.1, r.2.2.2.2.2.2.2.2.2.1, r.2.2.2.2.2.2.2.2.2.2.1, r.2.2.2.2.2.2.2.2.2.2.2]
      · rw [up_n (by omega), r.2.2.2.1] at z
        have hC := hC q
        have z1 := hb.2.2.2.1.resolve_left z
        rw [if_pos z1] at hC
        refine hC _ (fun a h => ?_) (hR.ln hI hk (fun a h => ?_) (fun i h1 h2 => ?_) ?_)
        · rw [up_set, set_n (by omega), up_set, set_n (by omega)]
        · rw [up_set, set_n (by omega), up_set, set_n (by omega)]
        · unfold goEdgeS
          try dsimp only
          rw [if_pos z1, upd_n (by omega), upd_n (by omega), upd_n (by omega), upd_n (by omega)]
        · unfold goEdgeS relL
          try dsimp only
          rw [if_pos z1]
          refine ⟨?_, ?_, ?_, ?_, ?_, ?_, ?_, ?_, ?_, ?_, ?_, ?_⟩ <;> simp (disch := omega) only [up_n, up_r, upd_n, upd_s, r.1, r.2.1, r.2.2.1, r.2.2.2.1, r.2.2.2.2.1, r.2.2.2.2.2.1, r.2.2.2.2.2.2.1, r.2.2.2.2.2.2.2.1, r.2.2.2.2.2.2.2.2.1, r.2.2.2.2.2.2.2.2.2.1, r.2.2.2.2.2.2.2.2.2.2.1, r.2.2.2.2.2.2.2.2.2.2.2]
    · have hA := hA hx
      refine pw_go okX0_giveEdge (cc [(3, (w_hasLine o S))]) ⟨Nat.le_refl _, Nat.le_refl _⟩ (cc_c (fun Ag I K h => ⟨0, Nat.le_of_ble_eq_true rfl, x_hasLine hM h⟩) cc_n) (st1 10) 90 ?_
      simp only [↓f_vc_s, ↓vk_i, ↓cc_i, ↓reduceIte, f_vq_s, Bool.false_eq_true, ↓f_e_iconst, ↓f_e_bipush, ↓f_e_sipush, ↓f_e_ldc, ↓f_e_ldc_w, ↓f_e_iload_n, ↓f_e_iload, ↓f_e_aload_n, ↓f_e_aload, ↓f_e_istore_n, ↓f_e_istore, ↓f_e_astore_n, ↓f_e_astore, ↓f_e_iinc, ↓f_e_iadd, ↓f_e_isub, ↓f_e_imul, ↓f_e_iand, ↓f_e_ior, ↓f_e_ixor, ↓f_e_idiv, ↓f_e_irem, ↓f_e_ishl, ↓f_e_ishr, ↓f_e_iushr, ↓f_e_i2c, ↓f_e_dup, ↓f_e_dup2, ↓f_e_pop, ↓f_e_goto, ↓f_e_ifCond, ↓f_e_if_icmp, ↓f_e_tableswitch, ↓f_e_lookupswitch, ↓f_e_getfield_i, ↓f_e_getfield_r, ↓f_e_putfield_i, ↓f_e_putfield_z, ↓f_e_iaload, ↓f_e_caload, ↓f_e_aaload, ↓f_e_iastore, ↓f_e_castore, ↓f_e_arraylength, ↓f_e_invokestatic, ↓f_e_invokevirtual, ↓f_e_ireturn, ↓f_e_return_, ↓f_s_i_c, ↓f_s_r_c, ↓f_s_v_i, ↓f_s_v_r, ↓f_s_l_0, ↓s_l_1, ↓s_l_2, ↓s_l_3, ↓s_l_4, ↓s_l_5, ↓s_l_6, ↓s_a_0, ↓s_a_1, ↓s_a_2, ↓s_a_3, ↓s_m_0, ↓f_s_m_i, ↓f_s_m_r, ↓f_s_m_i7, ↓f_s_m_r7, ↓f_s_m_i6, ↓f_s_m_r6, ↓f_s_m_i5, ↓f_s_m_r5, ↓f_s_m_i4, ↓f_s_m_r4, ↓f_s_w_n, ↓f_s_w_c, ↓f_s_p_eq, ↓f_s_p_ne, ↓f_s_p_lt, ↓f_s_p_ge, ↓f_s_p_gt, ↓f_s_p_le, ↓nk_i, ↓nk_z, ↓nk_c, ↓rf_s, ↓ov_s, ↓ov_n, ↓fin0, ↓fin1, ↓fin2, ↓fin3, cond_true, cond_false, List.set_cons_zero, List.set_cons_succ, List.length_cons, List.length_nil, true_and, and_true, true_or, or_true, implies_true, forall_const, not_true_eq_false, not_false_eq_true, false_implies, Nat.reduceAdd, Nat.reduceLT, Nat.reduceBEq, Nat.reduceEqDiff, Bool.or_false, Bool.false_or, Bool.or_true, Bool.true_or, beq_self_eq_true, Nat.reduceLeDiff, Nat.reduceMul, Nat.reduceSub, eq_self, Nat.reduceBneDiff, st0_s, st1_s, st2_s, st3_s, reduceCtorEq, cc_0, tl_0, cl_0, il_0, tl_1, cl_1, il_1, tl_2, cl_2, il_2, tl_3, cl_3, il_3, tl_4, cl_4, il_4, tl_5, cl_5, il_5, tl_6, cl_6, il_6, tl_7, cl_7, il_7, tl_8, cl_8, il_8, tl_9, cl_9, il_9, tl_10, cl_10, il_10, tl_11, cl_11, il_11, tl_12, cl_12, il_12, tl_13, cl_13, il_13, tl_14, cl_14, il_14, tl_15, cl_15, il_15, tl_16, cl_16, il_16, tl_20, tl_21, tl_25, tl_32, tl_48, tl_50, tl_57, tl_58, tl_59, tl_60, tl_99, tl_100, tl_101, tl_108, tl_109, tl_116, tl_120, tl_126, tl_374, tl_1122, tl_50000, i10, i01, tl_m1, tl_m2, tl_m3, tl_m4, nr_X0_giveEdge, tX0_giveEdge_0, tX0_giveEdge_1, tX0_giveEdge_2, tX0_giveEdge_5, tX0_giveEdge_8, tX0_giveEdge_9, tX0_giveEdge_10, tX0_giveEdge_11, tX0_giveEdge_14, tX0_giveEdge_15, tX0_giveEdge_16, tX0_giveEdge_17, tX0_giveEdge_18, tX0_giveEdge_21, tX0_giveEdge_24, tX0_giveEdge_26, tX0_giveEdge_27, tX0_giveEdge_28, tX0_giveEdge_29, tX0_giveEdge_32, tX0_giveEdge_33, tX0_giveEdge_34, tX0_giveEdge_37, tX0_giveEdge_38, tX0_giveEdge_41, tX0_giveEdge_44, tX0_giveEdge_45, tX0_giveEdge_46, tX0_giveEdge_49, tX0_giveEdge_50, tX0_giveEdge_51, tX0_giveEdge_54, tX0_giveEdge_55, tX0_giveEdge_56, tX0_giveEdge_57, tX0_giveEdge_58, tX0_giveEdge_61, tX0_giveEdge_62, tX0_giveEdge_63, tX0_giveEdge_66, tX0_giveEdge_69, tX0_giveEdge_70, pw_QK_s, b0, ↓w_hasLine, rF.2.1]
      exact ⟨fun q => absurd q hx, fun _ => hA⟩
  · exact h.elim
end EDG
