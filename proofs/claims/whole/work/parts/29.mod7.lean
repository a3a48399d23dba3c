/-! the reference: calls of events, what is told -/
section MOD7
variable {n base m : Nat} {sh : pw_Sh} {P : pw_P} {Ag : List Value} {I : pw_I} {K : Option Value → pw_I → Prop}
def w_tick7 (m : Nat) : pw_Wp := fun Ag I K => match Ag with
  | [.ref o, .int x] => o = m ∧ InvB (I (m + 1)) ∧ UndoOK m I ∧ (¬ (1 ≤ x.toInt ∧ x.toInt ≤ 99) → K (some (.int (-1))) I) ∧ (1 ≤ x.toInt ∧ x.toInt ≤ 99 → 50000 < (I (m + 1) 0).toInt + x.toInt → K (some (.int (-3))) I) ∧
    (1 ≤ x.toInt ∧ x.toInt ≤ 99 → ¬ 50000 < (I (m + 1) 0).toInt + x.toInt → K (some (.int (tickC x.toNatClampNeg (I (m + 1))))) (pw_set (recI m I) (m + 1) (goTicksS (I (m + 1)) x.toNatClampNeg)))
  | _ => False
theorem InvB.t0 {S : Nat → Int32} (h : InvB S) : 0 ≤ (S 0).toInt ∧ (S 0).toInt ≤ 50000 := h.2.2.2.2.2.2.2.1
set_option maxRecDepth 100000 in
set_option maxHeartbeats 4000000 in
theorem x_tick7 (hM : pw_mod sh P m) (h : w_tick7 m Ag I K) : pw_ok mX7_tick 2 base n sh P Ag I K := by
  unfold w_tick7 at h
  split at h
  · rename_i o x
    obtain ⟨rfl, hI, hu, hA, hB, hC⟩ := h
    obtain ⟨h1, ⟨h2, h3⟩, -⟩ := id hM
    have ht := hI.t0
    refine pw_bd [_, _] pl_X7 c_ri rfl rfl ?_
    refine pw_go okX7_tick (cc [(94, w_in), (95, (w_record o)), (131, (w_goTicks o))]) ⟨Nat.le_refl _, Nat.le_refl _⟩ (cc_c (fun Ag I K h => ⟨0, Nat.le_of_ble_eq_true rfl, x_in h⟩) (cc_c (fun Ag I K h => ⟨0, Nat.le_of_ble_eq_true rfl, x_record hM h⟩) (cc_c (fun Ag I K h => ⟨1, Nat.le_of_ble_eq_true rfl, x_goTicks hM h⟩) cc_n))) (st0) 120 ?_
    simp only [↓f_vc_s, ↓vk_i, ↓cc_i, ↓reduceIte, f_vq_s, Bool.false_eq_true, ↓f_e_iconst, ↓f_e_bipush, ↓f_e_sipush, ↓f_e_ldc, ↓f_e_ldc_w, ↓f_e_iload_n, ↓f_e_iload, ↓f_e_aload_n, ↓f_e_aload, ↓f_e_istore_n, ↓f_e_istore, ↓f_e_astore_n, ↓f_e_astore, ↓f_e_iinc, ↓f_e_iadd, ↓f_e_isub, ↓f_e_imul, ↓f_e_iand, ↓f_e_ior, ↓f_e_ixor, ↓f_e_idiv, ↓f_e_irem, ↓f_e_ishl, ↓f_e_ishr, ↓f_e_iushr, ↓f_e_i2c, ↓f_e_dup, ↓f_e_dup2, ↓f_e_pop, ↓f_e_goto, ↓f_e_ifCond, ↓f_e_if_icmp, ↓f_e_tableswitch, ↓f_e_lookupswitch, ↓f_e_getfield_i, ↓f_e_getfield_r, ↓f_e_putfield_i, ↓f_e_putfield_z, ↓f_e_iaload, ↓f_e_caload, ↓f_e_aaload, ↓f_e_iastore, ↓f_e_castore, ↓f_e_arraylength, ↓f_e_invokestatic, ↓f_e_invokevirtual, ↓f_e_ireturn, ↓f_e_return_, ↓f_s_i_c, ↓f_s_r_c, ↓f_s_v_i, ↓f_s_v_r, ↓f_s_l_0, ↓s_l_1, ↓s_l_2, ↓s_l_3, ↓s_l_4, ↓s_l_5, ↓s_l_6, ↓s_a_0, ↓s_a_1, ↓s_a_2, ↓s_a_3, ↓s_m_0, ↓f_s_m_i, ↓f_s_m_r, ↓f_s_m_i7, ↓f_s_m_r7, ↓f_s_m_i6, ↓f_s_m_r6, ↓f_s_m_i5, ↓f_s_m_r5, ↓f_s_m_i4, ↓f_s_m_r4, ↓f_s_w_n, ↓f_s_w_c, ↓f_s_p_eq, ↓f_s_p_ne, ↓f_s_p_lt, ↓f_s_p_ge, ↓f_s_p_gt, ↓f_s_p_le, ↓nk_i, ↓nk_z, ↓nk_c, ↓rf_s, ↓ov_s, ↓ov_n, ↓fin0, ↓fin1, ↓fin2, ↓fin3, cond_true, cond_false, List.set_cons_zero, List.set_cons_succ, List.length_cons, List.length_nil, true_and, and_true, true_or, or_true, implies_true, forall_const, not_true_eq_false, not_false_eq_true, false_implies, Nat.reduceAdd, Nat.reduceLT, Nat.reduceBEq, Nat.reduceEqDiff, Bool.or_false, Bool.false_or, Bool.or_true, Bool.true_or, beq_self_eq_true, Nat.reduceLeDiff, Nat.reduceMul, Nat.reduceSub, eq_self, Nat.reduceBneDiff, st0_s, st1_s, st2_s, st3_s, reduceCtorEq, cc_0, tl_0, cl_0, il_0, tl_1, cl_1, il_1, tl_2, cl_2, il_2, tl_3, cl_3, il_3, tl_4, cl_4, il_4, tl_5, cl_5, il_5, tl_6, cl_6, il_6, tl_7, cl_7, il_7, tl_8, cl_8, il_8, tl_9, cl_9, il_9, tl_10, cl_10, il_10, tl_11, cl_11, il_11, tl_12, cl_12, il_12, tl_13, cl_13, il_13, tl_14, cl_14, il_14, tl_15, cl_15, il_15, tl_16, cl_16, il_16, tl_20, tl_21, tl_25, tl_32, tl_48, tl_50, tl_57, tl_58, tl_59, tl_60, tl_99, tl_100, tl_101, tl_108, tl_109, tl_116, tl_120, tl_126, tl_374, tl_1122, tl_50000, i10, i01, tl_m1, tl_m2, tl_m3, tl_m4, nr_X7_tick, tX7_tick_0, tX7_tick_1, tX7_tick_2, tX7_tick_4, tX7_tick_7, tX7_tick_10, tX7_tick_11, tX7_tick_12, tX7_tick_13, tX7_tick_16, tX7_tick_17, tX7_tick_18, tX7_tick_19, tX7_tick_20, tX7_tick_22, tX7_tick_25, tX7_tick_27, tX7_tick_28, tX7_tick_29, tX7_tick_32, tX7_tick_33, tX7_tick_34, tX7_tick_37, pw_QK_s, h1, h2, h3, ↓w_in, ↓w_record, ↓w_goTicks, ti_le]
    refine ⟨fun q => ?_, fun q => hA q⟩
    rw [ti_add (by omega) (by omega), rec_S]
    refine ⟨fun q2 => ⟨hu, hI.2.1, by omega, hC q (by omega)⟩, fun q2 => hB q (by omega)⟩
  · exact h.elim
def w_take7 (m : Nat) : pw_Wp := fun Ag I K => match Ag with
  | [.ref o] => o = m ∧ InvB (I (m + 1)) ∧ InvT (I (m + 1)) ∧ OrdOK (I (m + 1)) ∧ UndoOK m I ∧ (vN (I (m + 1)) 10 = 4 → K (some (.int (-3))) I) ∧ (vN (I (m + 1)) 10 < 4 → nextS (I (m + 1)) = none → ∀ J, scrOK m I J → K (some (.int (-4))) J) ∧
    (∀ k, vN (I (m + 1)) 10 < 4 → nextS (I (m + 1)) = some k → InvB (goTake1 (I (m + 1)) k) ∧ turnOK (wayS (goTake1 (I (m + 1)) k) (vN (goTake1 (I (m + 1)) k) (166 + 13 * k))) (goTake1 (I (m + 1)) k) (nI k) ∧
      ∀ J, scrOK m I J → K (some (.int (nI k))) (pw_set (recI m J) (m + 1) (goTakeS (I (m + 1)) k)))
  | _ => False
theorem UndoOK.scr {m : Nat} {I J : pw_I} (h : UndoOK m I) (hJ : scrOK m I J) : UndoOK m J := by
  unfold UndoOK vN
  rw [hJ m (by omega) (by omega) (by omega)]
  exact h
set_option maxRecDepth 100000 in
set_option maxHeartbeats 4000000 in
theorem x_take7 (hM : pw_mod sh P m) (h : w_take7 m Ag I K) : pw_ok mX7_take 4 base n sh P Ag I K := by
  unfold w_take7 at h
  split at h
  · rename_i o
    obtain ⟨rfl, hI, hT, hO, hu, hA, hB, hC⟩ := h
    obtain ⟨h1, ⟨h2, h3⟩, -⟩ := id hM
    have h10 := hI.2.2.1
    refine pw_bd [_, _] pl_X7 c_r rfl rfl ?_
    refine pw_go okX7_take (cc [(116, (w_nextLine o)), (95, (w_record o)), (119, (w_goTake o))]) ⟨Nat.le_refl _, Nat.le_refl _⟩ (cc_c (fun Ag I K h => ⟨3, Nat.le_of_ble_eq_true rfl, x_nextLine7 hM h⟩) (cc_c (fun Ag I K h => ⟨0, Nat.le_of_ble_eq_true rfl, x_record hM h⟩) (cc_c (fun Ag I K h => ⟨3, Nat.le_of_ble_eq_true rfl, x_goTake hM h⟩) cc_n))) (st0) 120 ?_
    simp only [↓f_vc_s, ↓vk_i, ↓cc_i, ↓reduceIte, f_vq_s, Bool.false_eq_true, ↓f_e_iconst, ↓f_e_bipush, ↓f_e_sipush, ↓f_e_ldc, ↓f_e_ldc_w, ↓f_e_iload_n, ↓f_e_iload, ↓f_e_aload_n, ↓f_e_aload, ↓f_e_istore_n, ↓f_e_istore, ↓f_e_astore_n, ↓f_e_astore, ↓f_e_iinc, ↓f_e_iadd, ↓f_e_isub, ↓f_e_imul, ↓f_e_iand, ↓f_e_ior, ↓f_e_ixor, ↓f_e_idiv, ↓f_e_irem, ↓f_e_ishl, ↓f_e_ishr, ↓f_e_iushr, ↓f_e_i2c, ↓f_e_dup, ↓f_e_dup2, ↓f_e_pop, ↓f_e_goto, ↓f_e_ifCond, ↓f_e_if_icmp, ↓f_e_tableswitch, ↓f_e_lookupswitch, ↓f_e_getfield_i, ↓f_e_getfield_r, ↓f_e_putfield_i, ↓f_e_putfield_z, ↓f_e_iaload, ↓f_e_caload, ↓f_e_aaload, ↓f_e_iastore, ↓f_e_castore, ↓f_e_arraylength, ↓f_e_invokestatic, ↓f_e_invokevirtual, ↓f_e_ireturn, ↓f_e_return_, ↓f_s_i_c, ↓f_s_r_c, ↓f_s_v_i, ↓f_s_v_r, ↓f_s_l_0, ↓s_l_1, ↓s_l_2, ↓s_l_3, ↓s_l_4, ↓s_l_5, ↓s_l_6, ↓s_a_0, ↓s_a_1, ↓s_a_2, ↓s_a_3, ↓s_m_0, ↓f_s_m_i, ↓f_s_m_r, ↓f_s_m_i7, ↓f_s_m_r7, ↓f_s_m_i6, ↓f_s_m_r6, ↓f_s_m_i5, ↓f_s_m_r5, ↓f_s_m_i4, ↓f_s_m_r4, ↓f_s_w_n, ↓f_s_w_c, ↓f_s_p_eq, ↓f_s_p_ne, ↓f_s_p_lt, ↓f_s_p_ge, ↓f_s_p_gt, ↓f_s_p_le, ↓nk_i, ↓nk_z, ↓nk_c, ↓rf_s, ↓ov_s, ↓ov_n, ↓fin0, ↓fin1, ↓fin2, ↓fin3, cond_true, cond_false, List.set_cons_zero, List.set_cons_succ, List.length_cons, List.length_nil, true_and, and_true, true_or, or_true, implies_true, forall_const, not_true_eq_false, not_false_eq_true, false_implies, Nat.reduceAdd, Nat.reduceLT, Nat.reduceBEq, Nat.reduceEqDiff, Bool.or_false, Bool.false_or, Bool.or_true, Bool.true_or, beq_self_eq_true, Nat.reduceLeDiff, Nat.reduceMul, Nat.reduceSub, eq_self, Nat.reduceBneDiff, st0_s, st1_s, st2_s, st3_s, reduceCtorEq, cc_0, tl_0, cl_0, il_0, tl_1, cl_1, il_1, tl_2, cl_2, il_2, tl_3, cl_3, il_3, tl_4, cl_4, il_4, tl_5, cl_5, il_5, tl_6, cl_6, il_6, tl_7, cl_7, il_7, tl_8, cl_8, il_8, tl_9, cl_9, il_9, tl_10, cl_10, il_10, tl_11, cl_11, il_11, tl_12, cl_12, il_12, tl_13, cl_13, il_13, tl_14, cl_14, il_14, tl_15, cl_15, il_15, tl_16, cl_16, il_16, tl_20, tl_21, tl_25, tl_32, tl_48, tl_50, tl_57, tl_58, tl_59, tl_60, tl_99, tl_100, tl_101, tl_108, tl_109, tl_116, tl_120, tl_126, tl_374, tl_1122, tl_50000, i10, i01, tl_m1, tl_m2, tl_m3, tl_m4, nr_X7_take, tX7_take_0, tX7_take_1, tX7_take_4, tX7_take_6, tX7_take_7, tX7_take_8, tX7_take_11, tX7_take_13, tX7_take_14, tX7_take_15, tX7_take_18, tX7_take_19, tX7_take_20, tX7_take_23, tX7_take_25, tX7_take_26, tX7_take_27, tX7_take_30, tX7_take_31, tX7_take_32, tX7_take_35, tX7_take_36, pw_QK_s, h1, h2, h3, ↓w_nextLine, ↓w_record, ↓w_goTake]
    rw [h10.1, show (4 : Int32) = nI 4 from rfl, nI_eq (by omega) (by omega)]
    refine ⟨fun q => ⟨hI, hT, hO, fun J hJ => ?_⟩, fun q => hA q⟩
    have hJS : J (o + 1) = I (o + 1) := hJ _ (by omega) (by omega) (by omega)
    have hm4 : vN (I (o + 1)) 10 < 4 := by omega
    cases e : nextS (I (o + 1)) with
    | none => exact ⟨fun q2 => absurd q2 (by decide), fun _ => hB hm4 e J hJ⟩
    | some k =>
      have hk := nextS_lt hO e
      have hk16 := hI.2.1.2
      obtain ⟨c1, c2, c3⟩ := hC k hm4 e
      simp only [optI, rec_S, hJS, cl_nI (show k < 2147483648 by omega)]
      exact ⟨fun q2 => ⟨hu.scr hJ, hI, by rw [ti_nI (by omega)]; omega, hm4, c1, c2, c3 J hJ⟩, fun q2 => absurd (nI_pos' (by omega)) q2⟩
  · exact h.elim
def w_done7 (m : Nat) : pw_Wp := fun Ag I K => match Ag with
  | [.ref o] => o = m ∧ InvB (I (m + 1)) ∧ UndoOK m I ∧ (vN (I (m + 1)) 10 = 0 → K (some (.int (-2))) I) ∧ (¬ vN (I (m + 1)) 10 = 0 → K (some (.int (nI (vN (I (m + 1)) (11 + (vN (I (m + 1)) 10 - 1)))))) (pw_set (recI m I) (m + 1) (goDoneS (I (m + 1)))))
  | _ => False
set_option maxRecDepth 100000 in
set_option maxHeartbeats 4000000 in
theorem x_done7 (hM : pw_mod sh P m) (h : w_done7 m Ag I K) : pw_ok mX7_done 2 base n sh P Ag I K := by
  unfold w_done7 at h
  split at h
  · rename_i o
    obtain ⟨rfl, hI, hu, hA, hB⟩ := h
    obtain ⟨h1, ⟨h2, h3⟩, -⟩ := id hM
    have h10 := hI.2.2.1
    refine pw_bd [_] pl_X7 c_r rfl rfl ?_
    refine pw_go okX7_done (cc [(95, (w_record o)), (120, (w_goDone o))]) ⟨Nat.le_refl _, Nat.le_refl _⟩ (cc_c (fun Ag I K h => ⟨0, Nat.le_of_ble_eq_true rfl, x_record hM h⟩) (cc_c (fun Ag I K h => ⟨1, Nat.le_of_ble_eq_true rfl, x_goDone hM h⟩) cc_n)) (st0) 120 ?_
    simp only [↓f_vc_s, ↓vk_i, ↓cc_i, ↓reduceIte, f_vq_s, Bool.false_eq_true, ↓f_e_iconst, ↓f_e_bipush, ↓f_e_sipush, ↓f_e_ldc, ↓f_e_ldc_w, ↓f_e_iload_n, ↓f_e_iload, ↓f_e_aload_n, ↓f_e_aload, ↓f_e_istore_n, ↓f_e_istore, ↓f_e_astore_n, ↓f_e_astore, ↓f_e_iinc, ↓f_e_iadd, ↓f_e_isub, ↓f_e_imul, ↓f_e_iand, ↓f_e_ior, ↓f_e_ixor, ↓f_e_idiv, ↓f_e_irem, ↓f_e_ishl, ↓f_e_ishr, ↓f_e_iushr, ↓f_e_i2c, ↓f_e_dup, ↓f_e_dup2, ↓f_e_pop, ↓f_e_goto, ↓f_e_ifCond, ↓f_e_if_icmp, ↓f_e_tableswitch, ↓f_e_lookupswitch, ↓f_e_getfield_i, ↓f_e_getfield_r, ↓f_e_putfield_i, ↓f_e_putfield_z, ↓f_e_iaload, ↓f_e_caload, ↓f_e_aaload, ↓f_e_iastore, ↓f_e_castore, ↓f_e_arraylength, ↓f_e_invokestatic, ↓f_e_invokevirtual, ↓f_e_ireturn, ↓f_e_return_, ↓f_s_i_c, ↓f_s_r_c, ↓f_s_v_i, ↓f_s_v_r, ↓f_s_l_0, ↓s_l_1, ↓s_l_2, ↓s_l_3, ↓s_l_4, ↓s_l_5, ↓s_l_6, ↓s_a_0, ↓s_a_1, ↓s_a_2, ↓s_a_3, ↓s_m_0, ↓f_s_m_i, ↓f_s_m_r, ↓f_s_m_i7, ↓f_s_m_r7, ↓f_s_m_i6, ↓f_s_m_r6, ↓f_s_m_i5, ↓f_s_m_r5, ↓f_s_m_i4, ↓f_s_m_r4, ↓f_s_w_n, ↓f_s_w_c, ↓f_s_p_eq, ↓f_s_p_ne, ↓f_s_p_lt, ↓f_s_p_ge, ↓f_s_p_gt, ↓f_s_p_le, ↓nk_i, ↓nk_z, ↓nk_c, ↓rf_s, ↓ov_s, ↓ov_n, ↓fin0, ↓fin1, ↓fin2, ↓fin3, cond_true, cond_false, List.set_cons_zero, List.set_cons_succ, List.length_cons, List.length_nil, true_and, and_true, true_or, or_true, implies_true, forall_const, not_true_eq_false, not_false_eq_true, false_implies, Nat.reduceAdd, Nat.reduceLT, Nat.reduceBEq, Nat.reduceEqDiff, Bool.or_false, Bool.false_or, Bool.or_true, Bool.true_or, beq_self_eq_true, Nat.reduceLeDiff, Nat.reduceMul, Nat.reduceSub, eq_self, Nat.reduceBneDiff, st0_s, st1_s, st2_s, st3_s, reduceCtorEq, cc_0, tl_0, cl_0, il_0, tl_1, cl_1, il_1, tl_2, cl_2, il_2, tl_3, cl_3, il_3, tl_4, cl_4, il_4, tl_5, cl_5, il_5, tl_6, cl_6, il_6, tl_7, cl_7, il_7, tl_8, cl_8, il_8, tl_9, cl_9, il_9, tl_10, cl_10, il_10, tl_11, cl_11, il_11, tl_12, cl_12, il_12, tl_13, cl_13, il_13, tl_14, cl_14, il_14, tl_15, cl_15, il_15, tl_16, cl_16, il_16, tl_20, tl_21, tl_25, tl_32, tl_48, tl_50, tl_57, tl_58, tl_59, tl_60, tl_99, tl_100, tl_101, tl_108, tl_109, tl_116, tl_120, tl_126, tl_374, tl_1122, tl_50000, i10, i01, tl_m1, tl_m2, tl_m3, tl_m4, nr_X7_done, tX7_done_0, tX7_done_1, tX7_done_4, tX7_done_6, tX7_done_7, tX7_done_10, tX7_done_12, tX7_done_13, tX7_done_14, tX7_done_17, tX7_done_18, tX7_done_21, pw_QK_s, h1, h2, h3, ↓w_record, ↓w_goDone]
    rw [h10.1, show (0 : Int32) = nI 0 from rfl, nI_eq (by omega) (by omega), rec_S]
    exact ⟨fun q => ⟨hu, hI, by omega, hB q⟩, fun q => hA q⟩
  · exact h.elim
def w_next7 (m : Nat) : pw_Wp := fun Ag I K => match Ag with
  | [.ref o] => o = m ∧ InvB (I (m + 1)) ∧ InvT (I (m + 1)) ∧ OrdOK (I (m + 1)) ∧ ∀ J, scrOK m I J → K (some (.int (match nextS (I (m + 1)) with
    | none => -4
    | some k => nI k))) J
  | _ => False
set_option maxRecDepth 100000 in
set_option maxHeartbeats 4000000 in
theorem x_next7 (hM : pw_mod sh P m) (h : w_next7 m Ag I K) : pw_ok mX7_next 4 base n sh P Ag I K := by
  unfold w_next7 at h
  split at h
  · rename_i o
    obtain ⟨rfl, hI, hT, hO, hA⟩ := h
    obtain ⟨h1, ⟨h2, h3⟩, -⟩ := id hM
    refine pw_bd [_, _] pl_X7 c_r rfl rfl ?_
    refine pw_go okX7_next (cc [(116, (w_nextLine o))]) ⟨Nat.le_refl _, Nat.le_refl _⟩ (cc_c (fun Ag I K h => ⟨3, Nat.le_of_ble_eq_true rfl, x_nextLine7 hM h⟩) cc_n) (st0) 120 ?_
    simp only [↓f_vc_s, ↓vk_i, ↓cc_i, ↓reduceIte, f_vq_s, Bool.false_eq_true, ↓f_e_iconst, ↓f_e_bipush, ↓f_e_sipush, ↓f_e_ldc, ↓f_e_ldc_w, ↓f_e_iload_n, ↓f_e_iload, ↓f_e_aload_n, ↓f_e_aload, ↓f_e_istore_n, ↓f_e_istore, ↓f_e_astore_n, ↓f_e_astore, ↓f_e_iinc, ↓f_e_iadd, ↓f_e_isub, ↓f_e_imul, ↓f_e_iand, ↓f_e_ior, ↓f_e_ixor, ↓f_e_idiv, ↓f_e_irem, ↓f_e_ishl, ↓f_e_ishr, ↓f_e_iushr, ↓f_e_i2c, ↓f_e_dup, ↓f_e_dup2, ↓f_e_pop, ↓f_e_goto, ↓f_e_ifCond, ↓f_e_if_icmp, ↓f_e_tableswitch, ↓f_e_lookupswitch, ↓f_e_getfield_i, ↓f_e_getfield_r, ↓f_e_putfield_i, ↓f_e_putfield_z, ↓f_e_iaload, ↓f_e_caload, ↓f_e_aaload, ↓f_e_iastore, ↓f_e_castore, ↓f_e_arraylength, ↓f_e_invokestatic, ↓f_e_invokevirtual, ↓f_e_ireturn, ↓f_e_return_, ↓f_s_i_c, ↓f_s_r_c, ↓f_s_v_i, ↓f_s_v_r, ↓f_s_l_0, ↓s_l_1, ↓s_l_2, ↓s_l_3, ↓s_l_4, ↓s_l_5, ↓s_l_6, ↓s_a_0, ↓s_a_1, ↓s_a_2, ↓s_a_3, ↓s_m_0, ↓f_s_m_i, ↓f_s_m_r, ↓f_s_m_i7, ↓f_s_m_r7, ↓f_s_m_i6, ↓f_s_m_r6, ↓f_s_m_i5, ↓f_s_m_r5, ↓f_s_m_i4, ↓f_s_m_r4, ↓f_s_w_n, ↓f_s_w_c, ↓f_s_p_eq, ↓f_s_p_ne, ↓f_s_p_lt, ↓f_s_p_ge, ↓f_s_p_gt, ↓f_s_p_le, ↓nk_i, ↓nk_z, ↓nk_c, ↓rf_s, ↓ov_s, ↓ov_n, ↓fin0, ↓fin1, ↓fin2, ↓fin3, cond_true, cond_false, List.set_cons_zero, List.set_cons_succ, List.length_cons, List.length_nil, true_and, and_true, true_or, or_true, implies_true, forall_const, not_true_eq_false, not_false_eq_true, false_implies, Nat.reduceAdd, Nat.reduceLT, Nat.reduceBEq, Nat.reduceEqDiff, Bool.or_false, Bool.false_or, Bool.or_true, Bool.true_or, beq_self_eq_true, Nat.reduceLeDiff, Nat.reduceMul, Nat.reduceSub, eq_self, Nat.reduceBneDiff, st0_s, st1_s, st2_s, st3_s, reduceCtorEq, cc_0, tl_0, cl_0, il_0, tl_1, cl_1, il_1, tl_2, cl_2, il_2, tl_3, cl_3, il_3, tl_4, cl_4, il_4, tl_5, cl_5, il_5, tl_6, cl_6, il_6, tl_7, cl_7, il_7, tl_8, cl_8, il_8, tl_9, cl_9, il_9, tl_10, cl_10, il_10, tl_11, cl_11, il_11, tl_12, cl_12, il_12, tl_13, cl_13, il_13, tl_14, cl_14, il_14, tl_15, cl_15, il_15, tl_16, cl_16, il_16, tl_20, tl_21, tl_25, tl_32, tl_48, tl_50, tl_57, tl_58, tl_59, tl_60, tl_99, tl_100, tl_101, tl_108, tl_109, tl_116, tl_120, tl_126, tl_374, tl_1122, tl_50000, i10, i01, tl_m1, tl_m2, tl_m3, tl_m4, nr_X7_next, tX7_next_0, tX7_next_1, tX7_next_4, tX7_next_5, tX7_next_6, tX7_next_9, tX7_next_11, tX7_next_14, tX7_next_15, pw_QK_s, h1, h2, h3, ↓w_nextLine]
    refine ⟨hI, hT, hO, fun J hJ => ?_⟩
    have hk16 := hI.2.1.2
    have := hA J hJ
    cases e : nextS (I (o + 1)) with
    | none => rw [e] at this; exact ⟨fun q2 => absurd q2 (by decide), fun _ => this⟩
    | some k => rw [e] at this; exact ⟨fun _ => this, fun q2 => absurd (nI_pos' (by have := nextS_lt hO e; omega)) q2⟩
  · exact h.elim
def w_lines7 (m : Nat) : pw_Wp := fun Ag I K => match Ag with
  | [.ref o, .int x] => o = m ∧ InvB (I (m + 1)) ∧ (0 ≤ x.toInt ∧ x.toInt ≤ 5 → K (some (.int (linesOfS (I (m + 1)) x))) I) ∧ (¬ (0 ≤ x.toInt ∧ x.toInt ≤ 5) → K (some (.int (-1))) I)
  | _ => False
set_option maxRecDepth 100000 in
set_option maxHeartbeats 4000000 in
theorem x_lines7 (hM : pw_mod sh P m) (h : w_lines7 m Ag I K) : pw_ok mX7_lines 5 base n sh P Ag I K := by
  unfold w_lines7 at h
  split at h
  · rename_i o x
    obtain ⟨rfl, hI, hA, hB⟩ := h
    obtain ⟨h1, -⟩ := id hM
    refine pw_bd [_, _] pl_X7 c_ri rfl rfl ?_
    refine pw_go okX7_lines (cc [(94, w_in), (139, (w_linesOf o))]) ⟨Nat.le_refl _, Nat.le_refl _⟩ (cc_c (fun Ag I K h => ⟨0, Nat.le_of_ble_eq_true rfl, x_in h⟩) (cc_c (fun Ag I K h => ⟨4, Nat.le_of_ble_eq_true rfl, x_linesOf hM h⟩) cc_n)) (st0) 120 ?_
    simp only [↓f_vc_s, ↓vk_i, ↓cc_i, ↓reduceIte, f_vq_s, Bool.false_eq_true, ↓f_e_iconst, ↓f_e_bipush, ↓f_e_sipush, ↓f_e_ldc, ↓f_e_ldc_w, ↓f_e_iload_n, ↓f_e_iload, ↓f_e_aload_n, ↓f_e_aload, ↓f_e_istore_n, ↓f_e_istore, ↓f_e_astore_n, ↓f_e_astore, ↓f_e_iinc, ↓f_e_iadd, ↓f_e_isub, ↓f_e_imul, ↓f_e_iand, ↓f_e_ior, ↓f_e_ixor, ↓f_e_idiv, ↓f_e_irem, ↓f_e_ishl, ↓f_e_ishr, ↓f_e_iushr, ↓f_e_i2c, ↓f_e_dup, ↓f_e_dup2, ↓f_e_pop, ↓f_e_goto, ↓f_e_ifCond, ↓f_e_if_icmp, ↓f_e_tableswitch, ↓f_e_lookupswitch, ↓f_e_getfield_i, ↓f_e_getfield_r, ↓f_e_putfield_i, ↓f_e_putfield_z, ↓f_e_iaload, ↓f_e_caload, ↓f_e_aaload, ↓f_e_iastore, ↓f_e_castore, ↓f_e_arraylength, ↓f_e_invokestatic, ↓f_e_invokevirtual, ↓f_e_ireturn, ↓f_e_return_, ↓f_s_i_c, ↓f_s_r_c, ↓f_s_v_i, ↓f_s_v_r, ↓f_s_l_0, ↓s_l_1, ↓s_l_2, ↓s_l_3, ↓s_l_4, ↓s_l_5, ↓s_l_6, ↓s_a_0, ↓s_a_1, ↓s_a_2, ↓s_a_3, ↓s_m_0, ↓f_s_m_i, ↓f_s_m_r, ↓f_s_m_i7, ↓f_s_m_r7, ↓f_s_m_i6, ↓f_s_m_r6, ↓f_s_m_i5, ↓f_s_m_r5, ↓f_s_m_i4, ↓f_s_m_r4, ↓f_s_w_n, ↓f_s_w_c, ↓f_s_p_eq, ↓f_s_p_ne, ↓f_s_p_lt, ↓f_s_p_ge, ↓f_s_p_gt, ↓f_s_p_le, ↓nk_i, ↓nk_z, ↓nk_c, ↓rf_s, ↓ov_s, ↓ov_n, ↓fin0, ↓fin1, ↓fin2, ↓fin3, cond_true, cond_false, List.set_cons_zero, List.set_cons_succ, List.length_cons, List.length_nil, true_and, and_true, true_or, or_true, implies_true, forall_const, not_true_eq_false, not_false_eq_true, false_implies, Nat.reduceAdd, Nat.reduceLT, Nat.reduceBEq, Nat.reduceEqDiff, Bool.or_false, Bool.false_or, Bool.or_true, Bool.true_or, beq_self_eq_true, Nat.reduceLeDiff, Nat.reduceMul, Nat.reduceSub, eq_self, Nat.reduceBneDiff, st0_s, st1_s, st2_s, st3_s, reduceCtorEq, cc_0, tl_0, cl_0, il_0, tl_1, cl_1, il_1, tl_2, cl_2, il_2, tl_3, cl_3, il_3, tl_4, cl_4, il_4, tl_5, cl_5, il_5, tl_6, cl_6, il_6, tl_7, cl_7, il_7, tl_8, cl_8, il_8, tl_9, cl_9, il_9, tl_10, cl_10, il_10, tl_11, cl_11, il_11, tl_12, cl_12, il_12, tl_13, cl_13, il_13, tl_14, cl_14, il_14, tl_15, cl_15, il_15, tl_16, cl_16, il_16, tl_20, tl_21, tl_25, tl_32, tl_48, tl_50, tl_57, tl_58, tl_59, tl_60, tl_99, tl_100, tl_101, tl_108, tl_109, tl_116, tl_120, tl_126, tl_374, tl_1122, tl_50000, i10, i01, tl_m1, tl_m2, tl_m3, tl_m4, nr_X7_lines, tX7_lines_0, tX7_lines_1, tX7_lines_2, tX7_lines_3, tX7_lines_6, tX7_lines_9, tX7_lines_10, tX7_lines_11, tX7_lines_14, tX7_lines_17, tX7_lines_18, pw_QK_s, h1, ↓w_in, ↓w_linesOf, ti_le]
    exact ⟨fun q => ⟨hI, hA q⟩, hB⟩
  · exact h.elim
def w_serviceAt7 (m : Nat) : pw_Wp := fun Ag I K => match Ag with
  | [.ref o, .int x] => o = m ∧ InvB (I (m + 1)) ∧ (x.toInt < 0 → K (some (.int (-1))) I) ∧ (0 ≤ x.toInt → ¬ x.toInt < (I (m + 1) 10).toInt → K (some (.int (-4))) I) ∧ (0 ≤ x.toInt → x.toInt < (I (m + 1) 10).toInt → K (some (.int (I (m + 1) (11 + (vN (I (m + 1)) 10 - 1 - x.toNatClampNeg))))) I)
  | _ => False
set_option maxRecDepth 100000 in
set_option maxHeartbeats 4000000 in
theorem x_serviceAt7 (hM : pw_mod sh P m) (h : w_serviceAt7 m Ag I K) : pw_ok mX7_serviceAt 0 base n sh P Ag I K := by
  unfold w_serviceAt7 at h
  split at h
  · rename_i o x
    obtain ⟨rfl, hI, hA, hB, hC⟩ := h
    obtain ⟨h1, ⟨h2, h3⟩, -⟩ := id hM
    have h10 := hI.2.2.1
    refine pw_bd [_, _] pl_X7 c_ri rfl rfl ?_
    refine pw_go okX7_serviceAt (cc []) ⟨Nat.le_refl _, Nat.le_refl _⟩ cc_n (st0) 120 ?_
    simp only [↓f_vc_s, ↓vk_i, ↓cc_i, ↓reduceIte, f_vq_s, Bool.false_eq_true, ↓f_e_iconst, ↓f_e_bipush, ↓f_e_sipush, ↓f_e_ldc, ↓f_e_ldc_w, ↓f_e_iload_n, ↓f_e_iload, ↓f_e_aload_n, ↓f_e_aload, ↓f_e_istore_n, ↓f_e_istore, ↓f_e_astore_n, ↓f_e_astore, ↓f_e_iinc, ↓f_e_iadd, ↓f_e_isub, ↓f_e_imul, ↓f_e_iand, ↓f_e_ior, ↓f_e_ixor, ↓f_e_idiv, ↓f_e_irem, ↓f_e_ishl, ↓f_e_ishr, ↓f_e_iushr, ↓f_e_i2c, ↓f_e_dup, ↓f_e_dup2, ↓f_e_pop, ↓f_e_goto, ↓f_e_ifCond, ↓f_e_if_icmp, ↓f_e_tableswitch, ↓f_e_lookupswitch, ↓f_e_getfield_i, ↓f_e_getfield_r, ↓f_e_putfield_i, ↓f_e_putfield_z, ↓f_e_iaload, ↓f_e_caload, ↓f_e_aaload, ↓f_e_iastore, ↓f_e_castore, ↓f_e_arraylength, ↓f_e_invokestatic, ↓f_e_invokevirtual, ↓f_e_ireturn, ↓f_e_return_, ↓f_s_i_c, ↓f_s_r_c, ↓f_s_v_i, ↓f_s_v_r, ↓f_s_l_0, ↓s_l_1, ↓s_l_2, ↓s_l_3, ↓s_l_4, ↓s_l_5, ↓s_l_6, ↓s_a_0, ↓s_a_1, ↓s_a_2, ↓s_a_3, ↓s_m_0, ↓f_s_m_i, ↓f_s_m_r, ↓f_s_m_i7, ↓f_s_m_r7, ↓f_s_m_i6, ↓f_s_m_r6, ↓f_s_m_i5, ↓f_s_m_r5, ↓f_s_m_i4, ↓f_s_m_r4, ↓f_s_w_n, ↓f_s_w_c, ↓f_s_p_eq, ↓f_s_p_ne, ↓f_s_p_lt, ↓f_s_p_ge, ↓f_s_p_gt, ↓f_s_p_le, ↓nk_i, ↓nk_z, ↓nk_c, ↓rf_s, ↓ov_s, ↓ov_n, ↓fin0, ↓fin1, ↓fin2, ↓fin3, cond_true, cond_false, List.set_cons_zero, List.set_cons_succ, List.length_cons, List.length_nil, true_and, and_true, true_or, or_true, implies_true, forall_const, not_true_eq_false, not_false_eq_true, false_implies, Nat.reduceAdd, Nat.reduceLT, Nat.reduceBEq, Nat.reduceEqDiff, Bool.or_false, Bool.false_or, Bool.or_true, Bool.true_or, beq_self_eq_true, Nat.reduceLeDiff, Nat.reduceMul, Nat.reduceSub, eq_self, Nat.reduceBneDiff, st0_s, st1_s, st2_s, st3_s, reduceCtorEq, cc_0, tl_0, cl_0, il_0, tl_1, cl_1, il_1, tl_2, cl_2, il_2, tl_3, cl_3, il_3, tl_4, cl_4, il_4, tl_5, cl_5, il_5, tl_6, cl_6, il_6, tl_7, cl_7, il_7, tl_8, cl_8, il_8, tl_9, cl_9, il_9, tl_10, cl_10, il_10, tl_11, cl_11, il_11, tl_12, cl_12, il_12, tl_13, cl_13, il_13, tl_14, cl_14, il_14, tl_15, cl_15, il_15, tl_16, cl_16, il_16, tl_20, tl_21, tl_25, tl_32, tl_48, tl_50, tl_57, tl_58, tl_59, tl_60, tl_99, tl_100, tl_101, tl_108, tl_109, tl_116, tl_120, tl_126, tl_374, tl_1122, tl_50000, i10, i01, tl_m1, tl_m2, tl_m3, tl_m4, nr_X7_serviceAt, tX7_serviceAt_0, tX7_serviceAt_1, tX7_serviceAt_4, tX7_serviceAt_5, tX7_serviceAt_6, tX7_serviceAt_7, tX7_serviceAt_8, tX7_serviceAt_11, tX7_serviceAt_13, tX7_serviceAt_14, tX7_serviceAt_17, tX7_serviceAt_18, tX7_serviceAt_21, tX7_serviceAt_23, tX7_serviceAt_24, tX7_serviceAt_27, tX7_serviceAt_29, tX7_serviceAt_30, tX7_serviceAt_31, tX7_serviceAt_32, tX7_serviceAt_33, tX7_serviceAt_34, tX7_serviceAt_35, tX7_serviceAt_36, tX7_serviceAt_39, tX7_serviceAt_41, pw_QK_s, h1, h2, h3, ti_le, ti_lt]
    refine ⟨fun q => ?_, fun q => hA (by omega)⟩
    refine ⟨fun q2 => hB q (by omega), fun q2 => ?_⟩
    have q3 : x.toInt < (I (o + 1) 10).toInt := by omega
    have := hC q q3
    obtain ⟨i, rfl, hi⟩ := tn6 (x := x) ⟨q, by rw [h10.1, ti_nI (by omega)] at q3; omega⟩
    have hi2 : i < vN (I (o + 1)) 10 := by rw [h10.1, ti_nI (by omega), ti_nI (by omega)] at q3; omega
    rw [cl_nI (by omega)] at this
    rw [h10.1]
    have e : (11 : Int32) + nI (vN (I (o + 1)) 10) - 1 - nI i = nI (11 + (vN (I (o + 1)) 10 - 1 - i)) := by
      rw [jx_11, show nI (11 + vN (I (o + 1)) 10) - 1 = nI (11 + vN (I (o + 1)) 10 - 1) from pk_sub (b := 1) (by omega), pk_sub (by omega)]
      congr 1; omega
    rw [e]
    exact ⟨in_nI (by omega) (by omega), by rw [cl_nI (by omega)]; exact this⟩
  · exact h.elim
def w_inputAt7 (m : Nat) : pw_Wp := fun Ag I K => match Ag with
  | [.ref o, .int x, .int i] => o = m ∧ InvB (I (m + 1)) ∧ (¬ (okNode (I (m + 1)) x ∧ 0 ≤ i.toInt) → K (some (.int (-1))) I) ∧ (okNode (I (m + 1)) x ∧ 0 ≤ i.toInt → ¬ i.toInt < (I (m + 1) (16 + 25 * x.toNatClampNeg + 3)).toInt → K (some (.int (-4))) I) ∧
    (okNode (I (m + 1)) x ∧ 0 ≤ i.toInt → i.toInt < (I (m + 1) (16 + 25 * x.toNatClampNeg + 3)).toInt → K (some (.int (I (m + 1) (16 + 25 * x.toNatClampNeg + 4 + i.toNatClampNeg)))) I)
  | _ => False
set_option maxRecDepth 100000 in
set_option maxHeartbeats 4000000 in
theorem x_inputAt7 (hM : pw_mod sh P m) (h : w_inputAt7 m Ag I K) : pw_ok mX7_inputAt 2 base n sh P Ag I K := by
  unfold w_inputAt7 at h
  split at h
  · rename_i o x i
    obtain ⟨rfl, hI, hA, hB, hC⟩ := h
    obtain ⟨h1, ⟨h2, h3⟩, -⟩ := id hM
    refine pw_bd [_, _, _] pl_X7 c_rii rfl rfl ?_
    refine pw_go okX7_inputAt (cc [(100, (w_isNode o)), (98, w_n)]) ⟨Nat.le_refl _, Nat.le_refl _⟩ (cc_c (fun Ag I K h => ⟨1, Nat.le_of_ble_eq_true rfl, x_isNode hM h⟩) (cc_c (fun Ag I K h => ⟨0, Nat.le_of_ble_eq_true rfl, x_n h⟩) cc_n)) (st0) 120 ?_
    simp only [↓f_vc_s, ↓vk_i, ↓cc_i, ↓reduceIte, f_vq_s, Bool.false_eq_true, ↓f_e_iconst, ↓f_e_bipush, ↓f_e_sipush, ↓f_e_ldc, ↓f_e_ldc_w, ↓f_e_iload_n, ↓f_e_iload, ↓f_e_aload_n, ↓f_e_aload, ↓f_e_istore_n, ↓f_e_istore, ↓f_e_astore_n, ↓f_e_astore, ↓f_e_iinc, ↓f_e_iadd, ↓f_e_isub, ↓f_e_imul, ↓f_e_iand, ↓f_e_ior, ↓f_e_ixor, ↓f_e_idiv, ↓f_e_irem, ↓f_e_ishl, ↓f_e_ishr, ↓f_e_iushr, ↓f_e_i2c, ↓f_e_dup, ↓f_e_dup2, ↓f_e_pop, ↓f_e_goto, ↓f_e_ifCond, ↓f_e_if_icmp, ↓f_e_tableswitch, ↓f_e_lookupswitch, ↓f_e_getfield_i, ↓f_e_getfield_r, ↓f_e_putfield_i, ↓f_e_putfield_z, ↓f_e_iaload, ↓f_e_caload, ↓f_e_aaload, ↓f_e_iastore, ↓f_e_castore, ↓f_e_arraylength, ↓f_e_invokestatic, ↓f_e_invokevirtual, ↓f_e_ireturn, ↓f_e_return_, ↓f_s_i_c, ↓f_s_r_c, ↓f_s_v_i, ↓f_s_v_r, ↓f_s_l_0, ↓s_l_1, ↓s_l_2, ↓s_l_3, ↓s_l_4, ↓s_l_5, ↓s_l_6, ↓s_a_0, ↓s_a_1, ↓s_a_2, ↓s_a_3, ↓s_m_0, ↓f_s_m_i, ↓f_s_m_r, ↓f_s_m_i7, ↓f_s_m_r7, ↓f_s_m_i6, ↓f_s_m_r6, ↓f_s_m_i5, ↓f_s_m_r5, ↓f_s_m_i4, ↓f_s_m_r4, ↓f_s_w_n, ↓f_s_w_c, ↓f_s_p_eq, ↓f_s_p_ne, ↓f_s_p_lt, ↓f_s_p_ge, ↓f_s_p_gt, ↓f_s_p_le, ↓nk_i, ↓nk_z, ↓nk_c, ↓rf_s, ↓ov_s, ↓ov_n, ↓fin0, ↓fin1, ↓fin2, ↓fin3, cond_true, cond_false, List.set_cons_zero, List.set_cons_succ, List.length_cons, List.length_nil, true_and, and_true, true_or, or_true, implies_true, forall_const, not_true_eq_false, not_false_eq_true, false_implies, Nat.reduceAdd, Nat.reduceLT, Nat.reduceBEq, Nat.reduceEqDiff, Bool.or_false, Bool.false_or, Bool.or_true, Bool.true_or, beq_self_eq_true, Nat.reduceLeDiff, Nat.reduceMul, Nat.reduceSub, eq_self, Nat.reduceBneDiff, st0_s, st1_s, st2_s, st3_s, reduceCtorEq, cc_0, tl_0, cl_0, il_0, tl_1, cl_1, il_1, tl_2, cl_2, il_2, tl_3, cl_3, il_3, tl_4, cl_4, il_4, tl_5, cl_5, il_5, tl_6, cl_6, il_6, tl_7, cl_7, il_7, tl_8, cl_8, il_8, tl_9, cl_9, il_9, tl_10, cl_10, il_10, tl_11, cl_11, il_11, tl_12, cl_12, il_12, tl_13, cl_13, il_13, tl_14, cl_14, il_14, tl_15, cl_15, il_15, tl_16, cl_16, il_16, tl_20, tl_21, tl_25, tl_32, tl_48, tl_50, tl_57, tl_58, tl_59, tl_60, tl_99, tl_100, tl_101, tl_108, tl_109, tl_116, tl_120, tl_126, tl_374, tl_1122, tl_50000, i10, i01, tl_m1, tl_m2, tl_m3, tl_m4, nr_X7_inputAt, tX7_inputAt_0, tX7_inputAt_1, tX7_inputAt_2, tX7_inputAt_5, tX7_inputAt_8, tX7_inputAt_9, tX7_inputAt_12, tX7_inputAt_13, tX7_inputAt_14, tX7_inputAt_15, tX7_inputAt_16, tX7_inputAt_19, tX7_inputAt_20, tX7_inputAt_23, tX7_inputAt_24, tX7_inputAt_25, tX7_inputAt_26, tX7_inputAt_29, tX7_inputAt_30, tX7_inputAt_33, tX7_inputAt_34, tX7_inputAt_37, tX7_inputAt_38, tX7_inputAt_39, tX7_inputAt_40, tX7_inputAt_41, tX7_inputAt_42, tX7_inputAt_45, tX7_inputAt_47, pw_QK_s, h1, h2, h3, ↓w_isNode, ↓w_n]
    refine ⟨hI.n3, fun q => ?_, fun q => hA (fun z => q z.1)⟩
    obtain ⟨j, rfl, hj⟩ := tn6 (x := x) ⟨q.1, by have := hI.n3.2; have := q.2; omega⟩
    rw [cl_nI (by omega)] at hB hC
    have hc := (hI.2.2.2.1 j hj).2.2
    simp (disch := omega) only [ix_l, ix_n, ix_0, ix_1, ix_2, ix_3, ix_4, ix_5, ix_6, ix_7, ix_8, ix_9, ix_10, ix_11, ix_12, ix_13, ix_14, ix_15, ix_20, ix_100, ix_374, jx_100, jx_11, jx_374, kx_374, cl_nI, in_nI, Nat.add_zero, true_and, up_set, set_s, set_set, set_n, cpy_s0, cpy_sd, cpy_ss, nI_add, upd_s, upd_n]
    simp only [ti_le]
    rw [show (0 : Int32).toInt = 0 from rfl]
    refine ⟨fun q2 => ⟨fun q3 => hB ⟨q, q2⟩ (by omega), fun q3 => ?_⟩, fun q2 => hA (fun z => q2 z.2)⟩
    have q4 : i.toInt < (I (o + 1) (16 + 25 * j + 3)).toInt := by omega
    have := hC ⟨q, q2⟩ q4
    obtain ⟨t, rfl, ht⟩ : ∃ t : Nat, i = nI t ∧ t < 21 := ⟨i.toNatClampNeg, ti_nat q2, by
      have h9 : i.toNatClampNeg = i.toInt.toNat := rfl
      rw [hc.1, ti_nI (by omega)] at q4; omega⟩
    rw [cl_nI (by omega)] at this
    simp (disch := omega) only [ix_l, ix_n, ix_0, ix_1, ix_2, ix_3, ix_4, ix_5, ix_6, ix_7, ix_8, ix_9, ix_10, ix_11, ix_12, ix_13, ix_14, ix_15, ix_20, ix_100, ix_374, jx_100, jx_11, jx_374, kx_374, cl_nI, in_nI, Nat.add_zero, true_and, up_set, set_s, set_set, set_n, cpy_s0, cpy_sd, cpy_ss, nI_add, upd_s, upd_n]
    exact this
  · exact h.elim
def w_count7 (m : Nat) : pw_Wp := fun Ag I K => match Ag with
  | [.ref o, .int x] => o = m ∧ InvB (I (m + 1)) ∧ K (some (.int (if x = 0 then I (m + 1) 3 else if x = 1 then I (m + 1) 4 else if x = 2 then I (m + 1) 0 else if x = 3 then I (m + 1) 5 else if x = 4 then I (m + 1) 6 else if x = 5 then litEdgesS (I (m + 1)) else if x = 6 then I (m + 1) 7 else if x = 7 then I (m + 1) 8 else if x = 8 then I (m + 1) 1 else if x = 9 then I (m + 1) 2 else if x = 10 then I (m + 1) 9 else if x = 11 then I m 8 else if x = 12 then I m 7 else -1))) I
  | _ => False
set_option maxRecDepth 100000 in
set_option maxHeartbeats 4000000 in
theorem x_count7 (hM : pw_mod sh P m) (h : w_count7 m Ag I K) : pw_ok mX7_count 2 base n sh P Ag I K := by
  unfold w_count7 at h
  split at h
  · rename_i o x
    obtain ⟨rfl, hI, hA⟩ := h
    obtain ⟨h1, ⟨h2, h3⟩, -⟩ := id hM
    refine pw_bd [_, _] pl_X7 c_ri rfl rfl ?_
    refine pw_go okX7_count (cc [(141, (w_litEdges o))]) ⟨Nat.le_refl _, Nat.le_refl _⟩ (cc_c (fun Ag I K h => ⟨1, Nat.le_of_ble_eq_true rfl, x_litEdges hM h⟩) cc_n) (st0) 120 ?_
    simp only [↓f_vc_s, ↓vk_i, ↓cc_i, ↓reduceIte, f_vq_s, Bool.false_eq_true, ↓f_e_iconst, ↓f_e_bipush, ↓f_e_sipush, ↓f_e_ldc, ↓f_e_ldc_w, ↓f_e_iload_n, ↓f_e_iload, ↓f_e_aload_n, ↓f_e_aload, ↓f_e_istore_n, ↓f_e_istore, ↓f_e_astore_n, ↓f_e_astore, ↓f_e_iinc, ↓f_e_iadd, ↓f_e_isub, ↓f_e_imul, ↓f_e_iand, ↓f_e_ior, ↓f_e_ixor, ↓f_e_idiv, ↓f_e_irem, ↓f_e_ishl, ↓f_e_ishr, ↓f_e_iushr, ↓f_e_i2c, ↓f_e_dup, ↓f_e_dup2, ↓f_e_pop, ↓f_e_goto, ↓f_e_ifCond, ↓f_e_if_icmp, ↓f_e_tableswitch, ↓f_e_lookupswitch, ↓f_e_getfield_i, ↓f_e_getfield_r, ↓f_e_putfield_i, ↓f_e_putfield_z, ↓f_e_iaload, ↓f_e_caload, ↓f_e_aaload, ↓f_e_iastore, ↓f_e_castore, ↓f_e_arraylength, ↓f_e_invokestatic, ↓f_e_invokevirtual, ↓f_e_ireturn, ↓f_e_return_, ↓f_s_i_c, ↓f_s_r_c, ↓f_s_v_i, ↓f_s_v_r, ↓f_s_l_0, ↓s_l_1, ↓s_l_2, ↓s_l_3, ↓s_l_4, ↓s_l_5, ↓s_l_6, ↓s_a_0, ↓s_a_1, ↓s_a_2, ↓s_a_3, ↓s_m_0, ↓f_s_m_i, ↓f_s_m_r, ↓f_s_m_i7, ↓f_s_m_r7, ↓f_s_m_i6, ↓f_s_m_r6, ↓f_s_m_i5, ↓f_s_m_r5, ↓f_s_m_i4, ↓f_s_m_r4, ↓f_s_w_n, ↓f_s_w_c, ↓f_s_p_eq, ↓f_s_p_ne, ↓f_s_p_lt, ↓f_s_p_ge, ↓f_s_p_gt, ↓f_s_p_le, ↓nk_i, ↓nk_z, ↓nk_c, ↓rf_s, ↓ov_s, ↓ov_n, ↓fin0, ↓fin1, ↓fin2, ↓fin3, cond_true, cond_false, List.set_cons_zero, List.set_cons_succ, List.length_cons, List.length_nil, true_and, and_true, true_or, or_true, implies_true, forall_const, not_true_eq_false, not_false_eq_true, false_implies, Nat.reduceAdd, Nat.reduceLT, Nat.reduceBEq, Nat.reduceEqDiff, Bool.or_false, Bool.false_or, Bool.or_true, Bool.true_or, beq_self_eq_true, Nat.reduceLeDiff, Nat.reduceMul, Nat.reduceSub, eq_self, Nat.reduceBneDiff, st0_s, st1_s, st2_s, st3_s, reduceCtorEq, cc_0, tl_0, cl_0, il_0, tl_1, cl_1, il_1, tl_2, cl_2, il_2, tl_3, cl_3, il_3, tl_4, cl_4, il_4, tl_5, cl_5, il_5, tl_6, cl_6, il_6, tl_7, cl_7, il_7, tl_8, cl_8, il_8, tl_9, cl_9, il_9, tl_10, cl_10, il_10, tl_11, cl_11, il_11, tl_12, cl_12, il_12, tl_13, cl_13, il_13, tl_14, cl_14, il_14, tl_15, cl_15, il_15, tl_16, cl_16, il_16, tl_20, tl_21, tl_25, tl_32, tl_48, tl_50, tl_57, tl_58, tl_59, tl_60, tl_99, tl_100, tl_101, tl_108, tl_109, tl_116, tl_120, tl_126, tl_374, tl_1122, tl_50000, i10, i01, tl_m1, tl_m2, tl_m3, tl_m4, nr_X7_count, tX7_count_0, tX7_count_1, tX7_count_68, tX7_count_69, tX7_count_72, tX7_count_73, tX7_count_74, tX7_count_75, tX7_count_76, tX7_count_79, tX7_count_80, tX7_count_81, tX7_count_82, tX7_count_83, tX7_count_86, tX7_count_87, tX7_count_88, tX7_count_89, tX7_count_90, tX7_count_93, tX7_count_94, tX7_count_95, tX7_count_96, tX7_count_97, tX7_count_100, tX7_count_102, tX7_count_103, tX7_count_104, tX7_count_105, tX7_count_108, tX7_count_109, tX7_count_110, tX7_count_113, tX7_count_115, tX7_count_116, tX7_count_117, tX7_count_118, tX7_count_121, tX7_count_123, tX7_count_124, tX7_count_125, tX7_count_126, tX7_count_129, tX7_count_130, tX7_count_131, tX7_count_132, tX7_count_133, tX7_count_136, tX7_count_137, tX7_count_138, tX7_count_139, tX7_count_140, tX7_count_143, tX7_count_145, tX7_count_146, tX7_count_147, tX7_count_148, tX7_count_151, tX7_count_152, tX7_count_153, tX7_count_156, tX7_count_157, tX7_count_158, pw_QK_s, h1, h2, h3, ↓w_litEdges]
    refine ⟨fun q => ?_, fun n0 => ⟨fun q => ?_, fun n1 => ⟨fun q => ?_, fun n2 => ⟨fun q => ?_, fun n3 => ⟨fun q => ?_, fun n4 => ⟨fun q => ⟨hI, ?_⟩, fun n5 => ⟨fun q => ?_, fun n6 => ⟨fun q => ?_, fun n7 => ⟨fun q => ?_, fun n8 => ⟨fun q => ?_, fun n9 => ⟨fun q => ?_, fun n10 => ⟨fun q => ?_, fun n11 => ⟨fun q => ?_, fun n12 => ?_⟩⟩⟩⟩⟩⟩⟩⟩⟩⟩⟩⟩⟩ <;> simp only [*, if_true, if_false] at hA <;> exact hA
  · exact h.elim
end MOD7
