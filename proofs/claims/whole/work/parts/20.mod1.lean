/-! the reference: small methods, what is read -/
section MOD1
variable {n base m : Nat} {sh : pw_Sh} {P : pw_P} {Ag : List Value} {I : pw_I} {K : Option Value → pw_I → Prop}
def w_in : pw_Wp := fun Ag I K => match Ag with
  | [.int v, .int lo, .int hi] => (lo ≤ v ∧ v ≤ hi → K (some (.int 1)) I) ∧ (¬ (lo ≤ v ∧ v ≤ hi) → K (some (.int 0)) I)
  | _ => False
set_option maxRecDepth 100000 in
set_option maxHeartbeats 4000000 in
theorem x_in (h : w_in Ag I K) : pw_ok mX7_in 0 base n sh P Ag I K := by
  unfold w_in at h
  split at h
  · obtain ⟨hA, hB⟩ := h
    refine pw_bd [_, _, _] pl_X7 c_iii rfl rfl ?_
    refine pw_go okX7_in (cc []) ⟨Nat.le_refl _, Nat.le_refl _⟩ cc_n (st0) 30 ?_
    simp only [vc_s, vq_s, vk_s, e_iconst, e_bipush, e_sipush, e_ldc, e_ldc_w, e_iload_n, e_iload, e_aload_n, e_aload, e_istore_n, e_istore, e_astore_n, e_astore, e_iinc, e_iadd, e_isub, e_imul, e_iand, e_ior, e_ixor, e_idiv, e_irem, e_ishl, e_ishr, e_iushr, e_i2c, e_dup, e_dup2, e_pop, e_goto, e_ifCond, e_if_icmp, e_tableswitch, e_lookupswitch, e_getfield_i, e_getfield_r, e_putfield_i, e_putfield_z, e_iaload, e_caload, e_aaload, e_iastore, e_castore, e_arraylength, e_invokestatic, e_invokevirtual, e_ireturn, e_return_, s_i_c, s_r_c, s_v_i, s_v_r, s_l_0, s_l_1, s_l_2, s_l_3, s_l_4, s_l_5, s_l_6, s_a_0, s_a_1, s_a_2, s_a_3, s_m_0, s_m_i, s_m_r, s_m_i7, s_m_r7, s_m_i6, s_m_r6, s_m_i5, s_m_r5, s_m_i4, s_m_r4, s_w_n, s_w_c, s_p_eq, s_p_ne, s_p_lt, s_p_ge, s_p_gt, s_p_le, nk_i, nk_z, nk_c, rf_s, ov_s, ov_n, fin0, fin1, fin2, fin3, cond_true, cond_false, List.set_cons_zero, List.set_cons_succ, List.length_cons, List.length_nil, true_and, and_true, true_or, or_true, implies_true, forall_const, not_true_eq_false, not_false_eq_true, false_implies, Nat.reduceAdd, Nat.reduceLT, Nat.reduceBEq, Nat.reduceEqDiff, Bool.or_false, Bool.false_or, Bool.or_true, Bool.true_or, beq_self_eq_true, Nat.reduceLeDiff, Nat.reduceMul, Nat.reduceSub, eq_self, Nat.reduceBneDiff, st0_s, st1_s, st2_s, st3_s, reduceCtorEq, cc_s, cc_0, tl_0, cl_0, il_0, tl_1, cl_1, il_1, tl_2, cl_2, il_2, tl_3, cl_3, il_3, tl_4, cl_4, il_4, tl_5, cl_5, il_5, tl_6, cl_6, il_6, tl_7, cl_7, il_7, tl_8, cl_8, il_8, tl_9, cl_9, il_9, tl_10, cl_10, il_10, tl_11, cl_11, il_11, tl_12, cl_12, il_12, tl_13, cl_13, il_13, tl_14, cl_14, il_14, tl_15, cl_15, il_15, tl_16, cl_16, il_16, tl_20, tl_21, tl_25, tl_32, tl_48, tl_50, tl_57, tl_58, tl_59, tl_60, tl_99, tl_100, tl_101, tl_108, tl_109, tl_116, tl_120, tl_126, tl_374, tl_1122, tl_50000, i10, i01, tl_m1, tl_m2, tl_m3, tl_m4, nr_X7_in, tX7_in_0, tX7_in_1, tX7_in_2, tX7_in_5, tX7_in_6, tX7_in_7, tX7_in_10, tX7_in_11, tX7_in_14, tX7_in_15, pw_QK_s]
    simp only [ti_lt, ti_le] at *
    refine ⟨fun q => hB (by omega), fun q => ⟨fun q2 => hB (by omega), fun q2 => hA (by omega)⟩⟩
  · exact h.elim
def w_n : pw_Wp := fun Ag I K => match Ag with
  | [.int x] => K (some (.int (16 + 25 * x))) I
  | _ => False
set_option maxRecDepth 100000 in
set_option maxHeartbeats 4000000 in
theorem x_n (h : w_n Ag I K) : pw_ok mX7_n 0 base n sh P Ag I K := by
  unfold w_n at h
  split at h
  · refine pw_bd [_] pl_X7 c_i rfl rfl ?_
    refine pw_go okX7_n (cc []) ⟨Nat.le_refl _, Nat.le_refl _⟩ cc_n (st0) 30 ?_
    simp only [vc_s, vq_s, vk_s, e_iconst, e_bipush, e_sipush, e_ldc, e_ldc_w, e_iload_n, e_iload, e_aload_n, e_aload, e_istore_n, e_istore, e_astore_n, e_astore, e_iinc, e_iadd, e_isub, e_imul, e_iand, e_ior, e_ixor, e_idiv, e_irem, e_ishl, e_ishr, e_iushr, e_i2c, e_dup, e_dup2, e_pop, e_goto, e_ifCond, e_if_icmp, e_tableswitch, e_lookupswitch, e_getfield_i, e_getfield_r, e_putfield_i, e_putfield_z, e_iaload, e_caload, e_aaload, e_iastore, e_castore, e_arraylength, e_invokestatic, e_invokevirtual, e_ireturn, e_return_, s_i_c, s_r_c, s_v_i, s_v_r, s_l_0, s_l_1, s_l_2, s_l_3, s_l_4, s_l_5, s_l_6, s_a_0, s_a_1, s_a_2, s_a_3, s_m_0, s_m_i, s_m_r, s_m_i7, s_m_r7, s_m_i6, s_m_r6, s_m_i5, s_m_r5, s_m_i4, s_m_r4, s_w_n, s_w_c, s_p_eq, s_p_ne, s_p_lt, s_p_ge, s_p_gt, s_p_le, nk_i, nk_z, nk_c, rf_s, ov_s, ov_n, fin0, fin1, fin2, fin3, cond_true, cond_false, List.set_cons_zero, List.set_cons_succ, List.length_cons, List.length_nil, true_and, and_true, true_or, or_true, implies_true, forall_const, not_true_eq_false, not_false_eq_true, false_implies, Nat.reduceAdd, Nat.reduceLT, Nat.reduceBEq, Nat.reduceEqDiff, Bool.or_false, Bool.false_or, Bool.or_true, Bool.true_or, beq_self_eq_true, Nat.reduceLeDiff, Nat.reduceMul, Nat.reduceSub, eq_self, Nat.reduceBneDiff, st0_s, st1_s, st2_s, st3_s, reduceCtorEq, cc_s, cc_0, tl_0, cl_0, il_0, tl_1, cl_1, il_1, tl_2, cl_2, il_2, tl_3, cl_3, il_3, tl_4, cl_4, il_4, tl_5, cl_5, il_5, tl_6, cl_6, il_6, tl_7, cl_7, il_7, tl_8, cl_8, il_8, tl_9, cl_9, il_9, tl_10, cl_10, il_10, tl_11, cl_11, il_11, tl_12, cl_12, il_12, tl_13, cl_13, il_13, tl_14, cl_14, il_14, tl_15, cl_15, il_15, tl_16, cl_16, il_16, tl_20, tl_21, tl_25, tl_32, tl_48, tl_50, tl_57, tl_58, tl_59, tl_60, tl_99, tl_100, tl_101, tl_108, tl_109, tl_116, tl_120, tl_126, tl_374, tl_1122, tl_50000, i10, i01, tl_m1, tl_m2, tl_m3, tl_m4, nr_X7_n, tX7_n_0, tX7_n_2, tX7_n_4, tX7_n_5, tX7_n_6, tX7_n_7, pw_QK_s]
    exact h
  · exact h.elim
def w_l : pw_Wp := fun Ag I K => match Ag with
  | [.int x] => K (some (.int (166 + 13 * x))) I
  | _ => False
set_option maxRecDepth 100000 in
set_option maxHeartbeats 4000000 in
theorem x_l (h : w_l Ag I K) : pw_ok mX7_l 0 base n sh P Ag I K := by
  unfold w_l at h
  split at h
  · refine pw_bd [_] pl_X7 c_i rfl rfl ?_
    refine pw_go okX7_l (cc []) ⟨Nat.le_refl _, Nat.le_refl _⟩ cc_n (st0) 30 ?_
    simp only [vc_s, vq_s, vk_s, e_iconst, e_bipush, e_sipush, e_ldc, e_ldc_w, e_iload_n, e_iload, e_aload_n, e_aload, e_istore_n, e_istore, e_astore_n, e_astore, e_iinc, e_iadd, e_isub, e_imul, e_iand, e_ior, e_ixor, e_idiv, e_irem, e_ishl, e_ishr, e_iushr, e_i2c, e_dup, e_dup2, e_pop, e_goto, e_ifCond, e_if_icmp, e_tableswitch, e_lookupswitch, e_getfield_i, e_getfield_r, e_putfield_i, e_putfield_z, e_iaload, e_caload, e_aaload, e_iastore, e_castore, e_arraylength, e_invokestatic, e_invokevirtual, e_ireturn, e_return_, s_i_c, s_r_c, s_v_i, s_v_r, s_l_0, s_l_1, s_l_2, s_l_3, s_l_4, s_l_5, s_l_6, s_a_0, s_a_1, s_a_2, s_a_3, s_m_0, s_m_i, s_m_r, s_m_i7, s_m_r7, s_m_i6, s_m_r6, s_m_i5, s_m_r5, s_m_i4, s_m_r4, s_w_n, s_w_c, s_p_eq, s_p_ne, s_p_lt, s_p_ge, s_p_gt, s_p_le, nk_i, nk_z, nk_c, rf_s, ov_s, ov_n, fin0, fin1, fin2, fin3, cond_true, cond_false, List.set_cons_zero, List.set_cons_succ, List.length_cons, List.length_nil, true_and, and_true, true_or, or_true, implies_true, forall_const, not_true_eq_false, not_false_eq_true, false_implies, Nat.reduceAdd, Nat.reduceLT, Nat.reduceBEq, Nat.reduceEqDiff, Bool.or_false, Bool.false_or, Bool.or_true, Bool.true_or, beq_self_eq_true, Nat.reduceLeDiff, Nat.reduceMul, Nat.reduceSub, eq_self, Nat.reduceBneDiff, st0_s, st1_s, st2_s, st3_s, reduceCtorEq, cc_s, cc_0, tl_0, cl_0, il_0, tl_1, cl_1, il_1, tl_2, cl_2, il_2, tl_3, cl_3, il_3, tl_4, cl_4, il_4, tl_5, cl_5, il_5, tl_6, cl_6, il_6, tl_7, cl_7, il_7, tl_8, cl_8, il_8, tl_9, cl_9, il_9, tl_10, cl_10, il_10, tl_11, cl_11, il_11, tl_12, cl_12, il_12, tl_13, cl_13, il_13, tl_14, cl_14, il_14, tl_15, cl_15, il_15, tl_16, cl_16, il_16, tl_20, tl_21, tl_25, tl_32, tl_48, tl_50, tl_57, tl_58, tl_59, tl_60, tl_99, tl_100, tl_101, tl_108, tl_109, tl_116, tl_120, tl_126, tl_374, tl_1122, tl_50000, i10, i01, tl_m1, tl_m2, tl_m3, tl_m4, nr_X7_l, tX7_l_0, tX7_l_3, tX7_l_5, tX7_l_6, tX7_l_7, tX7_l_8, pw_QK_s]
    exact h
  · exact h.elim
def w_bit : pw_Wp := fun Ag I K => match Ag with
  | [.int x] => (bit01 x → K (some (.int 1)) I) ∧ (¬ bit01 x → K (some (.int 0)) I)
  | _ => False
set_option maxRecDepth 100000 in
set_option maxHeartbeats 4000000 in
theorem x_isBit7 (h : w_bit Ag I K) : pw_ok mX7_isBit 0 base n sh P Ag I K := by
  unfold w_bit at h
  split at h
  · obtain ⟨hA, hB⟩ := h
    refine pw_bd [_] pl_X7 c_i rfl rfl ?_
    refine pw_go okX7_isBit (cc []) ⟨Nat.le_refl _, Nat.le_refl _⟩ cc_n (st0) 30 ?_
    simp only [vc_s, vq_s, vk_s, e_iconst, e_bipush, e_sipush, e_ldc, e_ldc_w, e_iload_n, e_iload, e_aload_n, e_aload, e_istore_n, e_istore, e_astore_n, e_astore, e_iinc, e_iadd, e_isub, e_imul, e_iand, e_ior, e_ixor, e_idiv, e_irem, e_ishl, e_ishr, e_iushr, e_i2c, e_dup, e_dup2, e_pop, e_goto, e_ifCond, e_if_icmp, e_tableswitch, e_lookupswitch, e_getfield_i, e_getfield_r, e_putfield_i, e_putfield_z, e_iaload, e_caload, e_aaload, e_iastore, e_castore, e_arraylength, e_invokestatic, e_invokevirtual, e_ireturn, e_return_, s_i_c, s_r_c, s_v_i, s_v_r, s_l_0, s_l_1, s_l_2, s_l_3, s_l_4, s_l_5, s_l_6, s_a_0, s_a_1, s_a_2, s_a_3, s_m_0, s_m_i, s_m_r, s_m_i7, s_m_r7, s_m_i6, s_m_r6, s_m_i5, s_m_r5, s_m_i4, s_m_r4, s_w_n, s_w_c, s_p_eq, s_p_ne, s_p_lt, s_p_ge, s_p_gt, s_p_le, nk_i, nk_z, nk_c, rf_s, ov_s, ov_n, fin0, fin1, fin2, fin3, cond_true, cond_false, List.set_cons_zero, List.set_cons_succ, List.length_cons, List.length_nil, true_and, and_true, true_or, or_true, implies_true, forall_const, not_true_eq_false, not_false_eq_true, false_implies, Nat.reduceAdd, Nat.reduceLT, Nat.reduceBEq, Nat.reduceEqDiff, Bool.or_false, Bool.false_or, Bool.or_true, Bool.true_or, beq_self_eq_true, Nat.reduceLeDiff, Nat.reduceMul, Nat.reduceSub, eq_self, Nat.reduceBneDiff, st0_s, st1_s, st2_s, st3_s, reduceCtorEq, cc_s, cc_0, tl_0, cl_0, il_0, tl_1, cl_1, il_1, tl_2, cl_2, il_2, tl_3, cl_3, il_3, tl_4, cl_4, il_4, tl_5, cl_5, il_5, tl_6, cl_6, il_6, tl_7, cl_7, il_7, tl_8, cl_8, il_8, tl_9, cl_9, il_9, tl_10, cl_10, il_10, tl_11, cl_11, il_11, tl_12, cl_12, il_12, tl_13, cl_13, il_13, tl_14, cl_14, il_14, tl_15, cl_15, il_15, tl_16, cl_16, il_16, tl_20, tl_21, tl_25, tl_32, tl_48, tl_50, tl_57, tl_58, tl_59, tl_60, tl_99, tl_100, tl_101, tl_108, tl_109, tl_116, tl_120, tl_126, tl_374, tl_1122, tl_50000, i10, i01, tl_m1, tl_m2, tl_m3, tl_m4, nr_X7_isBit, tX7_isBit_0, tX7_isBit_1, tX7_isBit_4, tX7_isBit_5, tX7_isBit_6, tX7_isBit_9, tX7_isBit_10, tX7_isBit_13, tX7_isBit_14, pw_QK_s]
    refine ⟨fun q => hA (Or.inl q), fun q => ⟨fun q2 => hB (fun z => z.elim q q2), fun q2 => hA (Or.inr q2)⟩⟩
  · exact h.elim
def w_isNode (m : Nat) : pw_Wp := fun Ag I K => match Ag with
  | [.ref o, .int x] => o = m ∧ (1 ≤ (I (m + 1) 3).toInt ∧ (I (m + 1) 3).toInt ≤ 6) ∧ (0 ≤ x.toInt ∧ x.toInt < (I (m + 1) 3).toInt → K (some (.int 1)) I) ∧ (¬ (0 ≤ x.toInt ∧ x.toInt < (I (m + 1) 3).toInt) → K (some (.int 0)) I)
  | _ => False
set_option maxRecDepth 100000 in
set_option maxHeartbeats 4000000 in
theorem x_isNode (hM : pw_mod sh P m) (h : w_isNode m Ag I K) : pw_ok mX7_isNode 1 base n sh P Ag I K := by
  unfold w_isNode at h
  split at h
  · obtain ⟨rfl, h0, hA, hB⟩ := h
    obtain ⟨h1, ⟨h2, h3⟩, -⟩ := hM
    refine pw_bd [_, _] pl_X7 c_ri rfl rfl ?_
    refine pw_go okX7_isNode (cc [(94, w_in)]) ⟨Nat.le_refl _, Nat.le_refl _⟩ (cc_c (fun Ag I K h => ⟨0, Nat.le_of_ble_eq_true rfl, x_in h⟩) cc_n) (st0) 30 ?_
    simp only [vc_s, vq_s, vk_s, e_iconst, e_bipush, e_sipush, e_ldc, e_ldc_w, e_iload_n, e_iload, e_aload_n, e_aload, e_istore_n, e_istore, e_astore_n, e_astore, e_iinc, e_iadd, e_isub, e_imul, e_iand, e_ior, e_ixor, e_idiv, e_irem, e_ishl, e_ishr, e_iushr, e_i2c, e_dup, e_dup2, e_pop, e_goto, e_ifCond, e_if_icmp, e_tableswitch, e_lookupswitch, e_getfield_i, e_getfield_r, e_putfield_i, e_putfield_z, e_iaload, e_caload, e_aaload, e_iastore, e_castore, e_arraylength, e_invokestatic, e_invokevirtual, e_ireturn, e_return_, s_i_c, s_r_c, s_v_i, s_v_r, s_l_0, s_l_1, s_l_2, s_l_3, s_l_4, s_l_5, s_l_6, s_a_0, s_a_1, s_a_2, s_a_3, s_m_0, s_m_i, s_m_r, s_m_i7, s_m_r7, s_m_i6, s_m_r6, s_m_i5, s_m_r5, s_m_i4, s_m_r4, s_w_n, s_w_c, s_p_eq, s_p_ne, s_p_lt, s_p_ge, s_p_gt, s_p_le, nk_i, nk_z, nk_c, rf_s, ov_s, ov_n, fin0, fin1, fin2, fin3, cond_true, cond_false, List.set_cons_zero, List.set_cons_succ, List.length_cons, List.length_nil, true_and, and_true, true_or, or_true, implies_true, forall_const, not_true_eq_false, not_false_eq_true, false_implies, Nat.reduceAdd, Nat.reduceLT, Nat.reduceBEq, Nat.reduceEqDiff, Bool.or_false, Bool.false_or, Bool.or_true, Bool.true_or, beq_self_eq_true, Nat.reduceLeDiff, Nat.reduceMul, Nat.reduceSub, eq_self, Nat.reduceBneDiff, st0_s, st1_s, st2_s, st3_s, reduceCtorEq, cc_s, cc_0, tl_0, cl_0, il_0, tl_1, cl_1, il_1, tl_2, cl_2, il_2, tl_3, cl_3, il_3, tl_4, cl_4, il_4, tl_5, cl_5, il_5, tl_6, cl_6, il_6, tl_7, cl_7, il_7, tl_8, cl_8, il_8, tl_9, cl_9, il_9, tl_10, cl_10, il_10, tl_11, cl_11, il_11, tl_12, cl_12, il_12, tl_13, cl_13, il_13, tl_14, cl_14, il_14, tl_15, cl_15, il_15, tl_16, cl_16, il_16, tl_20, tl_21, tl_25, tl_32, tl_48, tl_50, tl_57, tl_58, tl_59, tl_60, tl_99, tl_100, tl_101, tl_108, tl_109, tl_116, tl_120, tl_126, tl_374, tl_1122, tl_50000, i10, i01, tl_m1, tl_m2, tl_m3, tl_m4, nr_X7_isNode, tX7_isNode_0, tX7_isNode_1, tX7_isNode_2, tX7_isNode_3, tX7_isNode_6, tX7_isNode_7, tX7_isNode_8, tX7_isNode_9, tX7_isNode_10, tX7_isNode_13, pw_QK_s, w_in, h1, h2, h3, ti_le]
    rename_i o x
    have e : (I (o + 1) 3 - 1).toInt = (I (o + 1) 3).toInt - 1 := ti_sub (y := 1) (by show _ ≤ _ - 1; omega) (by show _ - 1 < _; omega)
    rw [e]
    exact ⟨fun q => hA (by omega), fun q => hB (by omega)⟩
  · exact h.elim
def w_isLine (m : Nat) : pw_Wp := fun Ag I K => match Ag with
  | [.ref o, .int x] => o = m ∧ (0 ≤ (I (m + 1) 4).toInt ∧ (I (m + 1) 4).toInt ≤ 16) ∧ (0 ≤ x.toInt ∧ x.toInt < (I (m + 1) 4).toInt → K (some (.int 1)) I) ∧ (¬ (0 ≤ x.toInt ∧ x.toInt < (I (m + 1) 4).toInt) → K (some (.int 0)) I)
  | _ => False
set_option maxRecDepth 100000 in
set_option maxHeartbeats 4000000 in
theorem x_isLine (hM : pw_mod sh P m) (h : w_isLine m Ag I K) : pw_ok mX7_isLine 1 base n sh P Ag I K := by
  unfold w_isLine at h
  split at h
  · obtain ⟨rfl, h0, hA, hB⟩ := h
    obtain ⟨h1, ⟨h2, h3⟩, -⟩ := hM
    refine pw_bd [_, _] pl_X7 c_ri rfl rfl ?_
    refine pw_go okX7_isLine (cc [(94, w_in)]) ⟨Nat.le_refl _, Nat.le_refl _⟩ (cc_c (fun Ag I K h => ⟨0, Nat.le_of_ble_eq_true rfl, x_in h⟩) cc_n) (st0) 30 ?_
    simp only [vc_s, vq_s, vk_s, e_iconst, e_bipush, e_sipush, e_ldc, e_ldc_w, e_iload_n, e_iload, e_aload_n, e_aload, e_istore_n, e_istore, e_astore_n, e_astore, e_iinc, e_iadd, e_isub, e_imul, e_iand, e_ior, e_ixor, e_idiv, e_irem, e_ishl, e_ishr, e_iushr, e_i2c, e_dup, e_dup2, e_pop, e_goto, e_ifCond, e_if_icmp, e_tableswitch, e_lookupswitch, e_getfield_i, e_getfield_r, e_putfield_i, e_putfield_z, e_iaload, e_caload, e_aaload, e_iastore, e_castore, e_arraylength, e_invokestatic, e_invokevirtual, e_ireturn, e_return_, s_i_c, s_r_c, s_v_i, s_v_r, s_l_0, s_l_1, s_l_2, s_l_3, s_l_4, s_l_5, s_l_6, s_a_0, s_a_1, s_a_2, s_a_3, s_m_0, s_m_i, s_m_r, s_m_i7, s_m_r7, s_m_i6, s_m_r6, s_m_i5, s_m_r5, s_m_i4, s_m_r4, s_w_n, s_w_c, s_p_eq, s_p_ne, s_p_lt, s_p_ge, s_p_gt, s_p_le, nk_i, nk_z, nk_c, rf_s, ov_s, ov_n, fin0, fin1, fin2, fin3, cond_true, cond_false, List.set_cons_zero, List.set_cons_succ, List.length_cons, List.length_nil, true_and, and_true, true_or, or_true, implies_true, forall_const, not_true_eq_false, not_false_eq_true, false_implies, Nat.reduceAdd, Nat.reduceLT, Nat.reduceBEq, Nat.reduceEqDiff, Bool.or_false, Bool.false_or, Bool.or_true, Bool.true_or, beq_self_eq_true, Nat.reduceLeDiff, Nat.reduceMul, Nat.reduceSub, eq_self, Nat.reduceBneDiff, st0_s, st1_s, st2_s, st3_s, reduceCtorEq, cc_s, cc_0, tl_0, cl_0, il_0, tl_1, cl_1, il_1, tl_2, cl_2, il_2, tl_3, cl_3, il_3, tl_4, cl_4, il_4, tl_5, cl_5, il_5, tl_6, cl_6, il_6, tl_7, cl_7, il_7, tl_8, cl_8, il_8, tl_9, cl_9, il_9, tl_10, cl_10, il_10, tl_11, cl_11, il_11, tl_12, cl_12, il_12, tl_13, cl_13, il_13, tl_14, cl_14, il_14, tl_15, cl_15, il_15, tl_16, cl_16, il_16, tl_20, tl_21, tl_25, tl_32, tl_48, tl_50, tl_57, tl_58, tl_59, tl_60, tl_99, tl_100, tl_101, tl_108, tl_109, tl_116, tl_120, tl_126, tl_374, tl_1122, tl_50000, i10, i01, tl_m1, tl_m2, tl_m3, tl_m4, nr_X7_isLine, tX7_isLine_0, tX7_isLine_1, tX7_isLine_2, tX7_isLine_3, tX7_isLine_6, tX7_isLine_7, tX7_isLine_8, tX7_isLine_9, tX7_isLine_10, tX7_isLine_13, pw_QK_s, w_in, h1, h2, h3, ti_le]
    rename_i o x
    have e : (I (o + 1) 4 - 1).toInt = (I (o + 1) 4).toInt - 1 := ti_sub (y := 1) (by show _ ≤ _ - 1; omega) (by show _ - 1 < _; omega)
    rw [e]
    exact ⟨fun q => hA (by omega), fun q => hB (by omega)⟩
  · exact h.elim
def S_hid (S : Nat → Int32) (j : Nat) : Bool := S (16 + 25 * j + 2) == 1
/-- masked, itself or by a node on its way -/
def w_isHidden (m : Nat) : pw_Wp := fun Ag I K => match Ag with
  | [.ref o, .int x] => o = m ∧ InvB (I (m + 1)) ∧ (0 ≤ x.toInt ∧ x.toInt < 16) ∧ (hidS (I (m + 1)) x.toNatClampNeg = true → K (some (.int 1)) I) ∧ (hidS (I (m + 1)) x.toNatClampNeg = false → K (some (.int 0)) I)
  | _ => False
set_option maxRecDepth 100000 in
set_option maxHeartbeats 4000000 in
theorem x_isHidden (hM : pw_mod sh P m) (h : w_isHidden m Ag I K) : pw_ok mX7_isHidden 1 base n sh P Ag I K := by
  unfold w_isHidden at h
  split at h
  · rename_i o x
    obtain ⟨rfl, hI, hx, hA, hB⟩ := h
    obtain ⟨h1, ⟨h2, h3⟩, -⟩ := hM
    obtain ⟨k, rfl, hk⟩ : ∃ k : Nat, x = nI k ∧ k < 16 := ⟨x.toNatClampNeg, ti_nat hx.1, by have := (show x.toNatClampNeg = x.toInt.toNat from rfl); omega⟩
    rw [cl_nI (by omega)] at hA hB
    refine pw_bd [_, _, _, _] pl_X7 c_ri rfl rfl ?_
    have loop : ∀ (f j : Nat) (is : Int32) (L0 : Int32), j < 6 → j < f → bit01 is → (is = 1 ∨ hidW (I (o + 1)) (wayS (I (o + 1)) j) = true → K (some (.int 1)) I) → (is = 0 ∧ hidW (I (o + 1)) (wayS (I (o + 1)) j) = false → K (some (.int 0)) I) →
        PW (mX7_isHidden, 1, 0, 0, none, base) n sh P I 0 0 33 [some (.ref o), some (.int L0), some (.int is), some (.int (nI j))] [] (pw_QK n sh P K) := by
      intro f
      induction f with
      | zero => intro j is L0 h1 h2; omega
      | succ f ih =>
        intro j is L0 hj hf his hT hF
        refine pw_go okX7_isHidden (cc [(98, w_n)]) ⟨Nat.le_refl _, Nat.le_refl _⟩ (cc_c (fun Ag I K h => ⟨0, Nat.le_of_ble_eq_true rfl, x_n h⟩) cc_n) (st1 33) 60 ?_
        simp only [vc_s, vq_s, vk_s, e_iconst, e_bipush, e_sipush, e_ldc, e_ldc_w, e_iload_n, e_iload, e_aload_n, e_aload, e_istore_n, e_istore, e_astore_n, e_astore, e_iinc, e_iadd, e_isub, e_imul, e_iand, e_ior, e_ixor, e_idiv, e_irem, e_ishl, e_ishr, e_iushr, e_i2c, e_dup, e_dup2, e_pop, e_goto, e_ifCond, e_if_icmp, e_tableswitch, e_lookupswitch, e_getfield_i, e_getfield_r, e_putfield_i, e_putfield_z, e_iaload, e_caload, e_aaload, e_iastore, e_castore, e_arraylength, e_invokestatic, e_invokevirtual, e_ireturn, e_return_, s_i_c, s_r_c, s_v_i, s_v_r, s_l_0, s_l_1, s_l_2, s_l_3, s_l_4, s_l_5, s_l_6, s_a_0, s_a_1, s_a_2, s_a_3, s_m_0, s_m_i, s_m_r, s_m_i7, s_m_r7, s_m_i6, s_m_r6, s_m_i5, s_m_r5, s_m_i4, s_m_r4, s_w_n, s_w_c, s_p_eq, s_p_ne, s_p_lt, s_p_ge, s_p_gt, s_p_le, nk_i, nk_z, nk_c, rf_s, ov_s, ov_n, fin0, fin1, fin2, fin3, cond_true, cond_false, List.set_cons_zero, List.set_cons_succ, List.length_cons, List.length_nil, true_and, and_true, true_or, or_true, implies_true, forall_const, not_true_eq_false, not_false_eq_true, false_implies, Nat.reduceAdd, Nat.reduceLT, Nat.reduceBEq, Nat.reduceEqDiff, Bool.or_false, Bool.false_or, Bool.or_true, Bool.true_or, beq_self_eq_true, Nat.reduceLeDiff, Nat.reduceMul, Nat.reduceSub, eq_self, Nat.reduceBneDiff, st0_s, st1_s, st2_s, st3_s, reduceCtorEq, cc_s, cc_0, tl_0, cl_0, il_0, tl_1, cl_1, il_1, tl_2, cl_2, il_2, tl_3, cl_3, il_3, tl_4, cl_4, il_4, tl_5, cl_5, il_5, tl_6, cl_6, il_6, tl_7, cl_7, il_7, tl_8, cl_8, il_8, tl_9, cl_9, il_9, tl_10, cl_10, il_10, tl_11, cl_11, il_11, tl_12, cl_12, il_12, tl_13, cl_13, il_13, tl_14, cl_14, il_14, tl_15, cl_15, il_15, tl_16, cl_16, il_16, tl_20, tl_21, tl_25, tl_32, tl_48, tl_50, tl_57, tl_58, tl_59, tl_60, tl_99, tl_100, tl_101, tl_108, tl_109, tl_116, tl_120, tl_126, tl_374, tl_1122, tl_50000, i10, i01, tl_m1, tl_m2, tl_m3, tl_m4, nr_X7_isHidden, tX7_isHidden_0, tX7_isHidden_1, tX7_isHidden_4, tX7_isHidden_5, tX7_isHidden_8, tX7_isHidden_9, tX7_isHidden_10, tX7_isHidden_11, tX7_isHidden_12, tX7_isHidden_15, tX7_isHidden_16, tX7_isHidden_19, tX7_isHidden_20, tX7_isHidden_21, tX7_isHidden_22, tX7_isHidden_25, tX7_isHidden_26, tX7_isHidden_29, tX7_isHidden_30, tX7_isHidden_31, tX7_isHidden_32, tX7_isHidden_33, tX7_isHidden_34, tX7_isHidden_37, tX7_isHidden_38, tX7_isHidden_39, tX7_isHidden_42, tX7_isHidden_43, tX7_isHidden_46, tX7_isHidden_47, tX7_isHidden_48, tX7_isHidden_49, tX7_isHidden_50, tX7_isHidden_53, tX7_isHidden_54, tX7_isHidden_57, tX7_isHidden_58, tX7_isHidden_59, tX7_isHidden_60, tX7_isHidden_61, tX7_isHidden_64, tX7_isHidden_65, tX7_isHidden_68, tX7_isHidden_69, tX7_isHidden_70, tX7_isHidden_71, tX7_isHidden_72, tX7_isHidden_75, tX7_isHidden_76, pw_QK_s, w_n, h1, h2, h3]
        simp (disch := omega) only [ix_l, ix_n, ix_0, ix_1, ix_2, ix_3, ix_4, ix_5, ix_6, ix_7, ix_8, ix_9, ix_10, ix_11, ix_12, ix_13, ix_14, ix_15, ix_20, ix_100, ix_374, jx_100, jx_11, jx_374, kx_374, cl_nI, in_nI, Nat.add_zero, true_and, nI_pos, false_implies, not_false_eq_true, forall_const]
        have hbit := (hI.2.2.2.1 j hj).2.1
        have hnext : ∀ is' : Int32, bit01 is' → (is' = 1 ↔ (is = 1 ∨ S_hid (I (o + 1)) j = true)) → PW (mX7_isHidden, 1, 0, 0, none, base) n sh P I 0 0 33 [some (.ref o), some (.int L0), some (.int is'), some (.int (I (o + 1) (16 + 25 * j)))] [] (pw_QK n sh P K) := by
          intro is' hb' he
          by_cases hj0 : j = 0
          · subst hj0
            rw [show I (o + 1) (16 + 25 * 0) = -1 from hI.2.2.2.2.1.1]
            refine pw_go okX7_isHidden (cc [(98, w_n)]) ⟨Nat.le_refl _, Nat.le_refl _⟩ (cc_c (fun Ag I K h => ⟨0, Nat.le_of_ble_eq_true rfl, x_n h⟩) cc_n) (st1 33) 60 ?_
            simp only [vc_s, vq_s, vk_s, e_iconst, e_bipush, e_sipush, e_ldc, e_ldc_w, e_iload_n, e_iload, e_aload_n, e_aload, e_istore_n, e_istore, e_astore_n, e_astore, e_iinc, e_iadd, e_isub, e_imul, e_iand, e_ior, e_ixor, e_idiv, e_irem, e_ishl, e_ishr, e_iushr, e_i2c, e_dup, e_dup2, e_pop, e_goto, e_ifCond, e_if_icmp, e_tableswitch, e_lookupswitch, e_getfield_i, e_getfield_r, e_putfield_i, e_putfield_z, e_iaload, e_caload, e_aaload, e_iastore, e_castore, e_arraylength, e_invokestatic, e_invokevirtual, e_ireturn, e_return_, s_i_c, s_r_c, s_v_i, s_v_r, s_l_0, s_l_1, s_l_2, s_l_3, s_l_4, s_l_5, s_l_6, s_a_0, s_a_1, s_a_2, s_a_3, s_m_0, s_m_i, s_m_r, s_m_i7, s_m_r7, s_m_i6, s_m_r6, s_m_i5, s_m_r5, s_m_i4, s_m_r4, s_w_n, s_w_c, s_p_eq, s_p_ne, s_p_lt, s_p_ge, s_p_gt, s_p_le, nk_i, nk_z, nk_c, rf_s, ov_s, ov_n, fin0, fin1, fin2, fin3, cond_true, cond_false, List.set_cons_zero, List.set_cons_succ, List.length_cons, List.length_nil, true_and, and_true, true_or, or_true, implies_true, forall_const, not_true_eq_false, not_false_eq_true, false_implies, Nat.reduceAdd, Nat.reduceLT, Nat.reduceBEq, Nat.reduceEqDiff, Bool.or_false, Bool.false_or, Bool.or_true, Bool.true_or, beq_self_eq_true, Nat.reduceLeDiff, Nat.reduceMul, Nat.reduceSub, eq_self, Nat.reduceBneDiff, st0_s, st1_s, st2_s, st3_s, reduceCtorEq, cc_s, cc_0, tl_0, cl_0, il_0, tl_1, cl_1, il_1, tl_2, cl_2, il_2, tl_3, cl_3, il_3, tl_4, cl_4, il_4, tl_5, cl_5, il_5, tl_6, cl_6, il_6, tl_7, cl_7, il_7, tl_8, cl_8, il_8, tl_9, cl_9, il_9, tl_10, cl_10, il_10, tl_11, cl_11, il_11, tl_12, cl_12, il_12, tl_13, cl_13, il_13, tl_14, cl_14, il_14, tl_15, cl_15, il_15, tl_16, cl_16, il_16, tl_20, tl_21, tl_25, tl_32, tl_48, tl_50, tl_57, tl_58, tl_59, tl_60, tl_99, tl_100, tl_101, tl_108, tl_109, tl_116, tl_120, tl_126, tl_374, tl_1122, tl_50000, i10, i01, tl_m1, tl_m2, tl_m3, tl_m4, nr_X7_isHidden, tX7_isHidden_0, tX7_isHidden_1, tX7_isHidden_4, tX7_isHidden_5, tX7_isHidden_8, tX7_isHidden_9, tX7_isHidden_10, tX7_isHidden_11, tX7_isHidden_12, tX7_isHidden_15, tX7_isHidden_16, tX7_isHidden_19, tX7_isHidden_20, tX7_isHidden_21, tX7_isHidden_22, tX7_isHidden_25, tX7_isHidden_26, tX7_isHidden_29, tX7_isHidden_30, tX7_isHidden_31, tX7_isHidden_32, tX7_isHidden_33, tX7_isHidden_34, tX7_isHidden_37, tX7_isHidden_38, tX7_isHidden_39, tX7_isHidden_42, tX7_isHidden_43, tX7_isHidden_46, tX7_isHidden_47, tX7_isHidden_48, tX7_isHidden_49, tX7_isHidden_50, tX7_isHidden_53, tX7_isHidden_54, tX7_isHidden_57, tX7_isHidden_58, tX7_isHidden_59, tX7_isHidden_60, tX7_isHidden_61, tX7_isHidden_64, tX7_isHidden_65, tX7_isHidden_68, tX7_isHidden_69, tX7_isHidden_70, tX7_isHidden_71, tX7_isHidden_72, tX7_isHidden_75, tX7_isHidden_76, pw_QK_s, w_n, h1, h2, h3]
            rw [wayS_0] at hT hF
            refine ⟨fun _ => ⟨hb', ?_⟩, fun q => absurd (by decide) q⟩
            rcases hb' with rfl | rfl
            · refine hF ⟨?_, ?_⟩
              · rcases his with q | q
                · exact q
                · exact absurd (he.mpr (Or.inl q)) (by decide)
              · cases q : hidW (I (o + 1)) [0] with
                | false => rfl
                | true => exact absurd (he.mpr (Or.inr (by simpa [hidW, S_hid] using q))) (by decide)
            · refine hT ?_
              rcases he.mp rfl with q | q
              · exact Or.inl q
              · exact Or.inr (by simpa [hidW, S_hid] using q)
          · have hon := hI.2.2.2.2.1.2 j (by omega) hj
            rw [wayS_s hI (by omega) hj] at hT hF
            rw [hon.1]
            refine ih _ is' L0 (by omega) (by omega) hb' (fun q => hT ?_) (fun q => hF ?_)
            · rcases q with q | q
              · rcases he.mp q with q | q
                · exact Or.inl q
                · exact Or.inr (by simp only [hidW, List.any_cons, Bool.or_eq_true]; exact Or.inl q)
              · exact Or.inr (by simp only [hidW, List.any_cons, Bool.or_eq_true]; exact Or.inr q)
            · have n1 : ¬ (is = 1 ∨ S_hid (I (o + 1)) j = true) := fun z => absurd ((he.mpr z).symm.trans q.1) (by decide)
              refine ⟨?_, ?_⟩
              · rcases his with z | z
                · exact z
                · exact absurd (Or.inl z) n1
              · cases z : hidW (I (o + 1)) (j :: wayS (I (o + 1)) (onS (I (o + 1)) j)) with
                | false => rfl
                | true =>
                  simp only [hidW, List.any_cons, Bool.or_eq_true] at z
                  rcases z with z | z
                  · exact absurd (Or.inr z) n1
                  · exact absurd (z.symm.trans q.2) (by decide)
        refine ⟨fun q => hnext _ ?_ ?_, fun q => hnext _ ?_ ?_⟩
        · rw [Int32.or_zero]; exact his
        · rw [Int32.or_zero]
          exact ⟨Or.inl, fun z => z.elim id (fun z => absurd (by simpa [S_hid] using z) q)⟩
        · rcases his with rfl | rfl <;> exact Or.inr rfl
        · rcases his with rfl | rfl <;> exact ⟨fun _ => Or.inr (by simpa [S_hid] using q), fun _ => rfl⟩
    have hat := (hI.2.2.2.2.2.1 k hk).1
    have hnn := hI.1
    refine pw_go okX7_isHidden (cc [(99, w_l)]) ⟨Nat.le_refl _, Nat.le_refl _⟩ (cc_c (fun Ag I K h => ⟨0, Nat.le_of_ble_eq_true rfl, x_l h⟩) cc_n) (st1 33) 60 ?_
    simp only [vc_s, vq_s, vk_s, e_iconst, e_bipush, e_sipush, e_ldc, e_ldc_w, e_iload_n, e_iload, e_aload_n, e_aload, e_istore_n, e_istore, e_astore_n, e_astore, e_iinc, e_iadd, e_isub, e_imul, e_iand, e_ior, e_ixor, e_idiv, e_irem, e_ishl, e_ishr, e_iushr, e_i2c, e_dup, e_dup2, e_pop, e_goto, e_ifCond, e_if_icmp, e_tableswitch, e_lookupswitch, e_getfield_i, e_getfield_r, e_putfield_i, e_putfield_z, e_iaload, e_caload, e_aaload, e_iastore, e_castore, e_arraylength, e_invokestatic, e_invokevirtual, e_ireturn, e_return_, s_i_c, s_r_c, s_v_i, s_v_r, s_l_0, s_l_1, s_l_2, s_l_3, s_l_4, s_l_5, s_l_6, s_a_0, s_a_1, s_a_2, s_a_3, s_m_0, s_m_i, s_m_r, s_m_i7, s_m_r7, s_m_i6, s_m_r6, s_m_i5, s_m_r5, s_m_i4, s_m_r4, s_w_n, s_w_c, s_p_eq, s_p_ne, s_p_lt, s_p_ge, s_p_gt, s_p_le, nk_i, nk_z, nk_c, rf_s, ov_s, ov_n, fin0, fin1, fin2, fin3, cond_true, cond_false, List.set_cons_zero, List.set_cons_succ, List.length_cons, List.length_nil, true_and, and_true, true_or, or_true, implies_true, forall_const, not_true_eq_false, not_false_eq_true, false_implies, Nat.reduceAdd, Nat.reduceLT, Nat.reduceBEq, Nat.reduceEqDiff, Bool.or_false, Bool.false_or, Bool.or_true, Bool.true_or, beq_self_eq_true, Nat.reduceLeDiff, Nat.reduceMul, Nat.reduceSub, eq_self, Nat.reduceBneDiff, st0_s, st1_s, st2_s, st3_s, reduceCtorEq, cc_s, cc_0, tl_0, cl_0, il_0, tl_1, cl_1, il_1, tl_2, cl_2, il_2, tl_3, cl_3, il_3, tl_4, cl_4, il_4, tl_5, cl_5, il_5, tl_6, cl_6, il_6, tl_7, cl_7, il_7, tl_8, cl_8, il_8, tl_9, cl_9, il_9, tl_10, cl_10, il_10, tl_11, cl_11, il_11, tl_12, cl_12, il_12, tl_13, cl_13, il_13, tl_14, cl_14, il_14, tl_15, cl_15, il_15, tl_16, cl_16, il_16, tl_20, tl_21, tl_25, tl_32, tl_48, tl_50, tl_57, tl_58, tl_59, tl_60, tl_99, tl_100, tl_101, tl_108, tl_109, tl_116, tl_120, tl_126, tl_374, tl_1122, tl_50000, i10, i01, tl_m1, tl_m2, tl_m3, tl_m4, nr_X7_isHidden, tX7_isHidden_0, tX7_isHidden_1, tX7_isHidden_4, tX7_isHidden_5, tX7_isHidden_8, tX7_isHidden_9, tX7_isHidden_10, tX7_isHidden_11, tX7_isHidden_12, tX7_isHidden_15, tX7_isHidden_16, tX7_isHidden_19, tX7_isHidden_20, tX7_isHidden_21, tX7_isHidden_22, tX7_isHidden_25, tX7_isHidden_26, tX7_isHidden_29, tX7_isHidden_30, tX7_isHidden_31, tX7_isHidden_32, tX7_isHidden_33, tX7_isHidden_34, tX7_isHidden_37, tX7_isHidden_38, tX7_isHidden_39, tX7_isHidden_42, tX7_isHidden_43, tX7_isHidden_46, tX7_isHidden_47, tX7_isHidden_48, tX7_isHidden_49, tX7_isHidden_50, tX7_isHidden_53, tX7_isHidden_54, tX7_isHidden_57, tX7_isHidden_58, tX7_isHidden_59, tX7_isHidden_60, tX7_isHidden_61, tX7_isHidden_64, tX7_isHidden_65, tX7_isHidden_68, tX7_isHidden_69, tX7_isHidden_70, tX7_isHidden_71, tX7_isHidden_72, tX7_isHidden_75, tX7_isHidden_76, pw_QK_s, w_l, h1, h2, h3]
    simp (disch := omega) only [ix_l, ix_n, ix_0, ix_1, ix_2, ix_3, ix_4, ix_5, ix_6, ix_7, ix_8, ix_9, ix_10, ix_11, ix_12, ix_13, ix_14, ix_15, ix_20, ix_100, ix_374, jx_100, jx_11, jx_374, kx_374, cl_nI, in_nI, Nat.add_zero, true_and]
    rw [hat.1]
    refine ⟨fun q => loop 6 _ 0 _ (by omega) (by omega) (Or.inl rfl) (fun z => hA ?_) (fun z => hB ?_), fun q => loop 6 _ 1 _ (by omega) (by omega) (Or.inr rfl) (fun z => hA ?_) (fun z => absurd z.1 (by decide))⟩
    · rcases z with z | z
      · exact absurd z (by decide)
      · simp only [hidS, Bool.or_eq_true]; exact Or.inr z
    · simp only [hidS, Bool.or_eq_false_iff]
      exact ⟨by simpa using q, z.2⟩
    · simp only [hidS, Bool.or_eq_true]
      exact Or.inl (by simpa using q)
  · exact h.elim
/-- node j is on line k's way -/
def w_isOnWay (m : Nat) : pw_Wp := fun Ag I K => match Ag with
  | [.ref o, .int y, .int x] => o = m ∧ InvB (I (m + 1)) ∧ (0 ≤ y.toInt ∧ y.toInt < 6) ∧ (0 ≤ x.toInt ∧ x.toInt < 16) ∧ (onWay (I (m + 1)) y.toNatClampNeg x.toNatClampNeg = true → K (some (.int 1)) I) ∧ (onWay (I (m + 1)) y.toNatClampNeg x.toNatClampNeg = false → K (some (.int 0)) I)
  | _ => False
set_option maxRecDepth 100000 in
set_option maxHeartbeats 4000000 in
theorem x_isOnWay (hM : pw_mod sh P m) (h : w_isOnWay m Ag I K) : pw_ok mX7_isOnWay 1 base n sh P Ag I K := by
  unfold w_isOnWay at h
  split at h
  · rename_i o y x
    obtain ⟨rfl, hI, hy, hx, hA, hB⟩ := h
    obtain ⟨h1, ⟨h2, h3⟩, -⟩ := hM
    obtain ⟨k, rfl, hk⟩ := tn16 hx
    obtain ⟨y, rfl, hyk⟩ := tn6 hy
    rw [cl_nI (by omega), cl_nI (by omega)] at hA hB
    refine pw_bd [_, _, _, _] pl_X7 c_rii rfl rfl ?_
    have loop : ∀ (f j : Nat) (L0 : Int32), j < 6 → j < f → ((wayS (I (o + 1)) j).contains y = true → K (some (.int 1)) I) → ((wayS (I (o + 1)) j).contains y = false → K (some (.int 0)) I) →
        PW (mX7_isOnWay, 1, 0, 0, none, base) n sh P I 0 0 12 [some (.ref o), some (.int (nI y)), some (.int L0), some (.int (nI j))] [] (pw_QK n sh P K) := by
      intro f
      induction f with
      | zero => intro j L0 h1 h2; omega
      | succ f ih =>
        intro j L0 hj hf hT hF
        refine pw_go okX7_isOnWay (cc [(98, w_n)]) ⟨Nat.le_refl _, Nat.le_refl _⟩ (cc_c (fun Ag I K h => ⟨0, Nat.le_of_ble_eq_true rfl, x_n h⟩) cc_n) (st1 12) 60 ?_
        simp only [vc_s, vq_s, vk_s, e_iconst, e_bipush, e_sipush, e_ldc, e_ldc_w, e_iload_n, e_iload, e_aload_n, e_aload, e_istore_n, e_istore, e_astore_n, e_astore, e_iinc, e_iadd, e_isub, e_imul, e_iand, e_ior, e_ixor, e_idiv, e_irem, e_ishl, e_ishr, e_iushr, e_i2c, e_dup, e_dup2, e_pop, e_goto, e_ifCond, e_if_icmp, e_tableswitch, e_lookupswitch, e_getfield_i, e_getfield_r, e_putfield_i, e_putfield_z, e_iaload, e_caload, e_aaload, e_iastore, e_castore, e_arraylength, e_invokestatic, e_invokevirtual, e_ireturn, e_return_, s_i_c, s_r_c, s_v_i, s_v_r, s_l_0, s_l_1, s_l_2, s_l_3, s_l_4, s_l_5, s_l_6, s_a_0, s_a_1, s_a_2, s_a_3, s_m_0, s_m_i, s_m_r, s_m_i7, s_m_r7, s_m_i6, s_m_r6, s_m_i5, s_m_r5, s_m_i4, s_m_r4, s_w_n, s_w_c, s_p_eq, s_p_ne, s_p_lt, s_p_ge, s_p_gt, s_p_le, nk_i, nk_z, nk_c, rf_s, ov_s, ov_n, fin0, fin1, fin2, fin3, cond_true, cond_false, List.set_cons_zero, List.set_cons_succ, List.length_cons, List.length_nil, true_and, and_true, true_or, or_true, implies_true, forall_const, not_true_eq_false, not_false_eq_true, false_implies, Nat.reduceAdd, Nat.reduceLT, Nat.reduceBEq, Nat.reduceEqDiff, Bool.or_false, Bool.false_or, Bool.or_true, Bool.true_or, beq_self_eq_true, Nat.reduceLeDiff, Nat.reduceMul, Nat.reduceSub, eq_self, Nat.reduceBneDiff, st0_s, st1_s, st2_s, st3_s, reduceCtorEq, cc_s, cc_0, tl_0, cl_0, il_0, tl_1, cl_1, il_1, tl_2, cl_2, il_2, tl_3, cl_3, il_3, tl_4, cl_4, il_4, tl_5, cl_5, il_5, tl_6, cl_6, il_6, tl_7, cl_7, il_7, tl_8, cl_8, il_8, tl_9, cl_9, il_9, tl_10, cl_10, il_10, tl_11, cl_11, il_11, tl_12, cl_12, il_12, tl_13, cl_13, il_13, tl_14, cl_14, il_14, tl_15, cl_15, il_15, tl_16, cl_16, il_16, tl_20, tl_21, tl_25, tl_32, tl_48, tl_50, tl_57, tl_58, tl_59, tl_60, tl_99, tl_100, tl_101, tl_108, tl_109, tl_116, tl_120, tl_126, tl_374, tl_1122, tl_50000, i10, i01, tl_m1, tl_m2, tl_m3, tl_m4, nr_X7_isOnWay, tX7_isOnWay_0, tX7_isOnWay_1, tX7_isOnWay_4, tX7_isOnWay_5, tX7_isOnWay_8, tX7_isOnWay_9, tX7_isOnWay_10, tX7_isOnWay_11, tX7_isOnWay_12, tX7_isOnWay_13, tX7_isOnWay_16, tX7_isOnWay_17, tX7_isOnWay_18, tX7_isOnWay_21, tX7_isOnWay_22, tX7_isOnWay_25, tX7_isOnWay_26, tX7_isOnWay_29, tX7_isOnWay_30, tX7_isOnWay_31, tX7_isOnWay_32, tX7_isOnWay_33, tX7_isOnWay_36, tX7_isOnWay_37, tX7_isOnWay_38, tX7_isOnWay_41, tX7_isOnWay_42, tX7_isOnWay_45, tX7_isOnWay_46, pw_QK_s, w_n, h1, h2, h3]
        simp (disch := omega) only [ix_l, ix_n, ix_0, ix_1, ix_2, ix_3, ix_4, ix_5, ix_6, ix_7, ix_8, ix_9, ix_10, ix_11, ix_12, ix_13, ix_14, ix_15, ix_20, ix_100, ix_374, jx_100, jx_11, jx_374, kx_374, cl_nI, in_nI, Nat.add_zero, true_and, nI_pos, nI_inj, false_implies, not_false_eq_true, forall_const]
        refine ⟨fun q2 => ⟨fun z => absurd q2 z, fun _ => hT ?_⟩, fun q => ?_⟩
        · subst q2
          by_cases hj0 : j = 0
          · subst hj0; rfl
          · rw [wayS_s hI (by omega) hj]; simp
        · by_cases hj0 : j = 0
          · subst hj0
            rw [show I (o + 1) (16 + 25 * 0) = -1 from hI.2.2.2.2.1.1]
            refine pw_go okX7_isOnWay (cc [(98, w_n)]) ⟨Nat.le_refl _, Nat.le_refl _⟩ (cc_c (fun Ag I K h => ⟨0, Nat.le_of_ble_eq_true rfl, x_n h⟩) cc_n) (st1 12) 60 ?_
            simp only [vc_s, vq_s, vk_s, e_iconst, e_bipush, e_sipush, e_ldc, e_ldc_w, e_iload_n, e_iload, e_aload_n, e_aload, e_istore_n, e_istore, e_astore_n, e_astore, e_iinc, e_iadd, e_isub, e_imul, e_iand, e_ior, e_ixor, e_idiv, e_irem, e_ishl, e_ishr, e_iushr, e_i2c, e_dup, e_dup2, e_pop, e_goto, e_ifCond, e_if_icmp, e_tableswitch, e_lookupswitch, e_getfield_i, e_getfield_r, e_putfield_i, e_putfield_z, e_iaload, e_caload, e_aaload, e_iastore, e_castore, e_arraylength, e_invokestatic, e_invokevirtual, e_ireturn, e_return_, s_i_c, s_r_c, s_v_i, s_v_r, s_l_0, s_l_1, s_l_2, s_l_3, s_l_4, s_l_5, s_l_6, s_a_0, s_a_1, s_a_2, s_a_3, s_m_0, s_m_i, s_m_r, s_m_i7, s_m_r7, s_m_i6, s_m_r6, s_m_i5, s_m_r5, s_m_i4, s_m_r4, s_w_n, s_w_c, s_p_eq, s_p_ne, s_p_lt, s_p_ge, s_p_gt, s_p_le, nk_i, nk_z, nk_c, rf_s, ov_s, ov_n, fin0, fin1, fin2, fin3, cond_true, cond_false, List.set_cons_zero, List.set_cons_succ, List.length_cons, List.length_nil, true_and, and_true, true_or, or_true, implies_true, forall_const, not_true_eq_false, not_false_eq_true, false_implies, Nat.reduceAdd, Nat.reduceLT, Nat.reduceBEq, Nat.reduceEqDiff, Bool.or_false, Bool.false_or, Bool.or_true, Bool.true_or, beq_self_eq_true, Nat.reduceLeDiff, Nat.reduceMul, Nat.reduceSub, eq_self, Nat.reduceBneDiff, st0_s, st1_s, st2_s, st3_s, reduceCtorEq, cc_s, cc_0, tl_0, cl_0, il_0, tl_1, cl_1, il_1, tl_2, cl_2, il_2, tl_3, cl_3, il_3, tl_4, cl_4, il_4, tl_5, cl_5, il_5, tl_6, cl_6, il_6, tl_7, cl_7, il_7, tl_8, cl_8, il_8, tl_9, cl_9, il_9, tl_10, cl_10, il_10, tl_11, cl_11, il_11, tl_12, cl_12, il_12, tl_13, cl_13, il_13, tl_14, cl_14, il_14, tl_15, cl_15, il_15, tl_16, cl_16, il_16, tl_20, tl_21, tl_25, tl_32, tl_48, tl_50, tl_57, tl_58, tl_59, tl_60, tl_99, tl_100, tl_101, tl_108, tl_109, tl_116, tl_120, tl_126, tl_374, tl_1122, tl_50000, i10, i01, tl_m1, tl_m2, tl_m3, tl_m4, nr_X7_isOnWay, tX7_isOnWay_0, tX7_isOnWay_1, tX7_isOnWay_4, tX7_isOnWay_5, tX7_isOnWay_8, tX7_isOnWay_9, tX7_isOnWay_10, tX7_isOnWay_11, tX7_isOnWay_12, tX7_isOnWay_13, tX7_isOnWay_16, tX7_isOnWay_17, tX7_isOnWay_18, tX7_isOnWay_21, tX7_isOnWay_22, tX7_isOnWay_25, tX7_isOnWay_26, tX7_isOnWay_29, tX7_isOnWay_30, tX7_isOnWay_31, tX7_isOnWay_32, tX7_isOnWay_33, tX7_isOnWay_36, tX7_isOnWay_37, tX7_isOnWay_38, tX7_isOnWay_41, tX7_isOnWay_42, tX7_isOnWay_45, tX7_isOnWay_46, pw_QK_s, w_n, h1, h2, h3]
            rw [wayS_0] at hF
            have e : ¬ (-1 : Int32) = nI y := fun z => by
              have := congrArg Int32.toInt z
              rw [ti_nI (by omega)] at this
              have h9 : (-1 : Int32).toInt = -1 := rfl
              omega
            refine ⟨fun _ => ⟨fun _ => hF (by simp; omega), fun z => absurd z e⟩, fun q => absurd (by decide) q⟩
          · have hon := hI.2.2.2.2.1.2 j (by omega) hj
            rw [wayS_s hI (by omega) hj, List.contains_cons, show (y == j) = false by simp; omega, Bool.false_or] at hT hF
            rw [hon.1]
            exact ih _ L0 (by omega) (by omega) hT hF
    have hat := (hI.2.2.2.2.2.1 k hk).1
    have hnn := hI.1
    refine pw_go okX7_isOnWay (cc [(99, w_l)]) ⟨Nat.le_refl _, Nat.le_refl _⟩ (cc_c (fun Ag I K h => ⟨0, Nat.le_of_ble_eq_true rfl, x_l h⟩) cc_n) (st1 12) 60 ?_
    simp only [vc_s, vq_s, vk_s, e_iconst, e_bipush, e_sipush, e_ldc, e_ldc_w, e_iload_n, e_iload, e_aload_n, e_aload, e_istore_n, e_istore, e_astore_n, e_astore, e_iinc, e_iadd, e_isub, e_imul, e_iand, e_ior, e_ixor, e_idiv, e_irem, e_ishl, e_ishr, e_iushr, e_i2c, e_dup, e_dup2, e_pop, e_goto, e_ifCond, e_if_icmp, e_tableswitch, e_lookupswitch, e_getfield_i, e_getfield_r, e_putfield_i, e_putfield_z, e_iaload, e_caload, e_aaload, e_iastore, e_castore, e_arraylength, e_invokestatic, e_invokevirtual, e_ireturn, e_return_, s_i_c, s_r_c, s_v_i, s_v_r, s_l_0, s_l_1, s_l_2, s_l_3, s_l_4, s_l_5, s_l_6, s_a_0, s_a_1, s_a_2, s_a_3, s_m_0, s_m_i, s_m_r, s_m_i7, s_m_r7, s_m_i6, s_m_r6, s_m_i5, s_m_r5, s_m_i4, s_m_r4, s_w_n, s_w_c, s_p_eq, s_p_ne, s_p_lt, s_p_ge, s_p_gt, s_p_le, nk_i, nk_z, nk_c, rf_s, ov_s, ov_n, fin0, fin1, fin2, fin3, cond_true, cond_false, List.set_cons_zero, List.set_cons_succ, List.length_cons, List.length_nil, true_and, and_true, true_or, or_true, implies_true, forall_const, not_true_eq_false, not_false_eq_true, false_implies, Nat.reduceAdd, Nat.reduceLT, Nat.reduceBEq, Nat.reduceEqDiff, Bool.or_false, Bool.false_or, Bool.or_true, Bool.true_or, beq_self_eq_true, Nat.reduceLeDiff, Nat.reduceMul, Nat.reduceSub, eq_self, Nat.reduceBneDiff, st0_s, st1_s, st2_s, st3_s, reduceCtorEq, cc_s, cc_0, tl_0, cl_0, il_0, tl_1, cl_1, il_1, tl_2, cl_2, il_2, tl_3, cl_3, il_3, tl_4, cl_4, il_4, tl_5, cl_5, il_5, tl_6, cl_6, il_6, tl_7, cl_7, il_7, tl_8, cl_8, il_8, tl_9, cl_9, il_9, tl_10, cl_10, il_10, tl_11, cl_11, il_11, tl_12, cl_12, il_12, tl_13, cl_13, il_13, tl_14, cl_14, il_14, tl_15, cl_15, il_15, tl_16, cl_16, il_16, tl_20, tl_21, tl_25, tl_32, tl_48, tl_50, tl_57, tl_58, tl_59, tl_60, tl_99, tl_100, tl_101, tl_108, tl_109, tl_116, tl_120, tl_126, tl_374, tl_1122, tl_50000, i10, i01, tl_m1, tl_m2, tl_m3, tl_m4, nr_X7_isOnWay, tX7_isOnWay_0, tX7_isOnWay_1, tX7_isOnWay_4, tX7_isOnWay_5, tX7_isOnWay_8, tX7_isOnWay_9, tX7_isOnWay_10, tX7_isOnWay_11, tX7_isOnWay_12, tX7_isOnWay_13, tX7_isOnWay_16, tX7_isOnWay_17, tX7_isOnWay_18, tX7_isOnWay_21, tX7_isOnWay_22, tX7_isOnWay_25, tX7_isOnWay_26, tX7_isOnWay_29, tX7_isOnWay_30, tX7_isOnWay_31, tX7_isOnWay_32, tX7_isOnWay_33, tX7_isOnWay_36, tX7_isOnWay_37, tX7_isOnWay_38, tX7_isOnWay_41, tX7_isOnWay_42, tX7_isOnWay_45, tX7_isOnWay_46, pw_QK_s, w_l, h1, h2, h3]
    simp (disch := omega) only [ix_l, ix_n, ix_0, ix_1, ix_2, ix_3, ix_4, ix_5, ix_6, ix_7, ix_8, ix_9, ix_10, ix_11, ix_12, ix_13, ix_14, ix_15, ix_20, ix_100, ix_374, jx_100, jx_11, jx_374, kx_374, cl_nI, in_nI, Nat.add_zero, true_and]
    rw [hat.1]
    exact loop 6 _ _ (by omega) (by omega) hA hB
  · exact h.elim
def w_linesBy (m : Nat) : pw_Wp := fun Ag I K => match Ag with
  | [.ref o, .int y] => o = m ∧ InvB (I (m + 1)) ∧ (0 ≤ y.toInt ∧ y.toInt < 6) ∧ K (some (.int (linesByS (I (m + 1)) y.toNatClampNeg))) I
  | _ => False
set_option maxRecDepth 100000 in
set_option maxHeartbeats 4000000 in
theorem x_linesBy (hM : pw_mod sh P m) (h : w_linesBy m Ag I K) : pw_ok mX7_linesBy 2 base n sh P Ag I K := by
  unfold w_linesBy at h
  split at h
  · rename_i o y
    obtain ⟨rfl, hI, hy, hA⟩ := h
    obtain ⟨h1, ⟨h2, h3⟩, -⟩ := id hM
    obtain ⟨y, rfl, hyk⟩ := tn6 hy
    rw [cl_nI (by omega)] at hA
    have h4 := hI.2.1
    refine pw_bd [_, _, _, _] pl_X7 c_ri rfl rfl ?_
    have loop : ∀ (f k : Nat), k + f = vN (I (o + 1)) 4 → PW (mX7_linesBy, 2, 0, 0, none, base) n sh P I 0 0 4 [some (.ref o), some (.int (nI y)), some (.int (setF (onWay (I (o + 1)) y) k)), some (.int (nI k))] [] (pw_QK n sh P K) := by
      intro f
      induction f with
      | zero =>
        intro k hk
        refine pw_go okX7_linesBy (cc [(106, (w_isOnWay o))]) ⟨Nat.le_refl _, Nat.le_refl _⟩ (cc_c (fun Ag I K h => ⟨1, Nat.le_of_ble_eq_true rfl, x_isOnWay hM h⟩) cc_n) (st1 4) 60 ?_
        simp only [vc_s, vq_s, vk_s, e_iconst, e_bipush, e_sipush, e_ldc, e_ldc_w, e_iload_n, e_iload, e_aload_n, e_aload, e_istore_n, e_istore, e_astore_n, e_astore, e_iinc, e_iadd, e_isub, e_imul, e_iand, e_ior, e_ixor, e_idiv, e_irem, e_ishl, e_ishr, e_iushr, e_i2c, e_dup, e_dup2, e_pop, e_goto, e_ifCond, e_if_icmp, e_tableswitch, e_lookupswitch, e_getfield_i, e_getfield_r, e_putfield_i, e_putfield_z, e_iaload, e_caload, e_aaload, e_iastore, e_castore, e_arraylength, e_invokestatic, e_invokevirtual, e_ireturn, e_return_, s_i_c, s_r_c, s_v_i, s_v_r, s_l_0, s_l_1, s_l_2, s_l_3, s_l_4, s_l_5, s_l_6, s_a_0, s_a_1, s_a_2, s_a_3, s_m_0, s_m_i, s_m_r, s_m_i7, s_m_r7, s_m_i6, s_m_r6, s_m_i5, s_m_r5, s_m_i4, s_m_r4, s_w_n, s_w_c, s_p_eq, s_p_ne, s_p_lt, s_p_ge, s_p_gt, s_p_le, nk_i, nk_z, nk_c, rf_s, ov_s, ov_n, fin0, fin1, fin2, fin3, cond_true, cond_false, List.set_cons_zero, List.set_cons_succ, List.length_cons, List.length_nil, true_and, and_true, true_or, or_true, implies_true, forall_const, not_true_eq_false, not_false_eq_true, false_implies, Nat.reduceAdd, Nat.reduceLT, Nat.reduceBEq, Nat.reduceEqDiff, Bool.or_false, Bool.false_or, Bool.or_true, Bool.true_or, beq_self_eq_true, Nat.reduceLeDiff, Nat.reduceMul, Nat.reduceSub, eq_self, Nat.reduceBneDiff, st0_s, st1_s, st2_s, st3_s, reduceCtorEq, cc_s, cc_0, tl_0, cl_0, il_0, tl_1, cl_1, il_1, tl_2, cl_2, il_2, tl_3, cl_3, il_3, tl_4, cl_4, il_4, tl_5, cl_5, il_5, tl_6, cl_6, il_6, tl_7, cl_7, il_7, tl_8, cl_8, il_8, tl_9, cl_9, il_9, tl_10, cl_10, il_10, tl_11, cl_11, il_11, tl_12, cl_12, il_12, tl_13, cl_13, il_13, tl_14, cl_14, il_14, tl_15, cl_15, il_15, tl_16, cl_16, il_16, tl_20, tl_21, tl_25, tl_32, tl_48, tl_50, tl_57, tl_58, tl_59, tl_60, tl_99, tl_100, tl_101, tl_108, tl_109, tl_116, tl_120, tl_126, tl_374, tl_1122, tl_50000, i10, i01, tl_m1, tl_m2, tl_m3, tl_m4, nr_X7_linesBy, tX7_linesBy_0, tX7_linesBy_1, tX7_linesBy_2, tX7_linesBy_3, tX7_linesBy_4, tX7_linesBy_5, tX7_linesBy_6, tX7_linesBy_9, tX7_linesBy_10, tX7_linesBy_11, tX7_linesBy_14, tX7_linesBy_15, tX7_linesBy_16, tX7_linesBy_17, tX7_linesBy_18, tX7_linesBy_21, tX7_linesBy_24, tX7_linesBy_25, tX7_linesBy_26, tX7_linesBy_27, tX7_linesBy_30, tX7_linesBy_31, tX7_linesBy_32, tX7_linesBy_33, tX7_linesBy_36, tX7_linesBy_39, tX7_linesBy_40, pw_QK_s, w_isOnWay, h1, h2, h3]
        rw [h4.1]
        refine ⟨fun _ => ?_, fun q => absurd (nI_le (by omega) (by omega)) q⟩
        rw [show k = vN (I (o + 1)) 4 by omega]
        exact hA
      | succ f ih =>
        intro k hk
        have hk2 : k < vN (I (o + 1)) 4 := by omega
        refine pw_go okX7_linesBy (cc [(106, (w_isOnWay o))]) ⟨Nat.le_refl _, Nat.le_refl _⟩ (cc_c (fun Ag I K h => ⟨1, Nat.le_of_ble_eq_true rfl, x_isOnWay hM h⟩) cc_n) (st1 4) 60 ?_
        simp only [vc_s, vq_s, vk_s, e_iconst, e_bipush, e_sipush, e_ldc, e_ldc_w, e_iload_n, e_iload, e_aload_n, e_aload, e_istore_n, e_istore, e_astore_n, e_astore, e_iinc, e_iadd, e_isub, e_imul, e_iand, e_ior, e_ixor, e_idiv, e_irem, e_ishl, e_ishr, e_iushr, e_i2c, e_dup, e_dup2, e_pop, e_goto, e_ifCond, e_if_icmp, e_tableswitch, e_lookupswitch, e_getfield_i, e_getfield_r, e_putfield_i, e_putfield_z, e_iaload, e_caload, e_aaload, e_iastore, e_castore, e_arraylength, e_invokestatic, e_invokevirtual, e_ireturn, e_return_, s_i_c, s_r_c, s_v_i, s_v_r, s_l_0, s_l_1, s_l_2, s_l_3, s_l_4, s_l_5, s_l_6, s_a_0, s_a_1, s_a_2, s_a_3, s_m_0, s_m_i, s_m_r, s_m_i7, s_m_r7, s_m_i6, s_m_r6, s_m_i5, s_m_r5, s_m_i4, s_m_r4, s_w_n, s_w_c, s_p_eq, s_p_ne, s_p_lt, s_p_ge, s_p_gt, s_p_le, nk_i, nk_z, nk_c, rf_s, ov_s, ov_n, fin0, fin1, fin2, fin3, cond_true, cond_false, List.set_cons_zero, List.set_cons_succ, List.length_cons, List.length_nil, true_and, and_true, true_or, or_true, implies_true, forall_const, not_true_eq_false, not_false_eq_true, false_implies, Nat.reduceAdd, Nat.reduceLT, Nat.reduceBEq, Nat.reduceEqDiff, Bool.or_false, Bool.false_or, Bool.or_true, Bool.true_or, beq_self_eq_true, Nat.reduceLeDiff, Nat.reduceMul, Nat.reduceSub, eq_self, Nat.reduceBneDiff, st0_s, st1_s, st2_s, st3_s, reduceCtorEq, cc_s, cc_0, tl_0, cl_0, il_0, tl_1, cl_1, il_1, tl_2, cl_2, il_2, tl_3, cl_3, il_3, tl_4, cl_4, il_4, tl_5, cl_5, il_5, tl_6, cl_6, il_6, tl_7, cl_7, il_7, tl_8, cl_8, il_8, tl_9, cl_9, il_9, tl_10, cl_10, il_10, tl_11, cl_11, il_11, tl_12, cl_12, il_12, tl_13, cl_13, il_13, tl_14, cl_14, il_14, tl_15, cl_15, il_15, tl_16, cl_16, il_16, tl_20, tl_21, tl_25, tl_32, tl_48, tl_50, tl_57, tl_58, tl_59, tl_60, tl_99, tl_100, tl_101, tl_108, tl_109, tl_116, tl_120, tl_126, tl_374, tl_1122, tl_50000, i10, i01, tl_m1, tl_m2, tl_m3, tl_m4, nr_X7_linesBy, tX7_linesBy_0, tX7_linesBy_1, tX7_linesBy_2, tX7_linesBy_3, tX7_linesBy_4, tX7_linesBy_5, tX7_linesBy_6, tX7_linesBy_9, tX7_linesBy_10, tX7_linesBy_11, tX7_linesBy_14, tX7_linesBy_15, tX7_linesBy_16, tX7_linesBy_17, tX7_linesBy_18, tX7_linesBy_21, tX7_linesBy_24, tX7_linesBy_25, tX7_linesBy_26, tX7_linesBy_27, tX7_linesBy_30, tX7_linesBy_31, tX7_linesBy_32, tX7_linesBy_33, tX7_linesBy_36, tX7_linesBy_39, tX7_linesBy_40, pw_QK_s, w_isOnWay, h1, h2, h3]
        rw [h4.1, ti_nI (by omega), ti_nI (by omega), cl_nI (by omega), cl_nI (by omega), ix_1]
        refine ⟨fun q => absurd q (nI_ge (by omega) (by omega)), fun _ => ⟨hI, by omega, by omega, fun q => ?_, fun q => ?_⟩⟩
        · have := ih (k + 1) (by omega)
          rw [setF, if_pos q] at this
          exact this
        · have := ih (k + 1) (by omega)
          rw [setF, if_neg (by rw [q]; decide)] at this
          exact this
    have := loop _ 0 (Nat.zero_add _)
    refine pw_go okX7_linesBy (cc []) ⟨Nat.le_refl _, Nat.le_refl _⟩ cc_n (st1 4) 60 ?_
    simp only [vc_s, vq_s, vk_s, e_iconst, e_bipush, e_sipush, e_ldc, e_ldc_w, e_iload_n, e_iload, e_aload_n, e_aload, e_istore_n, e_istore, e_astore_n, e_astore, e_iinc, e_iadd, e_isub, e_imul, e_iand, e_ior, e_ixor, e_idiv, e_irem, e_ishl, e_ishr, e_iushr, e_i2c, e_dup, e_dup2, e_pop, e_goto, e_ifCond, e_if_icmp, e_tableswitch, e_lookupswitch, e_getfield_i, e_getfield_r, e_putfield_i, e_putfield_z, e_iaload, e_caload, e_aaload, e_iastore, e_castore, e_arraylength, e_invokestatic, e_invokevirtual, e_ireturn, e_return_, s_i_c, s_r_c, s_v_i, s_v_r, s_l_0, s_l_1, s_l_2, s_l_3, s_l_4, s_l_5, s_l_6, s_a_0, s_a_1, s_a_2, s_a_3, s_m_0, s_m_i, s_m_r, s_m_i7, s_m_r7, s_m_i6, s_m_r6, s_m_i5, s_m_r5, s_m_i4, s_m_r4, s_w_n, s_w_c, s_p_eq, s_p_ne, s_p_lt, s_p_ge, s_p_gt, s_p_le, nk_i, nk_z, nk_c, rf_s, ov_s, ov_n, fin0, fin1, fin2, fin3, cond_true, cond_false, List.set_cons_zero, List.set_cons_succ, List.length_cons, List.length_nil, true_and, and_true, true_or, or_true, implies_true, forall_const, not_true_eq_false, not_false_eq_true, false_implies, Nat.reduceAdd, Nat.reduceLT, Nat.reduceBEq, Nat.reduceEqDiff, Bool.or_false, Bool.false_or, Bool.or_true, Bool.true_or, beq_self_eq_true, Nat.reduceLeDiff, Nat.reduceMul, Nat.reduceSub, eq_self, Nat.reduceBneDiff, st0_s, st1_s, st2_s, st3_s, reduceCtorEq, cc_s, cc_0, tl_0, cl_0, il_0, tl_1, cl_1, il_1, tl_2, cl_2, il_2, tl_3, cl_3, il_3, tl_4, cl_4, il_4, tl_5, cl_5, il_5, tl_6, cl_6, il_6, tl_7, cl_7, il_7, tl_8, cl_8, il_8, tl_9, cl_9, il_9, tl_10, cl_10, il_10, tl_11, cl_11, il_11, tl_12, cl_12, il_12, tl_13, cl_13, il_13, tl_14, cl_14, il_14, tl_15, cl_15, il_15, tl_16, cl_16, il_16, tl_20, tl_21, tl_25, tl_32, tl_48, tl_50, tl_57, tl_58, tl_59, tl_60, tl_99, tl_100, tl_101, tl_108, tl_109, tl_116, tl_120, tl_126, tl_374, tl_1122, tl_50000, i10, i01, tl_m1, tl_m2, tl_m3, tl_m4, nr_X7_linesBy, tX7_linesBy_0, tX7_linesBy_1, tX7_linesBy_2, tX7_linesBy_3, tX7_linesBy_4, tX7_linesBy_5, tX7_linesBy_6, tX7_linesBy_9, tX7_linesBy_10, tX7_linesBy_11, tX7_linesBy_14, tX7_linesBy_15, tX7_linesBy_16, tX7_linesBy_17, tX7_linesBy_18, tX7_linesBy_21, tX7_linesBy_24, tX7_linesBy_25, tX7_linesBy_26, tX7_linesBy_27, tX7_linesBy_30, tX7_linesBy_31, tX7_linesBy_32, tX7_linesBy_33, tX7_linesBy_36, tX7_linesBy_39, tX7_linesBy_40, pw_QK_s, h1, h2, h3]
    exact this
  · exact h.elim
def w_bits : pw_Wp := fun Ag I K => match Ag with
  | [.int x] => K (some (.int (bitsS x))) I
  | _ => False
set_option maxRecDepth 100000 in
set_option maxHeartbeats 4000000 in
theorem x_bits (h : w_bits Ag I K) : pw_ok mX7_bits 0 base n sh P Ag I K := by
  unfold w_bits at h
  split at h
  · rename_i x
    refine pw_bd [_, _, _] pl_X7 c_i rfl rfl ?_
    have loop : ∀ (f k : Nat), k + f = 16 → PW (mX7_bits, 0, 0, 0, none, base) n sh P I 0 0 4 [some (.int x), some (.int (sumF (fun k => (x >>> (nI k &&& 31)) &&& 1) k)), some (.int (nI k))] [] (pw_QK n sh P K) := by
      intro f
      induction f with
      | zero =>
        intro k hk
        refine pw_go okX7_bits (cc []) ⟨Nat.le_refl _, Nat.le_refl _⟩ cc_n (st1 4) 60 ?_
        simp only [vc_s, vq_s, vk_s, e_iconst, e_bipush, e_sipush, e_ldc, e_ldc_w, e_iload_n, e_iload, e_aload_n, e_aload, e_istore_n, e_istore, e_astore_n, e_astore, e_iinc, e_iadd, e_isub, e_imul, e_iand, e_ior, e_ixor, e_idiv, e_irem, e_ishl, e_ishr, e_iushr, e_i2c, e_dup, e_dup2, e_pop, e_goto, e_ifCond, e_if_icmp, e_tableswitch, e_lookupswitch, e_getfield_i, e_getfield_r, e_putfield_i, e_putfield_z, e_iaload, e_caload, e_aaload, e_iastore, e_castore, e_arraylength, e_invokestatic, e_invokevirtual, e_ireturn, e_return_, s_i_c, s_r_c, s_v_i, s_v_r, s_l_0, s_l_1, s_l_2, s_l_3, s_l_4, s_l_5, s_l_6, s_a_0, s_a_1, s_a_2, s_a_3, s_m_0, s_m_i, s_m_r, s_m_i7, s_m_r7, s_m_i6, s_m_r6, s_m_i5, s_m_r5, s_m_i4, s_m_r4, s_w_n, s_w_c, s_p_eq, s_p_ne, s_p_lt, s_p_ge, s_p_gt, s_p_le, nk_i, nk_z, nk_c, rf_s, ov_s, ov_n, fin0, fin1, fin2, fin3, cond_true, cond_false, List.set_cons_zero, List.set_cons_succ, List.length_cons, List.length_nil, true_and, and_true, true_or, or_true, implies_true, forall_const, not_true_eq_false, not_false_eq_true, false_implies, Nat.reduceAdd, Nat.reduceLT, Nat.reduceBEq, Nat.reduceEqDiff, Bool.or_false, Bool.false_or, Bool.or_true, Bool.true_or, beq_self_eq_true, Nat.reduceLeDiff, Nat.reduceMul, Nat.reduceSub, eq_self, Nat.reduceBneDiff, st0_s, st1_s, st2_s, st3_s, reduceCtorEq, cc_s, cc_0, tl_0, cl_0, il_0, tl_1, cl_1, il_1, tl_2, cl_2, il_2, tl_3, cl_3, il_3, tl_4, cl_4, il_4, tl_5, cl_5, il_5, tl_6, cl_6, il_6, tl_7, cl_7, il_7, tl_8, cl_8, il_8, tl_9, cl_9, il_9, tl_10, cl_10, il_10, tl_11, cl_11, il_11, tl_12, cl_12, il_12, tl_13, cl_13, il_13, tl_14, cl_14, il_14, tl_15, cl_15, il_15, tl_16, cl_16, il_16, tl_20, tl_21, tl_25, tl_32, tl_48, tl_50, tl_57, tl_58, tl_59, tl_60, tl_99, tl_100, tl_101, tl_108, tl_109, tl_116, tl_120, tl_126, tl_374, tl_1122, tl_50000, i10, i01, tl_m1, tl_m2, tl_m3, tl_m4, nr_X7_bits, tX7_bits_0, tX7_bits_1, tX7_bits_2, tX7_bits_3, tX7_bits_4, tX7_bits_5, tX7_bits_7, tX7_bits_10, tX7_bits_11, tX7_bits_12, tX7_bits_13, tX7_bits_14, tX7_bits_15, tX7_bits_16, tX7_bits_17, tX7_bits_18, tX7_bits_21, tX7_bits_24, tX7_bits_25, pw_QK_s]
        have : k = 16 := by omega
        subst this
        exact ⟨fun _ => h, fun q => absurd (by decide) q⟩
      | succ f ih =>
        intro k hk
        refine pw_go okX7_bits (cc []) ⟨Nat.le_refl _, Nat.le_refl _⟩ cc_n (st1 4) 60 ?_
        simp only [vc_s, vq_s, vk_s, e_iconst, e_bipush, e_sipush, e_ldc, e_ldc_w, e_iload_n, e_iload, e_aload_n, e_aload, e_istore_n, e_istore, e_astore_n, e_astore, e_iinc, e_iadd, e_isub, e_imul, e_iand, e_ior, e_ixor, e_idiv, e_irem, e_ishl, e_ishr, e_iushr, e_i2c, e_dup, e_dup2, e_pop, e_goto, e_ifCond, e_if_icmp, e_tableswitch, e_lookupswitch, e_getfield_i, e_getfield_r, e_putfield_i, e_putfield_z, e_iaload, e_caload, e_aaload, e_iastore, e_castore, e_arraylength, e_invokestatic, e_invokevirtual, e_ireturn, e_return_, s_i_c, s_r_c, s_v_i, s_v_r, s_l_0, s_l_1, s_l_2, s_l_3, s_l_4, s_l_5, s_l_6, s_a_0, s_a_1, s_a_2, s_a_3, s_m_0, s_m_i, s_m_r, s_m_i7, s_m_r7, s_m_i6, s_m_r6, s_m_i5, s_m_r5, s_m_i4, s_m_r4, s_w_n, s_w_c, s_p_eq, s_p_ne, s_p_lt, s_p_ge, s_p_gt, s_p_le, nk_i, nk_z, nk_c, rf_s, ov_s, ov_n, fin0, fin1, fin2, fin3, cond_true, cond_false, List.set_cons_zero, List.set_cons_succ, List.length_cons, List.length_nil, true_and, and_true, true_or, or_true, implies_true, forall_const, not_true_eq_false, not_false_eq_true, false_implies, Nat.reduceAdd, Nat.reduceLT, Nat.reduceBEq, Nat.reduceEqDiff, Bool.or_false, Bool.false_or, Bool.or_true, Bool.true_or, beq_self_eq_true, Nat.reduceLeDiff, Nat.reduceMul, Nat.reduceSub, eq_self, Nat.reduceBneDiff, st0_s, st1_s, st2_s, st3_s, reduceCtorEq, cc_s, cc_0, tl_0, cl_0, il_0, tl_1, cl_1, il_1, tl_2, cl_2, il_2, tl_3, cl_3, il_3, tl_4, cl_4, il_4, tl_5, cl_5, il_5, tl_6, cl_6, il_6, tl_7, cl_7, il_7, tl_8, cl_8, il_8, tl_9, cl_9, il_9, tl_10, cl_10, il_10, tl_11, cl_11, il_11, tl_12, cl_12, il_12, tl_13, cl_13, il_13, tl_14, cl_14, il_14, tl_15, cl_15, il_15, tl_16, cl_16, il_16, tl_20, tl_21, tl_25, tl_32, tl_48, tl_50, tl_57, tl_58, tl_59, tl_60, tl_99, tl_100, tl_101, tl_108, tl_109, tl_116, tl_120, tl_126, tl_374, tl_1122, tl_50000, i10, i01, tl_m1, tl_m2, tl_m3, tl_m4, nr_X7_bits, tX7_bits_0, tX7_bits_1, tX7_bits_2, tX7_bits_3, tX7_bits_4, tX7_bits_5, tX7_bits_7, tX7_bits_10, tX7_bits_11, tX7_bits_12, tX7_bits_13, tX7_bits_14, tX7_bits_15, tX7_bits_16, tX7_bits_17, tX7_bits_18, tX7_bits_21, tX7_bits_24, tX7_bits_25, pw_QK_s, ix_1]
        exact ⟨fun q => absurd q (nI_ge (a := k) (b := 16) (by omega) (by omega)), fun _ => ih (k + 1) (by omega)⟩
    have := loop _ 0 (Nat.zero_add _)
    refine pw_go okX7_bits (cc []) ⟨Nat.le_refl _, Nat.le_refl _⟩ cc_n (st1 4) 60 ?_
    simp only [vc_s, vq_s, vk_s, e_iconst, e_bipush, e_sipush, e_ldc, e_ldc_w, e_iload_n, e_iload, e_aload_n, e_aload, e_istore_n, e_istore, e_astore_n, e_astore, e_iinc, e_iadd, e_isub, e_imul, e_iand, e_ior, e_ixor, e_idiv, e_irem, e_ishl, e_ishr, e_iushr, e_i2c, e_dup, e_dup2, e_pop, e_goto, e_ifCond, e_if_icmp, e_tableswitch, e_lookupswitch, e_getfield_i, e_getfield_r, e_putfield_i, e_putfield_z, e_iaload, e_caload, e_aaload, e_iastore, e_castore, e_arraylength, e_invokestatic, e_invokevirtual, e_ireturn, e_return_, s_i_c, s_r_c, s_v_i, s_v_r, s_l_0, s_l_1, s_l_2, s_l_3, s_l_4, s_l_5, s_l_6, s_a_0, s_a_1, s_a_2, s_a_3, s_m_0, s_m_i, s_m_r, s_m_i7, s_m_r7, s_m_i6, s_m_r6, s_m_i5, s_m_r5, s_m_i4, s_m_r4, s_w_n, s_w_c, s_p_eq, s_p_ne, s_p_lt, s_p_ge, s_p_gt, s_p_le, nk_i, nk_z, nk_c, rf_s, ov_s, ov_n, fin0, fin1, fin2, fin3, cond_true, cond_false, List.set_cons_zero, List.set_cons_succ, List.length_cons, List.length_nil, true_and, and_true, true_or, or_true, implies_true, forall_const, not_true_eq_false, not_false_eq_true, false_implies, Nat.reduceAdd, Nat.reduceLT, Nat.reduceBEq, Nat.reduceEqDiff, Bool.or_false, Bool.false_or, Bool.or_true, Bool.true_or, beq_self_eq_true, Nat.reduceLeDiff, Nat.reduceMul, Nat.reduceSub, eq_self, Nat.reduceBneDiff, st0_s, st1_s, st2_s, st3_s, reduceCtorEq, cc_s, cc_0, tl_0, cl_0, il_0, tl_1, cl_1, il_1, tl_2, cl_2, il_2, tl_3, cl_3, il_3, tl_4, cl_4, il_4, tl_5, cl_5, il_5, tl_6, cl_6, il_6, tl_7, cl_7, il_7, tl_8, cl_8, il_8, tl_9, cl_9, il_9, tl_10, cl_10, il_10, tl_11, cl_11, il_11, tl_12, cl_12, il_12, tl_13, cl_13, il_13, tl_14, cl_14, il_14, tl_15, cl_15, il_15, tl_16, cl_16, il_16, tl_20, tl_21, tl_25, tl_32, tl_48, tl_50, tl_57, tl_58, tl_59, tl_60, tl_99, tl_100, tl_101, tl_108, tl_109, tl_116, tl_120, tl_126, tl_374, tl_1122, tl_50000, i10, i01, tl_m1, tl_m2, tl_m3, tl_m4, nr_X7_bits, tX7_bits_0, tX7_bits_1, tX7_bits_2, tX7_bits_3, tX7_bits_4, tX7_bits_5, tX7_bits_7, tX7_bits_10, tX7_bits_11, tX7_bits_12, tX7_bits_13, tX7_bits_14, tX7_bits_15, tX7_bits_16, tX7_bits_17, tX7_bits_18, tX7_bits_21, tX7_bits_24, tX7_bits_25, pw_QK_s]
    exact this
  · exact h.elim
end MOD1
