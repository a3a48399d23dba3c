/-! Row: get, insert, remove, moveBehind -/
section ROW
variable {n : Nat} {sh : pw_Sh} {P : pw_P} {I : pw_I} {base : Nat}
/-- a row at r, its cells at c -/
def pw_row (sh : pw_Sh) (P : pw_P) (r c : Nat) : Prop := sh r = (5, 0) ∧ P r 0 = some c ∧ sh c = (8, 21) ∧ r ≠ c
def w_get (r c : Nat) : pw_Wp := fun Ag I K => match Ag with
  | [.ref o, .int i] => o = r ∧ (I r 1).toInt ≤ 21 ∧ (0 ≤ i.toInt ∧ i.toInt < (I r 1).toInt → K (some (.int (I c i.toNatClampNeg))) I) ∧ (¬ (0 ≤ i.toInt ∧ i.toInt < (I r 1).toInt) → K (some (.int (-1))) I)
  | _ => False
set_option maxRecDepth 100000 in
set_option maxHeartbeats 4000000 in
theorem x_get {r c : Nat} (hr : pw_row sh P r c) {Ag : List Value} {I : pw_I} {K : Option Value → pw_I → Prop} (h : w_get r c Ag I K) : pw_ok mX5_get 0 base n sh P Ag I K := by
  obtain ⟨h1, h2, h3, -⟩ := hr
  unfold w_get at h
  split at h
  · obtain ⟨rfl, h4, hA, hB⟩ := h
    refine pw_bd [_, _] pl_X5 c_ri rfl rfl ?_
    refine pw_go okX5_get (cc []) ⟨Nat.le_refl _, Nat.le_refl _⟩ cc_n (st0) 30 ?_
    simp only [vc_s, vq_s, vk_s, e_iconst, e_bipush, e_sipush, e_ldc, e_ldc_w, e_iload_n, e_iload, e_aload_n, e_aload, e_istore_n, e_istore, e_astore_n, e_astore, e_iinc, e_iadd, e_isub, e_imul, e_iand, e_ior, e_ixor, e_idiv, e_irem, e_ishl, e_ishr, e_iushr, e_i2c, e_dup, e_dup2, e_pop, e_goto, e_ifCond, e_if_icmp, e_tableswitch, e_lookupswitch, e_getfield_i, e_getfield_r, e_putfield_i, e_putfield_z, e_iaload, e_caload, e_aaload, e_iastore, e_castore, e_arraylength, e_invokestatic, e_invokevirtual, e_ireturn, e_return_, s_i_c, s_r_c, s_v_i, s_v_r, s_l_0, s_l_1, s_l_2, s_l_3, s_l_4, s_l_5, s_l_6, s_a_0, s_a_1, s_a_2, s_a_3, s_m_0, s_m_i, s_m_r, s_m_i7, s_m_r7, s_m_i6, s_m_r6, s_m_i5, s_m_r5, s_m_i4, s_m_r4, s_w_n, s_w_c, s_p_eq, s_p_ne, s_p_lt, s_p_ge, s_p_gt, s_p_le, nk_i, nk_z, nk_c, rf_s, ov_s, ov_n, fin0, fin1, fin2, fin3, cond_true, cond_false, List.set_cons_zero, List.set_cons_succ, List.length_cons, List.length_nil, true_and, and_true, true_or, or_true, implies_true, forall_const, not_true_eq_false, not_false_eq_true, false_implies, Nat.reduceAdd, Nat.reduceLT, Nat.reduceBEq, Nat.reduceEqDiff, Bool.or_false, Bool.false_or, Bool.or_true, Bool.true_or, beq_self_eq_true, Nat.reduceLeDiff, Nat.reduceMul, Nat.reduceSub, eq_self, Nat.reduceBneDiff, st0_s, st1_s, st2_s, st3_s, reduceCtorEq, cc_s, cc_0, tl_0, cl_0, il_0, tl_1, cl_1, il_1, tl_2, cl_2, il_2, tl_3, cl_3, il_3, tl_4, cl_4, il_4, tl_5, cl_5, il_5, tl_6, cl_6, il_6, tl_7, cl_7, il_7, tl_8, cl_8, il_8, tl_9, cl_9, il_9, tl_10, cl_10, il_10, tl_11, cl_11, il_11, tl_12, cl_12, il_12, tl_13, cl_13, il_13, tl_14, cl_14, il_14, tl_15, cl_15, il_15, tl_16, cl_16, il_16, tl_20, tl_21, tl_25, tl_32, tl_48, tl_50, tl_57, tl_58, tl_59, tl_60, tl_99, tl_100, tl_101, tl_108, tl_109, tl_116, tl_120, tl_126, tl_374, tl_1122, tl_50000, i10, i01, tl_m1, tl_m2, tl_m3, tl_m4, nr_X5_get, tX5_get_0, tX5_get_1, tX5_get_4, tX5_get_5, tX5_get_6, tX5_get_9, tX5_get_12, tX5_get_13, tX5_get_16, tX5_get_17, tX5_get_18, tX5_get_21, tX5_get_22, h1, h2, h3, pw_QK_s]
    simp only [ti_lt, ti_le, show (0 : Int32).toInt = 0 from rfl]
    refine ⟨fun q => hB (by omega), fun q => ⟨fun q2 => hB (by omega), fun q2 => ⟨ti_in (by omega) (by omega), hA (by omega)⟩⟩⟩
  · exact h.elim
end ROW
