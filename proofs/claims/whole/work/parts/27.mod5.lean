/-! the reference: calls on nodes, lines, settings -/
theorem rec_S {m : Nat} {I : pw_I} : recI m I (m + 1) = I (m + 1) := by
  unfold recI
  rw [set_n (by omega), set_n (by omega)]
theorem rec_o {m a : Nat} {I : pw_I} (h1 : a ≠ m) (h2 : a ≠ m + 2) : recI m I a = I a := by
  unfold recI
  rw [set_n h1, set_n h2]
def UndoOK (m : Nat) (I : pw_I) : Prop := I m 8 = nI (vN (I m) 8) ∧ vN (I m) 8 ≤ 4
def okNode (S : Nat → Int32) (x : Int32) : Prop := 0 ≤ x.toInt ∧ x.toInt < (S 3).toInt
def okLine (S : Nat → Int32) (x : Int32) : Prop := 0 ≤ x.toInt ∧ x.toInt < (S 4).toInt
theorem InvB.n3 {S : Nat → Int32} (h : InvB S) : 1 ≤ (S 3).toInt ∧ (S 3).toInt ≤ 6 := by
  obtain ⟨h1, h2, h3⟩ := h.1
  rw [h1, ti_nI (by omega)]; omega
theorem InvB.n4 {S : Nat → Int32} (h : InvB S) : 0 ≤ (S 4).toInt ∧ (S 4).toInt ≤ 16 := by
  obtain ⟨h1, h2⟩ := h.2.1
  rw [h1, ti_nI (by omega)]; omega
def nodeS (S : Nat → Int32) (on : Nat) (turning : Int32) : Nat → Int32 :=
  hangS (upd (upd (upd S (16 + 25 * vN S 3) (nI on)) (16 + 25 * vN S 3 + 1) turning) 3 (nI (vN S 3 + 1))) on (nI (100 + vN S 3))
def lineS (S : Nat → Int32) (on : Nat) (rank level : Int32) : Nat → Int32 :=
  hangS (upd (upd (upd (upd S (166 + 13 * vN S 4) (nI on)) (166 + 13 * vN S 4 + 1) rank) (166 + 13 * vN S 4 + 2) level) 4 (nI (vN S 4 + 1))) on (nI (vN S 4))
section MOD5
variable {n base m : Nat} {sh : pw_Sh} {P : pw_P} {Ag : List Value} {I : pw_I} {K : Option Value → pw_I → Prop}
def w_node7 (m : Nat) : pw_Wp := fun Ag I K => match Ag with
  | [.ref o, .int x, .int t] => o = m ∧ InvB (I (m + 1)) ∧ UndoOK m I ∧ (vN (I (m + 1)) 3 < 6 → ∀ j, j < vN (I (m + 1)) 3 → cntS (I (m + 1)) j ≤ 20) ∧
    (¬ (okNode (I (m + 1)) x ∧ bit01 t) → K (some (.int (-1))) I) ∧ (okNode (I (m + 1)) x ∧ bit01 t → vN (I (m + 1)) 3 = 6 → K (some (.int (-3))) I) ∧
    (okNode (I (m + 1)) x ∧ bit01 t → vN (I (m + 1)) 3 < 6 → K (some (.int (nI (vN (I (m + 1)) 3)))) (pw_set (recI m I) (m + 1) (nodeS (I (m + 1)) x.toNatClampNeg t)))
  | _ => False
set_option maxRecDepth 100000 in
set_option maxHeartbeats 4000000 in
theorem x_node7 (hM : pw_mod sh P m) (h : w_node7 m Ag I K) : pw_ok mX7_node 2 base n sh P Ag I K := by
  unfold w_node7 at h
  split at h
  · rename_i o x t
    obtain ⟨rfl, hI, hu, hc, hA, hB, hC⟩ := h
    obtain ⟨h1, ⟨h2, h3⟩, -⟩ := id hM
    have h30 := hI.1
    refine pw_bd [_, _, _, _] pl_X7 c_rii rfl rfl ?_
    refine pw_go okX7_node (cc [(100, (w_isNode o)), (102, w_bit), (95, (w_record o)), (98, w_n), (103, (w_hang o))]) ⟨Nat.le_refl _, Nat.le_refl _⟩ (cc_c (fun Ag I K h => ⟨1, Nat.le_of_ble_eq_true rfl, x_isNode hM h⟩) (cc_c (fun Ag I K h => ⟨0, Nat.le_of_ble_eq_true rfl, x_isBit7 h⟩) (cc_c (fun Ag I K h => ⟨0, Nat.le_of_ble_eq_true rfl, x_record hM h⟩) (cc_c (fun Ag I K h => ⟨0, Nat.le_of_ble_eq_true rfl, x_n h⟩) (cc_c (fun Ag I K h => ⟨1, Nat.le_of_ble_eq_true rfl, x_hang hM h⟩) cc_n))))) (st0) 120 ?_
    simp only [↓f_vc_s, ↓vk_i, ↓cc_i, ↓reduceIte, f_vq_s, Bool.false_eq_true, ↓f_e_iconst, ↓f_e_bipush, ↓f_e_sipush, ↓f_e_ldc, ↓f_e_ldc_w, ↓f_e_iload_n, ↓f_e_iload, ↓f_e_aload_n, ↓f_e_aload, ↓f_e_istore_n, ↓f_e_istore, ↓f_e_astore_n, ↓f_e_astore, ↓f_e_iinc, ↓f_e_iadd, ↓f_e_isub, ↓f_e_imul, ↓f_e_iand, ↓f_e_ior, ↓f_e_ixor, ↓f_e_idiv, ↓f_e_irem, ↓f_e_ishl, ↓f_e_ishr, ↓f_e_iushr, ↓f_e_i2c, ↓f_e_dup, ↓f_e_dup2, ↓f_e_pop, ↓f_e_goto, ↓f_e_ifCond, ↓f_e_if_icmp, ↓f_e_tableswitch, ↓f_e_lookupswitch, ↓f_e_getfield_i, ↓f_e_getfield_r, ↓f_e_putfield_i, ↓f_e_putfield_z, ↓f_e_iaload, ↓f_e_caload, ↓f_e_aaload, ↓f_e_iastore, ↓f_e_castore, ↓f_e_arraylength, ↓f_e_invokestatic, ↓f_e_invokevirtual, ↓f_e_ireturn, ↓f_e_return_, ↓f_s_i_c, ↓f_s_r_c, ↓f_s_v_i, ↓f_s_v_r, ↓f_s_l_0, ↓s_l_1, ↓s_l_2, ↓s_l_3, ↓s_l_4, ↓s_l_5, ↓s_l_6, ↓s_a_0, ↓s_a_1, ↓s_a_2, ↓s_a_3, ↓s_m_0, ↓f_s_m_i, ↓f_s_m_r, ↓f_s_m_i7, ↓f_s_m_r7, ↓f_s_m_i6, ↓f_s_m_r6, ↓f_s_m_i5, ↓f_s_m_r5, ↓f_s_m_i4, ↓f_s_m_r4, ↓f_s_w_n, ↓f_s_w_c, ↓f_s_p_eq, ↓f_s_p_ne, ↓f_s_p_lt, ↓f_s_p_ge, ↓f_s_p_gt, ↓f_s_p_le, ↓nk_i, ↓nk_z, ↓nk_c, ↓rf_s, ↓ov_s, ↓ov_n, ↓fin0, ↓fin1, ↓fin2, ↓fin3, cond_true, cond_false, List.set_cons_zero, List.set_cons_succ, List.length_cons, List.length_nil, true_and, and_true, true_or, or_true, implies_true, forall_const, not_true_eq_false, not_false_eq_true, false_implies, Nat.reduceAdd, Nat.reduceLT, Nat.reduceBEq, Nat.reduceEqDiff, Bool.or_false, Bool.false_or, Bool.or_true, Bool.true_or, beq_self_eq_true, Nat.reduceLeDiff, Nat.reduceMul, Nat.reduceSub, eq_self, Nat.reduceBneDiff, st0_s, st1_s, st2_s, st3_s, reduceCtorEq, cc_0, tl_0, cl_0, il_0, tl_1, cl_1, il_1, tl_2, cl_2, il_2, tl_3, cl_3, il_3, tl_4, cl_4, il_4, tl_5, cl_5, il_5, tl_6, cl_6, il_6, tl_7, cl_7, il_7, tl_8, cl_8, il_8, tl_9, cl_9, il_9, tl_10, cl_10, il_10, tl_11, cl_11, il_11, tl_12, cl_12, il_12, tl_13, cl_13, il_13, tl_14, cl_14, il_14, tl_15, cl_15, il_15, tl_16, cl_16, il_16, tl_20, tl_21, tl_25, tl_32, tl_48, tl_50, tl_57, tl_58, tl_59, tl_60, tl_99, tl_100, tl_101, tl_108, tl_109, tl_116, tl_120, tl_126, tl_374, tl_1122, tl_50000, i10, i01, tl_m1, tl_m2, tl_m3, tl_m4, nr_X7_node, tX7_node_0, tX7_node_1, tX7_node_2, tX7_node_5, tX7_node_8, tX7_node_9, tX7_node_12, tX7_node_15, tX7_node_16, tX7_node_17, tX7_node_18, tX7_node_21, tX7_node_22, tX7_node_23, tX7_node_25, tX7_node_28, tX7_node_30, tX7_node_31, tX7_node_32, tX7_node_35, tX7_node_36, tX7_node_39, tX7_node_40, tX7_node_41, tX7_node_42, tX7_node_43, tX7_node_46, tX7_node_47, tX7_node_50, tX7_node_51, tX7_node_52, tX7_node_53, tX7_node_54, tX7_node_55, tX7_node_58, tX7_node_59, tX7_node_62, tX7_node_63, tX7_node_64, tX7_node_65, tX7_node_66, tX7_node_67, tX7_node_70, tX7_node_71, tX7_node_72, tX7_node_73, tX7_node_74, tX7_node_75, tX7_node_76, tX7_node_77, tX7_node_78, tX7_node_80, tX7_node_81, tX7_node_82, tX7_node_85, tX7_node_86, pw_QK_s, h1, h2, h3, ↓w_isNode, ↓w_bit, ↓w_record, ↓w_n, ↓w_hang]
    refine ⟨hI.n3, fun q => ⟨fun q2 => ?_, fun q2 => hA (fun z => q2 z.2)⟩, fun q => hA (fun z => q z.1)⟩
    have hxn : x.toInt < 6 := by have := hI.n3.2; omega
    obtain ⟨j, rfl, hj⟩ := tn6 ⟨q.1, hxn⟩
    have hjn : j < vN (I (o + 1)) 3 := by
      have := q.2
      rw [h30.1, ti_nI (by omega), ti_nI (by omega)] at this
      omega
    rw [cl_nI (by omega)] at hC
    refine ⟨fun q3 => ?_, fun q3 => ?_⟩
    · have h6 : vN (I (o + 1)) 3 < 6 := by
        rcases Nat.lt_or_ge (vN (I (o + 1)) 3) 6 with z | z
        · exact z
        · exact absurd (by rw [h30.1, show vN (I (o + 1)) 3 = 6 by omega]; rfl) q3
      refine ⟨hu, ?_⟩
      have hcj := hc h6 j hjn
      have hbj := (hI.2.2.2.1 j hj).2.2
      simp (disch := omega) only [ix_l, ix_n, ix_0, ix_1, ix_2, ix_3, ix_4, ix_5, ix_6, ix_7, ix_8, ix_9, ix_10, ix_11, ix_12, ix_13, ix_14, ix_15, ix_20, ix_100, ix_374, jx_100, jx_11, jx_374, kx_374, cl_nI, in_nI, Nat.add_zero, true_and, up_set, set_s, set_set, set_n, cpy_s0, cpy_sd, cpy_ss, nI_add, upd_s, upd_n, rec_S, h30.1, jx_100]
      have e : vN (upd (upd (upd (I (o + 1)) (16 + 25 * vN (I (o + 1)) 3) (nI j)) (16 + 25 * vN (I (o + 1)) 3 + 1) t) 3 (nI (vN (I (o + 1)) 3 + 1))) (16 + 25 * j + 3) = cntS (I (o + 1)) j := by
        unfold vN
        rw [upd_n (by omega), upd_n (by omega), upd_n (by omega)]
      rw [e]
      exact ⟨⟨q.1, hxn⟩, ⟨hbj.1, hcj⟩, hC ⟨q, q2⟩ h6⟩
    · exact hB ⟨q, q2⟩ (by rw [vN, q3]; rfl)
  · exact h.elim
def w_line7 (m : Nat) : pw_Wp := fun Ag I K => match Ag with
  | [.ref o, .int x, .int r, .int t] => o = m ∧ InvB (I (m + 1)) ∧ UndoOK m I ∧ (vN (I (m + 1)) 4 < 16 → ∀ j, j < vN (I (m + 1)) 3 → cntS (I (m + 1)) j ≤ 20) ∧
    (¬ (okNode (I (m + 1)) x ∧ (0 ≤ r.toInt ∧ r.toInt ≤ 7) ∧ bit01 t) → K (some (.int (-1))) I) ∧ (okNode (I (m + 1)) x ∧ (0 ≤ r.toInt ∧ r.toInt ≤ 7) ∧ bit01 t → vN (I (m + 1)) 4 = 16 → K (some (.int (-3))) I) ∧
    (okNode (I (m + 1)) x ∧ (0 ≤ r.toInt ∧ r.toInt ≤ 7) ∧ bit01 t → vN (I (m + 1)) 4 < 16 → K (some (.int (nI (vN (I (m + 1)) 4)))) (pw_set (recI m I) (m + 1) (lineS (I (m + 1)) x.toNatClampNeg r t)))
  | _ => False
set_option maxRecDepth 100000 in
set_option maxHeartbeats 4000000 in
theorem x_line7 (hM : pw_mod sh P m) (h : w_line7 m Ag I K) : pw_ok mX7_line 2 base n sh P Ag I K := by
  unfold w_line7 at h
  split at h
  · rename_i o x r t
    obtain ⟨rfl, hI, hu, hc, hA, hB, hC⟩ := h
    obtain ⟨h1, ⟨h2, h3⟩, -⟩ := id hM
    have h30 := hI.1
    have h40 := hI.2.1
    refine pw_bd [_, _, _, _, _] pl_X7 c_riii rfl rfl ?_
    refine pw_go okX7_line (cc [(100, (w_isNode o)), (102, w_bit), (94, w_in), (95, (w_record o)), (99, w_l), (103, (w_hang o))]) ⟨Nat.le_refl _, Nat.le_refl _⟩ (cc_c (fun Ag I K h => ⟨1, Nat.le_of_ble_eq_true rfl, x_isNode hM h⟩) (cc_c (fun Ag I K h => ⟨0, Nat.le_of_ble_eq_true rfl, x_isBit7 h⟩) (cc_c (fun Ag I K h => ⟨0, Nat.le_of_ble_eq_true rfl, x_in h⟩) (cc_c (fun Ag I K h => ⟨0, Nat.le_of_ble_eq_true rfl, x_record hM h⟩) (cc_c (fun Ag I K h => ⟨0, Nat.le_of_ble_eq_true rfl, x_l h⟩) (cc_c (fun Ag I K h => ⟨1, Nat.le_of_ble_eq_true rfl, x_hang hM h⟩) cc_n)))))) (st0) 120 ?_
    simp only [↓f_vc_s, ↓vk_i, ↓cc_i, ↓reduceIte, f_vq_s, Bool.false_eq_true, ↓f_e_iconst, ↓f_e_bipush, ↓f_e_sipush, ↓f_e_ldc, ↓f_e_ldc_w, ↓f_e_iload_n, ↓f_e_iload, ↓f_e_aload_n, ↓f_e_aload, ↓f_e_istore_n, ↓f_e_istore, ↓f_e_astore_n, ↓f_e_astore, ↓f_e_iinc, ↓f_e_iadd, ↓f_e_isub, ↓f_e_imul, ↓f_e_iand, ↓f_e_ior, ↓f_e_ixor, ↓f_e_idiv, ↓f_e_irem, ↓f_e_ishl, ↓f_e_ishr, ↓f_e_iushr, ↓f_e_i2c, ↓f_e_dup, ↓f_e_dup2, ↓f_e_pop, ↓f_e_goto, ↓f_e_ifCond, ↓f_e_if_icmp, ↓f_e_tableswitch, ↓f_e_lookupswitch, ↓f_e_getfield_i, ↓f_e_getfield_r, ↓f_e_putfield_i, ↓f_e_putfield_z, ↓f_e_iaload, ↓f_e_caload, ↓f_e_aaload, ↓f_e_iastore, ↓f_e_castore, ↓f_e_arraylength, ↓f_e_invokestatic, ↓f_e_invokevirtual, ↓f_e_ireturn, ↓f_e_return_, ↓f_s_i_c, ↓f_s_r_c, ↓f_s_v_i, ↓f_s_v_r, ↓f_s_l_0, ↓s_l_1, ↓s_l_2, ↓s_l_3, ↓s_l_4, ↓s_l_5, ↓s_l_6, ↓s_a_0, ↓s_a_1, ↓s_a_2, ↓s_a_3, ↓s_m_0, ↓f_s_m_i, ↓f_s_m_r, ↓f_s_m_i7, ↓f_s_m_r7, ↓f_s_m_i6, ↓f_s_m_r6, ↓f_s_m_i5, ↓f_s_m_r5, ↓f_s_m_i4, ↓f_s_m_r4, ↓f_s_w_n, ↓f_s_w_c, ↓f_s_p_eq, ↓f_s_p_ne, ↓f_s_p_lt, ↓f_s_p_ge, ↓f_s_p_gt, ↓f_s_p_le, ↓nk_i, ↓nk_z, ↓nk_c, ↓rf_s, ↓ov_s, ↓ov_n, ↓fin0, ↓fin1, ↓fin2, ↓fin3, cond_true, cond_false, List.set_cons_zero, List.set_cons_succ, List.length_cons, List.length_nil, true_and, and_true, true_or, or_true, implies_true, forall_const, not_true_eq_false, not_false_eq_true, false_implies, Nat.reduceAdd, Nat.reduceLT, Nat.reduceBEq, Nat.reduceEqDiff, Bool.or_false, Bool.false_or, Bool.or_true, Bool.true_or, beq_self_eq_true, Nat.reduceLeDiff, Nat.reduceMul, Nat.reduceSub, eq_self, Nat.reduceBneDiff, st0_s, st1_s, st2_s, st3_s, reduceCtorEq, cc_0, tl_0, cl_0, il_0, tl_1, cl_1, il_1, tl_2, cl_2, il_2, tl_3, cl_3, il_3, tl_4, cl_4, il_4, tl_5, cl_5, il_5, tl_6, cl_6, il_6, tl_7, cl_7, il_7, tl_8, cl_8, il_8, tl_9, cl_9, il_9, tl_10, cl_10, il_10, tl_11, cl_11, il_11, tl_12, cl_12, il_12, tl_13, cl_13, il_13, tl_14, cl_14, il_14, tl_15, cl_15, il_15, tl_16, cl_16, il_16, tl_20, tl_21, tl_25, tl_32, tl_48, tl_50, tl_57, tl_58, tl_59, tl_60, tl_99, tl_100, tl_101, tl_108, tl_109, tl_116, tl_120, tl_126, tl_374, tl_1122, tl_50000, i10, i01, tl_m1, tl_m2, tl_m3, tl_m4, nr_X7_line, tX7_line_0, tX7_line_1, tX7_line_2, tX7_line_5, tX7_line_8, tX7_line_9, tX7_line_10, tX7_line_12, tX7_line_15, tX7_line_18, tX7_line_19, tX7_line_22, tX7_line_25, tX7_line_26, tX7_line_27, tX7_line_28, tX7_line_31, tX7_line_32, tX7_line_33, tX7_line_35, tX7_line_38, tX7_line_40, tX7_line_41, tX7_line_42, tX7_line_45, tX7_line_46, tX7_line_49, tX7_line_50, tX7_line_51, tX7_line_53, tX7_line_54, tX7_line_57, tX7_line_59, tX7_line_62, tX7_line_63, tX7_line_64, tX7_line_65, tX7_line_66, tX7_line_67, tX7_line_70, tX7_line_72, tX7_line_75, tX7_line_76, tX7_line_77, tX7_line_78, tX7_line_79, tX7_line_80, tX7_line_83, tX7_line_85, tX7_line_88, tX7_line_89, tX7_line_90, tX7_line_91, tX7_line_92, tX7_line_93, tX7_line_96, tX7_line_97, tX7_line_98, tX7_line_99, tX7_line_100, tX7_line_101, tX7_line_102, tX7_line_103, tX7_line_104, tX7_line_106, tX7_line_109, tX7_line_111, pw_QK_s, h1, h2, h3, ↓w_isNode, ↓w_bit, ↓w_in, ↓w_record, ↓w_l, ↓w_hang, ti_le]
    refine ⟨hI.n3, fun q => ⟨fun q2 => ⟨fun q3 => ?_, fun q3 => hA (fun z => q3 z.2.2)⟩, fun q2 => hA (fun z => q2 z.2.1)⟩, fun q => hA (fun z => q z.1)⟩
    have hxn : x.toInt < 6 := by have := hI.n3.2; omega
    obtain ⟨j, rfl, hj⟩ := tn6 ⟨q.1, hxn⟩
    have hjn : j < vN (I (o + 1)) 3 := by
      have := q.2
      rw [h30.1, ti_nI (by omega), ti_nI (by omega)] at this
      omega
    rw [cl_nI (by omega)] at hC
    refine ⟨fun q4 => ?_, fun q4 => ?_⟩
    · have h6 : vN (I (o + 1)) 4 < 16 := by
        rcases Nat.lt_or_ge (vN (I (o + 1)) 4) 16 with z | z
        · exact z
        · exact absurd (by rw [h40.1, show vN (I (o + 1)) 4 = 16 by omega]; rfl) q4
      refine ⟨hu, ?_⟩
      have hcj := hc h6 j hjn
      have hbj := (hI.2.2.2.1 j hj).2.2
      simp (disch := omega) only [ix_l, ix_n, ix_0, ix_1, ix_2, ix_3, ix_4, ix_5, ix_6, ix_7, ix_8, ix_9, ix_10, ix_11, ix_12, ix_13, ix_14, ix_15, ix_20, ix_100, ix_374, jx_100, jx_11, jx_374, kx_374, cl_nI, in_nI, Nat.add_zero, true_and, up_set, set_s, set_set, set_n, cpy_s0, cpy_sd, cpy_ss, nI_add, upd_s, upd_n, rec_S, h40.1]
      have e : vN (upd (upd (upd (upd (I (o + 1)) (166 + 13 * vN (I (o + 1)) 4) (nI j)) (166 + 13 * vN (I (o + 1)) 4 + 1) r) (166 + 13 * vN (I (o + 1)) 4 + 2) t) 4 (nI (vN (I (o + 1)) 4 + 1))) (16 + 25 * j + 3) = cntS (I (o + 1)) j := by
        unfold vN
        rw [upd_n (by omega), upd_n (by omega), upd_n (by omega), upd_n (by omega)]
      rw [e]
      exact ⟨⟨q.1, hxn⟩, ⟨hbj.1, hcj⟩, hC ⟨q, q2, q3⟩ h6⟩
    · exact hB ⟨q, q2, q3⟩ (by rw [vN, q4]; rfl)
  · exact h.elim
/-- a line is masked, or no more -/
def w_mask7 (m : Nat) : pw_Wp := fun Ag I K => match Ag with
  | [.ref o, .int x, .int t] => o = m ∧ InvB (I (m + 1)) ∧ UndoOK m I ∧ (∀ k, k < 16 → InvB (upd (I (m + 1)) (166 + 13 * k + 5) t) ∨ ¬ bit01 t) ∧ (¬ (okLine (I (m + 1)) x ∧ bit01 t) → K (some (.int (-1))) I) ∧
    (okLine (I (m + 1)) x ∧ bit01 t → I (m + 1) (166 + 13 * x.toNatClampNeg + 5) = t → K (some (.int (-2))) I) ∧
    (okLine (I (m + 1)) x ∧ bit01 t → ¬ I (m + 1) (166 + 13 * x.toNatClampNeg + 5) = t → K (some (.int (bitsS (linesOfS (upd (I (m + 1)) (166 + 13 * x.toNatClampNeg + 5) t) 4)))) (pw_set (recI m I) (m + 1) (upd (I (m + 1)) (166 + 13 * x.toNatClampNeg + 5) t)))
  | _ => False
set_option maxRecDepth 100000 in
set_option maxHeartbeats 4000000 in
theorem x_mask7 (hM : pw_mod sh P m) (h : w_mask7 m Ag I K) : pw_ok mX7_mask 5 base n sh P Ag I K := by
  unfold w_mask7 at h
  split at h
  · rename_i o x t
    obtain ⟨rfl, hI, hu, hI2, hA, hB, hC⟩ := h
    obtain ⟨h1, ⟨h2, h3⟩, -⟩ := id hM
    refine pw_bd [_, _, _] pl_X7 c_rii rfl rfl ?_
    refine pw_go okX7_mask (cc [(101, (w_isLine o)), (102, w_bit), (95, (w_record o)), (99, w_l), (139, (w_linesOf o)), (108, w_bits)]) ⟨Nat.le_refl _, Nat.le_refl _⟩ (cc_c (fun Ag I K h => ⟨1, Nat.le_of_ble_eq_true rfl, x_isLine hM h⟩) (cc_c (fun Ag I K h => ⟨0, Nat.le_of_ble_eq_true rfl, x_isBit7 h⟩) (cc_c (fun Ag I K h => ⟨0, Nat.le_of_ble_eq_true rfl, x_record hM h⟩) (cc_c (fun Ag I K h => ⟨0, Nat.le_of_ble_eq_true rfl, x_l h⟩) (cc_c (fun Ag I K h => ⟨4, Nat.le_of_ble_eq_true rfl, x_linesOf hM h⟩) (cc_c (fun Ag I K h => ⟨0, Nat.le_of_ble_eq_true rfl, x_bits h⟩) cc_n)))))) (st0) 120 ?_
    simp only [↓f_vc_s, ↓vk_i, ↓cc_i, ↓reduceIte, f_vq_s, Bool.false_eq_true, ↓f_e_iconst, ↓f_e_bipush, ↓f_e_sipush, ↓f_e_ldc, ↓f_e_ldc_w, ↓f_e_iload_n, ↓f_e_iload, ↓f_e_aload_n, ↓f_e_aload, ↓f_e_istore_n, ↓f_e_istore, ↓f_e_astore_n, ↓f_e_astore, ↓f_e_iinc, ↓f_e_iadd, ↓f_e_isub, ↓f_e_imul, ↓f_e_iand, ↓f_e_ior, ↓f_e_ixor, ↓f_e_idiv, ↓f_e_irem, ↓f_e_ishl, ↓f_e_ishr, ↓f_e_iushr, ↓f_e_i2c, ↓f_e_dup, ↓f_e_dup2, ↓f_e_pop, ↓f_e_goto, ↓f_e_ifCond, ↓f_e_if_icmp, ↓f_e_tableswitch, ↓f_e_lookupswitch, ↓f_e_getfield_i, ↓f_e_getfield_r, ↓f_e_putfield_i, ↓f_e_putfield_z, ↓f_e_iaload, ↓f_e_caload, ↓f_e_aaload, ↓f_e_iastore, ↓f_e_castore, ↓f_e_arraylength, ↓f_e_invokestatic, ↓f_e_invokevirtual, ↓f_e_ireturn, ↓f_e_return_, ↓f_s_i_c, ↓f_s_r_c, ↓f_s_v_i, ↓f_s_v_r, ↓f_s_l_0, ↓s_l_1, ↓s_l_2, ↓s_l_3, ↓s_l_4, ↓s_l_5, ↓s_l_6, ↓s_a_0, ↓s_a_1, ↓s_a_2, ↓s_a_3, ↓s_m_0, ↓f_s_m_i, ↓f_s_m_r, ↓f_s_m_i7, ↓f_s_m_r7, ↓f_s_m_i6, ↓f_s_m_r6, ↓f_s_m_i5, ↓f_s_m_r5, ↓f_s_m_i4, ↓f_s_m_r4, ↓f_s_w_n, ↓f_s_w_c, ↓f_s_p_eq, ↓f_s_p_ne, ↓f_s_p_lt, ↓f_s_p_ge, ↓f_s_p_gt, ↓f_s_p_le, ↓nk_i, ↓nk_z, ↓nk_c, ↓rf_s, ↓ov_s, ↓ov_n, ↓fin0, ↓fin1, ↓fin2, ↓fin3, cond_true, cond_false, List.set_cons_zero, List.set_cons_succ, List.length_cons, List.length_nil, true_and, and_true, true_or, or_true, implies_true, forall_const, not_true_eq_false, not_false_eq_true, false_implies, Nat.reduceAdd, Nat.reduceLT, Nat.reduceBEq, Nat.reduceEqDiff, Bool.or_false, Bool.false_or, Bool.or_true, Bool.true_or, beq_self_eq_true, Nat.reduceLeDiff, Nat.reduceMul, Nat.reduceSub, eq_self, Nat.reduceBneDiff, st0_s, st1_s, st2_s, st3_s, reduceCtorEq, cc_0, tl_0, cl_0, il_0, tl_1, cl_1, il_1, tl_2, cl_2, il_2, tl_3, cl_3, il_3, tl_4, cl_4, il_4, tl_5, cl_5, il_5, tl_6, cl_6, il_6, tl_7, cl_7, il_7, tl_8, cl_8, il_8, tl_9, cl_9, il_9, tl_10, cl_10, il_10, tl_11, cl_11, il_11, tl_12, cl_12, il_12, tl_13, cl_13, il_13, tl_14, cl_14, il_14, tl_15, cl_15, il_15, tl_16, cl_16, il_16, tl_20, tl_21, tl_25, tl_32, tl_48, tl_50, tl_57, tl_58, tl_59, tl_60, tl_99, tl_100, tl_101, tl_108, tl_109, tl_116, tl_120, tl_126, tl_374, tl_1122, tl_50000, i10, i01, tl_m1, tl_m2, tl_m3, tl_m4, nr_X7_mask, tX7_mask_0, tX7_mask_1, tX7_mask_2, tX7_mask_5, tX7_mask_8, tX7_mask_9, tX7_mask_12, tX7_mask_15, tX7_mask_16, tX7_mask_17, tX7_mask_18, tX7_mask_21, tX7_mask_22, tX7_mask_25, tX7_mask_26, tX7_mask_27, tX7_mask_28, tX7_mask_29, tX7_mask_32, tX7_mask_34, tX7_mask_35, tX7_mask_36, tX7_mask_39, tX7_mask_40, tX7_mask_43, tX7_mask_44, tX7_mask_47, tX7_mask_48, tX7_mask_49, tX7_mask_50, tX7_mask_51, tX7_mask_52, tX7_mask_53, tX7_mask_56, tX7_mask_59, pw_QK_s, h1, h2, h3, ↓w_isLine, ↓w_bit, ↓w_record, ↓w_l, ↓w_linesOf, ↓w_bits]
    refine ⟨hI.n4, fun q => ⟨fun q2 => ?_, fun q2 => hA (fun z => q2 z.2)⟩, fun q => hA (fun z => q z.1)⟩
    obtain ⟨k, rfl, hk⟩ := tn16 ⟨q.1, by have := hI.n4.2; have := q.2; omega⟩
    rw [cl_nI (by omega)] at hB hC
    simp (disch := omega) only [ix_l, ix_n, ix_0, ix_1, ix_2, ix_3, ix_4, ix_5, ix_6, ix_7, ix_8, ix_9, ix_10, ix_11, ix_12, ix_13, ix_14, ix_15, ix_20, ix_100, ix_374, jx_100, jx_11, jx_374, kx_374, cl_nI, in_nI, Nat.add_zero, true_and, up_set, set_s, set_set, set_n, cpy_s0, cpy_sd, cpy_ss, nI_add, upd_s, upd_n, rec_S]
    exact ⟨fun q3 => ⟨hu, (hI2 k hk).resolve_right (fun z => z q2), hC ⟨q, q2⟩ q3⟩, fun q3 => hB ⟨q, q2⟩ q3⟩
  · exact h.elim
def w_maskNode7 (m : Nat) : pw_Wp := fun Ag I K => match Ag with
  | [.ref o, .int x, .int t] => o = m ∧ InvB (I (m + 1)) ∧ UndoOK m I ∧ (∀ k, k < 6 → InvB (upd (I (m + 1)) (16 + 25 * k + 2) t) ∨ ¬ bit01 t) ∧ (¬ (okNode (I (m + 1)) x ∧ bit01 t) → K (some (.int (-1))) I) ∧
    (okNode (I (m + 1)) x ∧ bit01 t → I (m + 1) (16 + 25 * x.toNatClampNeg + 2) = t → K (some (.int (-2))) I) ∧
    (okNode (I (m + 1)) x ∧ bit01 t → ¬ I (m + 1) (16 + 25 * x.toNatClampNeg + 2) = t → K (some (.int (bitsS (linesByS (upd (I (m + 1)) (16 + 25 * x.toNatClampNeg + 2) t) x.toNatClampNeg)))) (pw_set (recI m I) (m + 1) (upd (I (m + 1)) (16 + 25 * x.toNatClampNeg + 2) t)))
  | _ => False
set_option maxRecDepth 100000 in
set_option maxHeartbeats 4000000 in
theorem x_maskNode7 (hM : pw_mod sh P m) (h : w_maskNode7 m Ag I K) : pw_ok mX7_maskNode 3 base n sh P Ag I K := by
  unfold w_maskNode7 at h
  split at h
  · rename_i o x t
    obtain ⟨rfl, hI, hu, hI2, hA, hB, hC⟩ := h
    obtain ⟨h1, ⟨h2, h3⟩, -⟩ := id hM
    refine pw_bd [_, _, _] pl_X7 c_rii rfl rfl ?_
    refine pw_go okX7_maskNode (cc [(100, (w_isNode o)), (102, w_bit), (95, (w_record o)), (98, w_n), (107, (w_linesBy o)), (108, w_bits)]) ⟨Nat.le_refl _, Nat.le_refl _⟩ (cc_c (fun Ag I K h => ⟨1, Nat.le_of_ble_eq_true rfl, x_isNode hM h⟩) (cc_c (fun Ag I K h => ⟨0, Nat.le_of_ble_eq_true rfl, x_isBit7 h⟩) (cc_c (fun Ag I K h => ⟨0, Nat.le_of_ble_eq_true rfl, x_record hM h⟩) (cc_c (fun Ag I K h => ⟨0, Nat.le_of_ble_eq_true rfl, x_n h⟩) (cc_c (fun Ag I K h => ⟨2, Nat.le_of_ble_eq_true rfl, x_linesBy hM h⟩) (cc_c (fun Ag I K h => ⟨0, Nat.le_of_ble_eq_true rfl, x_bits h⟩) cc_n)))))) (st0) 120 ?_
    simp only [↓f_vc_s, ↓vk_i, ↓cc_i, ↓reduceIte, f_vq_s, Bool.false_eq_true, ↓f_e_iconst, ↓f_e_bipush, ↓f_e_sipush, ↓f_e_ldc, ↓f_e_ldc_w, ↓f_e_iload_n, ↓f_e_iload, ↓f_e_aload_n, ↓f_e_aload, ↓f_e_istore_n, ↓f_e_istore, ↓f_e_astore_n, ↓f_e_astore, ↓f_e_iinc, ↓f_e_iadd, ↓f_e_isub, ↓f_e_imul, ↓f_e_iand, ↓f_e_ior, ↓f_e_ixor, ↓f_e_idiv, ↓f_e_irem, ↓f_e_ishl, ↓f_e_ishr, ↓f_e_iushr, ↓f_e_i2c, ↓f_e_dup, ↓f_e_dup2, ↓f_e_pop, ↓f_e_goto, ↓f_e_ifCond, ↓f_e_if_icmp, ↓f_e_tableswitch, ↓f_e_lookupswitch, ↓f_e_getfield_i, ↓f_e_getfield_r, ↓f_e_putfield_i, ↓f_e_putfield_z, ↓f_e_iaload, ↓f_e_caload, ↓f_e_aaload, ↓f_e_iastore, ↓f_e_castore, ↓f_e_arraylength, ↓f_e_invokestatic, ↓f_e_invokevirtual, ↓f_e_ireturn, ↓f_e_return_, ↓f_s_i_c, ↓f_s_r_c, ↓f_s_v_i, ↓f_s_v_r, ↓f_s_l_0, ↓s_l_1, ↓s_l_2, ↓s_l_3, ↓s_l_4, ↓s_l_5, ↓s_l_6, ↓s_a_0, ↓s_a_1, ↓s_a_2, ↓s_a_3, ↓s_m_0, ↓f_s_m_i, ↓f_s_m_r, ↓f_s_m_i7, ↓f_s_m_r7, ↓f_s_m_i6, ↓f_s_m_r6, ↓f_s_m_i5, ↓f_s_m_r5, ↓f_s_m_i4, ↓f_s_m_r4, ↓f_s_w_n, ↓f_s_w_c, ↓f_s_p_eq, ↓f_s_p_ne, ↓f_s_p_lt, ↓f_s_p_ge, ↓f_s_p_gt, ↓f_s_p_le, ↓nk_i, ↓nk_z, ↓nk_c, ↓rf_s, ↓ov_s, ↓ov_n, ↓fin0, ↓fin1, ↓fin2, ↓fin3, cond_true, cond_false, List.set_cons_zero, List.set_cons_succ, List.length_cons, List.length_nil, true_and, and_true, true_or, or_true, implies_true, forall_const, not_true_eq_false, not_false_eq_true, false_implies, Nat.reduceAdd, Nat.reduceLT, Nat.reduceBEq, Nat.reduceEqDiff, Bool.or_false, Bool.false_or, Bool.or_true, Bool.true_or, beq_self_eq_true, Nat.reduceLeDiff, Nat.reduceMul, Nat.reduceSub, eq_self, Nat.reduceBneDiff, st0_s, st1_s, st2_s, st3_s, reduceCtorEq, cc_0, tl_0, cl_0, il_0, tl_1, cl_1, il_1, tl_2, cl_2, il_2, tl_3, cl_3, il_3, tl_4, cl_4, il_4, tl_5, cl_5, il_5, tl_6, cl_6, il_6, tl_7, cl_7, il_7, tl_8, cl_8, il_8, tl_9, cl_9, il_9, tl_10, cl_10, il_10, tl_11, cl_11, il_11, tl_12, cl_12, il_12, tl_13, cl_13, il_13, tl_14, cl_14, il_14, tl_15, cl_15, il_15, tl_16, cl_16, il_16, tl_20, tl_21, tl_25, tl_32, tl_48, tl_50, tl_57, tl_58, tl_59, tl_60, tl_99, tl_100, tl_101, tl_108, tl_109, tl_116, tl_120, tl_126, tl_374, tl_1122, tl_50000, i10, i01, tl_m1, tl_m2, tl_m3, tl_m4, nr_X7_maskNode, tX7_maskNode_0, tX7_maskNode_1, tX7_maskNode_2, tX7_maskNode_5, tX7_maskNode_8, tX7_maskNode_9, tX7_maskNode_12, tX7_maskNode_15, tX7_maskNode_16, tX7_maskNode_17, tX7_maskNode_18, tX7_maskNode_21, tX7_maskNode_22, tX7_maskNode_25, tX7_maskNode_26, tX7_maskNode_27, tX7_maskNode_28, tX7_maskNode_29, tX7_maskNode_32, tX7_maskNode_34, tX7_maskNode_35, tX7_maskNode_36, tX7_maskNode_39, tX7_maskNode_40, tX7_maskNode_43, tX7_maskNode_44, tX7_maskNode_47, tX7_maskNode_48, tX7_maskNode_49, tX7_maskNode_50, tX7_maskNode_51, tX7_maskNode_52, tX7_maskNode_53, tX7_maskNode_56, tX7_maskNode_59, pw_QK_s, h1, h2, h3, ↓w_isNode, ↓w_bit, ↓w_record, ↓w_n, ↓w_linesBy, ↓w_bits]
    refine ⟨hI.n3, fun q => ⟨fun q2 => ?_, fun q2 => hA (fun z => q2 z.2)⟩, fun q => hA (fun z => q z.1)⟩
    have hxn : x.toInt < 6 := by have := hI.n3.2; have := q.2; omega
    obtain ⟨k, rfl, hk⟩ := tn6 ⟨q.1, hxn⟩
    rw [cl_nI (by omega)] at hB hC
    simp (disch := omega) only [ix_l, ix_n, ix_0, ix_1, ix_2, ix_3, ix_4, ix_5, ix_6, ix_7, ix_8, ix_9, ix_10, ix_11, ix_12, ix_13, ix_14, ix_15, ix_20, ix_100, ix_374, jx_100, jx_11, jx_374, kx_374, cl_nI, in_nI, Nat.add_zero, true_and, up_set, set_s, set_set, set_n, cpy_s0, cpy_sd, cpy_ss, nI_add, upd_s, upd_n, rec_S]
    exact ⟨fun q3 => ⟨hu, (hI2 k hk).resolve_right (fun z => z q2), ⟨q.1, hxn⟩, hC ⟨q, q2⟩ q3⟩, fun q3 => hB ⟨q, q2⟩ q3⟩
  · exact h.elim
def w_edge7 (m : Nat) : pw_Wp := fun Ag I K => match Ag with
  | [.ref o, .int x] => o = m ∧ InvB (I (m + 1)) ∧ UndoOK m I ∧ (¬ okLine (I (m + 1)) x → K (some (.int (-1))) I) ∧ (okLine (I (m + 1)) x → I (m + 1) (166 + 13 * x.toNatClampNeg + 2) = 1 → K (some (.int (-2))) I) ∧
    (okLine (I (m + 1)) x → ¬ I (m + 1) (166 + 13 * x.toNatClampNeg + 2) = 1 → K (some (.int (if I (m + 1) (166 + 13 * x.toNatClampNeg + 3) = 1 then 0 else 1))) (pw_set (recI m I) (m + 1) (goEdgeS (I (m + 1)) x.toNatClampNeg)))
  | _ => False
set_option maxRecDepth 100000 in
set_option maxHeartbeats 4000000 in
theorem x_edge7 (hM : pw_mod sh P m) (h : w_edge7 m Ag I K) : pw_ok mX7_edge 2 base n sh P Ag I K := by
  unfold w_edge7 at h
  split at h
  · rename_i o x
    obtain ⟨rfl, hI, hu, hA, hB, hC⟩ := h
    obtain ⟨h1, ⟨h2, h3⟩, -⟩ := id hM
    refine pw_bd [_, _] pl_X7 c_ri rfl rfl ?_
    refine pw_go okX7_edge (cc [(101, (w_isLine o)), (95, (w_record o)), (99, w_l), (125, (w_goEdge o))]) ⟨Nat.le_refl _, Nat.le_refl _⟩ (cc_c (fun Ag I K h => ⟨1, Nat.le_of_ble_eq_true rfl, x_isLine hM h⟩) (cc_c (fun Ag I K h => ⟨0, Nat.le_of_ble_eq_true rfl, x_record hM h⟩) (cc_c (fun Ag I K h => ⟨0, Nat.le_of_ble_eq_true rfl, x_l h⟩) (cc_c (fun Ag I K h => ⟨1, Nat.le_of_ble_eq_true rfl, x_goEdge hM h⟩) cc_n)))) (st0) 120 ?_
    simp only [↓f_vc_s, ↓vk_i, ↓cc_i, ↓reduceIte, f_vq_s, Bool.false_eq_true, ↓f_e_iconst, ↓f_e_bipush, ↓f_e_sipush, ↓f_e_ldc, ↓f_e_ldc_w, ↓f_e_iload_n, ↓f_e_iload, ↓f_e_aload_n, ↓f_e_aload, ↓f_e_istore_n, ↓f_e_istore, ↓f_e_astore_n, ↓f_e_astore, ↓f_e_iinc, ↓f_e_iadd, ↓f_e_isub, ↓f_e_imul, ↓f_e_iand, ↓f_e_ior, ↓f_e_ixor, ↓f_e_idiv, ↓f_e_irem, ↓f_e_ishl, ↓f_e_ishr, ↓f_e_iushr, ↓f_e_i2c, ↓f_e_dup, ↓f_e_dup2, ↓f_e_pop, ↓f_e_goto, ↓f_e_ifCond, ↓f_e_if_icmp, ↓f_e_tableswitch, ↓f_e_lookupswitch, ↓f_e_getfield_i, ↓f_e_getfield_r, ↓f_e_putfield_i, ↓f_e_putfield_z, ↓f_e_iaload, ↓f_e_caload, ↓f_e_aaload, ↓f_e_iastore, ↓f_e_castore, ↓f_e_arraylength, ↓f_e_invokestatic, ↓f_e_invokevirtual, ↓f_e_ireturn, ↓f_e_return_, ↓f_s_i_c, ↓f_s_r_c, ↓f_s_v_i, ↓f_s_v_r, ↓f_s_l_0, ↓s_l_1, ↓s_l_2, ↓s_l_3, ↓s_l_4, ↓s_l_5, ↓s_l_6, ↓s_a_0, ↓s_a_1, ↓s_a_2, ↓s_a_3, ↓s_m_0, ↓f_s_m_i, ↓f_s_m_r, ↓f_s_m_i7, ↓f_s_m_r7, ↓f_s_m_i6, ↓f_s_m_r6, ↓f_s_m_i5, ↓f_s_m_r5, ↓f_s_m_i4, ↓f_s_m_r4, ↓f_s_w_n, ↓f_s_w_c, ↓f_s_p_eq, ↓f_s_p_ne, ↓f_s_p_lt, ↓f_s_p_ge, ↓f_s_p_gt, ↓f_s_p_le, ↓nk_i, ↓nk_z, ↓nk_c, ↓rf_s, ↓ov_s, ↓ov_n, ↓fin0, ↓fin1, ↓fin2, ↓fin3, cond_true, cond_false, List.set_cons_zero, List.set_cons_succ, List.length_cons, List.length_nil, true_and, and_true, true_or, or_true, implies_true, forall_const, not_true_eq_false, not_false_eq_true, false_implies, Nat.reduceAdd, Nat.reduceLT, Nat.reduceBEq, Nat.reduceEqDiff, Bool.or_false, Bool.false_or, Bool.or_true, Bool.true_or, beq_self_eq_true, Nat.reduceLeDiff, Nat.reduceMul, Nat.reduceSub, eq_self, Nat.reduceBneDiff, st0_s, st1_s, st2_s, st3_s, reduceCtorEq, cc_0, tl_0, cl_0, il_0, tl_1, cl_1, il_1, tl_2, cl_2, il_2, tl_3, cl_3, il_3, tl_4, cl_4, il_4, tl_5, cl_5, il_5, tl_6, cl_6, il_6, tl_7, cl_7, il_7, tl_8, cl_8, il_8, tl_9, cl_9, il_9, tl_10, cl_10, il_10, tl_11, cl_11, il_11, tl_12, cl_12, il_12, tl_13, cl_13, il_13, tl_14, cl_14, il_14, tl_15, cl_15, il_15, tl_16, cl_16, il_16, tl_20, tl_21, tl_25, tl_32, tl_48, tl_50, tl_57, tl_58, tl_59, tl_60, tl_99, tl_100, tl_101, tl_108, tl_109, tl_116, tl_120, tl_126, tl_374, tl_1122, tl_50000, i10, i01, tl_m1, tl_m2, tl_m3, tl_m4, nr_X7_edge, tX7_edge_0, tX7_edge_1, tX7_edge_2, tX7_edge_5, tX7_edge_8, tX7_edge_9, tX7_edge_10, tX7_edge_11, tX7_edge_14, tX7_edge_15, tX7_edge_18, tX7_edge_19, tX7_edge_20, tX7_edge_21, tX7_edge_22, tX7_edge_25, tX7_edge_27, tX7_edge_28, tX7_edge_29, tX7_edge_32, tX7_edge_33, tX7_edge_34, tX7_edge_37, pw_QK_s, h1, h2, h3, ↓w_isLine, ↓w_record, ↓w_l, ↓w_goEdge]
    refine ⟨hI.n4, fun q => ?_, fun q => hA q⟩
    have hx : 0 ≤ x.toInt ∧ x.toInt < 16 := ⟨q.1, by have := hI.n4.2; have := q.2; omega⟩
    obtain ⟨k, rfl, hk⟩ := tn16 hx
    rw [cl_nI (by omega)] at hB hC
    simp (disch := omega) only [ix_l, ix_n, ix_0, ix_1, ix_2, ix_3, ix_4, ix_5, ix_6, ix_7, ix_8, ix_9, ix_10, ix_11, ix_12, ix_13, ix_14, ix_15, ix_20, ix_100, ix_374, jx_100, jx_11, jx_374, kx_374, cl_nI, in_nI, Nat.add_zero, true_and, up_set, set_s, set_set, set_n, cpy_s0, cpy_sd, cpy_ss, nI_add, upd_s, upd_n, rec_S]
    refine ⟨fun q3 => ⟨hu, hx, fun q4 => ?_, fun q4 => ?_⟩, fun q3 => hB q q3⟩
    · have := hC q q3; rw [if_pos q4] at this; exact this
    · have := hC q q3; rw [if_neg q4] at this; exact this
  · exact h.elim
def w_level7 (m : Nat) : pw_Wp := fun Ag I K => match Ag with
  | [.ref o, .int x, .int t] => o = m ∧ InvB (I (m + 1)) ∧ UndoOK m I ∧ (∀ k, k < 16 → InvB (upd (I (m + 1)) (166 + 13 * k + 3) t) ∨ ¬ bit01 t) ∧ (¬ (okLine (I (m + 1)) x ∧ bit01 t) → K (some (.int (-1))) I) ∧
    (okLine (I (m + 1)) x ∧ bit01 t → ¬ (I (m + 1) (166 + 13 * x.toNatClampNeg + 2) = 1 ∧ ¬ I (m + 1) (166 + 13 * x.toNatClampNeg + 3) = t) → K (some (.int (-2))) I) ∧
    (okLine (I (m + 1)) x ∧ bit01 t → I (m + 1) (166 + 13 * x.toNatClampNeg + 2) = 1 ∧ ¬ I (m + 1) (166 + 13 * x.toNatClampNeg + 3) = t → K (some (.int (bitsS (linesOfS (upd (I (m + 1)) (166 + 13 * x.toNatClampNeg + 3) t) 0)))) (pw_set (recI m I) (m + 1) (upd (I (m + 1)) (166 + 13 * x.toNatClampNeg + 3) t)))
  | _ => False
set_option maxRecDepth 100000 in
set_option maxHeartbeats 4000000 in
theorem x_level7 (hM : pw_mod sh P m) (h : w_level7 m Ag I K) : pw_ok mX7_level 5 base n sh P Ag I K := by
  unfold w_level7 at h
  split at h
  · rename_i o x t
    obtain ⟨rfl, hI, hu, hI2, hA, hB, hC⟩ := h
    obtain ⟨h1, ⟨h2, h3⟩, -⟩ := id hM
    refine pw_bd [_, _, _] pl_X7 c_rii rfl rfl ?_
    refine pw_go okX7_level (cc [(101, (w_isLine o)), (102, w_bit), (127, (w_canLevel o)), (95, (w_record o)), (99, w_l), (139, (w_linesOf o)), (108, w_bits)]) ⟨Nat.le_refl _, Nat.le_refl _⟩ (cc_c (fun Ag I K h => ⟨1, Nat.le_of_ble_eq_true rfl, x_isLine hM h⟩) (cc_c (fun Ag I K h => ⟨0, Nat.le_of_ble_eq_true rfl, x_isBit7 h⟩) (cc_c (fun Ag I K h => ⟨1, Nat.le_of_ble_eq_true rfl, x_canLevel hM h⟩) (cc_c (fun Ag I K h => ⟨0, Nat.le_of_ble_eq_true rfl, x_record hM h⟩) (cc_c (fun Ag I K h => ⟨0, Nat.le_of_ble_eq_true rfl, x_l h⟩) (cc_c (fun Ag I K h => ⟨4, Nat.le_of_ble_eq_true rfl, x_linesOf hM h⟩) (cc_c (fun Ag I K h => ⟨0, Nat.le_of_ble_eq_true rfl, x_bits h⟩) cc_n))))))) (st0) 120 ?_
    simp only [↓f_vc_s, ↓vk_i, ↓cc_i, ↓reduceIte, f_vq_s, Bool.false_eq_true, ↓f_e_iconst, ↓f_e_bipush, ↓f_e_sipush, ↓f_e_ldc, ↓f_e_ldc_w, ↓f_e_iload_n, ↓f_e_iload, ↓f_e_aload_n, ↓f_e_aload, ↓f_e_istore_n, ↓f_e_istore, ↓f_e_astore_n, ↓f_e_astore, ↓f_e_iinc, ↓f_e_iadd, ↓f_e_isub, ↓f_e_imul, ↓f_e_iand, ↓f_e_ior, ↓f_e_ixor, ↓f_e_idiv, ↓f_e_irem, ↓f_e_ishl, ↓f_e_ishr, ↓f_e_iushr, ↓f_e_i2c, ↓f_e_dup, ↓f_e_dup2, ↓f_e_pop, ↓f_e_goto, ↓f_e_ifCond, ↓f_e_if_icmp, ↓f_e_tableswitch, ↓f_e_lookupswitch, ↓f_e_getfield_i, ↓f_e_getfield_r, ↓f_e_putfield_i, ↓f_e_putfield_z, ↓f_e_iaload, ↓f_e_caload, ↓f_e_aaload, ↓f_e_iastore, ↓f_e_castore, ↓f_e_arraylength, ↓f_e_invokestatic, ↓f_e_invokevirtual, ↓f_e_ireturn, ↓f_e_return_, ↓f_s_i_c, ↓f_s_r_c, ↓f_s_v_i, ↓f_s_v_r, ↓f_s_l_0, ↓s_l_1, ↓s_l_2, ↓s_l_3, ↓s_l_4, ↓s_l_5, ↓s_l_6, ↓s_a_0, ↓s_a_1, ↓s_a_2, ↓s_a_3, ↓s_m_0, ↓f_s_m_i, ↓f_s_m_r, ↓f_s_m_i7, ↓f_s_m_r7, ↓f_s_m_i6, ↓f_s_m_r6, ↓f_s_m_i5, ↓f_s_m_r5, ↓f_s_m_i4, ↓f_s_m_r4, ↓f_s_w_n, ↓f_s_w_c, ↓f_s_p_eq, ↓f_s_p_ne, ↓f_s_p_lt, ↓f_s_p_ge, ↓f_s_p_gt, ↓f_s_p_le, ↓nk_i, ↓nk_z, ↓nk_c, ↓rf_s, ↓ov_s, ↓ov_n, ↓fin0, ↓fin1, ↓fin2, ↓fin3, cond_true, cond_false, List.set_cons_zero, List.set_cons_succ, List.length_cons, List.length_nil, true_and, and_true, true_or, or_true, implies_true, forall_const, not_true_eq_false, not_false_eq_true, false_implies, Nat.reduceAdd, Nat.reduceLT, Nat.reduceBEq, Nat.reduceEqDiff, Bool.or_false, Bool.false_or, Bool.or_true, Bool.true_or, beq_self_eq_true, Nat.reduceLeDiff, Nat.reduceMul, Nat.reduceSub, eq_self, Nat.reduceBneDiff, st0_s, st1_s, st2_s, st3_s, reduceCtorEq, cc_0, tl_0, cl_0, il_0, tl_1, cl_1, il_1, tl_2, cl_2, il_2, tl_3, cl_3, il_3, tl_4, cl_4, il_4, tl_5, cl_5, il_5, tl_6, cl_6, il_6, tl_7, cl_7, il_7, tl_8, cl_8, il_8, tl_9, cl_9, il_9, tl_10, cl_10, il_10, tl_11, cl_11, il_11, tl_12, cl_12, il_12, tl_13, cl_13, il_13, tl_14, cl_14, il_14, tl_15, cl_15, il_15, tl_16, cl_16, il_16, tl_20, tl_21, tl_25, tl_32, tl_48, tl_50, tl_57, tl_58, tl_59, tl_60, tl_99, tl_100, tl_101, tl_108, tl_109, tl_116, tl_120, tl_126, tl_374, tl_1122, tl_50000, i10, i01, tl_m1, tl_m2, tl_m3, tl_m4, nr_X7_level, tX7_level_0, tX7_level_1, tX7_level_2, tX7_level_5, tX7_level_8, tX7_level_9, tX7_level_12, tX7_level_15, tX7_level_16, tX7_level_17, tX7_level_18, tX7_level_19, tX7_level_20, tX7_level_23, tX7_level_26, tX7_level_28, tX7_level_29, tX7_level_30, tX7_level_33, tX7_level_34, tX7_level_37, tX7_level_38, tX7_level_41, tX7_level_42, tX7_level_43, tX7_level_44, tX7_level_45, tX7_level_46, tX7_level_47, tX7_level_50, tX7_level_53, pw_QK_s, h1, h2, h3, ↓w_isLine, ↓w_bit, ↓w_canLevel, ↓w_record, ↓w_l, ↓w_linesOf, ↓w_bits]
    refine ⟨hI.n4, fun q => ⟨fun q2 => ?_, fun q2 => hA (fun z => q2 z.2)⟩, fun q => hA (fun z => q z.1)⟩
    have hx : 0 ≤ x.toInt ∧ x.toInt < 16 := ⟨q.1, by have := hI.n4.2; have := q.2; omega⟩
    obtain ⟨k, rfl, hk⟩ := tn16 hx
    rw [cl_nI (by omega)] at hB hC
    simp (disch := omega) only [ix_l, ix_n, ix_0, ix_1, ix_2, ix_3, ix_4, ix_5, ix_6, ix_7, ix_8, ix_9, ix_10, ix_11, ix_12, ix_13, ix_14, ix_15, ix_20, ix_100, ix_374, jx_100, jx_11, jx_374, kx_374, cl_nI, in_nI, Nat.add_zero, true_and, up_set, set_s, set_set, set_n, cpy_s0, cpy_sd, cpy_ss, nI_add, upd_s, upd_n, rec_S]
    exact ⟨hx, fun q3 => ⟨hu, (hI2 k hk).resolve_right (fun z => z q2), hC ⟨q, q2⟩ q3⟩, fun q3 => hB ⟨q, q2⟩ q3⟩
  · exact h.elim
def w_threshold7 (m : Nat) : pw_Wp := fun Ag I K => match Ag with
  | [.ref o, .int x] => o = m ∧ UndoOK m I ∧ (¬ (0 ≤ x.toInt ∧ x.toInt ≤ 8) → K (some (.int (-1))) I) ∧ (0 ≤ x.toInt ∧ x.toInt ≤ 8 → K (some (.int (I (m + 1) 1))) (pw_set (recI m I) (m + 1) (upd (I (m + 1)) 1 x)))
  | _ => False
set_option maxRecDepth 100000 in
set_option maxHeartbeats 4000000 in
theorem x_threshold7 (hM : pw_mod sh P m) (h : w_threshold7 m Ag I K) : pw_ok mX7_threshold 1 base n sh P Ag I K := by
  unfold w_threshold7 at h
  split at h
  · rename_i o x
    obtain ⟨rfl, hu, hA, hB⟩ := h
    obtain ⟨h1, ⟨h2, h3⟩, -⟩ := id hM
    refine pw_bd [_, _, _] pl_X7 c_ri rfl rfl ?_
    refine pw_go okX7_threshold (cc [(94, w_in), (95, (w_record o))]) ⟨Nat.le_refl _, Nat.le_refl _⟩ (cc_c (fun Ag I K h => ⟨0, Nat.le_of_ble_eq_true rfl, x_in h⟩) (cc_c (fun Ag I K h => ⟨0, Nat.le_of_ble_eq_true rfl, x_record hM h⟩) cc_n)) (st0) 120 ?_
    simp only [↓f_vc_s, ↓vk_i, ↓cc_i, ↓reduceIte, f_vq_s, Bool.false_eq_true, ↓f_e_iconst, ↓f_e_bipush, ↓f_e_sipush, ↓f_e_ldc, ↓f_e_ldc_w, ↓f_e_iload_n, ↓f_e_iload, ↓f_e_aload_n, ↓f_e_aload, ↓f_e_istore_n, ↓f_e_istore, ↓f_e_astore_n, ↓f_e_astore, ↓f_e_iinc, ↓f_e_iadd, ↓f_e_isub, ↓f_e_imul, ↓f_e_iand, ↓f_e_ior, ↓f_e_ixor, ↓f_e_idiv, ↓f_e_irem, ↓f_e_ishl, ↓f_e_ishr, ↓f_e_iushr, ↓f_e_i2c, ↓f_e_dup, ↓f_e_dup2, ↓f_e_pop, ↓f_e_goto, ↓f_e_ifCond, ↓f_e_if_icmp, ↓f_e_tableswitch, ↓f_e_lookupswitch, ↓f_e_getfield_i, ↓f_e_getfield_r, ↓f_e_putfield_i, ↓f_e_putfield_z, ↓f_e_iaload, ↓f_e_caload, ↓f_e_aaload, ↓f_e_iastore, ↓f_e_castore, ↓f_e_arraylength, ↓f_e_invokestatic, ↓f_e_invokevirtual, ↓f_e_ireturn, ↓f_e_return_, ↓f_s_i_c, ↓f_s_r_c, ↓f_s_v_i, ↓f_s_v_r, ↓f_s_l_0, ↓s_l_1, ↓s_l_2, ↓s_l_3, ↓s_l_4, ↓s_l_5, ↓s_l_6, ↓s_a_0, ↓s_a_1, ↓s_a_2, ↓s_a_3, ↓s_m_0, ↓f_s_m_i, ↓f_s_m_r, ↓f_s_m_i7, ↓f_s_m_r7, ↓f_s_m_i6, ↓f_s_m_r6, ↓f_s_m_i5, ↓f_s_m_r5, ↓f_s_m_i4, ↓f_s_m_r4, ↓f_s_w_n, ↓f_s_w_c, ↓f_s_p_eq, ↓f_s_p_ne, ↓f_s_p_lt, ↓f_s_p_ge, ↓f_s_p_gt, ↓f_s_p_le, ↓nk_i, ↓nk_z, ↓nk_c, ↓rf_s, ↓ov_s, ↓ov_n, ↓fin0, ↓fin1, ↓fin2, ↓fin3, cond_true, cond_false, List.set_cons_zero, List.set_cons_succ, List.length_cons, List.length_nil, true_and, and_true, true_or, or_true, implies_true, forall_const, not_true_eq_false, not_false_eq_true, false_implies, Nat.reduceAdd, Nat.reduceLT, Nat.reduceBEq, Nat.reduceEqDiff, Bool.or_false, Bool.false_or, Bool.or_true, Bool.true_or, beq_self_eq_true, Nat.reduceLeDiff, Nat.reduceMul, Nat.reduceSub, eq_self, Nat.reduceBneDiff, st0_s, st1_s, st2_s, st3_s, reduceCtorEq, cc_0, tl_0, cl_0, il_0, tl_1, cl_1, il_1, tl_2, cl_2, il_2, tl_3, cl_3, il_3, tl_4, cl_4, il_4, tl_5, cl_5, il_5, tl_6, cl_6, il_6, tl_7, cl_7, il_7, tl_8, cl_8, il_8, tl_9, cl_9, il_9, tl_10, cl_10, il_10, tl_11, cl_11, il_11, tl_12, cl_12, il_12, tl_13, cl_13, il_13, tl_14, cl_14, il_14, tl_15, cl_15, il_15, tl_16, cl_16, il_16, tl_20, tl_21, tl_25, tl_32, tl_48, tl_50, tl_57, tl_58, tl_59, tl_60, tl_99, tl_100, tl_101, tl_108, tl_109, tl_116, tl_120, tl_126, tl_374, tl_1122, tl_50000, i10, i01, tl_m1, tl_m2, tl_m3, tl_m4, nr_X7_threshold, tX7_threshold_0, tX7_threshold_1, tX7_threshold_2, tX7_threshold_4, tX7_threshold_7, tX7_threshold_10, tX7_threshold_11, tX7_threshold_12, tX7_threshold_13, tX7_threshold_16, tX7_threshold_17, tX7_threshold_20, tX7_threshold_21, tX7_threshold_22, tX7_threshold_23, tX7_threshold_24, tX7_threshold_27, tX7_threshold_28, tX7_threshold_29, tX7_threshold_30, tX7_threshold_31, pw_QK_s, h1, h2, h3, ↓w_in, ↓w_record, ti_le]
    refine ⟨fun q => ⟨hu, ?_⟩, fun q => hA q⟩
    simp (disch := omega) only [ix_l, ix_n, ix_0, ix_1, ix_2, ix_3, ix_4, ix_5, ix_6, ix_7, ix_8, ix_9, ix_10, ix_11, ix_12, ix_13, ix_14, ix_15, ix_20, ix_100, ix_374, jx_100, jx_11, jx_374, kx_374, cl_nI, in_nI, Nat.add_zero, true_and, up_set, set_s, set_set, set_n, cpy_s0, cpy_sd, cpy_ss, nI_add, upd_s, upd_n, rec_S]
    exact hB q
  · exact h.elim
def w_late7 (m : Nat) : pw_Wp := fun Ag I K => match Ag with
  | [.ref o, .int x] => o = m ∧ UndoOK m I ∧ (¬ (0 ≤ x.toInt ∧ x.toInt ≤ 50) → K (some (.int (-1))) I) ∧ (0 ≤ x.toInt ∧ x.toInt ≤ 50 → K (some (.int (I (m + 1) 2))) (pw_set (recI m I) (m + 1) (upd (I (m + 1)) 2 x)))
  | _ => False
set_option maxRecDepth 100000 in
set_option maxHeartbeats 4000000 in
theorem x_late7 (hM : pw_mod sh P m) (h : w_late7 m Ag I K) : pw_ok mX7_late 1 base n sh P Ag I K := by
  unfold w_late7 at h
  split at h
  · rename_i o x
    obtain ⟨rfl, hu, hA, hB⟩ := h
    obtain ⟨h1, ⟨h2, h3⟩, -⟩ := id hM
    refine pw_bd [_, _, _] pl_X7 c_ri rfl rfl ?_
    refine pw_go okX7_late (cc [(94, w_in), (95, (w_record o))]) ⟨Nat.le_refl _, Nat.le_refl _⟩ (cc_c (fun Ag I K h => ⟨0, Nat.le_of_ble_eq_true rfl, x_in h⟩) (cc_c (fun Ag I K h => ⟨0, Nat.le_of_ble_eq_true rfl, x_record hM h⟩) cc_n)) (st0) 120 ?_
    simp only [↓f_vc_s, ↓vk_i, ↓cc_i, ↓reduceIte, f_vq_s, Bool.false_eq_true, ↓f_e_iconst, ↓f_e_bipush, ↓f_e_sipush, ↓f_e_ldc, ↓f_e_ldc_w, ↓f_e_iload_n, ↓f_e_iload, ↓f_e_aload_n, ↓f_e_aload, ↓f_e_istore_n, ↓f_e_istore, ↓f_e_astore_n, ↓f_e_astore, ↓f_e_iinc, ↓f_e_iadd, ↓f_e_isub, ↓f_e_imul, ↓f_e_iand, ↓f_e_ior, ↓f_e_ixor, ↓f_e_idiv, ↓f_e_irem, ↓f_e_ishl, ↓f_e_ishr, ↓f_e_iushr, ↓f_e_i2c, ↓f_e_dup, ↓f_e_dup2, ↓f_e_pop, ↓f_e_goto, ↓f_e_ifCond, ↓f_e_if_icmp, ↓f_e_tableswitch, ↓f_e_lookupswitch, ↓f_e_getfield_i, ↓f_e_getfield_r, ↓f_e_putfield_i, ↓f_e_putfield_z, ↓f_e_iaload, ↓f_e_caload, ↓f_e_aaload, ↓f_e_iastore, ↓f_e_castore, ↓f_e_arraylength, ↓f_e_invokestatic, ↓f_e_invokevirtual, ↓f_e_ireturn, ↓f_e_return_, ↓f_s_i_c, ↓f_s_r_c, ↓f_s_v_i, ↓f_s_v_r, ↓f_s_l_0, ↓s_l_1, ↓s_l_2, ↓s_l_3, ↓s_l_4, ↓s_l_5, ↓s_l_6, ↓s_a_0, ↓s_a_1, ↓s_a_2, ↓s_a_3, ↓s_m_0, ↓f_s_m_i, ↓f_s_m_r, ↓f_s_m_i7, ↓f_s_m_r7, ↓f_s_m_i6, ↓f_s_m_r6, ↓f_s_m_i5, ↓f_s_m_r5, ↓f_s_m_i4, ↓f_s_m_r4, ↓f_s_w_n, ↓f_s_w_c, ↓f_s_p_eq, ↓f_s_p_ne, ↓f_s_p_lt, ↓f_s_p_ge, ↓f_s_p_gt, ↓f_s_p_le, ↓nk_i, ↓nk_z, ↓nk_c, ↓rf_s, ↓ov_s, ↓ov_n, ↓fin0, ↓fin1, ↓fin2, ↓fin3, cond_true, cond_false, List.set_cons_zero, List.set_cons_succ, List.length_cons, List.length_nil, true_and, and_true, true_or, or_true, implies_true, forall_const, not_true_eq_false, not_false_eq_true, false_implies, Nat.reduceAdd, Nat.reduceLT, Nat.reduceBEq, Nat.reduceEqDiff, Bool.or_false, Bool.false_or, Bool.or_true, Bool.true_or, beq_self_eq_true, Nat.reduceLeDiff, Nat.reduceMul, Nat.reduceSub, eq_self, Nat.reduceBneDiff, st0_s, st1_s, st2_s, st3_s, reduceCtorEq, cc_0, tl_0, cl_0, il_0, tl_1, cl_1, il_1, tl_2, cl_2, il_2, tl_3, cl_3, il_3, tl_4, cl_4, il_4, tl_5, cl_5, il_5, tl_6, cl_6, il_6, tl_7, cl_7, il_7, tl_8, cl_8, il_8, tl_9, cl_9, il_9, tl_10, cl_10, il_10, tl_11, cl_11, il_11, tl_12, cl_12, il_12, tl_13, cl_13, il_13, tl_14, cl_14, il_14, tl_15, cl_15, il_15, tl_16, cl_16, il_16, tl_20, tl_21, tl_25, tl_32, tl_48, tl_50, tl_57, tl_58, tl_59, tl_60, tl_99, tl_100, tl_101, tl_108, tl_109, tl_116, tl_120, tl_126, tl_374, tl_1122, tl_50000, i10, i01, tl_m1, tl_m2, tl_m3, tl_m4, nr_X7_late, tX7_late_0, tX7_late_1, tX7_late_2, tX7_late_4, tX7_late_7, tX7_late_10, tX7_late_11, tX7_late_12, tX7_late_13, tX7_late_16, tX7_late_17, tX7_late_20, tX7_late_21, tX7_late_22, tX7_late_23, tX7_late_24, tX7_late_27, tX7_late_28, tX7_late_29, tX7_late_30, tX7_late_31, pw_QK_s, h1, h2, h3, ↓w_in, ↓w_record, ti_le]
    refine ⟨fun q => ⟨hu, ?_⟩, fun q => hA q⟩
    simp (disch := omega) only [ix_l, ix_n, ix_0, ix_1, ix_2, ix_3, ix_4, ix_5, ix_6, ix_7, ix_8, ix_9, ix_10, ix_11, ix_12, ix_13, ix_14, ix_15, ix_20, ix_100, ix_374, jx_100, jx_11, jx_374, kx_374, cl_nI, in_nI, Nat.add_zero, true_and, up_set, set_s, set_set, set_n, cpy_s0, cpy_sd, cpy_ss, nI_add, upd_s, upd_n, rec_S]
    exact hB q
  · exact h.elim
end MOD5
