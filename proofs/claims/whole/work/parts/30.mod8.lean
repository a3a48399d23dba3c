/-! the reference: what is told of lines and nodes, of those that wait; the text's signs -/
section MOD8
variable {n base m : Nat} {sh : pw_Sh} {P : pw_P} {Ag : List Value} {I : pw_I} {K : Option Value → pw_I → Prop}
/-- what lineOf tells of line k -/
def lineOfS (S : Nat → Int32) (k : Nat) (w : Int32) : Int32 :=
  if w = 0 then S (166 + 13 * k) else if w = 1 then S (166 + 13 * k + 1) else if w = 2 then S (166 + 13 * k + 2) else if w = 3 then S (166 + 13 * k + 3) else if w = 4 then S (166 + 13 * k + 4) else if w = 5 then S (166 + 13 * k + 5)
  else if w = 6 then (if readyS S k = true then 1 else 0) else if w = 7 then S (166 + 13 * k + 6) else if w = 8 then S (166 + 13 * k + 7) else if w = 9 then S (166 + 13 * k + 8)
  else if w = 10 then (if S (166 + 13 * k + 2) = 1 ∨ S (166 + 13 * k + 8) = 0 then -4 else S (166 + 13 * k + 9)) else (if S (166 + 13 * k + 4) = 2 then S (166 + 13 * k + 11) - S 0 else -4)
theorem lo6 {S : Nat → Int32} {k : Nat} : lineOfS S k 6 = if readyS S k = true then 1 else 0 := rfl
theorem lo10 {S : Nat → Int32} {k : Nat} : lineOfS S k 10 = if S (166 + 13 * k + 2) = 1 ∨ S (166 + 13 * k + 8) = 0 then -4 else S (166 + 13 * k + 9) := rfl
theorem lo11 {S : Nat → Int32} {k : Nat} : lineOfS S k 11 = if S (166 + 13 * k + 4) = 2 then S (166 + 13 * k + 11) - S 0 else -4 := rfl
def w_litState (m : Nat) : pw_Wp := fun Ag I K => match Ag with
  | [.ref o, .int x, .int w] => o = m ∧ InvB (I (m + 1)) ∧ (0 ≤ x.toInt ∧ x.toInt < 16) ∧ (w = 4 ∨ w = 5 ∨ w = 6 ∨ w = 10 ∨ w = 11) ∧ K (some (.int (lineOfS (I (m + 1)) x.toNatClampNeg w))) I
  | _ => False
set_option maxRecDepth 100000 in
set_option maxHeartbeats 4000000 in
theorem x_litState (hM : pw_mod sh P m) (h : w_litState m Ag I K) : pw_ok mX7_litState 3 base n sh P Ag I K := by
  unfold w_litState at h
  split at h
  · rename_i o x w
    obtain ⟨rfl, hI, hx, hw, hA⟩ := h
    obtain ⟨h1, ⟨h2, h3⟩, -⟩ := id hM
    obtain ⟨k, rfl, hk⟩ := tn16 hx
    rw [cl_nI (by omega)] at hA
    refine pw_bd [_, _, _, _] pl_X7 c_rii rfl rfl ?_
    refine pw_go okX7_litState (cc [(99, w_l), (114, (w_isReady o))]) ⟨Nat.le_refl _, Nat.le_refl _⟩ (cc_c (fun Ag I K h => ⟨0, Nat.le_of_ble_eq_true rfl, x_l h⟩) (cc_c (fun Ag I K h => ⟨2, Nat.le_of_ble_eq_true rfl, x_isReady hM h⟩) cc_n)) (st0) 120 ?_
    simp only [↓f_vc_s, ↓vk_i, ↓cc_i, ↓reduceIte, f_vq_s, Bool.false_eq_true, ↓f_e_iconst, ↓f_e_bipush, ↓f_e_sipush, ↓f_e_ldc, ↓f_e_ldc_w, ↓f_e_iload_n, ↓f_e_iload, ↓f_e_aload_n, ↓f_e_aload, ↓f_e_istore_n, ↓f_e_istore, ↓f_e_astore_n, ↓f_e_astore, ↓f_e_iinc, ↓f_e_iadd, ↓f_e_isub, ↓f_e_imul, ↓f_e_iand, ↓f_e_ior, ↓f_e_ixor, ↓f_e_idiv, ↓f_e_irem, ↓f_e_ishl, ↓f_e_ishr, ↓f_e_iushr, ↓f_e_i2c, ↓f_e_dup, ↓f_e_dup2, ↓f_e_pop, ↓f_e_goto, ↓f_e_ifCond, ↓f_e_if_icmp, ↓f_e_tableswitch, ↓f_e_lookupswitch, ↓f_e_getfield_i, ↓f_e_getfield_r, ↓f_e_putfield_i, ↓f_e_putfield_z, ↓f_e_iaload, ↓f_e_caload, ↓f_e_aaload, ↓f_e_iastore, ↓f_e_castore, ↓f_e_arraylength, ↓f_e_invokestatic, ↓f_e_invokevirtual, ↓f_e_ireturn, ↓f_e_return_, ↓f_s_i_c, ↓f_s_r_c, ↓f_s_v_i, ↓f_s_v_r, ↓f_s_l_0, ↓s_l_1, ↓s_l_2, ↓s_l_3, ↓s_l_4, ↓s_l_5, ↓s_l_6, ↓s_a_0, ↓s_a_1, ↓s_a_2, ↓s_a_3, ↓s_m_0, ↓f_s_m_i, ↓f_s_m_r, ↓f_s_m_i7, ↓f_s_m_r7, ↓f_s_m_i6, ↓f_s_m_r6, ↓f_s_m_i5, ↓f_s_m_r5, ↓f_s_m_i4, ↓f_s_m_r4, ↓f_s_w_n, ↓f_s_w_c, ↓f_s_p_eq, ↓f_s_p_ne, ↓f_s_p_lt, ↓f_s_p_ge, ↓f_s_p_gt, ↓f_s_p_le, ↓nk_i, ↓nk_z, ↓nk_c, ↓rf_s, ↓ov_s, ↓ov_n, ↓fin0, ↓fin1, ↓fin2, ↓fin3, cond_true, cond_false, List.set_cons_zero, List.set_cons_succ, List.length_cons, List.length_nil, true_and, and_true, true_or, or_true, implies_true, forall_const, not_true_eq_false, not_false_eq_true, false_implies, Nat.reduceAdd, Nat.reduceLT, Nat.reduceBEq, Nat.reduceEqDiff, Bool.or_false, Bool.false_or, Bool.or_true, Bool.true_or, beq_self_eq_true, Nat.reduceLeDiff, Nat.reduceMul, Nat.reduceSub, eq_self, Nat.reduceBneDiff, st0_s, st1_s, st2_s, st3_s, reduceCtorEq, cc_0, tl_0, cl_0, il_0, tl_1, cl_1, il_1, tl_2, cl_2, il_2, tl_3, cl_3, il_3, tl_4, cl_4, il_4, tl_5, cl_5, il_5, tl_6, cl_6, il_6, tl_7, cl_7, il_7, tl_8, cl_8, il_8, tl_9, cl_9, il_9, tl_10, cl_10, il_10, tl_11, cl_11, il_11, tl_12, cl_12, il_12, tl_13, cl_13, il_13, tl_14, cl_14, il_14, tl_15, cl_15, il_15, tl_16, cl_16, il_16, tl_20, tl_21, tl_25, tl_32, tl_48, tl_50, tl_57, tl_58, tl_59, tl_60, tl_99, tl_100, tl_101, tl_108, tl_109, tl_116, tl_120, tl_126, tl_374, tl_1122, tl_50000, i10, i01, tl_m1, tl_m2, tl_m3, tl_m4, nr_X7_litState, tX7_litState_0, tX7_litState_1, tX7_litState_4, tX7_litState_5, tX7_litState_6, tX7_litState_48, tX7_litState_49, tX7_litState_52, tX7_litState_53, tX7_litState_54, tX7_litState_55, tX7_litState_56, tX7_litState_57, tX7_litState_58, tX7_litState_61, tX7_litState_62, tX7_litState_63, tX7_litState_64, tX7_litState_65, tX7_litState_66, tX7_litState_67, tX7_litState_68, tX7_litState_71, tX7_litState_74, tX7_litState_75, tX7_litState_78, tX7_litState_79, tX7_litState_80, tX7_litState_81, tX7_litState_84, tX7_litState_85, tX7_litState_86, tX7_litState_87, tX7_litState_88, tX7_litState_89, tX7_litState_92, tX7_litState_93, tX7_litState_96, tX7_litState_97, tX7_litState_99, tX7_litState_100, tX7_litState_101, tX7_litState_104, tX7_litState_106, tX7_litState_109, tX7_litState_110, tX7_litState_113, tX7_litState_114, tX7_litState_116, tX7_litState_117, tX7_litState_118, tX7_litState_119, tX7_litState_120, tX7_litState_123, tX7_litState_124, tX7_litState_125, tX7_litState_126, tX7_litState_127, tX7_litState_128, tX7_litState_131, tX7_litState_132, tX7_litState_135, tX7_litState_136, tX7_litState_138, tX7_litState_139, tX7_litState_140, tX7_litState_141, tX7_litState_144, tX7_litState_145, tX7_litState_146, tX7_litState_147, tX7_litState_150, tX7_litState_152, pw_QK_s, h1, h2, h3, ↓w_l, ↓w_isReady]
    simp (disch := omega) only [ix_l, ix_n, ix_0, ix_1, ix_2, ix_3, ix_4, ix_5, ix_6, ix_7, ix_8, ix_9, ix_10, ix_11, ix_12, ix_13, ix_14, ix_15, ix_20, ix_100, ix_374, jx_100, jx_11, jx_374, kx_374, cl_nI, in_nI, Nat.add_zero, true_and, up_set, set_s, set_set, set_n, cpy_s0, cpy_sd, cpy_ss, nI_add, upd_s, upd_n]
    have d11 : w ≠ 4 → w ≠ 5 → w ≠ 6 → w ≠ 10 → w = 11 := fun a b c d => by
      rcases hw with z | z | z | z | z
      · exact absurd z a
      · exact absurd z b
      · exact absurd z c
      · exact absurd z d
      · exact z
    refine ⟨fun q => ?_, fun n4 => ⟨fun q => ?_, fun n5 => ⟨fun q => ⟨hI, hx, fun q2 => ?_, fun q2 => ?_⟩, fun n6 => ⟨fun q => ?_, fun n7 => ⟨fun q => ?_, fun n8 => ⟨fun q => ?_, fun n9 => ⟨fun q => ⟨fun q2 => ?_, fun q2 => ⟨fun q3 => ?_, fun q3 => ?_⟩⟩, fun n10 => ⟨fun q2 => ?_, fun q2 => ?_⟩⟩⟩⟩⟩⟩⟩⟩
    · subst q; exact hA
    · subst q; exact hA
    · subst q
      rw [lo6, if_pos q2] at hA; exact hA
    · subst q
      rw [lo6, q2, if_neg (by decide)] at hA; exact hA
    · subst q; rcases hw with z | z | z | z | z <;> exact absurd z (by decide)
    · subst q; rcases hw with z | z | z | z | z <;> exact absurd z (by decide)
    · subst q; rcases hw with z | z | z | z | z <;> exact absurd z (by decide)
    · subst q; rw [lo10, if_pos (Or.inl q2)] at hA; exact hA
    · subst q; rw [lo10, if_neg (fun z => z.elim q2 q3)] at hA; exact hA
    · subst q; rw [lo10, if_pos (Or.inr q3)] at hA; exact hA
    · rw [d11 n4 n5 n6 n10, lo11, if_neg q2] at hA; exact hA
    · rw [d11 n4 n5 n6 n10, lo11, if_pos q2] at hA; exact hA
  · exact h.elim
def w_type7 (m : Nat) : pw_Wp := fun Ag I K => match Ag with
  | [.ref o, .int x] => o = m ∧ (I m 7 = nI (vN (I m) 7) ∧ vN (I m) 7 ≤ 60) ∧ (¬ (32 ≤ x.toInt ∧ x.toInt ≤ 126) → K (some (.int (-1))) I) ∧ (32 ≤ x.toInt ∧ x.toInt ≤ 126 → vN (I m) 7 = 60 → K (some (.int (-3))) I) ∧
    (32 ≤ x.toInt ∧ x.toInt ≤ 126 → vN (I m) 7 < 60 → K (some (.int (nI (vN (I m) 7 + 1)))) (pw_set (pw_set I (m + 7) (upd (I (m + 7)) (vN (I m) 7) x)) m (upd (I m) 7 (nI (vN (I m) 7 + 1)))))
  | _ => False
set_option maxRecDepth 100000 in
set_option maxHeartbeats 4000000 in
theorem x_type7 (hM : pw_mod sh P m) (h : w_type7 m Ag I K) : pw_ok mX7_type 1 base n sh P Ag I K := by
  unfold w_type7 at h
  split at h
  · rename_i o x
    obtain ⟨rfl, hl, hA, hB, hC⟩ := h
    obtain ⟨h1, -, -, -, -, -, -, h4, h5⟩ := id hM
    refine pw_bd [_, _] pl_X7 c_ri rfl rfl ?_
    refine pw_go okX7_type (cc [(94, w_in)]) ⟨Nat.le_refl _, Nat.le_refl _⟩ (cc_c (fun Ag I K h => ⟨0, Nat.le_of_ble_eq_true rfl, x_in h⟩) cc_n) (st0) 120 ?_
    simp only [↓f_vc_s, ↓vk_i, ↓cc_i, ↓reduceIte, f_vq_s, Bool.false_eq_true, ↓f_e_iconst, ↓f_e_bipush, ↓f_e_sipush, ↓f_e_ldc, ↓f_e_ldc_w, ↓f_e_iload_n, ↓f_e_iload, ↓f_e_aload_n, ↓f_e_aload, ↓f_e_istore_n, ↓f_e_istore, ↓f_e_astore_n, ↓f_e_astore, ↓f_e_iinc, ↓f_e_iadd, ↓f_e_isub, ↓f_e_imul, ↓f_e_iand, ↓f_e_ior, ↓f_e_ixor, ↓f_e_idiv, ↓f_e_irem, ↓f_e_ishl, ↓f_e_ishr, ↓f_e_iushr, ↓f_e_i2c, ↓f_e_dup, ↓f_e_dup2, ↓f_e_pop, ↓f_e_goto, ↓f_e_ifCond, ↓f_e_if_icmp, ↓f_e_tableswitch, ↓f_e_lookupswitch, ↓f_e_getfield_i, ↓f_e_getfield_r, ↓f_e_putfield_i, ↓f_e_putfield_z, ↓f_e_iaload, ↓f_e_caload, ↓f_e_aaload, ↓f_e_iastore, ↓f_e_castore, ↓f_e_arraylength, ↓f_e_invokestatic, ↓f_e_invokevirtual, ↓f_e_ireturn, ↓f_e_return_, ↓f_s_i_c, ↓f_s_r_c, ↓f_s_v_i, ↓f_s_v_r, ↓f_s_l_0, ↓s_l_1, ↓s_l_2, ↓s_l_3, ↓s_l_4, ↓s_l_5, ↓s_l_6, ↓s_a_0, ↓s_a_1, ↓s_a_2, ↓s_a_3, ↓s_m_0, ↓f_s_m_i, ↓f_s_m_r, ↓f_s_m_i7, ↓f_s_m_r7, ↓f_s_m_i6, ↓f_s_m_r6, ↓f_s_m_i5, ↓f_s_m_r5, ↓f_s_m_i4, ↓f_s_m_r4, ↓f_s_w_n, ↓f_s_w_c, ↓f_s_p_eq, ↓f_s_p_ne, ↓f_s_p_lt, ↓f_s_p_ge, ↓f_s_p_gt, ↓f_s_p_le, ↓nk_i, ↓nk_z, ↓nk_c, ↓rf_s, ↓ov_s, ↓ov_n, ↓fin0, ↓fin1, ↓fin2, ↓fin3, cond_true, cond_false, List.set_cons_zero, List.set_cons_succ, List.length_cons, List.length_nil, true_and, and_true, true_or, or_true, implies_true, forall_const, not_true_eq_false, not_false_eq_true, false_implies, Nat.reduceAdd, Nat.reduceLT, Nat.reduceBEq, Nat.reduceEqDiff, Bool.or_false, Bool.false_or, Bool.or_true, Bool.true_or, beq_self_eq_true, Nat.reduceLeDiff, Nat.reduceMul, Nat.reduceSub, eq_self, Nat.reduceBneDiff, st0_s, st1_s, st2_s, st3_s, reduceCtorEq, cc_0, tl_0, cl_0, il_0, tl_1, cl_1, il_1, tl_2, cl_2, il_2, tl_3, cl_3, il_3, tl_4, cl_4, il_4, tl_5, cl_5, il_5, tl_6, cl_6, il_6, tl_7, cl_7, il_7, tl_8, cl_8, il_8, tl_9, cl_9, il_9, tl_10, cl_10, il_10, tl_11, cl_11, il_11, tl_12, cl_12, il_12, tl_13, cl_13, il_13, tl_14, cl_14, il_14, tl_15, cl_15, il_15, tl_16, cl_16, il_16, tl_20, tl_21, tl_25, tl_32, tl_48, tl_50, tl_57, tl_58, tl_59, tl_60, tl_99, tl_100, tl_101, tl_108, tl_109, tl_116, tl_120, tl_126, tl_374, tl_1122, tl_50000, i10, i01, tl_m1, tl_m2, tl_m3, tl_m4, nr_X7_type, tX7_type_0, tX7_type_1, tX7_type_3, tX7_type_5, tX7_type_8, tX7_type_11, tX7_type_12, tX7_type_13, tX7_type_14, tX7_type_17, tX7_type_19, tX7_type_22, tX7_type_24, tX7_type_25, tX7_type_26, tX7_type_29, tX7_type_30, tX7_type_33, tX7_type_34, tX7_type_35, tX7_type_36, tX7_type_37, tX7_type_40, tX7_type_41, tX7_type_42, tX7_type_45, tX7_type_46, tX7_type_49, pw_QK_s, h1, h4, h5, ↓w_in, ti_le]
    refine ⟨fun q => ?_, fun q => hA q⟩
    refine ⟨fun q2 => ?_, fun q2 => hB q (by rw [vN, q2]; rfl)⟩
    have hlt : vN (I o) 7 < 60 := by
      rcases Nat.lt_or_ge (vN (I o) 7) 60 with z | z
      · exact z
      · exact absurd (by rw [hl.1, show vN (I o) 7 = 60 by omega]; rfl) q2
    have := hC q hlt
    simp (disch := omega) only [ix_l, ix_n, ix_0, ix_1, ix_2, ix_3, ix_4, ix_5, ix_6, ix_7, ix_8, ix_9, ix_10, ix_11, ix_12, ix_13, ix_14, ix_15, ix_20, ix_100, ix_374, jx_100, jx_11, jx_374, kx_374, cl_nI, in_nI, Nat.add_zero, true_and, up_set, set_s, set_set, set_n, cpy_s0, cpy_sd, cpy_ss, nI_add, upd_s, upd_n, hl.1]
    exact this
  · exact h.elim
def w_clearText7 (m : Nat) : pw_Wp := fun Ag I K => match Ag with
  | [.ref o] => o = m ∧ K (some (.int (I m 7))) (pw_set I m (upd (I m) 7 0))
  | _ => False
set_option maxRecDepth 100000 in
set_option maxHeartbeats 4000000 in
theorem x_clearText7 (hM : pw_mod sh P m) (h : w_clearText7 m Ag I K) : pw_ok mX7_clearText 0 base n sh P Ag I K := by
  unfold w_clearText7 at h
  split at h
  · rename_i o
    obtain ⟨rfl, hA⟩ := h
    obtain ⟨h1, -⟩ := id hM
    refine pw_bd [_, _] pl_X7 c_r rfl rfl ?_
    refine pw_go okX7_clearText (cc []) ⟨Nat.le_refl _, Nat.le_refl _⟩ cc_n (st0) 120 ?_
    simp only [↓f_vc_s, ↓vk_i, ↓cc_i, ↓reduceIte, f_vq_s, Bool.false_eq_true, ↓f_e_iconst, ↓f_e_bipush, ↓f_e_sipush, ↓f_e_ldc, ↓f_e_ldc_w, ↓f_e_iload_n, ↓f_e_iload, ↓f_e_aload_n, ↓f_e_aload, ↓f_e_istore_n, ↓f_e_istore, ↓f_e_astore_n, ↓f_e_astore, ↓f_e_iinc, ↓f_e_iadd, ↓f_e_isub, ↓f_e_imul, ↓f_e_iand, ↓f_e_ior, ↓f_e_ixor, ↓f_e_idiv, ↓f_e_irem, ↓f_e_ishl, ↓f_e_ishr, ↓f_e_iushr, ↓f_e_i2c, ↓f_e_dup, ↓f_e_dup2, ↓f_e_pop, ↓f_e_goto, ↓f_e_ifCond, ↓f_e_if_icmp, ↓f_e_tableswitch, ↓f_e_lookupswitch, ↓f_e_getfield_i, ↓f_e_getfield_r, ↓f_e_putfield_i, ↓f_e_putfield_z, ↓f_e_iaload, ↓f_e_caload, ↓f_e_aaload, ↓f_e_iastore, ↓f_e_castore, ↓f_e_arraylength, ↓f_e_invokestatic, ↓f_e_invokevirtual, ↓f_e_ireturn, ↓f_e_return_, ↓f_s_i_c, ↓f_s_r_c, ↓f_s_v_i, ↓f_s_v_r, ↓f_s_l_0, ↓s_l_1, ↓s_l_2, ↓s_l_3, ↓s_l_4, ↓s_l_5, ↓s_l_6, ↓s_a_0, ↓s_a_1, ↓s_a_2, ↓s_a_3, ↓s_m_0, ↓f_s_m_i, ↓f_s_m_r, ↓f_s_m_i7, ↓f_s_m_r7, ↓f_s_m_i6, ↓f_s_m_r6, ↓f_s_m_i5, ↓f_s_m_r5, ↓f_s_m_i4, ↓f_s_m_r4, ↓f_s_w_n, ↓f_s_w_c, ↓f_s_p_eq, ↓f_s_p_ne, ↓f_s_p_lt, ↓f_s_p_ge, ↓f_s_p_gt, ↓f_s_p_le, ↓nk_i, ↓nk_z, ↓nk_c, ↓rf_s, ↓ov_s, ↓ov_n, ↓fin0, ↓fin1, ↓fin2, ↓fin3, cond_true, cond_false, List.set_cons_zero, List.set_cons_succ, List.length_cons, List.length_nil, true_and, and_true, true_or, or_true, implies_true, forall_const, not_true_eq_false, not_false_eq_true, false_implies, Nat.reduceAdd, Nat.reduceLT, Nat.reduceBEq, Nat.reduceEqDiff, Bool.or_false, Bool.false_or, Bool.or_true, Bool.true_or, beq_self_eq_true, Nat.reduceLeDiff, Nat.reduceMul, Nat.reduceSub, eq_self, Nat.reduceBneDiff, st0_s, st1_s, st2_s, st3_s, reduceCtorEq, cc_0, tl_0, cl_0, il_0, tl_1, cl_1, il_1, tl_2, cl_2, il_2, tl_3, cl_3, il_3, tl_4, cl_4, il_4, tl_5, cl_5, il_5, tl_6, cl_6, il_6, tl_7, cl_7, il_7, tl_8, cl_8, il_8, tl_9, cl_9, il_9, tl_10, cl_10, il_10, tl_11, cl_11, il_11, tl_12, cl_12, il_12, tl_13, cl_13, il_13, tl_14, cl_14, il_14, tl_15, cl_15, il_15, tl_16, cl_16, il_16, tl_20, tl_21, tl_25, tl_32, tl_48, tl_50, tl_57, tl_58, tl_59, tl_60, tl_99, tl_100, tl_101, tl_108, tl_109, tl_116, tl_120, tl_126, tl_374, tl_1122, tl_50000, i10, i01, tl_m1, tl_m2, tl_m3, tl_m4, nr_X7_clearText, tX7_clearText_0, tX7_clearText_1, tX7_clearText_4, tX7_clearText_5, tX7_clearText_6, tX7_clearText_7, tX7_clearText_10, tX7_clearText_11, pw_QK_s, h1]
    rw [up_set]
    exact hA
  · exact h.elim
def aheadS (S : Nat → Int32) (a b : Nat) : Bool := decide (S (166 + 13 * a + 11) - S (166 + 13 * b + 11) < 0) || ((S (166 + 13 * a + 11) - S (166 + 13 * b + 11) == 0) && decide (S (166 + 13 * a + 12) < S (166 + 13 * b + 12)))
def w_isAhead (m : Nat) : pw_Wp := fun Ag I K => match Ag with
  | [.ref o, .int x, .int y] => o = m ∧ (0 ≤ x.toInt ∧ x.toInt < 16) ∧ (0 ≤ y.toInt ∧ y.toInt < 16) ∧ (aheadS (I (m + 1)) x.toNatClampNeg y.toNatClampNeg = true → K (some (.int 1)) I) ∧ (aheadS (I (m + 1)) x.toNatClampNeg y.toNatClampNeg = false → K (some (.int 0)) I)
  | _ => False
set_option maxRecDepth 100000 in
set_option maxHeartbeats 4000000 in
theorem x_isAhead (hM : pw_mod sh P m) (h : w_isAhead m Ag I K) : pw_ok mX7_isAhead 1 base n sh P Ag I K := by
  unfold w_isAhead at h
  split at h
  · rename_i o x y
    obtain ⟨rfl, hx, hy, hA, hB⟩ := h
    obtain ⟨h1, ⟨h2, h3⟩, -⟩ := id hM
    obtain ⟨a, rfl, ha⟩ := tn16 hx
    obtain ⟨b, rfl, hb⟩ := tn16 hy
    rw [cl_nI (by omega), cl_nI (by omega)] at hA hB
    refine pw_bd [_, _, _, _] pl_X7 c_rii rfl rfl ?_
    refine pw_go okX7_isAhead (cc [(99, w_l)]) ⟨Nat.le_refl _, Nat.le_refl _⟩ (cc_c (fun Ag I K h => ⟨0, Nat.le_of_ble_eq_true rfl, x_l h⟩) cc_n) (st0) 120 ?_
    simp only [↓f_vc_s, ↓vk_i, ↓cc_i, ↓reduceIte, f_vq_s, Bool.false_eq_true, ↓f_e_iconst, ↓f_e_bipush, ↓f_e_sipush, ↓f_e_ldc, ↓f_e_ldc_w, ↓f_e_iload_n, ↓f_e_iload, ↓f_e_aload_n, ↓f_e_aload, ↓f_e_istore_n, ↓f_e_istore, ↓f_e_astore_n, ↓f_e_astore, ↓f_e_iinc, ↓f_e_iadd, ↓f_e_isub, ↓f_e_imul, ↓f_e_iand, ↓f_e_ior, ↓f_e_ixor, ↓f_e_idiv, ↓f_e_irem, ↓f_e_ishl, ↓f_e_ishr, ↓f_e_iushr, ↓f_e_i2c, ↓f_e_dup, ↓f_e_dup2, ↓f_e_pop, ↓f_e_goto, ↓f_e_ifCond, ↓f_e_if_icmp, ↓f_e_tableswitch, ↓f_e_lookupswitch, ↓f_e_getfield_i, ↓f_e_getfield_r, ↓f_e_putfield_i, ↓f_e_putfield_z, ↓f_e_iaload, ↓f_e_caload, ↓f_e_aaload, ↓f_e_iastore, ↓f_e_castore, ↓f_e_arraylength, ↓f_e_invokestatic, ↓f_e_invokevirtual, ↓f_e_ireturn, ↓f_e_return_, ↓f_s_i_c, ↓f_s_r_c, ↓f_s_v_i, ↓f_s_v_r, ↓f_s_l_0, ↓s_l_1, ↓s_l_2, ↓s_l_3, ↓s_l_4, ↓s_l_5, ↓s_l_6, ↓s_a_0, ↓s_a_1, ↓s_a_2, ↓s_a_3, ↓s_m_0, ↓f_s_m_i, ↓f_s_m_r, ↓f_s_m_i7, ↓f_s_m_r7, ↓f_s_m_i6, ↓f_s_m_r6, ↓f_s_m_i5, ↓f_s_m_r5, ↓f_s_m_i4, ↓f_s_m_r4, ↓f_s_w_n, ↓f_s_w_c, ↓f_s_p_eq, ↓f_s_p_ne, ↓f_s_p_lt, ↓f_s_p_ge, ↓f_s_p_gt, ↓f_s_p_le, ↓nk_i, ↓nk_z, ↓nk_c, ↓rf_s, ↓ov_s, ↓ov_n, ↓fin0, ↓fin1, ↓fin2, ↓fin3, cond_true, cond_false, List.set_cons_zero, List.set_cons_succ, List.length_cons, List.length_nil, true_and, and_true, true_or, or_true, implies_true, forall_const, not_true_eq_false, not_false_eq_true, false_implies, Nat.reduceAdd, Nat.reduceLT, Nat.reduceBEq, Nat.reduceEqDiff, Bool.or_false, Bool.false_or, Bool.or_true, Bool.true_or, beq_self_eq_true, Nat.reduceLeDiff, Nat.reduceMul, Nat.reduceSub, eq_self, Nat.reduceBneDiff, st0_s, st1_s, st2_s, st3_s, reduceCtorEq, cc_0, tl_0, cl_0, il_0, tl_1, cl_1, il_1, tl_2, cl_2, il_2, tl_3, cl_3, il_3, tl_4, cl_4, il_4, tl_5, cl_5, il_5, tl_6, cl_6, il_6, tl_7, cl_7, il_7, tl_8, cl_8, il_8, tl_9, cl_9, il_9, tl_10, cl_10, il_10, tl_11, cl_11, il_11, tl_12, cl_12, il_12, tl_13, cl_13, il_13, tl_14, cl_14, il_14, tl_15, cl_15, il_15, tl_16, cl_16, il_16, tl_20, tl_21, tl_25, tl_32, tl_48, tl_50, tl_57, tl_58, tl_59, tl_60, tl_99, tl_100, tl_101, tl_108, tl_109, tl_116, tl_120, tl_126, tl_374, tl_1122, tl_50000, i10, i01, tl_m1, tl_m2, tl_m3, tl_m4, nr_X7_isAhead, tX7_isAhead_0, tX7_isAhead_1, tX7_isAhead_4, tX7_isAhead_5, tX7_isAhead_8, tX7_isAhead_10, tX7_isAhead_11, tX7_isAhead_12, tX7_isAhead_13, tX7_isAhead_16, tX7_isAhead_17, tX7_isAhead_20, tX7_isAhead_22, tX7_isAhead_23, tX7_isAhead_24, tX7_isAhead_25, tX7_isAhead_26, tX7_isAhead_27, tX7_isAhead_30, tX7_isAhead_31, tX7_isAhead_34, tX7_isAhead_35, tX7_isAhead_38, tX7_isAhead_39, tX7_isAhead_42, tX7_isAhead_44, tX7_isAhead_45, tX7_isAhead_46, tX7_isAhead_47, tX7_isAhead_50, tX7_isAhead_51, tX7_isAhead_54, tX7_isAhead_56, tX7_isAhead_57, tX7_isAhead_58, tX7_isAhead_61, tX7_isAhead_62, tX7_isAhead_65, tX7_isAhead_66, pw_QK_s, h1, h2, h3, ↓w_l]
    simp (disch := omega) only [ix_l, ix_n, ix_0, ix_1, ix_2, ix_3, ix_4, ix_5, ix_6, ix_7, ix_8, ix_9, ix_10, ix_11, ix_12, ix_13, ix_14, ix_15, ix_20, ix_100, ix_374, jx_100, jx_11, jx_374, kx_374, cl_nI, in_nI, Nat.add_zero, true_and, up_set, set_s, set_set, set_n, cpy_s0, cpy_sd, cpy_ss, nI_add, upd_s, upd_n]
    refine ⟨fun q => hA ?_, fun q => ⟨fun q2 => hB ?_, fun q2 => ⟨fun q3 => hB ?_, fun q3 => hA ?_⟩⟩⟩
    · unfold aheadS; rw [decide_eq_true q]; rfl
    · unfold aheadS; rw [decide_eq_false q, beq_f q2]; rfl
    · unfold aheadS; rw [decide_eq_false q, decide_eq_false (Int32.not_lt.mpr q3), Bool.and_false]; rfl
    · unfold aheadS; rw [beq_t q2, decide_eq_true (Int32.not_le.mp q3), Bool.and_true, Bool.or_true]
  · exact h.elim
def w_lineOf7 (m : Nat) : pw_Wp := fun Ag I K => match Ag with
  | [.ref o, .int x, .int w] => o = m ∧ InvB (I (m + 1)) ∧ (¬ (okLine (I (m + 1)) x ∧ 0 ≤ w.toInt ∧ w.toInt ≤ 11) → K (some (.int (-1))) I) ∧ (okLine (I (m + 1)) x ∧ 0 ≤ w.toInt ∧ w.toInt ≤ 11 → K (some (.int (lineOfS (I (m + 1)) x.toNatClampNeg w))) I)
  | _ => False
set_option maxRecDepth 100000 in
set_option maxHeartbeats 4000000 in
theorem x_lineOf7 (hM : pw_mod sh P m) (h : w_lineOf7 m Ag I K) : pw_ok mX7_lineOf 4 base n sh P Ag I K := by
  unfold w_lineOf7 at h
  split at h
  · rename_i o x w
    obtain ⟨rfl, hI, hB, hA⟩ := h
    obtain ⟨h1, ⟨h2, h3⟩, -⟩ := id hM
    refine pw_bd [_, _, _] pl_X7 c_rii rfl rfl ?_
    refine pw_go okX7_lineOf (cc [(101, (w_isLine o)), (94, w_in), (99, w_l), (121, (w_litState o))]) ⟨Nat.le_refl _, Nat.le_refl _⟩ (cc_c (fun Ag I K h => ⟨1, Nat.le_of_ble_eq_true rfl, x_isLine hM h⟩) (cc_c (fun Ag I K h => ⟨0, Nat.le_of_ble_eq_true rfl, x_in h⟩) (cc_c (fun Ag I K h => ⟨0, Nat.le_of_ble_eq_true rfl, x_l h⟩) (cc_c (fun Ag I K h => ⟨3, Nat.le_of_ble_eq_true rfl, x_litState hM h⟩) cc_n)))) (st0) 120 ?_
    simp only [↓f_vc_s, ↓vk_i, ↓cc_i, ↓reduceIte, f_vq_s, Bool.false_eq_true, ↓f_e_iconst, ↓f_e_bipush, ↓f_e_sipush, ↓f_e_ldc, ↓f_e_ldc_w, ↓f_e_iload_n, ↓f_e_iload, ↓f_e_aload_n, ↓f_e_aload, ↓f_e_istore_n, ↓f_e_istore, ↓f_e_astore_n, ↓f_e_astore, ↓f_e_iinc, ↓f_e_iadd, ↓f_e_isub, ↓f_e_imul, ↓f_e_iand, ↓f_e_ior, ↓f_e_ixor, ↓f_e_idiv, ↓f_e_irem, ↓f_e_ishl, ↓f_e_ishr, ↓f_e_iushr, ↓f_e_i2c, ↓f_e_dup, ↓f_e_dup2, ↓f_e_pop, ↓f_e_goto, ↓f_e_ifCond, ↓f_e_if_icmp, ↓f_e_tableswitch, ↓f_e_lookupswitch, ↓f_e_getfield_i, ↓f_e_getfield_r, ↓f_e_putfield_i, ↓f_e_putfield_z, ↓f_e_iaload, ↓f_e_caload, ↓f_e_aaload, ↓f_e_iastore, ↓f_e_castore, ↓f_e_arraylength, ↓f_e_invokestatic, ↓f_e_invokevirtual, ↓f_e_ireturn, ↓f_e_return_, ↓f_s_i_c, ↓f_s_r_c, ↓f_s_v_i, ↓f_s_v_r, ↓f_s_l_0, ↓s_l_1, ↓s_l_2, ↓s_l_3, ↓s_l_4, ↓s_l_5, ↓s_l_6, ↓s_a_0, ↓s_a_1, ↓s_a_2, ↓s_a_3, ↓s_m_0, ↓f_s_m_i, ↓f_s_m_r, ↓f_s_m_i7, ↓f_s_m_r7, ↓f_s_m_i6, ↓f_s_m_r6, ↓f_s_m_i5, ↓f_s_m_r5, ↓f_s_m_i4, ↓f_s_m_r4, ↓f_s_w_n, ↓f_s_w_c, ↓f_s_p_eq, ↓f_s_p_ne, ↓f_s_p_lt, ↓f_s_p_ge, ↓f_s_p_gt, ↓f_s_p_le, ↓nk_i, ↓nk_z, ↓nk_c, ↓rf_s, ↓ov_s, ↓ov_n, ↓fin0, ↓fin1, ↓fin2, ↓fin3, cond_true, cond_false, List.set_cons_zero, List.set_cons_succ, List.length_cons, List.length_nil, true_and, and_true, true_or, or_true, implies_true, forall_const, not_true_eq_false, not_false_eq_true, false_implies, Nat.reduceAdd, Nat.reduceLT, Nat.reduceBEq, Nat.reduceEqDiff, Bool.or_false, Bool.false_or, Bool.or_true, Bool.true_or, beq_self_eq_true, Nat.reduceLeDiff, Nat.reduceMul, Nat.reduceSub, eq_self, Nat.reduceBneDiff, st0_s, st1_s, st2_s, st3_s, reduceCtorEq, cc_0, tl_0, cl_0, il_0, tl_1, cl_1, il_1, tl_2, cl_2, il_2, tl_3, cl_3, il_3, tl_4, cl_4, il_4, tl_5, cl_5, il_5, tl_6, cl_6, il_6, tl_7, cl_7, il_7, tl_8, cl_8, il_8, tl_9, cl_9, il_9, tl_10, cl_10, il_10, tl_11, cl_11, il_11, tl_12, cl_12, il_12, tl_13, cl_13, il_13, tl_14, cl_14, il_14, tl_15, cl_15, il_15, tl_16, cl_16, il_16, tl_20, tl_21, tl_25, tl_32, tl_48, tl_50, tl_57, tl_58, tl_59, tl_60, tl_99, tl_100, tl_101, tl_108, tl_109, tl_116, tl_120, tl_126, tl_374, tl_1122, tl_50000, i10, i01, tl_m1, tl_m2, tl_m3, tl_m4, nr_X7_lineOf, tX7_lineOf_0, tX7_lineOf_1, tX7_lineOf_2, tX7_lineOf_5, tX7_lineOf_8, tX7_lineOf_9, tX7_lineOf_10, tX7_lineOf_12, tX7_lineOf_15, tX7_lineOf_18, tX7_lineOf_19, tX7_lineOf_20, tX7_lineOf_21, tX7_lineOf_76, tX7_lineOf_77, tX7_lineOf_80, tX7_lineOf_81, tX7_lineOf_84, tX7_lineOf_85, tX7_lineOf_86, tX7_lineOf_87, tX7_lineOf_88, tX7_lineOf_89, tX7_lineOf_92, tX7_lineOf_93, tX7_lineOf_96, tX7_lineOf_97, tX7_lineOf_98, tX7_lineOf_99, tX7_lineOf_100, tX7_lineOf_101, tX7_lineOf_104, tX7_lineOf_105, tX7_lineOf_108, tX7_lineOf_109, tX7_lineOf_110, tX7_lineOf_111, tX7_lineOf_112, tX7_lineOf_113, tX7_lineOf_116, tX7_lineOf_117, tX7_lineOf_120, tX7_lineOf_121, tX7_lineOf_122, tX7_lineOf_123, tX7_lineOf_124, tX7_lineOf_125, tX7_lineOf_128, tX7_lineOf_129, tX7_lineOf_132, tX7_lineOf_134, tX7_lineOf_135, tX7_lineOf_136, tX7_lineOf_137, tX7_lineOf_138, tX7_lineOf_141, tX7_lineOf_142, tX7_lineOf_145, tX7_lineOf_147, tX7_lineOf_148, tX7_lineOf_149, tX7_lineOf_150, tX7_lineOf_151, tX7_lineOf_154, tX7_lineOf_155, tX7_lineOf_158, tX7_lineOf_160, tX7_lineOf_161, tX7_lineOf_162, tX7_lineOf_163, tX7_lineOf_164, tX7_lineOf_165, tX7_lineOf_166, tX7_lineOf_169, pw_QK_s, h1, h2, h3, ↓w_isLine, ↓w_in, ↓w_l, ↓w_litState, ti_le]
    refine ⟨hI.n4, fun q => ⟨fun q2 => ?_, fun q2 => hB (fun z => q2 z.2)⟩, fun q => hB (fun z => q z.1)⟩
    have hA := hA ⟨q, q2⟩
    have hx : 0 ≤ x.toInt ∧ x.toInt < 16 := ⟨q.1, by have := hI.n4.2; have := q.2; omega⟩
    obtain ⟨k, rfl, hk⟩ := tn16 hx
    rw [cl_nI (by omega)] at hA
    simp (disch := omega) only [ix_l, ix_n, ix_0, ix_1, ix_2, ix_3, ix_4, ix_5, ix_6, ix_7, ix_8, ix_9, ix_10, ix_11, ix_12, ix_13, ix_14, ix_15, ix_20, ix_100, ix_374, jx_100, jx_11, jx_374, kx_374, cl_nI, in_nI, Nat.add_zero, true_and, up_set, set_s, set_set, set_n, cpy_s0, cpy_sd, cpy_ss, nI_add, upd_s, upd_n]
    have d : ¬ w = 0 → ¬ w = 1 → ¬ w = 2 → ¬ w = 3 → ¬ w = 7 → ¬ w = 8 → ¬ w = 9 → (w = 4 ∨ w = 5 ∨ w = 6 ∨ w = 10 ∨ w = 11) := by
      simp only [ti_eq]
      intro a0 a1 a2 a3 a7 a8 a9
      have e0 : (0 : Int32).toInt = 0 := rfl
      have e1 : (1 : Int32).toInt = 1 := rfl
      have e2 : (2 : Int32).toInt = 2 := rfl
      have e3 : (3 : Int32).toInt = 3 := rfl
      have e4 : (4 : Int32).toInt = 4 := rfl
      have e5 : (5 : Int32).toInt = 5 := rfl
      have e6 : (6 : Int32).toInt = 6 := rfl
      have e7 : (7 : Int32).toInt = 7 := rfl
      have e8 : (8 : Int32).toInt = 8 := rfl
      have e9 : (9 : Int32).toInt = 9 := rfl
      have e10 : (10 : Int32).toInt = 10 := rfl
      have e11 : (11 : Int32).toInt = 11 := rfl
      omega
    refine ⟨fun q => by subst q; exact hA, fun n0 => ⟨fun q => by subst q; exact hA, fun n1 => ⟨fun q => by subst q; exact hA, fun n2 => ⟨fun q => by subst q; exact hA, fun n3 => ⟨fun q => ⟨hI, hx, Or.inl q, hA⟩, fun n4 => ⟨fun q => ⟨hI, hx, Or.inr (Or.inl q), hA⟩, fun n5 => ⟨fun q => ⟨hI, hx, Or.inr (Or.inr (Or.inl q)), hA⟩, fun n6 => ⟨fun q => by subst q; exact hA, fun n7 => ⟨fun q => by subst q; exact hA, fun n8 => ⟨fun q => by subst q; exact hA, fun n9 => ⟨hI, hx, d n0 n1 n2 n3 n7 n8 n9, hA⟩⟩⟩⟩⟩⟩⟩⟩⟩⟩⟩
  · exact h.elim
/-- what nodeOf tells of node j -/
def nodeOfS (S : Nat → Int32) (j : Nat) (w : Int32) : Int32 :=
  if w = 0 then (if j = 0 then -4 else S (16 + 25 * j)) else if w = 1 then S (16 + 25 * j + 1) else if w = 2 then S (16 + 25 * j + 3) else if w = 3 then S (16 + 25 * j + 2) else if w = 4 then bitsS (linesByS S j) else linesByS S j &&& linesOfS S 0
def w_nodeOf7 (m : Nat) : pw_Wp := fun Ag I K => match Ag with
  | [.ref o, .int x, .int w] => o = m ∧ InvB (I (m + 1)) ∧ (¬ (okNode (I (m + 1)) x ∧ 0 ≤ w.toInt ∧ w.toInt ≤ 5) → K (some (.int (-1))) I) ∧ (okNode (I (m + 1)) x ∧ 0 ≤ w.toInt ∧ w.toInt ≤ 5 → K (some (.int (nodeOfS (I (m + 1)) x.toNatClampNeg w))) I)
  | _ => False
set_option maxRecDepth 100000 in
set_option maxHeartbeats 4000000 in
theorem x_nodeOf7 (hM : pw_mod sh P m) (h : w_nodeOf7 m Ag I K) : pw_ok mX7_nodeOf 5 base n sh P Ag I K := by
  unfold w_nodeOf7 at h
  split at h
  · rename_i o x w
    obtain ⟨rfl, hI, hB, hA⟩ := h
    obtain ⟨h1, ⟨h2, h3⟩, -⟩ := id hM
    refine pw_bd [_, _, _] pl_X7 c_rii rfl rfl ?_
    refine pw_go okX7_nodeOf (cc [(100, (w_isNode o)), (94, w_in), (98, w_n), (107, (w_linesBy o)), (108, w_bits), (139, (w_linesOf o))]) ⟨Nat.le_refl _, Nat.le_refl _⟩ (cc_c (fun Ag I K h => ⟨1, Nat.le_of_ble_eq_true rfl, x_isNode hM h⟩) (cc_c (fun Ag I K h => ⟨0, Nat.le_of_ble_eq_true rfl, x_in h⟩) (cc_c (fun Ag I K h => ⟨0, Nat.le_of_ble_eq_true rfl, x_n h⟩) (cc_c (fun Ag I K h => ⟨2, Nat.le_of_ble_eq_true rfl, x_linesBy hM h⟩) (cc_c (fun Ag I K h => ⟨0, Nat.le_of_ble_eq_true rfl, x_bits h⟩) (cc_c (fun Ag I K h => ⟨4, Nat.le_of_ble_eq_true rfl, x_linesOf hM h⟩) cc_n)))))) (st0) 120 ?_
    simp only [↓f_vc_s, ↓vk_i, ↓cc_i, ↓reduceIte, f_vq_s, Bool.false_eq_true, ↓f_e_iconst, ↓f_e_bipush, ↓f_e_sipush, ↓f_e_ldc, ↓f_e_ldc_w, ↓f_e_iload_n, ↓f_e_iload, ↓f_e_aload_n, ↓f_e_aload, ↓f_e_istore_n, ↓f_e_istore, ↓f_e_astore_n, ↓f_e_astore, ↓f_e_iinc, ↓f_e_iadd, ↓f_e_isub, ↓f_e_imul, ↓f_e_iand, ↓f_e_ior, ↓f_e_ixor, ↓f_e_idiv, ↓f_e_irem, ↓f_e_ishl, ↓f_e_ishr, ↓f_e_iushr, ↓f_e_i2c, ↓f_e_dup, ↓f_e_dup2, ↓f_e_pop, ↓f_e_goto, ↓f_e_ifCond, ↓f_e_if_icmp, ↓f_e_tableswitch, ↓f_e_lookupswitch, ↓f_e_getfield_i, ↓f_e_getfield_r, ↓f_e_putfield_i, ↓f_e_putfield_z, ↓f_e_iaload, ↓f_e_caload, ↓f_e_aaload, ↓f_e_iastore, ↓f_e_castore, ↓f_e_arraylength, ↓f_e_invokestatic, ↓f_e_invokevirtual, ↓f_e_ireturn, ↓f_e_return_, ↓f_s_i_c, ↓f_s_r_c, ↓f_s_v_i, ↓f_s_v_r, ↓f_s_l_0, ↓s_l_1, ↓s_l_2, ↓s_l_3, ↓s_l_4, ↓s_l_5, ↓s_l_6, ↓s_a_0, ↓s_a_1, ↓s_a_2, ↓s_a_3, ↓s_m_0, ↓f_s_m_i, ↓f_s_m_r, ↓f_s_m_i7, ↓f_s_m_r7, ↓f_s_m_i6, ↓f_s_m_r6, ↓f_s_m_i5, ↓f_s_m_r5, ↓f_s_m_i4, ↓f_s_m_r4, ↓f_s_w_n, ↓f_s_w_c, ↓f_s_p_eq, ↓f_s_p_ne, ↓f_s_p_lt, ↓f_s_p_ge, ↓f_s_p_gt, ↓f_s_p_le, ↓nk_i, ↓nk_z, ↓nk_c, ↓rf_s, ↓ov_s, ↓ov_n, ↓fin0, ↓fin1, ↓fin2, ↓fin3, cond_true, cond_false, List.set_cons_zero, List.set_cons_succ, List.length_cons, List.length_nil, true_and, and_true, true_or, or_true, implies_true, forall_const, not_true_eq_false, not_false_eq_true, false_implies, Nat.reduceAdd, Nat.reduceLT, Nat.reduceBEq, Nat.reduceEqDiff, Bool.or_false, Bool.false_or, Bool.or_true, Bool.true_or, beq_self_eq_true, Nat.reduceLeDiff, Nat.reduceMul, Nat.reduceSub, eq_self, Nat.reduceBneDiff, st0_s, st1_s, st2_s, st3_s, reduceCtorEq, cc_0, tl_0, cl_0, il_0, tl_1, cl_1, il_1, tl_2, cl_2, il_2, tl_3, cl_3, il_3, tl_4, cl_4, il_4, tl_5, cl_5, il_5, tl_6, cl_6, il_6, tl_7, cl_7, il_7, tl_8, cl_8, il_8, tl_9, cl_9, il_9, tl_10, cl_10, il_10, tl_11, cl_11, il_11, tl_12, cl_12, il_12, tl_13, cl_13, il_13, tl_14, cl_14, il_14, tl_15, cl_15, il_15, tl_16, cl_16, il_16, tl_20, tl_21, tl_25, tl_32, tl_48, tl_50, tl_57, tl_58, tl_59, tl_60, tl_99, tl_100, tl_101, tl_108, tl_109, tl_116, tl_120, tl_126, tl_374, tl_1122, tl_50000, i10, i01, tl_m1, tl_m2, tl_m3, tl_m4, nr_X7_nodeOf, tX7_nodeOf_0, tX7_nodeOf_1, tX7_nodeOf_2, tX7_nodeOf_5, tX7_nodeOf_8, tX7_nodeOf_9, tX7_nodeOf_10, tX7_nodeOf_11, tX7_nodeOf_14, tX7_nodeOf_17, tX7_nodeOf_18, tX7_nodeOf_19, tX7_nodeOf_20, tX7_nodeOf_56, tX7_nodeOf_57, tX7_nodeOf_60, tX7_nodeOf_62, tX7_nodeOf_65, tX7_nodeOf_66, tX7_nodeOf_69, tX7_nodeOf_70, tX7_nodeOf_73, tX7_nodeOf_74, tX7_nodeOf_75, tX7_nodeOf_76, tX7_nodeOf_77, tX7_nodeOf_78, tX7_nodeOf_81, tX7_nodeOf_82, tX7_nodeOf_85, tX7_nodeOf_86, tX7_nodeOf_87, tX7_nodeOf_88, tX7_nodeOf_89, tX7_nodeOf_90, tX7_nodeOf_93, tX7_nodeOf_94, tX7_nodeOf_97, tX7_nodeOf_98, tX7_nodeOf_99, tX7_nodeOf_100, tX7_nodeOf_101, tX7_nodeOf_102, tX7_nodeOf_105, tX7_nodeOf_106, tX7_nodeOf_109, tX7_nodeOf_110, tX7_nodeOf_111, tX7_nodeOf_112, tX7_nodeOf_113, tX7_nodeOf_114, tX7_nodeOf_115, tX7_nodeOf_118, tX7_nodeOf_121, tX7_nodeOf_122, tX7_nodeOf_123, tX7_nodeOf_124, tX7_nodeOf_127, tX7_nodeOf_128, tX7_nodeOf_129, tX7_nodeOf_132, tX7_nodeOf_133, pw_QK_s, h1, h2, h3, ↓w_isNode, ↓w_in, ↓w_n, ↓w_linesBy, ↓w_bits, ↓w_linesOf, ti_le]
    refine ⟨hI.n3, fun q => ⟨fun q2 => ?_, fun q2 => hB (fun z => q2 z.2)⟩, fun q => hB (fun z => q z.1)⟩
    have hA := hA ⟨q, q2⟩
    have hx : 0 ≤ x.toInt ∧ x.toInt < 6 := ⟨q.1, by have := hI.n3.2; have := q.2; omega⟩
    obtain ⟨j, rfl, hj⟩ := tn6 hx
    rw [cl_nI (by omega)] at hA
    simp (disch := omega) only [ix_l, ix_n, ix_0, ix_1, ix_2, ix_3, ix_4, ix_5, ix_6, ix_7, ix_8, ix_9, ix_10, ix_11, ix_12, ix_13, ix_14, ix_15, ix_20, ix_100, ix_374, jx_100, jx_11, jx_374, kx_374, cl_nI, in_nI, Nat.add_zero, true_and, up_set, set_s, set_set, set_n, cpy_s0, cpy_sd, cpy_ss, nI_add, upd_s, upd_n]
    have dflt : ¬ w = 0 → ¬ w = 1 → ¬ w = 2 → ¬ w = 3 → ¬ w = 4 → K (some (.int (linesByS (I (o + 1)) j &&& linesOfS (I (o + 1)) 0))) I := fun n0 n1 n2 n3 n4 => by
      unfold nodeOfS at hA
      rw [if_neg n0, if_neg n1, if_neg n2, if_neg n3, if_neg n4] at hA
      exact hA
    refine ⟨fun q3 => ?_, fun n0 => ⟨fun q3 => by subst q3; exact hA, fun n1 => ⟨fun q3 => by subst q3; exact hA, fun n2 => ⟨fun q3 => by subst q3; exact hA, fun n3 => ⟨fun q3 => ⟨hI, hx, by subst q3; exact hA⟩, fun n4 => ⟨hI, hx, hI, dflt n0 n1 n2 n3 n4⟩⟩⟩⟩⟩⟩
    subst q3
    have e : nodeOfS (I (o + 1)) j 0 = if j = 0 then -4 else I (o + 1) (16 + 25 * j) := rfl
    rw [e] at hA
    rw [show (nI j = 0) = (j = 0) from propext (nI_eq (a := j) (b := 0) (by omega) (by omega))]
    refine ⟨fun q4 => ?_, fun q4 => ?_⟩
    · rw [if_neg q4] at hA; exact hA
    · rw [if_pos q4] at hA; exact hA
  · exact h.elim
def rankS (S : Nat → Int32) (l : Nat) : Int32 := sumF (fun k => bif (S (166 + 13 * k + 4) == 2) && aheadS S k l then 1 else 0) (vN S 4)
def waitP (S : Nat → Int32) (x : Int32) (i : Nat) : Int32 := bif (S (166 + 13 * i + 4) == 2) && (rankS S i == x) then 1 else 0
def waitS (S : Nat → Int32) (x : Int32) : Int32 := if posF (waitP S x) 1 (vN S 4) < vN S 4 then nI (posF (waitP S x) 1 (vN S 4)) else -4
def w_waitingAt7 (m : Nat) : pw_Wp := fun Ag I K => match Ag with
  | [.ref o, .int x] => o = m ∧ InvB (I (m + 1)) ∧ (x.toInt < 0 → K (some (.int (-1))) I) ∧ (0 ≤ x.toInt → K (some (.int (waitS (I (m + 1)) x))) I)
  | _ => False
set_option maxRecDepth 100000 in
set_option maxHeartbeats 4000000 in
theorem x_waitingAt7 (hM : pw_mod sh P m) (h : w_waitingAt7 m Ag I K) : pw_ok mX7_waitingAt 2 base n sh P Ag I K := by
  unfold w_waitingAt7 at h
  split at h
  · rename_i o x
    obtain ⟨rfl, hI, hA, hB⟩ := h
    obtain ⟨h1, ⟨h2, h3⟩, -⟩ := id hM
    have h4 := hI.2.1
    refine pw_bd [_, _, _, _, _] pl_X7 c_ri rfl rfl ?_
    generalize hS : I (o + 1) = S at hI hB h4
    have wp : ∀ i, S (166 + 13 * i + 4) = 2 → rankS S i = x → waitP S x i = 1 := fun i q q2 => by unfold waitP; rw [beq_t q, beq_t q2]; rfl
    have wn : ∀ i, (S (166 + 13 * i + 4) = 2 → ¬ rankS S i = x) → waitP S x i ≠ 1 := fun i q => by
      unfold waitP
      by_cases e : S (166 + 13 * i + 4) = 2
      · rw [beq_t e, beq_f (q e)]; decide
      · rw [beq_f e, Bool.false_and]; decide
    have outer : ∀ (f l : Nat), l + f = vN S 4 → 0 ≤ x.toInt → (∀ i, i < l → waitP S x i ≠ 1) → PW (mX7_waitingAt, 2, 0, 0, none, base) n sh P I 0 0 8 [some (.ref o), some (.int x), some (.int (nI l)), none, none] [] (pw_QK n sh P K) := by
      intro f
      induction f with
      | zero =>
        intro l hl hx hno
        refine pw_go okX7_waitingAt (cc []) ⟨Nat.le_refl _, Nat.le_refl _⟩ cc_n (st2 8 23) 60 ?_
        simp only [↓f_vc_s, ↓vk_i, ↓cc_i, ↓reduceIte, f_vq_s, Bool.false_eq_true, ↓f_e_iconst, ↓f_e_bipush, ↓f_e_sipush, ↓f_e_ldc, ↓f_e_ldc_w, ↓f_e_iload_n, ↓f_e_iload, ↓f_e_aload_n, ↓f_e_aload, ↓f_e_istore_n, ↓f_e_istore, ↓f_e_astore_n, ↓f_e_astore, ↓f_e_iinc, ↓f_e_iadd, ↓f_e_isub, ↓f_e_imul, ↓f_e_iand, ↓f_e_ior, ↓f_e_ixor, ↓f_e_idiv, ↓f_e_irem, ↓f_e_ishl, ↓f_e_ishr, ↓f_e_iushr, ↓f_e_i2c, ↓f_e_dup, ↓f_e_dup2, ↓f_e_pop, ↓f_e_goto, ↓f_e_ifCond, ↓f_e_if_icmp, ↓f_e_tableswitch, ↓f_e_lookupswitch, ↓f_e_getfield_i, ↓f_e_getfield_r, ↓f_e_putfield_i, ↓f_e_putfield_z, ↓f_e_iaload, ↓f_e_caload, ↓f_e_aaload, ↓f_e_iastore, ↓f_e_castore, ↓f_e_arraylength, ↓f_e_invokestatic, ↓f_e_invokevirtual, ↓f_e_ireturn, ↓f_e_return_, ↓f_s_i_c, ↓f_s_r_c, ↓f_s_v_i, ↓f_s_v_r, ↓f_s_l_0, ↓s_l_1, ↓s_l_2, ↓s_l_3, ↓s_l_4, ↓s_l_5, ↓s_l_6, ↓s_a_0, ↓s_a_1, ↓s_a_2, ↓s_a_3, ↓s_m_0, ↓f_s_m_i, ↓f_s_m_r, ↓f_s_m_i7, ↓f_s_m_r7, ↓f_s_m_i6, ↓f_s_m_r6, ↓f_s_m_i5, ↓f_s_m_r5, ↓f_s_m_i4, ↓f_s_m_r4, ↓f_s_w_n, ↓f_s_w_c, ↓f_s_p_eq, ↓f_s_p_ne, ↓f_s_p_lt, ↓f_s_p_ge, ↓f_s_p_gt, ↓f_s_p_le, ↓nk_i, ↓nk_z, ↓nk_c, ↓rf_s, ↓ov_s, ↓ov_n, ↓fin0, ↓fin1, ↓fin2, ↓fin3, cond_true, cond_false, List.set_cons_zero, List.set_cons_succ, List.length_cons, List.length_nil, true_and, and_true, true_or, or_true, implies_true, forall_const, not_true_eq_false, not_false_eq_true, false_implies, Nat.reduceAdd, Nat.reduceLT, Nat.reduceBEq, Nat.reduceEqDiff, Bool.or_false, Bool.false_or, Bool.or_true, Bool.true_or, beq_self_eq_true, Nat.reduceLeDiff, Nat.reduceMul, Nat.reduceSub, eq_self, Nat.reduceBneDiff, st0_s, st1_s, st2_s, st3_s, reduceCtorEq, cc_0, tl_0, cl_0, il_0, tl_1, cl_1, il_1, tl_2, cl_2, il_2, tl_3, cl_3, il_3, tl_4, cl_4, il_4, tl_5, cl_5, il_5, tl_6, cl_6, il_6, tl_7, cl_7, il_7, tl_8, cl_8, il_8, tl_9, cl_9, il_9, tl_10, cl_10, il_10, tl_11, cl_11, il_11, tl_12, cl_12, il_12, tl_13, cl_13, il_13, tl_14, cl_14, il_14, tl_15, cl_15, il_15, tl_16, cl_16, il_16, tl_20, tl_21, tl_25, tl_32, tl_48, tl_50, tl_57, tl_58, tl_59, tl_60, tl_99, tl_100, tl_101, tl_108, tl_109, tl_116, tl_120, tl_126, tl_374, tl_1122, tl_50000, i10, i01, tl_m1, tl_m2, tl_m3, tl_m4, nr_X7_waitingAt, tX7_waitingAt_0, tX7_waitingAt_1, tX7_waitingAt_4, tX7_waitingAt_5, tX7_waitingAt_6, tX7_waitingAt_7, tX7_waitingAt_8, tX7_waitingAt_9, tX7_waitingAt_10, tX7_waitingAt_13, tX7_waitingAt_14, tX7_waitingAt_15, tX7_waitingAt_18, tX7_waitingAt_19, tX7_waitingAt_20, tX7_waitingAt_21, tX7_waitingAt_23, tX7_waitingAt_25, tX7_waitingAt_26, tX7_waitingAt_29, tX7_waitingAt_30, tX7_waitingAt_31, tX7_waitingAt_34, tX7_waitingAt_35, tX7_waitingAt_36, tX7_waitingAt_39, tX7_waitingAt_41, tX7_waitingAt_44, tX7_waitingAt_45, tX7_waitingAt_46, tX7_waitingAt_47, tX7_waitingAt_48, tX7_waitingAt_51, tX7_waitingAt_52, tX7_waitingAt_54, tX7_waitingAt_55, tX7_waitingAt_58, tX7_waitingAt_61, tX7_waitingAt_62, tX7_waitingAt_65, tX7_waitingAt_66, tX7_waitingAt_67, tX7_waitingAt_68, tX7_waitingAt_71, tX7_waitingAt_74, tX7_waitingAt_75, tX7_waitingAt_78, tX7_waitingAt_79, tX7_waitingAt_82, tX7_waitingAt_83, tX7_waitingAt_84, tX7_waitingAt_85, tX7_waitingAt_86, tX7_waitingAt_89, tX7_waitingAt_90, tX7_waitingAt_91, tX7_waitingAt_94, tX7_waitingAt_95, tX7_waitingAt_96, tX7_waitingAt_99, tX7_waitingAt_102, tX7_waitingAt_104, pw_QK_s, h1, h2, h3]
        rw [hS, h4.1]
        have e : waitS S x = -4 := by
          unfold waitS
          rw [if_neg (fun z => hno _ (by omega) (posF_yes _ z))]
        have hB := hB hx
        rw [e] at hB
        exact ⟨fun _ => hB, fun q => absurd (nI_le (by omega) (by omega)) q⟩
      | succ f ih =>
        intro l hl hx hno
        have inner : ∀ (g t : Nat), t + g = vN S 4 → PW (mX7_waitingAt, 2, 0, 0, none, base) n sh P I 0 0 23 [some (.ref o), some (.int x), some (.int (nI l)), some (.int (sumF (fun k => bif (S (166 + 13 * k + 4) == 2) && aheadS S k l then 1 else 0) t)), some (.int (nI t))] [] (pw_QK n sh P K) := by
          intro g
          induction g with
          | zero =>
            intro t ht
            obtain rfl : t = vN S 4 := by omega
            refine pw_go okX7_waitingAt (cc [(99, w_l)]) ⟨Nat.le_refl _, Nat.le_refl _⟩ (cc_c (fun Ag I K h => ⟨0, Nat.le_of_ble_eq_true rfl, x_l h⟩) cc_n) (st2 8 23) 60 ?_
            simp only [↓f_vc_s, ↓vk_i, ↓cc_i, ↓reduceIte, f_vq_s, Bool.false_eq_true, ↓f_e_iconst, ↓f_e_bipush, ↓f_e_sipush, ↓f_e_ldc, ↓f_e_ldc_w, ↓f_e_iload_n, ↓f_e_iload, ↓f_e_aload_n, ↓f_e_aload, ↓f_e_istore_n, ↓f_e_istore, ↓f_e_astore_n, ↓f_e_astore, ↓f_e_iinc, ↓f_e_iadd, ↓f_e_isub, ↓f_e_imul, ↓f_e_iand, ↓f_e_ior, ↓f_e_ixor, ↓f_e_idiv, ↓f_e_irem, ↓f_e_ishl, ↓f_e_ishr, ↓f_e_iushr, ↓f_e_i2c, ↓f_e_dup, ↓f_e_dup2, ↓f_e_pop, ↓f_e_goto, ↓f_e_ifCond, ↓f_e_if_icmp, ↓f_e_tableswitch, ↓f_e_lookupswitch, ↓f_e_getfield_i, ↓f_e_getfield_r, ↓f_e_putfield_i, ↓f_e_putfield_z, ↓f_e_iaload, ↓f_e_caload, ↓f_e_aaload, ↓f_e_iastore, ↓f_e_castore, ↓f_e_arraylength, ↓f_e_invokestatic, ↓f_e_invokevirtual, ↓f_e_ireturn, ↓f_e_return_, ↓f_s_i_c, ↓f_s_r_c, ↓f_s_v_i, ↓f_s_v_r, ↓f_s_l_0, ↓s_l_1, ↓s_l_2, ↓s_l_3, ↓s_l_4, ↓s_l_5, ↓s_l_6, ↓s_a_0, ↓s_a_1, ↓s_a_2, ↓s_a_3, ↓s_m_0, ↓f_s_m_i, ↓f_s_m_r, ↓f_s_m_i7, ↓f_s_m_r7, ↓f_s_m_i6, ↓f_s_m_r6, ↓f_s_m_i5, ↓f_s_m_r5, ↓f_s_m_i4, ↓f_s_m_r4, ↓f_s_w_n, ↓f_s_w_c, ↓f_s_p_eq, ↓f_s_p_ne, ↓f_s_p_lt, ↓f_s_p_ge, ↓f_s_p_gt, ↓f_s_p_le, ↓nk_i, ↓nk_z, ↓nk_c, ↓rf_s, ↓ov_s, ↓ov_n, ↓fin0, ↓fin1, ↓fin2, ↓fin3, cond_true, cond_false, List.set_cons_zero, List.set_cons_succ, List.length_cons, List.length_nil, true_and, and_true, true_or, or_true, implies_true, forall_const, not_true_eq_false, not_false_eq_true, false_implies, Nat.reduceAdd, Nat.reduceLT, Nat.reduceBEq, Nat.reduceEqDiff, Bool.or_false, Bool.false_or, Bool.or_true, Bool.true_or, beq_self_eq_true, Nat.reduceLeDiff, Nat.reduceMul, Nat.reduceSub, eq_self, Nat.reduceBneDiff, st0_s, st1_s, st2_s, st3_s, reduceCtorEq, cc_0, tl_0, cl_0, il_0, tl_1, cl_1, il_1, tl_2, cl_2, il_2, tl_3, cl_3, il_3, tl_4, cl_4, il_4, tl_5, cl_5, il_5, tl_6, cl_6, il_6, tl_7, cl_7, il_7, tl_8, cl_8, il_8, tl_9, cl_9, il_9, tl_10, cl_10, il_10, tl_11, cl_11, il_11, tl_12, cl_12, il_12, tl_13, cl_13, il_13, tl_14, cl_14, il_14, tl_15, cl_15, il_15, tl_16, cl_16, il_16, tl_20, tl_21, tl_25, tl_32, tl_48, tl_50, tl_57, tl_58, tl_59, tl_60, tl_99, tl_100, tl_101, tl_108, tl_109, tl_116, tl_120, tl_126, tl_374, tl_1122, tl_50000, i10, i01, tl_m1, tl_m2, tl_m3, tl_m4, nr_X7_waitingAt, tX7_waitingAt_0, tX7_waitingAt_1, tX7_waitingAt_4, tX7_waitingAt_5, tX7_waitingAt_6, tX7_waitingAt_7, tX7_waitingAt_8, tX7_waitingAt_9, tX7_waitingAt_10, tX7_waitingAt_13, tX7_waitingAt_14, tX7_waitingAt_15, tX7_waitingAt_18, tX7_waitingAt_19, tX7_waitingAt_20, tX7_waitingAt_21, tX7_waitingAt_23, tX7_waitingAt_25, tX7_waitingAt_26, tX7_waitingAt_29, tX7_waitingAt_30, tX7_waitingAt_31, tX7_waitingAt_34, tX7_waitingAt_35, tX7_waitingAt_36, tX7_waitingAt_39, tX7_waitingAt_41, tX7_waitingAt_44, tX7_waitingAt_45, tX7_waitingAt_46, tX7_waitingAt_47, tX7_waitingAt_48, tX7_waitingAt_51, tX7_waitingAt_52, tX7_waitingAt_54, tX7_waitingAt_55, tX7_waitingAt_58, tX7_waitingAt_61, tX7_waitingAt_62, tX7_waitingAt_65, tX7_waitingAt_66, tX7_waitingAt_67, tX7_waitingAt_68, tX7_waitingAt_71, tX7_waitingAt_74, tX7_waitingAt_75, tX7_waitingAt_78, tX7_waitingAt_79, tX7_waitingAt_82, tX7_waitingAt_83, tX7_waitingAt_84, tX7_waitingAt_85, tX7_waitingAt_86, tX7_waitingAt_89, tX7_waitingAt_90, tX7_waitingAt_91, tX7_waitingAt_94, tX7_waitingAt_95, tX7_waitingAt_96, tX7_waitingAt_99, tX7_waitingAt_102, tX7_waitingAt_104, pw_QK_s, h1, h2, h3, ↓w_l]
            rw [hS]
            simp (disch := omega) only [ix_l, ix_n, ix_0, ix_1, ix_2, ix_3, ix_4, ix_5, ix_6, ix_7, ix_8, ix_9, ix_10, ix_11, ix_12, ix_13, ix_14, ix_15, ix_20, ix_100, ix_374, jx_100, jx_11, jx_374, kx_374, cl_nI, in_nI, Nat.add_zero, true_and, up_set, set_s, set_set, set_n, cpy_s0, cpy_sd, cpy_ss, nI_add, upd_s, upd_n, h4.1]
            have step : waitP S x l ≠ 1 → ∀ a b, PW (mX7_waitingAt, 2, 0, 0, none, base) n sh P I 0 0 8 [some (.ref o), some (.int x), some (.int (nI (l + 1))), some a, some b] [] (pw_QK n sh P K) := fun q a b => by
              refine PW.weak (ih (l + 1) (by omega) hx (fun i hi => ?_)) ⟨rfl, rfl, rfl, trivial⟩
              by_cases e : i = l
              · rw [e]; exact q
              · exact hno i (by omega)
            refine ⟨fun _ => ⟨fun q => step (wn l (fun z => absurd z q)) _ _, fun q => ⟨fun q2 => step (wn l (fun _ => q2)) _ _, fun q2 => ?_⟩⟩, fun q => absurd (nI_le (Nat.le_refl _) (by omega)) q⟩
            have hw := wp l q q2
            have h5 := posF_lt (f := waitP S x) (x := 1) (vN S 4) l (by omega) hw
            have h6 := posF_yes (f := waitP S x) (x := 1) (vN S 4) (by omega)
            have h7 : posF (waitP S x) 1 (vN S 4) = l := by
              rcases Nat.lt_or_ge (posF (waitP S x) 1 (vN S 4)) l with z | z
              · exact absurd h6 (hno _ z)
              · omega
            have hB := hB hx
            unfold waitS at hB
            rw [h7, if_pos (by omega)] at hB
            exact hB
          | succ g ihg =>
            intro t ht
            have hih := ihg (t + 1) (by omega)
            have hF : ((S (166 + 13 * t + 4) == 2) && aheadS S t l) = false → PW (mX7_waitingAt, 2, 0, 0, none, base) n sh P I 0 0 23 [some (.ref o), some (.int x), some (.int (nI l)), some (.int (sumF (fun k => bif (S (166 + 13 * k + 4) == 2) && aheadS S k l then 1 else 0) t + 0)), some (.int (nI (t + 1)))] [] (pw_QK n sh P K) := fun q => by
              rw [sumF, q, cond_false] at hih
              exact hih
            refine pw_go okX7_waitingAt (cc [(99, w_l), (136, (w_isAhead o))]) ⟨Nat.le_refl _, Nat.le_refl _⟩ (cc_c (fun Ag I K h => ⟨0, Nat.le_of_ble_eq_true rfl, x_l h⟩) (cc_c (fun Ag I K h => ⟨1, Nat.le_of_ble_eq_true rfl, x_isAhead hM h⟩) cc_n)) (st2 8 23) 60 ?_
            simp only [↓f_vc_s, ↓vk_i, ↓cc_i, ↓reduceIte, f_vq_s, Bool.false_eq_true, ↓f_e_iconst, ↓f_e_bipush, ↓f_e_sipush, ↓f_e_ldc, ↓f_e_ldc_w, ↓f_e_iload_n, ↓f_e_iload, ↓f_e_aload_n, ↓f_e_aload, ↓f_e_istore_n, ↓f_e_istore, ↓f_e_astore_n, ↓f_e_astore, ↓f_e_iinc, ↓f_e_iadd, ↓f_e_isub, ↓f_e_imul, ↓f_e_iand, ↓f_e_ior, ↓f_e_ixor, ↓f_e_idiv, ↓f_e_irem, ↓f_e_ishl, ↓f_e_ishr, ↓f_e_iushr, ↓f_e_i2c, ↓f_e_dup, ↓f_e_dup2, ↓f_e_pop, ↓f_e_goto, ↓f_e_ifCond, ↓f_e_if_icmp, ↓f_e_tableswitch, ↓f_e_lookupswitch, ↓f_e_getfield_i, ↓f_e_getfield_r, ↓f_e_putfield_i, ↓f_e_putfield_z, ↓f_e_iaload, ↓f_e_caload, ↓f_e_aaload, ↓f_e_iastore, ↓f_e_castore, ↓f_e_arraylength, ↓f_e_invokestatic, ↓f_e_invokevirtual, ↓f_e_ireturn, ↓f_e_return_, ↓f_s_i_c, ↓f_s_r_c, ↓f_s_v_i, ↓f_s_v_r, ↓f_s_l_0, ↓s_l_1, ↓s_l_2, ↓s_l_3, ↓s_l_4, ↓s_l_5, ↓s_l_6, ↓s_a_0, ↓s_a_1, ↓s_a_2, ↓s_a_3, ↓s_m_0, ↓f_s_m_i, ↓f_s_m_r, ↓f_s_m_i7, ↓f_s_m_r7, ↓f_s_m_i6, ↓f_s_m_r6, ↓f_s_m_i5, ↓f_s_m_r5, ↓f_s_m_i4, ↓f_s_m_r4, ↓f_s_w_n, ↓f_s_w_c, ↓f_s_p_eq, ↓f_s_p_ne, ↓f_s_p_lt, ↓f_s_p_ge, ↓f_s_p_gt, ↓f_s_p_le, ↓nk_i, ↓nk_z, ↓nk_c, ↓rf_s, ↓ov_s, ↓ov_n, ↓fin0, ↓fin1, ↓fin2, ↓fin3, cond_true, cond_false, List.set_cons_zero, List.set_cons_succ, List.length_cons, List.length_nil, true_and, and_true, true_or, or_true, implies_true, forall_const, not_true_eq_false, not_false_eq_true, false_implies, Nat.reduceAdd, Nat.reduceLT, Nat.reduceBEq, Nat.reduceEqDiff, Bool.or_false, Bool.false_or, Bool.or_true, Bool.true_or, beq_self_eq_true, Nat.reduceLeDiff, Nat.reduceMul, Nat.reduceSub, eq_self, Nat.reduceBneDiff, st0_s, st1_s, st2_s, st3_s, reduceCtorEq, cc_0, tl_0, cl_0, il_0, tl_1, cl_1, il_1, tl_2, cl_2, il_2, tl_3, cl_3, il_3, tl_4, cl_4, il_4, tl_5, cl_5, il_5, tl_6, cl_6, il_6, tl_7, cl_7, il_7, tl_8, cl_8, il_8, tl_9, cl_9, il_9, tl_10, cl_10, il_10, tl_11, cl_11, il_11, tl_12, cl_12, il_12, tl_13, cl_13, il_13, tl_14, cl_14, il_14, tl_15, cl_15, il_15, tl_16, cl_16, il_16, tl_20, tl_21, tl_25, tl_32, tl_48, tl_50, tl_57, tl_58, tl_59, tl_60, tl_99, tl_100, tl_101, tl_108, tl_109, tl_116, tl_120, tl_126, tl_374, tl_1122, tl_50000, i10, i01, tl_m1, tl_m2, tl_m3, tl_m4, nr_X7_waitingAt, tX7_waitingAt_0, tX7_waitingAt_1, tX7_waitingAt_4, tX7_waitingAt_5, tX7_waitingAt_6, tX7_waitingAt_7, tX7_waitingAt_8, tX7_waitingAt_9, tX7_waitingAt_10, tX7_waitingAt_13, tX7_waitingAt_14, tX7_waitingAt_15, tX7_waitingAt_18, tX7_waitingAt_19, tX7_waitingAt_20, tX7_waitingAt_21, tX7_waitingAt_23, tX7_waitingAt_25, tX7_waitingAt_26, tX7_waitingAt_29, tX7_waitingAt_30, tX7_waitingAt_31, tX7_waitingAt_34, tX7_waitingAt_35, tX7_waitingAt_36, tX7_waitingAt_39, tX7_waitingAt_41, tX7_waitingAt_44, tX7_waitingAt_45, tX7_waitingAt_46, tX7_waitingAt_47, tX7_waitingAt_48, tX7_waitingAt_51, tX7_waitingAt_52, tX7_waitingAt_54, tX7_waitingAt_55, tX7_waitingAt_58, tX7_waitingAt_61, tX7_waitingAt_62, tX7_waitingAt_65, tX7_waitingAt_66, tX7_waitingAt_67, tX7_waitingAt_68, tX7_waitingAt_71, tX7_waitingAt_74, tX7_waitingAt_75, tX7_waitingAt_78, tX7_waitingAt_79, tX7_waitingAt_82, tX7_waitingAt_83, tX7_waitingAt_84, tX7_waitingAt_85, tX7_waitingAt_86, tX7_waitingAt_89, tX7_waitingAt_90, tX7_waitingAt_91, tX7_waitingAt_94, tX7_waitingAt_95, tX7_waitingAt_96, tX7_waitingAt_99, tX7_waitingAt_102, tX7_waitingAt_104, pw_QK_s, h1, h2, h3, ↓w_l, ↓w_isAhead]
            rw [hS]
            simp (disch := omega) only [ix_l, ix_n, ix_0, ix_1, ix_2, ix_3, ix_4, ix_5, ix_6, ix_7, ix_8, ix_9, ix_10, ix_11, ix_12, ix_13, ix_14, ix_15, ix_20, ix_100, ix_374, jx_100, jx_11, jx_374, kx_374, cl_nI, in_nI, Nat.add_zero, true_and, up_set, set_s, set_set, set_n, cpy_s0, cpy_sd, cpy_ss, nI_add, upd_s, upd_n, h4.1]
            refine ⟨fun q => absurd q (nI_ge (by omega) (by omega)), fun _ => ⟨fun q => hF (by rw [beq_f q]; rfl), fun q => ⟨by rw [ti_nI (by omega)]; omega, by rw [ti_nI (by omega)]; omega, fun q2 => ?_, fun q2 => hF (by rw [q2, Bool.and_false])⟩⟩⟩
            rw [sumF, beq_t q, q2] at hih
            exact hih
        have := inner _ 0 (Nat.zero_add _)
        refine pw_go okX7_waitingAt (cc [(99, w_l)]) ⟨Nat.le_refl _, Nat.le_refl _⟩ (cc_c (fun Ag I K h => ⟨0, Nat.le_of_ble_eq_true rfl, x_l h⟩) cc_n) (st2 8 23) 60 ?_
        simp only [↓f_vc_s, ↓vk_i, ↓cc_i, ↓reduceIte, f_vq_s, Bool.false_eq_true, ↓f_e_iconst, ↓f_e_bipush, ↓f_e_sipush, ↓f_e_ldc, ↓f_e_ldc_w, ↓f_e_iload_n, ↓f_e_iload, ↓f_e_aload_n, ↓f_e_aload, ↓f_e_istore_n, ↓f_e_istore, ↓f_e_astore_n, ↓f_e_astore, ↓f_e_iinc, ↓f_e_iadd, ↓f_e_isub, ↓f_e_imul, ↓f_e_iand, ↓f_e_ior, ↓f_e_ixor, ↓f_e_idiv, ↓f_e_irem, ↓f_e_ishl, ↓f_e_ishr, ↓f_e_iushr, ↓f_e_i2c, ↓f_e_dup, ↓f_e_dup2, ↓f_e_pop, ↓f_e_goto, ↓f_e_ifCond, ↓f_e_if_icmp, ↓f_e_tableswitch, ↓f_e_lookupswitch, ↓f_e_getfield_i, ↓f_e_getfield_r, ↓f_e_putfield_i, ↓f_e_putfield_z, ↓f_e_iaload, ↓f_e_caload, ↓f_e_aaload, ↓f_e_iastore, ↓f_e_castore, ↓f_e_arraylength, ↓f_e_invokestatic, ↓f_e_invokevirtual, ↓f_e_ireturn, ↓f_e_return_, ↓f_s_i_c, ↓f_s_r_c, ↓f_s_v_i, ↓f_s_v_r, ↓f_s_l_0, ↓s_l_1, ↓s_l_2, ↓s_l_3, ↓s_l_4, ↓s_l_5, ↓s_l_6, ↓s_a_0, ↓s_a_1, ↓s_a_2, ↓s_a_3, ↓s_m_0, ↓f_s_m_i, ↓f_s_m_r, ↓f_s_m_i7, ↓f_s_m_r7, ↓f_s_m_i6, ↓f_s_m_r6, ↓f_s_m_i5, ↓f_s_m_r5, ↓f_s_m_i4, ↓f_s_m_r4, ↓f_s_w_n, ↓f_s_w_c, ↓f_s_p_eq, ↓f_s_p_ne, ↓f_s_p_lt, ↓f_s_p_ge, ↓f_s_p_gt, ↓f_s_p_le, ↓nk_i, ↓nk_z, ↓nk_c, ↓rf_s, ↓ov_s, ↓ov_n, ↓fin0, ↓fin1, ↓fin2, ↓fin3, cond_true, cond_false, List.set_cons_zero, List.set_cons_succ, List.length_cons, List.length_nil, true_and, and_true, true_or, or_true, implies_true, forall_const, not_true_eq_false, not_false_eq_true, false_implies, Nat.reduceAdd, Nat.reduceLT, Nat.reduceBEq, Nat.reduceEqDiff, Bool.or_false, Bool.false_or, Bool.or_true, Bool.true_or, beq_self_eq_true, Nat.reduceLeDiff, Nat.reduceMul, Nat.reduceSub, eq_self, Nat.reduceBneDiff, st0_s, st1_s, st2_s, st3_s, reduceCtorEq, cc_0, tl_0, cl_0, il_0, tl_1, cl_1, il_1, tl_2, cl_2, il_2, tl_3, cl_3, il_3, tl_4, cl_4, il_4, tl_5, cl_5, il_5, tl_6, cl_6, il_6, tl_7, cl_7, il_7, tl_8, cl_8, il_8, tl_9, cl_9, il_9, tl_10, cl_10, il_10, tl_11, cl_11, il_11, tl_12, cl_12, il_12, tl_13, cl_13, il_13, tl_14, cl_14, il_14, tl_15, cl_15, il_15, tl_16, cl_16, il_16, tl_20, tl_21, tl_25, tl_32, tl_48, tl_50, tl_57, tl_58, tl_59, tl_60, tl_99, tl_100, tl_101, tl_108, tl_109, tl_116, tl_120, tl_126, tl_374, tl_1122, tl_50000, i10, i01, tl_m1, tl_m2, tl_m3, tl_m4, nr_X7_waitingAt, tX7_waitingAt_0, tX7_waitingAt_1, tX7_waitingAt_4, tX7_waitingAt_5, tX7_waitingAt_6, tX7_waitingAt_7, tX7_waitingAt_8, tX7_waitingAt_9, tX7_waitingAt_10, tX7_waitingAt_13, tX7_waitingAt_14, tX7_waitingAt_15, tX7_waitingAt_18, tX7_waitingAt_19, tX7_waitingAt_20, tX7_waitingAt_21, tX7_waitingAt_23, tX7_waitingAt_25, tX7_waitingAt_26, tX7_waitingAt_29, tX7_waitingAt_30, tX7_waitingAt_31, tX7_waitingAt_34, tX7_waitingAt_35, tX7_waitingAt_36, tX7_waitingAt_39, tX7_waitingAt_41, tX7_waitingAt_44, tX7_waitingAt_45, tX7_waitingAt_46, tX7_waitingAt_47, tX7_waitingAt_48, tX7_waitingAt_51, tX7_waitingAt_52, tX7_waitingAt_54, tX7_waitingAt_55, tX7_waitingAt_58, tX7_waitingAt_61, tX7_waitingAt_62, tX7_waitingAt_65, tX7_waitingAt_66, tX7_waitingAt_67, tX7_waitingAt_68, tX7_waitingAt_71, tX7_waitingAt_74, tX7_waitingAt_75, tX7_waitingAt_78, tX7_waitingAt_79, tX7_waitingAt_82, tX7_waitingAt_83, tX7_waitingAt_84, tX7_waitingAt_85, tX7_waitingAt_86, tX7_waitingAt_89, tX7_waitingAt_90, tX7_waitingAt_91, tX7_waitingAt_94, tX7_waitingAt_95, tX7_waitingAt_96, tX7_waitingAt_99, tX7_waitingAt_102, tX7_waitingAt_104, pw_QK_s, h1, h2, h3, ↓w_l]
        rw [hS, h4.1]
        exact ⟨fun q => absurd q (nI_ge (by omega) (by omega)), fun _ => this⟩
    have start := outer _ 0 (Nat.zero_add _)
    refine pw_go okX7_waitingAt (cc []) ⟨Nat.le_refl _, Nat.le_refl _⟩ cc_n (st2 8 23) 60 ?_
    simp only [↓f_vc_s, ↓vk_i, ↓cc_i, ↓reduceIte, f_vq_s, Bool.false_eq_true, ↓f_e_iconst, ↓f_e_bipush, ↓f_e_sipush, ↓f_e_ldc, ↓f_e_ldc_w, ↓f_e_iload_n, ↓f_e_iload, ↓f_e_aload_n, ↓f_e_aload, ↓f_e_istore_n, ↓f_e_istore, ↓f_e_astore_n, ↓f_e_astore, ↓f_e_iinc, ↓f_e_iadd, ↓f_e_isub, ↓f_e_imul, ↓f_e_iand, ↓f_e_ior, ↓f_e_ixor, ↓f_e_idiv, ↓f_e_irem, ↓f_e_ishl, ↓f_e_ishr, ↓f_e_iushr, ↓f_e_i2c, ↓f_e_dup, ↓f_e_dup2, ↓f_e_pop, ↓f_e_goto, ↓f_e_ifCond, ↓f_e_if_icmp, ↓f_e_tableswitch, ↓f_e_lookupswitch, ↓f_e_getfield_i, ↓f_e_getfield_r, ↓f_e_putfield_i, ↓f_e_putfield_z, ↓f_e_iaload, ↓f_e_caload, ↓f_e_aaload, ↓f_e_iastore, ↓f_e_castore, ↓f_e_arraylength, ↓f_e_invokestatic, ↓f_e_invokevirtual, ↓f_e_ireturn, ↓f_e_return_, ↓f_s_i_c, ↓f_s_r_c, ↓f_s_v_i, ↓f_s_v_r, ↓f_s_l_0, ↓s_l_1, ↓s_l_2, ↓s_l_3, ↓s_l_4, ↓s_l_5, ↓s_l_6, ↓s_a_0, ↓s_a_1, ↓s_a_2, ↓s_a_3, ↓s_m_0, ↓f_s_m_i, ↓f_s_m_r, ↓f_s_m_i7, ↓f_s_m_r7, ↓f_s_m_i6, ↓f_s_m_r6, ↓f_s_m_i5, ↓f_s_m_r5, ↓f_s_m_i4, ↓f_s_m_r4, ↓f_s_w_n, ↓f_s_w_c, ↓f_s_p_eq, ↓f_s_p_ne, ↓f_s_p_lt, ↓f_s_p_ge, ↓f_s_p_gt, ↓f_s_p_le, ↓nk_i, ↓nk_z, ↓nk_c, ↓rf_s, ↓ov_s, ↓ov_n, ↓fin0, ↓fin1, ↓fin2, ↓fin3, cond_true, cond_false, List.set_cons_zero, List.set_cons_succ, List.length_cons, List.length_nil, true_and, and_true, true_or, or_true, implies_true, forall_const, not_true_eq_false, not_false_eq_true, false_implies, Nat.reduceAdd, Nat.reduceLT, Nat.reduceBEq, Nat.reduceEqDiff, Bool.or_false, Bool.false_or, Bool.or_true, Bool.true_or, beq_self_eq_true, Nat.reduceLeDiff, Nat.reduceMul, Nat.reduceSub, eq_self, Nat.reduceBneDiff, st0_s, st1_s, st2_s, st3_s, reduceCtorEq, cc_0, tl_0, cl_0, il_0, tl_1, cl_1, il_1, tl_2, cl_2, il_2, tl_3, cl_3, il_3, tl_4, cl_4, il_4, tl_5, cl_5, il_5, tl_6, cl_6, il_6, tl_7, cl_7, il_7, tl_8, cl_8, il_8, tl_9, cl_9, il_9, tl_10, cl_10, il_10, tl_11, cl_11, il_11, tl_12, cl_12, il_12, tl_13, cl_13, il_13, tl_14, cl_14, il_14, tl_15, cl_15, il_15, tl_16, cl_16, il_16, tl_20, tl_21, tl_25, tl_32, tl_48, tl_50, tl_57, tl_58, tl_59, tl_60, tl_99, tl_100, tl_101, tl_108, tl_109, tl_116, tl_120, tl_126, tl_374, tl_1122, tl_50000, i10, i01, tl_m1, tl_m2, tl_m3, tl_m4, nr_X7_waitingAt, tX7_waitingAt_0, tX7_waitingAt_1, tX7_waitingAt_4, tX7_waitingAt_5, tX7_waitingAt_6, tX7_waitingAt_7, tX7_waitingAt_8, tX7_waitingAt_9, tX7_waitingAt_10, tX7_waitingAt_13, tX7_waitingAt_14, tX7_waitingAt_15, tX7_waitingAt_18, tX7_waitingAt_19, tX7_waitingAt_20, tX7_waitingAt_21, tX7_waitingAt_23, tX7_waitingAt_25, tX7_waitingAt_26, tX7_waitingAt_29, tX7_waitingAt_30, tX7_waitingAt_31, tX7_waitingAt_34, tX7_waitingAt_35, tX7_waitingAt_36, tX7_waitingAt_39, tX7_waitingAt_41, tX7_waitingAt_44, tX7_waitingAt_45, tX7_waitingAt_46, tX7_waitingAt_47, tX7_waitingAt_48, tX7_waitingAt_51, tX7_waitingAt_52, tX7_waitingAt_54, tX7_waitingAt_55, tX7_waitingAt_58, tX7_waitingAt_61, tX7_waitingAt_62, tX7_waitingAt_65, tX7_waitingAt_66, tX7_waitingAt_67, tX7_waitingAt_68, tX7_waitingAt_71, tX7_waitingAt_74, tX7_waitingAt_75, tX7_waitingAt_78, tX7_waitingAt_79, tX7_waitingAt_82, tX7_waitingAt_83, tX7_waitingAt_84, tX7_waitingAt_85, tX7_waitingAt_86, tX7_waitingAt_89, tX7_waitingAt_90, tX7_waitingAt_91, tX7_waitingAt_94, tX7_waitingAt_95, tX7_waitingAt_96, tX7_waitingAt_99, tX7_waitingAt_102, tX7_waitingAt_104, pw_QK_s, h1, h2, h3]
    simp only [ti_le, show (0 : Int32).toInt = 0 from rfl]
    exact ⟨fun q => start q (fun i hi => absurd hi (Nat.not_lt_zero i)), fun q => hA (by omega)⟩
  · exact h.elim
end MOD8
