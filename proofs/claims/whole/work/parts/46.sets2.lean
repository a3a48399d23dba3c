/-! the class's board: settings -/
/-- nothing but the board at b is written -/
def brdOK (b : Nat) (I J : pw_I) : Prop := ∀ a, a < b ∨ b + 42 ≤ a → J a = I a
theorem RelB.dir {I J : pw_I} {b : Nat} {S S' : Nat → Int32} (h : RelB I b S) (hJ : ∀ a, a ≠ b → J a = I a) (hS : ∀ k, k = 3 ∨ k = 4 ∨ 10 ≤ k → S' k = S k) (hF : relF J b S') : RelB J b S' := by
  obtain ⟨-, hN, hL, hV, hY, W, w1, w2, w3, w4, w5⟩ := h
  have v4 : vN S' 4 = vN S 4 := by unfold vN; rw [hS 4 (by omega)]
  have v3 : vN S' 3 = vN S 3 := by unfold vN; rw [hS 3 (by omega)]
  have v10 : vN S' 10 = vN S 10 := by unfold vN; rw [hS 10 (by omega)]
  have ho : onS S' = onS S := by
    funext j
    unfold onS vN
    rw [hS (16 + 25 * j) (by omega)]
  refine ⟨hF, fun j hj => ?_, fun k hk => ?_, ?_, hY.to (fun k _ => by rw [hJ _ (by omega)]) (fun j _ => by rw [hJ _ (by omega)]) (hS 4 (by omega)) (fun k _ => hS _ (by omega)), W, ?_, ?_, w3, ?_, ?_⟩
  · obtain ⟨a1, a2, a3, a4, a5⟩ := hN j hj
    unfold relN
    rw [hJ (b + 2 + 3 * j) (by omega), hJ (b + 3 + 3 * j) (by omega), hJ (b + 4 + 3 * j) (by omega), hS (16 + 25 * j) (by omega), hS (16 + 25 * j + 1) (by omega), hS (16 + 25 * j + 3) (by omega)]
    refine ⟨a1, a2, ?_, a4, fun i hi => ?_⟩
    · rw [a3]
      unfold wayF wayS
      rw [v3, ho]
    · rw [hS (16 + 25 * j + 4 + i) (by omega)]
      refine a5 i ?_
      have : cntS S' j = cntS S j := by
        show (S' (16 + 25 * j + 3)).toNatClampNeg = (S (16 + 25 * j + 3)).toNatClampNeg
        rw [hS (16 + 25 * j + 3) (by omega)]
      omega
  · have r := hL k hk
    unfold relL
    rw [hJ (b + 21 + k) (by omega), hS (166 + 13 * k) (by omega), hS (166 + 13 * k + 1) (by omega), hS (166 + 13 * k + 2) (by omega), hS (166 + 13 * k + 3) (by omega), hS (166 + 13 * k + 4) (by omega), hS (166 + 13 * k + 5) (by omega), hS (166 + 13 * k + 6) (by omega), hS (166 + 13 * k + 7) (by omega), hS (166 + 13 * k + 8) (by omega), hS (166 + 13 * k + 9) (by omega), hS (166 + 13 * k + 10) (by omega), hS (166 + 13 * k + 11) (by omega)]
    exact r
  · unfold relS
    rw [hJ (b + 37) (by omega), hJ (b + 38) (by omega), hS 10 (by omega), v10]
    exact ⟨hV.1, fun i hi => (hV.2 i hi).trans (hS (11 + i) (by omega)).symm⟩
  · rw [hJ (b + 39) (by omega)]; exact w1
  · rw [hJ (b + 40) (by omega)]; exact w2
  · intro k
    rw [v4, hS (166 + 13 * k + 4) (by omega)]
    exact w4 k
  · refine w5.imp fun {a c} q => ?_
    unfold earlS
    rw [hS (166 + 13 * a + 11) (by omega), hS (166 + 13 * c + 11) (by omega), hS (166 + 13 * a + 12) (by omega), hS (166 + 13 * c + 12) (by omega)]
    exact q
theorem brdOK.up {b : Nat} {I : pw_I} {k : Nat} {v : Int32} : brdOK b I (pw_up I b k v) := fun a h => by rw [up_set, set_n (by omega)]
section SET2
variable {n base b : Nat} {sh : pw_Sh} {P : pw_P} {Ag : List Value} {I : pw_I} {S : Nat → Int32} {K : Option Value → pw_I → Prop}
def w_setThreshold (b : Nat) (S : Nat → Int32) : pw_Wp := fun Ag I K => match Ag with
  | [.ref o, .int x] => o = b ∧ RelB I b S ∧ (¬ (0 ≤ x.toInt ∧ x.toInt ≤ 8) → K (some (.int (-1))) I) ∧ (0 ≤ x.toInt ∧ x.toInt ≤ 8 → ∀ J, brdOK b I J → RelB J b (upd S 1 x) → K (some (.int (S 1))) J)
  | _ => False
set_option maxRecDepth 100000 in
set_option maxHeartbeats 4000000 in
theorem x_setThreshold (hM : pw_brd sh P b) (h : w_setThreshold b S Ag I K) : pw_ok mX0_setThreshold 0 base n sh P Ag I K := by
  unfold w_setThreshold at h
  split at h
  · rename_i o x
    obtain ⟨rfl, hR, hB, hA⟩ := h
    have b0 := hM.1
    obtain ⟨f1, f2, f3, f4, f5, f6, f7⟩ := hR.1
    refine pw_bd [_, _, _] pl_X0 c_ri rfl rfl ?_
    refine pw_go okX0_setThreshold (cc []) ⟨Nat.le_refl _, Nat.le_refl _⟩ cc_n (st0) 60 ?_
    simp only [↓f_vc_s, ↓vk_i, ↓cc_i, ↓reduceIte, f_vq_s, Bool.false_eq_true, ↓f_e_iconst, ↓f_e_bipush, ↓f_e_sipush, ↓f_e_ldc, ↓f_e_ldc_w, ↓f_e_iload_n, ↓f_e_iload, ↓f_e_aload_n, ↓f_e_aload, ↓f_e_istore_n, ↓f_e_istore, ↓f_e_astore_n, ↓f_e_astore, ↓f_e_iinc, ↓f_e_iadd, ↓f_e_isub, ↓f_e_imul, ↓f_e_iand, ↓f_e_ior, ↓f_e_ixor, ↓f_e_idiv, ↓f_e_irem, ↓f_e_ishl, ↓f_e_ishr, ↓f_e_iushr, ↓f_e_i2c, ↓f_e_dup, ↓f_e_dup2, ↓f_e_pop, ↓f_e_goto, ↓f_e_ifCond, ↓f_e_if_icmp, ↓f_e_tableswitch, ↓f_e_lookupswitch, ↓f_e_getfield_i, ↓f_e_getfield_r, ↓f_e_putfield_i, ↓f_e_putfield_z, ↓f_e_iaload, ↓f_e_caload, ↓f_e_aaload, ↓f_e_iastore, ↓f_e_castore, ↓f_e_arraylength, ↓f_e_invokestatic, ↓f_e_invokevirtual, ↓f_e_ireturn, ↓f_e_return_, ↓f_s_i_c, ↓f_s_r_c, ↓f_s_v_i, ↓f_s_v_r, ↓f_s_l_0, ↓s_l_1, ↓s_l_2, ↓s_l_3, ↓s_l_4, ↓s_l_5, ↓s_l_6, ↓s_a_0, ↓s_a_1, ↓s_a_2, ↓s_a_3, ↓s_m_0, ↓f_s_m_i, ↓f_s_m_r, ↓f_s_m_i7, ↓f_s_m_r7, ↓f_s_m_i6, ↓f_s_m_r6, ↓f_s_m_i5, ↓f_s_m_r5, ↓f_s_m_i4, ↓f_s_m_r4, ↓f_s_w_n, ↓f_s_w_c, ↓f_s_p_eq, ↓f_s_p_ne, ↓f_s_p_lt, ↓f_s_p_ge, ↓f_s_p_gt, ↓f_s_p_le, ↓nk_i, ↓nk_z, ↓nk_c, ↓rf_s, ↓ov_s, ↓ov_n, ↓fin0, ↓fin1, ↓fin2, ↓fin3, cond_true, cond_false, List.set_cons_zero, List.set_cons_succ, List.length_cons, List.length_nil, true_and, and_true, true_or, or_true, implies_true, forall_const, not_true_eq_false, not_false_eq_true, false_implies, Nat.reduceAdd, Nat.reduceLT, Nat.reduceBEq, Nat.reduceEqDiff, Bool.or_false, Bool.false_or, Bool.or_true, Bool.true_or, beq_self_eq_true, Nat.reduceLeDiff, Nat.reduceMul, Nat.reduceSub, eq_self, Nat.reduceBneDiff, st0_s, st1_s, st2_s, st3_s, reduceCtorEq, cc_0, tl_0, cl_0, il_0, tl_1, cl_1, il_1, tl_2, cl_2, il_2, tl_3, cl_3, il_3, tl_4, cl_4, il_4, tl_5, cl_5, il_5, tl_6, cl_6, il_6, tl_7, cl_7, il_7, tl_8, cl_8, il_8, tl_9, cl_9, il_9, tl_10, cl_10, il_10, tl_11, cl_11, il_11, tl_12, cl_12, il_12, tl_13, cl_13, il_13, tl_14, cl_14, il_14, tl_15, cl_15, il_15, tl_16, cl_16, il_16, tl_20, tl_21, tl_25, tl_32, tl_48, tl_50, tl_57, tl_58, tl_59, tl_60, tl_99, tl_100, tl_101, tl_108, tl_109, tl_116, tl_120, tl_126, tl_374, tl_1122, tl_50000, i10, i01, tl_m1, tl_m2, tl_m3, tl_m4, nr_X0_setThreshold, tX0_setThreshold_0, tX0_setThreshold_1, tX0_setThreshold_4, tX0_setThreshold_5, tX0_setThreshold_7, tX0_setThreshold_10, tX0_setThreshold_11, tX0_setThreshold_12, tX0_setThreshold_13, tX0_setThreshold_16, tX0_setThreshold_17, tX0_setThreshold_18, tX0_setThreshold_19, tX0_setThreshold_22, tX0_setThreshold_23, pw_QK_s, b0, f5]
    simp only [ti_lt, ti_le, show (0 : Int32).toInt = 0 from rfl, show (8 : Int32).toInt = 8 from rfl]
    have fin : 0 ≤ x.toInt ∧ x.toInt ≤ 8 → K (some (.int (S 1))) (pw_up I o 6 x) := fun q => by
      refine hA q _ brdOK.up (hR.dir (fun a h => by rw [up_set, set_n h]) (fun k hk => upd_n (by omega)) ?_)
      unfold relF
      rw [up_n (by omega), up_n (by omega), up_n (by omega), up_n (by omega), up_r, up_n (by omega), up_n (by omega), upd_n (by omega), upd_n (by omega), upd_n (by omega), upd_s, upd_n (by omega), upd_n (by omega)]
      exact ⟨f1, f2, f3, f4, rfl, f6, f7⟩
    exact ⟨fun q => hB (by omega), fun q => ⟨fun q2 => fin (by omega), fun q2 => hB (by omega)⟩⟩
  · exact h.elim
def w_setLate (b : Nat) (S : Nat → Int32) : pw_Wp := fun Ag I K => match Ag with
  | [.ref o, .int x] => o = b ∧ RelB I b S ∧ (¬ (0 ≤ x.toInt ∧ x.toInt ≤ 50) → K (some (.int (-1))) I) ∧ (0 ≤ x.toInt ∧ x.toInt ≤ 50 → ∀ J, brdOK b I J → RelB J b (upd S 2 x) → K (some (.int (S 2))) J)
  | _ => False
set_option maxRecDepth 100000 in
set_option maxHeartbeats 4000000 in
theorem x_setLate (hM : pw_brd sh P b) (h : w_setLate b S Ag I K) : pw_ok mX0_setLate 0 base n sh P Ag I K := by
  unfold w_setLate at h
  split at h
  · rename_i o x
    obtain ⟨rfl, hR, hB, hA⟩ := h
    have b0 := hM.1
    obtain ⟨f1, f2, f3, f4, f5, f6, f7⟩ := hR.1
    refine pw_bd [_, _, _] pl_X0 c_ri rfl rfl ?_
    refine pw_go okX0_setLate (cc []) ⟨Nat.le_refl _, Nat.le_refl _⟩ cc_n (st0) 60 ?_
    simp only [↓f_vc_s, ↓vk_i, ↓cc_i, ↓reduceIte, f_vq_s, Bool.false_eq_true, ↓f_e_iconst, ↓f_e_bipush, ↓f_e_sipush, ↓f_e_ldc, ↓f_e_ldc_w, ↓f_e_iload_n, ↓f_e_iload, ↓f_e_aload_n, ↓f_e_aload, ↓f_e_istore_n, ↓f_e_istore, ↓f_e_astore_n, ↓f_e_astore, ↓f_e_iinc, ↓f_e_iadd, ↓f_e_isub, ↓f_e_imul, ↓f_e_iand, ↓f_e_ior, ↓f_e_ixor, ↓f_e_idiv, ↓f_e_irem, ↓f_e_ishl, ↓f_e_ishr, ↓f_e_iushr, ↓f_e_i2c, ↓f_e_dup, ↓f_e_dup2, ↓f_e_pop, ↓f_e_goto, ↓f_e_ifCond, ↓f_e_if_icmp, ↓f_e_tableswitch, ↓f_e_lookupswitch, ↓f_e_getfield_i, ↓f_e_getfield_r, ↓f_e_putfield_i, ↓f_e_putfield_z, ↓f_e_iaload, ↓f_e_caload, ↓f_e_aaload, ↓f_e_iastore, ↓f_e_castore, ↓f_e_arraylength, ↓f_e_invokestatic, ↓f_e_invokevirtual, ↓f_e_ireturn, ↓f_e_return_, ↓f_s_i_c, ↓f_s_r_c, ↓f_s_v_i, ↓f_s_v_r, ↓f_s_l_0, ↓s_l_1, ↓s_l_2, ↓s_l_3, ↓s_l_4, ↓s_l_5, ↓s_l_6, ↓s_a_0, ↓s_a_1, ↓s_a_2, ↓s_a_3, ↓s_m_0, ↓f_s_m_i, ↓f_s_m_r, ↓f_s_m_i7, ↓f_s_m_r7, ↓f_s_m_i6, ↓f_s_m_r6, ↓f_s_m_i5, ↓f_s_m_r5, ↓f_s_m_i4, ↓f_s_m_r4, ↓f_s_w_n, ↓f_s_w_c, ↓f_s_p_eq, ↓f_s_p_ne, ↓f_s_p_lt, ↓f_s_p_ge, ↓f_s_p_gt, ↓f_s_p_le, ↓nk_i, ↓nk_z, ↓nk_c, ↓rf_s, ↓ov_s, ↓ov_n, ↓fin0, ↓fin1, ↓fin2, ↓fin3, cond_true, cond_false, List.set_cons_zero, List.set_cons_succ, List.length_cons, List.length_nil, true_and, and_true, true_or, or_true, implies_true, forall_const, not_true_eq_false, not_false_eq_true, false_implies, Nat.reduceAdd, Nat.reduceLT, Nat.reduceBEq, Nat.reduceEqDiff, Bool.or_false, Bool.false_or, Bool.or_true, Bool.true_or, beq_self_eq_true, Nat.reduceLeDiff, Nat.reduceMul, Nat.reduceSub, eq_self, Nat.reduceBneDiff, st0_s, st1_s, st2_s, st3_s, reduceCtorEq, cc_0, tl_0, cl_0, il_0, tl_1, cl_1, il_1, tl_2, cl_2, il_2, tl_3, cl_3, il_3, tl_4, cl_4, il_4, tl_5, cl_5, il_5, tl_6, cl_6, il_6, tl_7, cl_7, il_7, tl_8, cl_8, il_8, tl_9, cl_9, il_9, tl_10, cl_10, il_10, tl_11, cl_11, il_11, tl_12, cl_12, il_12, tl_13, cl_13, il_13, tl_14, cl_14, il_14, tl_15, cl_15, il_15, tl_16, cl_16, il_16, tl_20, tl_21, tl_25, tl_32, tl_48, tl_50, tl_57, tl_58, tl_59, tl_60, tl_99, tl_100, tl_101, tl_108, tl_109, tl_116, tl_120, tl_126, tl_374, tl_1122, tl_50000, i10, i01, tl_m1, tl_m2, tl_m3, tl_m4, nr_X0_setLate, tX0_setLate_0, tX0_setLate_1, tX0_setLate_4, tX0_setLate_5, tX0_setLate_7, tX0_setLate_10, tX0_setLate_11, tX0_setLate_12, tX0_setLate_13, tX0_setLate_16, tX0_setLate_17, tX0_setLate_18, tX0_setLate_19, tX0_setLate_22, tX0_setLate_23, pw_QK_s, b0, f6]
    simp only [ti_lt, ti_le, show (0 : Int32).toInt = 0 from rfl, show (50 : Int32).toInt = 50 from rfl]
    have fin : 0 ≤ x.toInt ∧ x.toInt ≤ 50 → K (some (.int (S 2))) (pw_up I o 7 x) := fun q => by
      refine hA q _ brdOK.up (hR.dir (fun a h => by rw [up_set, set_n h]) (fun k hk => upd_n (by omega)) ?_)
      unfold relF
      rw [up_n (by omega), up_n (by omega), up_n (by omega), up_n (by omega), up_n (by omega), up_r, up_n (by omega), upd_n (by omega), upd_n (by omega), upd_n (by omega), upd_n (by omega), upd_s, upd_n (by omega)]
      exact ⟨f1, f2, f3, f4, f5, rfl, f7⟩
    exact ⟨fun q => hB (by omega), fun q => ⟨fun q2 => fin (by omega), fun q2 => hB (by omega)⟩⟩
  · exact h.elim
end SET2
