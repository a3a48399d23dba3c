/-! Integer.bitCount over sets of lines -/
def su (x k : Int32) : Int32 := (x.toUInt32 >>> (Int32.toUInt32 k &&& Int32.toUInt32 31)).toInt32
def bu1 (x : Int32) : Int32 := x - (su x 1 &&& 1431655765)
def bu2 (x : Int32) : Int32 := (x &&& 858993459) + (su x 2 &&& 858993459)
def bu3 (x : Int32) : Int32 := x + su x 4 &&& 252645135
def bu4 (x : Int32) : Int32 := x + su x 8
def bu5 (x : Int32) : Int32 := x + su x 16 &&& 63
def bcJ (x : Int32) : Int32 := bu5 (bu4 (bu3 (bu2 (bu1 x))))
section BITC
variable {n base : Nat} {sh : pw_Sh} {P : pw_P} {Ag : List Value} {I : pw_I} {K : Option Value → pw_I → Prop}
def w_bitC : pw_Wp := fun Ag I K => match Ag with
  | [.int x] => K (some (.int (bcJ x))) I
  | _ => False
set_option maxRecDepth 100000 in
set_option maxHeartbeats 4000000 in
theorem x_bitC (h : w_bitC Ag I K) : pw_ok mJ6_bitCount_0f7a4 0 base n sh P Ag I K := by
  unfold w_bitC at h
  split at h
  · refine pw_bd [_] pl_J6 c_i rfl rfl ?_
    refine pw_go okJ6_bitCount_0f7a4 (cc []) ⟨Nat.le_refl _, Nat.le_refl _⟩ cc_n (st0) 90 ?_
    simp only [↓f_vc_s, ↓vk_i, ↓cc_i, ↓reduceIte, f_vq_s, Bool.false_eq_true, ↓f_e_iconst, ↓f_e_bipush, ↓f_e_sipush, ↓f_e_ldc, ↓f_e_ldc_w, ↓f_e_iload_n, ↓f_e_iload, ↓f_e_aload_n, ↓f_e_aload, ↓f_e_istore_n, ↓f_e_istore, ↓f_e_astore_n, ↓f_e_astore, ↓f_e_iinc, ↓f_e_iadd, ↓f_e_isub, ↓f_e_imul, ↓f_e_iand, ↓f_e_ior, ↓f_e_ixor, ↓f_e_idiv, ↓f_e_irem, ↓f_e_ishl, ↓f_e_ishr, ↓f_e_iushr, ↓f_e_i2c, ↓f_e_dup, ↓f_e_dup2, ↓f_e_pop, ↓f_e_goto, ↓f_e_ifCond, ↓f_e_if_icmp, ↓f_e_tableswitch, ↓f_e_lookupswitch, ↓f_e_getfield_i, ↓f_e_getfield_r, ↓f_e_putfield_i, ↓f_e_putfield_z, ↓f_e_iaload, ↓f_e_caload, ↓f_e_aaload, ↓f_e_iastore, ↓f_e_castore, ↓f_e_arraylength, ↓f_e_invokestatic, ↓f_e_invokevirtual, ↓f_e_ireturn, ↓f_e_return_, ↓f_s_i_c, ↓f_s_r_c, ↓f_s_v_i, ↓f_s_v_r, ↓f_s_l_0, ↓s_l_1, ↓s_l_2, ↓s_l_3, ↓s_l_4, ↓s_l_5, ↓s_l_6, ↓s_a_0, ↓s_a_1, ↓s_a_2, ↓s_a_3, ↓s_m_0, ↓f_s_m_i, ↓f_s_m_r, ↓f_s_m_i7, ↓f_s_m_r7, ↓f_s_m_i6, ↓f_s_m_r6, ↓f_s_m_i5, ↓f_s_m_r5, ↓f_s_m_i4, ↓f_s_m_r4, ↓f_s_w_n, ↓f_s_w_c, ↓f_s_p_eq, ↓f_s_p_ne, ↓f_s_p_lt, ↓f_s_p_ge, ↓f_s_p_gt, ↓f_s_p_le, ↓nk_i, ↓nk_z, ↓nk_c, ↓rf_s, ↓ov_s, ↓ov_n, ↓fin0, ↓fin1, ↓fin2, ↓fin3, cond_true, cond_false, List.set_cons_zero, List.set_cons_succ, List.length_cons, List.length_nil, true_and, and_true, true_or, or_true, implies_true, forall_const, not_true_eq_false, not_false_eq_true, false_implies, Nat.reduceAdd, Nat.reduceLT, Nat.reduceBEq, Nat.reduceEqDiff, Bool.or_false, Bool.false_or, Bool.or_true, Bool.true_or, beq_self_eq_true, Nat.reduceLeDiff, Nat.reduceMul, Nat.reduceSub, eq_self, Nat.reduceBneDiff, st0_s, st1_s, st2_s, st3_s, reduceCtorEq, cc_0, tl_0, cl_0, il_0, tl_1, cl_1, il_1, tl_2, cl_2, il_2, tl_3, cl_3, il_3, tl_4, cl_4, il_4, tl_5, cl_5, il_5, tl_6, cl_6, il_6, tl_7, cl_7, il_7, tl_8, cl_8, il_8, tl_9, cl_9, il_9, tl_10, cl_10, il_10, tl_11, cl_11, il_11, tl_12, cl_12, il_12, tl_13, cl_13, il_13, tl_14, cl_14, il_14, tl_15, cl_15, il_15, tl_16, cl_16, il_16, tl_20, tl_21, tl_25, tl_32, tl_48, tl_50, tl_57, tl_58, tl_59, tl_60, tl_99, tl_100, tl_101, tl_108, tl_109, tl_116, tl_120, tl_126, tl_374, tl_1122, tl_50000, i10, i01, tl_m1, tl_m2, tl_m3, tl_m4, nr_J6_bitCount_0f7a4, tJ6_bitCount_0f7a4_0, tJ6_bitCount_0f7a4_1, tJ6_bitCount_0f7a4_2, tJ6_bitCount_0f7a4_3, tJ6_bitCount_0f7a4_4, tJ6_bitCount_0f7a4_7, tJ6_bitCount_0f7a4_8, tJ6_bitCount_0f7a4_9, tJ6_bitCount_0f7a4_10, tJ6_bitCount_0f7a4_11, tJ6_bitCount_0f7a4_14, tJ6_bitCount_0f7a4_15, tJ6_bitCount_0f7a4_16, tJ6_bitCount_0f7a4_17, tJ6_bitCount_0f7a4_18, tJ6_bitCount_0f7a4_21, tJ6_bitCount_0f7a4_22, tJ6_bitCount_0f7a4_23, tJ6_bitCount_0f7a4_24, tJ6_bitCount_0f7a4_25, tJ6_bitCount_0f7a4_26, tJ6_bitCount_0f7a4_27, tJ6_bitCount_0f7a4_28, tJ6_bitCount_0f7a4_29, tJ6_bitCount_0f7a4_32, tJ6_bitCount_0f7a4_33, tJ6_bitCount_0f7a4_34, tJ6_bitCount_0f7a4_35, tJ6_bitCount_0f7a4_36, tJ6_bitCount_0f7a4_38, tJ6_bitCount_0f7a4_39, tJ6_bitCount_0f7a4_40, tJ6_bitCount_0f7a4_41, tJ6_bitCount_0f7a4_42, tJ6_bitCount_0f7a4_43, tJ6_bitCount_0f7a4_45, tJ6_bitCount_0f7a4_46, tJ6_bitCount_0f7a4_47, tJ6_bitCount_0f7a4_48, tJ6_bitCount_0f7a4_49, tJ6_bitCount_0f7a4_51, tJ6_bitCount_0f7a4_52, pw_QK_s]
    exact h
  · exact h.elim
end BITC
theorem bc_0 : (List.range 4096).all (fun v => bcJ (nI (0 + v)) == bitsS (nI (0 + v))) = true := by decide +kernel
theorem bc_1 : (List.range 4096).all (fun v => bcJ (nI (4096 + v)) == bitsS (nI (4096 + v))) = true := by decide +kernel
theorem bc_2 : (List.range 4096).all (fun v => bcJ (nI (8192 + v)) == bitsS (nI (8192 + v))) = true := by decide +kernel
theorem bc_3 : (List.range 4096).all (fun v => bcJ (nI (12288 + v)) == bitsS (nI (12288 + v))) = true := by decide +kernel
theorem bc_4 : (List.range 4096).all (fun v => bcJ (nI (16384 + v)) == bitsS (nI (16384 + v))) = true := by decide +kernel
theorem bc_5 : (List.range 4096).all (fun v => bcJ (nI (20480 + v)) == bitsS (nI (20480 + v))) = true := by decide +kernel
theorem bc_6 : (List.range 4096).all (fun v => bcJ (nI (24576 + v)) == bitsS (nI (24576 + v))) = true := by decide +kernel
theorem bc_7 : (List.range 4096).all (fun v => bcJ (nI (28672 + v)) == bitsS (nI (28672 + v))) = true := by decide +kernel
theorem bc_8 : (List.range 4096).all (fun v => bcJ (nI (32768 + v)) == bitsS (nI (32768 + v))) = true := by decide +kernel
theorem bc_9 : (List.range 4096).all (fun v => bcJ (nI (36864 + v)) == bitsS (nI (36864 + v))) = true := by decide +kernel
theorem bc_10 : (List.range 4096).all (fun v => bcJ (nI (40960 + v)) == bitsS (nI (40960 + v))) = true := by decide +kernel
theorem bc_11 : (List.range 4096).all (fun v => bcJ (nI (45056 + v)) == bitsS (nI (45056 + v))) = true := by decide +kernel
theorem bc_12 : (List.range 4096).all (fun v => bcJ (nI (49152 + v)) == bitsS (nI (49152 + v))) = true := by decide +kernel
theorem bc_13 : (List.range 4096).all (fun v => bcJ (nI (53248 + v)) == bitsS (nI (53248 + v))) = true := by decide +kernel
theorem bc_14 : (List.range 4096).all (fun v => bcJ (nI (57344 + v)) == bitsS (nI (57344 + v))) = true := by decide +kernel
theorem bc_15 : (List.range 4096).all (fun v => bcJ (nI (61440 + v)) == bitsS (nI (61440 + v))) = true := by decide +kernel
theorem bc_all {v : Nat} (h : v < 65536) : bcJ (nI v) = bitsS (nI v) := by
  have key : ∀ c : Nat, c < 16 → ∀ v, v < 4096 → bcJ (nI (4096 * c + v)) = bitsS (nI (4096 * c + v)) := by
    intro c hc v hv
    have hm : v ∈ List.range 4096 := List.mem_range.mpr hv
    have : c = 0 ∨ c = 1 ∨ c = 2 ∨ c = 3 ∨ c = 4 ∨ c = 5 ∨ c = 6 ∨ c = 7 ∨ c = 8 ∨ c = 9 ∨ c = 10 ∨ c = 11 ∨ c = 12 ∨ c = 13 ∨ c = 14 ∨ c = 15 := by omega
    rcases this with rfl | rfl | rfl | rfl | rfl | rfl | rfl | rfl | rfl | rfl | rfl | rfl | rfl | rfl | rfl | rfl
    · exact beq_iff_eq.mp (List.all_eq_true.mp bc_0 v hm)
    · exact beq_iff_eq.mp (List.all_eq_true.mp bc_1 v hm)
    · exact beq_iff_eq.mp (List.all_eq_true.mp bc_2 v hm)
    · exact beq_iff_eq.mp (List.all_eq_true.mp bc_3 v hm)
    · exact beq_iff_eq.mp (List.all_eq_true.mp bc_4 v hm)
    · exact beq_iff_eq.mp (List.all_eq_true.mp bc_5 v hm)
    · exact beq_iff_eq.mp (List.all_eq_true.mp bc_6 v hm)
    · exact beq_iff_eq.mp (List.all_eq_true.mp bc_7 v hm)
    · exact beq_iff_eq.mp (List.all_eq_true.mp bc_8 v hm)
    · exact beq_iff_eq.mp (List.all_eq_true.mp bc_9 v hm)
    · exact beq_iff_eq.mp (List.all_eq_true.mp bc_10 v hm)
    · exact beq_iff_eq.mp (List.all_eq_true.mp bc_11 v hm)
    · exact beq_iff_eq.mp (List.all_eq_true.mp bc_12 v hm)
    · exact beq_iff_eq.mp (List.all_eq_true.mp bc_13 v hm)
    · exact beq_iff_eq.mp (List.all_eq_true.mp bc_14 v hm)
    · exact beq_iff_eq.mp (List.all_eq_true.mp bc_15 v hm)
  have := key (v / 4096) (by omega) (v % 4096) (by omega)
  rwa [show 4096 * (v / 4096) + v % 4096 = v by omega] at this
