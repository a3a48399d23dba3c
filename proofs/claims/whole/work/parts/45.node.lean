/-! small numbers: bitCount is the reference's count; what is told of nodes -/
theorem bv_nI {x : Int32} (h : x.toBitVec.toNat < 65536) : x = nI x.toBitVec.toNat := by
  refine Int32.toInt_inj.mp ?_
  rw [ti_nI (by omega)]
  exact BitVec.toInt_eq_toNat_of_lt (by omega)
theorem bc_bv {x : Int32} (h : x.toBitVec.toNat < 65536) : bcJ x = bitsS x := by
  rw [bv_nI h]
  exact bc_all h
theorem shl_bv : ∀ k, k < 16 → ((1 : Int32) <<< (nI k &&& 31)).toBitVec.toNat = 2 ^ k := by decide +kernel
theorem setF_bd {p : Nat → Bool} : ∀ k, k ≤ 16 → (setF p k).toBitVec.toNat < 2 ^ k
  | 0, _ => Nat.one_pos
  | k + 1, h => by
    have ih := setF_bd (p := p) k (by omega)
    have h2 : 2 ^ k < 2 ^ (k + 1) := Nat.pow_lt_pow_right (by omega) (by omega)
    rw [setF]
    show ((setF p k).toBitVec ||| (if p k = true then (1 : Int32) <<< (nI k &&& 31) else 0).toBitVec).toNat < _
    rw [BitVec.toNat_or]
    refine Nat.or_lt_two_pow (by omega) ?_
    split
    · rw [shl_bv k (by omega)]; exact h2
    · exact Nat.two_pow_pos _
theorem setF_16 {p : Nat → Bool} {k : Nat} (h : k ≤ 16) : (setF p k).toBitVec.toNat < 65536 := Nat.lt_of_lt_of_le (setF_bd k h) (Nat.pow_le_pow_right (n := 2) (by omega) h)
theorem and_16 {x y : Int32} (h : x.toBitVec.toNat < 65536) : (x &&& y).toBitVec.toNat < 65536 := by
  show (x.toBitVec &&& y.toBitVec).toNat < _
  rw [BitVec.toNat_and]
  exact Nat.lt_of_le_of_lt Nat.and_le_left h
section NODE
variable {n base b : Nat} {sh : pw_Sh} {P : pw_P} {Ag : List Value} {I : pw_I} {S : Nat → Int32} {K : Option Value → pw_I → Prop}
def w_tellNode (b : Nat) (S : Nat → Int32) : pw_Wp := fun Ag I K => match Ag with
  | [.ref o, .int x, .int w] => o = b ∧ InvB S ∧ RelB I b S ∧ (¬ (okNode S x ∧ 0 ≤ w.toInt ∧ w.toInt ≤ 5) → K (some (.int (-1))) I) ∧ (okNode S x ∧ 0 ≤ w.toInt ∧ w.toInt ≤ 5 → K (some (.int (nodeOfS S x.toNatClampNeg w))) I)
  | _ => False
set_option maxRecDepth 100000 in
set_option maxHeartbeats 4000000 in
theorem x_tellNode (hM : pw_brd sh P b) (h : w_tellNode b S Ag I K) : pw_ok mX0_tellNode 2 base n sh P Ag I K := by
  unfold w_tellNode at h
  split at h
  · rename_i o x w
    obtain ⟨rfl, hI, hR, hB, hA⟩ := h
    obtain ⟨b0, ⟨b1, b2⟩, bN, -⟩ := id hM
    obtain ⟨rF, rN, -⟩ := id hR
    refine pw_bd [_, _, _, _] pl_X0 c_rii rfl rfl ?_
    by_cases hx : okNode S x
    · have n3 := hI.n3
      obtain ⟨j, rfl, hj⟩ := tn6 (x := x) ⟨hx.1, by have := hx.2; omega⟩
      have cj : (nI j).toNatClampNeg = j := cl_nI (by omega)
      obtain ⟨⟨n1, n2⟩, n4, n5⟩ := bN j hj
      obtain ⟨r1, r2, r3, r4, r5⟩ := rN j hj
      have hb := hI.2.2.2.1 j hj
      rw [cj] at hA
      have hA := fun (z : 0 ≤ w.toInt ∧ w.toInt ≤ 5) => hA ⟨hx, z⟩
      have hB := fun (z : ¬ (0 ≤ w.toInt ∧ w.toInt ≤ 5)) => hB (fun y => z y.2)
      refine pw_go okX0_tellNode (cc [(2, (w_hasNode o S)), (92, w_asBit), (28, (w_linesBelow o S)), (23, (w_litSet o S)), (156, w_bitC)]) ⟨Nat.le_refl _, Nat.le_refl _⟩ (cc_c (fun Ag I K h => ⟨0, Nat.le_of_ble_eq_true rfl, x_hasNode hM h⟩) (cc_c (fun Ag I K h => ⟨0, Nat.le_of_ble_eq_true rfl, x_asBit h⟩) (cc_c (fun Ag I K h => ⟨0, Nat.le_of_ble_eq_true rfl, x_linesBelow hM h⟩) (cc_c (fun Ag I K h => ⟨1, Nat.le_of_ble_eq_true rfl, x_litSet hM h⟩) (cc_c (fun Ag I K h => ⟨0, Nat.le_of_ble_eq_true rfl, x_bitC h⟩) cc_n))))) (st0) 90 ?_
      simp only [↓f_vc_s, ↓vk_i, ↓cc_i, ↓reduceIte, f_vq_s, Bool.false_eq_true, ↓f_e_iconst, ↓f_e_bipush, ↓f_e_sipush, ↓f_e_ldc, ↓f_e_ldc_w, ↓f_e_iload_n, ↓f_e_iload, ↓f_e_aload_n, ↓f_e_aload, ↓f_e_istore_n, ↓f_e_istore, ↓f_e_astore_n, ↓f_e_astore, ↓f_e_iinc, ↓f_e_iadd, ↓f_e_isub, ↓f_e_imul, ↓f_e_iand, ↓f_e_ior, ↓f_e_ixor, ↓f_e_idiv, ↓f_e_irem, ↓f_e_ishl, ↓f_e_ishr, ↓f_e_iushr, ↓f_e_i2c, ↓f_e_dup, ↓f_e_dup2, ↓f_e_pop, ↓f_e_goto, ↓f_e_ifCond, ↓f_e_if_icmp, ↓f_e_tableswitch, ↓f_e_lookupswitch, ↓f_e_getfield_i, ↓f_e_getfield_r, ↓f_e_putfield_i, ↓f_e_putfield_z, ↓f_e_iaload, ↓f_e_caload, ↓f_e_aaload, ↓f_e_iastore, ↓f_e_castore, ↓f_e_arraylength, ↓f_e_invokestatic, ↓f_e_invokevirtual, ↓f_e_ireturn, ↓f_e_return_, ↓f_s_i_c, ↓f_s_r_c, ↓f_s_v_i, ↓f_s_v_r, ↓f_s_l_0, ↓s_l_1, ↓s_l_2, ↓s_l_3, ↓s_l_4, ↓s_l_5, ↓s_l_6, ↓s_a_0, ↓s_a_1, ↓s_a_2, ↓s_a_3, ↓s_m_0, ↓f_s_m_i, ↓f_s_m_r, ↓f_s_m_i7, ↓f_s_m_r7, ↓f_s_m_i6, ↓f_s_m_r6, ↓f_s_m_i5, ↓f_s_m_r5, ↓f_s_m_i4, ↓f_s_m_r4, ↓f_s_w_n, ↓f_s_w_c, ↓f_s_p_eq, ↓f_s_p_ne, ↓f_s_p_lt, ↓f_s_p_ge, ↓f_s_p_gt, ↓f_s_p_le, ↓nk_i, ↓nk_z, ↓nk_c, ↓rf_s, ↓ov_s, ↓ov_n, ↓fin0, ↓fin1, ↓fin2, ↓fin3, cond_true, cond_false, List.set_cons_zero, List.set_cons_succ, List.length_cons, List.length_nil, true_and, and_true, true_or, or_true, implies_true, forall_const, not_true_eq_false, not_false_eq_true, false_implies, Nat.reduceAdd, Nat.reduceLT, Nat.reduceBEq, Nat.reduceEqDiff, Bool.or_false, Bool.false_or, Bool.or_true, Bool.true_or, beq_self_eq_true, Nat.reduceLeDiff, Nat.reduceMul, Nat.reduceSub, eq_self, Nat.reduceBneDiff, st0_s, st1_s, st2_s, st3_s, reduceCtorEq, cc_0, tl_0, cl_0, il_0, tl_1, cl_1, il_1, tl_2, cl_2, il_2, tl_3, cl_3, il_3, tl_4, cl_4, il_4, tl_5, cl_5, il_5, tl_6, cl_6, il_6, tl_7, cl_7, il_7, tl_8, cl_8, il_8, tl_9, cl_9, il_9, tl_10, cl_10, il_10, tl_11, cl_11, il_11, tl_12, cl_12, il_12, tl_13, cl_13, il_13, tl_14, cl_14, il_14, tl_15, cl_15, il_15, tl_16, cl_16, il_16, tl_20, tl_21, tl_25, tl_32, tl_48, tl_50, tl_57, tl_58, tl_59, tl_60, tl_99, tl_100, tl_101, tl_108, tl_109, tl_116, tl_120, tl_126, tl_374, tl_1122, tl_50000, i10, i01, tl_m1, tl_m2, tl_m3, tl_m4, nr_X0_tellNode, tX0_tellNode_0, tX0_tellNode_1, tX0_tellNode_2, tX0_tellNode_5, tX0_tellNode_8, tX0_tellNode_9, tX0_tellNode_10, tX0_tellNode_11, tX0_tellNode_14, tX0_tellNode_15, tX0_tellNode_16, tX0_tellNode_17, tX0_tellNode_18, tX0_tellNode_56, tX0_tellNode_57, tX0_tellNode_60, tX0_tellNode_61, tX0_tellNode_64, tX0_tellNode_66, tX0_tellNode_69, tX0_tellNode_70, tX0_tellNode_73, tX0_tellNode_74, tX0_tellNode_75, tX0_tellNode_78, tX0_tellNode_81, tX0_tellNode_82, tX0_tellNode_83, tX0_tellNode_86, tX0_tellNode_89, tX0_tellNode_90, tX0_tellNode_91, tX0_tellNode_94, tX0_tellNode_95, tX0_tellNode_96, tX0_tellNode_97, tX0_tellNode_98, tX0_tellNode_99, tX0_tellNode_100, tX0_tellNode_101, tX0_tellNode_104, tX0_tellNode_107, tX0_tellNode_108, tX0_tellNode_109, tX0_tellNode_110, tX0_tellNode_113, tX0_tellNode_114, tX0_tellNode_117, tX0_tellNode_118, tX0_tellNode_119, tX0_tellNode_120, pw_QK_s, b0, b1, b2, cj, n1, n2, n4, n5.1, r1, r2, r4, rF.2.2.1, ↓w_hasNode, ↓w_asBit, ↓w_linesBelow, ↓w_litSet, ↓w_bitC]
      have e : ∀ c : Int32, (0 ≤ c.toInt ∧ c.toInt ≤ 5) → w = c → K (some (.int (nodeOfS S j c))) I := fun c hc q => by
        subst q; exact hA hc
      refine ⟨rF, fun _ => ⟨in_nI hj (by omega), fun q => ?_, fun n0 => ⟨fun q => ?_, fun n1 => ⟨e 2 (by decide), fun n2 => ⟨fun q => ?_, fun n3 => ⟨fun q => ⟨hI, hR, j, rfl, hj, ?_⟩, fun n4 => ⟨fun q => ⟨hI, hR, j, rfl, hj, hI, hR, e 5 (by decide) q⟩, fun n5 => hB ?_⟩⟩⟩⟩⟩⟩, fun q => absurd hx q⟩
      · have := e 0 (by decide) q
        rw [show nodeOfS S j 0 = if j = 0 then -4 else S (16 + 25 * j) from rfl] at this
        have hon := hI.2.2.2.2.1
        by_cases z : j = 0
        · rw [if_pos z] at this
          refine ⟨fun y => absurd ?_ y, fun _ => this⟩
          rw [z]; exact hon.1
        · rw [if_neg z] at this
          refine ⟨fun _ => this, fun y => ?_⟩
          have ho := hon.2 j (by omega) hj
          rw [ho.1] at y
          have := congrArg Int32.toInt y
          rw [ti_nI (by omega)] at this
          exact absurd this (by show ¬ _ = (-1 : Int); omega)
      · have := e 1 (by decide) q
        rw [show nodeOfS S j 1 = S (16 + 25 * j + 1) from rfl] at this
        exact ⟨fun z => by rw [z] at this; exact this, fun z => by rw [hb.1.resolve_left z] at this; exact this⟩
      · have := e 3 (by decide) q
        rw [show nodeOfS S j 3 = S (16 + 25 * j + 2) from rfl] at this
        rw [bit6 hj]
        rcases hb.2.1 with z | z
        · rw [if_neg (by rw [z]; decide)]; rw [z] at this; exact this
        · rw [if_pos (by rw [z]; decide)]; rw [z] at this; exact this
      · have := e 4 (by decide) q
        rw [bc_bv (setF_16 hI.2.1.2)]
        exact this
      · rintro ⟨z1, z2⟩
        obtain ⟨v, rfl, hv⟩ := tn99 (x := w) ⟨z1, by omega⟩
        rw [ti_nI (by omega)] at z2
        have : v = 0 ∨ v = 1 ∨ v = 2 ∨ v = 3 ∨ v = 4 ∨ v = 5 := by omega
        rcases this with rfl | rfl | rfl | rfl | rfl | rfl
        · exact n0 rfl
        · exact n1 rfl
        · exact n2 rfl
        · exact n3 rfl
        · exact n4 rfl
        · exact n5 rfl
    · have hB := hB (fun y => hx y.1)
      refine pw_go okX0_tellNode (cc [(2, (w_hasNode o S))]) ⟨Nat.le_refl _, Nat.le_refl _⟩ (cc_c (fun Ag I K h => ⟨0, Nat.le_of_ble_eq_true rfl, x_hasNode hM h⟩) cc_n) (st1 10) 90 ?_
      simp only [↓f_vc_s, ↓vk_i, ↓cc_i, ↓reduceIte, f_vq_s, Bool.false_eq_true, ↓f_e_iconst, ↓f_e_bipush, ↓f_e_sipush, ↓f_e_ldc, ↓f_e_ldc_w, ↓f_e_iload_n, ↓f_e_iload, ↓f_e_aload_n, ↓f_e_aload, ↓f_e_istore_n, ↓f_e_istore, ↓f_e_astore_n, ↓f_e_astore, ↓f_e_iinc, ↓f_e_iadd, ↓f_e_isub, ↓f_e_imul, ↓f_e_iand, ↓f_e_ior, ↓f_e_ixor, ↓f_e_idiv, ↓f_e_irem, ↓f_e_ishl, ↓f_e_ishr, ↓f_e_iushr, ↓f_e_i2c, ↓f_e_dup, ↓f_e_dup2, ↓f_e_pop, ↓f_e_goto, ↓f_e_ifCond, ↓f_e_if_icmp, ↓f_e_tableswitch, ↓f_e_lookupswitch, ↓f_e_getfield_i, ↓f_e_getfield_r, ↓f_e_putfield_i, ↓f_e_putfield_z, ↓f_e_iaload, ↓f_e_caload, ↓f_e_aaload, ↓f_e_iastore, ↓f_e_castore, ↓f_e_arraylength, ↓f_e_invokestatic, ↓f_e_invokevirtual, ↓f_e_ireturn, ↓f_e_return_, ↓f_s_i_c, ↓f_s_r_c, ↓f_s_v_i, ↓f_s_v_r, ↓f_s_l_0, ↓s_l_1, ↓s_l_2, ↓s_l_3, ↓s_l_4, ↓s_l_5, ↓s_l_6, ↓s_a_0, ↓s_a_1, ↓s_a_2, ↓s_a_3, ↓s_m_0, ↓f_s_m_i, ↓f_s_m_r, ↓f_s_m_i7, ↓f_s_m_r7, ↓f_s_m_i6, ↓f_s_m_r6, ↓f_s_m_i5, ↓f_s_m_r5, ↓f_s_m_i4, ↓f_s_m_r4, ↓f_s_w_n, ↓f_s_w_c, ↓f_s_p_eq, ↓f_s_p_ne, ↓f_s_p_lt, ↓f_s_p_ge, ↓f_s_p_gt, ↓f_s_p_le, ↓nk_i, ↓nk_z, ↓nk_c, ↓rf_s, ↓ov_s, ↓ov_n, ↓fin0, ↓fin1, ↓fin2, ↓fin3, cond_true, cond_false, List.set_cons_zero, List.set_cons_succ, List.length_cons, List.length_nil, true_and, and_true, true_or, or_true, implies_true, forall_const, not_true_eq_false, not_false_eq_true, false_implies, Nat.reduceAdd, Nat.reduceLT, Nat.reduceBEq, Nat.reduceEqDiff, Bool.or_false, Bool.false_or, Bool.or_true, Bool.true_or, beq_self_eq_true, Nat.reduceLeDiff, Nat.reduceMul, Nat.reduceSub, eq_self, Nat.reduceBneDiff, st0_s, st1_s, st2_s, st3_s, reduceCtorEq, cc_0, tl_0, cl_0, il_0, tl_1, cl_1, il_1, tl_2, cl_2, il_2, tl_3, cl_3, il_3, tl_4, cl_4, il_4, tl_5, cl_5, il_5, tl_6, cl_6, il_6, tl_7, cl_7, il_7, tl_8, cl_8, il_8, tl_9, cl_9, il_9, tl_10, cl_10, il_10, tl_11, cl_11, il_11, tl_12, cl_12, il_12, tl_13, cl_13, il_13, tl_14, cl_14, il_14, tl_15, cl_15, il_15, tl_16, cl_16, il_16, tl_20, tl_21, tl_25, tl_32, tl_48, tl_50, tl_57, tl_58, tl_59, tl_60, tl_99, tl_100, tl_101, tl_108, tl_109, tl_116, tl_120, tl_126, tl_374, tl_1122, tl_50000, i10, i01, tl_m1, tl_m2, tl_m3, tl_m4, nr_X0_tellNode, tX0_tellNode_0, tX0_tellNode_1, tX0_tellNode_2, tX0_tellNode_5, tX0_tellNode_8, tX0_tellNode_9, tX0_tellNode_10, tX0_tellNode_11, tX0_tellNode_14, tX0_tellNode_15, tX0_tellNode_16, tX0_tellNode_17, tX0_tellNode_18, tX0_tellNode_56, tX0_tellNode_57, tX0_tellNode_60, tX0_tellNode_61, tX0_tellNode_64, tX0_tellNode_66, tX0_tellNode_69, tX0_tellNode_70, tX0_tellNode_73, tX0_tellNode_74, tX0_tellNode_75, tX0_tellNode_78, tX0_tellNode_81, tX0_tellNode_82, tX0_tellNode_83, tX0_tellNode_86, tX0_tellNode_89, tX0_tellNode_90, tX0_tellNode_91, tX0_tellNode_94, tX0_tellNode_95, tX0_tellNode_96, tX0_tellNode_97, tX0_tellNode_98, tX0_tellNode_99, tX0_tellNode_100, tX0_tellNode_101, tX0_tellNode_104, tX0_tellNode_107, tX0_tellNode_108, tX0_tellNode_109, tX0_tellNode_110, tX0_tellNode_113, tX0_tellNode_114, tX0_tellNode_117, tX0_tellNode_118, tX0_tellNode_119, tX0_tellNode_120, pw_QK_s, b0, ↓w_hasNode]
      exact ⟨rF, fun q => absurd q hx, fun _ => hB⟩
  · exact h.elim
/-- what tellNumber tells -/
def numS (S : Nat → Int32) (x : Int32) : Int32 :=
  if x = 0 then S 3 else if x = 1 then S 4 else if x = 2 then S 0 else if x = 3 then sumF (fun k => S (166 + 13 * k + 6)) (vN S 4) else if x = 4 then sumF (fun k => S (166 + 13 * k + 7)) (vN S 4)
  else if x = 5 then bitsS (setF (fun k => S (166 + 13 * k + 3) == 1) (vN S 4) &&& setF (fun k => S (166 + 13 * k + 2) == 0) (vN S 4)) else if x = 6 then sumF (fun k => if S (166 + 13 * k + 2) = 0 then S (166 + 13 * k + 8) else 0) (vN S 4)
  else if x = 7 then sumF (fun k => if S (166 + 13 * k + 2) = 1 then S (166 + 13 * k + 8) else 0) (vN S 4) else if x = 8 then S 1 else if x = 9 then S 2 else if x = 10 then S 9 else -1
def w_tellNumber (b : Nat) (S : Nat → Int32) : pw_Wp := fun Ag I K => match Ag with
  | [.ref o, .int x] => o = b ∧ InvB S ∧ RelB I b S ∧ K (some (.int (numS S x))) I
  | _ => False
set_option maxRecDepth 100000 in
set_option maxHeartbeats 4000000 in
theorem x_tellNumber (hM : pw_brd sh P b) (h : w_tellNumber b S Ag I K) : pw_ok mX0_tellNumber 2 base n sh P Ag I K := by
  unfold w_tellNumber at h
  split at h
  · rename_i o x
    obtain ⟨rfl, hI, hR, hA⟩ := h
    have b0 := hM.1
    obtain ⟨⟨f1, f2, f3, f4, f5, f6, f7⟩, -⟩ := id hR
    have h4 := hI.2.1.2
    refine pw_bd [_, _] pl_X0 c_ri rfl rfl ?_
    refine pw_go okX0_tellNumber (cc [(36, (w_allEdges o S)), (37, (w_allLost o S)), (23, (w_litSet o S)), (29, (w_edgeLineSet o S)), (156, w_bitC), (38, (w_allTaken o S))]) ⟨Nat.le_refl _, Nat.le_refl _⟩ (cc_c (fun Ag I K h => ⟨0, Nat.le_of_ble_eq_true rfl, x_allEdges hM h⟩) (cc_c (fun Ag I K h => ⟨0, Nat.le_of_ble_eq_true rfl, x_allLost hM h⟩) (cc_c (fun Ag I K h => ⟨1, Nat.le_of_ble_eq_true rfl, x_litSet hM h⟩) (cc_c (fun Ag I K h => ⟨1, Nat.le_of_ble_eq_true rfl, x_edgeLineSet hM h⟩) (cc_c (fun Ag I K h => ⟨0, Nat.le_of_ble_eq_true rfl, x_bitC h⟩) (cc_c (fun Ag I K h => ⟨0, Nat.le_of_ble_eq_true rfl, x_allTaken hM h⟩) cc_n)))))) (st0) 90 ?_
    simp only [↓f_vc_s, ↓vk_i, ↓cc_i, ↓reduceIte, f_vq_s, Bool.false_eq_true, ↓f_e_iconst, ↓f_e_bipush, ↓f_e_sipush, ↓f_e_ldc, ↓f_e_ldc_w, ↓f_e_iload_n, ↓f_e_iload, ↓f_e_aload_n, ↓f_e_aload, ↓f_e_istore_n, ↓f_e_istore, ↓f_e_astore_n, ↓f_e_astore, ↓f_e_iinc, ↓f_e_iadd, ↓f_e_isub, ↓f_e_imul, ↓f_e_iand, ↓f_e_ior, ↓f_e_ixor, ↓f_e_idiv, ↓f_e_irem, ↓f_e_ishl, ↓f_e_ishr, ↓f_e_iushr, ↓f_e_i2c, ↓f_e_dup, ↓f_e_dup2, ↓f_e_pop, ↓f_e_goto, ↓f_e_ifCond, ↓f_e_if_icmp, ↓f_e_tableswitch, ↓f_e_lookupswitch, ↓f_e_getfield_i, ↓f_e_getfield_r, ↓f_e_putfield_i, ↓f_e_putfield_z, ↓f_e_iaload, ↓f_e_caload, ↓f_e_aaload, ↓f_e_iastore, ↓f_e_castore, ↓f_e_arraylength, ↓f_e_invokestatic, ↓f_e_invokevirtual, ↓f_e_ireturn, ↓f_e_return_, ↓f_s_i_c, ↓f_s_r_c, ↓f_s_v_i, ↓f_s_v_r, ↓f_s_l_0, ↓s_l_1, ↓s_l_2, ↓s_l_3, ↓s_l_4, ↓s_l_5, ↓s_l_6, ↓s_a_0, ↓s_a_1, ↓s_a_2, ↓s_a_3, ↓s_m_0, ↓f_s_m_i, ↓f_s_m_r, ↓f_s_m_i7, ↓f_s_m_r7, ↓f_s_m_i6, ↓f_s_m_r6, ↓f_s_m_i5, ↓f_s_m_r5, ↓f_s_m_i4, ↓f_s_m_r4, ↓f_s_w_n, ↓f_s_w_c, ↓f_s_p_eq, ↓f_s_p_ne, ↓f_s_p_lt, ↓f_s_p_ge, ↓f_s_p_gt, ↓f_s_p_le, ↓nk_i, ↓nk_z, ↓nk_c, ↓rf_s, ↓ov_s, ↓ov_n, ↓fin0, ↓fin1, ↓fin2, ↓fin3, cond_true, cond_false, List.set_cons_zero, List.set_cons_succ, List.length_cons, List.length_nil, true_and, and_true, true_or, or_true, implies_true, forall_const, not_true_eq_false, not_false_eq_true, false_implies, Nat.reduceAdd, Nat.reduceLT, Nat.reduceBEq, Nat.reduceEqDiff, Bool.or_false, Bool.false_or, Bool.or_true, Bool.true_or, beq_self_eq_true, Nat.reduceLeDiff, Nat.reduceMul, Nat.reduceSub, eq_self, Nat.reduceBneDiff, st0_s, st1_s, st2_s, st3_s, reduceCtorEq, cc_0, tl_0, cl_0, il_0, tl_1, cl_1, il_1, tl_2, cl_2, il_2, tl_3, cl_3, il_3, tl_4, cl_4, il_4, tl_5, cl_5, il_5, tl_6, cl_6, il_6, tl_7, cl_7, il_7, tl_8, cl_8, il_8, tl_9, cl_9, il_9, tl_10, cl_10, il_10, tl_11, cl_11, il_11, tl_12, cl_12, il_12, tl_13, cl_13, il_13, tl_14, cl_14, il_14, tl_15, cl_15, il_15, tl_16, cl_16, il_16, tl_20, tl_21, tl_25, tl_32, tl_48, tl_50, tl_57, tl_58, tl_59, tl_60, tl_99, tl_100, tl_101, tl_108, tl_109, tl_116, tl_120, tl_126, tl_374, tl_1122, tl_50000, i10, i01, tl_m1, tl_m2, tl_m3, tl_m4, nr_X0_tellNumber, tX0_tellNumber_0, tX0_tellNumber_1, tX0_tellNumber_60, tX0_tellNumber_61, tX0_tellNumber_64, tX0_tellNumber_65, tX0_tellNumber_66, tX0_tellNumber_69, tX0_tellNumber_70, tX0_tellNumber_71, tX0_tellNumber_74, tX0_tellNumber_75, tX0_tellNumber_76, tX0_tellNumber_79, tX0_tellNumber_80, tX0_tellNumber_81, tX0_tellNumber_84, tX0_tellNumber_85, tX0_tellNumber_86, tX0_tellNumber_89, tX0_tellNumber_90, tX0_tellNumber_93, tX0_tellNumber_94, tX0_tellNumber_97, tX0_tellNumber_98, tX0_tellNumber_99, tX0_tellNumber_100, tX0_tellNumber_103, tX0_tellNumber_104, tX0_tellNumber_105, tX0_tellNumber_106, tX0_tellNumber_109, tX0_tellNumber_110, tX0_tellNumber_111, tX0_tellNumber_114, tX0_tellNumber_115, tX0_tellNumber_116, tX0_tellNumber_119, tX0_tellNumber_120, tX0_tellNumber_121, tX0_tellNumber_124, tX0_tellNumber_125, tX0_tellNumber_126, pw_QK_s, b0, f1, f2, f4, f5, f6, f7, ↓w_allEdges, ↓w_allLost, ↓w_litSet, ↓w_edgeLineSet, ↓w_bitC, ↓w_allTaken]
    have e : ∀ c : Int32, x = c → K (some (.int (numS S c))) I := fun c q => by
      subst q; exact hA
    refine ⟨e 0, fun n0 => ⟨e 1, fun n1 => ⟨e 2, fun n2 => ⟨fun q => ⟨hI, hR, e 3 q⟩, fun n3 => ⟨fun q => ⟨hI, hR, e 4 q⟩, fun n4 => ⟨fun q => ⟨hI, hR, hI, hR, ?_⟩, fun n5 => ⟨fun q => ⟨hI, hR, e 6 q⟩, fun n6 => ⟨fun q => ⟨hI, hR, e 7 q⟩, fun n7 => ⟨e 8, fun n8 => ⟨e 9, fun n9 => ⟨e 10, fun n10 => ?_⟩⟩⟩⟩⟩⟩⟩⟩⟩⟩⟩
    · have := e 5 q
      rw [bc_bv (and_16 (setF_16 h4))]
      exact this
    · unfold numS at hA
      rw [if_neg n0, if_neg n1, if_neg n2, if_neg n3, if_neg n4, if_neg n5, if_neg n6, if_neg n7, if_neg n8, if_neg n9, if_neg n10] at hA
      exact hA
  · exact h.elim
end NODE
