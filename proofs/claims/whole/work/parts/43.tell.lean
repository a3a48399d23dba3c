/-! the class's board: what is told -/
section TELL
variable {n base b : Nat} {sh : pw_Sh} {P : pw_P} {Ag : List Value} {I : pw_I} {S : Nat → Int32} {K : Option Value → pw_I → Prop}
theorem bit_v {x : Int32} (h : bit01 x) (q : ¬ x = 0) : x = 1 := h.resolve_left q
def w_tellLine (b : Nat) (S : Nat → Int32) : pw_Wp := fun Ag I K => match Ag with
  | [.ref o, .int x, .int w] => o = b ∧ InvB S ∧ RelB I b S ∧ (¬ (okLine S x ∧ 0 ≤ w.toInt ∧ w.toInt ≤ 11) → K (some (.int (-1))) I) ∧ (okLine S x ∧ 0 ≤ w.toInt ∧ w.toInt ≤ 11 → K (some (.int (lineOfS S x.toNatClampNeg w))) I)
  | _ => False
set_option maxRecDepth 100000 in
set_option maxHeartbeats 4000000 in
theorem x_tellLine (hM : pw_brd sh P b) (h : w_tellLine b S Ag I K) : pw_ok mX0_tellLine 2 base n sh P Ag I K := by
  unfold w_tellLine at h
  split at h
  · rename_i o x w
    obtain ⟨rfl, hI, hR, hB, hA⟩ := h
    obtain ⟨b0, ⟨b1, b2⟩, bN, ⟨b3, b4⟩, bL, -⟩ := id hM
    obtain ⟨rF, rN, rL, -⟩ := id hR
    have h4 := hI.2.1
    have l4 : (S 4).toInt = (vN S 4 : Int) := (congrArg Int32.toInt h4.1).trans (ti_nI (by omega))
    refine pw_bd [_, _, _, _] pl_X0 c_rii rfl rfl ?_
    by_cases hx : okLine S x
    · obtain ⟨k, rfl, hk⟩ := tn16 (x := x) ⟨hx.1, by have := hx.2; omega⟩
      have ck : (nI k).toNatClampNeg = k := cl_nI (by omega)
      have hk4 : k < vN S 4 := by have := hx.2; rw [ti_nI (by omega), l4] at this; omega
      obtain ⟨l1, l2⟩ := bL k hk
      have r := rL k hk
      have hb := hI.2.2.2.2.2.1 k hk
      rw [ck] at hA
      have hA := fun (z : 0 ≤ w.toInt ∧ w.toInt ≤ 11) => hA ⟨hx, z⟩
      have hB := fun (z : ¬ (0 ≤ w.toInt ∧ w.toInt ≤ 11)) => hB (fun y => z y.2)
      refine pw_go okX0_tellLine (cc [(3, (w_hasLine o S)), (92, w_asBit), (20, (w_lowestRank o S)), (21, (w_isReady0 o S))]) ⟨Nat.le_refl _, Nat.le_refl _⟩ (cc_c (fun Ag I K h => ⟨0, Nat.le_of_ble_eq_true rfl, x_hasLine hM h⟩) (cc_c (fun Ag I K h => ⟨0, Nat.le_of_ble_eq_true rfl, x_asBit h⟩) (cc_c (fun Ag I K h => ⟨1, Nat.le_of_ble_eq_true rfl, x_lowestRank hM h⟩) (cc_c (fun Ag I K h => ⟨1, Nat.le_of_ble_eq_true rfl, x_isReady0 hM h⟩) cc_n)))) (st0) 90 ?_
      simp only [↓f_vc_s, ↓vk_i, ↓cc_i, ↓reduceIte, f_vq_s, Bool.false_eq_true, ↓f_e_iconst, ↓f_e_bipush, ↓f_e_sipush, ↓f_e_ldc, ↓f_e_ldc_w, ↓f_e_iload_n, ↓f_e_iload, ↓f_e_aload_n, ↓f_e_aload, ↓f_e_istore_n, ↓f_e_istore, ↓f_e_astore_n, ↓f_e_astore, ↓f_e_iinc, ↓f_e_iadd, ↓f_e_isub, ↓f_e_imul, ↓f_e_iand, ↓f_e_ior, ↓f_e_ixor, ↓f_e_idiv, ↓f_e_irem, ↓f_e_ishl, ↓f_e_ishr, ↓f_e_iushr, ↓f_e_i2c, ↓f_e_dup, ↓f_e_dup2, ↓f_e_pop, ↓f_e_goto, ↓f_e_ifCond, ↓f_e_if_icmp, ↓f_e_tableswitch, ↓f_e_lookupswitch, ↓f_e_getfield_i, ↓f_e_getfield_r, ↓f_e_putfield_i, ↓f_e_putfield_z, ↓f_e_iaload, ↓f_e_caload, ↓f_e_aaload, ↓f_e_iastore, ↓f_e_castore, ↓f_e_arraylength, ↓f_e_invokestatic, ↓f_e_invokevirtual, ↓f_e_ireturn, ↓f_e_return_, ↓f_s_i_c, ↓f_s_r_c, ↓f_s_v_i, ↓f_s_v_r, ↓f_s_l_0, ↓s_l_1, ↓s_l_2, ↓s_l_3, ↓s_l_4, ↓s_l_5, ↓s_l_6, ↓s_a_0, ↓s_a_1, ↓s_a_2, ↓s_a_3, ↓s_m_0, ↓f_s_m_i, ↓f_s_m_r, ↓f_s_m_i7, ↓f_s_m_r7, ↓f_s_m_i6, ↓f_s_m_r6, ↓f_s_m_i5, ↓f_s_m_r5, ↓f_s_m_i4, ↓f_s_m_r4, ↓f_s_w_n, ↓f_s_w_c, ↓f_s_p_eq, ↓f_s_p_ne, ↓f_s_p_lt, ↓f_s_p_ge, ↓f_s_p_gt, ↓f_s_p_le, ↓nk_i, ↓nk_z, ↓nk_c, ↓rf_s, ↓ov_s, ↓ov_n, ↓fin0, ↓fin1, ↓fin2, ↓fin3, cond_true, cond_false, List.set_cons_zero, List.set_cons_succ, List.length_cons, List.length_nil, true_and, and_true, true_or, or_true, implies_true, forall_const, not_true_eq_false, not_false_eq_true, false_implies, Nat.reduceAdd, Nat.reduceLT, Nat.reduceBEq, Nat.reduceEqDiff, Bool.or_false, Bool.false_or, Bool.or_true, Bool.true_or, beq_self_eq_true, Nat.reduceLeDiff, Nat.reduceMul, Nat.reduceSub, eq_self, Nat.reduceBneDiff, st0_s, st1_s, st2_s, st3_s, reduceCtorEq, cc_0, tl_0, cl_0, il_0, tl_1, cl_1, il_1, tl_2, cl_2, il_2, tl_3, cl_3, il_3, tl_4, cl_4, il_4, tl_5, cl_5, il_5, tl_6, cl_6, il_6, tl_7, cl_7, il_7, tl_8, cl_8, il_8, tl_9, cl_9, il_9, tl_10, cl_10, il_10, tl_11, cl_11, il_11, tl_12, cl_12, il_12, tl_13, cl_13, il_13, tl_14, cl_14, il_14, tl_15, cl_15, il_15, tl_16, cl_16, il_16, tl_20, tl_21, tl_25, tl_32, tl_48, tl_50, tl_57, tl_58, tl_59, tl_60, tl_99, tl_100, tl_101, tl_108, tl_109, tl_116, tl_120, tl_126, tl_374, tl_1122, tl_50000, i10, i01, tl_m1, tl_m2, tl_m3, tl_m4, nr_X0_tellLine, tX0_tellLine_0, tX0_tellLine_1, tX0_tellLine_2, tX0_tellLine_5, tX0_tellLine_8, tX0_tellLine_9, tX0_tellLine_10, tX0_tellLine_11, tX0_tellLine_14, tX0_tellLine_15, tX0_tellLine_16, tX0_tellLine_17, tX0_tellLine_18, tX0_tellLine_80, tX0_tellLine_81, tX0_tellLine_84, tX0_tellLine_85, tX0_tellLine_86, tX0_tellLine_89, tX0_tellLine_90, tX0_tellLine_91, tX0_tellLine_94, tX0_tellLine_97, tX0_tellLine_98, tX0_tellLine_99, tX0_tellLine_102, tX0_tellLine_105, tX0_tellLine_106, tX0_tellLine_107, tX0_tellLine_110, tX0_tellLine_111, tX0_tellLine_112, tX0_tellLine_115, tX0_tellLine_118, tX0_tellLine_119, tX0_tellLine_120, tX0_tellLine_121, tX0_tellLine_122, tX0_tellLine_125, tX0_tellLine_128, tX0_tellLine_131, tX0_tellLine_132, tX0_tellLine_133, tX0_tellLine_136, tX0_tellLine_137, tX0_tellLine_138, tX0_tellLine_141, tX0_tellLine_142, tX0_tellLine_143, tX0_tellLine_146, tX0_tellLine_147, tX0_tellLine_148, tX0_tellLine_151, tX0_tellLine_154, tX0_tellLine_155, tX0_tellLine_158, tX0_tellLine_161, tX0_tellLine_163, tX0_tellLine_166, tX0_tellLine_167, tX0_tellLine_170, tX0_tellLine_171, tX0_tellLine_172, tX0_tellLine_175, tX0_tellLine_176, tX0_tellLine_179, tX0_tellLine_180, tX0_tellLine_183, tX0_tellLine_184, tX0_tellLine_187, tX0_tellLine_188, tX0_tellLine_191, tX0_tellLine_193, tX0_tellLine_194, tX0_tellLine_195, pw_QK_s, b0, b3, b4, ck, l1, l2, r.1, r.2.1, r.2.2.1, r.2.2.2.1, r.2.2.2.2.1, r.2.2.2.2.2.1, r.2.2.2.2.2.2.1, r.2.2.2.2.2.2.2.1, r.2.2.2.2.2.2.2.2.1, r.2.2.2.2.2.2.2.2.2.1, r.2.2.2.2.2.2.2.2.2.2.1, r.2.2.2.2.2.2.2.2.2.2.2, rF.2.2.2.1, ↓w_hasLine, ↓w_asBit, ↓w_lowestRank, ↓w_isReady0, rF.2.1]
      have e : ∀ c : Int32, (0 ≤ c.toInt ∧ c.toInt ≤ 11) → w = c → K (some (.int (lineOfS S k c))) I := fun c hc q => by
        subst q; exact hA hc
      have t01 : ∀ (c v : Int32), (0 ≤ c.toInt ∧ c.toInt ≤ 11) → w = c → lineOfS S k c = v → bit01 v → (v = 0 → K (some (.int 0)) I) ∧ (¬ v = 0 → K (some (.int 1)) I) := fun c v hc q hv hb => by
        have := e c hc q
        rw [hv] at this
        exact ⟨fun z => by rw [z] at this; exact this, fun z => by rw [hb.resolve_left z] at this; exact this⟩
      refine ⟨fun _ => ⟨in_nI hk (by omega), e 0 (by decide), fun n0 => ⟨e 1 (by decide), fun n1 => ⟨fun q => t01 2 _ (by decide) q rfl hb.2.2.1, fun n2 => ⟨fun q => t01 3 _ (by decide) q rfl hb.2.2.2.1, fun n3 => ⟨e 4 (by decide), fun n4 => ⟨fun q => t01 5 _ (by decide) q rfl hb.2.2.2.2.2, fun n5 => ⟨fun q => ⟨hI, hR, hI, hR, k, rfl, hk4, ?_⟩, fun n6 => ⟨e 7 (by decide), fun n7 => ⟨e 8 (by decide), fun n8 => ⟨e 9 (by decide), fun n9 => ⟨fun q => ?_, fun n10 => ⟨fun q => ?_, fun n11 => hB ?_⟩⟩⟩⟩⟩⟩⟩⟩⟩⟩⟩⟩, fun q => absurd hx q⟩
      · have := e 6 (by decide) q
        rw [lo6] at this
        rw [show (if leastS S + 1 ≤ S 1 then S 1 else leastS S + 1) = lowS S from rfl, low_ready hI]
        exact ⟨fun z => by rw [if_pos z] at this; exact this, fun z => by rw [if_neg (by rw [z]; decide)] at this; exact this⟩
      · have := e 10 (by decide) q
        rw [lo10] at this
        refine ⟨fun z => ?_, fun z => ⟨fun z2 => ?_, fun z2 => ?_⟩⟩
        · rw [if_pos (Or.inl (bit_v hb.2.2.1 z))] at this; exact this
        · rw [if_neg (fun y => y.elim (fun y => by rw [z] at y; exact absurd y (by decide)) z2)] at this; exact this
        · rw [if_pos (Or.inr z2)] at this; exact this
      · have := e 11 (by decide) q
        rw [lo11] at this
        exact ⟨fun z => by rw [if_neg z] at this; exact this, fun z => by rw [if_pos z] at this; exact this⟩
      · rintro ⟨z1, z2⟩
        obtain ⟨v, rfl, hv⟩ := tn99 (x := w) ⟨z1, by omega⟩
        rw [ti_nI (by omega)] at z2
        have : v = 0 ∨ v = 1 ∨ v = 2 ∨ v = 3 ∨ v = 4 ∨ v = 5 ∨ v = 6 ∨ v = 7 ∨ v = 8 ∨ v = 9 ∨ v = 10 ∨ v = 11 := by omega
        rcases this with rfl | rfl | rfl | rfl | rfl | rfl | rfl | rfl | rfl | rfl | rfl | rfl
        · exact n0 rfl
        · exact n1 rfl
        · exact n2 rfl
        · exact n3 rfl
        · exact n4 rfl
        · exact n5 rfl
        · exact n6 rfl
        · exact n7 rfl
        · exact n8 rfl
        · exact n9 rfl
        · exact n10 rfl
        · exact n11 rfl
    · have hB := hB (fun y => hx y.1)
      refine pw_go okX0_tellLine (cc [(3, (w_hasLine o S))]) ⟨Nat.le_refl _, Nat.le_refl _⟩ (cc_c (fun Ag I K h => ⟨0, Nat.le_of_ble_eq_true rfl, x_hasLine hM h⟩) cc_n) (st1 10) 90 ?_
      simp only [↓f_vc_s, ↓vk_i, ↓cc_i, ↓reduceIte, f_vq_s, Bool.false_eq_true, ↓f_e_iconst, ↓f_e_bipush, ↓f_e_sipush, ↓f_e_ldc, ↓f_e_ldc_w, ↓f_e_iload_n, ↓f_e_iload, ↓f_e_aload_n, ↓f_e_aload, ↓f_e_istore_n, ↓f_e_istore, ↓f_e_astore_n, ↓f_e_astore, ↓f_e_iinc, ↓f_e_iadd, ↓f_e_isub, ↓f_e_imul, ↓f_e_iand, ↓f_e_ior, ↓f_e_ixor, ↓f_e_idiv, ↓f_e_irem, ↓f_e_ishl, ↓f_e_ishr, ↓f_e_iushr, ↓f_e_i2c, ↓f_e_dup, ↓f_e_dup2, ↓f_e_pop, ↓f_e_goto, ↓f_e_ifCond, ↓f_e_if_icmp, ↓f_e_tableswitch, ↓f_e_lookupswitch, ↓f_e_getfield_i, ↓f_e_getfield_r, ↓f_e_putfield_i, ↓f_e_putfield_z, ↓f_e_iaload, ↓f_e_caload, ↓f_e_aaload, ↓f_e_iastore, ↓f_e_castore, ↓f_e_arraylength, ↓f_e_invokestatic, ↓f_e_invokevirtual, ↓f_e_ireturn, ↓f_e_return_, ↓f_s_i_c, ↓f_s_r_c, ↓f_s_v_i, ↓f_s_v_r, ↓f_s_l_0, ↓s_l_1, ↓s_l_2, ↓s_l_3, ↓s_l_4, ↓s_l_5, ↓s_l_6, ↓s_a_0, ↓s_a_1, ↓s_a_2, ↓s_a_3, ↓s_m_0, ↓f_s_m_i, ↓f_s_m_r, ↓f_s_m_i7, ↓f_s_m_r7, ↓f_s_m_i6, ↓f_s_m_r6, ↓f_s_m_i5, ↓f_s_m_r5, ↓f_s_m_i4, ↓f_s_m_r4, ↓f_s_w_n, ↓f_s_w_c, ↓f_s_p_eq, ↓f_s_p_ne, ↓f_s_p_lt, ↓f_s_p_ge, ↓f_s_p_gt, ↓f_s_p_le, ↓nk_i, ↓nk_z, ↓nk_c, ↓rf_s, ↓ov_s, ↓ov_n, ↓fin0, ↓fin1, ↓fin2, ↓fin3, cond_true, cond_false, List.set_cons_zero, List.set_cons_succ, List.length_cons, List.length_nil, true_and, and_true, true_or, or_true, implies_true, forall_const, not_true_eq_false, not_false_eq_true, false_implies, Nat.reduceAdd, Nat.reduceLT, Nat.reduceBEq, Nat.reduceEqDiff, Bool.or_false, Bool.false_or, Bool.or_true, Bool.true_or, beq_self_eq_true, Nat.reduceLeDiff, Nat.reduceMul, Nat.reduceSub, eq_self, Nat.reduceBneDiff, st0_s, st1_s, st2_s, st3_s, reduceCtorEq, cc_0, tl_0, cl_0, il_0, tl_1, cl_1, il_1, tl_2, cl_2, il_2, tl_3, cl_3, il_3, tl_4, cl_4, il_4, tl_5, cl_5, il_5, tl_6, cl_6, il_6, tl_7, cl_7, il_7, tl_8, cl_8, il_8, tl_9, cl_9, il_9, tl_10, cl_10, il_10, tl_11, cl_11, il_11, tl_12, cl_12, il_12, tl_13, cl_13, il_13, tl_14, cl_14, il_14, tl_15, cl_15, il_15, tl_16, cl_16, il_16, tl_20, tl_21, tl_25, tl_32, tl_48, tl_50, tl_57, tl_58, tl_59, tl_60, tl_99, tl_100, tl_101, tl_108, tl_109, tl_116, tl_120, tl_126, tl_374, tl_1122, tl_50000, i10, i01, tl_m1, tl_m2, tl_m3, tl_m4, nr_X0_tellLine, tX0_tellLine_0, tX0_tellLine_1, tX0_tellLine_2, tX0_tellLine_5, tX0_tellLine_8, tX0_tellLine_9, tX0_tellLine_10, tX0_tellLine_11, tX0_tellLine_14, tX0_tellLine_15, tX0_tellLine_16, tX0_tellLine_17, tX0_tellLine_18, tX0_tellLine_80, tX0_tellLine_81, tX0_tellLine_84, tX0_tellLine_85, tX0_tellLine_86, tX0_tellLine_89, tX0_tellLine_90, tX0_tellLine_91, tX0_tellLine_94, tX0_tellLine_97, tX0_tellLine_98, tX0_tellLine_99, tX0_tellLine_102, tX0_tellLine_105, tX0_tellLine_106, tX0_tellLine_107, tX0_tellLine_110, tX0_tellLine_111, tX0_tellLine_112, tX0_tellLine_115, tX0_tellLine_118, tX0_tellLine_119, tX0_tellLine_120, tX0_tellLine_121, tX0_tellLine_122, tX0_tellLine_125, tX0_tellLine_128, tX0_tellLine_131, tX0_tellLine_132, tX0_tellLine_133, tX0_tellLine_136, tX0_tellLine_137, tX0_tellLine_138, tX0_tellLine_141, tX0_tellLine_142, tX0_tellLine_143, tX0_tellLine_146, tX0_tellLine_147, tX0_tellLine_148, tX0_tellLine_151, tX0_tellLine_154, tX0_tellLine_155, tX0_tellLine_158, tX0_tellLine_161, tX0_tellLine_163, tX0_tellLine_166, tX0_tellLine_167, tX0_tellLine_170, tX0_tellLine_171, tX0_tellLine_172, tX0_tellLine_175, tX0_tellLine_176, tX0_tellLine_179, tX0_tellLine_180, tX0_tellLine_183, tX0_tellLine_184, tX0_tellLine_187, tX0_tellLine_188, tX0_tellLine_191, tX0_tellLine_193, tX0_tellLine_194, tX0_tellLine_195, pw_QK_s, b0, ↓w_hasLine, rF.2.1]
      exact ⟨fun q => absurd q hx, fun _ => hB⟩
  · exact h.elim
def w_tellService (b : Nat) (S : Nat → Int32) : pw_Wp := fun Ag I K => match Ag with
  | [.ref o, .int x] => o = b ∧ InvB S ∧ RelB I b S ∧ (x.toInt < 0 → K (some (.int (-1))) I) ∧ (0 ≤ x.toInt → ¬ x.toInt < (S 10).toInt → K (some (.int (-4))) I) ∧ (0 ≤ x.toInt → x.toInt < (S 10).toInt → K (some (.int (S (11 + (vN S 10 - 1 - x.toNatClampNeg))))) I)
  | _ => False
set_option maxRecDepth 100000 in
set_option maxHeartbeats 4000000 in
theorem x_tellService (hM : pw_brd sh P b) (h : w_tellService b S Ag I K) : pw_ok mX0_tellService 1 base n sh P Ag I K := by
  unfold w_tellService at h
  split at h
  · rename_i o x
    obtain ⟨rfl, hI, hR, hA, hB, hC⟩ := h
    obtain ⟨b0, ⟨b1, b2⟩, bN, ⟨b3, b4⟩, bL, ⟨b5, b6⟩, -⟩ := id hM
    obtain ⟨rF, rN, rL, ⟨rS1, rS2⟩, -⟩ := id hR
    have h10 := hI.2.2.1
    have hsv := hI.2.2.2.2.2.2.1
    have t10 : (S 10).toInt = (vN S 10 : Int) := (congrArg Int32.toInt h10.1).trans (ti_nI (by omega))
    refine pw_bd [_, _, _] pl_X0 c_ri rfl rfl ?_
    refine pw_go okX0_tellService (cc [(60, (w_get (o + 37) (o + 38)))]) ⟨Nat.le_refl _, Nat.le_refl _⟩ (cc_c (fun Ag I K h => ⟨0, Nat.le_of_ble_eq_true rfl, x_get b6 h⟩) cc_n) (st0) 60 ?_
    simp only [↓f_vc_s, ↓vk_i, ↓cc_i, ↓reduceIte, f_vq_s, Bool.false_eq_true, ↓f_e_iconst, ↓f_e_bipush, ↓f_e_sipush, ↓f_e_ldc, ↓f_e_ldc_w, ↓f_e_iload_n, ↓f_e_iload, ↓f_e_aload_n, ↓f_e_aload, ↓f_e_istore_n, ↓f_e_istore, ↓f_e_astore_n, ↓f_e_astore, ↓f_e_iinc, ↓f_e_iadd, ↓f_e_isub, ↓f_e_imul, ↓f_e_iand, ↓f_e_ior, ↓f_e_ixor, ↓f_e_idiv, ↓f_e_irem, ↓f_e_ishl, ↓f_e_ishr, ↓f_e_iushr, ↓f_e_i2c, ↓f_e_dup, ↓f_e_dup2, ↓f_e_pop, ↓f_e_goto, ↓f_e_ifCond, ↓f_e_if_icmp, ↓f_e_tableswitch, ↓f_e_lookupswitch, ↓f_e_getfield_i, ↓f_e_getfield_r, ↓f_e_putfield_i, ↓f_e_putfield_z, ↓f_e_iaload, ↓f_e_caload, ↓f_e_aaload, ↓f_e_iastore, ↓f_e_castore, ↓f_e_arraylength, ↓f_e_invokestatic, ↓f_e_invokevirtual, ↓f_e_ireturn, ↓f_e_return_, ↓f_s_i_c, ↓f_s_r_c, ↓f_s_v_i, ↓f_s_v_r, ↓f_s_l_0, ↓s_l_1, ↓s_l_2, ↓s_l_3, ↓s_l_4, ↓s_l_5, ↓s_l_6, ↓s_a_0, ↓s_a_1, ↓s_a_2, ↓s_a_3, ↓s_m_0, ↓f_s_m_i, ↓f_s_m_r, ↓f_s_m_i7, ↓f_s_m_r7, ↓f_s_m_i6, ↓f_s_m_r6, ↓f_s_m_i5, ↓f_s_m_r5, ↓f_s_m_i4, ↓f_s_m_r4, ↓f_s_w_n, ↓f_s_w_c, ↓f_s_p_eq, ↓f_s_p_ne, ↓f_s_p_lt, ↓f_s_p_ge, ↓f_s_p_gt, ↓f_s_p_le, ↓nk_i, ↓nk_z, ↓nk_c, ↓rf_s, ↓ov_s, ↓ov_n, ↓fin0, ↓fin1, ↓fin2, ↓fin3, cond_true, cond_false, List.set_cons_zero, List.set_cons_succ, List.length_cons, List.length_nil, true_and, and_true, true_or, or_true, implies_true, forall_const, not_true_eq_false, not_false_eq_true, false_implies, Nat.reduceAdd, Nat.reduceLT, Nat.reduceBEq, Nat.reduceEqDiff, Bool.or_false, Bool.false_or, Bool.or_true, Bool.true_or, beq_self_eq_true, Nat.reduceLeDiff, Nat.reduceMul, Nat.reduceSub, eq_self, Nat.reduceBneDiff, st0_s, st1_s, st2_s, st3_s, reduceCtorEq, cc_0, tl_0, cl_0, il_0, tl_1, cl_1, il_1, tl_2, cl_2, il_2, tl_3, cl_3, il_3, tl_4, cl_4, il_4, tl_5, cl_5, il_5, tl_6, cl_6, il_6, tl_7, cl_7, il_7, tl_8, cl_8, il_8, tl_9, cl_9, il_9, tl_10, cl_10, il_10, tl_11, cl_11, il_11, tl_12, cl_12, il_12, tl_13, cl_13, il_13, tl_14, cl_14, il_14, tl_15, cl_15, il_15, tl_16, cl_16, il_16, tl_20, tl_21, tl_25, tl_32, tl_48, tl_50, tl_57, tl_58, tl_59, tl_60, tl_99, tl_100, tl_101, tl_108, tl_109, tl_116, tl_120, tl_126, tl_374, tl_1122, tl_50000, i10, i01, tl_m1, tl_m2, tl_m3, tl_m4, nr_X0_tellService, tX0_tellService_0, tX0_tellService_1, tX0_tellService_4, tX0_tellService_5, tX0_tellService_6, tX0_tellService_7, tX0_tellService_10, tX0_tellService_11, tX0_tellService_14, tX0_tellService_17, tX0_tellService_18, tX0_tellService_19, tX0_tellService_20, tX0_tellService_21, tX0_tellService_24, tX0_tellService_25, tX0_tellService_26, tX0_tellService_27, tX0_tellService_30, tX0_tellService_32, tX0_tellService_35, tX0_tellService_36, pw_QK_s, b0, b5, b6.1, rS1, ↓w_get]
    simp only [ti_le, show (0 : Int32).toInt = 0 from rfl]
    refine ⟨fun q => ?_, fun q => hA (by omega)⟩
    have hx := int_range x
    have d1 : (S 10 - 1).toInt = (vN S 10 : Int) - 1 := by rw [ti_sub (y := 1) (by show _ ≤ _ - 1; omega) (by show _ - 1 < _; omega), t10]; rfl
    have d2 : (S 10 - 1 - x).toInt = (vN S 10 : Int) - 1 - x.toInt := by rw [ti_sub (by omega) (by omega), d1]
    rw [d2, t10]
    refine ⟨by omega, fun q2 => ?_, fun q2 => hB q (by omega)⟩
    obtain ⟨i, rfl, hi⟩ := tn6 (x := x) (by omega)
    rw [ti_nI (by omega)] at q2 d2 hB hC
    rw [t10, cl_nI (by omega)] at hC
    have ei : S 10 - 1 - nI i = nI (vN S 10 - 1 - i) := Int32.toInt_inj.mp (by rw [d2, ti_nI (by omega)]; omega)
    have hs := hsv (vN S 10 - 1 - i) (by omega)
    have h4 := hI.2.1
    have hC := hC (by omega) (by omega)
    rw [ei, cl_nI (by omega), rS2 _ (by omega)]
    refine ⟨fun _ => hC, fun z => ?_⟩
    rw [hs.1] at z
    have := congrArg Int32.toInt z
    rw [ti_nI (by omega)] at this
    exact absurd this (by show ¬ _ = (-1 : Int); omega)
  · exact h.elim
def w_tellInput (b : Nat) (S : Nat → Int32) : pw_Wp := fun Ag I K => match Ag with
  | [.ref o, .int x, .int i] => o = b ∧ InvB S ∧ InvT S ∧ RelB I b S ∧ (¬ (okNode S x ∧ 0 ≤ i.toInt) → K (some (.int (-1))) I) ∧ (okNode S x ∧ 0 ≤ i.toInt → ¬ i.toInt < (S (16 + 25 * x.toNatClampNeg + 3)).toInt → K (some (.int (-4))) I) ∧
    (okNode S x ∧ 0 ≤ i.toInt → i.toInt < (S (16 + 25 * x.toNatClampNeg + 3)).toInt → K (some (.int (S (16 + 25 * x.toNatClampNeg + 4 + i.toNatClampNeg)))) I)
  | _ => False
set_option maxRecDepth 100000 in
set_option maxHeartbeats 4000000 in
theorem x_tellInput (hM : pw_brd sh P b) (h : w_tellInput b S Ag I K) : pw_ok mX0_tellInput 1 base n sh P Ag I K := by
  unfold w_tellInput at h
  split at h
  · rename_i o x i
    obtain ⟨rfl, hI, hT, hR, hA, hB, hC⟩ := h
    obtain ⟨b0, ⟨b1, b2⟩, bN, -⟩ := id hM
    obtain ⟨rF, rN, -⟩ := id hR
    refine pw_bd [_, _, _, _] pl_X0 c_rii rfl rfl ?_
    by_cases hx : okNode S x
    · have n3 := hI.n3
      obtain ⟨j, rfl, hj⟩ := tn6 (x := x) ⟨hx.1, by have := hx.2; omega⟩
      have hj3 : j < vN S 3 := by
        have := hx.2
        rw [ti_nI (by omega), congrArg Int32.toInt hI.1.1, ti_nI (by have := hI.1.2; omega)] at this
        omega
      have cj : (nI j).toNatClampNeg = j := cl_nI (by omega)
      rw [cj] at hB hC
      obtain ⟨⟨n1, n2⟩, n4, n5⟩ := bN j hj
      obtain ⟨-, -, -, r4, r5⟩ := rN j hj
      have hc := (hI.2.2.2.1 j hj).2.2
      have hc2 : cntS S j ≤ 21 := hc.2
      have tc : (S (16 + 25 * j + 3)).toInt = (cntS S j : Int) := (congrArg Int32.toInt hc.1).trans (ti_nI (by omega))
      refine pw_go okX0_tellInput (cc [(2, (w_hasNode o S)), (60, (w_get (o + 3 + 3 * j) (o + 4 + 3 * j)))]) ⟨Nat.le_refl _, Nat.le_refl _⟩ (cc_c (fun Ag I K h => ⟨0, Nat.le_of_ble_eq_true rfl, x_hasNode hM h⟩) (cc_c (fun Ag I K h => ⟨0, Nat.le_of_ble_eq_true rfl, x_get n5 h⟩) cc_n)) (st0) 60 ?_
      simp only [↓f_vc_s, ↓vk_i, ↓cc_i, ↓reduceIte, f_vq_s, Bool.false_eq_true, ↓f_e_iconst, ↓f_e_bipush, ↓f_e_sipush, ↓f_e_ldc, ↓f_e_ldc_w, ↓f_e_iload_n, ↓f_e_iload, ↓f_e_aload_n, ↓f_e_aload, ↓f_e_istore_n, ↓f_e_istore, ↓f_e_astore_n, ↓f_e_astore, ↓f_e_iinc, ↓f_e_iadd, ↓f_e_isub, ↓f_e_imul, ↓f_e_iand, ↓f_e_ior, ↓f_e_ixor, ↓f_e_idiv, ↓f_e_irem, ↓f_e_ishl, ↓f_e_ishr, ↓f_e_iushr, ↓f_e_i2c, ↓f_e_dup, ↓f_e_dup2, ↓f_e_pop, ↓f_e_goto, ↓f_e_ifCond, ↓f_e_if_icmp, ↓f_e_tableswitch, ↓f_e_lookupswitch, ↓f_e_getfield_i, ↓f_e_getfield_r, ↓f_e_putfield_i, ↓f_e_putfield_z, ↓f_e_iaload, ↓f_e_caload, ↓f_e_aaload, ↓f_e_iastore, ↓f_e_castore, ↓f_e_arraylength, ↓f_e_invokestatic, ↓f_e_invokevirtual, ↓f_e_ireturn, ↓f_e_return_, ↓f_s_i_c, ↓f_s_r_c, ↓f_s_v_i, ↓f_s_v_r, ↓f_s_l_0, ↓s_l_1, ↓s_l_2, ↓s_l_3, ↓s_l_4, ↓s_l_5, ↓s_l_6, ↓s_a_0, ↓s_a_1, ↓s_a_2, ↓s_a_3, ↓s_m_0, ↓f_s_m_i, ↓f_s_m_r, ↓f_s_m_i7, ↓f_s_m_r7, ↓f_s_m_i6, ↓f_s_m_r6, ↓f_s_m_i5, ↓f_s_m_r5, ↓f_s_m_i4, ↓f_s_m_r4, ↓f_s_w_n, ↓f_s_w_c, ↓f_s_p_eq, ↓f_s_p_ne, ↓f_s_p_lt, ↓f_s_p_ge, ↓f_s_p_gt, ↓f_s_p_le, ↓nk_i, ↓nk_z, ↓nk_c, ↓rf_s, ↓ov_s, ↓ov_n, ↓fin0, ↓fin1, ↓fin2, ↓fin3, cond_true, cond_false, List.set_cons_zero, List.set_cons_succ, List.length_cons, List.length_nil, true_and, and_true, true_or, or_true, implies_true, forall_const, not_true_eq_false, not_false_eq_true, false_implies, Nat.reduceAdd, Nat.reduceLT, Nat.reduceBEq, Nat.reduceEqDiff, Bool.or_false, Bool.false_or, Bool.or_true, Bool.true_or, beq_self_eq_true, Nat.reduceLeDiff, Nat.reduceMul, Nat.reduceSub, eq_self, Nat.reduceBneDiff, st0_s, st1_s, st2_s, st3_s, reduceCtorEq, cc_0, tl_0, cl_0, il_0, tl_1, cl_1, il_1, tl_2, cl_2, il_2, tl_3, cl_3, il_3, tl_4, cl_4, il_4, tl_5, cl_5, il_5, tl_6, cl_6, il_6, tl_7, cl_7, il_7, tl_8, cl_8, il_8, tl_9, cl_9, il_9, tl_10, cl_10, il_10, tl_11, cl_11, il_11, tl_12, cl_12, il_12, tl_13, cl_13, il_13, tl_14, cl_14, il_14, tl_15, cl_15, il_15, tl_16, cl_16, il_16, tl_20, tl_21, tl_25, tl_32, tl_48, tl_50, tl_57, tl_58, tl_59, tl_60, tl_99, tl_100, tl_101, tl_108, tl_109, tl_116, tl_120, tl_126, tl_374, tl_1122, tl_50000, i10, i01, tl_m1, tl_m2, tl_m3, tl_m4, nr_X0_tellInput, tX0_tellInput_0, tX0_tellInput_1, tX0_tellInput_2, tX0_tellInput_5, tX0_tellInput_8, tX0_tellInput_9, tX0_tellInput_12, tX0_tellInput_13, tX0_tellInput_14, tX0_tellInput_15, tX0_tellInput_18, tX0_tellInput_19, tX0_tellInput_20, tX0_tellInput_23, tX0_tellInput_24, tX0_tellInput_27, tX0_tellInput_28, tX0_tellInput_29, tX0_tellInput_30, tX0_tellInput_33, tX0_tellInput_35, tX0_tellInput_38, tX0_tellInput_39, pw_QK_s, b0, b1, b2, cj, n1, n2, n4, n5.1, r4, ↓w_get, ↓w_hasNode]
      simp only [ti_le, show (0 : Int32).toInt = 0 from rfl]
      refine ⟨rF, fun _ => ⟨fun q => ⟨in_nI hj (by omega), by rw [tc]; omega, fun q2 => ?_, fun q2 => hB ⟨hx, q⟩ (fun z => q2 ⟨q, z⟩)⟩, fun q => hA (fun z => q z.2)⟩, fun q => absurd hx q⟩
      have hC := hC ⟨hx, q⟩ q2.2
      obtain ⟨t, rfl, ht⟩ : ∃ t : Nat, i = nI t ∧ t < cntS S j := ⟨i.toNatClampNeg, ti_nat q, by
        have h9 : i.toNatClampNeg = i.toInt.toNat := rfl
        have := q2.2
        rw [tc] at this
        omega⟩
      rw [cl_nI (by omega)] at hC ⊢
      rw [r5 t ht]
      refine ⟨fun _ => hC, fun z => ?_⟩
      have he := (hT.1 j hj3).1 t ht
      rw [he.1] at z
      have := congrArg Int32.toInt z
      have h3 := hI.1
      have h4 := hI.2.1
      rw [ti_nI (by omega)] at this
      exact absurd this (by show ¬ _ = (-1 : Int); omega)
    · have hA := hA (fun z => hx z.1)
      refine pw_go okX0_tellInput (cc [(2, (w_hasNode o S))]) ⟨Nat.le_refl _, Nat.le_refl _⟩ (cc_c (fun Ag I K h => ⟨0, Nat.le_of_ble_eq_true rfl, x_hasNode hM h⟩) cc_n) (st1 14) 60 ?_
      simp only [↓f_vc_s, ↓vk_i, ↓cc_i, ↓reduceIte, f_vq_s, Bool.false_eq_true, ↓f_e_iconst, ↓f_e_bipush, ↓f_e_sipush, ↓f_e_ldc, ↓f_e_ldc_w, ↓f_e_iload_n, ↓f_e_iload, ↓f_e_aload_n, ↓f_e_aload, ↓f_e_istore_n, ↓f_e_istore, ↓f_e_astore_n, ↓f_e_astore, ↓f_e_iinc, ↓f_e_iadd, ↓f_e_isub, ↓f_e_imul, ↓f_e_iand, ↓f_e_ior, ↓f_e_ixor, ↓f_e_idiv, ↓f_e_irem, ↓f_e_ishl, ↓f_e_ishr, ↓f_e_iushr, ↓f_e_i2c, ↓f_e_dup, ↓f_e_dup2, ↓f_e_pop, ↓f_e_goto, ↓f_e_ifCond, ↓f_e_if_icmp, ↓f_e_tableswitch, ↓f_e_lookupswitch, ↓f_e_getfield_i, ↓f_e_getfield_r, ↓f_e_putfield_i, ↓f_e_putfield_z, ↓f_e_iaload, ↓f_e_caload, ↓f_e_aaload, ↓f_e_iastore, ↓f_e_castore, ↓f_e_arraylength, ↓f_e_invokestatic, ↓f_e_invokevirtual, ↓f_e_ireturn, ↓f_e_return_, ↓f_s_i_c, ↓f_s_r_c, ↓f_s_v_i, ↓f_s_v_r, ↓f_s_l_0, ↓s_l_1, ↓s_l_2, ↓s_l_3, ↓s_l_4, ↓s_l_5, ↓s_l_6, ↓s_a_0, ↓s_a_1, ↓s_a_2, ↓s_a_3, ↓s_m_0, ↓f_s_m_i, ↓f_s_m_r, ↓f_s_m_i7, ↓f_s_m_r7, ↓f_s_m_i6, ↓f_s_m_r6, ↓f_s_m_i5, ↓f_s_m_r5, ↓f_s_m_i4, ↓f_s_m_r4, ↓f_s_w_n, ↓f_s_w_c, ↓f_s_p_eq, ↓f_s_p_ne, ↓f_s_p_lt, ↓f_s_p_ge, ↓f_s_p_gt, ↓f_s_p_le, ↓nk_i, ↓nk_z, ↓nk_c, ↓rf_s, ↓ov_s, ↓ov_n, ↓fin0, ↓fin1, ↓fin2, ↓fin3, cond_true, cond_false, List.set_cons_zero, List.set_cons_succ, List.length_cons, List.length_nil, true_and, and_true, true_or, or_true, implies_true, forall_const, not_true_eq_false, not_false_eq_true, false_implies, Nat.reduceAdd, Nat.reduceLT, Nat.reduceBEq, Nat.reduceEqDiff, Bool.or_false, Bool.false_or, Bool.or_true, Bool.true_or, beq_self_eq_true, Nat.reduceLeDiff, Nat.reduceMul, Nat.reduceSub, eq_self, Nat.reduceBneDiff, st0_s, st1_s, st2_s, st3_s, reduceCtorEq, cc_0, tl_0, cl_0, il_0, tl_1, cl_1, il_1, tl_2, cl_2, il_2, tl_3, cl_3, il_3, tl_4, cl_4, il_4, tl_5, cl_5, il_5, tl_6, cl_6, il_6, tl_7, cl_7, il_7, tl_8, cl_8, il_8, tl_9, cl_9, il_9, tl_10, cl_10, il_10, tl_11, cl_11, il_11, tl_12, cl_12, il_12, tl_13, cl_13, il_13, tl_14, cl_14, il_14, tl_15, cl_15, il_15, tl_16, cl_16, il_16, tl_20, tl_21, tl_25, tl_32, tl_48, tl_50, tl_57, tl_58, tl_59, tl_60, tl_99, tl_100, tl_101, tl_108, tl_109, tl_116, tl_120, tl_126, tl_374, tl_1122, tl_50000, i10, i01, tl_m1, tl_m2, tl_m3, tl_m4, nr_X0_tellInput, tX0_tellInput_0, tX0_tellInput_1, tX0_tellInput_2, tX0_tellInput_5, tX0_tellInput_8, tX0_tellInput_9, tX0_tellInput_12, tX0_tellInput_13, tX0_tellInput_14, tX0_tellInput_15, tX0_tellInput_18, tX0_tellInput_19, tX0_tellInput_20, tX0_tellInput_23, tX0_tellInput_24, tX0_tellInput_27, tX0_tellInput_28, tX0_tellInput_29, tX0_tellInput_30, tX0_tellInput_33, tX0_tellInput_35, tX0_tellInput_38, tX0_tellInput_39, pw_QK_s, b0, ↓w_hasNode]
      exact ⟨rF, fun q => absurd q hx, fun _ => hA⟩
  · exact h.elim
/-- who waits at which place -/
def w_tellWaiting (b : Nat) (S : Nat → Int32) (W : List Nat) : pw_Wp := fun Ag I K => match Ag with
  | [.ref o, .int x] => o = b ∧ W.length ≤ 16 ∧ (∀ k ∈ W, k < 16) ∧ I (b + 39) 1 = nI W.length ∧ (∀ i k, W[i]? = some k → I (b + 40) i = nI k) ∧ (x.toInt < 0 → K (some (.int (-1))) I) ∧ (0 ≤ x.toInt → K (some (.int (fndI W[x.toNatClampNeg]?))) I)
  | _ => False
set_option maxRecDepth 100000 in
set_option maxHeartbeats 4000000 in
theorem x_tellWaiting {W : List Nat} (hM : pw_brd sh P b) (h : w_tellWaiting b S W Ag I K) : pw_ok mX0_tellWaiting 1 base n sh P Ag I K := by
  unfold w_tellWaiting at h
  split at h
  · rename_i o x
    obtain ⟨rfl, hW, hW2, rW1, rW2, hA, hB⟩ := h
    obtain ⟨b0, ⟨b1, b2⟩, bN, ⟨b3, b4⟩, bL, -, ⟨b5, b6⟩, -⟩ := id hM
    have tw : (nI W.length).toInt = (W.length : Int) := ti_nI (by omega)
    refine pw_bd [_, _, _] pl_X0 c_ri rfl rfl ?_
    refine pw_go okX0_tellWaiting (cc [(60, (w_get (o + 39) (o + 40)))]) ⟨Nat.le_refl _, Nat.le_refl _⟩ (cc_c (fun Ag I K h => ⟨0, Nat.le_of_ble_eq_true rfl, x_get b6 h⟩) cc_n) (st0) 60 ?_
    simp only [↓f_vc_s, ↓vk_i, ↓cc_i, ↓reduceIte, f_vq_s, Bool.false_eq_true, ↓f_e_iconst, ↓f_e_bipush, ↓f_e_sipush, ↓f_e_ldc, ↓f_e_ldc_w, ↓f_e_iload_n, ↓f_e_iload, ↓f_e_aload_n, ↓f_e_aload, ↓f_e_istore_n, ↓f_e_istore, ↓f_e_astore_n, ↓f_e_astore, ↓f_e_iinc, ↓f_e_iadd, ↓f_e_isub, ↓f_e_imul, ↓f_e_iand, ↓f_e_ior, ↓f_e_ixor, ↓f_e_idiv, ↓f_e_irem, ↓f_e_ishl, ↓f_e_ishr, ↓f_e_iushr, ↓f_e_i2c, ↓f_e_dup, ↓f_e_dup2, ↓f_e_pop, ↓f_e_goto, ↓f_e_ifCond, ↓f_e_if_icmp, ↓f_e_tableswitch, ↓f_e_lookupswitch, ↓f_e_getfield_i, ↓f_e_getfield_r, ↓f_e_putfield_i, ↓f_e_putfield_z, ↓f_e_iaload, ↓f_e_caload, ↓f_e_aaload, ↓f_e_iastore, ↓f_e_castore, ↓f_e_arraylength, ↓f_e_invokestatic, ↓f_e_invokevirtual, ↓f_e_ireturn, ↓f_e_return_, ↓f_s_i_c, ↓f_s_r_c, ↓f_s_v_i, ↓f_s_v_r, ↓f_s_l_0, ↓s_l_1, ↓s_l_2, ↓s_l_3, ↓s_l_4, ↓s_l_5, ↓s_l_6, ↓s_a_0, ↓s_a_1, ↓s_a_2, ↓s_a_3, ↓s_m_0, ↓f_s_m_i, ↓f_s_m_r, ↓f_s_m_i7, ↓f_s_m_r7, ↓f_s_m_i6, ↓f_s_m_r6, ↓f_s_m_i5, ↓f_s_m_r5, ↓f_s_m_i4, ↓f_s_m_r4, ↓f_s_w_n, ↓f_s_w_c, ↓f_s_p_eq, ↓f_s_p_ne, ↓f_s_p_lt, ↓f_s_p_ge, ↓f_s_p_gt, ↓f_s_p_le, ↓nk_i, ↓nk_z, ↓nk_c, ↓rf_s, ↓ov_s, ↓ov_n, ↓fin0, ↓fin1, ↓fin2, ↓fin3, cond_true, cond_false, List.set_cons_zero, List.set_cons_succ, List.length_cons, List.length_nil, true_and, and_true, true_or, or_true, implies_true, forall_const, not_true_eq_false, not_false_eq_true, false_implies, Nat.reduceAdd, Nat.reduceLT, Nat.reduceBEq, Nat.reduceEqDiff, Bool.or_false, Bool.false_or, Bool.or_true, Bool.true_or, beq_self_eq_true, Nat.reduceLeDiff, Nat.reduceMul, Nat.reduceSub, eq_self, Nat.reduceBneDiff, st0_s, st1_s, st2_s, st3_s, reduceCtorEq, cc_0, tl_0, cl_0, il_0, tl_1, cl_1, il_1, tl_2, cl_2, il_2, tl_3, cl_3, il_3, tl_4, cl_4, il_4, tl_5, cl_5, il_5, tl_6, cl_6, il_6, tl_7, cl_7, il_7, tl_8, cl_8, il_8, tl_9, cl_9, il_9, tl_10, cl_10, il_10, tl_11, cl_11, il_11, tl_12, cl_12, il_12, tl_13, cl_13, il_13, tl_14, cl_14, il_14, tl_15, cl_15, il_15, tl_16, cl_16, il_16, tl_20, tl_21, tl_25, tl_32, tl_48, tl_50, tl_57, tl_58, tl_59, tl_60, tl_99, tl_100, tl_101, tl_108, tl_109, tl_116, tl_120, tl_126, tl_374, tl_1122, tl_50000, i10, i01, tl_m1, tl_m2, tl_m3, tl_m4, nr_X0_tellWaiting, tX0_tellWaiting_0, tX0_tellWaiting_1, tX0_tellWaiting_4, tX0_tellWaiting_5, tX0_tellWaiting_6, tX0_tellWaiting_7, tX0_tellWaiting_10, tX0_tellWaiting_11, tX0_tellWaiting_14, tX0_tellWaiting_15, tX0_tellWaiting_16, tX0_tellWaiting_17, tX0_tellWaiting_20, tX0_tellWaiting_22, tX0_tellWaiting_25, tX0_tellWaiting_26, pw_QK_s, b0, b5, b6.1, rW1, ↓w_get]
    simp only [ti_le, show (0 : Int32).toInt = 0 from rfl]
    refine ⟨fun q => ⟨by rw [tw]; omega, fun q2 => ?_, fun q2 => ?_⟩, fun q => hA (by omega)⟩
    · have hB := hB q
      rw [tw] at q2
      have h9 : x.toNatClampNeg = x.toInt.toNat := rfl
      obtain ⟨k, hk⟩ : ∃ k, W[x.toNatClampNeg]? = some k := ⟨_, List.getElem?_eq_getElem (by omega)⟩
      have := hW2 k (List.mem_of_getElem? hk)
      rw [rW2 _ k hk]
      rw [hk] at hB
      refine ⟨fun _ => hB, fun z => ?_⟩
      have := congrArg Int32.toInt z
      rw [ti_nI (by omega)] at this
      exact absurd this (by show ¬ _ = (-1 : Int); omega)
    · have hB := hB q
      rw [tw] at q2
      have h9 : x.toNatClampNeg = x.toInt.toNat := rfl
      rw [List.getElem?_eq_none (by omega)] at hB
      exact hB
  · exact h.elim
end TELL
