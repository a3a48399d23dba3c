/-! the class's text: an event is answered; the text is run -/
section RUO
variable {n base e b : Nat} {sh : pw_Sh} {P : pw_P} {Ag : List Value} {I : pw_I} {T : Nat → Int32} {len : Nat} {S : Nat → Int32} {K : Option Value → pw_I → Prop}
/-- what the class asks of a state -/
def StOK (S : Nat → Int32) : Prop := InvB S ∧ InvT S ∧ OrdOK S ∧ TakeOK S ∧ InvD S ∧ WalkOK S
def w_answerOf (e b : Nat) (T : Nat → Int32) (len : Nat) (S : Nat → Int32) (p a c : Nat) : pw_Wp := fun Ag I K => match Ag with
  | [.ref o, .ref y] => o = e ∧ y = b ∧ texR I e T len ∧ I e 2 = nI p ∧ p < len ∧ isSgn (T p) ∧ (¬ (T p = 120 ∨ T p = 100) → I e 4 = nI a) ∧ ((T p = 108 ∨ T p = 109) → I e 5 = nI c) ∧ a ≤ 99 ∧ c ≤ 99 ∧ StOK S ∧ RelB I b S ∧
    (rngS S (T p) a c = false → K (some (.int (-1))) I) ∧ (rngS S (T p) a c = true → posS S (T p) a c = false → ∀ z : Int32, z.toInt < 0 → ¬ z = -1 → ∀ J, brdOK b I J → RelB J b S → K (some (.int z)) J) ∧
    (rngS S (T p) a c = true → posS S (T p) a c = true → ∀ z : Int32, 0 ≤ z.toInt → ∀ J, brdOK b I J → RelB J b (doS S (T p) a c) → K (some (.int z)) J)
  | _ => False
theorem brdOK.rf {b : Nat} {I : pw_I} : brdOK b I I := fun _ _ => rfl
set_option maxRecDepth 100000 in
set_option maxHeartbeats 4000000 in
theorem x_answerOf {p a c : Nat} (hM : pw_txt sh P e) (hB : pw_brd sh P b) (h : w_answerOf e b T len S p a c Ag I K) : pw_ok mX1_answerOf 4 base n sh P Ag I K := by
  unfold w_answerOf at h
  split at h
  · rename_i o y
    obtain ⟨hx, hy, hT, e2, hp, hsg, e4, e5, ha, hc, ⟨hI, iT, iO, iK, iD, iW⟩, hR, hA, hN, hY⟩ := h
    replace hx := hx.symm
    replace hy := hy.symm
    subst hx
    subst hy
    obtain ⟨h1, h2, h3⟩ := id hM
    have b0 := hB.1
    have hl := hT.2.1
    have h4 := hI.2.1
    have f2 := hR.1.2.1
    have l4 : (S 4).toInt = (vN S 4 : Int) := (congrArg Int32.toInt h4.1).trans (ti_nI (by omega))
    have ta : (nI a).toInt = (a : Int) := ti_nI (by omega)
    have tc : (nI c).toInt = (c : Int) := ti_nI (by omega)
    have hst : sgT T len p = T p := if_pos hp
    have lk : a < vN S 4 → okLine S (nI a) := fun z => by unfold okLine; rw [ta, l4]; omega
    have kl : ¬ a < vN S 4 → ¬ okLine S (nI a) := fun z y => by unfold okLine at y; rw [ta, l4] at y; omega
    have bc : c ≤ 1 → bit01 (nI c) := fun z => by
      have : c = 0 ∨ c = 1 := by omega
      rcases this with rfl | rfl
      · exact Or.inl rfl
      · exact Or.inr rfl
    have cb : ¬ c ≤ 1 → ¬ bit01 (nI c) := fun z y => by
      rcases y with y | y
      · have := congrArg Int32.toInt y
        rw [tc] at this
        have h9 : (0 : Int32).toInt = 0 := rfl
        omega
      · have := congrArg Int32.toInt y
        rw [tc] at this
        have h9 : (1 : Int32).toInt = 1 := rfl
        omega
    have beq : ∀ x y : Int32, (x == y) = decide (x = y) := fun x y => rfl
    refine pw_bd [_, _] pl_X1 c_rr rfl rfl ?_
    rcases hsg with hs | hs | hs | hs | hs | hs
    · have e4 := e4 (by rw [hs]; decide)
      rw [hs, show rngS S 101 a c = decide (a < vN S 4) from rfl] at hA hN hY
      rw [show posS S 101 a c = (S (166 + 13 * a + 2) == 0) from rfl] at hN hY
      rw [show doS S 101 a c = goEdgeS S a from rfl] at hY
      refine pw_go okX1_answerOf (cc [(49, (w_signAt e T len)), (10, (w_giveEdge b S))]) ⟨Nat.le_refl _, Nat.le_refl _⟩ (cc_c (fun Ag I K h => ⟨0, Nat.le_of_ble_eq_true rfl, x_signAt hM h⟩) (cc_c (fun Ag I K h => ⟨1, Nat.le_of_ble_eq_true rfl, x_giveEdge hB h⟩) cc_n)) (st0) 60 ?_
      simp only [↓f_vc_s, ↓vk_i, ↓cc_i, ↓reduceIte, f_vq_s, Bool.false_eq_true, ↓f_e_iconst, ↓f_e_bipush, ↓f_e_sipush, ↓f_e_ldc, ↓f_e_ldc_w, ↓f_e_iload_n, ↓f_e_iload, ↓f_e_aload_n, ↓f_e_aload, ↓f_e_istore_n, ↓f_e_istore, ↓f_e_astore_n, ↓f_e_astore, ↓f_e_iinc, ↓f_e_iadd, ↓f_e_isub, ↓f_e_imul, ↓f_e_iand, ↓f_e_ior, ↓f_e_ixor, ↓f_e_idiv, ↓f_e_irem, ↓f_e_ishl, ↓f_e_ishr, ↓f_e_iushr, ↓f_e_i2c, ↓f_e_dup, ↓f_e_dup2, ↓f_e_pop, ↓f_e_goto, ↓f_e_ifCond, ↓f_e_if_icmp, ↓f_e_tableswitch, ↓f_e_lookupswitch, ↓f_e_getfield_i, ↓f_e_getfield_r, ↓f_e_putfield_i, ↓f_e_putfield_z, ↓f_e_iaload, ↓f_e_caload, ↓f_e_aaload, ↓f_e_iastore, ↓f_e_castore, ↓f_e_arraylength, ↓f_e_invokestatic, ↓f_e_invokevirtual, ↓f_e_ireturn, ↓f_e_return_, ↓f_s_i_c, ↓f_s_r_c, ↓f_s_v_i, ↓f_s_v_r, ↓f_s_l_0, ↓s_l_1, ↓s_l_2, ↓s_l_3, ↓s_l_4, ↓s_l_5, ↓s_l_6, ↓s_a_0, ↓s_a_1, ↓s_a_2, ↓s_a_3, ↓s_m_0, ↓f_s_m_i, ↓f_s_m_r, ↓f_s_m_i7, ↓f_s_m_r7, ↓f_s_m_i6, ↓f_s_m_r6, ↓f_s_m_i5, ↓f_s_m_r5, ↓f_s_m_i4, ↓f_s_m_r4, ↓f_s_w_n, ↓f_s_w_c, ↓f_s_p_eq, ↓f_s_p_ne, ↓f_s_p_lt, ↓f_s_p_ge, ↓f_s_p_gt, ↓f_s_p_le, ↓nk_i, ↓nk_z, ↓nk_c, ↓rf_s, ↓ov_s, ↓ov_n, ↓fin0, ↓fin1, ↓fin2, ↓fin3, cond_true, cond_false, List.set_cons_zero, List.set_cons_succ, List.length_cons, List.length_nil, true_and, and_true, true_or, or_true, implies_true, forall_const, not_true_eq_false, not_false_eq_true, false_implies, Nat.reduceAdd, Nat.reduceLT, Nat.reduceBEq, Nat.reduceEqDiff, Bool.or_false, Bool.false_or, Bool.or_true, Bool.true_or, beq_self_eq_true, Nat.reduceLeDiff, Nat.reduceMul, Nat.reduceSub, eq_self, Nat.reduceBneDiff, st0_s, st1_s, st2_s, st3_s, reduceCtorEq, cc_0, tl_0, cl_0, il_0, tl_1, cl_1, il_1, tl_2, cl_2, il_2, tl_3, cl_3, il_3, tl_4, cl_4, il_4, tl_5, cl_5, il_5, tl_6, cl_6, il_6, tl_7, cl_7, il_7, tl_8, cl_8, il_8, tl_9, cl_9, il_9, tl_10, cl_10, il_10, tl_11, cl_11, il_11, tl_12, cl_12, il_12, tl_13, cl_13, il_13, tl_14, cl_14, il_14, tl_15, cl_15, il_15, tl_16, cl_16, il_16, tl_20, tl_21, tl_25, tl_32, tl_48, tl_50, tl_57, tl_58, tl_59, tl_60, tl_99, tl_100, tl_101, tl_108, tl_109, tl_116, tl_120, tl_126, tl_374, tl_1122, tl_50000, i10, i01, tl_m1, tl_m2, tl_m3, tl_m4, nr_X1_answerOf, tX1_answerOf_0, tX1_answerOf_1, tX1_answerOf_2, tX1_answerOf_5, tX1_answerOf_8, tX1_answerOf_60, tX1_answerOf_61, tX1_answerOf_62, tX1_answerOf_65, tX1_answerOf_68, tX1_answerOf_69, tX1_answerOf_70, tX1_answerOf_71, tX1_answerOf_74, tX1_answerOf_75, tX1_answerOf_78, tX1_answerOf_81, tX1_answerOf_82, tX1_answerOf_83, tX1_answerOf_84, tX1_answerOf_87, tX1_answerOf_88, tX1_answerOf_91, tX1_answerOf_94, tX1_answerOf_95, tX1_answerOf_96, tX1_answerOf_99, tX1_answerOf_100, tX1_answerOf_101, tX1_answerOf_104, tX1_answerOf_105, tX1_answerOf_106, tX1_answerOf_107, tX1_answerOf_110, tX1_answerOf_113, pw_QK_s, h1, h2, h3, e2, e4, b0, ↓w_signAt, ↓w_giveEdge]
      refine ⟨hT, p, rfl, by omega, ?_⟩
      rw [hst, hs]
      refine ⟨fun z => absurd z (by decide), fun _ => ⟨fun _ => ⟨hI, hR, fun z => hA (decide_eq_false (fun y => z (lk y))), fun k hk hk4 hz => ?_, fun k hk hk4 hz J hJ hRJ => ?_⟩, fun z => absurd rfl z⟩⟩
      · have : k = a := ((nI_eq (by omega) (by omega)).mp hk).symm
        subst this
        exact hN (decide_eq_true hk4) (beq_f hz) (-2) (by decide) (by decide) I brdOK.rf hR
      · have : k = a := ((nI_eq (by omega) (by omega)).mp hk).symm
        subst this
        refine hY (decide_eq_true hk4) (beq_t hz) _ ?_ J hJ hRJ
        split <;> decide
    · have e4 := e4 (by rw [hs]; decide)
      have e5 := e5 (Or.inl hs)
      rw [hs, show rngS S 108 a c = (decide (a < vN S 4) && decide (c ≤ 1)) from rfl] at hA hN hY
      rw [show posS S 108 a c = ((S (166 + 13 * a + 2) == 1) && !(S (166 + 13 * a + 3) == nI c)) from rfl] at hN hY
      rw [show doS S 108 a c = upd S (166 + 13 * a + 3) (nI c) from rfl] at hY
      by_cases hv : a < vN S 4 ∧ c ≤ 1
      · rw [decide_eq_true hv.1, decide_eq_true hv.2] at hN hY
        refine pw_go okX1_answerOf (cc [(49, (w_signAt e T len)), (11, (w_setLevel b a (nI c) S))]) ⟨Nat.le_refl _, Nat.le_refl _⟩ (cc_c (fun Ag I K h => ⟨0, Nat.le_of_ble_eq_true rfl, x_signAt hM h⟩) (cc_c (fun Ag I K h => ⟨2, Nat.le_of_ble_eq_true rfl, x_setLevel hB h⟩) cc_n)) (st0) 60 ?_
        simp only [↓f_vc_s, ↓vk_i, ↓cc_i, ↓reduceIte, f_vq_s, Bool.false_eq_true, ↓f_e_iconst, ↓f_e_bipush, ↓f_e_sipush, ↓f_e_ldc, ↓f_e_ldc_w, ↓f_e_iload_n, ↓f_e_iload, ↓f_e_aload_n, ↓f_e_aload, ↓f_e_istore_n, ↓f_e_istore, ↓f_e_astore_n, ↓f_e_astore, ↓f_e_iinc, ↓f_e_iadd, ↓f_e_isub, ↓f_e_imul, ↓f_e_iand, ↓f_e_ior, ↓f_e_ixor, ↓f_e_idiv, ↓f_e_irem, ↓f_e_ishl, ↓f_e_ishr, ↓f_e_iushr, ↓f_e_i2c, ↓f_e_dup, ↓f_e_dup2, ↓f_e_pop, ↓f_e_goto, ↓f_e_ifCond, ↓f_e_if_icmp, ↓f_e_tableswitch, ↓f_e_lookupswitch, ↓f_e_getfield_i, ↓f_e_getfield_r, ↓f_e_putfield_i, ↓f_e_putfield_z, ↓f_e_iaload, ↓f_e_caload, ↓f_e_aaload, ↓f_e_iastore, ↓f_e_castore, ↓f_e_arraylength, ↓f_e_invokestatic, ↓f_e_invokevirtual, ↓f_e_ireturn, ↓f_e_return_, ↓f_s_i_c, ↓f_s_r_c, ↓f_s_v_i, ↓f_s_v_r, ↓f_s_l_0, ↓s_l_1, ↓s_l_2, ↓s_l_3, ↓s_l_4, ↓s_l_5, ↓s_l_6, ↓s_a_0, ↓s_a_1, ↓s_a_2, ↓s_a_3, ↓s_m_0, ↓f_s_m_i, ↓f_s_m_r, ↓f_s_m_i7, ↓f_s_m_r7, ↓f_s_m_i6, ↓f_s_m_r6, ↓f_s_m_i5, ↓f_s_m_r5, ↓f_s_m_i4, ↓f_s_m_r4, ↓f_s_w_n, ↓f_s_w_c, ↓f_s_p_eq, ↓f_s_p_ne, ↓f_s_p_lt, ↓f_s_p_ge, ↓f_s_p_gt, ↓f_s_p_le, ↓nk_i, ↓nk_z, ↓nk_c, ↓rf_s, ↓ov_s, ↓ov_n, ↓fin0, ↓fin1, ↓fin2, ↓fin3, cond_true, cond_false, List.set_cons_zero, List.set_cons_succ, List.length_cons, List.length_nil, true_and, and_true, true_or, or_true, implies_true, forall_const, not_true_eq_false, not_false_eq_true, false_implies, Nat.reduceAdd, Nat.reduceLT, Nat.reduceBEq, Nat.reduceEqDiff, Bool.or_false, Bool.false_or, Bool.or_true, Bool.true_or, beq_self_eq_true, Nat.reduceLeDiff, Nat.reduceMul, Nat.reduceSub, eq_self, Nat.reduceBneDiff, st0_s, st1_s, st2_s, st3_s, reduceCtorEq, cc_0, tl_0, cl_0, il_0, tl_1, cl_1, il_1, tl_2, cl_2, il_2, tl_3, cl_3, il_3, tl_4, cl_4, il_4, tl_5, cl_5, il_5, tl_6, cl_6, il_6, tl_7, cl_7, il_7, tl_8, cl_8, il_8, tl_9, cl_9, il_9, tl_10, cl_10, il_10, tl_11, cl_11, il_11, tl_12, cl_12, il_12, tl_13, cl_13, il_13, tl_14, cl_14, il_14, tl_15, cl_15, il_15, tl_16, cl_16, il_16, tl_20, tl_21, tl_25, tl_32, tl_48, tl_50, tl_57, tl_58, tl_59, tl_60, tl_99, tl_100, tl_101, tl_108, tl_109, tl_116, tl_120, tl_126, tl_374, tl_1122, tl_50000, i10, i01, tl_m1, tl_m2, tl_m3, tl_m4, nr_X1_answerOf, tX1_answerOf_0, tX1_answerOf_1, tX1_answerOf_2, tX1_answerOf_5, tX1_answerOf_8, tX1_answerOf_60, tX1_answerOf_61, tX1_answerOf_62, tX1_answerOf_65, tX1_answerOf_68, tX1_answerOf_69, tX1_answerOf_70, tX1_answerOf_71, tX1_answerOf_74, tX1_answerOf_75, tX1_answerOf_78, tX1_answerOf_81, tX1_answerOf_82, tX1_answerOf_83, tX1_answerOf_84, tX1_answerOf_87, tX1_answerOf_88, tX1_answerOf_91, tX1_answerOf_94, tX1_answerOf_95, tX1_answerOf_96, tX1_answerOf_99, tX1_answerOf_100, tX1_answerOf_101, tX1_answerOf_104, tX1_answerOf_105, tX1_answerOf_106, tX1_answerOf_107, tX1_answerOf_110, tX1_answerOf_113, pw_QK_s, h1, h2, h3, e2, e4, e5, b0, ↓w_signAt, ↓w_setLevel]
        refine ⟨hT, p, rfl, by omega, ?_⟩
        rw [hst, hs]
        refine ⟨fun z => absurd z (by decide), fun _ => ⟨fun z => absurd z (by decide), fun _ => ⟨fun _ => ⟨hv.1, bc hv.2, hI, hR, fun z => hN rfl ?_ (-2) (by decide) (by decide) I brdOK.rf hR, fun z J hJ hRJ => hY rfl ?_ _ (bits_nn (setF_16 ?_)) J hJ hRJ⟩, fun z => absurd rfl z⟩⟩⟩
        · cases q1 : (S (166 + 13 * a + 2) == 1) with
          | false => rfl
          | true =>
            cases q2 : (S (166 + 13 * a + 3) == nI c) with
            | true => rfl
            | false => exact absurd ⟨by simpa using q1, by simpa using q2⟩ z
        · rw [beq_t z.1, beq_f z.2]; rfl
        · show (upd S (166 + 13 * a + 3) (nI c) 4).toNatClampNeg ≤ 16
          rw [upd_n (by omega)]; exact h4.2
      · have hr : (decide (a < vN S 4) && decide (c ≤ 1)) = false := by
          cases q : (decide (a < vN S 4) && decide (c ≤ 1)) with
          | false => rfl
          | true => rw [Bool.and_eq_true, decide_eq_true_eq, decide_eq_true_eq] at q; exact absurd q hv
        have hA := hA hr
        have hE : ¬ (okLine S (nI a) ∧ bit01 (nI c)) := fun z => hv ⟨Classical.byContradiction fun y => kl y z.1, Classical.byContradiction fun y => cb y z.2⟩
        refine pw_go okX1_answerOf (cc [(49, (w_signAt e T len)), (11, (w_errL b S))]) ⟨Nat.le_refl _, Nat.le_refl _⟩ (cc_c (fun Ag I K h => ⟨0, Nat.le_of_ble_eq_true rfl, x_signAt hM h⟩) (cc_c (fun Ag I K h => ⟨2, Nat.le_of_ble_eq_true rfl, x_setLevelE hB h⟩) cc_n)) (st0) 60 ?_
        simp only [↓f_vc_s, ↓vk_i, ↓cc_i, ↓reduceIte, f_vq_s, Bool.false_eq_true, ↓f_e_iconst, ↓f_e_bipush, ↓f_e_sipush, ↓f_e_ldc, ↓f_e_ldc_w, ↓f_e_iload_n, ↓f_e_iload, ↓f_e_aload_n, ↓f_e_aload, ↓f_e_istore_n, ↓f_e_istore, ↓f_e_astore_n, ↓f_e_astore, ↓f_e_iinc, ↓f_e_iadd, ↓f_e_isub, ↓f_e_imul, ↓f_e_iand, ↓f_e_ior, ↓f_e_ixor, ↓f_e_idiv, ↓f_e_irem, ↓f_e_ishl, ↓f_e_ishr, ↓f_e_iushr, ↓f_e_i2c, ↓f_e_dup, ↓f_e_dup2, ↓f_e_pop, ↓f_e_goto, ↓f_e_ifCond, ↓f_e_if_icmp, ↓f_e_tableswitch, ↓f_e_lookupswitch, ↓f_e_getfield_i, ↓f_e_getfield_r, ↓f_e_putfield_i, ↓f_e_putfield_z, ↓f_e_iaload, ↓f_e_caload, ↓f_e_aaload, ↓f_e_iastore, ↓f_e_castore, ↓f_e_arraylength, ↓f_e_invokestatic, ↓f_e_invokevirtual, ↓f_e_ireturn, ↓f_e_return_, ↓f_s_i_c, ↓f_s_r_c, ↓f_s_v_i, ↓f_s_v_r, ↓f_s_l_0, ↓s_l_1, ↓s_l_2, ↓s_l_3, ↓s_l_4, ↓s_l_5, ↓s_l_6, ↓s_a_0, ↓s_a_1, ↓s_a_2, ↓s_a_3, ↓s_m_0, ↓f_s_m_i, ↓f_s_m_r, ↓f_s_m_i7, ↓f_s_m_r7, ↓f_s_m_i6, ↓f_s_m_r6, ↓f_s_m_i5, ↓f_s_m_r5, ↓f_s_m_i4, ↓f_s_m_r4, ↓f_s_w_n, ↓f_s_w_c, ↓f_s_p_eq, ↓f_s_p_ne, ↓f_s_p_lt, ↓f_s_p_ge, ↓f_s_p_gt, ↓f_s_p_le, ↓nk_i, ↓nk_z, ↓nk_c, ↓rf_s, ↓ov_s, ↓ov_n, ↓fin0, ↓fin1, ↓fin2, ↓fin3, cond_true, cond_false, List.set_cons_zero, List.set_cons_succ, List.length_cons, List.length_nil, true_and, and_true, true_or, or_true, implies_true, forall_const, not_true_eq_false, not_false_eq_true, false_implies, Nat.reduceAdd, Nat.reduceLT, Nat.reduceBEq, Nat.reduceEqDiff, Bool.or_false, Bool.false_or, Bool.or_true, Bool.true_or, beq_self_eq_true, Nat.reduceLeDiff, Nat.reduceMul, Nat.reduceSub, eq_self, Nat.reduceBneDiff, st0_s, st1_s, st2_s, st3_s, reduceCtorEq, cc_0, tl_0, cl_0, il_0, tl_1, cl_1, il_1, tl_2, cl_2, il_2, tl_3, cl_3, il_3, tl_4, cl_4, il_4, tl_5, cl_5, il_5, tl_6, cl_6, il_6, tl_7, cl_7, il_7, tl_8, cl_8, il_8, tl_9, cl_9, il_9, tl_10, cl_10, il_10, tl_11, cl_11, il_11, tl_12, cl_12, il_12, tl_13, cl_13, il_13, tl_14, cl_14, il_14, tl_15, cl_15, il_15, tl_16, cl_16, il_16, tl_20, tl_21, tl_25, tl_32, tl_48, tl_50, tl_57, tl_58, tl_59, tl_60, tl_99, tl_100, tl_101, tl_108, tl_109, tl_116, tl_120, tl_126, tl_374, tl_1122, tl_50000, i10, i01, tl_m1, tl_m2, tl_m3, tl_m4, nr_X1_answerOf, tX1_answerOf_0, tX1_answerOf_1, tX1_answerOf_2, tX1_answerOf_5, tX1_answerOf_8, tX1_answerOf_60, tX1_answerOf_61, tX1_answerOf_62, tX1_answerOf_65, tX1_answerOf_68, tX1_answerOf_69, tX1_answerOf_70, tX1_answerOf_71, tX1_answerOf_74, tX1_answerOf_75, tX1_answerOf_78, tX1_answerOf_81, tX1_answerOf_82, tX1_answerOf_83, tX1_answerOf_84, tX1_answerOf_87, tX1_answerOf_88, tX1_answerOf_91, tX1_answerOf_94, tX1_answerOf_95, tX1_answerOf_96, tX1_answerOf_99, tX1_answerOf_100, tX1_answerOf_101, tX1_answerOf_104, tX1_answerOf_105, tX1_answerOf_106, tX1_answerOf_107, tX1_answerOf_110, tX1_answerOf_113, pw_QK_s, h1, h2, h3, e2, e4, e5, b0, ↓w_signAt, ↓w_errL]
        refine ⟨hT, p, rfl, by omega, ?_⟩
        rw [hst, hs]
        exact ⟨fun z => absurd z (by decide), fun _ => ⟨fun z => absurd z (by decide), fun _ => ⟨fun _ => ⟨f2, hE, hA⟩, fun z => absurd rfl z⟩⟩⟩
    · have e4 := e4 (by rw [hs]; decide)
      have e5 := e5 (Or.inr hs)
      rw [hs, show rngS S 109 a c = (decide (a < vN S 4) && decide (c ≤ 1)) from rfl] at hA hN hY
      rw [show posS S 109 a c = !(S (166 + 13 * a + 5) == nI c) from rfl] at hN hY
      rw [show doS S 109 a c = upd S (166 + 13 * a + 5) (nI c) from rfl] at hY
      by_cases hv : a < vN S 4 ∧ c ≤ 1
      · rw [decide_eq_true hv.1, decide_eq_true hv.2] at hN hY
        refine pw_go okX1_answerOf (cc [(49, (w_signAt e T len)), (6, (w_setLineMask b a (nI c) S))]) ⟨Nat.le_refl _, Nat.le_refl _⟩ (cc_c (fun Ag I K h => ⟨0, Nat.le_of_ble_eq_true rfl, x_signAt hM h⟩) (cc_c (fun Ag I K h => ⟨2, Nat.le_of_ble_eq_true rfl, x_setLineMask hB h⟩) cc_n)) (st0) 60 ?_
        simp only [↓f_vc_s, ↓vk_i, ↓cc_i, ↓reduceIte, f_vq_s, Bool.false_eq_true, ↓f_e_iconst, ↓f_e_bipush, ↓f_e_sipush, ↓f_e_ldc, ↓f_e_ldc_w, ↓f_e_iload_n, ↓f_e_iload, ↓f_e_aload_n, ↓f_e_aload, ↓f_e_istore_n, ↓f_e_istore, ↓f_e_astore_n, ↓f_e_astore, ↓f_e_iinc, ↓f_e_iadd, ↓f_e_isub, ↓f_e_imul, ↓f_e_iand, ↓f_e_ior, ↓f_e_ixor, ↓f_e_idiv, ↓f_e_irem, ↓f_e_ishl, ↓f_e_ishr, ↓f_e_iushr, ↓f_e_i2c, ↓f_e_dup, ↓f_e_dup2, ↓f_e_pop, ↓f_e_goto, ↓f_e_ifCond, ↓f_e_if_icmp, ↓f_e_tableswitch, ↓f_e_lookupswitch, ↓f_e_getfield_i, ↓f_e_getfield_r, ↓f_e_putfield_i, ↓f_e_putfield_z, ↓f_e_iaload, ↓f_e_caload, ↓f_e_aaload, ↓f_e_iastore, ↓f_e_castore, ↓f_e_arraylength, ↓f_e_invokestatic, ↓f_e_invokevirtual, ↓f_e_ireturn, ↓f_e_return_, ↓f_s_i_c, ↓f_s_r_c, ↓f_s_v_i, ↓f_s_v_r, ↓f_s_l_0, ↓s_l_1, ↓s_l_2, ↓s_l_3, ↓s_l_4, ↓s_l_5, ↓s_l_6, ↓s_a_0, ↓s_a_1, ↓s_a_2, ↓s_a_3, ↓s_m_0, ↓f_s_m_i, ↓f_s_m_r, ↓f_s_m_i7, ↓f_s_m_r7, ↓f_s_m_i6, ↓f_s_m_r6, ↓f_s_m_i5, ↓f_s_m_r5, ↓f_s_m_i4, ↓f_s_m_r4, ↓f_s_w_n, ↓f_s_w_c, ↓f_s_p_eq, ↓f_s_p_ne, ↓f_s_p_lt, ↓f_s_p_ge, ↓f_s_p_gt, ↓f_s_p_le, ↓nk_i, ↓nk_z, ↓nk_c, ↓rf_s, ↓ov_s, ↓ov_n, ↓fin0, ↓fin1, ↓fin2, ↓fin3, cond_true, cond_false, List.set_cons_zero, List.set_cons_succ, List.length_cons, List.length_nil, true_and, and_true, true_or, or_true, implies_true, forall_const, not_true_eq_false, not_false_eq_true, false_implies, Nat.reduceAdd, Nat.reduceLT, Nat.reduceBEq, Nat.reduceEqDiff, Bool.or_false, Bool.false_or, Bool.or_true, Bool.true_or, beq_self_eq_true, Nat.reduceLeDiff, Nat.reduceMul, Nat.reduceSub, eq_self, Nat.reduceBneDiff, st0_s, st1_s, st2_s, st3_s, reduceCtorEq, cc_0, tl_0, cl_0, il_0, tl_1, cl_1, il_1, tl_2, cl_2, il_2, tl_3, cl_3, il_3, tl_4, cl_4, il_4, tl_5, cl_5, il_5, tl_6, cl_6, il_6, tl_7, cl_7, il_7, tl_8, cl_8, il_8, tl_9, cl_9, il_9, tl_10, cl_10, il_10, tl_11, cl_11, il_11, tl_12, cl_12, il_12, tl_13, cl_13, il_13, tl_14, cl_14, il_14, tl_15, cl_15, il_15, tl_16, cl_16, il_16, tl_20, tl_21, tl_25, tl_32, tl_48, tl_50, tl_57, tl_58, tl_59, tl_60, tl_99, tl_100, tl_101, tl_108, tl_109, tl_116, tl_120, tl_126, tl_374, tl_1122, tl_50000, i10, i01, tl_m1, tl_m2, tl_m3, tl_m4, nr_X1_answerOf, tX1_answerOf_0, tX1_answerOf_1, tX1_answerOf_2, tX1_answerOf_5, tX1_answerOf_8, tX1_answerOf_60, tX1_answerOf_61, tX1_answerOf_62, tX1_answerOf_65, tX1_answerOf_68, tX1_answerOf_69, tX1_answerOf_70, tX1_answerOf_71, tX1_answerOf_74, tX1_answerOf_75, tX1_answerOf_78, tX1_answerOf_81, tX1_answerOf_82, tX1_answerOf_83, tX1_answerOf_84, tX1_answerOf_87, tX1_answerOf_88, tX1_answerOf_91, tX1_answerOf_94, tX1_answerOf_95, tX1_answerOf_96, tX1_answerOf_99, tX1_answerOf_100, tX1_answerOf_101, tX1_answerOf_104, tX1_answerOf_105, tX1_answerOf_106, tX1_answerOf_107, tX1_answerOf_110, tX1_answerOf_113, pw_QK_s, h1, h2, h3, e2, e4, e5, b0, ↓w_signAt, ↓w_setLineMask]
        refine ⟨hT, p, rfl, by omega, ?_⟩
        rw [hst, hs]
        refine ⟨fun z => absurd z (by decide), fun _ => ⟨fun z => absurd z (by decide), fun _ => ⟨fun z => absurd z (by decide), fun _ => ⟨fun _ => ⟨hv.1, bc hv.2, hI, hR, fun z => hN rfl (by rw [beq_t z]; rfl) (-2) (by decide) (by decide) I brdOK.rf hR, fun z J hJ hRJ => hY rfl (by rw [beq_f z]; rfl) _ (bits_nn (setF_16 ?_)) J hJ hRJ⟩, fun z => absurd rfl z⟩⟩⟩⟩
        show (upd S (166 + 13 * a + 5) (nI c) 4).toNatClampNeg ≤ 16
        rw [upd_n (by omega)]; exact h4.2
      · have hr : (decide (a < vN S 4) && decide (c ≤ 1)) = false := by
          cases q : (decide (a < vN S 4) && decide (c ≤ 1)) with
          | false => rfl
          | true => rw [Bool.and_eq_true, decide_eq_true_eq, decide_eq_true_eq] at q; exact absurd q hv
        have hA := hA hr
        have hE : ¬ (okLine S (nI a) ∧ bit01 (nI c)) := fun z => hv ⟨Classical.byContradiction fun y => kl y z.1, Classical.byContradiction fun y => cb y z.2⟩
        refine pw_go okX1_answerOf (cc [(49, (w_signAt e T len)), (6, (w_errL b S))]) ⟨Nat.le_refl _, Nat.le_refl _⟩ (cc_c (fun Ag I K h => ⟨0, Nat.le_of_ble_eq_true rfl, x_signAt hM h⟩) (cc_c (fun Ag I K h => ⟨2, Nat.le_of_ble_eq_true rfl, x_setLineMaskE hB h⟩) cc_n)) (st0) 60 ?_
        simp only [↓f_vc_s, ↓vk_i, ↓cc_i, ↓reduceIte, f_vq_s, Bool.false_eq_true, ↓f_e_iconst, ↓f_e_bipush, ↓f_e_sipush, ↓f_e_ldc, ↓f_e_ldc_w, ↓f_e_iload_n, ↓f_e_iload, ↓f_e_aload_n, ↓f_e_aload, ↓f_e_istore_n, ↓f_e_istore, ↓f_e_astore_n, ↓f_e_astore, ↓f_e_iinc, ↓f_e_iadd, ↓f_e_isub, ↓f_e_imul, ↓f_e_iand, ↓f_e_ior, ↓f_e_ixor, ↓f_e_idiv, ↓f_e_irem, ↓f_e_ishl, ↓f_e_ishr, ↓f_e_iushr, ↓f_e_i2c, ↓f_e_dup, ↓f_e_dup2, ↓f_e_pop, ↓f_e_goto, ↓f_e_ifCond, ↓f_e_if_icmp, ↓f_e_tableswitch, ↓f_e_lookupswitch, ↓f_e_getfield_i, ↓f_e_getfield_r, ↓f_e_putfield_i, ↓f_e_putfield_z, ↓f_e_iaload, ↓f_e_caload, ↓f_e_aaload, ↓f_e_iastore, ↓f_e_castore, ↓f_e_arraylength, ↓f_e_invokestatic, ↓f_e_invokevirtual, ↓f_e_ireturn, ↓f_e_return_, ↓f_s_i_c, ↓f_s_r_c, ↓f_s_v_i, ↓f_s_v_r, ↓f_s_l_0, ↓s_l_1, ↓s_l_2, ↓s_l_3, ↓s_l_4, ↓s_l_5, ↓s_l_6, ↓s_a_0, ↓s_a_1, ↓s_a_2, ↓s_a_3, ↓s_m_0, ↓f_s_m_i, ↓f_s_m_r, ↓f_s_m_i7, ↓f_s_m_r7, ↓f_s_m_i6, ↓f_s_m_r6, ↓f_s_m_i5, ↓f_s_m_r5, ↓f_s_m_i4, ↓f_s_m_r4, ↓f_s_w_n, ↓f_s_w_c, ↓f_s_p_eq, ↓f_s_p_ne, ↓f_s_p_lt, ↓f_s_p_ge, ↓f_s_p_gt, ↓f_s_p_le, ↓nk_i, ↓nk_z, ↓nk_c, ↓rf_s, ↓ov_s, ↓ov_n, ↓fin0, ↓fin1, ↓fin2, ↓fin3, cond_true, cond_false, List.set_cons_zero, List.set_cons_succ, List.length_cons, List.length_nil, true_and, and_true, true_or, or_true, implies_true, forall_const, not_true_eq_false, not_false_eq_true, false_implies, Nat.reduceAdd, Nat.reduceLT, Nat.reduceBEq, Nat.reduceEqDiff, Bool.or_false, Bool.false_or, Bool.or_true, Bool.true_or, beq_self_eq_true, Nat.reduceLeDiff, Nat.reduceMul, Nat.reduceSub, eq_self, Nat.reduceBneDiff, st0_s, st1_s, st2_s, st3_s, reduceCtorEq, cc_0, tl_0, cl_0, il_0, tl_1, cl_1, il_1, tl_2, cl_2, il_2, tl_3, cl_3, il_3, tl_4, cl_4, il_4, tl_5, cl_5, il_5, tl_6, cl_6, il_6, tl_7, cl_7, il_7, tl_8, cl_8, il_8, tl_9, cl_9, il_9, tl_10, cl_10, il_10, tl_11, cl_11, il_11, tl_12, cl_12, il_12, tl_13, cl_13, il_13, tl_14, cl_14, il_14, tl_15, cl_15, il_15, tl_16, cl_16, il_16, tl_20, tl_21, tl_25, tl_32, tl_48, tl_50, tl_57, tl_58, tl_59, tl_60, tl_99, tl_100, tl_101, tl_108, tl_109, tl_116, tl_120, tl_126, tl_374, tl_1122, tl_50000, i10, i01, tl_m1, tl_m2, tl_m3, tl_m4, nr_X1_answerOf, tX1_answerOf_0, tX1_answerOf_1, tX1_answerOf_2, tX1_answerOf_5, tX1_answerOf_8, tX1_answerOf_60, tX1_answerOf_61, tX1_answerOf_62, tX1_answerOf_65, tX1_answerOf_68, tX1_answerOf_69, tX1_answerOf_70, tX1_answerOf_71, tX1_answerOf_74, tX1_answerOf_75, tX1_answerOf_78, tX1_answerOf_81, tX1_answerOf_82, tX1_answerOf_83, tX1_answerOf_84, tX1_answerOf_87, tX1_answerOf_88, tX1_answerOf_91, tX1_answerOf_94, tX1_answerOf_95, tX1_answerOf_96, tX1_answerOf_99, tX1_answerOf_100, tX1_answerOf_101, tX1_answerOf_104, tX1_answerOf_105, tX1_answerOf_106, tX1_answerOf_107, tX1_answerOf_110, tX1_answerOf_113, pw_QK_s, h1, h2, h3, e2, e4, e5, b0, ↓w_signAt, ↓w_errL]
        refine ⟨hT, p, rfl, by omega, ?_⟩
        rw [hst, hs]
        exact ⟨fun z => absurd z (by decide), fun _ => ⟨fun z => absurd z (by decide), fun _ => ⟨fun z => absurd z (by decide), fun _ => ⟨fun _ => ⟨f2, hE, hA⟩, fun z => absurd rfl z⟩⟩⟩⟩
    · rw [hs, show rngS S 120 a c = true from rfl] at hN hY
      rw [show posS S 120 a c = (decide (vN S 10 < 4) && (nextS S).isSome) from rfl] at hN hY
      refine pw_go okX1_answerOf (cc [(49, (w_signAt e T len)), (12, (w_takeNext b S))]) ⟨Nat.le_refl _, Nat.le_refl _⟩ (cc_c (fun Ag I K h => ⟨0, Nat.le_of_ble_eq_true rfl, x_signAt hM h⟩) (cc_c (fun Ag I K h => ⟨3, Nat.le_of_ble_eq_true rfl, x_takeNext hB h⟩) cc_n)) (st0) 60 ?_
      simp only [↓f_vc_s, ↓vk_i, ↓cc_i, ↓reduceIte, f_vq_s, Bool.false_eq_true, ↓f_e_iconst, ↓f_e_bipush, ↓f_e_sipush, ↓f_e_ldc, ↓f_e_ldc_w, ↓f_e_iload_n, ↓f_e_iload, ↓f_e_aload_n, ↓f_e_aload, ↓f_e_istore_n, ↓f_e_istore, ↓f_e_astore_n, ↓f_e_astore, ↓f_e_iinc, ↓f_e_iadd, ↓f_e_isub, ↓f_e_imul, ↓f_e_iand, ↓f_e_ior, ↓f_e_ixor, ↓f_e_idiv, ↓f_e_irem, ↓f_e_ishl, ↓f_e_ishr, ↓f_e_iushr, ↓f_e_i2c, ↓f_e_dup, ↓f_e_dup2, ↓f_e_pop, ↓f_e_goto, ↓f_e_ifCond, ↓f_e_if_icmp, ↓f_e_tableswitch, ↓f_e_lookupswitch, ↓f_e_getfield_i, ↓f_e_getfield_r, ↓f_e_putfield_i, ↓f_e_putfield_z, ↓f_e_iaload, ↓f_e_caload, ↓f_e_aaload, ↓f_e_iastore, ↓f_e_castore, ↓f_e_arraylength, ↓f_e_invokestatic, ↓f_e_invokevirtual, ↓f_e_ireturn, ↓f_e_return_, ↓f_s_i_c, ↓f_s_r_c, ↓f_s_v_i, ↓f_s_v_r, ↓f_s_l_0, ↓s_l_1, ↓s_l_2, ↓s_l_3, ↓s_l_4, ↓s_l_5, ↓s_l_6, ↓s_a_0, ↓s_a_1, ↓s_a_2, ↓s_a_3, ↓s_m_0, ↓f_s_m_i, ↓f_s_m_r, ↓f_s_m_i7, ↓f_s_m_r7, ↓f_s_m_i6, ↓f_s_m_r6, ↓f_s_m_i5, ↓f_s_m_r5, ↓f_s_m_i4, ↓f_s_m_r4, ↓f_s_w_n, ↓f_s_w_c, ↓f_s_p_eq, ↓f_s_p_ne, ↓f_s_p_lt, ↓f_s_p_ge, ↓f_s_p_gt, ↓f_s_p_le, ↓nk_i, ↓nk_z, ↓nk_c, ↓rf_s, ↓ov_s, ↓ov_n, ↓fin0, ↓fin1, ↓fin2, ↓fin3, cond_true, cond_false, List.set_cons_zero, List.set_cons_succ, List.length_cons, List.length_nil, true_and, and_true, true_or, or_true, implies_true, forall_const, not_true_eq_false, not_false_eq_true, false_implies, Nat.reduceAdd, Nat.reduceLT, Nat.reduceBEq, Nat.reduceEqDiff, Bool.or_false, Bool.false_or, Bool.or_true, Bool.true_or, beq_self_eq_true, Nat.reduceLeDiff, Nat.reduceMul, Nat.reduceSub, eq_self, Nat.reduceBneDiff, st0_s, st1_s, st2_s, st3_s, reduceCtorEq, cc_0, tl_0, cl_0, il_0, tl_1, cl_1, il_1, tl_2, cl_2, il_2, tl_3, cl_3, il_3, tl_4, cl_4, il_4, tl_5, cl_5, il_5, tl_6, cl_6, il_6, tl_7, cl_7, il_7, tl_8, cl_8, il_8, tl_9, cl_9, il_9, tl_10, cl_10, il_10, tl_11, cl_11, il_11, tl_12, cl_12, il_12, tl_13, cl_13, il_13, tl_14, cl_14, il_14, tl_15, cl_15, il_15, tl_16, cl_16, il_16, tl_20, tl_21, tl_25, tl_32, tl_48, tl_50, tl_57, tl_58, tl_59, tl_60, tl_99, tl_100, tl_101, tl_108, tl_109, tl_116, tl_120, tl_126, tl_374, tl_1122, tl_50000, i10, i01, tl_m1, tl_m2, tl_m3, tl_m4, nr_X1_answerOf, tX1_answerOf_0, tX1_answerOf_1, tX1_answerOf_2, tX1_answerOf_5, tX1_answerOf_8, tX1_answerOf_60, tX1_answerOf_61, tX1_answerOf_62, tX1_answerOf_65, tX1_answerOf_68, tX1_answerOf_69, tX1_answerOf_70, tX1_answerOf_71, tX1_answerOf_74, tX1_answerOf_75, tX1_answerOf_78, tX1_answerOf_81, tX1_answerOf_82, tX1_answerOf_83, tX1_answerOf_84, tX1_answerOf_87, tX1_answerOf_88, tX1_answerOf_91, tX1_answerOf_94, tX1_answerOf_95, tX1_answerOf_96, tX1_answerOf_99, tX1_answerOf_100, tX1_answerOf_101, tX1_answerOf_104, tX1_answerOf_105, tX1_answerOf_106, tX1_answerOf_107, tX1_answerOf_110, tX1_answerOf_113, pw_QK_s, h1, h2, h3, e2, b0, ↓w_signAt, ↓w_takeNext]
      refine ⟨hT, p, rfl, by omega, ?_⟩
      rw [hst, hs]
      refine ⟨fun z => absurd z (by decide), fun _ => ⟨fun z => absurd z (by decide), fun _ => ⟨fun z => absurd z (by decide), fun _ => ⟨fun z => absurd z (by decide), fun _ => ⟨fun _ => ⟨hI, iT, iO, iW, iK, hR, fun z => hN rfl (by rw [decide_eq_false (by omega)]; rfl) (-3) (by decide) (by decide) I brdOK.rf hR, fun z z2 J hJ hRJ => hN rfl (by rw [z2]; simp) (-4) (by decide) (by decide) J hJ hRJ, fun k z z2 J hJ hRJ => ?_⟩, fun z => absurd rfl z⟩⟩⟩⟩⟩
      have hk := nextS_lt iO z2
      refine hY rfl (by rw [decide_eq_true z, z2]; rfl) _ (by rw [ti_nI (by omega)]; omega) J hJ ?_
      show RelB J b (match nextS S with
        | none => S
        | some k => goTakeS S k)
      rw [z2]
      exact hRJ
    · rw [hs, show rngS S 100 a c = true from rfl] at hN hY
      rw [show posS S 100 a c = decide (0 < vN S 10) from rfl] at hN hY
      rw [show doS S 100 a c = goDoneS S from rfl] at hY
      refine pw_go okX1_answerOf (cc [(49, (w_signAt e T len)), (13, (w_endService b S))]) ⟨Nat.le_refl _, Nat.le_refl _⟩ (cc_c (fun Ag I K h => ⟨0, Nat.le_of_ble_eq_true rfl, x_signAt hM h⟩) (cc_c (fun Ag I K h => ⟨2, Nat.le_of_ble_eq_true rfl, x_endService hB h⟩) cc_n)) (st0) 60 ?_
      simp only [↓f_vc_s, ↓vk_i, ↓cc_i, ↓reduceIte, f_vq_s, Bool.false_eq_true, ↓f_e_iconst, ↓f_e_bipush, ↓f_e_sipush, ↓f_e_ldc, ↓f_e_ldc_w, ↓f_e_iload_n, ↓f_e_iload, ↓f_e_aload_n, ↓f_e_aload, ↓f_e_istore_n, ↓f_e_istore, ↓f_e_astore_n, ↓f_e_astore, ↓f_e_iinc, ↓f_e_iadd, ↓f_e_isub, ↓f_e_imul, ↓f_e_iand, ↓f_e_ior, ↓f_e_ixor, ↓f_e_idiv, ↓f_e_irem, ↓f_e_ishl, ↓f_e_ishr, ↓f_e_iushr, ↓f_e_i2c, ↓f_e_dup, ↓f_e_dup2, ↓f_e_pop, ↓f_e_goto, ↓f_e_ifCond, ↓f_e_if_icmp, ↓f_e_tableswitch, ↓f_e_lookupswitch, ↓f_e_getfield_i, ↓f_e_getfield_r, ↓f_e_putfield_i, ↓f_e_putfield_z, ↓f_e_iaload, ↓f_e_caload, ↓f_e_aaload, ↓f_e_iastore, ↓f_e_castore, ↓f_e_arraylength, ↓f_e_invokestatic, ↓f_e_invokevirtual, ↓f_e_ireturn, ↓f_e_return_, ↓f_s_i_c, ↓f_s_r_c, ↓f_s_v_i, ↓f_s_v_r, ↓f_s_l_0, ↓s_l_1, ↓s_l_2, ↓s_l_3, ↓s_l_4, ↓s_l_5, ↓s_l_6, ↓s_a_0, ↓s_a_1, ↓s_a_2, ↓s_a_3, ↓s_m_0, ↓f_s_m_i, ↓f_s_m_r, ↓f_s_m_i7, ↓f_s_m_r7, ↓f_s_m_i6, ↓f_s_m_r6, ↓f_s_m_i5, ↓f_s_m_r5, ↓f_s_m_i4, ↓f_s_m_r4, ↓f_s_w_n, ↓f_s_w_c, ↓f_s_p_eq, ↓f_s_p_ne, ↓f_s_p_lt, ↓f_s_p_ge, ↓f_s_p_gt, ↓f_s_p_le, ↓nk_i, ↓nk_z, ↓nk_c, ↓rf_s, ↓ov_s, ↓ov_n, ↓fin0, ↓fin1, ↓fin2, ↓fin3, cond_true, cond_false, List.set_cons_zero, List.set_cons_succ, List.length_cons, List.length_nil, true_and, and_true, true_or, or_true, implies_true, forall_const, not_true_eq_false, not_false_eq_true, false_implies, Nat.reduceAdd, Nat.reduceLT, Nat.reduceBEq, Nat.reduceEqDiff, Bool.or_false, Bool.false_or, Bool.or_true, Bool.true_or, beq_self_eq_true, Nat.reduceLeDiff, Nat.reduceMul, Nat.reduceSub, eq_self, Nat.reduceBneDiff, st0_s, st1_s, st2_s, st3_s, reduceCtorEq, cc_0, tl_0, cl_0, il_0, tl_1, cl_1, il_1, tl_2, cl_2, il_2, tl_3, cl_3, il_3, tl_4, cl_4, il_4, tl_5, cl_5, il_5, tl_6, cl_6, il_6, tl_7, cl_7, il_7, tl_8, cl_8, il_8, tl_9, cl_9, il_9, tl_10, cl_10, il_10, tl_11, cl_11, il_11, tl_12, cl_12, il_12, tl_13, cl_13, il_13, tl_14, cl_14, il_14, tl_15, cl_15, il_15, tl_16, cl_16, il_16, tl_20, tl_21, tl_25, tl_32, tl_48, tl_50, tl_57, tl_58, tl_59, tl_60, tl_99, tl_100, tl_101, tl_108, tl_109, tl_116, tl_120, tl_126, tl_374, tl_1122, tl_50000, i10, i01, tl_m1, tl_m2, tl_m3, tl_m4, nr_X1_answerOf, tX1_answerOf_0, tX1_answerOf_1, tX1_answerOf_2, tX1_answerOf_5, tX1_answerOf_8, tX1_answerOf_60, tX1_answerOf_61, tX1_answerOf_62, tX1_answerOf_65, tX1_answerOf_68, tX1_answerOf_69, tX1_answerOf_70, tX1_answerOf_71, tX1_answerOf_74, tX1_answerOf_75, tX1_answerOf_78, tX1_answerOf_81, tX1_answerOf_82, tX1_answerOf_83, tX1_answerOf_84, tX1_answerOf_87, tX1_answerOf_88, tX1_answerOf_91, tX1_answerOf_94, tX1_answerOf_95, tX1_answerOf_96, tX1_answerOf_99, tX1_answerOf_100, tX1_answerOf_101, tX1_answerOf_104, tX1_answerOf_105, tX1_answerOf_106, tX1_answerOf_107, tX1_answerOf_110, tX1_answerOf_113, pw_QK_s, h1, h2, h3, e2, b0, ↓w_signAt, ↓w_endService]
      refine ⟨hT, p, rfl, by omega, ?_⟩
      rw [hst, hs]
      refine ⟨fun _ => ⟨hI, iD, hR, fun z => hN rfl (decide_eq_false (by omega)) (-2) (by decide) (by decide) I brdOK.rf hR, fun z J hJ hRJ => ?_⟩, fun z => absurd rfl z⟩
      have h10 := hI.2.2.1.2
      have hk := (hI.2.2.2.2.2.2.1 (vN S 10 - 1) (by omega)).2
      exact hY rfl (decide_eq_true (by omega)) _ (by rw [ti_nI (by omega)]; omega) J hJ hRJ
    · have e4 := e4 (by rw [hs]; decide)
      rw [hs, show rngS S 116 a c = decide (0 < a) from rfl] at hA hN hY
      rw [show posS S 116 a c = decide ((S 0).toInt + a ≤ 50000) from rfl] at hN hY
      rw [show doS S 116 a c = goTicksS S a from rfl] at hY
      refine pw_go okX1_answerOf (cc [(49, (w_signAt e T len)), (14, (w_passTicks b S))]) ⟨Nat.le_refl _, Nat.le_refl _⟩ (cc_c (fun Ag I K h => ⟨0, Nat.le_of_ble_eq_true rfl, x_signAt hM h⟩) (cc_c (fun Ag I K h => ⟨2, Nat.le_of_ble_eq_true rfl, x_passTicks hB h⟩) cc_n)) (st0) 60 ?_
      simp only [↓f_vc_s, ↓vk_i, ↓cc_i, ↓reduceIte, f_vq_s, Bool.false_eq_true, ↓f_e_iconst, ↓f_e_bipush, ↓f_e_sipush, ↓f_e_ldc, ↓f_e_ldc_w, ↓f_e_iload_n, ↓f_e_iload, ↓f_e_aload_n, ↓f_e_aload, ↓f_e_istore_n, ↓f_e_istore, ↓f_e_astore_n, ↓f_e_astore, ↓f_e_iinc, ↓f_e_iadd, ↓f_e_isub, ↓f_e_imul, ↓f_e_iand, ↓f_e_ior, ↓f_e_ixor, ↓f_e_idiv, ↓f_e_irem, ↓f_e_ishl, ↓f_e_ishr, ↓f_e_iushr, ↓f_e_i2c, ↓f_e_dup, ↓f_e_dup2, ↓f_e_pop, ↓f_e_goto, ↓f_e_ifCond, ↓f_e_if_icmp, ↓f_e_tableswitch, ↓f_e_lookupswitch, ↓f_e_getfield_i, ↓f_e_getfield_r, ↓f_e_putfield_i, ↓f_e_putfield_z, ↓f_e_iaload, ↓f_e_caload, ↓f_e_aaload, ↓f_e_iastore, ↓f_e_castore, ↓f_e_arraylength, ↓f_e_invokestatic, ↓f_e_invokevirtual, ↓f_e_ireturn, ↓f_e_return_, ↓f_s_i_c, ↓f_s_r_c, ↓f_s_v_i, ↓f_s_v_r, ↓f_s_l_0, ↓s_l_1, ↓s_l_2, ↓s_l_3, ↓s_l_4, ↓s_l_5, ↓s_l_6, ↓s_a_0, ↓s_a_1, ↓s_a_2, ↓s_a_3, ↓s_m_0, ↓f_s_m_i, ↓f_s_m_r, ↓f_s_m_i7, ↓f_s_m_r7, ↓f_s_m_i6, ↓f_s_m_r6, ↓f_s_m_i5, ↓f_s_m_r5, ↓f_s_m_i4, ↓f_s_m_r4, ↓f_s_w_n, ↓f_s_w_c, ↓f_s_p_eq, ↓f_s_p_ne, ↓f_s_p_lt, ↓f_s_p_ge, ↓f_s_p_gt, ↓f_s_p_le, ↓nk_i, ↓nk_z, ↓nk_c, ↓rf_s, ↓ov_s, ↓ov_n, ↓fin0, ↓fin1, ↓fin2, ↓fin3, cond_true, cond_false, List.set_cons_zero, List.set_cons_succ, List.length_cons, List.length_nil, true_and, and_true, true_or, or_true, implies_true, forall_const, not_true_eq_false, not_false_eq_true, false_implies, Nat.reduceAdd, Nat.reduceLT, Nat.reduceBEq, Nat.reduceEqDiff, Bool.or_false, Bool.false_or, Bool.or_true, Bool.true_or, beq_self_eq_true, Nat.reduceLeDiff, Nat.reduceMul, Nat.reduceSub, eq_self, Nat.reduceBneDiff, st0_s, st1_s, st2_s, st3_s, reduceCtorEq, cc_0, tl_0, cl_0, il_0, tl_1, cl_1, il_1, tl_2, cl_2, il_2, tl_3, cl_3, il_3, tl_4, cl_4, il_4, tl_5, cl_5, il_5, tl_6, cl_6, il_6, tl_7, cl_7, il_7, tl_8, cl_8, il_8, tl_9, cl_9, il_9, tl_10, cl_10, il_10, tl_11, cl_11, il_11, tl_12, cl_12, il_12, tl_13, cl_13, il_13, tl_14, cl_14, il_14, tl_15, cl_15, il_15, tl_16, cl_16, il_16, tl_20, tl_21, tl_25, tl_32, tl_48, tl_50, tl_57, tl_58, tl_59, tl_60, tl_99, tl_100, tl_101, tl_108, tl_109, tl_116, tl_120, tl_126, tl_374, tl_1122, tl_50000, i10, i01, tl_m1, tl_m2, tl_m3, tl_m4, nr_X1_answerOf, tX1_answerOf_0, tX1_answerOf_1, tX1_answerOf_2, tX1_answerOf_5, tX1_answerOf_8, tX1_answerOf_60, tX1_answerOf_61, tX1_answerOf_62, tX1_answerOf_65, tX1_answerOf_68, tX1_answerOf_69, tX1_answerOf_70, tX1_answerOf_71, tX1_answerOf_74, tX1_answerOf_75, tX1_answerOf_78, tX1_answerOf_81, tX1_answerOf_82, tX1_answerOf_83, tX1_answerOf_84, tX1_answerOf_87, tX1_answerOf_88, tX1_answerOf_91, tX1_answerOf_94, tX1_answerOf_95, tX1_answerOf_96, tX1_answerOf_99, tX1_answerOf_100, tX1_answerOf_101, tX1_answerOf_104, tX1_answerOf_105, tX1_answerOf_106, tX1_answerOf_107, tX1_answerOf_110, tX1_answerOf_113, pw_QK_s, h1, h2, h3, e2, e4, b0, ↓w_signAt, ↓w_passTicks]
      refine ⟨hT, p, rfl, by omega, ?_⟩
      rw [hst, hs]
      refine ⟨fun z => absurd z (by decide), fun _ => ⟨fun z => absurd z (by decide), fun _ => ⟨fun z => absurd z (by decide), fun _ => ⟨fun z => absurd z (by decide), fun _ => ⟨fun z => absurd z (by decide), fun _ => ⟨hI, hR, fun z => hA (decide_eq_false (by rw [ta] at z; omega)), fun z z2 => hN (decide_eq_true (by rw [ta] at z; omega)) (decide_eq_false (by rw [ta] at z2; omega)) (-3) (by decide) (by decide) I brdOK.rf hR, fun z z2 J hJ hRJ => ?_⟩⟩⟩⟩⟩⟩
      rw [ta] at z z2
      obtain ⟨q1, q2⟩ := tick_ack hI (t := a) (by omega) ha
      rw [q1] at hRJ
      refine hY (decide_eq_true (by omega)) (decide_eq_true (by omega)) _ ?_ J hJ hRJ
      have cnt : ∀ (f : Nat → Bool) (m : Nat), m ≤ 16 → 0 ≤ (sumF (fun i => bif f i then (1 : Int32) else 0) m).toInt ∧ (sumF (fun i => bif f i then (1 : Int32) else 0) m).toInt ≤ m := by
        intro f m
        induction m with
        | zero => intro _; show 0 ≤ (0 : Int32).toInt ∧ (0 : Int32).toInt ≤ (0 : Int); decide
        | succ m ih =>
          intro hm
          have i1 := ih (by omega)
          rw [sumF]
          have hb : (bif f m then (1 : Int32) else 0).toInt = 0 ∨ (bif f m then (1 : Int32) else 0).toInt = 1 := by
            cases f m
            · exact Or.inl rfl
            · exact Or.inr rfl
          rw [ti_add (by omega) (by omega)]
          omega
      exact (cnt _ _ h4.2).1
  · exact h.elim
end RUO
