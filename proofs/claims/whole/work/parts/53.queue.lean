/-! the class's board: ticks pass; a line waits for its acknowledge -/
section QUE
variable {n base b : Nat} {sh : pw_Sh} {P : pw_P} {Ag : List Value} {I : pw_I} {S : Nat → Int32} {K : Option Value → pw_I → Prop}
theorem InvB.tim {S : Nat → Int32} {x : Int32} (h : InvB S) (hx : 0 ≤ x.toInt ∧ x.toInt ≤ 50000) : InvB (upd S 0 x) := by
  have a4 := h.2.2.2.1
  have a6 := h.2.2.2.2.2.1
  refine h.to (upd_n (by omega)) (upd_n (by omega)) (fun i h1 h2 => upd_n (by omega)) (fun i hi => ⟨upd_n (by omega), ?_, ?_, upd_n (by omega)⟩) (fun i hi => ?_) ?_
  · rw [upd_n (by omega)]; exact (a4 i hi).1
  · rw [upd_n (by omega)]; exact (a4 i hi).2.1
  · rw [upd_n (by omega), upd_n (by omega), upd_n (by omega), upd_n (by omega), upd_n (by omega), upd_n (by omega)]
    exact ⟨rfl, rfl, (a6 i hi).2.2⟩
  · rw [upd_s, upd_n (by omega), upd_n (by omega)]
    exact ⟨hx, h.2.2.2.2.2.2.2.2⟩
def w_passTicks (b : Nat) (S : Nat → Int32) : pw_Wp := fun Ag I K => match Ag with
  | [.ref o, .int x] => o = b ∧ InvB S ∧ RelB I b S ∧ (¬ (1 ≤ x.toInt ∧ x.toInt ≤ 99) → K (some (.int (-1))) I) ∧ (1 ≤ x.toInt ∧ x.toInt ≤ 99 → 50000 < (S 0).toInt + x.toInt → K (some (.int (-3))) I) ∧
    (1 ≤ x.toInt ∧ x.toInt ≤ 99 → ¬ 50000 < (S 0).toInt + x.toInt → ∀ J, brdOK b I J → RelB J b (ackB (upd S 0 (S 0 + x))) → K (some (.int (ackC (upd S 0 (S 0 + x)) (vN S 4)))) J)
  | _ => False
set_option maxRecDepth 100000 in
set_option maxHeartbeats 4000000 in
theorem x_passTicks (hM : pw_brd sh P b) (h : w_passTicks b S Ag I K) : pw_ok mX0_passTicks 2 base n sh P Ag I K := by
  unfold w_passTicks at h
  split at h
  · rename_i o x
    obtain ⟨rfl, hI, hR, hA, hB, hC⟩ := h
    have b0 := hM.1
    obtain ⟨f1, f2, f3, f4, f5, f6, f7⟩ := hR.1
    have ht := hI.t0
    refine pw_bd [_, _] pl_X0 c_ri rfl rfl ?_
    have v4 : ∀ y, vN (upd S 0 y) 4 = vN S 4 := fun y => by unfold vN; rw [upd_n (by omega)]
    refine pw_go okX0_passTicks (cc [(16, (w_acknowledgeDue o (upd S 0 (S 0 + x))))]) ⟨Nat.le_refl _, Nat.le_refl _⟩ (cc_c (fun Ag I K h => ⟨1, Nat.le_of_ble_eq_true rfl, x_acknowledgeDue hM h⟩) cc_n) (st0) 60 ?_
    simp only [↓f_vc_s, ↓vk_i, ↓cc_i, ↓reduceIte, f_vq_s, Bool.false_eq_true, ↓f_e_iconst, ↓f_e_bipush, ↓f_e_sipush, ↓f_e_ldc, ↓f_e_ldc_w, ↓f_e_iload_n, ↓f_e_iload, ↓f_e_aload_n, ↓f_e_aload, ↓f_e_istore_n, ↓f_e_istore, ↓f_e_astore_n, ↓f_e_astore, ↓f_e_iinc, ↓f_e_iadd, ↓f_e_isub, ↓f_e_imul, ↓f_e_iand, ↓f_e_ior, ↓f_e_ixor, ↓f_e_idiv, ↓f_e_irem, ↓f_e_ishl, ↓f_e_ishr, ↓f_e_iushr, ↓f_e_i2c, ↓f_e_dup, ↓f_e_dup2, ↓f_e_pop, ↓f_e_goto, ↓f_e_ifCond, ↓f_e_if_icmp, ↓f_e_tableswitch, ↓f_e_lookupswitch, ↓f_e_getfield_i, ↓f_e_getfield_r, ↓f_e_putfield_i, ↓f_e_putfield_z, ↓f_e_iaload, ↓f_e_caload, ↓f_e_aaload, ↓f_e_iastore, ↓f_e_castore, ↓f_e_arraylength, ↓f_e_invokestatic, ↓f_e_invokevirtual, ↓f_e_ireturn, ↓f_e_return_, ↓f_s_i_c, ↓f_s_r_c, ↓f_s_v_i, ↓f_s_v_r, ↓f_s_l_0, ↓s_l_1, ↓s_l_2, ↓s_l_3, ↓s_l_4, ↓s_l_5, ↓s_l_6, ↓s_a_0, ↓s_a_1, ↓s_a_2, ↓s_a_3, ↓s_m_0, ↓f_s_m_i, ↓f_s_m_r, ↓f_s_m_i7, ↓f_s_m_r7, ↓f_s_m_i6, ↓f_s_m_r6, ↓f_s_m_i5, ↓f_s_m_r5, ↓f_s_m_i4, ↓f_s_m_r4, ↓f_s_w_n, ↓f_s_w_c, ↓f_s_p_eq, ↓f_s_p_ne, ↓f_s_p_lt, ↓f_s_p_ge, ↓f_s_p_gt, ↓f_s_p_le, ↓nk_i, ↓nk_z, ↓nk_c, ↓rf_s, ↓ov_s, ↓ov_n, ↓fin0, ↓fin1, ↓fin2, ↓fin3, cond_true, cond_false, List.set_cons_zero, List.set_cons_succ, List.length_cons, List.length_nil, true_and, and_true, true_or, or_true, implies_true, forall_const, not_true_eq_false, not_false_eq_true, false_implies, Nat.reduceAdd, Nat.reduceLT, Nat.reduceBEq, Nat.reduceEqDiff, Bool.or_false, Bool.false_or, Bool.or_true, Bool.true_or, beq_self_eq_true, Nat.reduceLeDiff, Nat.reduceMul, Nat.reduceSub, eq_self, Nat.reduceBneDiff, st0_s, st1_s, st2_s, st3_s, reduceCtorEq, cc_0, tl_0, cl_0, il_0, tl_1, cl_1, il_1, tl_2, cl_2, il_2, tl_3, cl_3, il_3, tl_4, cl_4, il_4, tl_5, cl_5, il_5, tl_6, cl_6, il_6, tl_7, cl_7, il_7, tl_8, cl_8, il_8, tl_9, cl_9, il_9, tl_10, cl_10, il_10, tl_11, cl_11, il_11, tl_12, cl_12, il_12, tl_13, cl_13, il_13, tl_14, cl_14, il_14, tl_15, cl_15, il_15, tl_16, cl_16, il_16, tl_20, tl_21, tl_25, tl_32, tl_48, tl_50, tl_57, tl_58, tl_59, tl_60, tl_99, tl_100, tl_101, tl_108, tl_109, tl_116, tl_120, tl_126, tl_374, tl_1122, tl_50000, i10, i01, tl_m1, tl_m2, tl_m3, tl_m4, nr_X0_passTicks, tX0_passTicks_0, tX0_passTicks_1, tX0_passTicks_2, tX0_passTicks_5, tX0_passTicks_6, tX0_passTicks_8, tX0_passTicks_11, tX0_passTicks_12, tX0_passTicks_13, tX0_passTicks_14, tX0_passTicks_17, tX0_passTicks_18, tX0_passTicks_19, tX0_passTicks_21, tX0_passTicks_24, tX0_passTicks_26, tX0_passTicks_27, tX0_passTicks_28, tX0_passTicks_29, tX0_passTicks_32, tX0_passTicks_33, tX0_passTicks_34, tX0_passTicks_37, tX0_passTicks_38, tX0_passTicks_41, pw_QK_s, b0, f4, ↓w_acknowledgeDue]
    simp only [ti_lt, ti_le]
    rw [v4]
    have fin : 1 ≤ x.toInt ∧ x.toInt ≤ 99 → ¬ 50000 < (S 0).toInt + x.toInt → InvB (upd S 0 (S 0 + x)) ∧ RelB (pw_up I o 5 (S 0 + x)) o (upd S 0 (S 0 + x)) ∧ ∀ J, brdOK o (pw_up I o 5 (S 0 + x)) J → RelB J o (ackB (upd S 0 (S 0 + x))) → K (some (.int (ackC (upd S 0 (S 0 + x)) (vN S 4)))) J := fun q q2 => by
      have hx := ti_add (x := S 0) (y := x) (by omega) (by omega)
      refine ⟨hI.tim (by omega), hR.dir (fun a h => by rw [up_set, set_n h]) (fun k hk => upd_n (by omega)) ?_, fun J hJ => hC q q2 J (fun a h => (hJ a h).trans (brdOK.up a h))⟩
      unfold relF
      rw [up_n (by omega), up_n (by omega), up_n (by omega), up_r, up_n (by omega), up_n (by omega), up_n (by omega), upd_n (by omega), upd_n (by omega), upd_s, upd_n (by omega), upd_n (by omega), upd_n (by omega)]
      exact ⟨f1, f2, f3, rfl, f5, f6, f7⟩
    by_cases q : 1 ≤ x.toInt ∧ x.toInt ≤ 99
    · have hx := ti_add (x := S 0) (y := x) (by omega) (by omega)
      rw [hx]
      by_cases q2 : 50000 < (S 0).toInt + x.toInt
      · refine ⟨fun z => absurd z (by show ¬ _ < (1 : Int); omega), fun _ => ⟨fun _ => ⟨fun z => absurd z (by show ¬ _ ≤ (50000 : Int); omega), fun _ => hB q q2⟩, fun z => absurd q.2 z⟩⟩
      · refine ⟨fun z => absurd z (by show ¬ _ < (1 : Int); omega), fun _ => ⟨fun _ => ⟨fun z => fin q q2, fun z => absurd (by show _ ≤ (50000 : Int); omega) z⟩, fun z => absurd q.2 z⟩⟩
    · have hA := hA q
      refine ⟨fun _ => hA, fun z => ⟨fun z2 => absurd ⟨by have z : ¬ _ < (1 : Int) := z; omega, z2⟩ q, fun _ => hA⟩⟩
  · exact h.elim
def w_queueAcknowledge (b : Nat) : pw_Wp := fun Ag I K => match Ag with
  | [.ref o, .int x] => o = b ∧ ∃ (k : Nat) (W : List Nat) (N : Nat), x = nI k ∧ k < 16 ∧ W.length ≤ 15 ∧ (∀ i ∈ W, i < N) ∧ N ≤ 16 ∧ I b 3 = nI N ∧ I (b + 39) 1 = nI W.length ∧ (∀ i k, W[i]? = some k → I (b + 40) i = nI k) ∧
    ∀ p, p ≤ W.length → (∀ i x, i < p → W[i]? = some x → I (b + 21 + x) 11 ≤ I (b + 21 + k) 11) → (∀ x, W[p]? = some x → I (b + 21 + k) 11 < I (b + 21 + x) 11) →
      K none (pw_set (pw_set I (b + 40) (insF (I (b + 40)) p W.length (nI k))) (b + 39) (upd (I (b + 39)) 1 (nI (W.length + 1))))
  | _ => False
set_option maxRecDepth 100000 in
set_option maxHeartbeats 4000000 in
theorem x_queueAcknowledge (hM : pw_brd sh P b) (h : w_queueAcknowledge b Ag I K) : pw_ok mX0_queueAcknowledge 1 base n sh P Ag I K := by
  unfold w_queueAcknowledge at h
  split at h
  · rename_i o x
    obtain ⟨rfl, k, W, N, rfl, hk, hW, hWN, hN, f2, e39, e40, hA⟩ := h
    obtain ⟨b0, ⟨b1, b2⟩, bN, ⟨b3, b4⟩, bL, -, ⟨b5, b6⟩, -⟩ := id hM
    obtain ⟨l1, l2⟩ := bL k hk
    have ck : (nI k).toNatClampNeg = k := cl_nI (by omega)
    have tw : (nI W.length).toInt = (W.length : Int) := ti_nI (by omega)
    have tN : (nI N).toInt = (N : Int) := ti_nI (by omega)
    refine pw_bd [_, _, _, _, _, _] pl_X0 c_ri rfl rfl ?_
    have loop : ∀ (j p : Nat) (u : Int32), j ≤ W.length → p ≤ W.length → u = nI j - 1 → (∀ i x, j ≤ i → i < p → W[i]? = some x → I (o + 21 + x) 11 ≤ I (o + 21 + k) 11) → (∀ x, W[p]? = some x → I (o + 21 + k) 11 < I (o + 21 + x) 11) →
        PW (mX0_queueAcknowledge, 1, 0, 0, none, base) n sh P I 0 0 29 [some (.ref o), some (.int (nI k)), some (.int (I (o + 21 + k) 11)), some (.int (nI p)), some (.int u), none] [] (pw_QK n sh P K) := by
      intro j
      induction j with
      | zero =>
        intro p u hj hp hu h1 h2
        subst hu
        refine pw_go okX0_queueAcknowledge (cc [(61, (w_insert (o + 39) (o + 40)))]) ⟨Nat.le_refl _, Nat.le_refl _⟩ (cc_c (fun Ag I K h => ⟨0, Nat.le_of_ble_eq_true rfl, x_insert b6 h⟩) cc_n) (st1 29) 60 ?_
        simp only [↓f_vc_s, ↓vk_i, ↓cc_i, ↓reduceIte, f_vq_s, Bool.false_eq_true, ↓f_e_iconst, ↓f_e_bipush, ↓f_e_sipush, ↓f_e_ldc, ↓f_e_ldc_w, ↓f_e_iload_n, ↓f_e_iload, ↓f_e_aload_n, ↓f_e_aload, ↓f_e_istore_n, ↓f_e_istore, ↓f_e_astore_n, ↓f_e_astore, ↓f_e_iinc, ↓f_e_iadd, ↓f_e_isub, ↓f_e_imul, ↓f_e_iand, ↓f_e_ior, ↓f_e_ixor, ↓f_e_idiv, ↓f_e_irem, ↓f_e_ishl, ↓f_e_ishr, ↓f_e_iushr, ↓f_e_i2c, ↓f_e_dup, ↓f_e_dup2, ↓f_e_pop, ↓f_e_goto, ↓f_e_ifCond, ↓f_e_if_icmp, ↓f_e_tableswitch, ↓f_e_lookupswitch, ↓f_e_getfield_i, ↓f_e_getfield_r, ↓f_e_putfield_i, ↓f_e_putfield_z, ↓f_e_iaload, ↓f_e_caload, ↓f_e_aaload, ↓f_e_iastore, ↓f_e_castore, ↓f_e_arraylength, ↓f_e_invokestatic, ↓f_e_invokevirtual, ↓f_e_ireturn, ↓f_e_return_, ↓f_s_i_c, ↓f_s_r_c, ↓f_s_v_i, ↓f_s_v_r, ↓f_s_l_0, ↓s_l_1, ↓s_l_2, ↓s_l_3, ↓s_l_4, ↓s_l_5, ↓s_l_6, ↓s_a_0, ↓s_a_1, ↓s_a_2, ↓s_a_3, ↓s_m_0, ↓f_s_m_i, ↓f_s_m_r, ↓f_s_m_i7, ↓f_s_m_r7, ↓f_s_m_i6, ↓f_s_m_r6, ↓f_s_m_i5, ↓f_s_m_r5, ↓f_s_m_i4, ↓f_s_m_r4, ↓f_s_w_n, ↓f_s_w_c, ↓f_s_p_eq, ↓f_s_p_ne, ↓f_s_p_lt, ↓f_s_p_ge, ↓f_s_p_gt, ↓f_s_p_le, ↓nk_i, ↓nk_z, ↓nk_c, ↓rf_s, ↓ov_s, ↓ov_n, ↓fin0, ↓fin1, ↓fin2, ↓fin3, cond_true, cond_false, List.set_cons_zero, List.set_cons_succ, List.length_cons, List.length_nil, true_and, and_true, true_or, or_true, implies_true, forall_const, not_true_eq_false, not_false_eq_true, false_implies, Nat.reduceAdd, Nat.reduceLT, Nat.reduceBEq, Nat.reduceEqDiff, Bool.or_false, Bool.false_or, Bool.or_true, Bool.true_or, beq_self_eq_true, Nat.reduceLeDiff, Nat.reduceMul, Nat.reduceSub, eq_self, Nat.reduceBneDiff, st0_s, st1_s, st2_s, st3_s, reduceCtorEq, cc_0, tl_0, cl_0, il_0, tl_1, cl_1, il_1, tl_2, cl_2, il_2, tl_3, cl_3, il_3, tl_4, cl_4, il_4, tl_5, cl_5, il_5, tl_6, cl_6, il_6, tl_7, cl_7, il_7, tl_8, cl_8, il_8, tl_9, cl_9, il_9, tl_10, cl_10, il_10, tl_11, cl_11, il_11, tl_12, cl_12, il_12, tl_13, cl_13, il_13, tl_14, cl_14, il_14, tl_15, cl_15, il_15, tl_16, cl_16, il_16, tl_20, tl_21, tl_25, tl_32, tl_48, tl_50, tl_57, tl_58, tl_59, tl_60, tl_99, tl_100, tl_101, tl_108, tl_109, tl_116, tl_120, tl_126, tl_374, tl_1122, tl_50000, i10, i01, tl_m1, tl_m2, tl_m3, tl_m4, nr_X0_queueAcknowledge, tX0_queueAcknowledge_0, tX0_queueAcknowledge_1, tX0_queueAcknowledge_4, tX0_queueAcknowledge_5, tX0_queueAcknowledge_6, tX0_queueAcknowledge_9, tX0_queueAcknowledge_10, tX0_queueAcknowledge_11, tX0_queueAcknowledge_14, tX0_queueAcknowledge_17, tX0_queueAcknowledge_18, tX0_queueAcknowledge_19, tX0_queueAcknowledge_22, tX0_queueAcknowledge_25, tX0_queueAcknowledge_26, tX0_queueAcknowledge_27, tX0_queueAcknowledge_29, tX0_queueAcknowledge_31, tX0_queueAcknowledge_34, tX0_queueAcknowledge_35, tX0_queueAcknowledge_38, tX0_queueAcknowledge_40, tX0_queueAcknowledge_43, tX0_queueAcknowledge_45, tX0_queueAcknowledge_46, tX0_queueAcknowledge_48, tX0_queueAcknowledge_51, tX0_queueAcknowledge_54, tX0_queueAcknowledge_55, tX0_queueAcknowledge_58, tX0_queueAcknowledge_60, tX0_queueAcknowledge_61, tX0_queueAcknowledge_64, tX0_queueAcknowledge_65, tX0_queueAcknowledge_68, tX0_queueAcknowledge_70, tX0_queueAcknowledge_71, tX0_queueAcknowledge_74, tX0_queueAcknowledge_77, tX0_queueAcknowledge_78, tX0_queueAcknowledge_81, tX0_queueAcknowledge_82, tX0_queueAcknowledge_83, tX0_queueAcknowledge_86, pw_QK_s, b0, b5, b6.1, ↓w_insert]
        refine ⟨fun _ => ⟨W.length, p, e39, by omega, rfl, hp, hA p hp (fun i x hi hx => h1 i x (by omega) hi hx) h2⟩, fun q => absurd (by decide) q⟩
      | succ j ih =>
        intro p u hj hp hu h1 h2
        have m1 : u = nI j := by rw [hu]; exact pk_sub (a := j + 1) (b := 1) (by omega)
        subst m1
        have hjl : j < W.length := by omega
        obtain ⟨x, hx⟩ : ∃ x, W[j]? = some x := ⟨_, List.getElem?_eq_getElem hjl⟩
        have hxN := hWN x (List.mem_of_getElem? hx)
        have ex := e40 j x hx
        have hx16 : x < 16 := by omega
        obtain ⟨lx1, lx2⟩ := bL x hx16
        have cx : (nI x).toNatClampNeg = x := cl_nI (by omega)
        have cj : (nI j).toNatClampNeg = j := cl_nI (by omega)
        have tx : (nI x).toInt = (x : Int) := ti_nI (by omega)
        have tj : (nI j).toInt = (j : Int) := ti_nI (by omega)
        have nx : ∀ p', p' ≤ W.length → (∀ i x, j ≤ i → i < p' → W[i]? = some x → I (o + 21 + x) 11 ≤ I (o + 21 + k) 11) → (∀ x, W[p']? = some x → I (o + 21 + k) 11 < I (o + 21 + x) 11) → PW (mX0_queueAcknowledge, 1, 0, 0, none, base) n sh P I 0 0 29 [some (.ref o), some (.int (nI k)), some (.int (I (o + 21 + k) 11)), some (.int (nI p')), some (.int (nI j + -1)), none] [] (pw_QK n sh P K) := fun p' a1 a2 a3 => ih p' _ (by omega) a1 (Int32.sub_eq_add_neg _ _).symm a2 a3
        refine pw_go okX0_queueAcknowledge (cc [(60, (w_get (o + 39) (o + 40))), (3, (fun Ag I K => w_hasLine o (fun _ => nI N) Ag I K))]) ⟨Nat.le_refl _, Nat.le_refl _⟩ (cc_c (fun Ag I K h => ⟨0, Nat.le_of_ble_eq_true rfl, x_get b6 h⟩) (cc_c (fun Ag I K h => ⟨0, Nat.le_of_ble_eq_true rfl, x_hasLine hM h⟩) cc_n)) (st1 29) 60 ?_
        simp only [↓f_vc_s, ↓vk_i, ↓cc_i, ↓reduceIte, f_vq_s, Bool.false_eq_true, ↓f_e_iconst, ↓f_e_bipush, ↓f_e_sipush, ↓f_e_ldc, ↓f_e_ldc_w, ↓f_e_iload_n, ↓f_e_iload, ↓f_e_aload_n, ↓f_e_aload, ↓f_e_istore_n, ↓f_e_istore, ↓f_e_astore_n, ↓f_e_astore, ↓f_e_iinc, ↓f_e_iadd, ↓f_e_isub, ↓f_e_imul, ↓f_e_iand, ↓f_e_ior, ↓f_e_ixor, ↓f_e_idiv, ↓f_e_irem, ↓f_e_ishl, ↓f_e_ishr, ↓f_e_iushr, ↓f_e_i2c, ↓f_e_dup, ↓f_e_dup2, ↓f_e_pop, ↓f_e_goto, ↓f_e_ifCond, ↓f_e_if_icmp, ↓f_e_tableswitch, ↓f_e_lookupswitch, ↓f_e_getfield_i, ↓f_e_getfield_r, ↓f_e_putfield_i, ↓f_e_putfield_z, ↓f_e_iaload, ↓f_e_caload, ↓f_e_aaload, ↓f_e_iastore, ↓f_e_castore, ↓f_e_arraylength, ↓f_e_invokestatic, ↓f_e_invokevirtual, ↓f_e_ireturn, ↓f_e_return_, ↓f_s_i_c, ↓f_s_r_c, ↓f_s_v_i, ↓f_s_v_r, ↓f_s_l_0, ↓s_l_1, ↓s_l_2, ↓s_l_3, ↓s_l_4, ↓s_l_5, ↓s_l_6, ↓s_a_0, ↓s_a_1, ↓s_a_2, ↓s_a_3, ↓s_m_0, ↓f_s_m_i, ↓f_s_m_r, ↓f_s_m_i7, ↓f_s_m_r7, ↓f_s_m_i6, ↓f_s_m_r6, ↓f_s_m_i5, ↓f_s_m_r5, ↓f_s_m_i4, ↓f_s_m_r4, ↓f_s_w_n, ↓f_s_w_c, ↓f_s_p_eq, ↓f_s_p_ne, ↓f_s_p_lt, ↓f_s_p_ge, ↓f_s_p_gt, ↓f_s_p_le, ↓nk_i, ↓nk_z, ↓nk_c, ↓rf_s, ↓ov_s, ↓ov_n, ↓fin0, ↓fin1, ↓fin2, ↓fin3, cond_true, cond_false, List.set_cons_zero, List.set_cons_succ, List.length_cons, List.length_nil, true_and, and_true, true_or, or_true, implies_true, forall_const, not_true_eq_false, not_false_eq_true, false_implies, Nat.reduceAdd, Nat.reduceLT, Nat.reduceBEq, Nat.reduceEqDiff, Bool.or_false, Bool.false_or, Bool.or_true, Bool.true_or, beq_self_eq_true, Nat.reduceLeDiff, Nat.reduceMul, Nat.reduceSub, eq_self, Nat.reduceBneDiff, st0_s, st1_s, st2_s, st3_s, reduceCtorEq, cc_0, tl_0, cl_0, il_0, tl_1, cl_1, il_1, tl_2, cl_2, il_2, tl_3, cl_3, il_3, tl_4, cl_4, il_4, tl_5, cl_5, il_5, tl_6, cl_6, il_6, tl_7, cl_7, il_7, tl_8, cl_8, il_8, tl_9, cl_9, il_9, tl_10, cl_10, il_10, tl_11, cl_11, il_11, tl_12, cl_12, il_12, tl_13, cl_13, il_13, tl_14, cl_14, il_14, tl_15, cl_15, il_15, tl_16, cl_16, il_16, tl_20, tl_21, tl_25, tl_32, tl_48, tl_50, tl_57, tl_58, tl_59, tl_60, tl_99, tl_100, tl_101, tl_108, tl_109, tl_116, tl_120, tl_126, tl_374, tl_1122, tl_50000, i10, i01, tl_m1, tl_m2, tl_m3, tl_m4, nr_X0_queueAcknowledge, tX0_queueAcknowledge_0, tX0_queueAcknowledge_1, tX0_queueAcknowledge_4, tX0_queueAcknowledge_5, tX0_queueAcknowledge_6, tX0_queueAcknowledge_9, tX0_queueAcknowledge_10, tX0_queueAcknowledge_11, tX0_queueAcknowledge_14, tX0_queueAcknowledge_17, tX0_queueAcknowledge_18, tX0_queueAcknowledge_19, tX0_queueAcknowledge_22, tX0_queueAcknowledge_25, tX0_queueAcknowledge_26, tX0_queueAcknowledge_27, tX0_queueAcknowledge_29, tX0_queueAcknowledge_31, tX0_queueAcknowledge_34, tX0_queueAcknowledge_35, tX0_queueAcknowledge_38, tX0_queueAcknowledge_40, tX0_queueAcknowledge_43, tX0_queueAcknowledge_45, tX0_queueAcknowledge_46, tX0_queueAcknowledge_48, tX0_queueAcknowledge_51, tX0_queueAcknowledge_54, tX0_queueAcknowledge_55, tX0_queueAcknowledge_58, tX0_queueAcknowledge_60, tX0_queueAcknowledge_61, tX0_queueAcknowledge_64, tX0_queueAcknowledge_65, tX0_queueAcknowledge_68, tX0_queueAcknowledge_70, tX0_queueAcknowledge_71, tX0_queueAcknowledge_74, tX0_queueAcknowledge_77, tX0_queueAcknowledge_78, tX0_queueAcknowledge_81, tX0_queueAcknowledge_82, tX0_queueAcknowledge_83, tX0_queueAcknowledge_86, pw_QK_s, b0, b3, b4, b5, b6.1, cj, cx, e39, ex, f2, lx1, lx2, ↓w_get, ↓w_hasLine]
        rw [tw, tj, tx, tN]
        refine ⟨fun q => absurd q (nI_pos (by omega)), fun _ => ⟨by omega, fun _ => ⟨fun _ => ⟨in_nI hx16 (by omega), fun q => ?_, fun q => ?_⟩, fun q => absurd (by omega) q⟩, fun q => absurd (by omega) q⟩⟩
        · refine PW.weak (nx p hp (fun i y hi hip hy => ?_) h2) ⟨rfl, rfl, rfl, rfl, rfl, trivial⟩
          by_cases e : i = j
          · subst e
            rw [hx] at hy; cases hy; exact q
          · exact h1 i y (by omega) hip hy
        · refine PW.weak (nx j (by omega) (fun i y hi hip hy => absurd hip (by omega)) (fun y hy => ?_)) ⟨rfl, rfl, rfl, rfl, rfl, trivial⟩
          rw [hx] at hy; cases hy
          exact Int32.not_le.mp q
    have := loop W.length W.length _ (Nat.le_refl _) (Nat.le_refl _) rfl (fun i x h1 h2 => absurd h2 (by omega)) (fun x hx => by rw [List.getElem?_eq_none (Nat.le_refl _)] at hx; cases hx)
    refine pw_go okX0_queueAcknowledge (cc []) ⟨Nat.le_refl _, Nat.le_refl _⟩ cc_n (st1 29) 60 ?_
    simp only [↓f_vc_s, ↓vk_i, ↓cc_i, ↓reduceIte, f_vq_s, Bool.false_eq_true, ↓f_e_iconst, ↓f_e_bipush, ↓f_e_sipush, ↓f_e_ldc, ↓f_e_ldc_w, ↓f_e_iload_n, ↓f_e_iload, ↓f_e_aload_n, ↓f_e_aload, ↓f_e_istore_n, ↓f_e_istore, ↓f_e_astore_n, ↓f_e_astore, ↓f_e_iinc, ↓f_e_iadd, ↓f_e_isub, ↓f_e_imul, ↓f_e_iand, ↓f_e_ior, ↓f_e_ixor, ↓f_e_idiv, ↓f_e_irem, ↓f_e_ishl, ↓f_e_ishr, ↓f_e_iushr, ↓f_e_i2c, ↓f_e_dup, ↓f_e_dup2, ↓f_e_pop, ↓f_e_goto, ↓f_e_ifCond, ↓f_e_if_icmp, ↓f_e_tableswitch, ↓f_e_lookupswitch, ↓f_e_getfield_i, ↓f_e_getfield_r, ↓f_e_putfield_i, ↓f_e_putfield_z, ↓f_e_iaload, ↓f_e_caload, ↓f_e_aaload, ↓f_e_iastore, ↓f_e_castore, ↓f_e_arraylength, ↓f_e_invokestatic, ↓f_e_invokevirtual, ↓f_e_ireturn, ↓f_e_return_, ↓f_s_i_c, ↓f_s_r_c, ↓f_s_v_i, ↓f_s_v_r, ↓f_s_l_0, ↓s_l_1, ↓s_l_2, ↓s_l_3, ↓s_l_4, ↓s_l_5, ↓s_l_6, ↓s_a_0, ↓s_a_1, ↓s_a_2, ↓s_a_3, ↓s_m_0, ↓f_s_m_i, ↓f_s_m_r, ↓f_s_m_i7, ↓f_s_m_r7, ↓f_s_m_i6, ↓f_s_m_r6, ↓f_s_m_i5, ↓f_s_m_r5, ↓f_s_m_i4, ↓f_s_m_r4, ↓f_s_w_n, ↓f_s_w_c, ↓f_s_p_eq, ↓f_s_p_ne, ↓f_s_p_lt, ↓f_s_p_ge, ↓f_s_p_gt, ↓f_s_p_le, ↓nk_i, ↓nk_z, ↓nk_c, ↓rf_s, ↓ov_s, ↓ov_n, ↓fin0, ↓fin1, ↓fin2, ↓fin3, cond_true, cond_false, List.set_cons_zero, List.set_cons_succ, List.length_cons, List.length_nil, true_and, and_true, true_or, or_true, implies_true, forall_const, not_true_eq_false, not_false_eq_true, false_implies, Nat.reduceAdd, Nat.reduceLT, Nat.reduceBEq, Nat.reduceEqDiff, Bool.or_false, Bool.false_or, Bool.or_true, Bool.true_or, beq_self_eq_true, Nat.reduceLeDiff, Nat.reduceMul, Nat.reduceSub, eq_self, Nat.reduceBneDiff, st0_s, st1_s, st2_s, st3_s, reduceCtorEq, cc_0, tl_0, cl_0, il_0, tl_1, cl_1, il_1, tl_2, cl_2, il_2, tl_3, cl_3, il_3, tl_4, cl_4, il_4, tl_5, cl_5, il_5, tl_6, cl_6, il_6, tl_7, cl_7, il_7, tl_8, cl_8, il_8, tl_9, cl_9, il_9, tl_10, cl_10, il_10, tl_11, cl_11, il_11, tl_12, cl_12, il_12, tl_13, cl_13, il_13, tl_14, cl_14, il_14, tl_15, cl_15, il_15, tl_16, cl_16, il_16, tl_20, tl_21, tl_25, tl_32, tl_48, tl_50, tl_57, tl_58, tl_59, tl_60, tl_99, tl_100, tl_101, tl_108, tl_109, tl_116, tl_120, tl_126, tl_374, tl_1122, tl_50000, i10, i01, tl_m1, tl_m2, tl_m3, tl_m4, nr_X0_queueAcknowledge, tX0_queueAcknowledge_0, tX0_queueAcknowledge_1, tX0_queueAcknowledge_4, tX0_queueAcknowledge_5, tX0_queueAcknowledge_6, tX0_queueAcknowledge_9, tX0_queueAcknowledge_10, tX0_queueAcknowledge_11, tX0_queueAcknowledge_14, tX0_queueAcknowledge_17, tX0_queueAcknowledge_18, tX0_queueAcknowledge_19, tX0_queueAcknowledge_22, tX0_queueAcknowledge_25, tX0_queueAcknowledge_26, tX0_queueAcknowledge_27, tX0_queueAcknowledge_29, tX0_queueAcknowledge_31, tX0_queueAcknowledge_34, tX0_queueAcknowledge_35, tX0_queueAcknowledge_38, tX0_queueAcknowledge_40, tX0_queueAcknowledge_43, tX0_queueAcknowledge_45, tX0_queueAcknowledge_46, tX0_queueAcknowledge_48, tX0_queueAcknowledge_51, tX0_queueAcknowledge_54, tX0_queueAcknowledge_55, tX0_queueAcknowledge_58, tX0_queueAcknowledge_60, tX0_queueAcknowledge_61, tX0_queueAcknowledge_64, tX0_queueAcknowledge_65, tX0_queueAcknowledge_68, tX0_queueAcknowledge_70, tX0_queueAcknowledge_71, tX0_queueAcknowledge_74, tX0_queueAcknowledge_77, tX0_queueAcknowledge_78, tX0_queueAcknowledge_81, tX0_queueAcknowledge_82, tX0_queueAcknowledge_83, tX0_queueAcknowledge_86, pw_QK_s, b0, b3, b4, b5, b6.1, ck, e39, l1, l2]
    exact ⟨in_nI hk (by omega), this⟩
  · exact h.elim
end QUE
