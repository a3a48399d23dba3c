/-! the order of the tree: the reference lays it by a stack -/
def subL : List (Option Value) → List (Option Value) → Prop
  | [], [] => True
  | none :: L, _ :: L' => subL L L'
  | some v :: L, o :: L' => o = some v ∧ subL L L'
  | _, _ => False
theorem subL_of : ∀ {L L' : List (Option Value)}, subL L L' → L'.length = L.length ∧ ∀ (i : Nat) (v : Value), L[i]? = some (some v) → L'[i]? = some (some v)
  | [], [], _ => ⟨rfl, fun i v h => by simp at h⟩
  | [], _ :: _, h => h.elim
  | none :: L, [], h => h.elim
  | some _ :: L, [], h => h.elim
  | none :: L, o :: L', h => by
    obtain ⟨h1, h2⟩ := subL_of (L := L) (L' := L') h
    refine ⟨by simp [h1], fun i v hi => ?_⟩
    cases i with
    | zero => simp at hi
    | succ i => rw [List.getElem?_cons_succ] at hi ⊢; exact h2 i v hi
  | some w :: L, o :: L', h => by
    obtain ⟨h0, h⟩ := h
    obtain ⟨h1, h2⟩ := subL_of (L := L) (L' := L') h
    refine ⟨by simp [h1], fun i v hi => ?_⟩
    cases i with
    | zero => rw [List.getElem?_cons_zero] at hi ⊢; rw [h0]; exact hi
    | succ i => rw [List.getElem?_cons_succ] at hi ⊢; exact h2 i v hi
/-- locals that are not looked at again -/
theorem PW.weak {g : pw_g} {n : Nat} {sh : pw_Sh} {P : pw_P} {I : pw_I} {uc us pc : Nat} {L L' : List (Option Value)} {st : List Value} {Q : pw_Q} (h : PW g n sh P I uc us pc L st Q) (hs : subL L L') : PW g n sh P I uc us pc L' st Q := by
  obtain ⟨h1, h2⟩ := subL_of hs
  intro p l e R s m args below meth c H locs cells slots D dA ls Qf C hW hS hls hc hss hr
  exact h p l e R s m args below meth c H locs cells slots D dA ls Qf C hW hS ⟨hls.1, by rw [← h1]; exact hls.2.1, hls.2.2.1, fun i v hi => hls.2.2.2 i v (h2 i v hi)⟩ hc hss hr
abbrev cntS (S : Nat → Int32) (j : Nat) : Nat := vN S (16 + 25 * j + 3)
abbrev entS (S : Nat → Int32) (j i : Nat) : Nat := vN S (16 + 25 * j + 4 + i)
def entL (S : Nat → Int32) (j : Nat) : List Nat := (List.range (cntS S j)).map (entS S j)
/-- the tree's inputs: each line and each node once, where it hangs -/
def InvT (S : Nat → Int32) : Prop :=
  (∀ j, j < vN S 3 → (∀ i, i < cntS S j → S (16 + 25 * j + 4 + i) = nI (entS S j i) ∧ ((entS S j i < vN S 4 ∧ vN S (166 + 13 * entS S j i) = j) ∨ (100 < entS S j i ∧ entS S j i - 100 < vN S 3 ∧ onS S (entS S j i - 100) = j))) ∧
    (∀ i i', i < i' → i' < cntS S j → entS S j i ≠ entS S j i')) ∧
  (∀ k, k < vN S 4 → ∃ i, i < cntS S (vN S (166 + 13 * k)) ∧ entS S (vN S (166 + 13 * k)) i = k) ∧
  (∀ c, 1 ≤ c → c < vN S 3 → ∃ i, i < cntS S (onS S c) ∧ entS S (onS S c) i = 100 + c) ∧
  (∀ j, vN S 3 ≤ j → j < 6 → cntS S j = 0)
def ordN (S : Nat → Int32) : Nat → Nat → List Nat
  | 0, _ => []
  | f + 1, j => (entL S j).flatMap (fun e => if e < 100 then [e] else ordN S f (e - 100))
def ordR (S : Nat → Int32) (f j p : Nat) : List Nat := ((entL S j).drop p).flatMap (fun e => if e < 100 then [e] else ordN S f (e - 100))
def ordS (S : Nat → Int32) : List Nat := ordN S 6 0
theorem ordN_R (S : Nat → Int32) (f j : Nat) : ordN S (f + 1) j = ordR S f j 0 := rfl
theorem ordR_end {S : Nat → Int32} {f j : Nat} : ordR S f j (cntS S j) = [] := by
  unfold ordR entL
  rw [List.drop_of_length_le (by simp)]
  rfl
theorem ordR_step {S : Nat → Int32} {f j p : Nat} (h : p < cntS S j) : ordR S f j p = (if entS S j p < 100 then [entS S j p] else ordN S f (entS S j p - 100)) ++ ordR S f j (p + 1) := by
  unfold ordR
  have hl : p < (entL S j).length := by simp [entL]; exact h
  rw [List.drop_eq_getElem_cons hl, List.flatMap_cons]
  congr 1
  simp [entL]
def stkOK (J : pw_I) (m : Nat) (stk : List (Nat × Nat)) : Prop := ∀ (i : Nat) (q : Nat × Nat), stk[i]? = some q → J (m + 5) (stk.length - 1 - i) = nI q.1 ∧ J (m + 6) (stk.length - 1 - i) = nI q.2
def outOK (J : pw_I) (m : Nat) (o : List Nat) : Prop := ∀ (i x : Nat), o[i]? = some x → J (m + 4) i = nI x
def scrOK (m : Nat) (I J : pw_I) : Prop := ∀ a, a ≠ m + 4 → a ≠ m + 5 → a ≠ m + 6 → J a = I a
section ORD
variable {n base m : Nat} {sh : pw_Sh} {P : pw_P} {Ag : List Value} {I : pw_I} {K : Option Value → pw_I → Prop}
def w_layOrder (m : Nat) : pw_Wp := fun Ag I K => match Ag with
  | [.ref o] => o = m ∧ InvB (I (m + 1)) ∧ InvT (I (m + 1)) ∧ (ordS (I (m + 1))).length ≤ 16 ∧ ∀ J, scrOK m I J → outOK J m (ordS (I (m + 1))) → K none J
  | _ => False
set_option maxRecDepth 100000 in
set_option maxHeartbeats 4000000 in
theorem x_layOrder (hM : pw_mod sh P m) (h : w_layOrder m Ag I K) : pw_ok mX7_layOrder 1 base n sh P Ag I K := by
  unfold w_layOrder at h
  split at h
  · rename_i o
    obtain ⟨rfl, hI, hT, hlen, hA⟩ := h
    obtain ⟨h1, ⟨h2, h3⟩, -, -, ⟨h4, h5⟩, ⟨h6, h7⟩, ⟨h8, h9⟩, -⟩ := id hM
    have hnn := hI.1
    refine pw_bd [_, _, _, _, _, _] pl_X7 c_r rfl rfl ?_
    generalize hS : I (o + 1) = S at hI hT hlen hA hnn
    have fin : ∀ J, scrOK o I J → outOK J o (ordS S) → PW (mX7_layOrder, 1, 0, 0, none, base) n sh P J 0 0 18 [some (.ref o), some (.int (nI 0)), some (.int (nI (ordS S).length)), none, none, none] [] (pw_QK n sh P K) := by
      intro J hJ hO
      refine pw_go okX7_layOrder (cc []) ⟨Nat.le_refl _, Nat.le_refl _⟩ cc_n (st1 18) 120 ?_
      simp only [vc_s, vq_s, vk_s, e_iconst, e_bipush, e_sipush, e_ldc, e_ldc_w, e_iload_n, e_iload, e_aload_n, e_aload, e_istore_n, e_istore, e_astore_n, e_astore, e_iinc, e_iadd, e_isub, e_imul, e_iand, e_ior, e_ixor, e_idiv, e_irem, e_ishl, e_ishr, e_iushr, e_i2c, e_dup, e_dup2, e_pop, e_goto, e_ifCond, e_if_icmp, e_tableswitch, e_lookupswitch, e_getfield_i, e_getfield_r, e_putfield_i, e_putfield_z, e_iaload, e_caload, e_aaload, e_iastore, e_castore, e_arraylength, e_invokestatic, e_invokevirtual, e_ireturn, e_return_, s_i_c, s_r_c, s_v_i, s_v_r, s_l_0, s_l_1, s_l_2, s_l_3, s_l_4, s_l_5, s_l_6, s_a_0, s_a_1, s_a_2, s_a_3, s_m_0, s_m_i, s_m_r, s_m_i7, s_m_r7, s_m_i6, s_m_r6, s_m_i5, s_m_r5, s_m_i4, s_m_r4, s_w_n, s_w_c, s_p_eq, s_p_ne, s_p_lt, s_p_ge, s_p_gt, s_p_le, nk_i, nk_z, nk_c, rf_s, ov_s, ov_n, fin0, fin1, fin2, fin3, cond_true, cond_false, List.set_cons_zero, List.set_cons_succ, List.length_cons, List.length_nil, true_and, and_true, true_or, or_true, implies_true, forall_const, not_true_eq_false, not_false_eq_true, false_implies, Nat.reduceAdd, Nat.reduceLT, Nat.reduceBEq, Nat.reduceEqDiff, Bool.or_false, Bool.false_or, Bool.or_true, Bool.true_or, beq_self_eq_true, Nat.reduceLeDiff, Nat.reduceMul, Nat.reduceSub, eq_self, Nat.reduceBneDiff, st0_s, st1_s, st2_s, st3_s, reduceCtorEq, cc_s, cc_0, tl_0, cl_0, il_0, tl_1, cl_1, il_1, tl_2, cl_2, il_2, tl_3, cl_3, il_3, tl_4, cl_4, il_4, tl_5, cl_5, il_5, tl_6, cl_6, il_6, tl_7, cl_7, il_7, tl_8, cl_8, il_8, tl_9, cl_9, il_9, tl_10, cl_10, il_10, tl_11, cl_11, il_11, tl_12, cl_12, il_12, tl_13, cl_13, il_13, tl_14, cl_14, il_14, tl_15, cl_15, il_15, tl_16, cl_16, il_16, tl_20, tl_21, tl_25, tl_32, tl_48, tl_50, tl_57, tl_58, tl_59, tl_60, tl_99, tl_100, tl_101, tl_108, tl_109, tl_116, tl_120, tl_126, tl_374, tl_1122, tl_50000, i10, i01, tl_m1, tl_m2, tl_m3, tl_m4, nr_X7_layOrder, tX7_layOrder_0, tX7_layOrder_1, tX7_layOrder_4, tX7_layOrder_5, tX7_layOrder_6, tX7_layOrder_7, tX7_layOrder_8, tX7_layOrder_11, tX7_layOrder_12, tX7_layOrder_13, tX7_layOrder_14, tX7_layOrder_15, tX7_layOrder_16, tX7_layOrder_17, tX7_layOrder_18, tX7_layOrder_19, tX7_layOrder_22, tX7_layOrder_23, tX7_layOrder_26, tX7_layOrder_27, tX7_layOrder_28, tX7_layOrder_29, tX7_layOrder_30, tX7_layOrder_31, tX7_layOrder_32, tX7_layOrder_35, tX7_layOrder_36, tX7_layOrder_37, tX7_layOrder_38, tX7_layOrder_39, tX7_layOrder_41, tX7_layOrder_43, tX7_layOrder_44, tX7_layOrder_47, tX7_layOrder_48, tX7_layOrder_51, tX7_layOrder_52, tX7_layOrder_53, tX7_layOrder_54, tX7_layOrder_57, tX7_layOrder_60, tX7_layOrder_63, tX7_layOrder_64, tX7_layOrder_67, tX7_layOrder_68, tX7_layOrder_69, tX7_layOrder_70, tX7_layOrder_71, tX7_layOrder_72, tX7_layOrder_73, tX7_layOrder_74, tX7_layOrder_75, tX7_layOrder_76, tX7_layOrder_79, tX7_layOrder_80, tX7_layOrder_83, tX7_layOrder_84, tX7_layOrder_85, tX7_layOrder_87, tX7_layOrder_88, tX7_layOrder_89, tX7_layOrder_91, tX7_layOrder_93, tX7_layOrder_95, tX7_layOrder_98, tX7_layOrder_99, tX7_layOrder_102, tX7_layOrder_103, tX7_layOrder_105, tX7_layOrder_106, tX7_layOrder_109, tX7_layOrder_112, tX7_layOrder_113, tX7_layOrder_116, tX7_layOrder_117, tX7_layOrder_119, tX7_layOrder_121, tX7_layOrder_122, tX7_layOrder_123, tX7_layOrder_124, tX7_layOrder_127, tX7_layOrder_128, tX7_layOrder_129, tX7_layOrder_130, tX7_layOrder_133, tX7_layOrder_136, pw_QK_s, h1, h2, h3]
      exact ⟨fun _ => hA J hJ hO, fun q => absurd (by decide) q⟩
    have run : ∀ (f j : Nat), j < vN S 3 → 6 ≤ j + f → ∀ (d p : Nat), p + d = cntS S j → ∀ (t : List (Nat × Nat)) (w : List Nat), t.length ≤ j → w.length + (ordR S (f - 1) j p).length ≤ 16 →
        (∀ J, scrOK o I J → stkOK J o t → outOK J o (w ++ ordR S (f - 1) j p) → PW (mX7_layOrder, 1, 0, 0, none, base) n sh P J 0 0 18 [some (.ref o), some (.int (nI t.length)), some (.int (nI (w ++ ordR S (f - 1) j p).length)), none, none, none] [] (pw_QK n sh P K)) →
        (∀ J, scrOK o I J → stkOK J o ((j, p) :: t) → outOK J o w → PW (mX7_layOrder, 1, 0, 0, none, base) n sh P J 0 0 18 [some (.ref o), some (.int (nI (t.length + 1))), some (.int (nI w.length)), none, none, none] [] (pw_QK n sh P K)) := by
      intro f
      induction f with
      | zero => intro j hj hf; omega
      | succ f ihf =>
        intro j hj hf d
        rw [Nat.add_sub_cancel]
        induction d with
        | zero =>
          intro p hp t w ht hw hnext J hJ hst hout
          obtain rfl : p = cntS S j := by omega
          rw [ordR_end, List.append_nil] at hnext
          have hq := hst 0 (j, cntS S j) rfl
          simp only [List.length_cons, Nat.add_sub_cancel, Nat.sub_zero] at hq
          have hJS : J (o + 1) = S := by rw [hJ _ (by omega) (by omega) (by omega), hS]
          have hnx := hnext J hJ (fun i q hi => by
            have := hst (i + 1) q (by rw [List.getElem?_cons_succ]; exact hi)
            rw [List.length_cons, show t.length + 1 - 1 - (i + 1) = t.length - 1 - i by omega] at this
            exact this) hout
          have hc := (hI.2.2.2.1 j (by omega)).2.2
          refine pw_go okX7_layOrder (cc [(98, w_n)]) ⟨Nat.le_refl _, Nat.le_refl _⟩ (cc_c (fun Ag I K h => ⟨0, Nat.le_of_ble_eq_true rfl, x_n h⟩) cc_n) (st1 18) 120 ?_
          simp only [vc_s, vq_s, vk_s, e_iconst, e_bipush, e_sipush, e_ldc, e_ldc_w, e_iload_n, e_iload, e_aload_n, e_aload, e_istore_n, e_istore, e_astore_n, e_astore, e_iinc, e_iadd, e_isub, e_imul, e_iand, e_ior, e_ixor, e_idiv, e_irem, e_ishl, e_ishr, e_iushr, e_i2c, e_dup, e_dup2, e_pop, e_goto, e_ifCond, e_if_icmp, e_tableswitch, e_lookupswitch, e_getfield_i, e_getfield_r, e_putfield_i, e_putfield_z, e_iaload, e_caload, e_aaload, e_iastore, e_castore, e_arraylength, e_invokestatic, e_invokevirtual, e_ireturn, e_return_, s_i_c, s_r_c, s_v_i, s_v_r, s_l_0, s_l_1, s_l_2, s_l_3, s_l_4, s_l_5, s_l_6, s_a_0, s_a_1, s_a_2, s_a_3, s_m_0, s_m_i, s_m_r, s_m_i7, s_m_r7, s_m_i6, s_m_r6, s_m_i5, s_m_r5, s_m_i4, s_m_r4, s_w_n, s_w_c, s_p_eq, s_p_ne, s_p_lt, s_p_ge, s_p_gt, s_p_le, nk_i, nk_z, nk_c, rf_s, ov_s, ov_n, fin0, fin1, fin2, fin3, cond_true, cond_false, List.set_cons_zero, List.set_cons_succ, List.length_cons, List.length_nil, true_and, and_true, true_or, or_true, implies_true, forall_const, not_true_eq_false, not_false_eq_true, false_implies, Nat.reduceAdd, Nat.reduceLT, Nat.reduceBEq, Nat.reduceEqDiff, Bool.or_false, Bool.false_or, Bool.or_true, Bool.true_or, beq_self_eq_true, Nat.reduceLeDiff, Nat.reduceMul, Nat.reduceSub, eq_self, Nat.reduceBneDiff, st0_s, st1_s, st2_s, st3_s, reduceCtorEq, cc_s, cc_0, tl_0, cl_0, il_0, tl_1, cl_1, il_1, tl_2, cl_2, il_2, tl_3, cl_3, il_3, tl_4, cl_4, il_4, tl_5, cl_5, il_5, tl_6, cl_6, il_6, tl_7, cl_7, il_7, tl_8, cl_8, il_8, tl_9, cl_9, il_9, tl_10, cl_10, il_10, tl_11, cl_11, il_11, tl_12, cl_12, il_12, tl_13, cl_13, il_13, tl_14, cl_14, il_14, tl_15, cl_15, il_15, tl_16, cl_16, il_16, tl_20, tl_21, tl_25, tl_32, tl_48, tl_50, tl_57, tl_58, tl_59, tl_60, tl_99, tl_100, tl_101, tl_108, tl_109, tl_116, tl_120, tl_126, tl_374, tl_1122, tl_50000, i10, i01, tl_m1, tl_m2, tl_m3, tl_m4, nr_X7_layOrder, tX7_layOrder_0, tX7_layOrder_1, tX7_layOrder_4, tX7_layOrder_5, tX7_layOrder_6, tX7_layOrder_7, tX7_layOrder_8, tX7_layOrder_11, tX7_layOrder_12, tX7_layOrder_13, tX7_layOrder_14, tX7_layOrder_15, tX7_layOrder_16, tX7_layOrder_17, tX7_layOrder_18, tX7_layOrder_19, tX7_layOrder_22, tX7_layOrder_23, tX7_layOrder_26, tX7_layOrder_27, tX7_layOrder_28, tX7_layOrder_29, tX7_layOrder_30, tX7_layOrder_31, tX7_layOrder_32, tX7_layOrder_35, tX7_layOrder_36, tX7_layOrder_37, tX7_layOrder_38, tX7_layOrder_39, tX7_layOrder_41, tX7_layOrder_43, tX7_layOrder_44, tX7_layOrder_47, tX7_layOrder_48, tX7_layOrder_51, tX7_layOrder_52, tX7_layOrder_53, tX7_layOrder_54, tX7_layOrder_57, tX7_layOrder_60, tX7_layOrder_63, tX7_layOrder_64, tX7_layOrder_67, tX7_layOrder_68, tX7_layOrder_69, tX7_layOrder_70, tX7_layOrder_71, tX7_layOrder_72, tX7_layOrder_73, tX7_layOrder_74, tX7_layOrder_75, tX7_layOrder_76, tX7_layOrder_79, tX7_layOrder_80, tX7_layOrder_83, tX7_layOrder_84, tX7_layOrder_85, tX7_layOrder_87, tX7_layOrder_88, tX7_layOrder_89, tX7_layOrder_91, tX7_layOrder_93, tX7_layOrder_95, tX7_layOrder_98, tX7_layOrder_99, tX7_layOrder_102, tX7_layOrder_103, tX7_layOrder_105, tX7_layOrder_106, tX7_layOrder_109, tX7_layOrder_112, tX7_layOrder_113, tX7_layOrder_116, tX7_layOrder_117, tX7_layOrder_119, tX7_layOrder_121, tX7_layOrder_122, tX7_layOrder_123, tX7_layOrder_124, tX7_layOrder_127, tX7_layOrder_128, tX7_layOrder_129, tX7_layOrder_130, tX7_layOrder_133, tX7_layOrder_136, pw_QK_s, h1, h2, h3, h4, h5, h6, h7, h8, h9, w_n]
          simp (disch := omega) only [ix_l, ix_n, ix_0, ix_1, ix_2, ix_3, ix_4, ix_5, ix_6, ix_7, ix_8, ix_9, ix_10, ix_11, ix_12, ix_13, ix_14, ix_15, ix_20, ix_100, ix_374, jx_100, jx_11, jx_374, kx_374, cl_nI, in_nI, Nat.add_zero, true_and, up_set, set_s, set_set, set_n, cpy_s0, cpy_sd, cpy_ss, nI_add, upd_s, upd_n, nI_pred, hq.1, hq.2, hJS]
          rw [← hc.1]
          refine ⟨fun q => absurd q (nI_nle (by omega) (by omega)), fun _ => ⟨fun q => absurd rfl q, fun _ => ?_⟩⟩
          rw [pk_m1]
          exact PW.weak hnx ⟨rfl, rfl, rfl, trivial⟩
        | succ d ihd =>
          intro p hp t w ht hw hnext J hJ hst hout
          have hq := hst 0 (j, p) rfl
          simp only [List.length_cons, Nat.add_sub_cancel, Nat.sub_zero] at hq
          have hJS : J (o + 1) = S := by rw [hJ _ (by omega) (by omega) (by omega), hS]
          have hc := (hI.2.2.2.1 j (by omega)).2.2
          have he := (hT.1 j hj).1 p (by omega)
          have hp2 : p < cntS S j := by omega
          have hp3 : p ≤ 20 := by have h9 : cntS S j ≤ 21 := hc.2; omega
          have hp4 : w.length + (ordR S f j (p + 1)).length ≤ 16 ∧ (entS S j p < 100 → w.length < 16) := by
            rw [ordR_step hp2, List.length_append] at hw
            refine ⟨by omega, fun q => ?_⟩
            rw [if_pos q] at hw
            simp only [List.length_singleton] at hw
            omega
          refine pw_go okX7_layOrder (cc [(98, w_n)]) ⟨Nat.le_refl _, Nat.le_refl _⟩ (cc_c (fun Ag I K h => ⟨0, Nat.le_of_ble_eq_true rfl, x_n h⟩) cc_n) (st1 18) 120 ?_
          simp only [vc_s, vq_s, vk_s, e_iconst, e_bipush, e_sipush, e_ldc, e_ldc_w, e_iload_n, e_iload, e_aload_n, e_aload, e_istore_n, e_istore, e_astore_n, e_astore, e_iinc, e_iadd, e_isub, e_imul, e_iand, e_ior, e_ixor, e_idiv, e_irem, e_ishl, e_ishr, e_iushr, e_i2c, e_dup, e_dup2, e_pop, e_goto, e_ifCond, e_if_icmp, e_tableswitch, e_lookupswitch, e_getfield_i, e_getfield_r, e_putfield_i, e_putfield_z, e_iaload, e_caload, e_aaload, e_iastore, e_castore, e_arraylength, e_invokestatic, e_invokevirtual, e_ireturn, e_return_, s_i_c, s_r_c, s_v_i, s_v_r, s_l_0, s_l_1, s_l_2, s_l_3, s_l_4, s_l_5, s_l_6, s_a_0, s_a_1, s_a_2, s_a_3, s_m_0, s_m_i, s_m_r, s_m_i7, s_m_r7, s_m_i6, s_m_r6, s_m_i5, s_m_r5, s_m_i4, s_m_r4, s_w_n, s_w_c, s_p_eq, s_p_ne, s_p_lt, s_p_ge, s_p_gt, s_p_le, nk_i, nk_z, nk_c, rf_s, ov_s, ov_n, fin0, fin1, fin2, fin3, cond_true, cond_false, List.set_cons_zero, List.set_cons_succ, List.length_cons, List.length_nil, true_and, and_true, true_or, or_true, implies_true, forall_const, not_true_eq_false, not_false_eq_true, false_implies, Nat.reduceAdd, Nat.reduceLT, Nat.reduceBEq, Nat.reduceEqDiff, Bool.or_false, Bool.false_or, Bool.or_true, Bool.true_or, beq_self_eq_true, Nat.reduceLeDiff, Nat.reduceMul, Nat.reduceSub, eq_self, Nat.reduceBneDiff, st0_s, st1_s, st2_s, st3_s, reduceCtorEq, cc_s, cc_0, tl_0, cl_0, il_0, tl_1, cl_1, il_1, tl_2, cl_2, il_2, tl_3, cl_3, il_3, tl_4, cl_4, il_4, tl_5, cl_5, il_5, tl_6, cl_6, il_6, tl_7, cl_7, il_7, tl_8, cl_8, il_8, tl_9, cl_9, il_9, tl_10, cl_10, il_10, tl_11, cl_11, il_11, tl_12, cl_12, il_12, tl_13, cl_13, il_13, tl_14, cl_14, il_14, tl_15, cl_15, il_15, tl_16, cl_16, il_16, tl_20, tl_21, tl_25, tl_32, tl_48, tl_50, tl_57, tl_58, tl_59, tl_60, tl_99, tl_100, tl_101, tl_108, tl_109, tl_116, tl_120, tl_126, tl_374, tl_1122, tl_50000, i10, i01, tl_m1, tl_m2, tl_m3, tl_m4, nr_X7_layOrder, tX7_layOrder_0, tX7_layOrder_1, tX7_layOrder_4, tX7_layOrder_5, tX7_layOrder_6, tX7_layOrder_7, tX7_layOrder_8, tX7_layOrder_11, tX7_layOrder_12, tX7_layOrder_13, tX7_layOrder_14, tX7_layOrder_15, tX7_layOrder_16, tX7_layOrder_17, tX7_layOrder_18, tX7_layOrder_19, tX7_layOrder_22, tX7_layOrder_23, tX7_layOrder_26, tX7_layOrder_27, tX7_layOrder_28, tX7_layOrder_29, tX7_layOrder_30, tX7_layOrder_31, tX7_layOrder_32, tX7_layOrder_35, tX7_layOrder_36, tX7_layOrder_37, tX7_layOrder_38, tX7_layOrder_39, tX7_layOrder_41, tX7_layOrder_43, tX7_layOrder_44, tX7_layOrder_47, tX7_layOrder_48, tX7_layOrder_51, tX7_layOrder_52, tX7_layOrder_53, tX7_layOrder_54, tX7_layOrder_57, tX7_layOrder_60, tX7_layOrder_63, tX7_layOrder_64, tX7_layOrder_67, tX7_layOrder_68, tX7_layOrder_69, tX7_layOrder_70, tX7_layOrder_71, tX7_layOrder_72, tX7_layOrder_73, tX7_layOrder_74, tX7_layOrder_75, tX7_layOrder_76, tX7_layOrder_79, tX7_layOrder_80, tX7_layOrder_83, tX7_layOrder_84, tX7_layOrder_85, tX7_layOrder_87, tX7_layOrder_88, tX7_layOrder_89, tX7_layOrder_91, tX7_layOrder_93, tX7_layOrder_95, tX7_layOrder_98, tX7_layOrder_99, tX7_layOrder_102, tX7_layOrder_103, tX7_layOrder_105, tX7_layOrder_106, tX7_layOrder_109, tX7_layOrder_112, tX7_layOrder_113, tX7_layOrder_116, tX7_layOrder_117, tX7_layOrder_119, tX7_layOrder_121, tX7_layOrder_122, tX7_layOrder_123, tX7_layOrder_124, tX7_layOrder_127, tX7_layOrder_128, tX7_layOrder_129, tX7_layOrder_130, tX7_layOrder_133, tX7_layOrder_136, pw_QK_s, h1, h2, h3, h4, h5, h6, h7, h8, h9, w_n]
          simp (disch := omega) only [ix_l, ix_n, ix_0, ix_1, ix_2, ix_3, ix_4, ix_5, ix_6, ix_7, ix_8, ix_9, ix_10, ix_11, ix_12, ix_13, ix_14, ix_15, ix_20, ix_100, ix_374, jx_100, jx_11, jx_374, kx_374, cl_nI, in_nI, Nat.add_zero, true_and, up_set, set_s, set_set, set_n, cpy_s0, cpy_sd, cpy_ss, nI_add, upd_s, upd_n, nI_pred, hq.1, hq.2, hJS, he.1]
          have hne : ¬ nI p = S (16 + 25 * j + 3) := fun z => by
            rw [hc.1, nI_eq (by omega) (by have := hc.2; omega)] at z
            exact absurd z (Nat.ne_of_lt hp2)
          refine ⟨fun q => absurd q (nI_nle (by omega) (by omega)), fun _ => ⟨fun _ => ⟨fun q => ?_, fun q => ?_⟩, fun q => absurd q hne⟩⟩
          · have q1 : ¬ entS S j p < 100 := fun z => absurd q (nI_geL 100 z (by omega))
            obtain ⟨c, hc0⟩ : ∃ c, entS S j p = 100 + c := ⟨entS S j p - 100, by omega⟩
            have hcn : 1 ≤ c ∧ c < vN S 3 ∧ onS S c = j := by
              rcases he.2 with z | z
              · have := hI.2.1.2; omega
              · rw [hc0, Nat.add_sub_cancel_left] at z; exact ⟨by omega, z.2⟩
            have hjc : j < c := by have := hI.on c hcn.1 (by omega); omega
            obtain ⟨f, rfl⟩ : ∃ f', f = f' + 1 := ⟨f - 1, by omega⟩
            rw [ordR_step hp2, if_neg q1, hc0, Nat.add_sub_cancel_left, ordN_R] at hnext hw
            rw [List.length_append] at hw
            have hin5 : t.length + 1 < 6 := by omega
            refine ⟨in_nI hin5 (by omega), in_nI hin5 (by omega), ?_⟩
            rw [hc0, show nI (100 + c) - 100 = nI c from (pk_sub (a := 100 + c) (b := 100) (by omega)).trans (by rw [Nat.add_sub_cancel_left])]
            refine PW.weak (ihf c hcn.2.1 (by omega) (cntS S c) 0 (Nat.zero_add _) ((j, p + 1) :: t) w (by rw [List.length_cons]; omega) (by rw [Nat.add_sub_cancel]; omega) ?_ _ ?_ ?_ ?_) ⟨rfl, rfl, rfl, trivial⟩
            · rw [Nat.add_sub_cancel]
              refine ihd (p + 1) (by omega) t (w ++ ordR S f c 0) ht (by rw [List.length_append]; omega) ?_
              rw [List.append_assoc]
              exact hnext
            · intro a a1 a2 a3
              rw [set_n a3, set_n a2, set_n a3]; exact hJ a a1 a2 a3
            · intro i q hi
              cases i with
              | zero =>
                cases hi
                simp (disch := omega) only [List.length_cons, Nat.add_sub_cancel, Nat.sub_zero, set_s, set_n, upd_s, upd_n, true_and]
                rfl
              | succ i =>
                rw [List.getElem?_cons_succ] at hi
                cases i with
                | zero =>
                  cases hi
                  simp (disch := omega) only [List.length_cons, Nat.add_sub_cancel, Nat.sub_zero, set_s, set_n, upd_s, upd_n, show t.length + 1 + 1 - 1 - (0 + 1) = t.length by omega]
                  exact ⟨hq.1, trivial⟩
                | succ i =>
                  rw [List.getElem?_cons_succ] at hi
                  have hit : i < t.length := (List.getElem?_eq_some_iff.mp hi).1
                  have := hst (i + 1) q (by rw [List.getElem?_cons_succ]; exact hi)
                  rw [List.length_cons, show t.length + 1 - 1 - (i + 1) = t.length - 1 - i by omega] at this
                  simp (disch := omega) only [List.length_cons, set_s, set_n, upd_s, upd_n, show t.length + 1 + 1 - 1 - (i + 1 + 1) = t.length - 1 - i by omega]
                  exact this
            · intro i x hi
              rw [set_n (by omega), set_n (by omega), set_n (by omega)]; exact hout i x hi
          · have q1 : entS S j p < 100 := by
              rcases Nat.lt_or_ge (entS S j p) 100 with z | z
              · exact z
              · exact absurd (nI_leL 100 z (by
                  rcases he.2 with y | y
                  · have := hI.2.1.2; omega
                  · omega)) q
            have hw16 := hp4.2 q1
            refine ⟨in_nI hw16 (by omega), ?_⟩
            rw [ordR_step hp2, if_pos q1] at hnext
            have := ihd (p + 1) (by omega) t (w ++ [entS S j p]) ht (by rw [ordR_step hp2, if_pos q1] at hw; simpa [Nat.add_assoc, Nat.add_comm, Nat.add_left_comm] using hw) (by rw [List.append_assoc]; exact hnext)
            rw [List.length_append, List.length_singleton] at this
            refine PW.weak (this _ ?_ ?_ ?_) ⟨rfl, rfl, rfl, trivial⟩
            · intro a a1 a2 a3
              rw [set_n a1, set_n a3]; exact hJ a a1 a2 a3
            · intro i q hi
              cases i with
              | zero =>
                cases hi
                simp (disch := omega) only [List.length_cons, Nat.add_sub_cancel, Nat.sub_zero, set_s, set_n, upd_s, upd_n]
                exact ⟨hq.1, trivial⟩
              | succ i =>
                rw [List.getElem?_cons_succ] at hi
                have hit : i < t.length := (List.getElem?_eq_some_iff.mp hi).1
                have := hst (i + 1) q (by rw [List.getElem?_cons_succ]; exact hi)
                rw [List.length_cons, show t.length + 1 - 1 - (i + 1) = t.length - 1 - i by omega] at this
                simp (disch := omega) only [List.length_cons, set_s, set_n, upd_s, upd_n, show t.length + 1 - 1 - (i + 1) = t.length - 1 - i by omega]
                exact this
            · intro i x hi
              rw [set_s]
              by_cases e : i = w.length
              · subst e
                rw [List.getElem?_append_right (Nat.le_refl _), Nat.sub_self] at hi
                cases hi
                rw [upd_s]
              · rw [upd_n e]
                refine hout i x ?_
                have hl := (List.getElem?_eq_some_iff.mp hi).1
                rw [List.length_append, List.length_singleton] at hl
                rw [List.getElem?_append_left (by omega)] at hi
                exact hi
    refine pw_go okX7_layOrder (cc []) ⟨Nat.le_refl _, Nat.le_refl _⟩ cc_n (st1 18) 120 ?_
    simp only [vc_s, vq_s, vk_s, e_iconst, e_bipush, e_sipush, e_ldc, e_ldc_w, e_iload_n, e_iload, e_aload_n, e_aload, e_istore_n, e_istore, e_astore_n, e_astore, e_iinc, e_iadd, e_isub, e_imul, e_iand, e_ior, e_ixor, e_idiv, e_irem, e_ishl, e_ishr, e_iushr, e_i2c, e_dup, e_dup2, e_pop, e_goto, e_ifCond, e_if_icmp, e_tableswitch, e_lookupswitch, e_getfield_i, e_getfield_r, e_putfield_i, e_putfield_z, e_iaload, e_caload, e_aaload, e_iastore, e_castore, e_arraylength, e_invokestatic, e_invokevirtual, e_ireturn, e_return_, s_i_c, s_r_c, s_v_i, s_v_r, s_l_0, s_l_1, s_l_2, s_l_3, s_l_4, s_l_5, s_l_6, s_a_0, s_a_1, s_a_2, s_a_3, s_m_0, s_m_i, s_m_r, s_m_i7, s_m_r7, s_m_i6, s_m_r6, s_m_i5, s_m_r5, s_m_i4, s_m_r4, s_w_n, s_w_c, s_p_eq, s_p_ne, s_p_lt, s_p_ge, s_p_gt, s_p_le, nk_i, nk_z, nk_c, rf_s, ov_s, ov_n, fin0, fin1, fin2, fin3, cond_true, cond_false, List.set_cons_zero, List.set_cons_succ, List.length_cons, List.length_nil, true_and, and_true, true_or, or_true, implies_true, forall_const, not_true_eq_false, not_false_eq_true, false_implies, Nat.reduceAdd, Nat.reduceLT, Nat.reduceBEq, Nat.reduceEqDiff, Bool.or_false, Bool.false_or, Bool.or_true, Bool.true_or, beq_self_eq_true, Nat.reduceLeDiff, Nat.reduceMul, Nat.reduceSub, eq_self, Nat.reduceBneDiff, st0_s, st1_s, st2_s, st3_s, reduceCtorEq, cc_s, cc_0, tl_0, cl_0, il_0, tl_1, cl_1, il_1, tl_2, cl_2, il_2, tl_3, cl_3, il_3, tl_4, cl_4, il_4, tl_5, cl_5, il_5, tl_6, cl_6, il_6, tl_7, cl_7, il_7, tl_8, cl_8, il_8, tl_9, cl_9, il_9, tl_10, cl_10, il_10, tl_11, cl_11, il_11, tl_12, cl_12, il_12, tl_13, cl_13, il_13, tl_14, cl_14, il_14, tl_15, cl_15, il_15, tl_16, cl_16, il_16, tl_20, tl_21, tl_25, tl_32, tl_48, tl_50, tl_57, tl_58, tl_59, tl_60, tl_99, tl_100, tl_101, tl_108, tl_109, tl_116, tl_120, tl_126, tl_374, tl_1122, tl_50000, i10, i01, tl_m1, tl_m2, tl_m3, tl_m4, nr_X7_layOrder, tX7_layOrder_0, tX7_layOrder_1, tX7_layOrder_4, tX7_layOrder_5, tX7_layOrder_6, tX7_layOrder_7, tX7_layOrder_8, tX7_layOrder_11, tX7_layOrder_12, tX7_layOrder_13, tX7_layOrder_14, tX7_layOrder_15, tX7_layOrder_16, tX7_layOrder_17, tX7_layOrder_18, tX7_layOrder_19, tX7_layOrder_22, tX7_layOrder_23, tX7_layOrder_26, tX7_layOrder_27, tX7_layOrder_28, tX7_layOrder_29, tX7_layOrder_30, tX7_layOrder_31, tX7_layOrder_32, tX7_layOrder_35, tX7_layOrder_36, tX7_layOrder_37, tX7_layOrder_38, tX7_layOrder_39, tX7_layOrder_41, tX7_layOrder_43, tX7_layOrder_44, tX7_layOrder_47, tX7_layOrder_48, tX7_layOrder_51, tX7_layOrder_52, tX7_layOrder_53, tX7_layOrder_54, tX7_layOrder_57, tX7_layOrder_60, tX7_layOrder_63, tX7_layOrder_64, tX7_layOrder_67, tX7_layOrder_68, tX7_layOrder_69, tX7_layOrder_70, tX7_layOrder_71, tX7_layOrder_72, tX7_layOrder_73, tX7_layOrder_74, tX7_layOrder_75, tX7_layOrder_76, tX7_layOrder_79, tX7_layOrder_80, tX7_layOrder_83, tX7_layOrder_84, tX7_layOrder_85, tX7_layOrder_87, tX7_layOrder_88, tX7_layOrder_89, tX7_layOrder_91, tX7_layOrder_93, tX7_layOrder_95, tX7_layOrder_98, tX7_layOrder_99, tX7_layOrder_102, tX7_layOrder_103, tX7_layOrder_105, tX7_layOrder_106, tX7_layOrder_109, tX7_layOrder_112, tX7_layOrder_113, tX7_layOrder_116, tX7_layOrder_117, tX7_layOrder_119, tX7_layOrder_121, tX7_layOrder_122, tX7_layOrder_123, tX7_layOrder_124, tX7_layOrder_127, tX7_layOrder_128, tX7_layOrder_129, tX7_layOrder_130, tX7_layOrder_133, tX7_layOrder_136, pw_QK_s, h1, h2, h3, h4, h5, h6, h7, h8, h9]
    simp (disch := omega) only [ix_l, ix_n, ix_0, ix_1, ix_2, ix_3, ix_4, ix_5, ix_6, ix_7, ix_8, ix_9, ix_10, ix_11, ix_12, ix_13, ix_14, ix_15, ix_20, ix_100, ix_374, jx_100, jx_11, jx_374, kx_374, cl_nI, in_nI, Nat.add_zero, true_and, up_set, set_s, set_set, set_n, cpy_s0, cpy_sd, cpy_ss, nI_add, upd_s, upd_n]
    have := run 6 0 (by omega) (by omega) (cntS S 0) 0 (Nat.zero_add _) [] [] (Nat.le_refl _) (by rw [List.length_nil, Nat.zero_add]; exact hlen) (fun J hJ _ hO => by rw [List.nil_append] at hO ⊢; exact fin J hJ hO) (pw_set (pw_set I (o + 5) (upd (I (o + 5)) 0 0)) (o + 6) (upd (I (o + 6)) 0 0)) ?_ ?_ ?_
    · refine ⟨in_nI (k := 0) (by omega) (by omega), in_nI (k := 0) (by omega) (by omega), ?_⟩
      exact this
    · intro a a1 a2 a3
      rw [set_n a3, set_n a2]
    · intro i q hi
      cases i with
      | zero =>
        cases hi
        simp (disch := omega) only [List.length_cons, List.length_nil, set_s, set_n, upd_s]
        exact ⟨rfl, rfl⟩
      | succ i => simp at hi
    · intro i x hi
      simp at hi
  · exact h.elim
end ORD
