/-! a row of numbers is copied (System.arraycopy); a row, a line, a node is copied -/
theorem cp_w : Cond.native arraycopyName ∈ pw_T ∧ Cond.static arraycopyName ∈ pw_T ∧ Cond.initialized "java/lang/System" ∈ pw_T := ⟨pw_inT (by decide +kernel), pw_inT (by decide +kernel), pw_inT (by decide +kernel)⟩
theorem PW.copy {g : pw_g} {n : Nat} {sh : pw_Sh} {P : pw_P} {I : pw_I} {uc us pc idx : Nat} {L : List (Option Value)} {a0 a N : Nat} {r : List Value} {Q : pw_Q} (hk : Cond.methodLink g.1.1.cls idx arraycopyName ∈ pw_T) (hf : 1 ≤ g.2.1) (hm : s_m 8 r) (h0 : sh a0 = (8, N)) (h1 : sh a = (8, N)) (hN : N < 2147483648)
    (hdg : decode g.1.2.1 pc = .ok (.invokestatic idx, 3)) (kk : PW g n sh P (pw_set I a (va_cpy (I a0) (I a) 0 0 N)) uc us (pc + 3) L r Q) : PW g n sh P I uc us pc L (.int (nI N) :: .int 0 :: .ref a :: .int 0 :: .ref a0 :: r) Q := by
  intro p l e R s m args below meth c H locs cells slots D dA ls Qf C hW hS hls hc hs hr
  obtain ⟨hx, hb, hrt, hml, hown, hts, hlk, hK, hin, ⟨r1, r2, r3, r4⟩, hbs, hX⟩ := id C
  have h8 := s_m_of hm
  have tN : (nI N).toInt = (N : Int) := ti_nI hN
  have cN : (nI N).toNatClampNeg = N := cl_nI hN
  have e0 : H[a0]? = some (arrV (dA 8) N (fun j => .int (I a0 j))) := by
    have := pw_cell8 hW (a := a0) (Or.inl (by rw [h0]))
    rw [h0] at this; exact this
  have e1 : H[a]? = some (arrV (dA 8) N (fun j => .int (I a j))) := by
    have := pw_cell8 hW (a := a) (Or.inl (by rw [h1]))
    rw [h1] at this; exact this
  have hA : g.2.2.2.2.2 ≤ a := (hW.2 a (by rw [h1]; exact Nat.le_of_ble_eq_true rfl)).1.1
  intro T hT X
  obtain ⟨-, k0, hk0, cm0, hkk0⟩ := (hK.1.2 0 _ rfl).1 N (fun j => .int (I a0 j))
  obtain ⟨-, k1, hk1, cm1, hkk1⟩ := (hK.1.2 0 _ rfl).1 N (fun j => .int (I a j))
  obtain ⟨vm', X', step⟩ := X.arraycopy hx hown (hts _ hk) (hts _ cp_w.1) (hts _ cp_w.2.1) (hts _ cp_w.2.2) (src := a0) (dst := a) (cs := arrV (dA 8) N (fun j => .int (I a0 j))) (cd := arrV (dA 8) N (fun j => .int (I a j))) (srcPos := 0) (destPos := 0) (n := nI N) (by rw [hT]; exact e0) (by rw [hT]; exact e1)
    (fun _ h => by cases h) (fun _ h => by cases h) (fun h => by cases h) (fun h => by cases h) hk0 hk1 hkk0 hkk1 (by rfl) (by decide) (by decide) (nI_pos hN)
    (by rw [arrV_size, tN]; show ¬ (0 + (N : Int)) > (N : Int); omega)
    (by rw [arrV_size, tN]; show ¬ (0 + (N : Int)) > (N : Int); omega)
    (fun vm₁ _ i hi => by
      rw [cN] at hi
      have e : (arrV (dA 8) N (fun j => Value.int (I a0 j))).slots.getD ((0 : Int32).toNatClampNeg + i) .null = .int (I a0 i) := by
        show (arrV (dA 8) N (fun j => Value.int (I a0 j))).slots.getD (0 + i) _ = _
        rw [Nat.zero_add, Array.getD_eq_getD_getElem?, arrV_read _ _ hi]
        rfl
      refine ⟨?_, ?_⟩
      · rw [e]; rfl
      · rw [e]; exact trivial)
    (g := F0 m pc ls (.int (nI N) :: .int 0 :: .ref a :: .int 0 :: .ref a0 :: r)) rfl (by rw [hml]; exact hls.1) (rest := r) rfl (by rw [hb]; exact hdg) (by omega) (by show 2 * 0 + _ + (7 + 11) ≤ _; omega)
  have ec : copied (arrV (dA 8) N (fun j => .int (I a0 j))) (arrV (dA 8) N (fun j => .int (I a j))) 0 0 (nI N) = arrV (dA 8) N (fun j => .int (va_cpy (I a0) (I a) 0 0 N j)) := by
    have := va_copied (fun z => Value.int z) (dA 8) (dA 8) (n0 := N) (n1 := N) (sp := 0) (dp := 0) (n := N) (I a0) (I a) (by omega)
    unfold copied
    rw [cN]
    exact this
  rw [ec] at X' step
  have hl : a < H.size := (Array.getElem?_eq_some_iff.mp e1).1
  have hheap : ((T.setVm vm').setCell a (arrV (dA 8) N (fun j => .int (va_cpy (I a0) (I a) 0 0 N j)))).heap = H.setIfInBounds a (arrV (dA 8) N (fun j => .int (va_cpy (I a0) (I a) 0 0 N j))) := by rw [← hT]; rfl
  have oq : ∀ q : Nat, q ≠ a → (H.setIfInBounds a (arrV (dA 8) N (fun j => .int (va_cpy (I a0) (I a) 0 0 N j))))[q]? = H[q]? := fun q hq => by simp [Array.getElem?_setIfInBounds, Ne.symm hq]
  have ez : (H.setIfInBounds a (arrV (dA 8) N (fun j => .int (va_cpy (I a0) (I a) 0 0 N j)))).size = H.size := by simp
  have hW1 : pw_Wd D dA g.2.2.2.2.2 n sh P (pw_set I a (va_cpy (I a0) (I a) 0 0 N)) (H.setIfInBounds a (arrV (dA 8) N (fun j => .int (va_cpy (I a0) (I a) 0 0 N j)))) := by
    refine hW.put ez oq (fun _ _ _ => rfl) (fun q hq k => by rw [set_n hq]) ⟨fun h => absurd h (by rw [h1]; exact Nat.not_lt_of_le (Nat.le_refl 8)), fun _ => ?_, fun h => absurd h.1 (by rw [h1]; exact Nat.not_le_of_lt (Nat.lt_of_sub_pos (Nat.le_of_ble_eq_true rfl)))⟩
    rw [h1, set_s]
    show (H.setIfInBounds a _)[a]? = some _
    simp [Array.getElem?_setIfInBounds, hl]
  obtain ⟨t, a1, b1⟩ := kk p l e R s m args below meth c _ (locs ++ ((arrV (dA 8) N (fun j => Value.int (I a0 j))).stretch (0 : Int32).toNatClampNeg (nI N).toNatClampNeg).zipIdx.map fun q => ⟨a, (0 : Int32).toNatClampNeg + q.2⟩) cells slots D dA ls Qf C hW1 ⟨by rw [ez]; exact hS.1, fun q g1 g2 => by
      rw [oq q (fun e => g2 (by rw [e]; exact hA))]
      exact hS.2.1 q g1 g2, fun q hq => by
      rcases List.mem_append.mp hq with h | h
      · exact hS.2.2 q h
      · obtain ⟨z, -, hz⟩ := List.mem_map.mp h
        rw [← hz]
        exact hA⟩ hls hc hs hr _ hheap X'
  exact ⟨t, step t a1, b1⟩
theorem cp_row : Cond.methodLink RX5 27 arraycopyName ∈ pw_T := pw_inT (by decide +kernel)
theorem dc_copy : decode mX5_copyFrom.2.1 15 = .ok (.invokestatic 27, 3) := by decide +kernel
section CPY
variable {n base : Nat} {sh : pw_Sh} {P : pw_P} {Ag : List Value} {I : pw_I} {K : Option Value → pw_I → Prop}
def w_copyRow (r c r' c' : Nat) : pw_Wp := fun Ag I K => match Ag with
  | [.ref x, .ref y] => x = r ∧ y = r' ∧ r' ≠ c ∧ K none (pw_set (pw_set I c (va_cpy (I c') (I c) 0 0 21)) r (upd (I r) 1 (I r' 1)))
  | _ => False
set_option maxRecDepth 100000 in
set_option maxHeartbeats 4000000 in
theorem x_copyRow {r c r' c' : Nat} (hr : pw_row sh P r c) (hr' : pw_row sh P r' c') (h : w_copyRow r c r' c' Ag I K) : pw_ok mX5_copyFrom 1 base n sh P Ag I K := by
  obtain ⟨h1, h2, h3, h4⟩ := hr
  obtain ⟨g1, g2, g3, g4⟩ := hr'
  unfold w_copyRow at h
  split at h
  · rename_i x y
    obtain ⟨rfl, rfl, hne, hA⟩ := h
    refine pw_bd [_, _] pl_X5 c_rr rfl rfl ?_
    refine pw_go okX5_copyFrom (cc []) ⟨Nat.le_refl _, Nat.le_refl _⟩ cc_n (st1 15) 60 ?_
    simp only [↓f_vc_s, ↓vk_i, ↓cc_i, ↓reduceIte, f_vq_s, Bool.false_eq_true, ↓f_e_iconst, ↓f_e_bipush, ↓f_e_sipush, ↓f_e_ldc, ↓f_e_ldc_w, ↓f_e_iload_n, ↓f_e_iload, ↓f_e_aload_n, ↓f_e_aload, ↓f_e_istore_n, ↓f_e_istore, ↓f_e_astore_n, ↓f_e_astore, ↓f_e_iinc, ↓f_e_iadd, ↓f_e_isub, ↓f_e_imul, ↓f_e_iand, ↓f_e_ior, ↓f_e_ixor, ↓f_e_idiv, ↓f_e_irem, ↓f_e_ishl, ↓f_e_ishr, ↓f_e_iushr, ↓f_e_i2c, ↓f_e_dup, ↓f_e_dup2, ↓f_e_pop, ↓f_e_goto, ↓f_e_ifCond, ↓f_e_if_icmp, ↓f_e_tableswitch, ↓f_e_lookupswitch, ↓f_e_getfield_i, ↓f_e_getfield_r, ↓f_e_putfield_i, ↓f_e_putfield_z, ↓f_e_iaload, ↓f_e_caload, ↓f_e_aaload, ↓f_e_iastore, ↓f_e_castore, ↓f_e_arraylength, ↓f_e_invokestatic, ↓f_e_invokevirtual, ↓f_e_ireturn, ↓f_e_return_, ↓f_s_i_c, ↓f_s_r_c, ↓f_s_v_i, ↓f_s_v_r, ↓f_s_l_0, ↓s_l_1, ↓s_l_2, ↓s_l_3, ↓s_l_4, ↓s_l_5, ↓s_l_6, ↓s_a_0, ↓s_a_1, ↓s_a_2, ↓s_a_3, ↓s_m_0, ↓f_s_m_i, ↓f_s_m_r, ↓f_s_m_i7, ↓f_s_m_r7, ↓f_s_m_i6, ↓f_s_m_r6, ↓f_s_m_i5, ↓f_s_m_r5, ↓f_s_m_i4, ↓f_s_m_r4, ↓f_s_w_n, ↓f_s_w_c, ↓f_s_p_eq, ↓f_s_p_ne, ↓f_s_p_lt, ↓f_s_p_ge, ↓f_s_p_gt, ↓f_s_p_le, ↓nk_i, ↓nk_z, ↓nk_c, ↓rf_s, ↓ov_s, ↓ov_n, ↓fin0, ↓fin1, ↓fin2, ↓fin3, cond_true, cond_false, List.set_cons_zero, List.set_cons_succ, List.length_cons, List.length_nil, true_and, and_true, true_or, or_true, implies_true, forall_const, not_true_eq_false, not_false_eq_true, false_implies, Nat.reduceAdd, Nat.reduceLT, Nat.reduceBEq, Nat.reduceEqDiff, Bool.or_false, Bool.false_or, Bool.or_true, Bool.true_or, beq_self_eq_true, Nat.reduceLeDiff, Nat.reduceMul, Nat.reduceSub, eq_self, Nat.reduceBneDiff, st0_s, st1_s, st2_s, st3_s, reduceCtorEq, cc_0, tl_0, cl_0, il_0, tl_1, cl_1, il_1, tl_2, cl_2, il_2, tl_3, cl_3, il_3, tl_4, cl_4, il_4, tl_5, cl_5, il_5, tl_6, cl_6, il_6, tl_7, cl_7, il_7, tl_8, cl_8, il_8, tl_9, cl_9, il_9, tl_10, cl_10, il_10, tl_11, cl_11, il_11, tl_12, cl_12, il_12, tl_13, cl_13, il_13, tl_14, cl_14, il_14, tl_15, cl_15, il_15, tl_16, cl_16, il_16, tl_20, tl_21, tl_25, tl_32, tl_48, tl_50, tl_57, tl_58, tl_59, tl_60, tl_99, tl_100, tl_101, tl_108, tl_109, tl_116, tl_120, tl_126, tl_374, tl_1122, tl_50000, i10, i01, tl_m1, tl_m2, tl_m3, tl_m4, nr_X5_copyFrom, tX5_copyFrom_0, tX5_copyFrom_1, tX5_copyFrom_4, tX5_copyFrom_5, tX5_copyFrom_6, tX5_copyFrom_9, tX5_copyFrom_10, tX5_copyFrom_11, tX5_copyFrom_14, tX5_copyFrom_18, tX5_copyFrom_19, tX5_copyFrom_20, tX5_copyFrom_23, tX5_copyFrom_26, pw_QK_s, h1, h2, h3, g1, g2, g3]
    refine PW.copy (idx := 27) (N := 21) cp_row (Nat.le_refl 1) trivial g3 h3 (by omega) dc_copy ?_
    refine pw_go okX5_copyFrom (cc []) ⟨Nat.le_refl _, Nat.le_refl _⟩ cc_n (st0) 60 ?_
    simp only [↓f_vc_s, ↓vk_i, ↓cc_i, ↓reduceIte, f_vq_s, Bool.false_eq_true, ↓f_e_iconst, ↓f_e_bipush, ↓f_e_sipush, ↓f_e_ldc, ↓f_e_ldc_w, ↓f_e_iload_n, ↓f_e_iload, ↓f_e_aload_n, ↓f_e_aload, ↓f_e_istore_n, ↓f_e_istore, ↓f_e_astore_n, ↓f_e_astore, ↓f_e_iinc, ↓f_e_iadd, ↓f_e_isub, ↓f_e_imul, ↓f_e_iand, ↓f_e_ior, ↓f_e_ixor, ↓f_e_idiv, ↓f_e_irem, ↓f_e_ishl, ↓f_e_ishr, ↓f_e_iushr, ↓f_e_i2c, ↓f_e_dup, ↓f_e_dup2, ↓f_e_pop, ↓f_e_goto, ↓f_e_ifCond, ↓f_e_if_icmp, ↓f_e_tableswitch, ↓f_e_lookupswitch, ↓f_e_getfield_i, ↓f_e_getfield_r, ↓f_e_putfield_i, ↓f_e_putfield_z, ↓f_e_iaload, ↓f_e_caload, ↓f_e_aaload, ↓f_e_iastore, ↓f_e_castore, ↓f_e_arraylength, ↓f_e_invokestatic, ↓f_e_invokevirtual, ↓f_e_ireturn, ↓f_e_return_, ↓f_s_i_c, ↓f_s_r_c, ↓f_s_v_i, ↓f_s_v_r, ↓f_s_l_0, ↓s_l_1, ↓s_l_2, ↓s_l_3, ↓s_l_4, ↓s_l_5, ↓s_l_6, ↓s_a_0, ↓s_a_1, ↓s_a_2, ↓s_a_3, ↓s_m_0, ↓f_s_m_i, ↓f_s_m_r, ↓f_s_m_i7, ↓f_s_m_r7, ↓f_s_m_i6, ↓f_s_m_r6, ↓f_s_m_i5, ↓f_s_m_r5, ↓f_s_m_i4, ↓f_s_m_r4, ↓f_s_w_n, ↓f_s_w_c, ↓f_s_p_eq, ↓f_s_p_ne, ↓f_s_p_lt, ↓f_s_p_ge, ↓f_s_p_gt, ↓f_s_p_le, ↓nk_i, ↓nk_z, ↓nk_c, ↓rf_s, ↓ov_s, ↓ov_n, ↓fin0, ↓fin1, ↓fin2, ↓fin3, cond_true, cond_false, List.set_cons_zero, List.set_cons_succ, List.length_cons, List.length_nil, true_and, and_true, true_or, or_true, implies_true, forall_const, not_true_eq_false, not_false_eq_true, false_implies, Nat.reduceAdd, Nat.reduceLT, Nat.reduceBEq, Nat.reduceEqDiff, Bool.or_false, Bool.false_or, Bool.or_true, Bool.true_or, beq_self_eq_true, Nat.reduceLeDiff, Nat.reduceMul, Nat.reduceSub, eq_self, Nat.reduceBneDiff, st0_s, st1_s, st2_s, st3_s, reduceCtorEq, cc_0, tl_0, cl_0, il_0, tl_1, cl_1, il_1, tl_2, cl_2, il_2, tl_3, cl_3, il_3, tl_4, cl_4, il_4, tl_5, cl_5, il_5, tl_6, cl_6, il_6, tl_7, cl_7, il_7, tl_8, cl_8, il_8, tl_9, cl_9, il_9, tl_10, cl_10, il_10, tl_11, cl_11, il_11, tl_12, cl_12, il_12, tl_13, cl_13, il_13, tl_14, cl_14, il_14, tl_15, cl_15, il_15, tl_16, cl_16, il_16, tl_20, tl_21, tl_25, tl_32, tl_48, tl_50, tl_57, tl_58, tl_59, tl_60, tl_99, tl_100, tl_101, tl_108, tl_109, tl_116, tl_120, tl_126, tl_374, tl_1122, tl_50000, i10, i01, tl_m1, tl_m2, tl_m3, tl_m4, nr_X5_copyFrom, tX5_copyFrom_0, tX5_copyFrom_1, tX5_copyFrom_4, tX5_copyFrom_5, tX5_copyFrom_6, tX5_copyFrom_9, tX5_copyFrom_10, tX5_copyFrom_11, tX5_copyFrom_14, tX5_copyFrom_18, tX5_copyFrom_19, tX5_copyFrom_20, tX5_copyFrom_23, tX5_copyFrom_26, pw_QK_s, h1, h2, h3, g1, g2, g3]
    rw [up_set, set_n h4, set_n hne]
    exact hA
  · exact h.elim
def w_copyLine (a b : Nat) : pw_Wp := fun Ag I K => match Ag with
  | [.ref x, .ref y] => x = a ∧ y = b ∧ b ≠ a ∧ bit01 (I b 2) ∧ bit01 (I b 3) ∧ bit01 (I b 4) ∧ K none (pw_set I a (va_cpy (I b) (I a) 0 0 13))
  | _ => False
set_option maxRecDepth 100000 in
set_option maxHeartbeats 4000000 in
theorem x_copyLine {a b : Nat} (h1 : sh a = (3, 0)) (h2 : sh b = (3, 0)) (h : w_copyLine a b Ag I K) : pw_ok mX3_copyFrom 0 base n sh P Ag I K := by
  unfold w_copyLine at h
  split at h
  · rename_i x y
    obtain ⟨rfl, rfl, hne, z1, z2, z3, hA⟩ := h
    refine pw_bd [_, _] pl_X3 c_rr rfl rfl ?_
    refine pw_go okX3_copyFrom (cc []) ⟨Nat.le_refl _, Nat.le_refl _⟩ cc_n (st0) 90 ?_
    simp only [↓f_vc_s, ↓vk_i, ↓cc_i, ↓reduceIte, f_vq_s, Bool.false_eq_true, ↓f_e_iconst, ↓f_e_bipush, ↓f_e_sipush, ↓f_e_ldc, ↓f_e_ldc_w, ↓f_e_iload_n, ↓f_e_iload, ↓f_e_aload_n, ↓f_e_aload, ↓f_e_istore_n, ↓f_e_istore, ↓f_e_astore_n, ↓f_e_astore, ↓f_e_iinc, ↓f_e_iadd, ↓f_e_isub, ↓f_e_imul, ↓f_e_iand, ↓f_e_ior, ↓f_e_ixor, ↓f_e_idiv, ↓f_e_irem, ↓f_e_ishl, ↓f_e_ishr, ↓f_e_iushr, ↓f_e_i2c, ↓f_e_dup, ↓f_e_dup2, ↓f_e_pop, ↓f_e_goto, ↓f_e_ifCond, ↓f_e_if_icmp, ↓f_e_tableswitch, ↓f_e_lookupswitch, ↓f_e_getfield_i, ↓f_e_getfield_r, ↓f_e_putfield_i, ↓f_e_putfield_z, ↓f_e_iaload, ↓f_e_caload, ↓f_e_aaload, ↓f_e_iastore, ↓f_e_castore, ↓f_e_arraylength, ↓f_e_invokestatic, ↓f_e_invokevirtual, ↓f_e_ireturn, ↓f_e_return_, ↓f_s_i_c, ↓f_s_r_c, ↓f_s_v_i, ↓f_s_v_r, ↓f_s_l_0, ↓s_l_1, ↓s_l_2, ↓s_l_3, ↓s_l_4, ↓s_l_5, ↓s_l_6, ↓s_a_0, ↓s_a_1, ↓s_a_2, ↓s_a_3, ↓s_m_0, ↓f_s_m_i, ↓f_s_m_r, ↓f_s_m_i7, ↓f_s_m_r7, ↓f_s_m_i6, ↓f_s_m_r6, ↓f_s_m_i5, ↓f_s_m_r5, ↓f_s_m_i4, ↓f_s_m_r4, ↓f_s_w_n, ↓f_s_w_c, ↓f_s_p_eq, ↓f_s_p_ne, ↓f_s_p_lt, ↓f_s_p_ge, ↓f_s_p_gt, ↓f_s_p_le, ↓nk_i, ↓nk_z, ↓nk_c, ↓rf_s, ↓ov_s, ↓ov_n, ↓fin0, ↓fin1, ↓fin2, ↓fin3, cond_true, cond_false, List.set_cons_zero, List.set_cons_succ, List.length_cons, List.length_nil, true_and, and_true, true_or, or_true, implies_true, forall_const, not_true_eq_false, not_false_eq_true, false_implies, Nat.reduceAdd, Nat.reduceLT, Nat.reduceBEq, Nat.reduceEqDiff, Bool.or_false, Bool.false_or, Bool.or_true, Bool.true_or, beq_self_eq_true, Nat.reduceLeDiff, Nat.reduceMul, Nat.reduceSub, eq_self, Nat.reduceBneDiff, st0_s, st1_s, st2_s, st3_s, reduceCtorEq, cc_0, tl_0, cl_0, il_0, tl_1, cl_1, il_1, tl_2, cl_2, il_2, tl_3, cl_3, il_3, tl_4, cl_4, il_4, tl_5, cl_5, il_5, tl_6, cl_6, il_6, tl_7, cl_7, il_7, tl_8, cl_8, il_8, tl_9, cl_9, il_9, tl_10, cl_10, il_10, tl_11, cl_11, il_11, tl_12, cl_12, il_12, tl_13, cl_13, il_13, tl_14, cl_14, il_14, tl_15, cl_15, il_15, tl_16, cl_16, il_16, tl_20, tl_21, tl_25, tl_32, tl_48, tl_50, tl_57, tl_58, tl_59, tl_60, tl_99, tl_100, tl_101, tl_108, tl_109, tl_116, tl_120, tl_126, tl_374, tl_1122, tl_50000, i10, i01, tl_m1, tl_m2, tl_m3, tl_m4, nr_X3_copyFrom, tX3_copyFrom_0, tX3_copyFrom_1, tX3_copyFrom_2, tX3_copyFrom_5, tX3_copyFrom_8, tX3_copyFrom_9, tX3_copyFrom_10, tX3_copyFrom_13, tX3_copyFrom_16, tX3_copyFrom_17, tX3_copyFrom_18, tX3_copyFrom_21, tX3_copyFrom_24, tX3_copyFrom_25, tX3_copyFrom_26, tX3_copyFrom_29, tX3_copyFrom_32, tX3_copyFrom_33, tX3_copyFrom_34, tX3_copyFrom_37, tX3_copyFrom_40, tX3_copyFrom_41, tX3_copyFrom_42, tX3_copyFrom_45, tX3_copyFrom_48, tX3_copyFrom_49, tX3_copyFrom_50, tX3_copyFrom_53, tX3_copyFrom_56, tX3_copyFrom_57, tX3_copyFrom_58, tX3_copyFrom_61, tX3_copyFrom_64, tX3_copyFrom_65, tX3_copyFrom_66, tX3_copyFrom_69, tX3_copyFrom_72, tX3_copyFrom_73, tX3_copyFrom_74, tX3_copyFrom_77, tX3_copyFrom_80, tX3_copyFrom_81, tX3_copyFrom_82, tX3_copyFrom_85, tX3_copyFrom_88, tX3_copyFrom_89, tX3_copyFrom_90, tX3_copyFrom_93, tX3_copyFrom_96, tX3_copyFrom_97, tX3_copyFrom_98, tX3_copyFrom_101, tX3_copyFrom_104, pw_QK_s, h1, h2]
    simp only [up_set, set_s, set_set, set_n hne]
    have e : ∀ (f g : Nat → Int32), upd (upd (upd (upd (upd (upd (upd (upd (upd (upd (upd (upd (upd g 0 (f 0)) 12 (f 12)) 1 (f 1)) 2 (f 2)) 3 (f 3)) 4 (f 4)) 5 (f 5)) 6 (f 6)) 7 (f 7)) 8 (f 8)) 9 (f 9)) 10 (f 10)) 11 (f 11) = va_cpy f g 0 0 13 := by
      intro f g
      funext k
      unfold va_cpy
      by_cases hk : k < 13
      · rw [if_pos ⟨by omega, by omega⟩]
        have : k = 0 ∨ k = 1 ∨ k = 2 ∨ k = 3 ∨ k = 4 ∨ k = 5 ∨ k = 6 ∨ k = 7 ∨ k = 8 ∨ k = 9 ∨ k = 10 ∨ k = 11 ∨ k = 12 := by omega
        rcases this with rfl | rfl | rfl | rfl | rfl | rfl | rfl | rfl | rfl | rfl | rfl | rfl | rfl <;> simp [upd]
      · rw [if_neg (by omega)]
        simp (disch := omega) only [upd_n]
    rw [e]
    exact ⟨z1, z2, z3, hA⟩
  · exact h.elim
def w_copyNode (d s : Nat) : pw_Wp := fun Ag I K => match Ag with
  | [.ref x, .ref y] => x = d ∧ y = s ∧ (s + 3 ≤ d ∨ d + 3 ≤ s) ∧ bit01 (I s 2) ∧ ∀ J, (∀ a, a ≠ d → a ≠ d + 1 → a ≠ d + 2 → J a = I a) → J d 1 = I s 1 → J d 2 = I s 2 → J d 3 = I s 3 → J (d + 1) 1 = I (s + 1) 1 → (∀ i, i < 21 → J (d + 2) i = I (s + 2) i) → K none J
  | _ => False
set_option maxRecDepth 100000 in
set_option maxHeartbeats 4000000 in
theorem x_copyNode {d s : Nat} (h1 : sh d = (4, 0)) (h2 : P d 0 = some (d + 1)) (h3 : pw_row sh P (d + 1) (d + 2)) (g1 : sh s = (4, 0)) (g2 : P s 0 = some (s + 1)) (g3 : pw_row sh P (s + 1) (s + 2)) (h : w_copyNode d s Ag I K) : pw_ok mX4_copyFrom 2 base n sh P Ag I K := by
  unfold w_copyNode at h
  split at h
  · rename_i x y
    obtain ⟨hx, hy, hne, z1, hA⟩ := h
    replace hx := hx.symm
    replace hy := hy.symm
    subst hx
    subst hy
    refine pw_bd [_, _] pl_X4 c_rr rfl rfl ?_
    have tail : ∀ (M : pw_I), M = pw_set (pw_set I (d + 2) (va_cpy (I (s + 2)) (I (d + 2)) 0 0 21)) (d + 1) (upd (I (d + 1)) 1 (I (s + 1) 1)) → PW (mX4_copyFrom, 2, 0, 0, none, base) n sh P M 0 0 11 [some (.ref d), some (.ref s)] [] (pw_QK n sh P K) := by
      intro M hM
      have m1 : ∀ a, a ≠ d + 1 → a ≠ d + 2 → M a = I a := fun a a1 a2 => by rw [hM, set_n a1, set_n a2]
      have m2 : M (d + 1) 1 = I (s + 1) 1 := by rw [hM, set_s, upd_s]
      have m3 : ∀ i, i < 21 → M (d + 2) i = I (s + 2) i := fun i hi => by
        rw [hM, set_n (by omega), set_s, cpy_in (by omega) (by omega)]
        congr 1; omega
      have my : M s = I s := m1 s (by omega) (by omega)
      have hyx : s ≠ d := by omega
      refine pw_go okX4_copyFrom (cc []) ⟨Nat.le_refl _, Nat.le_refl _⟩ cc_n (st0) 60 ?_
      simp only [↓f_vc_s, ↓vk_i, ↓cc_i, ↓reduceIte, f_vq_s, Bool.false_eq_true, ↓f_e_iconst, ↓f_e_bipush, ↓f_e_sipush, ↓f_e_ldc, ↓f_e_ldc_w, ↓f_e_iload_n, ↓f_e_iload, ↓f_e_aload_n, ↓f_e_aload, ↓f_e_istore_n, ↓f_e_istore, ↓f_e_astore_n, ↓f_e_astore, ↓f_e_iinc, ↓f_e_iadd, ↓f_e_isub, ↓f_e_imul, ↓f_e_iand, ↓f_e_ior, ↓f_e_ixor, ↓f_e_idiv, ↓f_e_irem, ↓f_e_ishl, ↓f_e_ishr, ↓f_e_iushr, ↓f_e_i2c, ↓f_e_dup, ↓f_e_dup2, ↓f_e_pop, ↓f_e_goto, ↓f_e_ifCond, ↓f_e_if_icmp, ↓f_e_tableswitch, ↓f_e_lookupswitch, ↓f_e_getfield_i, ↓f_e_getfield_r, ↓f_e_putfield_i, ↓f_e_putfield_z, ↓f_e_iaload, ↓f_e_caload, ↓f_e_aaload, ↓f_e_iastore, ↓f_e_castore, ↓f_e_arraylength, ↓f_e_invokestatic, ↓f_e_invokevirtual, ↓f_e_ireturn, ↓f_e_return_, ↓f_s_i_c, ↓f_s_r_c, ↓f_s_v_i, ↓f_s_v_r, ↓f_s_l_0, ↓s_l_1, ↓s_l_2, ↓s_l_3, ↓s_l_4, ↓s_l_5, ↓s_l_6, ↓s_a_0, ↓s_a_1, ↓s_a_2, ↓s_a_3, ↓s_m_0, ↓f_s_m_i, ↓f_s_m_r, ↓f_s_m_i7, ↓f_s_m_r7, ↓f_s_m_i6, ↓f_s_m_r6, ↓f_s_m_i5, ↓f_s_m_r5, ↓f_s_m_i4, ↓f_s_m_r4, ↓f_s_w_n, ↓f_s_w_c, ↓f_s_p_eq, ↓f_s_p_ne, ↓f_s_p_lt, ↓f_s_p_ge, ↓f_s_p_gt, ↓f_s_p_le, ↓nk_i, ↓nk_z, ↓nk_c, ↓rf_s, ↓ov_s, ↓ov_n, ↓fin0, ↓fin1, ↓fin2, ↓fin3, cond_true, cond_false, List.set_cons_zero, List.set_cons_succ, List.length_cons, List.length_nil, true_and, and_true, true_or, or_true, implies_true, forall_const, not_true_eq_false, not_false_eq_true, false_implies, Nat.reduceAdd, Nat.reduceLT, Nat.reduceBEq, Nat.reduceEqDiff, Bool.or_false, Bool.false_or, Bool.or_true, Bool.true_or, beq_self_eq_true, Nat.reduceLeDiff, Nat.reduceMul, Nat.reduceSub, eq_self, Nat.reduceBneDiff, st0_s, st1_s, st2_s, st3_s, reduceCtorEq, cc_0, tl_0, cl_0, il_0, tl_1, cl_1, il_1, tl_2, cl_2, il_2, tl_3, cl_3, il_3, tl_4, cl_4, il_4, tl_5, cl_5, il_5, tl_6, cl_6, il_6, tl_7, cl_7, il_7, tl_8, cl_8, il_8, tl_9, cl_9, il_9, tl_10, cl_10, il_10, tl_11, cl_11, il_11, tl_12, cl_12, il_12, tl_13, cl_13, il_13, tl_14, cl_14, il_14, tl_15, cl_15, il_15, tl_16, cl_16, il_16, tl_20, tl_21, tl_25, tl_32, tl_48, tl_50, tl_57, tl_58, tl_59, tl_60, tl_99, tl_100, tl_101, tl_108, tl_109, tl_116, tl_120, tl_126, tl_374, tl_1122, tl_50000, i10, i01, tl_m1, tl_m2, tl_m3, tl_m4, nr_X4_copyFrom, tX4_copyFrom_0, tX4_copyFrom_1, tX4_copyFrom_4, tX4_copyFrom_5, tX4_copyFrom_8, tX4_copyFrom_11, tX4_copyFrom_12, tX4_copyFrom_13, tX4_copyFrom_16, tX4_copyFrom_19, tX4_copyFrom_20, tX4_copyFrom_21, tX4_copyFrom_24, tX4_copyFrom_27, tX4_copyFrom_28, tX4_copyFrom_29, tX4_copyFrom_32, tX4_copyFrom_35, pw_QK_s, h1, g1]
      simp only [up_set, set_s, set_set, set_n hyx, my]
      refine ⟨z1, hA _ (fun a a1 a2 a3 => by rw [set_n a1]; exact m1 a a2 a3) ?_ ?_ ?_ ?_ ?_⟩
      · rw [set_s, upd_n (by omega), upd_n (by omega), upd_s]
      · rw [set_s, upd_n (by omega), upd_s]
      · rw [set_s, upd_s]
      · rw [set_n (by omega)]; exact m2
      · intro i hi
        rw [set_n (by omega)]; exact m3 i hi
    refine pw_go okX4_copyFrom (cc [(64, (w_copyRow (d + 1) (d + 2) (s + 1) (s + 2)))]) ⟨Nat.le_refl _, Nat.le_refl _⟩ (cc_c (fun Ag I K h => ⟨1, Nat.le_of_ble_eq_true rfl, x_copyRow h3 g3 h⟩) cc_n) (st1 11) 60 ?_
    simp only [↓f_vc_s, ↓vk_i, ↓cc_i, ↓reduceIte, f_vq_s, Bool.false_eq_true, ↓f_e_iconst, ↓f_e_bipush, ↓f_e_sipush, ↓f_e_ldc, ↓f_e_ldc_w, ↓f_e_iload_n, ↓f_e_iload, ↓f_e_aload_n, ↓f_e_aload, ↓f_e_istore_n, ↓f_e_istore, ↓f_e_astore_n, ↓f_e_astore, ↓f_e_iinc, ↓f_e_iadd, ↓f_e_isub, ↓f_e_imul, ↓f_e_iand, ↓f_e_ior, ↓f_e_ixor, ↓f_e_idiv, ↓f_e_irem, ↓f_e_ishl, ↓f_e_ishr, ↓f_e_iushr, ↓f_e_i2c, ↓f_e_dup, ↓f_e_dup2, ↓f_e_pop, ↓f_e_goto, ↓f_e_ifCond, ↓f_e_if_icmp, ↓f_e_tableswitch, ↓f_e_lookupswitch, ↓f_e_getfield_i, ↓f_e_getfield_r, ↓f_e_putfield_i, ↓f_e_putfield_z, ↓f_e_iaload, ↓f_e_caload, ↓f_e_aaload, ↓f_e_iastore, ↓f_e_castore, ↓f_e_arraylength, ↓f_e_invokestatic, ↓f_e_invokevirtual, ↓f_e_ireturn, ↓f_e_return_, ↓f_s_i_c, ↓f_s_r_c, ↓f_s_v_i, ↓f_s_v_r, ↓f_s_l_0, ↓s_l_1, ↓s_l_2, ↓s_l_3, ↓s_l_4, ↓s_l_5, ↓s_l_6, ↓s_a_0, ↓s_a_1, ↓s_a_2, ↓s_a_3, ↓s_m_0, ↓f_s_m_i, ↓f_s_m_r, ↓f_s_m_i7, ↓f_s_m_r7, ↓f_s_m_i6, ↓f_s_m_r6, ↓f_s_m_i5, ↓f_s_m_r5, ↓f_s_m_i4, ↓f_s_m_r4, ↓f_s_w_n, ↓f_s_w_c, ↓f_s_p_eq, ↓f_s_p_ne, ↓f_s_p_lt, ↓f_s_p_ge, ↓f_s_p_gt, ↓f_s_p_le, ↓nk_i, ↓nk_z, ↓nk_c, ↓rf_s, ↓ov_s, ↓ov_n, ↓fin0, ↓fin1, ↓fin2, ↓fin3, cond_true, cond_false, List.set_cons_zero, List.set_cons_succ, List.length_cons, List.length_nil, true_and, and_true, true_or, or_true, implies_true, forall_const, not_true_eq_false, not_false_eq_true, false_implies, Nat.reduceAdd, Nat.reduceLT, Nat.reduceBEq, Nat.reduceEqDiff, Bool.or_false, Bool.false_or, Bool.or_true, Bool.true_or, beq_self_eq_true, Nat.reduceLeDiff, Nat.reduceMul, Nat.reduceSub, eq_self, Nat.reduceBneDiff, st0_s, st1_s, st2_s, st3_s, reduceCtorEq, cc_0, tl_0, cl_0, il_0, tl_1, cl_1, il_1, tl_2, cl_2, il_2, tl_3, cl_3, il_3, tl_4, cl_4, il_4, tl_5, cl_5, il_5, tl_6, cl_6, il_6, tl_7, cl_7, il_7, tl_8, cl_8, il_8, tl_9, cl_9, il_9, tl_10, cl_10, il_10, tl_11, cl_11, il_11, tl_12, cl_12, il_12, tl_13, cl_13, il_13, tl_14, cl_14, il_14, tl_15, cl_15, il_15, tl_16, cl_16, il_16, tl_20, tl_21, tl_25, tl_32, tl_48, tl_50, tl_57, tl_58, tl_59, tl_60, tl_99, tl_100, tl_101, tl_108, tl_109, tl_116, tl_120, tl_126, tl_374, tl_1122, tl_50000, i10, i01, tl_m1, tl_m2, tl_m3, tl_m4, nr_X4_copyFrom, tX4_copyFrom_0, tX4_copyFrom_1, tX4_copyFrom_4, tX4_copyFrom_5, tX4_copyFrom_8, tX4_copyFrom_11, tX4_copyFrom_12, tX4_copyFrom_13, tX4_copyFrom_16, tX4_copyFrom_19, tX4_copyFrom_20, tX4_copyFrom_21, tX4_copyFrom_24, tX4_copyFrom_27, tX4_copyFrom_28, tX4_copyFrom_29, tX4_copyFrom_32, tX4_copyFrom_35, pw_QK_s, h1, h2, h3.1, g1, g2, g3.1, ↓w_copyRow]
    exact ⟨by omega, tail _ rfl⟩
  · exact h.elim
end CPY
