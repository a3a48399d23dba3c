/-! a reference is stored into an array; calls that move references; the history; the text's own calls -/
theorem PW.aast {g : pw_g} {n : Nat} {sh : pw_Sh} {P : pw_P} {I : pw_I} {uc us pc : Nat} {L : List (Option Value)} {a v k N : Nat} {r : List Value} {Q : pw_Q} (hs : sh a = (12, N)) (hv : (sh v).1 = 0) (hk : k < N) (hN : N < 2147483648) (hdg : decode g.1.2.1 pc = .ok (.aastore, 1))
    (kk : PW g n sh (pw_upP P a k (some v)) I uc us (pc + 1) L r Q) : PW g n sh P I uc us pc L (.ref v :: .int (nI k) :: .ref a :: r) Q := by
  intro p l e R s m args below meth c H locs cells slots D dA ls Qf C hW hS hls hc hsl hr
  have ck : (nI k).toNatClampNeg = k := cl_nI (by omega)
  have hA : g.2.2.2.2.2 ≤ a := (hW.2 a (by rw [hs]; exact Nat.le_refl 12)).1.1
  refine pw_aast C hW hS hA (by rw [hs]; exact ⟨Nat.le_of_ble_eq_true rfl, Nat.le_refl 12⟩) (by rw [hs]; exact pw_clok_all 0 (by omega)) (by rw [hv, hs]; rfl) (by rw [hs]; exact in_nI hk hN) hdg fun H1 locs1 hW1 hS1 => ?_
  rw [ck] at hW1
  exact kk p l e R s m args below meth c H1 locs1 cells slots D dA ls Qf C hW1 hS1 hls hc hsl hr
theorem pw_callP {y : pm_I} {tb : Nat → pm_E} (ok : ∀ pc, (tb pc).1 = .nop ∨ pm_ok y pw_Ms pc (tb pc)) {d mc ms base n uc us pc idx a b c d' o : Nat} {X : pw_X} {v : Int32} {sh : pw_Sh} {P : pw_P} {I : pw_I} {L : List (Option Value)} (ht : tb pc = (.invokevirtual idx, pc + 3, a, b, c, v, [])) {As r : List Value} {Qc Q : pw_Q}
    (hM : PM (pw_Ms a) d' 0 0 base (.ref o :: As) n sh P I Qc) (hd : d' < d) (hu : uc ≤ mc ∧ us ≤ ms) (hb : As.length = b) (hs : (sh o).1 = c) (hm : s_m 8 r)
    (kk : ∀ v n' sh' P' I', Qc v n' sh' P' I' → PW (y, d, mc, ms, X, base) n' sh' P' I' uc us (pc + 3) L (v.toList ++ r) Q) : PW (y, d, mc, ms, X, base) n sh P I uc us pc L (As.reverse ++ .ref o :: r) Q := by
  have h := (ok pc).resolve_left (by rw [ht]; intro z; cases z)
  rw [ht] at h
  obtain ⟨h1, -, -, h4⟩ := h
  subst hb
  rw [Nat.add_sub_cancel_left] at h1
  exact PW.callV (g := (y, d, mc, ms, X, base)) hM hd (by show uc + 0 ≤ mc; omega) (by show us + 0 ≤ ms; omega) h4 hs hm h1 kk
def pw_QP (n : Nat) (sh : pw_Sh) (K : Option Value → pw_P → pw_I → Prop) : pw_Q := fun v n' sh' P' I' => n' = n ∧ sh' = sh ∧ K v P' I'
theorem pw_QP_s {n : Nat} {sh : pw_Sh} {P : pw_P} {K : Option Value → pw_P → pw_I → Prop} {v : Option Value} {I : pw_I} : pw_QP n sh K v n sh P I = K v P I := by
  unfold pw_QP
  simp
/-- a contract of a method that may move references -/
def pw_okP (y : pm_I) (d base n : Nat) (sh : pw_Sh) (P : pw_P) (Ag : List Value) (I : pw_I) (K : Option Value → pw_P → pw_I → Prop) : Prop := PM y d 0 0 base Ag n sh P I (pw_QP n sh K)
theorem pw_bdP {y : pm_I} {d base n : Nat} {sh : pw_Sh} {P : pw_P} {Ag : List Value} {I : pw_I} {K : Option Value → pw_P → pw_I → Prop} (L : List (Option Value)) (hy : plainName y.1.cls = true) (hc : ∀ v ∈ Ag, v.category = 1) (hn : Nat.ble Ag.length y.2.2.1 = true) (hL : pl_in Ag y.2.2.1 = L)
    (h : PW (y, d, 0, 0, none, base) n sh P I 0 0 0 L [] (pw_QP n sh K)) : pw_okP y d base n sh P Ag I K := by
  subst hL
  exact PM.of_PW hy hc (Nat.le_of_ble_eq_true hn) h
/-- a history at h: its states, in whatever order -/
def pw_his (sh : pw_Sh) (P : pw_P) (h : Nat) (q : Nat → Nat) : Prop := sh h = (2, 0) ∧ (P h 0 = some (h + 1) ∧ sh (h + 1) = (12, 5)) ∧ (∀ i, i < 5 → P (h + 1) i = some (q i) ∧ ∃ k, k < 5 ∧ q i = h + 2 + 42 * k) ∧ (∀ i j, i < j → j < 5 → q i ≠ q j) ∧ ∀ k, k < 5 → pw_brd sh P (h + 2 + 42 * k)
theorem pw_his.brd {sh : pw_Sh} {P : pw_P} {h : Nat} {q : Nat → Nat} (hM : pw_his sh P h q) {i : Nat} (hi : i < 5) : pw_brd sh P (q i) := by
  obtain ⟨-, -, h3, -, h5⟩ := hM
  obtain ⟨-, k, hk, e⟩ := h3 i hi
  rw [e]; exact h5 k hk
theorem pw_his.far {sh : pw_Sh} {P : pw_P} {h : Nat} {q : Nat → Nat} (hM : pw_his sh P h q) {i j : Nat} (hi : i < 5) (hj : j < 5) (hij : i ≠ j) : q i + 42 ≤ q j ∨ q j + 42 ≤ q i := by
  obtain ⟨-, -, h3, h4, -⟩ := hM
  obtain ⟨-, k, hk, e⟩ := h3 i hi
  obtain ⟨-, k2, hk2, e2⟩ := h3 j hj
  have : q i ≠ q j := by
    rcases Nat.lt_or_ge i j with z | z
    · exact h4 i j z hj
    · exact fun y => h4 j i (by omega) hi y.symm
  omega
theorem pw_his.at {sh : pw_Sh} {P : pw_P} {h : Nat} {q : Nat → Nat} (hM : pw_his sh P h q) {i : Nat} (hi : i < 5) : h + 2 ≤ q i ∧ q i + 42 ≤ h + 212 := by
  obtain ⟨-, -, h3, h4, -⟩ := hM
  obtain ⟨-, k, hk, e⟩ := h3 i hi
  omega
theorem pw_brd.P {sh : pw_Sh} {P P' : pw_P} {b z : Nat} (hM : pw_brd sh P b) (hz : z < b ∨ b + 42 ≤ z) (hP : ∀ a, a ≠ z → P' a = P a) : pw_brd sh P' b := by
  obtain ⟨b0, ⟨b1, b2⟩, bN, ⟨b3, b4⟩, bL, ⟨b5, b6⟩, ⟨b7, b8⟩, b9, b10⟩ := hM
  have row : ∀ r c, pw_row sh P r c → b ≤ r → r < b + 42 → pw_row sh P' r c := fun r c h1 h2 h3 => ⟨h1.1, by rw [hP r (by omega)]; exact h1.2.1, h1.2.2⟩
  refine ⟨b0, ⟨by rw [hP b (by omega)]; exact b1, b2⟩, fun j hj => ?_, ⟨by rw [hP b (by omega)]; exact b3, b4⟩, fun k hk => ?_, ⟨by rw [hP b (by omega)]; exact b5, row _ _ b6 (by omega) (by omega)⟩, ⟨by rw [hP b (by omega)]; exact b7, row _ _ b8 (by omega) (by omega)⟩, by rw [hP b (by omega)]; exact b9, b10⟩
  · obtain ⟨⟨n1, n2⟩, n3, n4⟩ := bN j hj
    exact ⟨⟨by rw [hP (b + 1) (by omega)]; exact n1, n2⟩, by rw [hP (b + 2 + 3 * j) (by omega)]; exact n3, row _ _ n4 (by omega) (by omega)⟩
  · obtain ⟨l1, l2⟩ := bL k hk
    exact ⟨by rw [hP (b + 20) (by omega)]; exact l1, l2⟩
/-- the states, each one place ahead, the first behind all -/
def rotP (P : pw_P) (h k : Nat) : pw_P := fun a i => if a = h + 1 ∧ i < k then P (h + 1) (i + 1) else P a i
def rotZ (P : pw_P) (h : Nat) : pw_P := pw_upP (rotP P h 4) (h + 1) 4 (P (h + 1) 0)
theorem rotP_s {P : pw_P} {h k : Nat} : pw_upP (rotP P h k) (h + 1) k (P (h + 1) (k + 1)) = rotP P h (k + 1) := by
  funext a i
  unfold pw_upP rotP
  by_cases e : a = h + 1
  · subst e
    by_cases z : i = k
    · subst z
      rw [if_pos ⟨rfl, rfl⟩, if_pos ⟨rfl, by omega⟩]
    · rw [if_neg (fun y => z y.2)]
      by_cases w : i < k
      · rw [if_pos ⟨rfl, w⟩, if_pos ⟨rfl, by omega⟩]
      · rw [if_neg (fun y => w y.2), if_neg (fun y => by omega)]
  · rw [if_neg (fun y => e y.1), if_neg (fun y => e y.1), if_neg (fun y => e y.1)]
theorem dc_drop1 : decode mX2_dropOldest.2.1 27 = .ok (.aastore, 1) := by decide +kernel
theorem dc_drop2 : decode mX2_dropOldest.2.1 40 = .ok (.aastore, 1) := by decide +kernel
section HIS
variable {n base h b : Nat} {sh : pw_Sh} {P : pw_P} {Ag : List Value} {I : pw_I} {S : Nat → Int32} {q : Nat → Nat} {K : Option Value → pw_I → Prop}
set_option maxRecDepth 100000 in
set_option maxHeartbeats 4000000 in
theorem x_dropOldest (hM : pw_his sh P h q) {KP : Option Value → pw_P → pw_I → Prop} (hA : KP none (rotZ P h) (pw_up I h 1 (I h 1 - 1))) : pw_okP mX2_dropOldest 0 base n sh P [.ref h] I KP := by
  obtain ⟨h1, ⟨h2, h3⟩, h4, h5, h6⟩ := id hM
  have q0 := (h4 0 (by omega)).1
  have hq : ∀ i, i < 5 → (sh (q i)).1 = 0 := fun i hi => by rw [(hM.brd hi).1]
  have rh : ∀ k, rotP P h k h 0 = some (h + 1) := fun k => by unfold rotP; rw [if_neg (by omega)]; exact h2
  refine pw_bdP [_, _, _] pl_X2 c_r rfl rfl ?_
  have loop : ∀ (f k : Nat), k + f = 4 → PW (mX2_dropOldest, 0, 0, 0, none, base) n sh (rotP P h k) I 0 0 9 [some (.ref h), some (.ref (q 0)), some (.int (nI k))] [] (pw_QP n sh KP) := by
    intro f
    induction f with
    | zero =>
      intro k hk
      obtain rfl : k = 4 := by omega
      have r4 := rh 4
      refine pw_go okX2_dropOldest (cc []) ⟨Nat.le_refl _, Nat.le_refl _⟩ cc_n (st2 9 40) 60 ?_
      simp only [↓f_vc_s, ↓vk_i, ↓cc_i, ↓reduceIte, f_vq_s, Bool.false_eq_true, ↓f_e_iconst, ↓f_e_bipush, ↓f_e_sipush, ↓f_e_ldc, ↓f_e_ldc_w, ↓f_e_iload_n, ↓f_e_iload, ↓f_e_aload_n, ↓f_e_aload, ↓f_e_istore_n, ↓f_e_istore, ↓f_e_astore_n, ↓f_e_astore, ↓f_e_iinc, ↓f_e_iadd, ↓f_e_isub, ↓f_e_imul, ↓f_e_iand, ↓f_e_ior, ↓f_e_ixor, ↓f_e_idiv, ↓f_e_irem, ↓f_e_ishl, ↓f_e_ishr, ↓f_e_iushr, ↓f_e_i2c, ↓f_e_dup, ↓f_e_dup2, ↓f_e_pop, ↓f_e_goto, ↓f_e_ifCond, ↓f_e_if_icmp, ↓f_e_tableswitch, ↓f_e_lookupswitch, ↓f_e_getfield_i, ↓f_e_getfield_r, ↓f_e_putfield_i, ↓f_e_putfield_z, ↓f_e_iaload, ↓f_e_caload, ↓f_e_aaload, ↓f_e_iastore, ↓f_e_castore, ↓f_e_arraylength, ↓f_e_invokestatic, ↓f_e_invokevirtual, ↓f_e_ireturn, ↓f_e_return_, ↓f_s_i_c, ↓f_s_r_c, ↓f_s_v_i, ↓f_s_v_r, ↓f_s_l_0, ↓s_l_1, ↓s_l_2, ↓s_l_3, ↓s_l_4, ↓s_l_5, ↓s_l_6, ↓s_a_0, ↓s_a_1, ↓s_a_2, ↓s_a_3, ↓s_m_0, ↓f_s_m_i, ↓f_s_m_r, ↓f_s_m_i7, ↓f_s_m_r7, ↓f_s_m_i6, ↓f_s_m_r6, ↓f_s_m_i5, ↓f_s_m_r5, ↓f_s_m_i4, ↓f_s_m_r4, ↓f_s_w_n, ↓f_s_w_c, ↓f_s_p_eq, ↓f_s_p_ne, ↓f_s_p_lt, ↓f_s_p_ge, ↓f_s_p_gt, ↓f_s_p_le, ↓nk_i, ↓nk_z, ↓nk_c, ↓rf_s, ↓ov_s, ↓ov_n, ↓fin0, ↓fin1, ↓fin2, ↓fin3, cond_true, cond_false, List.set_cons_zero, List.set_cons_succ, List.length_cons, List.length_nil, true_and, and_true, true_or, or_true, implies_true, forall_const, not_true_eq_false, not_false_eq_true, false_implies, Nat.reduceAdd, Nat.reduceLT, Nat.reduceBEq, Nat.reduceEqDiff, Bool.or_false, Bool.false_or, Bool.or_true, Bool.true_or, beq_self_eq_true, Nat.reduceLeDiff, Nat.reduceMul, Nat.reduceSub, eq_self, Nat.reduceBneDiff, st0_s, st1_s, st2_s, st3_s, reduceCtorEq, cc_0, tl_0, cl_0, il_0, tl_1, cl_1, il_1, tl_2, cl_2, il_2, tl_3, cl_3, il_3, tl_4, cl_4, il_4, tl_5, cl_5, il_5, tl_6, cl_6, il_6, tl_7, cl_7, il_7, tl_8, cl_8, il_8, tl_9, cl_9, il_9, tl_10, cl_10, il_10, tl_11, cl_11, il_11, tl_12, cl_12, il_12, tl_13, cl_13, il_13, tl_14, cl_14, il_14, tl_15, cl_15, il_15, tl_16, cl_16, il_16, tl_20, tl_21, tl_25, tl_32, tl_48, tl_50, tl_57, tl_58, tl_59, tl_60, tl_99, tl_100, tl_101, tl_108, tl_109, tl_116, tl_120, tl_126, tl_374, tl_1122, tl_50000, i10, i01, tl_m1, tl_m2, tl_m3, tl_m4, nr_X2_dropOldest, tX2_dropOldest_0, tX2_dropOldest_1, tX2_dropOldest_4, tX2_dropOldest_5, tX2_dropOldest_6, tX2_dropOldest_7, tX2_dropOldest_8, tX2_dropOldest_9, tX2_dropOldest_10, tX2_dropOldest_11, tX2_dropOldest_14, tX2_dropOldest_15, tX2_dropOldest_18, tX2_dropOldest_19, tX2_dropOldest_20, tX2_dropOldest_23, tX2_dropOldest_24, tX2_dropOldest_25, tX2_dropOldest_26, tX2_dropOldest_28, tX2_dropOldest_31, tX2_dropOldest_34, tX2_dropOldest_35, tX2_dropOldest_38, tX2_dropOldest_39, tX2_dropOldest_41, tX2_dropOldest_42, tX2_dropOldest_43, tX2_dropOldest_46, tX2_dropOldest_47, tX2_dropOldest_48, tX2_dropOldest_51, pw_QP_s, h1, h3, r4]
      refine ⟨fun _ => ?_, fun z => absurd (by decide) z⟩
      refine PW.aast (k := 4) (N := 5) h3 (hq 0 (by omega)) (by omega) (by omega) dc_drop2 ?_
      rw [← q0]
      show PW _ n sh (rotZ P h) I 0 0 41 _ _ _
      refine pw_go okX2_dropOldest (cc []) ⟨Nat.le_refl _, Nat.le_refl _⟩ cc_n (st1 9) 60 ?_
      simp only [↓f_vc_s, ↓vk_i, ↓cc_i, ↓reduceIte, f_vq_s, Bool.false_eq_true, ↓f_e_iconst, ↓f_e_bipush, ↓f_e_sipush, ↓f_e_ldc, ↓f_e_ldc_w, ↓f_e_iload_n, ↓f_e_iload, ↓f_e_aload_n, ↓f_e_aload, ↓f_e_istore_n, ↓f_e_istore, ↓f_e_astore_n, ↓f_e_astore, ↓f_e_iinc, ↓f_e_iadd, ↓f_e_isub, ↓f_e_imul, ↓f_e_iand, ↓f_e_ior, ↓f_e_ixor, ↓f_e_idiv, ↓f_e_irem, ↓f_e_ishl, ↓f_e_ishr, ↓f_e_iushr, ↓f_e_i2c, ↓f_e_dup, ↓f_e_dup2, ↓f_e_pop, ↓f_e_goto, ↓f_e_ifCond, ↓f_e_if_icmp, ↓f_e_tableswitch, ↓f_e_lookupswitch, ↓f_e_getfield_i, ↓f_e_getfield_r, ↓f_e_putfield_i, ↓f_e_putfield_z, ↓f_e_iaload, ↓f_e_caload, ↓f_e_aaload, ↓f_e_iastore, ↓f_e_castore, ↓f_e_arraylength, ↓f_e_invokestatic, ↓f_e_invokevirtual, ↓f_e_ireturn, ↓f_e_return_, ↓f_s_i_c, ↓f_s_r_c, ↓f_s_v_i, ↓f_s_v_r, ↓f_s_l_0, ↓s_l_1, ↓s_l_2, ↓s_l_3, ↓s_l_4, ↓s_l_5, ↓s_l_6, ↓s_a_0, ↓s_a_1, ↓s_a_2, ↓s_a_3, ↓s_m_0, ↓f_s_m_i, ↓f_s_m_r, ↓f_s_m_i7, ↓f_s_m_r7, ↓f_s_m_i6, ↓f_s_m_r6, ↓f_s_m_i5, ↓f_s_m_r5, ↓f_s_m_i4, ↓f_s_m_r4, ↓f_s_w_n, ↓f_s_w_c, ↓f_s_p_eq, ↓f_s_p_ne, ↓f_s_p_lt, ↓f_s_p_ge, ↓f_s_p_gt, ↓f_s_p_le, ↓nk_i, ↓nk_z, ↓nk_c, ↓rf_s, ↓ov_s, ↓ov_n, ↓fin0, ↓fin1, ↓fin2, ↓fin3, cond_true, cond_false, List.set_cons_zero, List.set_cons_succ, List.length_cons, List.length_nil, true_and, and_true, true_or, or_true, implies_true, forall_const, not_true_eq_false, not_false_eq_true, false_implies, Nat.reduceAdd, Nat.reduceLT, Nat.reduceBEq, Nat.reduceEqDiff, Bool.or_false, Bool.false_or, Bool.or_true, Bool.true_or, beq_self_eq_true, Nat.reduceLeDiff, Nat.reduceMul, Nat.reduceSub, eq_self, Nat.reduceBneDiff, st0_s, st1_s, st2_s, st3_s, reduceCtorEq, cc_0, tl_0, cl_0, il_0, tl_1, cl_1, il_1, tl_2, cl_2, il_2, tl_3, cl_3, il_3, tl_4, cl_4, il_4, tl_5, cl_5, il_5, tl_6, cl_6, il_6, tl_7, cl_7, il_7, tl_8, cl_8, il_8, tl_9, cl_9, il_9, tl_10, cl_10, il_10, tl_11, cl_11, il_11, tl_12, cl_12, il_12, tl_13, cl_13, il_13, tl_14, cl_14, il_14, tl_15, cl_15, il_15, tl_16, cl_16, il_16, tl_20, tl_21, tl_25, tl_32, tl_48, tl_50, tl_57, tl_58, tl_59, tl_60, tl_99, tl_100, tl_101, tl_108, tl_109, tl_116, tl_120, tl_126, tl_374, tl_1122, tl_50000, i10, i01, tl_m1, tl_m2, tl_m3, tl_m4, nr_X2_dropOldest, tX2_dropOldest_0, tX2_dropOldest_1, tX2_dropOldest_4, tX2_dropOldest_5, tX2_dropOldest_6, tX2_dropOldest_7, tX2_dropOldest_8, tX2_dropOldest_9, tX2_dropOldest_10, tX2_dropOldest_11, tX2_dropOldest_14, tX2_dropOldest_15, tX2_dropOldest_18, tX2_dropOldest_19, tX2_dropOldest_20, tX2_dropOldest_23, tX2_dropOldest_24, tX2_dropOldest_25, tX2_dropOldest_26, tX2_dropOldest_28, tX2_dropOldest_31, tX2_dropOldest_34, tX2_dropOldest_35, tX2_dropOldest_38, tX2_dropOldest_39, tX2_dropOldest_41, tX2_dropOldest_42, tX2_dropOldest_43, tX2_dropOldest_46, tX2_dropOldest_47, tX2_dropOldest_48, tX2_dropOldest_51, pw_QP_s, h1]
      exact hA
    | succ f ih =>
      intro k hk
      have rk := rh k
      have ck : (nI (k + 1)).toNatClampNeg = k + 1 := cl_nI (by omega)
      have qk := (h4 (k + 1) (by omega)).1
      have re : rotP P h k (h + 1) (k + 1) = some (q (k + 1)) := by unfold rotP; rw [if_neg (by omega)]; exact qk
      refine pw_go okX2_dropOldest (cc []) ⟨Nat.le_refl _, Nat.le_refl _⟩ cc_n (st2 9 27) 60 ?_
      simp only [↓f_vc_s, ↓vk_i, ↓cc_i, ↓reduceIte, f_vq_s, Bool.false_eq_true, ↓f_e_iconst, ↓f_e_bipush, ↓f_e_sipush, ↓f_e_ldc, ↓f_e_ldc_w, ↓f_e_iload_n, ↓f_e_iload, ↓f_e_aload_n, ↓f_e_aload, ↓f_e_istore_n, ↓f_e_istore, ↓f_e_astore_n, ↓f_e_astore, ↓f_e_iinc, ↓f_e_iadd, ↓f_e_isub, ↓f_e_imul, ↓f_e_iand, ↓f_e_ior, ↓f_e_ixor, ↓f_e_idiv, ↓f_e_irem, ↓f_e_ishl, ↓f_e_ishr, ↓f_e_iushr, ↓f_e_i2c, ↓f_e_dup, ↓f_e_dup2, ↓f_e_pop, ↓f_e_goto, ↓f_e_ifCond, ↓f_e_if_icmp, ↓f_e_tableswitch, ↓f_e_lookupswitch, ↓f_e_getfield_i, ↓f_e_getfield_r, ↓f_e_putfield_i, ↓f_e_putfield_z, ↓f_e_iaload, ↓f_e_caload, ↓f_e_aaload, ↓f_e_iastore, ↓f_e_castore, ↓f_e_arraylength, ↓f_e_invokestatic, ↓f_e_invokevirtual, ↓f_e_ireturn, ↓f_e_return_, ↓f_s_i_c, ↓f_s_r_c, ↓f_s_v_i, ↓f_s_v_r, ↓f_s_l_0, ↓s_l_1, ↓s_l_2, ↓s_l_3, ↓s_l_4, ↓s_l_5, ↓s_l_6, ↓s_a_0, ↓s_a_1, ↓s_a_2, ↓s_a_3, ↓s_m_0, ↓f_s_m_i, ↓f_s_m_r, ↓f_s_m_i7, ↓f_s_m_r7, ↓f_s_m_i6, ↓f_s_m_r6, ↓f_s_m_i5, ↓f_s_m_r5, ↓f_s_m_i4, ↓f_s_m_r4, ↓f_s_w_n, ↓f_s_w_c, ↓f_s_p_eq, ↓f_s_p_ne, ↓f_s_p_lt, ↓f_s_p_ge, ↓f_s_p_gt, ↓f_s_p_le, ↓nk_i, ↓nk_z, ↓nk_c, ↓rf_s, ↓ov_s, ↓ov_n, ↓fin0, ↓fin1, ↓fin2, ↓fin3, cond_true, cond_false, List.set_cons_zero, List.set_cons_succ, List.length_cons, List.length_nil, true_and, and_true, true_or, or_true, implies_true, forall_const, not_true_eq_false, not_false_eq_true, false_implies, Nat.reduceAdd, Nat.reduceLT, Nat.reduceBEq, Nat.reduceEqDiff, Bool.or_false, Bool.false_or, Bool.or_true, Bool.true_or, beq_self_eq_true, Nat.reduceLeDiff, Nat.reduceMul, Nat.reduceSub, eq_self, Nat.reduceBneDiff, st0_s, st1_s, st2_s, st3_s, reduceCtorEq, cc_0, tl_0, cl_0, il_0, tl_1, cl_1, il_1, tl_2, cl_2, il_2, tl_3, cl_3, il_3, tl_4, cl_4, il_4, tl_5, cl_5, il_5, tl_6, cl_6, il_6, tl_7, cl_7, il_7, tl_8, cl_8, il_8, tl_9, cl_9, il_9, tl_10, cl_10, il_10, tl_11, cl_11, il_11, tl_12, cl_12, il_12, tl_13, cl_13, il_13, tl_14, cl_14, il_14, tl_15, cl_15, il_15, tl_16, cl_16, il_16, tl_20, tl_21, tl_25, tl_32, tl_48, tl_50, tl_57, tl_58, tl_59, tl_60, tl_99, tl_100, tl_101, tl_108, tl_109, tl_116, tl_120, tl_126, tl_374, tl_1122, tl_50000, i10, i01, tl_m1, tl_m2, tl_m3, tl_m4, nr_X2_dropOldest, tX2_dropOldest_0, tX2_dropOldest_1, tX2_dropOldest_4, tX2_dropOldest_5, tX2_dropOldest_6, tX2_dropOldest_7, tX2_dropOldest_8, tX2_dropOldest_9, tX2_dropOldest_10, tX2_dropOldest_11, tX2_dropOldest_14, tX2_dropOldest_15, tX2_dropOldest_18, tX2_dropOldest_19, tX2_dropOldest_20, tX2_dropOldest_23, tX2_dropOldest_24, tX2_dropOldest_25, tX2_dropOldest_26, tX2_dropOldest_28, tX2_dropOldest_31, tX2_dropOldest_34, tX2_dropOldest_35, tX2_dropOldest_38, tX2_dropOldest_39, tX2_dropOldest_41, tX2_dropOldest_42, tX2_dropOldest_43, tX2_dropOldest_46, tX2_dropOldest_47, tX2_dropOldest_48, tX2_dropOldest_51, pw_QP_s, h1, h3, rk, ix_1, ck, re]
      refine ⟨fun z => absurd z (nI_ge (a := k) (b := 4) (by omega) (by omega)), fun _ => ⟨in_nI (by omega) (by omega), ?_⟩⟩
      refine PW.aast (k := k) (N := 5) h3 (hq (k + 1) (by omega)) (by omega) (by omega) dc_drop1 ?_
      rw [← qk, rotP_s]
      have := ih (k + 1) (by omega)
      refine pw_go okX2_dropOldest (cc []) ⟨Nat.le_refl _, Nat.le_refl _⟩ cc_n (st2 9 40) 60 ?_
      simp only [↓f_vc_s, ↓vk_i, ↓cc_i, ↓reduceIte, f_vq_s, Bool.false_eq_true, ↓f_e_iconst, ↓f_e_bipush, ↓f_e_sipush, ↓f_e_ldc, ↓f_e_ldc_w, ↓f_e_iload_n, ↓f_e_iload, ↓f_e_aload_n, ↓f_e_aload, ↓f_e_istore_n, ↓f_e_istore, ↓f_e_astore_n, ↓f_e_astore, ↓f_e_iinc, ↓f_e_iadd, ↓f_e_isub, ↓f_e_imul, ↓f_e_iand, ↓f_e_ior, ↓f_e_ixor, ↓f_e_idiv, ↓f_e_irem, ↓f_e_ishl, ↓f_e_ishr, ↓f_e_iushr, ↓f_e_i2c, ↓f_e_dup, ↓f_e_dup2, ↓f_e_pop, ↓f_e_goto, ↓f_e_ifCond, ↓f_e_if_icmp, ↓f_e_tableswitch, ↓f_e_lookupswitch, ↓f_e_getfield_i, ↓f_e_getfield_r, ↓f_e_putfield_i, ↓f_e_putfield_z, ↓f_e_iaload, ↓f_e_caload, ↓f_e_aaload, ↓f_e_iastore, ↓f_e_castore, ↓f_e_arraylength, ↓f_e_invokestatic, ↓f_e_invokevirtual, ↓f_e_ireturn, ↓f_e_return_, ↓f_s_i_c, ↓f_s_r_c, ↓f_s_v_i, ↓f_s_v_r, ↓f_s_l_0, ↓s_l_1, ↓s_l_2, ↓s_l_3, ↓s_l_4, ↓s_l_5, ↓s_l_6, ↓s_a_0, ↓s_a_1, ↓s_a_2, ↓s_a_3, ↓s_m_0, ↓f_s_m_i, ↓f_s_m_r, ↓f_s_m_i7, ↓f_s_m_r7, ↓f_s_m_i6, ↓f_s_m_r6, ↓f_s_m_i5, ↓f_s_m_r5, ↓f_s_m_i4, ↓f_s_m_r4, ↓f_s_w_n, ↓f_s_w_c, ↓f_s_p_eq, ↓f_s_p_ne, ↓f_s_p_lt, ↓f_s_p_ge, ↓f_s_p_gt, ↓f_s_p_le, ↓nk_i, ↓nk_z, ↓nk_c, ↓rf_s, ↓ov_s, ↓ov_n, ↓fin0, ↓fin1, ↓fin2, ↓fin3, cond_true, cond_false, List.set_cons_zero, List.set_cons_succ, List.length_cons, List.length_nil, true_and, and_true, true_or, or_true, implies_true, forall_const, not_true_eq_false, not_false_eq_true, false_implies, Nat.reduceAdd, Nat.reduceLT, Nat.reduceBEq, Nat.reduceEqDiff, Bool.or_false, Bool.false_or, Bool.or_true, Bool.true_or, beq_self_eq_true, Nat.reduceLeDiff, Nat.reduceMul, Nat.reduceSub, eq_self, Nat.reduceBneDiff, st0_s, st1_s, st2_s, st3_s, reduceCtorEq, cc_0, tl_0, cl_0, il_0, tl_1, cl_1, il_1, tl_2, cl_2, il_2, tl_3, cl_3, il_3, tl_4, cl_4, il_4, tl_5, cl_5, il_5, tl_6, cl_6, il_6, tl_7, cl_7, il_7, tl_8, cl_8, il_8, tl_9, cl_9, il_9, tl_10, cl_10, il_10, tl_11, cl_11, il_11, tl_12, cl_12, il_12, tl_13, cl_13, il_13, tl_14, cl_14, il_14, tl_15, cl_15, il_15, tl_16, cl_16, il_16, tl_20, tl_21, tl_25, tl_32, tl_48, tl_50, tl_57, tl_58, tl_59, tl_60, tl_99, tl_100, tl_101, tl_108, tl_109, tl_116, tl_120, tl_126, tl_374, tl_1122, tl_50000, i10, i01, tl_m1, tl_m2, tl_m3, tl_m4, nr_X2_dropOldest, tX2_dropOldest_0, tX2_dropOldest_1, tX2_dropOldest_4, tX2_dropOldest_5, tX2_dropOldest_6, tX2_dropOldest_7, tX2_dropOldest_8, tX2_dropOldest_9, tX2_dropOldest_10, tX2_dropOldest_11, tX2_dropOldest_14, tX2_dropOldest_15, tX2_dropOldest_18, tX2_dropOldest_19, tX2_dropOldest_20, tX2_dropOldest_23, tX2_dropOldest_24, tX2_dropOldest_25, tX2_dropOldest_26, tX2_dropOldest_28, tX2_dropOldest_31, tX2_dropOldest_34, tX2_dropOldest_35, tX2_dropOldest_38, tX2_dropOldest_39, tX2_dropOldest_41, tX2_dropOldest_42, tX2_dropOldest_43, tX2_dropOldest_46, tX2_dropOldest_47, tX2_dropOldest_48, tX2_dropOldest_51, pw_QP_s, h1, ix_1]
      exact this
  have := loop 4 0 (by omega)
  rw [show rotP P h 0 = P from by funext a i; unfold rotP; rw [if_neg (by omega)]] at this
  refine pw_go okX2_dropOldest (cc []) ⟨Nat.le_refl _, Nat.le_refl _⟩ cc_n (st1 9) 60 ?_
  simp only [↓f_vc_s, ↓vk_i, ↓cc_i, ↓reduceIte, f_vq_s, Bool.false_eq_true, ↓f_e_iconst, ↓f_e_bipush, ↓f_e_sipush, ↓f_e_ldc, ↓f_e_ldc_w, ↓f_e_iload_n, ↓f_e_iload, ↓f_e_aload_n, ↓f_e_aload, ↓f_e_istore_n, ↓f_e_istore, ↓f_e_astore_n, ↓f_e_astore, ↓f_e_iinc, ↓f_e_iadd, ↓f_e_isub, ↓f_e_imul, ↓f_e_iand, ↓f_e_ior, ↓f_e_ixor, ↓f_e_idiv, ↓f_e_irem, ↓f_e_ishl, ↓f_e_ishr, ↓f_e_iushr, ↓f_e_i2c, ↓f_e_dup, ↓f_e_dup2, ↓f_e_pop, ↓f_e_goto, ↓f_e_ifCond, ↓f_e_if_icmp, ↓f_e_tableswitch, ↓f_e_lookupswitch, ↓f_e_getfield_i, ↓f_e_getfield_r, ↓f_e_putfield_i, ↓f_e_putfield_z, ↓f_e_iaload, ↓f_e_caload, ↓f_e_aaload, ↓f_e_iastore, ↓f_e_castore, ↓f_e_arraylength, ↓f_e_invokestatic, ↓f_e_invokevirtual, ↓f_e_ireturn, ↓f_e_return_, ↓f_s_i_c, ↓f_s_r_c, ↓f_s_v_i, ↓f_s_v_r, ↓f_s_l_0, ↓s_l_1, ↓s_l_2, ↓s_l_3, ↓s_l_4, ↓s_l_5, ↓s_l_6, ↓s_a_0, ↓s_a_1, ↓s_a_2, ↓s_a_3, ↓s_m_0, ↓f_s_m_i, ↓f_s_m_r, ↓f_s_m_i7, ↓f_s_m_r7, ↓f_s_m_i6, ↓f_s_m_r6, ↓f_s_m_i5, ↓f_s_m_r5, ↓f_s_m_i4, ↓f_s_m_r4, ↓f_s_w_n, ↓f_s_w_c, ↓f_s_p_eq, ↓f_s_p_ne, ↓f_s_p_lt, ↓f_s_p_ge, ↓f_s_p_gt, ↓f_s_p_le, ↓nk_i, ↓nk_z, ↓nk_c, ↓rf_s, ↓ov_s, ↓ov_n, ↓fin0, ↓fin1, ↓fin2, ↓fin3, cond_true, cond_false, List.set_cons_zero, List.set_cons_succ, List.length_cons, List.length_nil, true_and, and_true, true_or, or_true, implies_true, forall_const, not_true_eq_false, not_false_eq_true, false_implies, Nat.reduceAdd, Nat.reduceLT, Nat.reduceBEq, Nat.reduceEqDiff, Bool.or_false, Bool.false_or, Bool.or_true, Bool.true_or, beq_self_eq_true, Nat.reduceLeDiff, Nat.reduceMul, Nat.reduceSub, eq_self, Nat.reduceBneDiff, st0_s, st1_s, st2_s, st3_s, reduceCtorEq, cc_0, tl_0, cl_0, il_0, tl_1, cl_1, il_1, tl_2, cl_2, il_2, tl_3, cl_3, il_3, tl_4, cl_4, il_4, tl_5, cl_5, il_5, tl_6, cl_6, il_6, tl_7, cl_7, il_7, tl_8, cl_8, il_8, tl_9, cl_9, il_9, tl_10, cl_10, il_10, tl_11, cl_11, il_11, tl_12, cl_12, il_12, tl_13, cl_13, il_13, tl_14, cl_14, il_14, tl_15, cl_15, il_15, tl_16, cl_16, il_16, tl_20, tl_21, tl_25, tl_32, tl_48, tl_50, tl_57, tl_58, tl_59, tl_60, tl_99, tl_100, tl_101, tl_108, tl_109, tl_116, tl_120, tl_126, tl_374, tl_1122, tl_50000, i10, i01, tl_m1, tl_m2, tl_m3, tl_m4, nr_X2_dropOldest, tX2_dropOldest_0, tX2_dropOldest_1, tX2_dropOldest_4, tX2_dropOldest_5, tX2_dropOldest_6, tX2_dropOldest_7, tX2_dropOldest_8, tX2_dropOldest_9, tX2_dropOldest_10, tX2_dropOldest_11, tX2_dropOldest_14, tX2_dropOldest_15, tX2_dropOldest_18, tX2_dropOldest_19, tX2_dropOldest_20, tX2_dropOldest_23, tX2_dropOldest_24, tX2_dropOldest_25, tX2_dropOldest_26, tX2_dropOldest_28, tX2_dropOldest_31, tX2_dropOldest_34, tX2_dropOldest_35, tX2_dropOldest_38, tX2_dropOldest_39, tX2_dropOldest_41, tX2_dropOldest_42, tX2_dropOldest_43, tX2_dropOldest_46, tX2_dropOldest_47, tX2_dropOldest_48, tX2_dropOldest_51, pw_QP_s, h1, h2, h3, q0]
  exact ⟨in_nI (k := 0) (by omega) (by omega), this⟩
/-- the states that are kept: how many, each at its place -/
def hisR (I : pw_I) (h : Nat) (q : Nat → Nat) (st : Nat → Nat → Int32) (u : Nat) : Prop := I h 1 = nI u ∧ u ≤ 4 ∧ ∀ i, i < u → RelB I (q i) (st i)
def pushS (st : Nat → Nat → Int32) (u : Nat) (S : Nat → Int32) : Nat → Nat → Int32 := fun i => if u = 4 then (if i < 3 then st (i + 1) else S) else (if i = u then S else st i)
def pushU (u : Nat) : Nat := if u = 4 then 4 else u + 1
set_option maxRecDepth 100000 in
set_option maxHeartbeats 4000000 in
theorem x_close (hM : pw_his sh P h q) {st : Nat → Nat → Int32} {u : Nat} (hR : hisR I h q st u) (hS : RelB I (q u) S) {z : Int32} {KP : Option Value → pw_P → pw_I → Prop}
    (hK : ∀ P' I' q', (∀ a, a ≠ h → I' a = I a) → (∀ a, a ≠ h + 1 → P' a = P a) → pw_his sh P' h q' → (z.toInt < 0 → hisR I' h q' st u) → (0 ≤ z.toInt → hisR I' h q' (pushS st u S) (pushU u)) → KP (some (.int z)) P' I') :
    pw_okP mX2_close 1 base n sh P [.ref h, .int z] I KP := by
  obtain ⟨h1, ⟨h2, h3⟩, h4, h5, h6⟩ := id hM
  obtain ⟨r1, r2, r3⟩ := hR
  refine pw_bdP [_, _] pl_X2 c_ri rfl rfl ?_
  by_cases hz : z.toInt < 0
  · have := hK P I q (fun _ _ => rfl) (fun _ _ => rfl) hM (fun _ => ⟨r1, r2, r3⟩) (fun y => absurd hz (by omega))
    refine pw_go okX2_close (cc []) ⟨Nat.le_refl _, Nat.le_refl _⟩ cc_n (st1 4) 60 ?_
    simp only [↓f_vc_s, ↓vk_i, ↓cc_i, ↓reduceIte, f_vq_s, Bool.false_eq_true, ↓f_e_iconst, ↓f_e_bipush, ↓f_e_sipush, ↓f_e_ldc, ↓f_e_ldc_w, ↓f_e_iload_n, ↓f_e_iload, ↓f_e_aload_n, ↓f_e_aload, ↓f_e_istore_n, ↓f_e_istore, ↓f_e_astore_n, ↓f_e_astore, ↓f_e_iinc, ↓f_e_iadd, ↓f_e_isub, ↓f_e_imul, ↓f_e_iand, ↓f_e_ior, ↓f_e_ixor, ↓f_e_idiv, ↓f_e_irem, ↓f_e_ishl, ↓f_e_ishr, ↓f_e_iushr, ↓f_e_i2c, ↓f_e_dup, ↓f_e_dup2, ↓f_e_pop, ↓f_e_goto, ↓f_e_ifCond, ↓f_e_if_icmp, ↓f_e_tableswitch, ↓f_e_lookupswitch, ↓f_e_getfield_i, ↓f_e_getfield_r, ↓f_e_putfield_i, ↓f_e_putfield_z, ↓f_e_iaload, ↓f_e_caload, ↓f_e_aaload, ↓f_e_iastore, ↓f_e_castore, ↓f_e_arraylength, ↓f_e_invokestatic, ↓f_e_invokevirtual, ↓f_e_ireturn, ↓f_e_return_, ↓f_s_i_c, ↓f_s_r_c, ↓f_s_v_i, ↓f_s_v_r, ↓f_s_l_0, ↓s_l_1, ↓s_l_2, ↓s_l_3, ↓s_l_4, ↓s_l_5, ↓s_l_6, ↓s_a_0, ↓s_a_1, ↓s_a_2, ↓s_a_3, ↓s_m_0, ↓f_s_m_i, ↓f_s_m_r, ↓f_s_m_i7, ↓f_s_m_r7, ↓f_s_m_i6, ↓f_s_m_r6, ↓f_s_m_i5, ↓f_s_m_r5, ↓f_s_m_i4, ↓f_s_m_r4, ↓f_s_w_n, ↓f_s_w_c, ↓f_s_p_eq, ↓f_s_p_ne, ↓f_s_p_lt, ↓f_s_p_ge, ↓f_s_p_gt, ↓f_s_p_le, ↓nk_i, ↓nk_z, ↓nk_c, ↓rf_s, ↓ov_s, ↓ov_n, ↓fin0, ↓fin1, ↓fin2, ↓fin3, cond_true, cond_false, List.set_cons_zero, List.set_cons_succ, List.length_cons, List.length_nil, true_and, and_true, true_or, or_true, implies_true, forall_const, not_true_eq_false, not_false_eq_true, false_implies, Nat.reduceAdd, Nat.reduceLT, Nat.reduceBEq, Nat.reduceEqDiff, Bool.or_false, Bool.false_or, Bool.or_true, Bool.true_or, beq_self_eq_true, Nat.reduceLeDiff, Nat.reduceMul, Nat.reduceSub, eq_self, Nat.reduceBneDiff, st0_s, st1_s, st2_s, st3_s, reduceCtorEq, cc_0, tl_0, cl_0, il_0, tl_1, cl_1, il_1, tl_2, cl_2, il_2, tl_3, cl_3, il_3, tl_4, cl_4, il_4, tl_5, cl_5, il_5, tl_6, cl_6, il_6, tl_7, cl_7, il_7, tl_8, cl_8, il_8, tl_9, cl_9, il_9, tl_10, cl_10, il_10, tl_11, cl_11, il_11, tl_12, cl_12, il_12, tl_13, cl_13, il_13, tl_14, cl_14, il_14, tl_15, cl_15, il_15, tl_16, cl_16, il_16, tl_20, tl_21, tl_25, tl_32, tl_48, tl_50, tl_57, tl_58, tl_59, tl_60, tl_99, tl_100, tl_101, tl_108, tl_109, tl_116, tl_120, tl_126, tl_374, tl_1122, tl_50000, i10, i01, tl_m1, tl_m2, tl_m3, tl_m4, nr_X2_close, tX2_close_0, tX2_close_1, tX2_close_4, tX2_close_5, tX2_close_6, tX2_close_9, tX2_close_10, tX2_close_11, tX2_close_14, tX2_close_15, tX2_close_18, tX2_close_19, tX2_close_22, tX2_close_23, tX2_close_26, tX2_close_27, pw_QP_s]
    exact ⟨fun _ => this, fun y => absurd (by rw [ti_lt]; exact hz) y⟩
  · have hz0 : ¬ z < 0 := fun y => hz (by rw [ti_lt] at y; exact y)
    have keep : ∀ v, ∀ i, i < 5 → ∀ X, RelB I (q i) X → RelB (pw_up I h 1 v) (q i) X := fun v i hi X hX => hX.out (fun a a1 a2 => by
      have := hM.at hi
      rw [up_set, set_n (by omega)])
    by_cases hu : u = 4
    · subst hu
      have e5 : pw_up I h 1 5 h 1 = 5 := up_r
      have r1' : I h 1 = 4 := r1
      let qz : Nat → Nat := fun i => if i < 4 then q (i + 1) else q 0
      have hz4 : pw_his sh (rotZ P h) h qz := by
        have hPn : ∀ a, a ≠ h + 1 → rotZ P h a = P a := fun a ha => by
          funext i
          unfold rotZ pw_upP rotP
          rw [if_neg (fun y => ha y.1), if_neg (fun y => ha y.1)]
        refine ⟨h1, ⟨by rw [hPn h (by omega)]; exact h2, h3⟩, fun i hi => ?_, fun i j hij hj => ?_, fun k hk => (h6 k hk).P (z := h + 1) (by omega) hPn⟩
        · show rotZ P h (h + 1) i = some (if i < 4 then q (i + 1) else q 0) ∧ ∃ k, k < 5 ∧ (if i < 4 then q (i + 1) else q 0) = h + 2 + 42 * k
          unfold rotZ pw_upP rotP
          by_cases e : i < 4
          · rw [if_neg (by omega), if_pos ⟨rfl, e⟩, if_pos e]
            exact h4 (i + 1) (by omega)
          · rw [if_pos ⟨rfl, by omega⟩, if_neg e]
            exact h4 0 (by omega)
        · show (if i < 4 then q (i + 1) else q 0) ≠ (if j < 4 then q (j + 1) else q 0)
          rw [if_pos (by omega)]
          by_cases e : j < 4
          · rw [if_pos e]; exact h5 (i + 1) (j + 1) (by omega) (by omega)
          · rw [if_neg e]; exact fun y => h5 0 (i + 1) (by omega) (by omega) y.symm
      have fin := hK (rotZ P h) (pw_up (pw_up I h 1 5) h 1 4) qz (fun a ha => by rw [up_set, set_n ha, up_set, set_n ha]) (fun a ha => by
          funext i
          unfold rotZ pw_upP rotP
          rw [if_neg (fun y => ha y.1), if_neg (fun y => ha y.1)]) hz4 (fun y => absurd y hz) (fun _ => ⟨by rw [up_r]; rfl, Nat.le_refl 4, fun i hi => by
          have hi : i < 4 := hi
          show RelB _ (if i < 4 then q (i + 1) else q 0) (if (4 : Nat) = 4 then (if i < 3 then st (i + 1) else S) else (if i = 4 then S else st i))
          rw [if_pos hi, if_pos rfl]
          have k2 : ∀ X, RelB I (q (i + 1)) X → RelB (pw_up (pw_up I h 1 5) h 1 4) (q (i + 1)) X := fun X hX => (keep 5 (i + 1) (by omega) X hX).out (fun a a1 a2 => by
            have := hM.at (i := i + 1) (by omega)
            rw [up_set, set_n (by omega)])
          by_cases e : i < 3
          · rw [if_pos e]; exact k2 _ (r3 (i + 1) (by omega))
          · rw [if_neg e]
            obtain rfl : i = 3 := by omega
            exact k2 _ hS⟩)
      refine pw_go okX2_close (cc []) ⟨Nat.le_refl _, Nat.le_refl _⟩ cc_n (st1 23) 60 ?_
      simp only [↓f_vc_s, ↓vk_i, ↓cc_i, ↓reduceIte, f_vq_s, Bool.false_eq_true, ↓f_e_iconst, ↓f_e_bipush, ↓f_e_sipush, ↓f_e_ldc, ↓f_e_ldc_w, ↓f_e_iload_n, ↓f_e_iload, ↓f_e_aload_n, ↓f_e_aload, ↓f_e_istore_n, ↓f_e_istore, ↓f_e_astore_n, ↓f_e_astore, ↓f_e_iinc, ↓f_e_iadd, ↓f_e_isub, ↓f_e_imul, ↓f_e_iand, ↓f_e_ior, ↓f_e_ixor, ↓f_e_idiv, ↓f_e_irem, ↓f_e_ishl, ↓f_e_ishr, ↓f_e_iushr, ↓f_e_i2c, ↓f_e_dup, ↓f_e_dup2, ↓f_e_pop, ↓f_e_goto, ↓f_e_ifCond, ↓f_e_if_icmp, ↓f_e_tableswitch, ↓f_e_lookupswitch, ↓f_e_getfield_i, ↓f_e_getfield_r, ↓f_e_putfield_i, ↓f_e_putfield_z, ↓f_e_iaload, ↓f_e_caload, ↓f_e_aaload, ↓f_e_iastore, ↓f_e_castore, ↓f_e_arraylength, ↓f_e_invokestatic, ↓f_e_invokevirtual, ↓f_e_ireturn, ↓f_e_return_, ↓f_s_i_c, ↓f_s_r_c, ↓f_s_v_i, ↓f_s_v_r, ↓f_s_l_0, ↓s_l_1, ↓s_l_2, ↓s_l_3, ↓s_l_4, ↓s_l_5, ↓s_l_6, ↓s_a_0, ↓s_a_1, ↓s_a_2, ↓s_a_3, ↓s_m_0, ↓f_s_m_i, ↓f_s_m_r, ↓f_s_m_i7, ↓f_s_m_r7, ↓f_s_m_i6, ↓f_s_m_r6, ↓f_s_m_i5, ↓f_s_m_r5, ↓f_s_m_i4, ↓f_s_m_r4, ↓f_s_w_n, ↓f_s_w_c, ↓f_s_p_eq, ↓f_s_p_ne, ↓f_s_p_lt, ↓f_s_p_ge, ↓f_s_p_gt, ↓f_s_p_le, ↓nk_i, ↓nk_z, ↓nk_c, ↓rf_s, ↓ov_s, ↓ov_n, ↓fin0, ↓fin1, ↓fin2, ↓fin3, cond_true, cond_false, List.set_cons_zero, List.set_cons_succ, List.length_cons, List.length_nil, true_and, and_true, true_or, or_true, implies_true, forall_const, not_true_eq_false, not_false_eq_true, false_implies, Nat.reduceAdd, Nat.reduceLT, Nat.reduceBEq, Nat.reduceEqDiff, Bool.or_false, Bool.false_or, Bool.or_true, Bool.true_or, beq_self_eq_true, Nat.reduceLeDiff, Nat.reduceMul, Nat.reduceSub, eq_self, Nat.reduceBneDiff, st0_s, st1_s, st2_s, st3_s, reduceCtorEq, cc_0, tl_0, cl_0, il_0, tl_1, cl_1, il_1, tl_2, cl_2, il_2, tl_3, cl_3, il_3, tl_4, cl_4, il_4, tl_5, cl_5, il_5, tl_6, cl_6, il_6, tl_7, cl_7, il_7, tl_8, cl_8, il_8, tl_9, cl_9, il_9, tl_10, cl_10, il_10, tl_11, cl_11, il_11, tl_12, cl_12, il_12, tl_13, cl_13, il_13, tl_14, cl_14, il_14, tl_15, cl_15, il_15, tl_16, cl_16, il_16, tl_20, tl_21, tl_25, tl_32, tl_48, tl_50, tl_57, tl_58, tl_59, tl_60, tl_99, tl_100, tl_101, tl_108, tl_109, tl_116, tl_120, tl_126, tl_374, tl_1122, tl_50000, i10, i01, tl_m1, tl_m2, tl_m3, tl_m4, nr_X2_close, tX2_close_0, tX2_close_1, tX2_close_4, tX2_close_5, tX2_close_6, tX2_close_9, tX2_close_10, tX2_close_11, tX2_close_14, tX2_close_15, tX2_close_18, tX2_close_19, tX2_close_22, tX2_close_23, tX2_close_26, tX2_close_27, pw_QP_s, h1, r1']
      rw [show (4 : Int32) + 1 = 5 from rfl, e5]
      refine ⟨fun y => absurd y hz0, fun _ => ⟨fun y => absurd y (by decide), fun _ => ?_⟩⟩
      refine pw_callP okX2_close tX2_close_23 (As := []) (o := h) (r := []) (x_dropOldest (q := q) hM (KP := fun v P' I' => v = none ∧ P' = rotZ P h ∧ I' = pw_up (pw_up I h 1 5) h 1 4) ⟨rfl, rfl, by rw [e5]; rfl⟩) (by show 0 < 1; omega) ⟨Nat.le_refl _, Nat.le_refl _⟩ rfl (by rw [h1]) trivial (fun v n' sh' P' I' hQ => ?_)
      obtain ⟨rfl, rfl, rfl, rfl, rfl⟩ := hQ
      refine pw_go okX2_close (cc []) ⟨Nat.le_refl _, Nat.le_refl _⟩ cc_n (st0) 60 ?_
      simp only [↓f_vc_s, ↓vk_i, ↓cc_i, ↓reduceIte, f_vq_s, Bool.false_eq_true, ↓f_e_iconst, ↓f_e_bipush, ↓f_e_sipush, ↓f_e_ldc, ↓f_e_ldc_w, ↓f_e_iload_n, ↓f_e_iload, ↓f_e_aload_n, ↓f_e_aload, ↓f_e_istore_n, ↓f_e_istore, ↓f_e_astore_n, ↓f_e_astore, ↓f_e_iinc, ↓f_e_iadd, ↓f_e_isub, ↓f_e_imul, ↓f_e_iand, ↓f_e_ior, ↓f_e_ixor, ↓f_e_idiv, ↓f_e_irem, ↓f_e_ishl, ↓f_e_ishr, ↓f_e_iushr, ↓f_e_i2c, ↓f_e_dup, ↓f_e_dup2, ↓f_e_pop, ↓f_e_goto, ↓f_e_ifCond, ↓f_e_if_icmp, ↓f_e_tableswitch, ↓f_e_lookupswitch, ↓f_e_getfield_i, ↓f_e_getfield_r, ↓f_e_putfield_i, ↓f_e_putfield_z, ↓f_e_iaload, ↓f_e_caload, ↓f_e_aaload, ↓f_e_iastore, ↓f_e_castore, ↓f_e_arraylength, ↓f_e_invokestatic, ↓f_e_invokevirtual, ↓f_e_ireturn, ↓f_e_return_, ↓f_s_i_c, ↓f_s_r_c, ↓f_s_v_i, ↓f_s_v_r, ↓f_s_l_0, ↓s_l_1, ↓s_l_2, ↓s_l_3, ↓s_l_4, ↓s_l_5, ↓s_l_6, ↓s_a_0, ↓s_a_1, ↓s_a_2, ↓s_a_3, ↓s_m_0, ↓f_s_m_i, ↓f_s_m_r, ↓f_s_m_i7, ↓f_s_m_r7, ↓f_s_m_i6, ↓f_s_m_r6, ↓f_s_m_i5, ↓f_s_m_r5, ↓f_s_m_i4, ↓f_s_m_r4, ↓f_s_w_n, ↓f_s_w_c, ↓f_s_p_eq, ↓f_s_p_ne, ↓f_s_p_lt, ↓f_s_p_ge, ↓f_s_p_gt, ↓f_s_p_le, ↓nk_i, ↓nk_z, ↓nk_c, ↓rf_s, ↓ov_s, ↓ov_n, ↓fin0, ↓fin1, ↓fin2, ↓fin3, cond_true, cond_false, List.set_cons_zero, List.set_cons_succ, List.length_cons, List.length_nil, true_and, and_true, true_or, or_true, implies_true, forall_const, not_true_eq_false, not_false_eq_true, false_implies, Nat.reduceAdd, Nat.reduceLT, Nat.reduceBEq, Nat.reduceEqDiff, Bool.or_false, Bool.false_or, Bool.or_true, Bool.true_or, beq_self_eq_true, Nat.reduceLeDiff, Nat.reduceMul, Nat.reduceSub, eq_self, Nat.reduceBneDiff, st0_s, st1_s, st2_s, st3_s, reduceCtorEq, cc_0, tl_0, cl_0, il_0, tl_1, cl_1, il_1, tl_2, cl_2, il_2, tl_3, cl_3, il_3, tl_4, cl_4, il_4, tl_5, cl_5, il_5, tl_6, cl_6, il_6, tl_7, cl_7, il_7, tl_8, cl_8, il_8, tl_9, cl_9, il_9, tl_10, cl_10, il_10, tl_11, cl_11, il_11, tl_12, cl_12, il_12, tl_13, cl_13, il_13, tl_14, cl_14, il_14, tl_15, cl_15, il_15, tl_16, cl_16, il_16, tl_20, tl_21, tl_25, tl_32, tl_48, tl_50, tl_57, tl_58, tl_59, tl_60, tl_99, tl_100, tl_101, tl_108, tl_109, tl_116, tl_120, tl_126, tl_374, tl_1122, tl_50000, i10, i01, tl_m1, tl_m2, tl_m3, tl_m4, nr_X2_close, tX2_close_0, tX2_close_1, tX2_close_4, tX2_close_5, tX2_close_6, tX2_close_9, tX2_close_10, tX2_close_11, tX2_close_14, tX2_close_15, tX2_close_18, tX2_close_19, tX2_close_22, tX2_close_23, tX2_close_26, tX2_close_27, pw_QP_s]
      exact fin
    · have hu4 : u < 4 := by omega
      have e5 : pw_up I h 1 (nI (u + 1)) h 1 = nI (u + 1) := up_r
      have fin := hK P (pw_up I h 1 (nI (u + 1))) q (fun a ha => by rw [up_set, set_n ha]) (fun _ _ => rfl) hM (fun y => absurd y hz) (fun _ => ⟨by rw [up_r]; unfold pushU; rw [if_neg hu], by unfold pushU; rw [if_neg hu]; omega, fun i hi => by
          unfold pushU at hi
          rw [if_neg hu] at hi
          unfold pushS
          rw [if_neg hu]
          by_cases e : i = u
          · rw [if_pos e, e]; exact keep _ u (by omega) _ hS
          · rw [if_neg e]; exact keep _ i (by omega) _ (r3 i (by omega))⟩)
      refine pw_go okX2_close (cc []) ⟨Nat.le_refl _, Nat.le_refl _⟩ cc_n (st1 23) 60 ?_
      simp only [↓f_vc_s, ↓vk_i, ↓cc_i, ↓reduceIte, f_vq_s, Bool.false_eq_true, ↓f_e_iconst, ↓f_e_bipush, ↓f_e_sipush, ↓f_e_ldc, ↓f_e_ldc_w, ↓f_e_iload_n, ↓f_e_iload, ↓f_e_aload_n, ↓f_e_aload, ↓f_e_istore_n, ↓f_e_istore, ↓f_e_astore_n, ↓f_e_astore, ↓f_e_iinc, ↓f_e_iadd, ↓f_e_isub, ↓f_e_imul, ↓f_e_iand, ↓f_e_ior, ↓f_e_ixor, ↓f_e_idiv, ↓f_e_irem, ↓f_e_ishl, ↓f_e_ishr, ↓f_e_iushr, ↓f_e_i2c, ↓f_e_dup, ↓f_e_dup2, ↓f_e_pop, ↓f_e_goto, ↓f_e_ifCond, ↓f_e_if_icmp, ↓f_e_tableswitch, ↓f_e_lookupswitch, ↓f_e_getfield_i, ↓f_e_getfield_r, ↓f_e_putfield_i, ↓f_e_putfield_z, ↓f_e_iaload, ↓f_e_caload, ↓f_e_aaload, ↓f_e_iastore, ↓f_e_castore, ↓f_e_arraylength, ↓f_e_invokestatic, ↓f_e_invokevirtual, ↓f_e_ireturn, ↓f_e_return_, ↓f_s_i_c, ↓f_s_r_c, ↓f_s_v_i, ↓f_s_v_r, ↓f_s_l_0, ↓s_l_1, ↓s_l_2, ↓s_l_3, ↓s_l_4, ↓s_l_5, ↓s_l_6, ↓s_a_0, ↓s_a_1, ↓s_a_2, ↓s_a_3, ↓s_m_0, ↓f_s_m_i, ↓f_s_m_r, ↓f_s_m_i7, ↓f_s_m_r7, ↓f_s_m_i6, ↓f_s_m_r6, ↓f_s_m_i5, ↓f_s_m_r5, ↓f_s_m_i4, ↓f_s_m_r4, ↓f_s_w_n, ↓f_s_w_c, ↓f_s_p_eq, ↓f_s_p_ne, ↓f_s_p_lt, ↓f_s_p_ge, ↓f_s_p_gt, ↓f_s_p_le, ↓nk_i, ↓nk_z, ↓nk_c, ↓rf_s, ↓ov_s, ↓ov_n, ↓fin0, ↓fin1, ↓fin2, ↓fin3, cond_true, cond_false, List.set_cons_zero, List.set_cons_succ, List.length_cons, List.length_nil, true_and, and_true, true_or, or_true, implies_true, forall_const, not_true_eq_false, not_false_eq_true, false_implies, Nat.reduceAdd, Nat.reduceLT, Nat.reduceBEq, Nat.reduceEqDiff, Bool.or_false, Bool.false_or, Bool.or_true, Bool.true_or, beq_self_eq_true, Nat.reduceLeDiff, Nat.reduceMul, Nat.reduceSub, eq_self, Nat.reduceBneDiff, st0_s, st1_s, st2_s, st3_s, reduceCtorEq, cc_0, tl_0, cl_0, il_0, tl_1, cl_1, il_1, tl_2, cl_2, il_2, tl_3, cl_3, il_3, tl_4, cl_4, il_4, tl_5, cl_5, il_5, tl_6, cl_6, il_6, tl_7, cl_7, il_7, tl_8, cl_8, il_8, tl_9, cl_9, il_9, tl_10, cl_10, il_10, tl_11, cl_11, il_11, tl_12, cl_12, il_12, tl_13, cl_13, il_13, tl_14, cl_14, il_14, tl_15, cl_15, il_15, tl_16, cl_16, il_16, tl_20, tl_21, tl_25, tl_32, tl_48, tl_50, tl_57, tl_58, tl_59, tl_60, tl_99, tl_100, tl_101, tl_108, tl_109, tl_116, tl_120, tl_126, tl_374, tl_1122, tl_50000, i10, i01, tl_m1, tl_m2, tl_m3, tl_m4, nr_X2_close, tX2_close_0, tX2_close_1, tX2_close_4, tX2_close_5, tX2_close_6, tX2_close_9, tX2_close_10, tX2_close_11, tX2_close_14, tX2_close_15, tX2_close_18, tX2_close_19, tX2_close_22, tX2_close_23, tX2_close_26, tX2_close_27, pw_QP_s, h1, r1, ix_1, e5]
      exact ⟨fun y => absurd y hz0, fun _ => ⟨fun _ => fin, fun y => absurd (nI_le (a := u + 1) (b := 4) (by omega) (by omega)) y⟩⟩
def w_prepare (h b : Nat) (q : Nat → Nat) (S : Nat → Int32) : pw_Wp := fun Ag I K => match Ag with
  | [.ref x, .ref y] => x = h ∧ y = b ∧ (b + 42 ≤ h ∨ h + 212 ≤ b) ∧ InvB S ∧ RelB I b S ∧ ∃ u, I h 1 = nI u ∧ u < 5 ∧ ∀ J, brdOK (q u) I J → RelB J (q u) S → K none J
  | _ => False
set_option maxRecDepth 100000 in
set_option maxHeartbeats 4000000 in
theorem x_prepare (hM : pw_his sh P h q) (hB : pw_brd sh P b) (hw : w_prepare h b q S Ag I K) : pw_ok mX2_prepare 4 base n sh P Ag I K := by
  unfold w_prepare at hw
  split at hw
  · rename_i x y
    obtain ⟨hx, hy, hd, hI, hR, u, r1, hu, hA⟩ := hw
    replace hx := hx.symm
    replace hy := hy.symm
    subst hx
    subst hy
    obtain ⟨h1, ⟨h2, h3⟩, h4, h5, h6⟩ := id hM
    have qu := (h4 u hu).1
    have cu : (nI u).toNatClampNeg = u := cl_nI (by omega)
    have hat := hM.at hu
    have hqb := hM.brd hu
    have hq0 := hqb.1
    refine pw_bd [_, _] pl_X2 c_rr rfl rfl ?_
    refine pw_go okX2_prepare (cc [(1, (w_copyBoard (q u) b S))]) ⟨Nat.le_refl _, Nat.le_refl _⟩ (cc_c (fun Ag I K h => ⟨3, Nat.le_of_ble_eq_true rfl, x_copyBoard hqb hB h⟩) cc_n) (st0) 60 ?_
    simp only [↓f_vc_s, ↓vk_i, ↓cc_i, ↓reduceIte, f_vq_s, Bool.false_eq_true, ↓f_e_iconst, ↓f_e_bipush, ↓f_e_sipush, ↓f_e_ldc, ↓f_e_ldc_w, ↓f_e_iload_n, ↓f_e_iload, ↓f_e_aload_n, ↓f_e_aload, ↓f_e_istore_n, ↓f_e_istore, ↓f_e_astore_n, ↓f_e_astore, ↓f_e_iinc, ↓f_e_iadd, ↓f_e_isub, ↓f_e_imul, ↓f_e_iand, ↓f_e_ior, ↓f_e_ixor, ↓f_e_idiv, ↓f_e_irem, ↓f_e_ishl, ↓f_e_ishr, ↓f_e_iushr, ↓f_e_i2c, ↓f_e_dup, ↓f_e_dup2, ↓f_e_pop, ↓f_e_goto, ↓f_e_ifCond, ↓f_e_if_icmp, ↓f_e_tableswitch, ↓f_e_lookupswitch, ↓f_e_getfield_i, ↓f_e_getfield_r, ↓f_e_putfield_i, ↓f_e_putfield_z, ↓f_e_iaload, ↓f_e_caload, ↓f_e_aaload, ↓f_e_iastore, ↓f_e_castore, ↓f_e_arraylength, ↓f_e_invokestatic, ↓f_e_invokevirtual, ↓f_e_ireturn, ↓f_e_return_, ↓f_s_i_c, ↓f_s_r_c, ↓f_s_v_i, ↓f_s_v_r, ↓f_s_l_0, ↓s_l_1, ↓s_l_2, ↓s_l_3, ↓s_l_4, ↓s_l_5, ↓s_l_6, ↓s_a_0, ↓s_a_1, ↓s_a_2, ↓s_a_3, ↓s_m_0, ↓f_s_m_i, ↓f_s_m_r, ↓f_s_m_i7, ↓f_s_m_r7, ↓f_s_m_i6, ↓f_s_m_r6, ↓f_s_m_i5, ↓f_s_m_r5, ↓f_s_m_i4, ↓f_s_m_r4, ↓f_s_w_n, ↓f_s_w_c, ↓f_s_p_eq, ↓f_s_p_ne, ↓f_s_p_lt, ↓f_s_p_ge, ↓f_s_p_gt, ↓f_s_p_le, ↓nk_i, ↓nk_z, ↓nk_c, ↓rf_s, ↓ov_s, ↓ov_n, ↓fin0, ↓fin1, ↓fin2, ↓fin3, cond_true, cond_false, List.set_cons_zero, List.set_cons_succ, List.length_cons, List.length_nil, true_and, and_true, true_or, or_true, implies_true, forall_const, not_true_eq_false, not_false_eq_true, false_implies, Nat.reduceAdd, Nat.reduceLT, Nat.reduceBEq, Nat.reduceEqDiff, Bool.or_false, Bool.false_or, Bool.or_true, Bool.true_or, beq_self_eq_true, Nat.reduceLeDiff, Nat.reduceMul, Nat.reduceSub, eq_self, Nat.reduceBneDiff, st0_s, st1_s, st2_s, st3_s, reduceCtorEq, cc_0, tl_0, cl_0, il_0, tl_1, cl_1, il_1, tl_2, cl_2, il_2, tl_3, cl_3, il_3, tl_4, cl_4, il_4, tl_5, cl_5, il_5, tl_6, cl_6, il_6, tl_7, cl_7, il_7, tl_8, cl_8, il_8, tl_9, cl_9, il_9, tl_10, cl_10, il_10, tl_11, cl_11, il_11, tl_12, cl_12, il_12, tl_13, cl_13, il_13, tl_14, cl_14, il_14, tl_15, cl_15, il_15, tl_16, cl_16, il_16, tl_20, tl_21, tl_25, tl_32, tl_48, tl_50, tl_57, tl_58, tl_59, tl_60, tl_99, tl_100, tl_101, tl_108, tl_109, tl_116, tl_120, tl_126, tl_374, tl_1122, tl_50000, i10, i01, tl_m1, tl_m2, tl_m3, tl_m4, nr_X2_prepare, tX2_prepare_0, tX2_prepare_1, tX2_prepare_4, tX2_prepare_7, tX2_prepare_8, tX2_prepare_11, tX2_prepare_12, tX2_prepare_15, tX2_prepare_16, tX2_prepare_19, tX2_prepare_20, tX2_prepare_23, tX2_prepare_24, tX2_prepare_27, tX2_prepare_28, tX2_prepare_29, tX2_prepare_32, pw_QK_s, h1, h2, h3, r1, cu, qu, hq0, ↓w_copyBoard]
    exact ⟨fun z => absurd z (nI_pos (by omega)), fun _ => ⟨fun z => absurd z (nI_ge (a := u) (b := 5) hu (by omega)), fun _ => ⟨in_nI hu (by omega), by omega, hI, hR, hA⟩⟩⟩
  · exact hw.elim
def w_restore (h b : Nat) (q : Nat → Nat) (S : Nat → Int32) : pw_Wp := fun Ag I K => match Ag with
  | [.ref x, .ref y] => x = h ∧ y = b ∧ (b + 42 ≤ h ∨ h + 212 ≤ b) ∧ ∃ u, I h 1 = nI u ∧ u ≤ 4 ∧ (u = 0 → K (some (.int (-2))) I) ∧ (1 ≤ u → InvB S ∧ RelB I (q (u - 1)) S ∧ ∀ J, (∀ a, a ≠ h → (a < b ∨ b + 42 ≤ a) → J a = I a) → J h 1 = nI (u - 1) → RelB J b S → K (some (.int (nI (u - 1)))) J)
  | _ => False
set_option maxRecDepth 100000 in
set_option maxHeartbeats 4000000 in
theorem x_restore (hM : pw_his sh P h q) (hB : pw_brd sh P b) (hw : w_restore h b q S Ag I K) : pw_ok mX2_restore 4 base n sh P Ag I K := by
  unfold w_restore at hw
  split at hw
  · rename_i x y
    obtain ⟨hx, hy, hd, u, r1, hu, hA, hC⟩ := hw
    replace hx := hx.symm
    replace hy := hy.symm
    subst hx
    subst hy
    obtain ⟨h1, ⟨h2, h3⟩, h4, h5, h6⟩ := id hM
    have b0 := hB.1
    refine pw_bd [_, _] pl_X2 c_rr rfl rfl ?_
    rcases Nat.eq_zero_or_pos u with e | e
    · subst e
      have hA := hA rfl
      have r0 : I h 1 = 0 := r1
      refine pw_go okX2_restore (cc []) ⟨Nat.le_refl _, Nat.le_refl _⟩ cc_n (st1 8) 60 ?_
      simp only [↓f_vc_s, ↓vk_i, ↓cc_i, ↓reduceIte, f_vq_s, Bool.false_eq_true, ↓f_e_iconst, ↓f_e_bipush, ↓f_e_sipush, ↓f_e_ldc, ↓f_e_ldc_w, ↓f_e_iload_n, ↓f_e_iload, ↓f_e_aload_n, ↓f_e_aload, ↓f_e_istore_n, ↓f_e_istore, ↓f_e_astore_n, ↓f_e_astore, ↓f_e_iinc, ↓f_e_iadd, ↓f_e_isub, ↓f_e_imul, ↓f_e_iand, ↓f_e_ior, ↓f_e_ixor, ↓f_e_idiv, ↓f_e_irem, ↓f_e_ishl, ↓f_e_ishr, ↓f_e_iushr, ↓f_e_i2c, ↓f_e_dup, ↓f_e_dup2, ↓f_e_pop, ↓f_e_goto, ↓f_e_ifCond, ↓f_e_if_icmp, ↓f_e_tableswitch, ↓f_e_lookupswitch, ↓f_e_getfield_i, ↓f_e_getfield_r, ↓f_e_putfield_i, ↓f_e_putfield_z, ↓f_e_iaload, ↓f_e_caload, ↓f_e_aaload, ↓f_e_iastore, ↓f_e_castore, ↓f_e_arraylength, ↓f_e_invokestatic, ↓f_e_invokevirtual, ↓f_e_ireturn, ↓f_e_return_, ↓f_s_i_c, ↓f_s_r_c, ↓f_s_v_i, ↓f_s_v_r, ↓f_s_l_0, ↓s_l_1, ↓s_l_2, ↓s_l_3, ↓s_l_4, ↓s_l_5, ↓s_l_6, ↓s_a_0, ↓s_a_1, ↓s_a_2, ↓s_a_3, ↓s_m_0, ↓f_s_m_i, ↓f_s_m_r, ↓f_s_m_i7, ↓f_s_m_r7, ↓f_s_m_i6, ↓f_s_m_r6, ↓f_s_m_i5, ↓f_s_m_r5, ↓f_s_m_i4, ↓f_s_m_r4, ↓f_s_w_n, ↓f_s_w_c, ↓f_s_p_eq, ↓f_s_p_ne, ↓f_s_p_lt, ↓f_s_p_ge, ↓f_s_p_gt, ↓f_s_p_le, ↓nk_i, ↓nk_z, ↓nk_c, ↓rf_s, ↓ov_s, ↓ov_n, ↓fin0, ↓fin1, ↓fin2, ↓fin3, cond_true, cond_false, List.set_cons_zero, List.set_cons_succ, List.length_cons, List.length_nil, true_and, and_true, true_or, or_true, implies_true, forall_const, not_true_eq_false, not_false_eq_true, false_implies, Nat.reduceAdd, Nat.reduceLT, Nat.reduceBEq, Nat.reduceEqDiff, Bool.or_false, Bool.false_or, Bool.or_true, Bool.true_or, beq_self_eq_true, Nat.reduceLeDiff, Nat.reduceMul, Nat.reduceSub, eq_self, Nat.reduceBneDiff, st0_s, st1_s, st2_s, st3_s, reduceCtorEq, cc_0, tl_0, cl_0, il_0, tl_1, cl_1, il_1, tl_2, cl_2, il_2, tl_3, cl_3, il_3, tl_4, cl_4, il_4, tl_5, cl_5, il_5, tl_6, cl_6, il_6, tl_7, cl_7, il_7, tl_8, cl_8, il_8, tl_9, cl_9, il_9, tl_10, cl_10, il_10, tl_11, cl_11, il_11, tl_12, cl_12, il_12, tl_13, cl_13, il_13, tl_14, cl_14, il_14, tl_15, cl_15, il_15, tl_16, cl_16, il_16, tl_20, tl_21, tl_25, tl_32, tl_48, tl_50, tl_57, tl_58, tl_59, tl_60, tl_99, tl_100, tl_101, tl_108, tl_109, tl_116, tl_120, tl_126, tl_374, tl_1122, tl_50000, i10, i01, tl_m1, tl_m2, tl_m3, tl_m4, nr_X2_restore, tX2_restore_0, tX2_restore_1, tX2_restore_4, tX2_restore_5, tX2_restore_8, tX2_restore_9, tX2_restore_12, tX2_restore_13, tX2_restore_16, tX2_restore_17, tX2_restore_20, tX2_restore_22, tX2_restore_23, tX2_restore_24, tX2_restore_25, tX2_restore_28, tX2_restore_29, tX2_restore_30, tX2_restore_33, tX2_restore_34, tX2_restore_35, tX2_restore_38, tX2_restore_39, tX2_restore_42, tX2_restore_43, tX2_restore_46, tX2_restore_47, tX2_restore_50, pw_QK_s, h1, r0]
      exact ⟨fun _ => hA, fun z => absurd (by decide) z⟩
    · obtain ⟨v, rfl⟩ : ∃ v, u = v + 1 := ⟨u - 1, by omega⟩
      obtain ⟨hI, hR, hC⟩ := hC e
      rw [Nat.add_sub_cancel] at hR hC
      have m1 : nI (v + 1) - 1 = nI v := pk_sub (b := 1) (by omega)
      have qu := (h4 v (by omega)).1
      have cu : (nI v).toNatClampNeg = v := cl_nI (by omega)
      have hat := hM.at (i := v) (by omega)
      have hqb := hM.brd (i := v) (by omega)
      have ne : ¬ nI (v + 1) < 1 := by
        rw [ti_lt, ti_nI (by omega)]
        show ¬ _ < (1 : Int)
        omega
      have le5 : nI (v + 1) ≤ nI 5 := nI_le (by omega) (by omega)
      have e1 : pw_up I h 1 (nI v) h 1 = nI v := up_r
      refine pw_go okX2_restore (cc [(1, (w_copyBoard b (q v) S))]) ⟨Nat.le_refl _, Nat.le_refl _⟩ (cc_c (fun Ag I K h => ⟨3, Nat.le_of_ble_eq_true rfl, x_copyBoard hB hqb h⟩) cc_n) (st0) 60 ?_
      simp only [↓f_vc_s, ↓vk_i, ↓cc_i, ↓reduceIte, f_vq_s, Bool.false_eq_true, ↓f_e_iconst, ↓f_e_bipush, ↓f_e_sipush, ↓f_e_ldc, ↓f_e_ldc_w, ↓f_e_iload_n, ↓f_e_iload, ↓f_e_aload_n, ↓f_e_aload, ↓f_e_istore_n, ↓f_e_istore, ↓f_e_astore_n, ↓f_e_astore, ↓f_e_iinc, ↓f_e_iadd, ↓f_e_isub, ↓f_e_imul, ↓f_e_iand, ↓f_e_ior, ↓f_e_ixor, ↓f_e_idiv, ↓f_e_irem, ↓f_e_ishl, ↓f_e_ishr, ↓f_e_iushr, ↓f_e_i2c, ↓f_e_dup, ↓f_e_dup2, ↓f_e_pop, ↓f_e_goto, ↓f_e_ifCond, ↓f_e_if_icmp, ↓f_e_tableswitch, ↓f_e_lookupswitch, ↓f_e_getfield_i, ↓f_e_getfield_r, ↓f_e_putfield_i, ↓f_e_putfield_z, ↓f_e_iaload, ↓f_e_caload, ↓f_e_aaload, ↓f_e_iastore, ↓f_e_castore, ↓f_e_arraylength, ↓f_e_invokestatic, ↓f_e_invokevirtual, ↓f_e_ireturn, ↓f_e_return_, ↓f_s_i_c, ↓f_s_r_c, ↓f_s_v_i, ↓f_s_v_r, ↓f_s_l_0, ↓s_l_1, ↓s_l_2, ↓s_l_3, ↓s_l_4, ↓s_l_5, ↓s_l_6, ↓s_a_0, ↓s_a_1, ↓s_a_2, ↓s_a_3, ↓s_m_0, ↓f_s_m_i, ↓f_s_m_r, ↓f_s_m_i7, ↓f_s_m_r7, ↓f_s_m_i6, ↓f_s_m_r6, ↓f_s_m_i5, ↓f_s_m_r5, ↓f_s_m_i4, ↓f_s_m_r4, ↓f_s_w_n, ↓f_s_w_c, ↓f_s_p_eq, ↓f_s_p_ne, ↓f_s_p_lt, ↓f_s_p_ge, ↓f_s_p_gt, ↓f_s_p_le, ↓nk_i, ↓nk_z, ↓nk_c, ↓rf_s, ↓ov_s, ↓ov_n, ↓fin0, ↓fin1, ↓fin2, ↓fin3, cond_true, cond_false, List.set_cons_zero, List.set_cons_succ, List.length_cons, List.length_nil, true_and, and_true, true_or, or_true, implies_true, forall_const, not_true_eq_false, not_false_eq_true, false_implies, Nat.reduceAdd, Nat.reduceLT, Nat.reduceBEq, Nat.reduceEqDiff, Bool.or_false, Bool.false_or, Bool.or_true, Bool.true_or, beq_self_eq_true, Nat.reduceLeDiff, Nat.reduceMul, Nat.reduceSub, eq_self, Nat.reduceBneDiff, st0_s, st1_s, st2_s, st3_s, reduceCtorEq, cc_0, tl_0, cl_0, il_0, tl_1, cl_1, il_1, tl_2, cl_2, il_2, tl_3, cl_3, il_3, tl_4, cl_4, il_4, tl_5, cl_5, il_5, tl_6, cl_6, il_6, tl_7, cl_7, il_7, tl_8, cl_8, il_8, tl_9, cl_9, il_9, tl_10, cl_10, il_10, tl_11, cl_11, il_11, tl_12, cl_12, il_12, tl_13, cl_13, il_13, tl_14, cl_14, il_14, tl_15, cl_15, il_15, tl_16, cl_16, il_16, tl_20, tl_21, tl_25, tl_32, tl_48, tl_50, tl_57, tl_58, tl_59, tl_60, tl_99, tl_100, tl_101, tl_108, tl_109, tl_116, tl_120, tl_126, tl_374, tl_1122, tl_50000, i10, i01, tl_m1, tl_m2, tl_m3, tl_m4, nr_X2_restore, tX2_restore_0, tX2_restore_1, tX2_restore_4, tX2_restore_5, tX2_restore_8, tX2_restore_9, tX2_restore_12, tX2_restore_13, tX2_restore_16, tX2_restore_17, tX2_restore_20, tX2_restore_22, tX2_restore_23, tX2_restore_24, tX2_restore_25, tX2_restore_28, tX2_restore_29, tX2_restore_30, tX2_restore_33, tX2_restore_34, tX2_restore_35, tX2_restore_38, tX2_restore_39, tX2_restore_42, tX2_restore_43, tX2_restore_46, tX2_restore_47, tX2_restore_50, pw_QK_s, h1, h2, h3, r1, m1, cu, qu, b0, e1, ↓w_copyBoard]
      refine ⟨fun z => absurd z ne, fun _ => ⟨fun _ => ⟨in_nI (by omega) (by omega), by omega, hI, hR.out (fun a a1 a2 => by rw [up_set, set_n (by omega)]), fun J hJ hRJ => ?_⟩, fun z => absurd le5 z⟩⟩
      have jh : J h 1 = nI v := by rw [hJ h (by omega)]; exact e1
      rw [jh]
      exact hC J (fun a a1 a2 => by rw [hJ a a2, up_set, set_n a1]) jh hRJ
  · exact hw.elim
end HIS
section APP
variable {n base e : Nat} {sh : pw_Sh} {P : pw_P} {Ag : List Value} {I : pw_I} {T : Nat → Int32} {len : Nat} {K : Option Value → pw_I → Prop}
def txOK (e : Nat) (I J : pw_I) : Prop := ∀ a, a ≠ e → a ≠ e + 1 → J a = I a
def w_append (e : Nat) (T : Nat → Int32) (len : Nat) : pw_Wp := fun Ag I K => match Ag with
  | [.ref o, .int x] => o = e ∧ texR I e T len ∧ (¬ (32 ≤ x.toInt ∧ x.toInt ≤ 126) → K (some (.int (-1))) I) ∧ (32 ≤ x.toInt ∧ x.toInt ≤ 126 → len = 60 → K (some (.int (-3))) I) ∧ (32 ≤ x.toInt ∧ x.toInt ≤ 126 → len < 60 → ∀ J, txOK e I J → texR J e (upd T len x) (len + 1) → K (some (.int (nI (len + 1)))) J)
  | _ => False
set_option maxRecDepth 100000 in
set_option maxHeartbeats 4000000 in
theorem x_append (hM : pw_txt sh P e) (h : w_append e T len Ag I K) : pw_ok mX1_append 0 base n sh P Ag I K := by
  unfold w_append at h
  split at h
  · rename_i o x
    obtain ⟨rfl, hT, hA, hB, hC⟩ := h
    obtain ⟨h1, h2, h3⟩ := hM
    obtain ⟨t1, t2, t3⟩ := id hT
    refine pw_bd [_, _] pl_X1 c_ri rfl rfl ?_
    by_cases hx : 32 ≤ x.toInt ∧ x.toInt ≤ 126
    · have x1 : ¬ x < 32 := by rw [ti_lt]; show ¬ _ < (32 : Int); omega
      have x2 : x ≤ 126 := by rw [ti_le]; show _ ≤ (126 : Int); omega
      obtain ⟨m, rfl, hm⟩ : ∃ m : Nat, x = nI m ∧ (m : Int) = x.toInt := ⟨x.toNatClampNeg, ti_nat (by omega), by have := (show x.toNatClampNeg = x.toInt.toNat from rfl); omega⟩
      have hm1 : 32 ≤ m ∧ m ≤ 126 := by omega
      by_cases hl : len = 60
      · subst hl
        have hB := hB hx rfl
        refine pw_go okX1_append (cc []) ⟨Nat.le_refl _, Nat.le_refl _⟩ cc_n (st1 26) 60 ?_
        simp only [↓f_vc_s, ↓vk_i, ↓cc_i, ↓reduceIte, f_vq_s, Bool.false_eq_true, ↓f_e_iconst, ↓f_e_bipush, ↓f_e_sipush, ↓f_e_ldc, ↓f_e_ldc_w, ↓f_e_iload_n, ↓f_e_iload, ↓f_e_aload_n, ↓f_e_aload, ↓f_e_istore_n, ↓f_e_istore, ↓f_e_astore_n, ↓f_e_astore, ↓f_e_iinc, ↓f_e_iadd, ↓f_e_isub, ↓f_e_imul, ↓f_e_iand, ↓f_e_ior, ↓f_e_ixor, ↓f_e_idiv, ↓f_e_irem, ↓f_e_ishl, ↓f_e_ishr, ↓f_e_iushr, ↓f_e_i2c, ↓f_e_dup, ↓f_e_dup2, ↓f_e_pop, ↓f_e_goto, ↓f_e_ifCond, ↓f_e_if_icmp, ↓f_e_tableswitch, ↓f_e_lookupswitch, ↓f_e_getfield_i, ↓f_e_getfield_r, ↓f_e_putfield_i, ↓f_e_putfield_z, ↓f_e_iaload, ↓f_e_caload, ↓f_e_aaload, ↓f_e_iastore, ↓f_e_castore, ↓f_e_arraylength, ↓f_e_invokestatic, ↓f_e_invokevirtual, ↓f_e_ireturn, ↓f_e_return_, ↓f_s_i_c, ↓f_s_r_c, ↓f_s_v_i, ↓f_s_v_r, ↓f_s_l_0, ↓s_l_1, ↓s_l_2, ↓s_l_3, ↓s_l_4, ↓s_l_5, ↓s_l_6, ↓s_a_0, ↓s_a_1, ↓s_a_2, ↓s_a_3, ↓s_m_0, ↓f_s_m_i, ↓f_s_m_r, ↓f_s_m_i7, ↓f_s_m_r7, ↓f_s_m_i6, ↓f_s_m_r6, ↓f_s_m_i5, ↓f_s_m_r5, ↓f_s_m_i4, ↓f_s_m_r4, ↓f_s_w_n, ↓f_s_w_c, ↓f_s_p_eq, ↓f_s_p_ne, ↓f_s_p_lt, ↓f_s_p_ge, ↓f_s_p_gt, ↓f_s_p_le, ↓nk_i, ↓nk_z, ↓nk_c, ↓rf_s, ↓ov_s, ↓ov_n, ↓fin0, ↓fin1, ↓fin2, ↓fin3, cond_true, cond_false, List.set_cons_zero, List.set_cons_succ, List.length_cons, List.length_nil, true_and, and_true, true_or, or_true, implies_true, forall_const, not_true_eq_false, not_false_eq_true, false_implies, Nat.reduceAdd, Nat.reduceLT, Nat.reduceBEq, Nat.reduceEqDiff, Bool.or_false, Bool.false_or, Bool.or_true, Bool.true_or, beq_self_eq_true, Nat.reduceLeDiff, Nat.reduceMul, Nat.reduceSub, eq_self, Nat.reduceBneDiff, st0_s, st1_s, st2_s, st3_s, reduceCtorEq, cc_0, tl_0, cl_0, il_0, tl_1, cl_1, il_1, tl_2, cl_2, il_2, tl_3, cl_3, il_3, tl_4, cl_4, il_4, tl_5, cl_5, il_5, tl_6, cl_6, il_6, tl_7, cl_7, il_7, tl_8, cl_8, il_8, tl_9, cl_9, il_9, tl_10, cl_10, il_10, tl_11, cl_11, il_11, tl_12, cl_12, il_12, tl_13, cl_13, il_13, tl_14, cl_14, il_14, tl_15, cl_15, il_15, tl_16, cl_16, il_16, tl_20, tl_21, tl_25, tl_32, tl_48, tl_50, tl_57, tl_58, tl_59, tl_60, tl_99, tl_100, tl_101, tl_108, tl_109, tl_116, tl_120, tl_126, tl_374, tl_1122, tl_50000, i10, i01, tl_m1, tl_m2, tl_m3, tl_m4, nr_X1_append, tX1_append_0, tX1_append_1, tX1_append_3, tX1_append_6, tX1_append_7, tX1_append_9, tX1_append_12, tX1_append_13, tX1_append_14, tX1_append_15, tX1_append_18, tX1_append_20, tX1_append_23, tX1_append_25, tX1_append_26, tX1_append_27, tX1_append_30, tX1_append_31, tX1_append_34, tX1_append_35, tX1_append_36, tX1_append_37, tX1_append_38, tX1_append_39, tX1_append_42, tX1_append_43, tX1_append_44, tX1_append_47, tX1_append_48, tX1_append_51, pw_QK_s, h1, t1]
        exact ⟨fun z => absurd z x1, fun _ => ⟨fun _ => ⟨fun z => absurd z (by decide), fun _ => hB⟩, fun z => absurd x2 z⟩⟩
      · have hl : len < 60 := by omega
        have hC := hC hx hl
        have cl : (nI len).toNatClampNeg = len := cl_nI (by omega)
        have ei : ((nI m).toUInt32 % 65536).toInt32 = nI m := by
          have : ∀ m, m < 127 → ((nI m).toUInt32 % 65536).toInt32 = nI m := by decide +kernel
          exact this m (by omega)
        have w1 : ∀ v, pw_up I (o + 1) len v o 1 = nI len := fun v => by rw [up_set, set_n (by omega)]; exact t1
        have w2 : ∀ v, pw_up (pw_up I (o + 1) len v) o 1 (nI (len + 1)) o 1 = nI (len + 1) := fun v => up_r
        refine pw_go okX1_append (cc []) ⟨Nat.le_refl _, Nat.le_refl _⟩ cc_n (st0) 60 ?_
        simp only [↓f_vc_s, ↓vk_i, ↓cc_i, ↓reduceIte, f_vq_s, Bool.false_eq_true, ↓f_e_iconst, ↓f_e_bipush, ↓f_e_sipush, ↓f_e_ldc, ↓f_e_ldc_w, ↓f_e_iload_n, ↓f_e_iload, ↓f_e_aload_n, ↓f_e_aload, ↓f_e_istore_n, ↓f_e_istore, ↓f_e_astore_n, ↓f_e_astore, ↓f_e_iinc, ↓f_e_iadd, ↓f_e_isub, ↓f_e_imul, ↓f_e_iand, ↓f_e_ior, ↓f_e_ixor, ↓f_e_idiv, ↓f_e_irem, ↓f_e_ishl, ↓f_e_ishr, ↓f_e_iushr, ↓f_e_i2c, ↓f_e_dup, ↓f_e_dup2, ↓f_e_pop, ↓f_e_goto, ↓f_e_ifCond, ↓f_e_if_icmp, ↓f_e_tableswitch, ↓f_e_lookupswitch, ↓f_e_getfield_i, ↓f_e_getfield_r, ↓f_e_putfield_i, ↓f_e_putfield_z, ↓f_e_iaload, ↓f_e_caload, ↓f_e_aaload, ↓f_e_iastore, ↓f_e_castore, ↓f_e_arraylength, ↓f_e_invokestatic, ↓f_e_invokevirtual, ↓f_e_ireturn, ↓f_e_return_, ↓f_s_i_c, ↓f_s_r_c, ↓f_s_v_i, ↓f_s_v_r, ↓f_s_l_0, ↓s_l_1, ↓s_l_2, ↓s_l_3, ↓s_l_4, ↓s_l_5, ↓s_l_6, ↓s_a_0, ↓s_a_1, ↓s_a_2, ↓s_a_3, ↓s_m_0, ↓f_s_m_i, ↓f_s_m_r, ↓f_s_m_i7, ↓f_s_m_r7, ↓f_s_m_i6, ↓f_s_m_r6, ↓f_s_m_i5, ↓f_s_m_r5, ↓f_s_m_i4, ↓f_s_m_r4, ↓f_s_w_n, ↓f_s_w_c, ↓f_s_p_eq, ↓f_s_p_ne, ↓f_s_p_lt, ↓f_s_p_ge, ↓f_s_p_gt, ↓f_s_p_le, ↓nk_i, ↓nk_z, ↓nk_c, ↓rf_s, ↓ov_s, ↓ov_n, ↓fin0, ↓fin1, ↓fin2, ↓fin3, cond_true, cond_false, List.set_cons_zero, List.set_cons_succ, List.length_cons, List.length_nil, true_and, and_true, true_or, or_true, implies_true, forall_const, not_true_eq_false, not_false_eq_true, false_implies, Nat.reduceAdd, Nat.reduceLT, Nat.reduceBEq, Nat.reduceEqDiff, Bool.or_false, Bool.false_or, Bool.or_true, Bool.true_or, beq_self_eq_true, Nat.reduceLeDiff, Nat.reduceMul, Nat.reduceSub, eq_self, Nat.reduceBneDiff, st0_s, st1_s, st2_s, st3_s, reduceCtorEq, cc_0, tl_0, cl_0, il_0, tl_1, cl_1, il_1, tl_2, cl_2, il_2, tl_3, cl_3, il_3, tl_4, cl_4, il_4, tl_5, cl_5, il_5, tl_6, cl_6, il_6, tl_7, cl_7, il_7, tl_8, cl_8, il_8, tl_9, cl_9, il_9, tl_10, cl_10, il_10, tl_11, cl_11, il_11, tl_12, cl_12, il_12, tl_13, cl_13, il_13, tl_14, cl_14, il_14, tl_15, cl_15, il_15, tl_16, cl_16, il_16, tl_20, tl_21, tl_25, tl_32, tl_48, tl_50, tl_57, tl_58, tl_59, tl_60, tl_99, tl_100, tl_101, tl_108, tl_109, tl_116, tl_120, tl_126, tl_374, tl_1122, tl_50000, i10, i01, tl_m1, tl_m2, tl_m3, tl_m4, nr_X1_append, tX1_append_0, tX1_append_1, tX1_append_3, tX1_append_6, tX1_append_7, tX1_append_9, tX1_append_12, tX1_append_13, tX1_append_14, tX1_append_15, tX1_append_18, tX1_append_20, tX1_append_23, tX1_append_25, tX1_append_26, tX1_append_27, tX1_append_30, tX1_append_31, tX1_append_34, tX1_append_35, tX1_append_36, tX1_append_37, tX1_append_38, tX1_append_39, tX1_append_42, tX1_append_43, tX1_append_44, tX1_append_47, tX1_append_48, tX1_append_51, pw_QK_s, h1, h2, h3, t1, cl, ei, ix_1, w1, w2]
        refine ⟨fun z => absurd z x1, fun _ => ⟨fun _ => ⟨fun _ => ⟨in_nI hl (by omega), ⟨m, by omega, rfl⟩, hC _ (fun a a1 a2 => by rw [up_set, set_n a1, up_set, set_n a2]) ⟨up_r, by omega, fun i hi => ?_⟩⟩, fun z => absurd (Int32.not_le.mp (nI_ge (a := len) (b := 60) hl (by omega))) z⟩, fun z => absurd x2 z⟩⟩
        rw [show pw_up (pw_up I (o + 1) len (nI m)) o 1 (nI (len + 1)) (o + 1) = upd (I (o + 1)) len (nI m) by rw [up_set, set_n (by omega), up_set, set_s]]
        by_cases z : i = len
        · rw [z, upd_s, upd_s]
          exact ⟨rfl, m, by omega, by omega, rfl⟩
        · rw [upd_n z, upd_n z]
          exact t3 i (by omega)
    · have hA := hA hx
      refine pw_go okX1_append (cc []) ⟨Nat.le_refl _, Nat.le_refl _⟩ cc_n (st1 14) 60 ?_
      simp only [↓f_vc_s, ↓vk_i, ↓cc_i, ↓reduceIte, f_vq_s, Bool.false_eq_true, ↓f_e_iconst, ↓f_e_bipush, ↓f_e_sipush, ↓f_e_ldc, ↓f_e_ldc_w, ↓f_e_iload_n, ↓f_e_iload, ↓f_e_aload_n, ↓f_e_aload, ↓f_e_istore_n, ↓f_e_istore, ↓f_e_astore_n, ↓f_e_astore, ↓f_e_iinc, ↓f_e_iadd, ↓f_e_isub, ↓f_e_imul, ↓f_e_iand, ↓f_e_ior, ↓f_e_ixor, ↓f_e_idiv, ↓f_e_irem, ↓f_e_ishl, ↓f_e_ishr, ↓f_e_iushr, ↓f_e_i2c, ↓f_e_dup, ↓f_e_dup2, ↓f_e_pop, ↓f_e_goto, ↓f_e_ifCond, ↓f_e_if_icmp, ↓f_e_tableswitch, ↓f_e_lookupswitch, ↓f_e_getfield_i, ↓f_e_getfield_r, ↓f_e_putfield_i, ↓f_e_putfield_z, ↓f_e_iaload, ↓f_e_caload, ↓f_e_aaload, ↓f_e_iastore, ↓f_e_castore, ↓f_e_arraylength, ↓f_e_invokestatic, ↓f_e_invokevirtual, ↓f_e_ireturn, ↓f_e_return_, ↓f_s_i_c, ↓f_s_r_c, ↓f_s_v_i, ↓f_s_v_r, ↓f_s_l_0, ↓s_l_1, ↓s_l_2, ↓s_l_3, ↓s_l_4, ↓s_l_5, ↓s_l_6, ↓s_a_0, ↓s_a_1, ↓s_a_2, ↓s_a_3, ↓s_m_0, ↓f_s_m_i, ↓f_s_m_r, ↓f_s_m_i7, ↓f_s_m_r7, ↓f_s_m_i6, ↓f_s_m_r6, ↓f_s_m_i5, ↓f_s_m_r5, ↓f_s_m_i4, ↓f_s_m_r4, ↓f_s_w_n, ↓f_s_w_c, ↓f_s_p_eq, ↓f_s_p_ne, ↓f_s_p_lt, ↓f_s_p_ge, ↓f_s_p_gt, ↓f_s_p_le, ↓nk_i, ↓nk_z, ↓nk_c, ↓rf_s, ↓ov_s, ↓ov_n, ↓fin0, ↓fin1, ↓fin2, ↓fin3, cond_true, cond_false, List.set_cons_zero, List.set_cons_succ, List.length_cons, List.length_nil, true_and, and_true, true_or, or_true, implies_true, forall_const, not_true_eq_false, not_false_eq_true, false_implies, Nat.reduceAdd, Nat.reduceLT, Nat.reduceBEq, Nat.reduceEqDiff, Bool.or_false, Bool.false_or, Bool.or_true, Bool.true_or, beq_self_eq_true, Nat.reduceLeDiff, Nat.reduceMul, Nat.reduceSub, eq_self, Nat.reduceBneDiff, st0_s, st1_s, st2_s, st3_s, reduceCtorEq, cc_0, tl_0, cl_0, il_0, tl_1, cl_1, il_1, tl_2, cl_2, il_2, tl_3, cl_3, il_3, tl_4, cl_4, il_4, tl_5, cl_5, il_5, tl_6, cl_6, il_6, tl_7, cl_7, il_7, tl_8, cl_8, il_8, tl_9, cl_9, il_9, tl_10, cl_10, il_10, tl_11, cl_11, il_11, tl_12, cl_12, il_12, tl_13, cl_13, il_13, tl_14, cl_14, il_14, tl_15, cl_15, il_15, tl_16, cl_16, il_16, tl_20, tl_21, tl_25, tl_32, tl_48, tl_50, tl_57, tl_58, tl_59, tl_60, tl_99, tl_100, tl_101, tl_108, tl_109, tl_116, tl_120, tl_126, tl_374, tl_1122, tl_50000, i10, i01, tl_m1, tl_m2, tl_m3, tl_m4, nr_X1_append, tX1_append_0, tX1_append_1, tX1_append_3, tX1_append_6, tX1_append_7, tX1_append_9, tX1_append_12, tX1_append_13, tX1_append_14, tX1_append_15, tX1_append_18, tX1_append_20, tX1_append_23, tX1_append_25, tX1_append_26, tX1_append_27, tX1_append_30, tX1_append_31, tX1_append_34, tX1_append_35, tX1_append_36, tX1_append_37, tX1_append_38, tX1_append_39, tX1_append_42, tX1_append_43, tX1_append_44, tX1_append_47, tX1_append_48, tX1_append_51, pw_QK_s]
      refine ⟨fun _ => hA, fun z => ⟨fun z2 => absurd ⟨?_, ?_⟩ hx, fun _ => hA⟩⟩
      · rw [ti_lt] at z
        have z : ¬ _ < (32 : Int) := z
        omega
      · rw [ti_le] at z2
        exact z2
  · exact h.elim
def w_makeEmpty (e : Nat) (T : Nat → Int32) (len : Nat) : pw_Wp := fun Ag I K => match Ag with
  | [.ref o] => o = e ∧ texR I e T len ∧ ∀ J, txOK e I J → texR J e T 0 → K (some (.int (nI len))) J
  | _ => False
set_option maxRecDepth 100000 in
set_option maxHeartbeats 4000000 in
theorem x_makeEmpty (hM : pw_txt sh P e) (h : w_makeEmpty e T len Ag I K) : pw_ok mX1_makeEmpty 0 base n sh P Ag I K := by
  unfold w_makeEmpty at h
  split at h
  · rename_i o
    obtain ⟨rfl, hT, hA⟩ := h
    obtain ⟨h1, h2, h3⟩ := hM
    obtain ⟨t1, t2, t3⟩ := id hT
    refine pw_bd [_, _] pl_X1 c_r rfl rfl ?_
    refine pw_go okX1_makeEmpty (cc []) ⟨Nat.le_refl _, Nat.le_refl _⟩ cc_n (st0) 60 ?_
    simp only [↓f_vc_s, ↓vk_i, ↓cc_i, ↓reduceIte, f_vq_s, Bool.false_eq_true, ↓f_e_iconst, ↓f_e_bipush, ↓f_e_sipush, ↓f_e_ldc, ↓f_e_ldc_w, ↓f_e_iload_n, ↓f_e_iload, ↓f_e_aload_n, ↓f_e_aload, ↓f_e_istore_n, ↓f_e_istore, ↓f_e_astore_n, ↓f_e_astore, ↓f_e_iinc, ↓f_e_iadd, ↓f_e_isub, ↓f_e_imul, ↓f_e_iand, ↓f_e_ior, ↓f_e_ixor, ↓f_e_idiv, ↓f_e_irem, ↓f_e_ishl, ↓f_e_ishr, ↓f_e_iushr, ↓f_e_i2c, ↓f_e_dup, ↓f_e_dup2, ↓f_e_pop, ↓f_e_goto, ↓f_e_ifCond, ↓f_e_if_icmp, ↓f_e_tableswitch, ↓f_e_lookupswitch, ↓f_e_getfield_i, ↓f_e_getfield_r, ↓f_e_putfield_i, ↓f_e_putfield_z, ↓f_e_iaload, ↓f_e_caload, ↓f_e_aaload, ↓f_e_iastore, ↓f_e_castore, ↓f_e_arraylength, ↓f_e_invokestatic, ↓f_e_invokevirtual, ↓f_e_ireturn, ↓f_e_return_, ↓f_s_i_c, ↓f_s_r_c, ↓f_s_v_i, ↓f_s_v_r, ↓f_s_l_0, ↓s_l_1, ↓s_l_2, ↓s_l_3, ↓s_l_4, ↓s_l_5, ↓s_l_6, ↓s_a_0, ↓s_a_1, ↓s_a_2, ↓s_a_3, ↓s_m_0, ↓f_s_m_i, ↓f_s_m_r, ↓f_s_m_i7, ↓f_s_m_r7, ↓f_s_m_i6, ↓f_s_m_r6, ↓f_s_m_i5, ↓f_s_m_r5, ↓f_s_m_i4, ↓f_s_m_r4, ↓f_s_w_n, ↓f_s_w_c, ↓f_s_p_eq, ↓f_s_p_ne, ↓f_s_p_lt, ↓f_s_p_ge, ↓f_s_p_gt, ↓f_s_p_le, ↓nk_i, ↓nk_z, ↓nk_c, ↓rf_s, ↓ov_s, ↓ov_n, ↓fin0, ↓fin1, ↓fin2, ↓fin3, cond_true, cond_false, List.set_cons_zero, List.set_cons_succ, List.length_cons, List.length_nil, true_and, and_true, true_or, or_true, implies_true, forall_const, not_true_eq_false, not_false_eq_true, false_implies, Nat.reduceAdd, Nat.reduceLT, Nat.reduceBEq, Nat.reduceEqDiff, Bool.or_false, Bool.false_or, Bool.or_true, Bool.true_or, beq_self_eq_true, Nat.reduceLeDiff, Nat.reduceMul, Nat.reduceSub, eq_self, Nat.reduceBneDiff, st0_s, st1_s, st2_s, st3_s, reduceCtorEq, cc_0, tl_0, cl_0, il_0, tl_1, cl_1, il_1, tl_2, cl_2, il_2, tl_3, cl_3, il_3, tl_4, cl_4, il_4, tl_5, cl_5, il_5, tl_6, cl_6, il_6, tl_7, cl_7, il_7, tl_8, cl_8, il_8, tl_9, cl_9, il_9, tl_10, cl_10, il_10, tl_11, cl_11, il_11, tl_12, cl_12, il_12, tl_13, cl_13, il_13, tl_14, cl_14, il_14, tl_15, cl_15, il_15, tl_16, cl_16, il_16, tl_20, tl_21, tl_25, tl_32, tl_48, tl_50, tl_57, tl_58, tl_59, tl_60, tl_99, tl_100, tl_101, tl_108, tl_109, tl_116, tl_120, tl_126, tl_374, tl_1122, tl_50000, i10, i01, tl_m1, tl_m2, tl_m3, tl_m4, nr_X1_makeEmpty, tX1_makeEmpty_0, tX1_makeEmpty_1, tX1_makeEmpty_4, tX1_makeEmpty_5, tX1_makeEmpty_6, tX1_makeEmpty_7, tX1_makeEmpty_10, tX1_makeEmpty_11, pw_QK_s, h1, t1]
    exact hA _ (fun a a1 a2 => by rw [up_set, set_n a1]) ⟨by rw [up_r]; rfl, by omega, fun i hi => absurd hi (by omega)⟩
  · exact h.elim
end APP
