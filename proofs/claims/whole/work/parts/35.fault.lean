/-! the reference: fault and play -/
theorem run_bd {T : Nat → Int32} {len : Nat} : ∀ (f : Nat) (S : Nat → Int32) (p e a r : Nat), (runS T len f S p e).2.1 = some (a, r) → a < len ∧ 1 ≤ r ∧ r ≤ 3
  | 0, S, p, e, a, r, h => by cases h
  | f + 1, S, p, e, a, r, h => by
    rw [runS] at h
    split at h
    · rename_i hp
      cases e1 : parT T len p with
      | none => rw [e1] at h; cases h; omega
      | some w =>
        obtain ⟨b, c, q⟩ := w
        rw [e1] at h
        dsimp only at h
        cases r1 : rngS S (T p) b c with
        | false => rw [r1, cond_false] at h; cases h; omega
        | true =>
          rw [r1, cond_true] at h
          cases r2 : posS S (T p) b c with
          | false => rw [r2, cond_false] at h; cases h; omega
          | true => rw [r2, cond_true] at h; exact run_bd f _ _ _ _ _ h
    · cases h
def faultS (x : Int32) : Option (Nat × Nat) → Int32
  | none => -4
  | some (p, r) => if x = 0 then nI p else nI r
theorem code_div : ∀ p, p < 60 → ∀ r, r < 4 → nI (4 * p + r) / 4 = nI p := by decide +kernel
theorem code_mod : ∀ p, p < 60 → ∀ r, r < 4 → nI (4 * p + r) - nI (4 * p + r) / 4 * 4 = nI r := by decide +kernel
/-- what is written but the row -/
def plOK (m : Nat) (I J : pw_I) : Prop := (∀ a, a ≠ m → a ≠ m + 1 → a ≠ m + 3 → a ≠ m + 4 → a ≠ m + 5 → a ≠ m + 6 → J a = I a) ∧ ∀ k, k ≠ 9 → k ≠ 10 → k ≠ 11 → k ≠ 12 → J m k = I m k
theorem plOK.run {m : Nat} {I J J' : pw_I} (h : plOK m I J) (h2 : runOK m J J') : plOK m I J' :=
  ⟨fun a a1 a2 a3 a4 a5 a6 => (h2.1 a a1 a2 a4 a5 a6).trans (h.1 a a1 a2 a3 a4 a5 a6), fun k k1 k2 k3 k4 => (h2.2 k k1 k2 k3 k4).trans (h.2 k k1 k2 k3 k4)⟩
theorem plOK.set {m : Nat} {I J : pw_I} (h : plOK m I J) {i : Nat} {f : Nat → Int32} (hi : i = 1 ∨ i = 3) : plOK m I (pw_set J (m + i) f) :=
  ⟨fun a a1 a2 a3 a4 a5 a6 => by rw [set_n (by omega)]; exact h.1 a a1 a2 a3 a4 a5 a6, fun k k1 k2 k3 k4 => by rw [set_n (by omega)]; exact h.2 k k1 k2 k3 k4⟩
theorem plOK.rf {m : Nat} {I : pw_I} : plOK m I I := ⟨fun _ _ _ _ _ _ _ => rfl, fun _ _ _ _ _ => rfl⟩
theorem plOK.rec {m : Nat} {I J : pw_I} (h : plOK m I J) (hS : J (m + 1) = I (m + 1)) : plOK m (recI m I) (recI m J) := by
  have h2 := h.1 (m + 2) (by omega) (by omega) (by omega) (by omega) (by omega) (by omega)
  have h8 := h.2 8 (by omega) (by omega) (by omega) (by omega)
  refine ⟨fun a a1 a2 a3 a4 a5 a6 => ?_, fun k k1 k2 k3 k4 => ?_⟩
  · unfold recI
    rw [set_n a1, set_n a1]
    by_cases e : a = m + 2
    · rw [e, set_s, set_s, hS, h2]; unfold vN; rw [h8]
    · rw [set_n e, set_n e]; exact h.1 a a1 a2 a3 a4 a5 a6
  · unfold recI
    rw [set_s, set_s]
    unfold vN
    rw [h8]
    by_cases e : k = 8
    · rw [e, upd_s, upd_s]
    · rw [upd_n e, upd_n e]; exact h.2 k k1 k2 k3 k4
section FAU
variable {n base m : Nat} {sh : pw_Sh} {P : pw_P} {Ag : List Value} {I : pw_I} {K : Option Value → pw_I → Prop}
/-- laid back, the row is as it was -/
theorem back_S {S A X : Nat → Int32} (h : ∀ k, 374 ≤ k → X k = S k) : va_cpy (va_cpy S A 0 0 374) X 0 0 374 = S := by
  funext k
  rcases Nat.lt_or_ge k 374 with z | z
  · rw [cpy_in (by omega) (by omega), cpy_in (by omega) (by omega)]
    congr 1; omega
  · rw [cpy_hi (by omega)]; exact h k z
theorem back_m {S : Nat → Int32} {o : Nat} {I J : pw_I} (hJ : runOK o (pw_set I (o + 3) (va_cpy (I (o + 1)) (I (o + 3)) 0 0 374)) J) (hS : J (o + 1) = S) (hk : ∀ k, 374 ≤ k → S k = I (o + 1) k) :
    plOK o I (pw_set J (o + 1) (va_cpy (J (o + 3)) (J (o + 1)) 0 0 374)) ∧ pw_set J (o + 1) (va_cpy (J (o + 3)) (J (o + 1)) 0 0 374) (o + 1) = I (o + 1) := by
  refine ⟨((plOK.rf.set (Or.inr rfl)).run hJ).set (Or.inl rfl), ?_⟩
  rw [set_s, hJ.1 (o + 3) (by omega) (by omega) (by omega) (by omega) (by omega), set_s, hS]
  exact back_S hk
def w_fault7 (m : Nat) (Ok : Nat → (Nat → Int32) → Prop) : pw_Wp := fun Ag I K => match Ag with
  | [.ref o, .int x] => o = m ∧ RunInv Ok ∧ Ok 0 (I (m + 1)) ∧ ∃ len, I m 7 = nI len ∧ len ≤ 60 ∧ (∀ k, 374 ≤ k → (runS (I (m + 7)) len len (I (m + 1)) 0 0).1 k = I (m + 1) k) ∧ (¬ (0 ≤ x.toInt ∧ x.toInt ≤ 1) → K (some (.int (-1))) I) ∧
    (0 ≤ x.toInt ∧ x.toInt ≤ 1 → ∀ J, plOK m I J → J (m + 1) = I (m + 1) → K (some (.int (faultS x (runS (I (m + 7)) len len (I (m + 1)) 0 0).2.1))) J)
  | _ => False
set_option maxRecDepth 100000 in
set_option maxHeartbeats 4000000 in
theorem x_fault7 (hM : pw_mod sh P m) {Ok : Nat → (Nat → Int32) → Prop} (h : w_fault7 m Ok Ag I K) : pw_ok mX7_fault 6 base n sh P Ag I K := by
  unfold w_fault7 at h
  split at h
  · rename_i o x
    obtain ⟨rfl, hR, hO, len, h7, hl, hk, hA, hB⟩ := h
    obtain ⟨h1, ⟨h2, h3⟩, -⟩ := id hM
    refine pw_bd [_, _, _] pl_X7 c_ri rfl rfl ?_
    refine pw_go okX7_fault (cc [(94, w_in), (96, (w_layAside o)), (153, (w_run o Ok)), (97, (w_layBack o))]) ⟨Nat.le_refl _, Nat.le_refl _⟩ (cc_c (fun Ag I K h => ⟨0, Nat.le_of_ble_eq_true rfl, x_in h⟩) (cc_c (fun Ag I K h => ⟨0, Nat.le_of_ble_eq_true rfl, x_layAside hM h⟩) (cc_c (fun Ag I K h => ⟨5, Nat.le_of_ble_eq_true rfl, x_run hM h⟩) (cc_c (fun Ag I K h => ⟨0, Nat.le_of_ble_eq_true rfl, x_layBack hM h⟩) cc_n)))) (st0) 60 ?_
    simp only [↓f_vc_s, ↓vk_i, ↓cc_i, ↓reduceIte, f_vq_s, Bool.false_eq_true, ↓f_e_iconst, ↓f_e_bipush, ↓f_e_sipush, ↓f_e_ldc, ↓f_e_ldc_w, ↓f_e_iload_n, ↓f_e_iload, ↓f_e_aload_n, ↓f_e_aload, ↓f_e_istore_n, ↓f_e_istore, ↓f_e_astore_n, ↓f_e_astore, ↓f_e_iinc, ↓f_e_iadd, ↓f_e_isub, ↓f_e_imul, ↓f_e_iand, ↓f_e_ior, ↓f_e_ixor, ↓f_e_idiv, ↓f_e_irem, ↓f_e_ishl, ↓f_e_ishr, ↓f_e_iushr, ↓f_e_i2c, ↓f_e_dup, ↓f_e_dup2, ↓f_e_pop, ↓f_e_goto, ↓f_e_ifCond, ↓f_e_if_icmp, ↓f_e_tableswitch, ↓f_e_lookupswitch, ↓f_e_getfield_i, ↓f_e_getfield_r, ↓f_e_putfield_i, ↓f_e_putfield_z, ↓f_e_iaload, ↓f_e_caload, ↓f_e_aaload, ↓f_e_iastore, ↓f_e_castore, ↓f_e_arraylength, ↓f_e_invokestatic, ↓f_e_invokevirtual, ↓f_e_ireturn, ↓f_e_return_, ↓f_s_i_c, ↓f_s_r_c, ↓f_s_v_i, ↓f_s_v_r, ↓f_s_l_0, ↓s_l_1, ↓s_l_2, ↓s_l_3, ↓s_l_4, ↓s_l_5, ↓s_l_6, ↓s_a_0, ↓s_a_1, ↓s_a_2, ↓s_a_3, ↓s_m_0, ↓f_s_m_i, ↓f_s_m_r, ↓f_s_m_i7, ↓f_s_m_r7, ↓f_s_m_i6, ↓f_s_m_r6, ↓f_s_m_i5, ↓f_s_m_r5, ↓f_s_m_i4, ↓f_s_m_r4, ↓f_s_w_n, ↓f_s_w_c, ↓f_s_p_eq, ↓f_s_p_ne, ↓f_s_p_lt, ↓f_s_p_ge, ↓f_s_p_gt, ↓f_s_p_le, ↓nk_i, ↓nk_z, ↓nk_c, ↓rf_s, ↓ov_s, ↓ov_n, ↓fin0, ↓fin1, ↓fin2, ↓fin3, cond_true, cond_false, List.set_cons_zero, List.set_cons_succ, List.length_cons, List.length_nil, true_and, and_true, true_or, or_true, implies_true, forall_const, not_true_eq_false, not_false_eq_true, false_implies, Nat.reduceAdd, Nat.reduceLT, Nat.reduceBEq, Nat.reduceEqDiff, Bool.or_false, Bool.false_or, Bool.or_true, Bool.true_or, beq_self_eq_true, Nat.reduceLeDiff, Nat.reduceMul, Nat.reduceSub, eq_self, Nat.reduceBneDiff, st0_s, st1_s, st2_s, st3_s, reduceCtorEq, cc_0, tl_0, cl_0, il_0, tl_1, cl_1, il_1, tl_2, cl_2, il_2, tl_3, cl_3, il_3, tl_4, cl_4, il_4, tl_5, cl_5, il_5, tl_6, cl_6, il_6, tl_7, cl_7, il_7, tl_8, cl_8, il_8, tl_9, cl_9, il_9, tl_10, cl_10, il_10, tl_11, cl_11, il_11, tl_12, cl_12, il_12, tl_13, cl_13, il_13, tl_14, cl_14, il_14, tl_15, cl_15, il_15, tl_16, cl_16, il_16, tl_20, tl_21, tl_25, tl_32, tl_48, tl_50, tl_57, tl_58, tl_59, tl_60, tl_99, tl_100, tl_101, tl_108, tl_109, tl_116, tl_120, tl_126, tl_374, tl_1122, tl_50000, i10, i01, tl_m1, tl_m2, tl_m3, tl_m4, nr_X7_fault, tX7_fault_0, tX7_fault_1, tX7_fault_2, tX7_fault_3, tX7_fault_6, tX7_fault_9, tX7_fault_10, tX7_fault_11, tX7_fault_12, tX7_fault_15, tX7_fault_16, tX7_fault_19, tX7_fault_20, tX7_fault_21, tX7_fault_24, tX7_fault_25, tX7_fault_28, tX7_fault_30, tX7_fault_33, tX7_fault_34, tX7_fault_37, tX7_fault_38, tX7_fault_39, tX7_fault_40, tX7_fault_43, tX7_fault_44, tX7_fault_45, tX7_fault_46, pw_QK_s, h1, h2, h3, ↓w_in, ↓w_layAside, ↓w_run, ↓w_layBack, ti_le]
    have s1 : pw_set I (o + 3) (va_cpy (I (o + 1)) (I (o + 3)) 0 0 374) (o + 1) = I (o + 1) := set_n (by omega)
    have s7 : pw_set I (o + 3) (va_cpy (I (o + 1)) (I (o + 3)) 0 0 374) (o + 7) = I (o + 7) := set_n (by omega)
    have s0 : pw_set I (o + 3) (va_cpy (I (o + 1)) (I (o + 3)) 0 0 374) o = I o := set_n (by omega)
    rw [s1, s7, s0]
    refine ⟨fun q => ⟨hR, hO, len, h7, hl, fun J hJ hS _ => ?_⟩, hA⟩
    obtain ⟨b1, b2⟩ := back_m hJ hS hk
    have fin := hB q _ b1 b2
    generalize hr : (runS (I (o + 7)) len len (I (o + 1)) 0 0).2.1 = r at fin
    cases r with
    | none => exact ⟨fun q2 => absurd q2 (by decide), fun _ => fin⟩
    | some w =>
      obtain ⟨a, c⟩ := w
      have rb := run_bd _ _ _ _ _ _ hr
      rw [codeS, ti_nI (by omega), code_mod a (by omega) c (by omega), code_div a (by omega) c (by omega)]
      refine ⟨fun _ => ⟨fun q2 => ⟨by decide, ?_⟩, fun q2 => ⟨by decide, ?_⟩⟩, fun q2 => absurd (by omega) q2⟩
      · rw [faultS, if_neg q2] at fin; exact fin
      · rw [faultS, if_pos q2] at fin; exact fin
  · exact h.elim
def w_play7 (m : Nat) (Ok : Nat → (Nat → Int32) → Prop) : pw_Wp := fun Ag I K => match Ag with
  | [.ref o] => o = m ∧ UndoOK m I ∧ RunInv Ok ∧ Ok 0 (I (m + 1)) ∧ ∃ len, I m 7 = nI len ∧ len ≤ 60 ∧ (∀ k, 374 ≤ k → (runS (I (m + 7)) len len (I (m + 1)) 0 0).1 k = I (m + 1) k) ∧
    (¬ (runS (I (m + 7)) len len (I (m + 1)) 0 0).2.1 = none → ∀ J, plOK m I J → J (m + 1) = I (m + 1) → K (some (.int (-2))) J) ∧
    ((runS (I (m + 7)) len len (I (m + 1)) 0 0).2.1 = none → ∀ J, plOK m (recI m I) J → J (m + 1) = (runS (I (m + 7)) len len (I (m + 1)) 0 0).1 → K (some (.int (nI (runS (I (m + 7)) len len (I (m + 1)) 0 0).2.2))) J)
  | _ => False
set_option maxRecDepth 100000 in
set_option maxHeartbeats 4000000 in
theorem x_play7 (hM : pw_mod sh P m) {Ok : Nat → (Nat → Int32) → Prop} (h : w_play7 m Ok Ag I K) : pw_ok mX7_play 6 base n sh P Ag I K := by
  unfold w_play7 at h
  split at h
  · rename_i o
    obtain ⟨rfl, hu, hR, hO, len, h7, hl, hk, hA, hB⟩ := h
    obtain ⟨h1, ⟨h2, h3⟩, -⟩ := id hM
    refine pw_bd [_, _] pl_X7 c_r rfl rfl ?_
    refine pw_go okX7_play (cc [(96, (w_layAside o)), (153, (w_run o Ok)), (97, (w_layBack o)), (95, (w_record o))]) ⟨Nat.le_refl _, Nat.le_refl _⟩ (cc_c (fun Ag I K h => ⟨0, Nat.le_of_ble_eq_true rfl, x_layAside hM h⟩) (cc_c (fun Ag I K h => ⟨5, Nat.le_of_ble_eq_true rfl, x_run hM h⟩) (cc_c (fun Ag I K h => ⟨0, Nat.le_of_ble_eq_true rfl, x_layBack hM h⟩) (cc_c (fun Ag I K h => ⟨0, Nat.le_of_ble_eq_true rfl, x_record hM h⟩) cc_n)))) (st0) 60 ?_
    simp only [↓f_vc_s, ↓vk_i, ↓cc_i, ↓reduceIte, f_vq_s, Bool.false_eq_true, ↓f_e_iconst, ↓f_e_bipush, ↓f_e_sipush, ↓f_e_ldc, ↓f_e_ldc_w, ↓f_e_iload_n, ↓f_e_iload, ↓f_e_aload_n, ↓f_e_aload, ↓f_e_istore_n, ↓f_e_istore, ↓f_e_astore_n, ↓f_e_astore, ↓f_e_iinc, ↓f_e_iadd, ↓f_e_isub, ↓f_e_imul, ↓f_e_iand, ↓f_e_ior, ↓f_e_ixor, ↓f_e_idiv, ↓f_e_irem, ↓f_e_ishl, ↓f_e_ishr, ↓f_e_iushr, ↓f_e_i2c, ↓f_e_dup, ↓f_e_dup2, ↓f_e_pop, ↓f_e_goto, ↓f_e_ifCond, ↓f_e_if_icmp, ↓f_e_tableswitch, ↓f_e_lookupswitch, ↓f_e_getfield_i, ↓f_e_getfield_r, ↓f_e_putfield_i, ↓f_e_putfield_z, ↓f_e_iaload, ↓f_e_caload, ↓f_e_aaload, ↓f_e_iastore, ↓f_e_castore, ↓f_e_arraylength, ↓f_e_invokestatic, ↓f_e_invokevirtual, ↓f_e_ireturn, ↓f_e_return_, ↓f_s_i_c, ↓f_s_r_c, ↓f_s_v_i, ↓f_s_v_r, ↓f_s_l_0, ↓s_l_1, ↓s_l_2, ↓s_l_3, ↓s_l_4, ↓s_l_5, ↓s_l_6, ↓s_a_0, ↓s_a_1, ↓s_a_2, ↓s_a_3, ↓s_m_0, ↓f_s_m_i, ↓f_s_m_r, ↓f_s_m_i7, ↓f_s_m_r7, ↓f_s_m_i6, ↓f_s_m_r6, ↓f_s_m_i5, ↓f_s_m_r5, ↓f_s_m_i4, ↓f_s_m_r4, ↓f_s_w_n, ↓f_s_w_c, ↓f_s_p_eq, ↓f_s_p_ne, ↓f_s_p_lt, ↓f_s_p_ge, ↓f_s_p_gt, ↓f_s_p_le, ↓nk_i, ↓nk_z, ↓nk_c, ↓rf_s, ↓ov_s, ↓ov_n, ↓fin0, ↓fin1, ↓fin2, ↓fin3, cond_true, cond_false, List.set_cons_zero, List.set_cons_succ, List.length_cons, List.length_nil, true_and, and_true, true_or, or_true, implies_true, forall_const, not_true_eq_false, not_false_eq_true, false_implies, Nat.reduceAdd, Nat.reduceLT, Nat.reduceBEq, Nat.reduceEqDiff, Bool.or_false, Bool.false_or, Bool.or_true, Bool.true_or, beq_self_eq_true, Nat.reduceLeDiff, Nat.reduceMul, Nat.reduceSub, eq_self, Nat.reduceBneDiff, st0_s, st1_s, st2_s, st3_s, reduceCtorEq, cc_0, tl_0, cl_0, il_0, tl_1, cl_1, il_1, tl_2, cl_2, il_2, tl_3, cl_3, il_3, tl_4, cl_4, il_4, tl_5, cl_5, il_5, tl_6, cl_6, il_6, tl_7, cl_7, il_7, tl_8, cl_8, il_8, tl_9, cl_9, il_9, tl_10, cl_10, il_10, tl_11, cl_11, il_11, tl_12, cl_12, il_12, tl_13, cl_13, il_13, tl_14, cl_14, il_14, tl_15, cl_15, il_15, tl_16, cl_16, il_16, tl_20, tl_21, tl_25, tl_32, tl_48, tl_50, tl_57, tl_58, tl_59, tl_60, tl_99, tl_100, tl_101, tl_108, tl_109, tl_116, tl_120, tl_126, tl_374, tl_1122, tl_50000, i10, i01, tl_m1, tl_m2, tl_m3, tl_m4, nr_X7_play, tX7_play_0, tX7_play_1, tX7_play_4, tX7_play_5, tX7_play_8, tX7_play_9, tX7_play_10, tX7_play_13, tX7_play_14, tX7_play_17, tX7_play_19, tX7_play_20, tX7_play_21, tX7_play_24, tX7_play_25, tX7_play_28, tX7_play_29, tX7_play_30, tX7_play_33, pw_QK_s, h1, h2, h3, ↓w_layAside, ↓w_run, ↓w_layBack, ↓w_record, ti_le]
    have s1 : pw_set I (o + 3) (va_cpy (I (o + 1)) (I (o + 3)) 0 0 374) (o + 1) = I (o + 1) := set_n (by omega)
    have s7 : pw_set I (o + 3) (va_cpy (I (o + 1)) (I (o + 3)) 0 0 374) (o + 7) = I (o + 7) := set_n (by omega)
    have s0 : pw_set I (o + 3) (va_cpy (I (o + 1)) (I (o + 3)) 0 0 374) o = I o := set_n (by omega)
    rw [s1, s7, s0]
    refine ⟨hR, hO, len, h7, hl, fun J hJ hS _ => ?_⟩
    obtain ⟨b1, b2⟩ := back_m hJ hS hk
    generalize pw_set J (o + 1) (va_cpy (J (o + 3)) (J (o + 1)) 0 0 374) = B at b1 b2 ⊢
    generalize hr : (runS (I (o + 7)) len len (I (o + 1)) 0 0).2.1 = r at hA hB
    cases r with
    | none =>
      refine ⟨fun _ => ⟨?_, hR, ?_, len, ?_, hl, fun J2 hJ2 hS2 h12 => ?_⟩, fun q2 => absurd (by decide) q2⟩
      · unfold vN; rw [b1.2 8 (by omega) (by omega) (by omega) (by omega)]; exact hu
      · rw [rec_S, b2]; exact hO
      · rw [(b1.rec b2).2 7 (by omega) (by omega) (by omega) (by omega)]
        unfold recI
        rw [set_s, upd_n (by omega)]; exact h7
      · have r7 : recI o B (o + 7) = I (o + 7) := by
          unfold recI
          rw [set_n (by omega), set_n (by omega)]
          exact b1.1 _ (by omega) (by omega) (by omega) (by omega) (by omega) (by omega)
        rw [rec_S, b2, r7] at hS2 h12
        rw [h12]
        exact hB rfl J2 ((b1.rec b2).run hJ2) hS2
    | some w =>
      obtain ⟨a, c⟩ := w
      have rb := run_bd _ _ _ _ _ _ hr
      exact ⟨fun q2 => absurd q2 (nI_pos (by omega)), fun _ => hA (by simp) B b1 b2⟩
  · exact h.elim
end FAU
