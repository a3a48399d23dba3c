/-! the reference: signs, numbers, forms of events -/
def dgT (T : Nat → Int32) (len p : Nat) : Option Nat := if p < len ∧ 48 ≤ (T p).toInt ∧ (T p).toInt ≤ 57 then some ((T p).toInt - 48).toNat else none
/-- a number of one or two digits at p, and the place behind it -/
def numT (T : Nat → Int32) (len p : Nat) : Option (Nat × Nat) := match dgT T len p with
  | none => none
  | some d => match dgT T len (p + 1) with
    | none => some (d, p + 1)
    | some e => some (10 * d + e, p + 2)
theorem dg_some {T : Nat → Int32} {len p d : Nat} (h : dgT T len p = some d) : p < len ∧ (48 ≤ T p ∧ T p ≤ 57) ∧ T p = nI (48 + d) ∧ d ≤ 9 := by
  unfold dgT at h
  split at h
  · rename_i q
    obtain ⟨q1, q2, q3⟩ := q
    cases h
    refine ⟨q1, ⟨Int32.le_iff_toInt_le.mpr q2, Int32.le_iff_toInt_le.mpr q3⟩, ?_, by omega⟩
    refine Int32.toInt_inj.mp ?_
    rw [ti_nI (by omega)]
    omega
  · cases h
theorem dg_none {T : Nat → Int32} {len p : Nat} (h : dgT T len p = none) : p < len → ¬ (48 ≤ T p ∧ T p ≤ 57) := by
  unfold dgT at h
  split at h
  · cases h
  · rename_i q
    intro q1 q2
    exact q ⟨q1, Int32.le_iff_toInt_le.mp q2.1, Int32.le_iff_toInt_le.mp q2.2⟩
theorem num_bd {T : Nat → Int32} {len p v q : Nat} (h : numT T len p = some (v, q)) : v ≤ 99 ∧ p < q ∧ q ≤ p + 2 ∧ q ≤ len := by
  unfold numT at h
  cases e : dgT T len p with
  | none => rw [e] at h; cases h
  | some d =>
    obtain ⟨a1, -, -, a4⟩ := dg_some e
    rw [e] at h
    dsimp only at h
    cases e2 : dgT T len (p + 1) with
    | none => rw [e2] at h; cases h; omega
    | some d2 =>
      obtain ⟨b1, -, -, b4⟩ := dg_some e2
      rw [e2] at h; cases h; omega
def semiT (T : Nat → Int32) (len p : Nat) (c : Int32) : Bool := decide (p < len) && (T p == c)
/-- the event at p: its two numbers and the place behind it -/
def parT (T : Nat → Int32) (len p : Nat) : Option (Nat × Nat × Nat) :=
  if T p = 101 ∨ T p = 116 then (match numT T len (p + 1) with
    | none => none
    | some (v, q) => if semiT T len q 59 = true then some (v, 0, q + 1) else none)
  else if T p = 108 ∨ T p = 109 then (match numT T len (p + 1) with
    | none => none
    | some (v, q) => if semiT T len q 44 = true then (match numT T len (q + 1) with
      | none => none
      | some (w, r) => if semiT T len r 59 = true then some (v, w, r + 1) else none) else none)
  else if T p = 120 ∨ T p = 100 then (if semiT T len (p + 1) 59 = true then some (0, 0, p + 2) else none) else none
section TEX
variable {n base m : Nat} {sh : pw_Sh} {P : pw_P} {Ag : List Value} {I : pw_I} {K : Option Value → pw_I → Prop}
/-- where the reading stands, of how long a text -/
def AtOK (m : Nat) (I : pw_I) : Prop := (I m 7 = nI (vN (I m) 7) ∧ vN (I m) 7 ≤ 60) ∧ I m 9 = nI (vN (I m) 9) ∧ vN (I m) 9 ≤ vN (I m) 7
def w_sees (m : Nat) : pw_Wp := fun Ag I K => match Ag with
  | [.ref o, .int x] => o = m ∧ AtOK m I ∧ (semiT (I (m + 7)) (vN (I m) 7) (vN (I m) 9) x = true → K (some (.int 1)) (pw_set I m (upd (I m) 9 (nI (vN (I m) 9 + 1))))) ∧ (semiT (I (m + 7)) (vN (I m) 7) (vN (I m) 9) x = false → K (some (.int 0)) I)
  | _ => False
set_option maxRecDepth 100000 in
set_option maxHeartbeats 4000000 in
theorem x_sees (hM : pw_mod sh P m) (h : w_sees m Ag I K) : pw_ok mX7_sees 0 base n sh P Ag I K := by
  unfold w_sees at h
  split at h
  · rename_i o x
    obtain ⟨rfl, ⟨⟨l1, l2⟩, l3, l4⟩, hA, hB⟩ := h
    obtain ⟨h1, -, -, -, -, -, -, h4, h5⟩ := id hM
    refine pw_bd [_, _, _] pl_X7 c_ri rfl rfl ?_
    have hB' : semiT (I (o + 7)) (vN (I o) 7) (vN (I o) 9) x = false → K (some (.int 0)) (pw_up I o 9 (nI (vN (I o) 9))) := fun q => by
      rw [up_set, set_idn]
      · exact hB q
      · funext k
        unfold upd
        by_cases e : k = 9
        · rw [if_pos e, e]; exact l3
        · rw [if_neg e]
    refine pw_go okX7_sees (cc []) ⟨Nat.le_refl _, Nat.le_refl _⟩ cc_n (st0) 60 ?_
    simp only [↓f_vc_s, ↓vk_i, ↓cc_i, ↓reduceIte, f_vq_s, Bool.false_eq_true, ↓f_e_iconst, ↓f_e_bipush, ↓f_e_sipush, ↓f_e_ldc, ↓f_e_ldc_w, ↓f_e_iload_n, ↓f_e_iload, ↓f_e_aload_n, ↓f_e_aload, ↓f_e_istore_n, ↓f_e_istore, ↓f_e_astore_n, ↓f_e_astore, ↓f_e_iinc, ↓f_e_iadd, ↓f_e_isub, ↓f_e_imul, ↓f_e_iand, ↓f_e_ior, ↓f_e_ixor, ↓f_e_idiv, ↓f_e_irem, ↓f_e_ishl, ↓f_e_ishr, ↓f_e_iushr, ↓f_e_i2c, ↓f_e_dup, ↓f_e_dup2, ↓f_e_pop, ↓f_e_goto, ↓f_e_ifCond, ↓f_e_if_icmp, ↓f_e_tableswitch, ↓f_e_lookupswitch, ↓f_e_getfield_i, ↓f_e_getfield_r, ↓f_e_putfield_i, ↓f_e_putfield_z, ↓f_e_iaload, ↓f_e_caload, ↓f_e_aaload, ↓f_e_iastore, ↓f_e_castore, ↓f_e_arraylength, ↓f_e_invokestatic, ↓f_e_invokevirtual, ↓f_e_ireturn, ↓f_e_return_, ↓f_s_i_c, ↓f_s_r_c, ↓f_s_v_i, ↓f_s_v_r, ↓f_s_l_0, ↓s_l_1, ↓s_l_2, ↓s_l_3, ↓s_l_4, ↓s_l_5, ↓s_l_6, ↓s_a_0, ↓s_a_1, ↓s_a_2, ↓s_a_3, ↓s_m_0, ↓f_s_m_i, ↓f_s_m_r, ↓f_s_m_i7, ↓f_s_m_r7, ↓f_s_m_i6, ↓f_s_m_r6, ↓f_s_m_i5, ↓f_s_m_r5, ↓f_s_m_i4, ↓f_s_m_r4, ↓f_s_w_n, ↓f_s_w_c, ↓f_s_p_eq, ↓f_s_p_ne, ↓f_s_p_lt, ↓f_s_p_ge, ↓f_s_p_gt, ↓f_s_p_le, ↓nk_i, ↓nk_z, ↓nk_c, ↓rf_s, ↓ov_s, ↓ov_n, ↓fin0, ↓fin1, ↓fin2, ↓fin3, cond_true, cond_false, List.set_cons_zero, List.set_cons_succ, List.length_cons, List.length_nil, true_and, and_true, true_or, or_true, implies_true, forall_const, not_true_eq_false, not_false_eq_true, false_implies, Nat.reduceAdd, Nat.reduceLT, Nat.reduceBEq, Nat.reduceEqDiff, Bool.or_false, Bool.false_or, Bool.or_true, Bool.true_or, beq_self_eq_true, Nat.reduceLeDiff, Nat.reduceMul, Nat.reduceSub, eq_self, Nat.reduceBneDiff, st0_s, st1_s, st2_s, st3_s, reduceCtorEq, cc_0, tl_0, cl_0, il_0, tl_1, cl_1, il_1, tl_2, cl_2, il_2, tl_3, cl_3, il_3, tl_4, cl_4, il_4, tl_5, cl_5, il_5, tl_6, cl_6, il_6, tl_7, cl_7, il_7, tl_8, cl_8, il_8, tl_9, cl_9, il_9, tl_10, cl_10, il_10, tl_11, cl_11, il_11, tl_12, cl_12, il_12, tl_13, cl_13, il_13, tl_14, cl_14, il_14, tl_15, cl_15, il_15, tl_16, cl_16, il_16, tl_20, tl_21, tl_25, tl_32, tl_48, tl_50, tl_57, tl_58, tl_59, tl_60, tl_99, tl_100, tl_101, tl_108, tl_109, tl_116, tl_120, tl_126, tl_374, tl_1122, tl_50000, i10, i01, tl_m1, tl_m2, tl_m3, tl_m4, nr_X7_sees, tX7_sees_0, tX7_sees_1, tX7_sees_4, tX7_sees_5, tX7_sees_8, tX7_sees_11, tX7_sees_12, tX7_sees_15, tX7_sees_16, tX7_sees_19, tX7_sees_20, tX7_sees_21, tX7_sees_24, tX7_sees_25, tX7_sees_28, tX7_sees_29, tX7_sees_30, tX7_sees_31, tX7_sees_32, tX7_sees_35, tX7_sees_36, tX7_sees_39, tX7_sees_40, tX7_sees_43, tX7_sees_44, tX7_sees_45, tX7_sees_48, tX7_sees_49, pw_QK_s, h1, h4, h5]
    rw [l1, l3, show nI (vN (I o) 9) + 0 = nI (vN (I o) 9) from Int32.add_zero _, ix_1]
    refine ⟨fun q => hB' ?_, fun q => ?_⟩
    · unfold semiT
      rw [decide_eq_false (fun z => nI_ge z (by omega) q)]; rfl
    · have hlt : vN (I o) 9 < vN (I o) 7 := by
        rcases Nat.lt_or_ge (vN (I o) 9) (vN (I o) 7) with z | z
        · exact z
        · exact absurd (nI_le z (by omega)) q
      rw [cl_nI (by omega)]
      refine ⟨in_nI (by omega) (by omega), fun q2 => hB' ?_, fun q2 => ?_⟩
      · unfold semiT; rw [beq_f q2, Bool.and_false]
      · rw [up_set]
        refine hA ?_
        unfold semiT; rw [decide_eq_true hlt, beq_t q2]; rfl
  · exact h.elim
def w_number (m : Nat) : pw_Wp := fun Ag I K => match Ag with
  | [.ref o] => o = m ∧ AtOK m I ∧ (numT (I (m + 7)) (vN (I m) 7) (vN (I m) 9) = none → K (some (.int (-1))) I) ∧ (∀ v q, numT (I (m + 7)) (vN (I m) 7) (vN (I m) 9) = some (v, q) → K (some (.int (nI v))) (pw_set I m (upd (I m) 9 (nI q))))
  | _ => False
set_option maxRecDepth 100000 in
set_option maxHeartbeats 4000000 in
theorem x_number (hM : pw_mod sh P m) (h : w_number m Ag I K) : pw_ok mX7_number 1 base n sh P Ag I K := by
  unfold w_number at h
  split at h
  · rename_i o
    obtain ⟨rfl, ⟨⟨l1, l2⟩, l3, l4⟩, hA, hB⟩ := h
    obtain ⟨h1, -, -, -, -, -, -, h4, h5⟩ := id hM
    refine pw_bd [_, _, _] pl_X7 c_r rfl rfl ?_
    generalize hT : I (o + 7) = T at hA hB
    generalize hl : vN (I o) 7 = len at hA hB l1 l2 l4
    generalize hp : vN (I o) 9 = p at hA hB l3 l4
    have none1 : dgT T len p = none → K (some (.int (-1))) I := fun e => hA (by unfold numT; rw [e])
    have none2 : ∀ d, dgT T len p = some d → dgT T len (p + 1) = none → K (some (.int (nI d))) (pw_set I o (upd (I o) 9 (nI (p + 1)))) := fun d e e2 => hB d (p + 1) (by unfold numT; rw [e]; dsimp only; rw [e2])
    have some2 : ∀ d f, dgT T len p = some d → dgT T len (p + 1) = some f → K (some (.int (nI (10 * d + f)))) (pw_set I o (upd (I o) 9 (nI (p + 2)))) := fun d f e e2 => hB (10 * d + f) (p + 2) (by unfold numT; rw [e]; dsimp only; rw [e2])
    have step : ∀ (J : pw_I) (p' : Nat) (v k : Int32), ¬ 2 ≤ k → J o 7 = nI len → J o 9 = nI p' → p' ≤ len → J (o + 7) = T → (dgT T len p' = none → K (some (.int v)) J) →
        (∀ d, dgT T len p' = some d → PW (mX7_number, 1, 0, 0, none, base) n sh P (pw_set J o (upd (J o) 9 (nI (p' + 1)))) 0 0 4 [some (.ref o), some (.int ((if 0 ≤ v then 10 * v else 0) + nI (48 + d) - 48)), some (.int (k + 1))] [] (pw_QK n sh P K)) →
        PW (mX7_number, 1, 0, 0, none, base) n sh P J 0 0 4 [some (.ref o), some (.int v), some (.int k)] [] (pw_QK n sh P K) := by
      intro J p' v k hk J7 J9 hp' JT hnone hsome
      refine pw_go okX7_number (cc [(94, w_in)]) ⟨Nat.le_refl _, Nat.le_refl _⟩ (cc_c (fun Ag I K h => ⟨0, Nat.le_of_ble_eq_true rfl, x_in h⟩) cc_n) (st1 4) 60 ?_
      simp only [↓f_vc_s, ↓vk_i, ↓cc_i, ↓reduceIte, f_vq_s, Bool.false_eq_true, ↓f_e_iconst, ↓f_e_bipush, ↓f_e_sipush, ↓f_e_ldc, ↓f_e_ldc_w, ↓f_e_iload_n, ↓f_e_iload, ↓f_e_aload_n, ↓f_e_aload, ↓f_e_istore_n, ↓f_e_istore, ↓f_e_astore_n, ↓f_e_astore, ↓f_e_iinc, ↓f_e_iadd, ↓f_e_isub, ↓f_e_imul, ↓f_e_iand, ↓f_e_ior, ↓f_e_ixor, ↓f_e_idiv, ↓f_e_irem, ↓f_e_ishl, ↓f_e_ishr, ↓f_e_iushr, ↓f_e_i2c, ↓f_e_dup, ↓f_e_dup2, ↓f_e_pop, ↓f_e_goto, ↓f_e_ifCond, ↓f_e_if_icmp, ↓f_e_tableswitch, ↓f_e_lookupswitch, ↓f_e_getfield_i, ↓f_e_getfield_r, ↓f_e_putfield_i, ↓f_e_putfield_z, ↓f_e_iaload, ↓f_e_caload, ↓f_e_aaload, ↓f_e_iastore, ↓f_e_castore, ↓f_e_arraylength, ↓f_e_invokestatic, ↓f_e_invokevirtual, ↓f_e_ireturn, ↓f_e_return_, ↓f_s_i_c, ↓f_s_r_c, ↓f_s_v_i, ↓f_s_v_r, ↓f_s_l_0, ↓s_l_1, ↓s_l_2, ↓s_l_3, ↓s_l_4, ↓s_l_5, ↓s_l_6, ↓s_a_0, ↓s_a_1, ↓s_a_2, ↓s_a_3, ↓s_m_0, ↓f_s_m_i, ↓f_s_m_r, ↓f_s_m_i7, ↓f_s_m_r7, ↓f_s_m_i6, ↓f_s_m_r6, ↓f_s_m_i5, ↓f_s_m_r5, ↓f_s_m_i4, ↓f_s_m_r4, ↓f_s_w_n, ↓f_s_w_c, ↓f_s_p_eq, ↓f_s_p_ne, ↓f_s_p_lt, ↓f_s_p_ge, ↓f_s_p_gt, ↓f_s_p_le, ↓nk_i, ↓nk_z, ↓nk_c, ↓rf_s, ↓ov_s, ↓ov_n, ↓fin0, ↓fin1, ↓fin2, ↓fin3, cond_true, cond_false, List.set_cons_zero, List.set_cons_succ, List.length_cons, List.length_nil, true_and, and_true, true_or, or_true, implies_true, forall_const, not_true_eq_false, not_false_eq_true, false_implies, Nat.reduceAdd, Nat.reduceLT, Nat.reduceBEq, Nat.reduceEqDiff, Bool.or_false, Bool.false_or, Bool.or_true, Bool.true_or, beq_self_eq_true, Nat.reduceLeDiff, Nat.reduceMul, Nat.reduceSub, eq_self, Nat.reduceBneDiff, st0_s, st1_s, st2_s, st3_s, reduceCtorEq, cc_0, tl_0, cl_0, il_0, tl_1, cl_1, il_1, tl_2, cl_2, il_2, tl_3, cl_3, il_3, tl_4, cl_4, il_4, tl_5, cl_5, il_5, tl_6, cl_6, il_6, tl_7, cl_7, il_7, tl_8, cl_8, il_8, tl_9, cl_9, il_9, tl_10, cl_10, il_10, tl_11, cl_11, il_11, tl_12, cl_12, il_12, tl_13, cl_13, il_13, tl_14, cl_14, il_14, tl_15, cl_15, il_15, tl_16, cl_16, il_16, tl_20, tl_21, tl_25, tl_32, tl_48, tl_50, tl_57, tl_58, tl_59, tl_60, tl_99, tl_100, tl_101, tl_108, tl_109, tl_116, tl_120, tl_126, tl_374, tl_1122, tl_50000, i10, i01, tl_m1, tl_m2, tl_m3, tl_m4, nr_X7_number, tX7_number_0, tX7_number_1, tX7_number_2, tX7_number_3, tX7_number_4, tX7_number_5, tX7_number_6, tX7_number_9, tX7_number_10, tX7_number_13, tX7_number_14, tX7_number_17, tX7_number_20, tX7_number_21, tX7_number_24, tX7_number_25, tX7_number_28, tX7_number_29, tX7_number_31, tX7_number_33, tX7_number_36, tX7_number_39, tX7_number_40, tX7_number_43, tX7_number_44, tX7_number_47, tX7_number_49, tX7_number_50, tX7_number_51, tX7_number_52, tX7_number_55, tX7_number_56, tX7_number_59, tX7_number_60, tX7_number_61, tX7_number_63, tX7_number_64, tX7_number_65, tX7_number_66, tX7_number_67, tX7_number_70, tX7_number_71, tX7_number_72, tX7_number_75, tX7_number_78, tX7_number_81, tX7_number_82, pw_QK_s, h1, h4, h5, ↓w_in]
      rw [J7, J9, JT]
      refine ⟨fun q => absurd q hk, fun _ => ⟨fun q => hnone ?_, fun q => ?_⟩⟩
      · unfold dgT
        rw [if_neg (fun z => nI_ge z.1 (by omega) q)]
      · have hlt : p' < len := by
          rcases Nat.lt_or_ge p' len with z | z
          · exact z
          · exact absurd (nI_le z (by omega)) q
        simp (disch := omega) only [ix_l, ix_n, ix_0, ix_1, ix_2, ix_3, ix_4, ix_5, ix_6, ix_7, ix_8, ix_9, ix_10, ix_11, ix_12, ix_13, ix_14, ix_15, ix_20, ix_100, ix_374, jx_100, jx_11, jx_374, kx_374, cl_nI, in_nI, Nat.add_zero, true_and, up_set, set_s, set_set, set_n, cpy_s0, cpy_sd, cpy_ss, nI_add, upd_s, upd_n]
        have fin : ∀ (w : Int32), (48 ≤ T p' ∧ T p' ≤ 57) → w = (if 0 ≤ v then 10 * v else 0) → PW (mX7_number, 1, 0, 0, none, base) n sh P (pw_set J o (upd (J o) 9 (nI (p' + 1)))) 0 0 4 [some (.ref o), some (.int (w + T p' - 48)), some (.int (k + 1))] [] (pw_QK n sh P K) := fun w q1 q2 => by
          cases e : dgT T len p' with
          | none => exact absurd q1 (dg_none e hlt)
          | some d =>
            have := hsome d e
            rw [← (dg_some e).2.2.1, ← q2] at this
            exact this
        refine ⟨fun q1 => ⟨fun q2 => fin _ q1 (by rw [if_pos q2]), fun q2 => fin _ q1 (by rw [if_neg q2])⟩, fun q1 => hnone ?_⟩
        cases e : dgT T len p' with
        | none => rfl
        | some d => exact absurd (dg_some e).2.1 q1
    have finK : ∀ (J : pw_I) (v : Int32), K (some (.int v)) J → PW (mX7_number, 1, 0, 0, none, base) n sh P J 0 0 4 [some (.ref o), some (.int v), some (.int (0 + 1 + 1))] [] (pw_QK n sh P K) := fun J v hK => by
      refine pw_go okX7_number (cc []) ⟨Nat.le_refl _, Nat.le_refl _⟩ cc_n (st1 4) 60 ?_
      simp only [↓f_vc_s, ↓vk_i, ↓cc_i, ↓reduceIte, f_vq_s, Bool.false_eq_true, ↓f_e_iconst, ↓f_e_bipush, ↓f_e_sipush, ↓f_e_ldc, ↓f_e_ldc_w, ↓f_e_iload_n, ↓f_e_iload, ↓f_e_aload_n, ↓f_e_aload, ↓f_e_istore_n, ↓f_e_istore, ↓f_e_astore_n, ↓f_e_astore, ↓f_e_iinc, ↓f_e_iadd, ↓f_e_isub, ↓f_e_imul, ↓f_e_iand, ↓f_e_ior, ↓f_e_ixor, ↓f_e_idiv, ↓f_e_irem, ↓f_e_ishl, ↓f_e_ishr, ↓f_e_iushr, ↓f_e_i2c, ↓f_e_dup, ↓f_e_dup2, ↓f_e_pop, ↓f_e_goto, ↓f_e_ifCond, ↓f_e_if_icmp, ↓f_e_tableswitch, ↓f_e_lookupswitch, ↓f_e_getfield_i, ↓f_e_getfield_r, ↓f_e_putfield_i, ↓f_e_putfield_z, ↓f_e_iaload, ↓f_e_caload, ↓f_e_aaload, ↓f_e_iastore, ↓f_e_castore, ↓f_e_arraylength, ↓f_e_invokestatic, ↓f_e_invokevirtual, ↓f_e_ireturn, ↓f_e_return_, ↓f_s_i_c, ↓f_s_r_c, ↓f_s_v_i, ↓f_s_v_r, ↓f_s_l_0, ↓s_l_1, ↓s_l_2, ↓s_l_3, ↓s_l_4, ↓s_l_5, ↓s_l_6, ↓s_a_0, ↓s_a_1, ↓s_a_2, ↓s_a_3, ↓s_m_0, ↓f_s_m_i, ↓f_s_m_r, ↓f_s_m_i7, ↓f_s_m_r7, ↓f_s_m_i6, ↓f_s_m_r6, ↓f_s_m_i5, ↓f_s_m_r5, ↓f_s_m_i4, ↓f_s_m_r4, ↓f_s_w_n, ↓f_s_w_c, ↓f_s_p_eq, ↓f_s_p_ne, ↓f_s_p_lt, ↓f_s_p_ge, ↓f_s_p_gt, ↓f_s_p_le, ↓nk_i, ↓nk_z, ↓nk_c, ↓rf_s, ↓ov_s, ↓ov_n, ↓fin0, ↓fin1, ↓fin2, ↓fin3, cond_true, cond_false, List.set_cons_zero, List.set_cons_succ, List.length_cons, List.length_nil, true_and, and_true, true_or, or_true, implies_true, forall_const, not_true_eq_false, not_false_eq_true, false_implies, Nat.reduceAdd, Nat.reduceLT, Nat.reduceBEq, Nat.reduceEqDiff, Bool.or_false, Bool.false_or, Bool.or_true, Bool.true_or, beq_self_eq_true, Nat.reduceLeDiff, Nat.reduceMul, Nat.reduceSub, eq_self, Nat.reduceBneDiff, st0_s, st1_s, st2_s, st3_s, reduceCtorEq, cc_0, tl_0, cl_0, il_0, tl_1, cl_1, il_1, tl_2, cl_2, il_2, tl_3, cl_3, il_3, tl_4, cl_4, il_4, tl_5, cl_5, il_5, tl_6, cl_6, il_6, tl_7, cl_7, il_7, tl_8, cl_8, il_8, tl_9, cl_9, il_9, tl_10, cl_10, il_10, tl_11, cl_11, il_11, tl_12, cl_12, il_12, tl_13, cl_13, il_13, tl_14, cl_14, il_14, tl_15, cl_15, il_15, tl_16, cl_16, il_16, tl_20, tl_21, tl_25, tl_32, tl_48, tl_50, tl_57, tl_58, tl_59, tl_60, tl_99, tl_100, tl_101, tl_108, tl_109, tl_116, tl_120, tl_126, tl_374, tl_1122, tl_50000, i10, i01, tl_m1, tl_m2, tl_m3, tl_m4, nr_X7_number, tX7_number_0, tX7_number_1, tX7_number_2, tX7_number_3, tX7_number_4, tX7_number_5, tX7_number_6, tX7_number_9, tX7_number_10, tX7_number_13, tX7_number_14, tX7_number_17, tX7_number_20, tX7_number_21, tX7_number_24, tX7_number_25, tX7_number_28, tX7_number_29, tX7_number_31, tX7_number_33, tX7_number_36, tX7_number_39, tX7_number_40, tX7_number_43, tX7_number_44, tX7_number_47, tX7_number_49, tX7_number_50, tX7_number_51, tX7_number_52, tX7_number_55, tX7_number_56, tX7_number_59, tX7_number_60, tX7_number_61, tX7_number_63, tX7_number_64, tX7_number_65, tX7_number_66, tX7_number_67, tX7_number_70, tX7_number_71, tX7_number_72, tX7_number_75, tX7_number_78, tX7_number_81, tX7_number_82, pw_QK_s, h1, h4, h5]
      exact ⟨fun _ => hK, fun q => absurd (by decide) q⟩
    refine pw_go okX7_number (cc [(94, w_in)]) ⟨Nat.le_refl _, Nat.le_refl _⟩ (cc_c (fun Ag I K h => ⟨0, Nat.le_of_ble_eq_true rfl, x_in h⟩) cc_n) (st1 4) 60 ?_
    simp only [↓f_vc_s, ↓vk_i, ↓cc_i, ↓reduceIte, f_vq_s, Bool.false_eq_true, ↓f_e_iconst, ↓f_e_bipush, ↓f_e_sipush, ↓f_e_ldc, ↓f_e_ldc_w, ↓f_e_iload_n, ↓f_e_iload, ↓f_e_aload_n, ↓f_e_aload, ↓f_e_istore_n, ↓f_e_istore, ↓f_e_astore_n, ↓f_e_astore, ↓f_e_iinc, ↓f_e_iadd, ↓f_e_isub, ↓f_e_imul, ↓f_e_iand, ↓f_e_ior, ↓f_e_ixor, ↓f_e_idiv, ↓f_e_irem, ↓f_e_ishl, ↓f_e_ishr, ↓f_e_iushr, ↓f_e_i2c, ↓f_e_dup, ↓f_e_dup2, ↓f_e_pop, ↓f_e_goto, ↓f_e_ifCond, ↓f_e_if_icmp, ↓f_e_tableswitch, ↓f_e_lookupswitch, ↓f_e_getfield_i, ↓f_e_getfield_r, ↓f_e_putfield_i, ↓f_e_putfield_z, ↓f_e_iaload, ↓f_e_caload, ↓f_e_aaload, ↓f_e_iastore, ↓f_e_castore, ↓f_e_arraylength, ↓f_e_invokestatic, ↓f_e_invokevirtual, ↓f_e_ireturn, ↓f_e_return_, ↓f_s_i_c, ↓f_s_r_c, ↓f_s_v_i, ↓f_s_v_r, ↓f_s_l_0, ↓s_l_1, ↓s_l_2, ↓s_l_3, ↓s_l_4, ↓s_l_5, ↓s_l_6, ↓s_a_0, ↓s_a_1, ↓s_a_2, ↓s_a_3, ↓s_m_0, ↓f_s_m_i, ↓f_s_m_r, ↓f_s_m_i7, ↓f_s_m_r7, ↓f_s_m_i6, ↓f_s_m_r6, ↓f_s_m_i5, ↓f_s_m_r5, ↓f_s_m_i4, ↓f_s_m_r4, ↓f_s_w_n, ↓f_s_w_c, ↓f_s_p_eq, ↓f_s_p_ne, ↓f_s_p_lt, ↓f_s_p_ge, ↓f_s_p_gt, ↓f_s_p_le, ↓nk_i, ↓nk_z, ↓nk_c, ↓rf_s, ↓ov_s, ↓ov_n, ↓fin0, ↓fin1, ↓fin2, ↓fin3, cond_true, cond_false, List.set_cons_zero, List.set_cons_succ, List.length_cons, List.length_nil, true_and, and_true, true_or, or_true, implies_true, forall_const, not_true_eq_false, not_false_eq_true, false_implies, Nat.reduceAdd, Nat.reduceLT, Nat.reduceBEq, Nat.reduceEqDiff, Bool.or_false, Bool.false_or, Bool.or_true, Bool.true_or, beq_self_eq_true, Nat.reduceLeDiff, Nat.reduceMul, Nat.reduceSub, eq_self, Nat.reduceBneDiff, st0_s, st1_s, st2_s, st3_s, reduceCtorEq, cc_0, tl_0, cl_0, il_0, tl_1, cl_1, il_1, tl_2, cl_2, il_2, tl_3, cl_3, il_3, tl_4, cl_4, il_4, tl_5, cl_5, il_5, tl_6, cl_6, il_6, tl_7, cl_7, il_7, tl_8, cl_8, il_8, tl_9, cl_9, il_9, tl_10, cl_10, il_10, tl_11, cl_11, il_11, tl_12, cl_12, il_12, tl_13, cl_13, il_13, tl_14, cl_14, il_14, tl_15, cl_15, il_15, tl_16, cl_16, il_16, tl_20, tl_21, tl_25, tl_32, tl_48, tl_50, tl_57, tl_58, tl_59, tl_60, tl_99, tl_100, tl_101, tl_108, tl_109, tl_116, tl_120, tl_126, tl_374, tl_1122, tl_50000, i10, i01, tl_m1, tl_m2, tl_m3, tl_m4, nr_X7_number, tX7_number_0, tX7_number_1, tX7_number_2, tX7_number_3, tX7_number_4, tX7_number_5, tX7_number_6, tX7_number_9, tX7_number_10, tX7_number_13, tX7_number_14, tX7_number_17, tX7_number_20, tX7_number_21, tX7_number_24, tX7_number_25, tX7_number_28, tX7_number_29, tX7_number_31, tX7_number_33, tX7_number_36, tX7_number_39, tX7_number_40, tX7_number_43, tX7_number_44, tX7_number_47, tX7_number_49, tX7_number_50, tX7_number_51, tX7_number_52, tX7_number_55, tX7_number_56, tX7_number_59, tX7_number_60, tX7_number_61, tX7_number_63, tX7_number_64, tX7_number_65, tX7_number_66, tX7_number_67, tX7_number_70, tX7_number_71, tX7_number_72, tX7_number_75, tX7_number_78, tX7_number_81, tX7_number_82, pw_QK_s, h1, h4, h5, ↓w_in]
    refine step I p (-1) 0 (by decide) l1 l3 l4 hT none1 (fun d e => ?_)
    obtain ⟨d1, -, -, d4⟩ := dg_some e
    rw [if_neg (by decide), Int32.zero_add, show nI (48 + d) - 48 = nI d from (pk_sub (a := 48 + d) (b := 48) (by omega)).trans (by rw [Nat.add_sub_cancel_left])]
    refine step _ (p + 1) (nI d) (0 + 1) (by decide) ?_ ?_ d1 ?_ (none2 d e) (fun f e2 => ?_)
    · rw [set_s, upd_n (by omega)]; exact l1
    · rw [set_s, upd_s]
    · rw [set_n (by omega)]; exact hT
    · obtain ⟨f1, -, -, f4⟩ := dg_some e2
      have e3 : (if (0 : Int32) ≤ nI d then 10 * nI d else 0) + nI (48 + f) - 48 = nI (10 * d + f) := by
        rw [if_pos (nI_pos' (by omega)), show (10 : Int32) * nI d = nI (10 * d) from pk_mul 10 d, nI_add]
        exact (pk_sub (a := 10 * d + (48 + f)) (b := 48) (by omega)).trans (by congr 1; omega)
      rw [e3, set_set, set_s, upd_upd]
      exact finK _ _ (some2 d f e e2)
  · exact h.elim
end TEX
