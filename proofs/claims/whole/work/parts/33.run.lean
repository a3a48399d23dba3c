/-! the reference: an event of the text, its form and range -/
theorem sg_100_101 : ((100 : Int32) = 101) = False := eq_false (by decide)
theorem sg_100_108 : ((100 : Int32) = 108) = False := eq_false (by decide)
theorem sg_100_109 : ((100 : Int32) = 109) = False := eq_false (by decide)
theorem sg_100_116 : ((100 : Int32) = 116) = False := eq_false (by decide)
theorem sg_100_120 : ((100 : Int32) = 120) = False := eq_false (by decide)
theorem sg_101_100 : ((101 : Int32) = 100) = False := eq_false (by decide)
theorem sg_101_108 : ((101 : Int32) = 108) = False := eq_false (by decide)
theorem sg_101_109 : ((101 : Int32) = 109) = False := eq_false (by decide)
theorem sg_101_116 : ((101 : Int32) = 116) = False := eq_false (by decide)
theorem sg_101_120 : ((101 : Int32) = 120) = False := eq_false (by decide)
theorem sg_108_100 : ((108 : Int32) = 100) = False := eq_false (by decide)
theorem sg_108_101 : ((108 : Int32) = 101) = False := eq_false (by decide)
theorem sg_108_109 : ((108 : Int32) = 109) = False := eq_false (by decide)
theorem sg_108_116 : ((108 : Int32) = 116) = False := eq_false (by decide)
theorem sg_108_120 : ((108 : Int32) = 120) = False := eq_false (by decide)
theorem sg_109_100 : ((109 : Int32) = 100) = False := eq_false (by decide)
theorem sg_109_101 : ((109 : Int32) = 101) = False := eq_false (by decide)
theorem sg_109_108 : ((109 : Int32) = 108) = False := eq_false (by decide)
theorem sg_109_116 : ((109 : Int32) = 116) = False := eq_false (by decide)
theorem sg_109_120 : ((109 : Int32) = 120) = False := eq_false (by decide)
theorem sg_116_100 : ((116 : Int32) = 100) = False := eq_false (by decide)
theorem sg_116_101 : ((116 : Int32) = 101) = False := eq_false (by decide)
theorem sg_116_108 : ((116 : Int32) = 108) = False := eq_false (by decide)
theorem sg_116_109 : ((116 : Int32) = 109) = False := eq_false (by decide)
theorem sg_116_120 : ((116 : Int32) = 120) = False := eq_false (by decide)
theorem sg_120_100 : ((120 : Int32) = 100) = False := eq_false (by decide)
theorem sg_120_101 : ((120 : Int32) = 101) = False := eq_false (by decide)
theorem sg_120_108 : ((120 : Int32) = 108) = False := eq_false (by decide)
theorem sg_120_109 : ((120 : Int32) = 109) = False := eq_false (by decide)
theorem sg_120_116 : ((120 : Int32) = 116) = False := eq_false (by decide)
/-- the six signs that begin an event -/
def isSgn (x : Int32) : Prop := x = 101 ∨ x = 108 ∨ x = 109 ∨ x = 120 ∨ x = 100 ∨ x = 116
/-- alike but for what is read of the text -/
def fldOK (m : Nat) (I J : pw_I) : Prop := (∀ a, a ≠ m → J a = I a) ∧ ∀ k, k ≠ 9 → k ≠ 10 → k ≠ 11 → J m k = I m k
theorem fldOK.rf {m : Nat} {I : pw_I} : fldOK m I I := ⟨fun _ _ => rfl, fun _ _ _ _ => rfl⟩
theorem fldOK.up {m : Nat} {I J : pw_I} (h : fldOK m I J) {k : Nat} {v : Int32} (hk : k = 9 ∨ k = 10 ∨ k = 11) : fldOK m I (pw_set J m (upd (J m) k v)) := by
  refine ⟨fun a ha => ?_, fun i h1 h2 h3 => ?_⟩
  · rw [set_n ha]; exact h.1 a ha
  · rw [set_s, upd_n (by omega)]; exact h.2 i h1 h2 h3
theorem up_r {I : pw_I} {a k : Nat} {v : Int32} : pw_up I a k v a k = v := by rw [up_set, set_s, upd_s]
theorem up_n {I : pw_I} {a k i : Nat} {v : Int32} (h : i ≠ k) : pw_up I a k v a i = I a i := by rw [up_set, set_s, upd_n h]
theorem fldOK.upu {m : Nat} {I J : pw_I} (h : fldOK m I J) {k : Nat} {v : Int32} (hk : k = 9 ∨ k = 10 ∨ k = 11) : fldOK m I (pw_up J m k v) := by
  rw [up_set]
  exact h.up hk
theorem semi_lt {T : Nat → Int32} {len q : Nat} {c : Int32} (h : semiT T len q c = true) : q < len := by
  unfold semiT at h
  rw [Bool.and_eq_true] at h
  exact of_decide_eq_true h.1
theorem parT_n {T : Nat → Int32} {len p : Nat} (h : T p = 101 ∨ T p = 116) : parT T len p = (match numT T len (p + 1) with
    | none => none
    | some (v, q) => if semiT T len q 59 = true then some (v, 0, q + 1) else none) := if_pos h
theorem parT_2 {T : Nat → Int32} {len p : Nat} (h : T p = 108 ∨ T p = 109) : parT T len p = (match numT T len (p + 1) with
    | none => none
    | some (v, q) => if semiT T len q 44 = true then (match numT T len (q + 1) with
      | none => none
      | some (w, r) => if semiT T len r 59 = true then some (v, w, r + 1) else none) else none) := by
  have h1 : ¬ (T p = 101 ∨ T p = 116) := by
    rcases h with e | e <;> rw [e] <;> decide
  exact (if_neg h1).trans (if_pos h)
theorem parT_0 {T : Nat → Int32} {len p : Nat} (h : T p = 120 ∨ T p = 100) : parT T len p = if semiT T len (p + 1) 59 = true then some (0, 0, p + 2) else none := by
  have h1 : ¬ (T p = 101 ∨ T p = 116) := by
    rcases h with e | e <;> rw [e] <;> decide
  have h2 : ¬ (T p = 108 ∨ T p = 109) := by
    rcases h with e | e <;> rw [e] <;> decide
  exact (if_neg h1).trans ((if_neg h2).trans (if_pos h))
section RUN1
variable {n base m : Nat} {sh : pw_Sh} {P : pw_P} {Ag : List Value} {I : pw_I} {K : Option Value → pw_I → Prop}
def w_isSign : pw_Wp := fun Ag I K => match Ag with
  | [.int x] => (isSgn x → K (some (.int 1)) I) ∧ (¬ isSgn x → K (some (.int 0)) I)
  | _ => False
set_option maxRecDepth 100000 in
set_option maxHeartbeats 4000000 in
theorem x_isSign (h : w_isSign Ag I K) : pw_ok mX7_isSign 0 base n sh P Ag I K := by
  unfold w_isSign at h
  split at h
  · rename_i x
    obtain ⟨hA, hB⟩ := h
    refine pw_bd [_] pl_X7 c_i rfl rfl ?_
    refine pw_go okX7_isSign (cc []) ⟨Nat.le_refl _, Nat.le_refl _⟩ cc_n (st0) 60 ?_
    simp only [↓f_vc_s, ↓vk_i, ↓cc_i, ↓reduceIte, f_vq_s, Bool.false_eq_true, ↓f_e_iconst, ↓f_e_bipush, ↓f_e_sipush, ↓f_e_ldc, ↓f_e_ldc_w, ↓f_e_iload_n, ↓f_e_iload, ↓f_e_aload_n, ↓f_e_aload, ↓f_e_istore_n, ↓f_e_istore, ↓f_e_astore_n, ↓f_e_astore, ↓f_e_iinc, ↓f_e_iadd, ↓f_e_isub, ↓f_e_imul, ↓f_e_iand, ↓f_e_ior, ↓f_e_ixor, ↓f_e_idiv, ↓f_e_irem, ↓f_e_ishl, ↓f_e_ishr, ↓f_e_iushr, ↓f_e_i2c, ↓f_e_dup, ↓f_e_dup2, ↓f_e_pop, ↓f_e_goto, ↓f_e_ifCond, ↓f_e_if_icmp, ↓f_e_tableswitch, ↓f_e_lookupswitch, ↓f_e_getfield_i, ↓f_e_getfield_r, ↓f_e_putfield_i, ↓f_e_putfield_z, ↓f_e_iaload, ↓f_e_caload, ↓f_e_aaload, ↓f_e_iastore, ↓f_e_castore, ↓f_e_arraylength, ↓f_e_invokestatic, ↓f_e_invokevirtual, ↓f_e_ireturn, ↓f_e_return_, ↓f_s_i_c, ↓f_s_r_c, ↓f_s_v_i, ↓f_s_v_r, ↓f_s_l_0, ↓s_l_1, ↓s_l_2, ↓s_l_3, ↓s_l_4, ↓s_l_5, ↓s_l_6, ↓s_a_0, ↓s_a_1, ↓s_a_2, ↓s_a_3, ↓s_m_0, ↓f_s_m_i, ↓f_s_m_r, ↓f_s_m_i7, ↓f_s_m_r7, ↓f_s_m_i6, ↓f_s_m_r6, ↓f_s_m_i5, ↓f_s_m_r5, ↓f_s_m_i4, ↓f_s_m_r4, ↓f_s_w_n, ↓f_s_w_c, ↓f_s_p_eq, ↓f_s_p_ne, ↓f_s_p_lt, ↓f_s_p_ge, ↓f_s_p_gt, ↓f_s_p_le, ↓nk_i, ↓nk_z, ↓nk_c, ↓rf_s, ↓ov_s, ↓ov_n, ↓fin0, ↓fin1, ↓fin2, ↓fin3, cond_true, cond_false, List.set_cons_zero, List.set_cons_succ, List.length_cons, List.length_nil, true_and, and_true, true_or, or_true, implies_true, forall_const, not_true_eq_false, not_false_eq_true, false_implies, Nat.reduceAdd, Nat.reduceLT, Nat.reduceBEq, Nat.reduceEqDiff, Bool.or_false, Bool.false_or, Bool.or_true, Bool.true_or, beq_self_eq_true, Nat.reduceLeDiff, Nat.reduceMul, Nat.reduceSub, eq_self, Nat.reduceBneDiff, st0_s, st1_s, st2_s, st3_s, reduceCtorEq, cc_0, tl_0, cl_0, il_0, tl_1, cl_1, il_1, tl_2, cl_2, il_2, tl_3, cl_3, il_3, tl_4, cl_4, il_4, tl_5, cl_5, il_5, tl_6, cl_6, il_6, tl_7, cl_7, il_7, tl_8, cl_8, il_8, tl_9, cl_9, il_9, tl_10, cl_10, il_10, tl_11, cl_11, il_11, tl_12, cl_12, il_12, tl_13, cl_13, il_13, tl_14, cl_14, il_14, tl_15, cl_15, il_15, tl_16, cl_16, il_16, tl_20, tl_21, tl_25, tl_32, tl_48, tl_50, tl_57, tl_58, tl_59, tl_60, tl_99, tl_100, tl_101, tl_108, tl_109, tl_116, tl_120, tl_126, tl_374, tl_1122, tl_50000, i10, i01, tl_m1, tl_m2, tl_m3, tl_m4, nr_X7_isSign, tX7_isSign_0, tX7_isSign_1, tX7_isSign_3, tX7_isSign_6, tX7_isSign_7, tX7_isSign_9, tX7_isSign_12, tX7_isSign_13, tX7_isSign_15, tX7_isSign_18, tX7_isSign_19, tX7_isSign_21, tX7_isSign_24, tX7_isSign_25, tX7_isSign_27, tX7_isSign_30, tX7_isSign_31, tX7_isSign_33, tX7_isSign_36, tX7_isSign_37, tX7_isSign_40, tX7_isSign_41, pw_QK_s]
    unfold isSgn at hA hB
    refine ⟨fun q => hA (Or.inl q), fun n1 => ⟨fun q => hA (Or.inr (Or.inl q)), fun n2 => ⟨fun q => hA (Or.inr (Or.inr (Or.inl q))), fun n3 => ⟨fun q => hA (Or.inr (Or.inr (Or.inr (Or.inl q)))), fun n4 => ⟨fun q => hA (Or.inr (Or.inr (Or.inr (Or.inr (Or.inl q))))), fun n5 => ⟨fun n6 => hB ?_, fun q => hA (Or.inr (Or.inr (Or.inr (Or.inr (Or.inr q)))))⟩⟩⟩⟩⟩⟩
    rintro (z | z | z | z | z | z)
    · exact n1 z
    · exact n2 z
    · exact n3 z
    · exact n4 z
    · exact n5 z
    · exact n6 z
  · exact h.elim
/-- the reading of one event: T the text, len its length, p the place behind its sign x -/
def w_isForm (m : Nat) : pw_Wp := fun Ag I K => match Ag with
  | [.ref o, .int x] => o = m ∧ ∃ T len p, I (m + 7) = T ∧ I m 7 = nI len ∧ len ≤ 60 ∧ I m 9 = nI (p + 1) ∧ p < len ∧ T p = x ∧ isSgn x ∧
    (parT T len p = none → ∀ J, fldOK m I J → K (some (.int 0)) J) ∧ (∀ a b q, parT T len p = some (a, b, q) → ∀ J, fldOK m I J → J m 9 = nI q → J m 10 = nI a → J m 11 = nI b → K (some (.int 1)) J)
  | _ => False
set_option maxRecDepth 100000 in
set_option maxHeartbeats 4000000 in
theorem x_isForm (hM : pw_mod sh P m) (h : w_isForm m Ag I K) : pw_ok mX7_isForm 2 base n sh P Ag I K := by
  unfold w_isForm at h
  split at h
  · rename_i o x
    obtain ⟨rfl, T, len, p, hT, h7, hl, h9, hp, hx, hsg, hF, hS⟩ := h
    obtain ⟨h1, -, -, -, -, -, -, h4, h5⟩ := id hM
    refine pw_bd [_, _, _] pl_X7 c_ri rfl rfl ?_
    have fT : ∀ {J : pw_I}, fldOK o I J → J (o + 7) = T := fun hJ => (hJ.1 _ (by omega)).trans hT
    have f7 : ∀ {J : pw_I}, fldOK o I J → J o 7 = nI len := fun hJ => (hJ.2 7 (by omega) (by omega) (by omega)).trans h7
    have fA : ∀ {J : pw_I} {q : Nat}, fldOK o I J → J o 9 = nI q → q ≤ len → AtOK o J := fun {J} {q} hJ e hq => by
      unfold AtOK vN
      rw [f7 hJ, e, cl_nI (by omega), cl_nI (by omega)]
      exact ⟨⟨rfl, hl⟩, rfl, hq⟩
    have g7 : ∀ {J : pw_I}, fldOK o I J → vN (J o) 7 = len := fun hJ => by unfold vN; rw [f7 hJ, cl_nI (by omega)]
    have gI : ∀ {J : pw_I} {k q : Nat}, J o k = nI q → q < 2147483648 → vN (J o) k = q := fun e hq => by unfold vN; rw [e, cl_nI hq]
    have p3 : ∀ (J : pw_I) (q : Nat), fldOK o I J → J o 9 = nI q → q ≤ len → (semiT T len q 59 = false → ∀ J', fldOK o I J' → K (some (.int 0)) J') → (semiT T len q 59 = true → ∀ J', fldOK o I J' → J' o 9 = nI (q + 1) → J' o 10 = J o 10 → J' o 11 = J o 11 → K (some (.int 1)) J') →
        PW (mX7_isForm, 2, 0, 0, none, base) n sh P J 0 0 109 [some (.ref o), some (.int x), some (.int 1)] [] (pw_QK n sh P K) := by
      intro J q hJ e9 hq hN hY
      have hAt := fA hJ e9 hq
      refine pw_go okX7_isForm (cc [(146, (w_sees o))]) ⟨Nat.le_refl _, Nat.le_refl _⟩ (cc_c (fun Ag I K h => ⟨0, Nat.le_of_ble_eq_true rfl, x_sees hM h⟩) cc_n) (st0) 60 ?_
      simp only [↓f_vc_s, ↓vk_i, ↓cc_i, ↓reduceIte, f_vq_s, Bool.false_eq_true, ↓f_e_iconst, ↓f_e_bipush, ↓f_e_sipush, ↓f_e_ldc, ↓f_e_ldc_w, ↓f_e_iload_n, ↓f_e_iload, ↓f_e_aload_n, ↓f_e_aload, ↓f_e_istore_n, ↓f_e_istore, ↓f_e_astore_n, ↓f_e_astore, ↓f_e_iinc, ↓f_e_iadd, ↓f_e_isub, ↓f_e_imul, ↓f_e_iand, ↓f_e_ior, ↓f_e_ixor, ↓f_e_idiv, ↓f_e_irem, ↓f_e_ishl, ↓f_e_ishr, ↓f_e_iushr, ↓f_e_i2c, ↓f_e_dup, ↓f_e_dup2, ↓f_e_pop, ↓f_e_goto, ↓f_e_ifCond, ↓f_e_if_icmp, ↓f_e_tableswitch, ↓f_e_lookupswitch, ↓f_e_getfield_i, ↓f_e_getfield_r, ↓f_e_putfield_i, ↓f_e_putfield_z, ↓f_e_iaload, ↓f_e_caload, ↓f_e_aaload, ↓f_e_iastore, ↓f_e_castore, ↓f_e_arraylength, ↓f_e_invokestatic, ↓f_e_invokevirtual, ↓f_e_ireturn, ↓f_e_return_, ↓f_s_i_c, ↓f_s_r_c, ↓f_s_v_i, ↓f_s_v_r, ↓f_s_l_0, ↓s_l_1, ↓s_l_2, ↓s_l_3, ↓s_l_4, ↓s_l_5, ↓s_l_6, ↓s_a_0, ↓s_a_1, ↓s_a_2, ↓s_a_3, ↓s_m_0, ↓f_s_m_i, ↓f_s_m_r, ↓f_s_m_i7, ↓f_s_m_r7, ↓f_s_m_i6, ↓f_s_m_r6, ↓f_s_m_i5, ↓f_s_m_r5, ↓f_s_m_i4, ↓f_s_m_r4, ↓f_s_w_n, ↓f_s_w_c, ↓f_s_p_eq, ↓f_s_p_ne, ↓f_s_p_lt, ↓f_s_p_ge, ↓f_s_p_gt, ↓f_s_p_le, ↓nk_i, ↓nk_z, ↓nk_c, ↓rf_s, ↓ov_s, ↓ov_n, ↓fin0, ↓fin1, ↓fin2, ↓fin3, cond_true, cond_false, List.set_cons_zero, List.set_cons_succ, List.length_cons, List.length_nil, true_and, and_true, true_or, or_true, implies_true, forall_const, not_true_eq_false, not_false_eq_true, false_implies, Nat.reduceAdd, Nat.reduceLT, Nat.reduceBEq, Nat.reduceEqDiff, Bool.or_false, Bool.false_or, Bool.or_true, Bool.true_or, beq_self_eq_true, Nat.reduceLeDiff, Nat.reduceMul, Nat.reduceSub, eq_self, Nat.reduceBneDiff, st0_s, st1_s, st2_s, st3_s, reduceCtorEq, cc_0, tl_0, cl_0, il_0, tl_1, cl_1, il_1, tl_2, cl_2, il_2, tl_3, cl_3, il_3, tl_4, cl_4, il_4, tl_5, cl_5, il_5, tl_6, cl_6, il_6, tl_7, cl_7, il_7, tl_8, cl_8, il_8, tl_9, cl_9, il_9, tl_10, cl_10, il_10, tl_11, cl_11, il_11, tl_12, cl_12, il_12, tl_13, cl_13, il_13, tl_14, cl_14, il_14, tl_15, cl_15, il_15, tl_16, cl_16, il_16, tl_20, tl_21, tl_25, tl_32, tl_48, tl_50, tl_57, tl_58, tl_59, tl_60, tl_99, tl_100, tl_101, tl_108, tl_109, tl_116, tl_120, tl_126, tl_374, tl_1122, tl_50000, i10, i01, tl_m1, tl_m2, tl_m3, tl_m4, nr_X7_isForm, tX7_isForm_0, tX7_isForm_1, tX7_isForm_2, tX7_isForm_5, tX7_isForm_6, tX7_isForm_7, tX7_isForm_10, tX7_isForm_11, tX7_isForm_12, tX7_isForm_13, tX7_isForm_15, tX7_isForm_18, tX7_isForm_19, tX7_isForm_21, tX7_isForm_24, tX7_isForm_25, tX7_isForm_27, tX7_isForm_30, tX7_isForm_31, tX7_isForm_33, tX7_isForm_36, tX7_isForm_37, tX7_isForm_38, tX7_isForm_41, tX7_isForm_44, tX7_isForm_45, tX7_isForm_48, tX7_isForm_51, tX7_isForm_52, tX7_isForm_55, tX7_isForm_56, tX7_isForm_57, tX7_isForm_58, tX7_isForm_61, tX7_isForm_62, tX7_isForm_64, tX7_isForm_67, tX7_isForm_68, tX7_isForm_70, tX7_isForm_73, tX7_isForm_74, tX7_isForm_76, tX7_isForm_79, tX7_isForm_80, tX7_isForm_81, tX7_isForm_82, tX7_isForm_85, tX7_isForm_86, tX7_isForm_89, tX7_isForm_92, tX7_isForm_93, tX7_isForm_96, tX7_isForm_97, tX7_isForm_100, tX7_isForm_103, tX7_isForm_104, tX7_isForm_107, tX7_isForm_108, tX7_isForm_109, tX7_isForm_110, tX7_isForm_113, tX7_isForm_114, tX7_isForm_116, tX7_isForm_119, tX7_isForm_122, tX7_isForm_123, tX7_isForm_126, tX7_isForm_127, pw_QK_s, h1, ↓w_sees]
      rw [g7 hJ, gI e9 (by omega), fT hJ]
      refine ⟨hAt, fun z => ?_, fun z => hN z J hJ⟩
      refine hY z _ (hJ.up (Or.inl rfl)) ?_ ?_ ?_
      · rw [set_s, upd_s]
      · rw [set_s, upd_n (by omega)]
      · rw [set_s, upd_n (by omega)]
    have p0 : ∀ (J : pw_I), fldOK o I J → (∀ J', fldOK o I J' → K (some (.int 0)) J') →
        PW (mX7_isForm, 2, 0, 0, none, base) n sh P J 0 0 109 [some (.ref o), some (.int x), some (.int 0)] [] (pw_QK n sh P K) := by
      intro J hJ hN
      refine pw_go okX7_isForm (cc []) ⟨Nat.le_refl _, Nat.le_refl _⟩ cc_n (st0) 60 ?_
      simp only [↓f_vc_s, ↓vk_i, ↓cc_i, ↓reduceIte, f_vq_s, Bool.false_eq_true, ↓f_e_iconst, ↓f_e_bipush, ↓f_e_sipush, ↓f_e_ldc, ↓f_e_ldc_w, ↓f_e_iload_n, ↓f_e_iload, ↓f_e_aload_n, ↓f_e_aload, ↓f_e_istore_n, ↓f_e_istore, ↓f_e_astore_n, ↓f_e_astore, ↓f_e_iinc, ↓f_e_iadd, ↓f_e_isub, ↓f_e_imul, ↓f_e_iand, ↓f_e_ior, ↓f_e_ixor, ↓f_e_idiv, ↓f_e_irem, ↓f_e_ishl, ↓f_e_ishr, ↓f_e_iushr, ↓f_e_i2c, ↓f_e_dup, ↓f_e_dup2, ↓f_e_pop, ↓f_e_goto, ↓f_e_ifCond, ↓f_e_if_icmp, ↓f_e_tableswitch, ↓f_e_lookupswitch, ↓f_e_getfield_i, ↓f_e_getfield_r, ↓f_e_putfield_i, ↓f_e_putfield_z, ↓f_e_iaload, ↓f_e_caload, ↓f_e_aaload, ↓f_e_iastore, ↓f_e_castore, ↓f_e_arraylength, ↓f_e_invokestatic, ↓f_e_invokevirtual, ↓f_e_ireturn, ↓f_e_return_, ↓f_s_i_c, ↓f_s_r_c, ↓f_s_v_i, ↓f_s_v_r, ↓f_s_l_0, ↓s_l_1, ↓s_l_2, ↓s_l_3, ↓s_l_4, ↓s_l_5, ↓s_l_6, ↓s_a_0, ↓s_a_1, ↓s_a_2, ↓s_a_3, ↓s_m_0, ↓f_s_m_i, ↓f_s_m_r, ↓f_s_m_i7, ↓f_s_m_r7, ↓f_s_m_i6, ↓f_s_m_r6, ↓f_s_m_i5, ↓f_s_m_r5, ↓f_s_m_i4, ↓f_s_m_r4, ↓f_s_w_n, ↓f_s_w_c, ↓f_s_p_eq, ↓f_s_p_ne, ↓f_s_p_lt, ↓f_s_p_ge, ↓f_s_p_gt, ↓f_s_p_le, ↓nk_i, ↓nk_z, ↓nk_c, ↓rf_s, ↓ov_s, ↓ov_n, ↓fin0, ↓fin1, ↓fin2, ↓fin3, cond_true, cond_false, List.set_cons_zero, List.set_cons_succ, List.length_cons, List.length_nil, true_and, and_true, true_or, or_true, implies_true, forall_const, not_true_eq_false, not_false_eq_true, false_implies, Nat.reduceAdd, Nat.reduceLT, Nat.reduceBEq, Nat.reduceEqDiff, Bool.or_false, Bool.false_or, Bool.or_true, Bool.true_or, beq_self_eq_true, Nat.reduceLeDiff, Nat.reduceMul, Nat.reduceSub, eq_self, Nat.reduceBneDiff, st0_s, st1_s, st2_s, st3_s, reduceCtorEq, cc_0, tl_0, cl_0, il_0, tl_1, cl_1, il_1, tl_2, cl_2, il_2, tl_3, cl_3, il_3, tl_4, cl_4, il_4, tl_5, cl_5, il_5, tl_6, cl_6, il_6, tl_7, cl_7, il_7, tl_8, cl_8, il_8, tl_9, cl_9, il_9, tl_10, cl_10, il_10, tl_11, cl_11, il_11, tl_12, cl_12, il_12, tl_13, cl_13, il_13, tl_14, cl_14, il_14, tl_15, cl_15, il_15, tl_16, cl_16, il_16, tl_20, tl_21, tl_25, tl_32, tl_48, tl_50, tl_57, tl_58, tl_59, tl_60, tl_99, tl_100, tl_101, tl_108, tl_109, tl_116, tl_120, tl_126, tl_374, tl_1122, tl_50000, i10, i01, tl_m1, tl_m2, tl_m3, tl_m4, nr_X7_isForm, tX7_isForm_0, tX7_isForm_1, tX7_isForm_2, tX7_isForm_5, tX7_isForm_6, tX7_isForm_7, tX7_isForm_10, tX7_isForm_11, tX7_isForm_12, tX7_isForm_13, tX7_isForm_15, tX7_isForm_18, tX7_isForm_19, tX7_isForm_21, tX7_isForm_24, tX7_isForm_25, tX7_isForm_27, tX7_isForm_30, tX7_isForm_31, tX7_isForm_33, tX7_isForm_36, tX7_isForm_37, tX7_isForm_38, tX7_isForm_41, tX7_isForm_44, tX7_isForm_45, tX7_isForm_48, tX7_isForm_51, tX7_isForm_52, tX7_isForm_55, tX7_isForm_56, tX7_isForm_57, tX7_isForm_58, tX7_isForm_61, tX7_isForm_62, tX7_isForm_64, tX7_isForm_67, tX7_isForm_68, tX7_isForm_70, tX7_isForm_73, tX7_isForm_74, tX7_isForm_76, tX7_isForm_79, tX7_isForm_80, tX7_isForm_81, tX7_isForm_82, tX7_isForm_85, tX7_isForm_86, tX7_isForm_89, tX7_isForm_92, tX7_isForm_93, tX7_isForm_96, tX7_isForm_97, tX7_isForm_100, tX7_isForm_103, tX7_isForm_104, tX7_isForm_107, tX7_isForm_108, tX7_isForm_109, tX7_isForm_110, tX7_isForm_113, tX7_isForm_114, tX7_isForm_116, tX7_isForm_119, tX7_isForm_122, tX7_isForm_123, tX7_isForm_126, tX7_isForm_127, pw_QK_s, h1]
      exact hN J hJ
    have p2 : (x = 108 ∨ x = 109) → ∀ (J : pw_I) (q a : Nat), fldOK o I J → J o 9 = nI q → q ≤ len → J o 10 = nI a → (semiT T len q 44 = false → ∀ J', fldOK o I J' → K (some (.int 0)) J') →
        (semiT T len q 44 = true → numT T len (q + 1) = none → ∀ J', fldOK o I J' → K (some (.int 0)) J') →
        (semiT T len q 44 = true → ∀ w r, numT T len (q + 1) = some (w, r) → (semiT T len r 59 = false → ∀ J', fldOK o I J' → K (some (.int 0)) J') ∧ (semiT T len r 59 = true → ∀ J', fldOK o I J' → J' o 9 = nI (r + 1) → J' o 10 = nI a → J' o 11 = nI w → K (some (.int 1)) J')) →
        PW (mX7_isForm, 2, 0, 0, none, base) n sh P J 0 0 57 [some (.ref o), some (.int x), some (.int 1)] [] (pw_QK n sh P K) := by
      intro hx2 J q a hJ e9 hq e10 hN1 hN2 hY
      have hAt := fA hJ e9 hq
      rcases hx2 with rfl | rfl
      all_goals
        refine pw_go okX7_isForm (cc [(146, (w_sees o)), (147, (w_number o))]) ⟨Nat.le_refl _, Nat.le_refl _⟩ (cc_c (fun Ag I K h => ⟨0, Nat.le_of_ble_eq_true rfl, x_sees hM h⟩) (cc_c (fun Ag I K h => ⟨1, Nat.le_of_ble_eq_true rfl, x_number hM h⟩) cc_n)) (st1 109) 60 ?_
        simp only [↓f_vc_s, ↓vk_i, ↓cc_i, ↓reduceIte, f_vq_s, Bool.false_eq_true, ↓f_e_iconst, ↓f_e_bipush, ↓f_e_sipush, ↓f_e_ldc, ↓f_e_ldc_w, ↓f_e_iload_n, ↓f_e_iload, ↓f_e_aload_n, ↓f_e_aload, ↓f_e_istore_n, ↓f_e_istore, ↓f_e_astore_n, ↓f_e_astore, ↓f_e_iinc, ↓f_e_iadd, ↓f_e_isub, ↓f_e_imul, ↓f_e_iand, ↓f_e_ior, ↓f_e_ixor, ↓f_e_idiv, ↓f_e_irem, ↓f_e_ishl, ↓f_e_ishr, ↓f_e_iushr, ↓f_e_i2c, ↓f_e_dup, ↓f_e_dup2, ↓f_e_pop, ↓f_e_goto, ↓f_e_ifCond, ↓f_e_if_icmp, ↓f_e_tableswitch, ↓f_e_lookupswitch, ↓f_e_getfield_i, ↓f_e_getfield_r, ↓f_e_putfield_i, ↓f_e_putfield_z, ↓f_e_iaload, ↓f_e_caload, ↓f_e_aaload, ↓f_e_iastore, ↓f_e_castore, ↓f_e_arraylength, ↓f_e_invokestatic, ↓f_e_invokevirtual, ↓f_e_ireturn, ↓f_e_return_, ↓f_s_i_c, ↓f_s_r_c, ↓f_s_v_i, ↓f_s_v_r, ↓f_s_l_0, ↓s_l_1, ↓s_l_2, ↓s_l_3, ↓s_l_4, ↓s_l_5, ↓s_l_6, ↓s_a_0, ↓s_a_1, ↓s_a_2, ↓s_a_3, ↓s_m_0, ↓f_s_m_i, ↓f_s_m_r, ↓f_s_m_i7, ↓f_s_m_r7, ↓f_s_m_i6, ↓f_s_m_r6, ↓f_s_m_i5, ↓f_s_m_r5, ↓f_s_m_i4, ↓f_s_m_r4, ↓f_s_w_n, ↓f_s_w_c, ↓f_s_p_eq, ↓f_s_p_ne, ↓f_s_p_lt, ↓f_s_p_ge, ↓f_s_p_gt, ↓f_s_p_le, ↓nk_i, ↓nk_z, ↓nk_c, ↓rf_s, ↓ov_s, ↓ov_n, ↓fin0, ↓fin1, ↓fin2, ↓fin3, cond_true, cond_false, List.set_cons_zero, List.set_cons_succ, List.length_cons, List.length_nil, true_and, and_true, true_or, or_true, implies_true, forall_const, not_true_eq_false, not_false_eq_true, false_implies, Nat.reduceAdd, Nat.reduceLT, Nat.reduceBEq, Nat.reduceEqDiff, Bool.or_false, Bool.false_or, Bool.or_true, Bool.true_or, beq_self_eq_true, Nat.reduceLeDiff, Nat.reduceMul, Nat.reduceSub, eq_self, Nat.reduceBneDiff, st0_s, st1_s, st2_s, st3_s, reduceCtorEq, cc_0, tl_0, cl_0, il_0, tl_1, cl_1, il_1, tl_2, cl_2, il_2, tl_3, cl_3, il_3, tl_4, cl_4, il_4, tl_5, cl_5, il_5, tl_6, cl_6, il_6, tl_7, cl_7, il_7, tl_8, cl_8, il_8, tl_9, cl_9, il_9, tl_10, cl_10, il_10, tl_11, cl_11, il_11, tl_12, cl_12, il_12, tl_13, cl_13, il_13, tl_14, cl_14, il_14, tl_15, cl_15, il_15, tl_16, cl_16, il_16, tl_20, tl_21, tl_25, tl_32, tl_48, tl_50, tl_57, tl_58, tl_59, tl_60, tl_99, tl_100, tl_101, tl_108, tl_109, tl_116, tl_120, tl_126, tl_374, tl_1122, tl_50000, i10, i01, tl_m1, tl_m2, tl_m3, tl_m4, nr_X7_isForm, tX7_isForm_0, tX7_isForm_1, tX7_isForm_2, tX7_isForm_5, tX7_isForm_6, tX7_isForm_7, tX7_isForm_10, tX7_isForm_11, tX7_isForm_12, tX7_isForm_13, tX7_isForm_15, tX7_isForm_18, tX7_isForm_19, tX7_isForm_21, tX7_isForm_24, tX7_isForm_25, tX7_isForm_27, tX7_isForm_30, tX7_isForm_31, tX7_isForm_33, tX7_isForm_36, tX7_isForm_37, tX7_isForm_38, tX7_isForm_41, tX7_isForm_44, tX7_isForm_45, tX7_isForm_48, tX7_isForm_51, tX7_isForm_52, tX7_isForm_55, tX7_isForm_56, tX7_isForm_57, tX7_isForm_58, tX7_isForm_61, tX7_isForm_62, tX7_isForm_64, tX7_isForm_67, tX7_isForm_68, tX7_isForm_70, tX7_isForm_73, tX7_isForm_74, tX7_isForm_76, tX7_isForm_79, tX7_isForm_80, tX7_isForm_81, tX7_isForm_82, tX7_isForm_85, tX7_isForm_86, tX7_isForm_89, tX7_isForm_92, tX7_isForm_93, tX7_isForm_96, tX7_isForm_97, tX7_isForm_100, tX7_isForm_103, tX7_isForm_104, tX7_isForm_107, tX7_isForm_108, tX7_isForm_109, tX7_isForm_110, tX7_isForm_113, tX7_isForm_114, tX7_isForm_116, tX7_isForm_119, tX7_isForm_122, tX7_isForm_123, tX7_isForm_126, tX7_isForm_127, pw_QK_s, h1, ↓w_sees, ↓w_number, sg_100_101, sg_100_108, sg_100_109, sg_100_116, sg_100_120, sg_101_100, sg_101_108, sg_101_109, sg_101_116, sg_101_120, sg_108_100, sg_108_101, sg_108_109, sg_108_116, sg_108_120, sg_109_100, sg_109_101, sg_109_108, sg_109_116, sg_109_120, sg_116_100, sg_116_101, sg_116_108, sg_116_109, sg_116_120, sg_120_100, sg_120_101, sg_120_108, sg_120_109, sg_120_116]
        rw [g7 hJ, gI e9 (by omega), fT hJ]
        have hJ1 := hJ.up (k := 9) (v := nI (q + 1)) (Or.inl rfl)
        have e91 : pw_set J o (upd (J o) 9 (nI (q + 1))) o 9 = nI (q + 1) := by rw [set_s, upd_s]
        have e101 : pw_set J o (upd (J o) 9 (nI (q + 1))) o 10 = nI a := by rw [set_s, upd_n (by omega), e10]
        generalize pw_set J o (upd (J o) 9 (nI (q + 1))) = J1 at hJ1 e91 e101 ⊢
        rw [g7 hJ1, gI e91 (by omega), fT hJ1]
        simp only [up_r]
        refine ⟨hAt, fun z => ⟨fA hJ1 e91 (by have := semi_lt z; omega), fun zn => ⟨fun _ => p0 _ (hJ1.upu (Or.inr (Or.inr rfl))) (hN2 z zn), fun z2 => absurd (by decide) z2⟩, fun w r zs => ⟨fun z2 => absurd z2 (nI_pos (by have := num_bd zs; omega)), fun _ => ?_⟩⟩, fun z => ⟨fun _ => p0 _ (hJ.upu (Or.inr (Or.inr rfl))) (hN1 z), fun z2 => absurd (by decide) z2⟩⟩
        have hJ2 := hJ1.up (k := 9) (v := nI r) (Or.inl rfl)
        obtain ⟨y1, y2⟩ := hY z w r zs
        refine p3 _ r (hJ2.upu (Or.inr (Or.inr rfl))) ?_ (num_bd zs).2.2.2 y1 (fun z3 J' a1 a2 a3 a4 => y2 z3 J' a1 a2 ?_ ?_)
        · rw [up_n (by omega), set_s, upd_s]
        · rw [a3, up_n (by omega), set_s, upd_n (by omega), e101]
        · rw [a4, up_r]
    have pN : (x = 101 ∨ x = 116 ∨ x = 108 ∨ x = 109) → (numT T len (p + 1) = none → ∀ J', fldOK o I J' → K (some (.int 0)) J') → (∀ a q, numT T len (p + 1) = some (a, q) → ∀ J, fldOK o I J → J o 9 = nI q → J o 10 = nI a → J o 11 = nI 0 →
        PW (mX7_isForm, 2, 0, 0, none, base) n sh P J 0 0 57 [some (.ref o), some (.int x), some (.int 1)] [] (pw_QK n sh P K)) → PW (mX7_isForm, 2, 0, 0, none, base) n sh P I 0 0 0 [some (.ref o), some (.int x), none] [] (pw_QK n sh P K) := by
      intro hx2 hN hY
      have q0 : ∀ J, fldOK o I J → (∀ J', fldOK o I J' → K (some (.int 0)) J') → PW (mX7_isForm, 2, 0, 0, none, base) n sh P J 0 0 57 [some (.ref o), some (.int x), some (.int 0)] [] (pw_QK n sh P K) := by
        intro J hJ hN
        refine pw_go okX7_isForm (cc []) ⟨Nat.le_refl _, Nat.le_refl _⟩ cc_n (st0) 60 ?_
        simp only [↓f_vc_s, ↓vk_i, ↓cc_i, ↓reduceIte, f_vq_s, Bool.false_eq_true, ↓f_e_iconst, ↓f_e_bipush, ↓f_e_sipush, ↓f_e_ldc, ↓f_e_ldc_w, ↓f_e_iload_n, ↓f_e_iload, ↓f_e_aload_n, ↓f_e_aload, ↓f_e_istore_n, ↓f_e_istore, ↓f_e_astore_n, ↓f_e_astore, ↓f_e_iinc, ↓f_e_iadd, ↓f_e_isub, ↓f_e_imul, ↓f_e_iand, ↓f_e_ior, ↓f_e_ixor, ↓f_e_idiv, ↓f_e_irem, ↓f_e_ishl, ↓f_e_ishr, ↓f_e_iushr, ↓f_e_i2c, ↓f_e_dup, ↓f_e_dup2, ↓f_e_pop, ↓f_e_goto, ↓f_e_ifCond, ↓f_e_if_icmp, ↓f_e_tableswitch, ↓f_e_lookupswitch, ↓f_e_getfield_i, ↓f_e_getfield_r, ↓f_e_putfield_i, ↓f_e_putfield_z, ↓f_e_iaload, ↓f_e_caload, ↓f_e_aaload, ↓f_e_iastore, ↓f_e_castore, ↓f_e_arraylength, ↓f_e_invokestatic, ↓f_e_invokevirtual, ↓f_e_ireturn, ↓f_e_return_, ↓f_s_i_c, ↓f_s_r_c, ↓f_s_v_i, ↓f_s_v_r, ↓f_s_l_0, ↓s_l_1, ↓s_l_2, ↓s_l_3, ↓s_l_4, ↓s_l_5, ↓s_l_6, ↓s_a_0, ↓s_a_1, ↓s_a_2, ↓s_a_3, ↓s_m_0, ↓f_s_m_i, ↓f_s_m_r, ↓f_s_m_i7, ↓f_s_m_r7, ↓f_s_m_i6, ↓f_s_m_r6, ↓f_s_m_i5, ↓f_s_m_r5, ↓f_s_m_i4, ↓f_s_m_r4, ↓f_s_w_n, ↓f_s_w_c, ↓f_s_p_eq, ↓f_s_p_ne, ↓f_s_p_lt, ↓f_s_p_ge, ↓f_s_p_gt, ↓f_s_p_le, ↓nk_i, ↓nk_z, ↓nk_c, ↓rf_s, ↓ov_s, ↓ov_n, ↓fin0, ↓fin1, ↓fin2, ↓fin3, cond_true, cond_false, List.set_cons_zero, List.set_cons_succ, List.length_cons, List.length_nil, true_and, and_true, true_or, or_true, implies_true, forall_const, not_true_eq_false, not_false_eq_true, false_implies, Nat.reduceAdd, Nat.reduceLT, Nat.reduceBEq, Nat.reduceEqDiff, Bool.or_false, Bool.false_or, Bool.or_true, Bool.true_or, beq_self_eq_true, Nat.reduceLeDiff, Nat.reduceMul, Nat.reduceSub, eq_self, Nat.reduceBneDiff, st0_s, st1_s, st2_s, st3_s, reduceCtorEq, cc_0, tl_0, cl_0, il_0, tl_1, cl_1, il_1, tl_2, cl_2, il_2, tl_3, cl_3, il_3, tl_4, cl_4, il_4, tl_5, cl_5, il_5, tl_6, cl_6, il_6, tl_7, cl_7, il_7, tl_8, cl_8, il_8, tl_9, cl_9, il_9, tl_10, cl_10, il_10, tl_11, cl_11, il_11, tl_12, cl_12, il_12, tl_13, cl_13, il_13, tl_14, cl_14, il_14, tl_15, cl_15, il_15, tl_16, cl_16, il_16, tl_20, tl_21, tl_25, tl_32, tl_48, tl_50, tl_57, tl_58, tl_59, tl_60, tl_99, tl_100, tl_101, tl_108, tl_109, tl_116, tl_120, tl_126, tl_374, tl_1122, tl_50000, i10, i01, tl_m1, tl_m2, tl_m3, tl_m4, nr_X7_isForm, tX7_isForm_0, tX7_isForm_1, tX7_isForm_2, tX7_isForm_5, tX7_isForm_6, tX7_isForm_7, tX7_isForm_10, tX7_isForm_11, tX7_isForm_12, tX7_isForm_13, tX7_isForm_15, tX7_isForm_18, tX7_isForm_19, tX7_isForm_21, tX7_isForm_24, tX7_isForm_25, tX7_isForm_27, tX7_isForm_30, tX7_isForm_31, tX7_isForm_33, tX7_isForm_36, tX7_isForm_37, tX7_isForm_38, tX7_isForm_41, tX7_isForm_44, tX7_isForm_45, tX7_isForm_48, tX7_isForm_51, tX7_isForm_52, tX7_isForm_55, tX7_isForm_56, tX7_isForm_57, tX7_isForm_58, tX7_isForm_61, tX7_isForm_62, tX7_isForm_64, tX7_isForm_67, tX7_isForm_68, tX7_isForm_70, tX7_isForm_73, tX7_isForm_74, tX7_isForm_76, tX7_isForm_79, tX7_isForm_80, tX7_isForm_81, tX7_isForm_82, tX7_isForm_85, tX7_isForm_86, tX7_isForm_89, tX7_isForm_92, tX7_isForm_93, tX7_isForm_96, tX7_isForm_97, tX7_isForm_100, tX7_isForm_103, tX7_isForm_104, tX7_isForm_107, tX7_isForm_108, tX7_isForm_109, tX7_isForm_110, tX7_isForm_113, tX7_isForm_114, tX7_isForm_116, tX7_isForm_119, tX7_isForm_122, tX7_isForm_123, tX7_isForm_126, tX7_isForm_127, pw_QK_s, h1]
        exact hN J hJ
      rcases hx2 with rfl | rfl | rfl | rfl
      all_goals
        refine pw_go okX7_isForm (cc [(147, (w_number o))]) ⟨Nat.le_refl _, Nat.le_refl _⟩ (cc_c (fun Ag I K h => ⟨1, Nat.le_of_ble_eq_true rfl, x_number hM h⟩) cc_n) (st1 57) 60 ?_
        simp only [↓f_vc_s, ↓vk_i, ↓cc_i, ↓reduceIte, f_vq_s, Bool.false_eq_true, ↓f_e_iconst, ↓f_e_bipush, ↓f_e_sipush, ↓f_e_ldc, ↓f_e_ldc_w, ↓f_e_iload_n, ↓f_e_iload, ↓f_e_aload_n, ↓f_e_aload, ↓f_e_istore_n, ↓f_e_istore, ↓f_e_astore_n, ↓f_e_astore, ↓f_e_iinc, ↓f_e_iadd, ↓f_e_isub, ↓f_e_imul, ↓f_e_iand, ↓f_e_ior, ↓f_e_ixor, ↓f_e_idiv, ↓f_e_irem, ↓f_e_ishl, ↓f_e_ishr, ↓f_e_iushr, ↓f_e_i2c, ↓f_e_dup, ↓f_e_dup2, ↓f_e_pop, ↓f_e_goto, ↓f_e_ifCond, ↓f_e_if_icmp, ↓f_e_tableswitch, ↓f_e_lookupswitch, ↓f_e_getfield_i, ↓f_e_getfield_r, ↓f_e_putfield_i, ↓f_e_putfield_z, ↓f_e_iaload, ↓f_e_caload, ↓f_e_aaload, ↓f_e_iastore, ↓f_e_castore, ↓f_e_arraylength, ↓f_e_invokestatic, ↓f_e_invokevirtual, ↓f_e_ireturn, ↓f_e_return_, ↓f_s_i_c, ↓f_s_r_c, ↓f_s_v_i, ↓f_s_v_r, ↓f_s_l_0, ↓s_l_1, ↓s_l_2, ↓s_l_3, ↓s_l_4, ↓s_l_5, ↓s_l_6, ↓s_a_0, ↓s_a_1, ↓s_a_2, ↓s_a_3, ↓s_m_0, ↓f_s_m_i, ↓f_s_m_r, ↓f_s_m_i7, ↓f_s_m_r7, ↓f_s_m_i6, ↓f_s_m_r6, ↓f_s_m_i5, ↓f_s_m_r5, ↓f_s_m_i4, ↓f_s_m_r4, ↓f_s_w_n, ↓f_s_w_c, ↓f_s_p_eq, ↓f_s_p_ne, ↓f_s_p_lt, ↓f_s_p_ge, ↓f_s_p_gt, ↓f_s_p_le, ↓nk_i, ↓nk_z, ↓nk_c, ↓rf_s, ↓ov_s, ↓ov_n, ↓fin0, ↓fin1, ↓fin2, ↓fin3, cond_true, cond_false, List.set_cons_zero, List.set_cons_succ, List.length_cons, List.length_nil, true_and, and_true, true_or, or_true, implies_true, forall_const, not_true_eq_false, not_false_eq_true, false_implies, Nat.reduceAdd, Nat.reduceLT, Nat.reduceBEq, Nat.reduceEqDiff, Bool.or_false, Bool.false_or, Bool.or_true, Bool.true_or, beq_self_eq_true, Nat.reduceLeDiff, Nat.reduceMul, Nat.reduceSub, eq_self, Nat.reduceBneDiff, st0_s, st1_s, st2_s, st3_s, reduceCtorEq, cc_0, tl_0, cl_0, il_0, tl_1, cl_1, il_1, tl_2, cl_2, il_2, tl_3, cl_3, il_3, tl_4, cl_4, il_4, tl_5, cl_5, il_5, tl_6, cl_6, il_6, tl_7, cl_7, il_7, tl_8, cl_8, il_8, tl_9, cl_9, il_9, tl_10, cl_10, il_10, tl_11, cl_11, il_11, tl_12, cl_12, il_12, tl_13, cl_13, il_13, tl_14, cl_14, il_14, tl_15, cl_15, il_15, tl_16, cl_16, il_16, tl_20, tl_21, tl_25, tl_32, tl_48, tl_50, tl_57, tl_58, tl_59, tl_60, tl_99, tl_100, tl_101, tl_108, tl_109, tl_116, tl_120, tl_126, tl_374, tl_1122, tl_50000, i10, i01, tl_m1, tl_m2, tl_m3, tl_m4, nr_X7_isForm, tX7_isForm_0, tX7_isForm_1, tX7_isForm_2, tX7_isForm_5, tX7_isForm_6, tX7_isForm_7, tX7_isForm_10, tX7_isForm_11, tX7_isForm_12, tX7_isForm_13, tX7_isForm_15, tX7_isForm_18, tX7_isForm_19, tX7_isForm_21, tX7_isForm_24, tX7_isForm_25, tX7_isForm_27, tX7_isForm_30, tX7_isForm_31, tX7_isForm_33, tX7_isForm_36, tX7_isForm_37, tX7_isForm_38, tX7_isForm_41, tX7_isForm_44, tX7_isForm_45, tX7_isForm_48, tX7_isForm_51, tX7_isForm_52, tX7_isForm_55, tX7_isForm_56, tX7_isForm_57, tX7_isForm_58, tX7_isForm_61, tX7_isForm_62, tX7_isForm_64, tX7_isForm_67, tX7_isForm_68, tX7_isForm_70, tX7_isForm_73, tX7_isForm_74, tX7_isForm_76, tX7_isForm_79, tX7_isForm_80, tX7_isForm_81, tX7_isForm_82, tX7_isForm_85, tX7_isForm_86, tX7_isForm_89, tX7_isForm_92, tX7_isForm_93, tX7_isForm_96, tX7_isForm_97, tX7_isForm_100, tX7_isForm_103, tX7_isForm_104, tX7_isForm_107, tX7_isForm_108, tX7_isForm_109, tX7_isForm_110, tX7_isForm_113, tX7_isForm_114, tX7_isForm_116, tX7_isForm_119, tX7_isForm_122, tX7_isForm_123, tX7_isForm_126, tX7_isForm_127, pw_QK_s, h1, ↓w_number, sg_100_101, sg_100_108, sg_100_109, sg_100_116, sg_100_120, sg_101_100, sg_101_108, sg_101_109, sg_101_116, sg_101_120, sg_108_100, sg_108_101, sg_108_109, sg_108_116, sg_108_120, sg_109_100, sg_109_101, sg_109_108, sg_109_116, sg_109_120, sg_116_100, sg_116_101, sg_116_108, sg_116_109, sg_116_120, sg_120_100, sg_120_101, sg_120_108, sg_120_109, sg_120_116]
        have hJ1 : fldOK o I (pw_up (pw_up I o 10 0) o 11 0) := (fldOK.rf.upu (Or.inr (Or.inl rfl))).upu (Or.inr (Or.inr rfl))
        have e91 : pw_up (pw_up I o 10 0) o 11 0 o 9 = nI (p + 1) := by rw [up_n (by omega), up_n (by omega), h9]
        have e111 : pw_up (pw_up I o 10 0) o 11 0 o 11 = nI 0 := by rw [up_r]; rfl
        generalize pw_up (pw_up I o 10 0) o 11 0 = J1 at hJ1 e91 e111 ⊢
        rw [g7 hJ1, gI e91 (by omega), fT hJ1]
        simp only [up_r]
        refine ⟨fA hJ1 e91 (by omega), fun zn => ⟨fun _ => q0 _ (hJ1.upu (Or.inr (Or.inl rfl))) (hN zn), fun z2 => absurd (by decide) z2⟩, fun w r zs => ⟨fun z2 => absurd z2 (nI_pos (by have := num_bd zs; omega)), fun _ => ?_⟩⟩
        have hJ2 := hJ1.up (k := 9) (v := nI r) (Or.inl rfl)
        refine hY w r zs _ (hJ2.upu (Or.inr (Or.inl rfl))) ?_ ?_ ?_
        · rw [up_n (by omega), set_s, upd_s]
        · rw [up_r]
        · rw [up_n (by omega), set_s, upd_n (by omega), e111]
    have pE : (x = 101 ∨ x = 116) → PW (mX7_isForm, 2, 0, 0, none, base) n sh P I 0 0 0 [some (.ref o), some (.int x), none] [] (pw_QK n sh P K) := by
      intro hx2
      have eP := parT_n (T := T) (len := len) (p := p) (by rw [hx]; exact hx2)
      refine pN (hx2.elim Or.inl (fun z => Or.inr (Or.inl z))) (fun e => hF (by rw [eP, e])) (fun a q e J hJ f9 f10 f11 => ?_)
      have hq := (num_bd e).2.2.2
      rw [e] at eP
      have fin := p3 J q hJ f9 hq (fun z => hF (by rw [eP]; dsimp only; rw [if_neg (by rw [z]; decide)])) (fun z J' a1 a2 a3 a4 => hS a 0 (q + 1) (by rw [eP]; dsimp only; rw [if_pos z]) J' a1 a2 (a3.trans f10) (a4.trans f11))
      rcases hx2 with rfl | rfl
      all_goals
        refine pw_go okX7_isForm (cc []) ⟨Nat.le_refl _, Nat.le_refl _⟩ cc_n (st1 109) 60 ?_
        simp only [↓f_vc_s, ↓vk_i, ↓cc_i, ↓reduceIte, f_vq_s, Bool.false_eq_true, ↓f_e_iconst, ↓f_e_bipush, ↓f_e_sipush, ↓f_e_ldc, ↓f_e_ldc_w, ↓f_e_iload_n, ↓f_e_iload, ↓f_e_aload_n, ↓f_e_aload, ↓f_e_istore_n, ↓f_e_istore, ↓f_e_astore_n, ↓f_e_astore, ↓f_e_iinc, ↓f_e_iadd, ↓f_e_isub, ↓f_e_imul, ↓f_e_iand, ↓f_e_ior, ↓f_e_ixor, ↓f_e_idiv, ↓f_e_irem, ↓f_e_ishl, ↓f_e_ishr, ↓f_e_iushr, ↓f_e_i2c, ↓f_e_dup, ↓f_e_dup2, ↓f_e_pop, ↓f_e_goto, ↓f_e_ifCond, ↓f_e_if_icmp, ↓f_e_tableswitch, ↓f_e_lookupswitch, ↓f_e_getfield_i, ↓f_e_getfield_r, ↓f_e_putfield_i, ↓f_e_putfield_z, ↓f_e_iaload, ↓f_e_caload, ↓f_e_aaload, ↓f_e_iastore, ↓f_e_castore, ↓f_e_arraylength, ↓f_e_invokestatic, ↓f_e_invokevirtual, ↓f_e_ireturn, ↓f_e_return_, ↓f_s_i_c, ↓f_s_r_c, ↓f_s_v_i, ↓f_s_v_r, ↓f_s_l_0, ↓s_l_1, ↓s_l_2, ↓s_l_3, ↓s_l_4, ↓s_l_5, ↓s_l_6, ↓s_a_0, ↓s_a_1, ↓s_a_2, ↓s_a_3, ↓s_m_0, ↓f_s_m_i, ↓f_s_m_r, ↓f_s_m_i7, ↓f_s_m_r7, ↓f_s_m_i6, ↓f_s_m_r6, ↓f_s_m_i5, ↓f_s_m_r5, ↓f_s_m_i4, ↓f_s_m_r4, ↓f_s_w_n, ↓f_s_w_c, ↓f_s_p_eq, ↓f_s_p_ne, ↓f_s_p_lt, ↓f_s_p_ge, ↓f_s_p_gt, ↓f_s_p_le, ↓nk_i, ↓nk_z, ↓nk_c, ↓rf_s, ↓ov_s, ↓ov_n, ↓fin0, ↓fin1, ↓fin2, ↓fin3, cond_true, cond_false, List.set_cons_zero, List.set_cons_succ, List.length_cons, List.length_nil, true_and, and_true, true_or, or_true, implies_true, forall_const, not_true_eq_false, not_false_eq_true, false_implies, Nat.reduceAdd, Nat.reduceLT, Nat.reduceBEq, Nat.reduceEqDiff, Bool.or_false, Bool.false_or, Bool.or_true, Bool.true_or, beq_self_eq_true, Nat.reduceLeDiff, Nat.reduceMul, Nat.reduceSub, eq_self, Nat.reduceBneDiff, st0_s, st1_s, st2_s, st3_s, reduceCtorEq, cc_0, tl_0, cl_0, il_0, tl_1, cl_1, il_1, tl_2, cl_2, il_2, tl_3, cl_3, il_3, tl_4, cl_4, il_4, tl_5, cl_5, il_5, tl_6, cl_6, il_6, tl_7, cl_7, il_7, tl_8, cl_8, il_8, tl_9, cl_9, il_9, tl_10, cl_10, il_10, tl_11, cl_11, il_11, tl_12, cl_12, il_12, tl_13, cl_13, il_13, tl_14, cl_14, il_14, tl_15, cl_15, il_15, tl_16, cl_16, il_16, tl_20, tl_21, tl_25, tl_32, tl_48, tl_50, tl_57, tl_58, tl_59, tl_60, tl_99, tl_100, tl_101, tl_108, tl_109, tl_116, tl_120, tl_126, tl_374, tl_1122, tl_50000, i10, i01, tl_m1, tl_m2, tl_m3, tl_m4, nr_X7_isForm, tX7_isForm_0, tX7_isForm_1, tX7_isForm_2, tX7_isForm_5, tX7_isForm_6, tX7_isForm_7, tX7_isForm_10, tX7_isForm_11, tX7_isForm_12, tX7_isForm_13, tX7_isForm_15, tX7_isForm_18, tX7_isForm_19, tX7_isForm_21, tX7_isForm_24, tX7_isForm_25, tX7_isForm_27, tX7_isForm_30, tX7_isForm_31, tX7_isForm_33, tX7_isForm_36, tX7_isForm_37, tX7_isForm_38, tX7_isForm_41, tX7_isForm_44, tX7_isForm_45, tX7_isForm_48, tX7_isForm_51, tX7_isForm_52, tX7_isForm_55, tX7_isForm_56, tX7_isForm_57, tX7_isForm_58, tX7_isForm_61, tX7_isForm_62, tX7_isForm_64, tX7_isForm_67, tX7_isForm_68, tX7_isForm_70, tX7_isForm_73, tX7_isForm_74, tX7_isForm_76, tX7_isForm_79, tX7_isForm_80, tX7_isForm_81, tX7_isForm_82, tX7_isForm_85, tX7_isForm_86, tX7_isForm_89, tX7_isForm_92, tX7_isForm_93, tX7_isForm_96, tX7_isForm_97, tX7_isForm_100, tX7_isForm_103, tX7_isForm_104, tX7_isForm_107, tX7_isForm_108, tX7_isForm_109, tX7_isForm_110, tX7_isForm_113, tX7_isForm_114, tX7_isForm_116, tX7_isForm_119, tX7_isForm_122, tX7_isForm_123, tX7_isForm_126, tX7_isForm_127, pw_QK_s, h1, sg_100_101, sg_100_108, sg_100_109, sg_100_116, sg_100_120, sg_101_100, sg_101_108, sg_101_109, sg_101_116, sg_101_120, sg_108_100, sg_108_101, sg_108_109, sg_108_116, sg_108_120, sg_109_100, sg_109_101, sg_109_108, sg_109_116, sg_109_120, sg_116_100, sg_116_101, sg_116_108, sg_116_109, sg_116_120, sg_120_100, sg_120_101, sg_120_108, sg_120_109, sg_120_116]
        exact fin
    have pL : (x = 108 ∨ x = 109) → PW (mX7_isForm, 2, 0, 0, none, base) n sh P I 0 0 0 [some (.ref o), some (.int x), none] [] (pw_QK n sh P K) := by
      intro hx2
      have eP := parT_2 (T := T) (len := len) (p := p) (by rw [hx]; exact hx2)
      refine pN (Or.inr (Or.inr hx2)) (fun e => hF (by rw [eP, e])) (fun a q e J hJ f9 f10 f11 => ?_)
      have hq := (num_bd e).2.2.2
      rw [e] at eP
      dsimp only at eP
      refine p2 hx2 J q a hJ f9 hq f10 (fun z => hF (by rw [eP, if_neg (by rw [z]; decide)])) (fun z zn => hF (by rw [eP, if_pos z, zn])) (fun z w r zs => ⟨fun z3 => hF (by rw [eP, if_pos z, zs]; dsimp only; rw [if_neg (by rw [z3]; decide)]), fun z3 J' a1 a2 a3 a4 => hS a w (r + 1) (by rw [eP, if_pos z, zs]; dsimp only; rw [if_pos z3]) J' a1 a2 a3 a4⟩)
    have pX : (x = 120 ∨ x = 100) → PW (mX7_isForm, 2, 0, 0, none, base) n sh P I 0 0 0 [some (.ref o), some (.int x), none] [] (pw_QK n sh P K) := by
      intro hx2
      have eP := parT_0 (T := T) (len := len) (p := p) (by rw [hx]; exact hx2)
      have hJ1 : fldOK o I (pw_up (pw_up I o 10 0) o 11 0) := (fldOK.rf.upu (Or.inr (Or.inl rfl))).upu (Or.inr (Or.inr rfl))
      have fin := p3 (pw_up (pw_up I o 10 0) o 11 0) (p + 1) hJ1 (by rw [up_n (by omega), up_n (by omega), h9]) (by omega) (fun z => hF (by rw [eP, if_neg (by rw [z]; decide)])) (fun z J' a1 a2 a3 a4 => hS 0 0 (p + 2) (by rw [eP, if_pos z]) J' a1 a2 (a3.trans (by rw [up_n (by omega), up_r]; rfl)) (a4.trans (by rw [up_r]; rfl)))
      rcases hx2 with rfl | rfl
      all_goals
        refine pw_go okX7_isForm (cc []) ⟨Nat.le_refl _, Nat.le_refl _⟩ cc_n (st1 109) 60 ?_
        simp only [↓f_vc_s, ↓vk_i, ↓cc_i, ↓reduceIte, f_vq_s, Bool.false_eq_true, ↓f_e_iconst, ↓f_e_bipush, ↓f_e_sipush, ↓f_e_ldc, ↓f_e_ldc_w, ↓f_e_iload_n, ↓f_e_iload, ↓f_e_aload_n, ↓f_e_aload, ↓f_e_istore_n, ↓f_e_istore, ↓f_e_astore_n, ↓f_e_astore, ↓f_e_iinc, ↓f_e_iadd, ↓f_e_isub, ↓f_e_imul, ↓f_e_iand, ↓f_e_ior, ↓f_e_ixor, ↓f_e_idiv, ↓f_e_irem, ↓f_e_ishl, ↓f_e_ishr, ↓f_e_iushr, ↓f_e_i2c, ↓f_e_dup, ↓f_e_dup2, ↓f_e_pop, ↓f_e_goto, ↓f_e_ifCond, ↓f_e_if_icmp, ↓f_e_tableswitch, ↓f_e_lookupswitch, ↓f_e_getfield_i, ↓f_e_getfield_r, ↓f_e_putfield_i, ↓f_e_putfield_z, ↓f_e_iaload, ↓f_e_caload, ↓f_e_aaload, ↓f_e_iastore, ↓f_e_castore, ↓f_e_arraylength, ↓f_e_invokestatic, ↓f_e_invokevirtual, ↓f_e_ireturn, ↓f_e_return_, ↓f_s_i_c, ↓f_s_r_c, ↓f_s_v_i, ↓f_s_v_r, ↓f_s_l_0, ↓s_l_1, ↓s_l_2, ↓s_l_3, ↓s_l_4, ↓s_l_5, ↓s_l_6, ↓s_a_0, ↓s_a_1, ↓s_a_2, ↓s_a_3, ↓s_m_0, ↓f_s_m_i, ↓f_s_m_r, ↓f_s_m_i7, ↓f_s_m_r7, ↓f_s_m_i6, ↓f_s_m_r6, ↓f_s_m_i5, ↓f_s_m_r5, ↓f_s_m_i4, ↓f_s_m_r4, ↓f_s_w_n, ↓f_s_w_c, ↓f_s_p_eq, ↓f_s_p_ne, ↓f_s_p_lt, ↓f_s_p_ge, ↓f_s_p_gt, ↓f_s_p_le, ↓nk_i, ↓nk_z, ↓nk_c, ↓rf_s, ↓ov_s, ↓ov_n, ↓fin0, ↓fin1, ↓fin2, ↓fin3, cond_true, cond_false, List.set_cons_zero, List.set_cons_succ, List.length_cons, List.length_nil, true_and, and_true, true_or, or_true, implies_true, forall_const, not_true_eq_false, not_false_eq_true, false_implies, Nat.reduceAdd, Nat.reduceLT, Nat.reduceBEq, Nat.reduceEqDiff, Bool.or_false, Bool.false_or, Bool.or_true, Bool.true_or, beq_self_eq_true, Nat.reduceLeDiff, Nat.reduceMul, Nat.reduceSub, eq_self, Nat.reduceBneDiff, st0_s, st1_s, st2_s, st3_s, reduceCtorEq, cc_0, tl_0, cl_0, il_0, tl_1, cl_1, il_1, tl_2, cl_2, il_2, tl_3, cl_3, il_3, tl_4, cl_4, il_4, tl_5, cl_5, il_5, tl_6, cl_6, il_6, tl_7, cl_7, il_7, tl_8, cl_8, il_8, tl_9, cl_9, il_9, tl_10, cl_10, il_10, tl_11, cl_11, il_11, tl_12, cl_12, il_12, tl_13, cl_13, il_13, tl_14, cl_14, il_14, tl_15, cl_15, il_15, tl_16, cl_16, il_16, tl_20, tl_21, tl_25, tl_32, tl_48, tl_50, tl_57, tl_58, tl_59, tl_60, tl_99, tl_100, tl_101, tl_108, tl_109, tl_116, tl_120, tl_126, tl_374, tl_1122, tl_50000, i10, i01, tl_m1, tl_m2, tl_m3, tl_m4, nr_X7_isForm, tX7_isForm_0, tX7_isForm_1, tX7_isForm_2, tX7_isForm_5, tX7_isForm_6, tX7_isForm_7, tX7_isForm_10, tX7_isForm_11, tX7_isForm_12, tX7_isForm_13, tX7_isForm_15, tX7_isForm_18, tX7_isForm_19, tX7_isForm_21, tX7_isForm_24, tX7_isForm_25, tX7_isForm_27, tX7_isForm_30, tX7_isForm_31, tX7_isForm_33, tX7_isForm_36, tX7_isForm_37, tX7_isForm_38, tX7_isForm_41, tX7_isForm_44, tX7_isForm_45, tX7_isForm_48, tX7_isForm_51, tX7_isForm_52, tX7_isForm_55, tX7_isForm_56, tX7_isForm_57, tX7_isForm_58, tX7_isForm_61, tX7_isForm_62, tX7_isForm_64, tX7_isForm_67, tX7_isForm_68, tX7_isForm_70, tX7_isForm_73, tX7_isForm_74, tX7_isForm_76, tX7_isForm_79, tX7_isForm_80, tX7_isForm_81, tX7_isForm_82, tX7_isForm_85, tX7_isForm_86, tX7_isForm_89, tX7_isForm_92, tX7_isForm_93, tX7_isForm_96, tX7_isForm_97, tX7_isForm_100, tX7_isForm_103, tX7_isForm_104, tX7_isForm_107, tX7_isForm_108, tX7_isForm_109, tX7_isForm_110, tX7_isForm_113, tX7_isForm_114, tX7_isForm_116, tX7_isForm_119, tX7_isForm_122, tX7_isForm_123, tX7_isForm_126, tX7_isForm_127, pw_QK_s, h1, sg_100_101, sg_100_108, sg_100_109, sg_100_116, sg_100_120, sg_101_100, sg_101_108, sg_101_109, sg_101_116, sg_101_120, sg_108_100, sg_108_101, sg_108_109, sg_108_116, sg_108_120, sg_109_100, sg_109_101, sg_109_108, sg_109_116, sg_109_120, sg_116_100, sg_116_101, sg_116_108, sg_116_109, sg_116_120, sg_120_100, sg_120_101, sg_120_108, sg_120_109, sg_120_116]
        exact fin
    rcases hsg with z | z | z | z | z | z
    · exact pE (Or.inl z)
    · exact pL (Or.inl z)
    · exact pL (Or.inr z)
    · exact pX (Or.inl z)
    · exact pX (Or.inr z)
    · exact pE (Or.inr z)
  · exact h.elim
/-- the event x with its numbers a, b: its numbers are in range; it is possible; what it makes of the row -/
def rngS (S : Nat → Int32) (x : Int32) (a b : Nat) : Bool :=
  if x = 101 then decide (a < vN S 4) else if x = 108 ∨ x = 109 then decide (a < vN S 4) && decide (b ≤ 1) else if x = 116 then decide (0 < a) else true
def posS (S : Nat → Int32) (x : Int32) (a b : Nat) : Bool :=
  if x = 101 then S (166 + 13 * a + 2) == 0
  else if x = 108 then (S (166 + 13 * a + 2) == 1) && !(S (166 + 13 * a + 3) == nI b)
  else if x = 109 then !(S (166 + 13 * a + 5) == nI b)
  else if x = 120 then decide (vN S 10 < 4) && (nextS S).isSome
  else if x = 100 then decide (0 < vN S 10)
  else decide ((S 0).toInt + a ≤ 50000)
def doS (S : Nat → Int32) (x : Int32) (a b : Nat) : Nat → Int32 :=
  if x = 101 then goEdgeS S a else if x = 108 then upd S (166 + 13 * a + 3) (nI b) else if x = 109 then upd S (166 + 13 * a + 5) (nI b)
  else if x = 120 then (match nextS S with
    | none => S
    | some k => goTakeS S k) else if x = 100 then goDoneS S else goTicksS S a
def TakeOK (S : Nat → Int32) : Prop := ∀ k, nextS S = some k → vN S 10 < 4 → InvB (goTake1 S k) ∧ turnOK (wayS (goTake1 S k) (vN (goTake1 S k) (166 + 13 * k))) (goTake1 S k) (nI k)
def numOK (m : Nat) (I : pw_I) (a b : Nat) : Prop := I m 10 = nI a ∧ I m 11 = nI b ∧ a ≤ 99 ∧ b ≤ 99
def w_isRange (m : Nat) : pw_Wp := fun Ag I K => match Ag with
  | [.ref o, .int x] => o = m ∧ InvB (I (m + 1)) ∧ isSgn x ∧ ∃ a b, numOK m I a b ∧ (rngS (I (m + 1)) x a b = true → K (some (.int 1)) I) ∧ (rngS (I (m + 1)) x a b = false → K (some (.int 0)) I)
  | _ => False
set_option maxRecDepth 100000 in
set_option maxHeartbeats 4000000 in
theorem x_isRange (hM : pw_mod sh P m) (h : w_isRange m Ag I K) : pw_ok mX7_isRange 2 base n sh P Ag I K := by
  unfold w_isRange at h
  split at h
  · rename_i o x
    obtain ⟨rfl, hI, hsg, a, b, ⟨e10, e11, ha, hb⟩, hA, hB⟩ := h
    obtain ⟨h1, ⟨h2, h3⟩, -⟩ := id hM
    have h4 := hI.2.1
    have l4 : (I (o + 1) 4).toInt = (vN (I (o + 1)) 4 : Int) := (congrArg Int32.toInt h4.1).trans (ti_nI (by omega))
    have la : (nI a).toInt = (a : Int) := ti_nI (by omega)
    have bb : bit01 (nI b) ↔ b ≤ 1 := by
      unfold bit01
      rw [show (0 : Int32) = nI 0 from rfl, show (1 : Int32) = nI 1 from rfl, nI_eq (by omega) (by omega), nI_eq (by omega) (by omega)]
      omega
    refine pw_bd [_, _] pl_X7 c_ri rfl rfl ?_
    rcases hsg with rfl | rfl | rfl | rfl | rfl | rfl
    all_goals
      refine pw_go okX7_isRange (cc [(101, (w_isLine o)), (102, w_bit)]) ⟨Nat.le_refl _, Nat.le_refl _⟩ (cc_c (fun Ag I K h => ⟨1, Nat.le_of_ble_eq_true rfl, x_isLine hM h⟩) (cc_c (fun Ag I K h => ⟨0, Nat.le_of_ble_eq_true rfl, x_isBit7 h⟩) cc_n)) (st0) 60 ?_
      simp only [↓f_vc_s, ↓vk_i, ↓cc_i, ↓reduceIte, f_vq_s, Bool.false_eq_true, ↓f_e_iconst, ↓f_e_bipush, ↓f_e_sipush, ↓f_e_ldc, ↓f_e_ldc_w, ↓f_e_iload_n, ↓f_e_iload, ↓f_e_aload_n, ↓f_e_aload, ↓f_e_istore_n, ↓f_e_istore, ↓f_e_astore_n, ↓f_e_astore, ↓f_e_iinc, ↓f_e_iadd, ↓f_e_isub, ↓f_e_imul, ↓f_e_iand, ↓f_e_ior, ↓f_e_ixor, ↓f_e_idiv, ↓f_e_irem, ↓f_e_ishl, ↓f_e_ishr, ↓f_e_iushr, ↓f_e_i2c, ↓f_e_dup, ↓f_e_dup2, ↓f_e_pop, ↓f_e_goto, ↓f_e_ifCond, ↓f_e_if_icmp, ↓f_e_tableswitch, ↓f_e_lookupswitch, ↓f_e_getfield_i, ↓f_e_getfield_r, ↓f_e_putfield_i, ↓f_e_putfield_z, ↓f_e_iaload, ↓f_e_caload, ↓f_e_aaload, ↓f_e_iastore, ↓f_e_castore, ↓f_e_arraylength, ↓f_e_invokestatic, ↓f_e_invokevirtual, ↓f_e_ireturn, ↓f_e_return_, ↓f_s_i_c, ↓f_s_r_c, ↓f_s_v_i, ↓f_s_v_r, ↓f_s_l_0, ↓s_l_1, ↓s_l_2, ↓s_l_3, ↓s_l_4, ↓s_l_5, ↓s_l_6, ↓s_a_0, ↓s_a_1, ↓s_a_2, ↓s_a_3, ↓s_m_0, ↓f_s_m_i, ↓f_s_m_r, ↓f_s_m_i7, ↓f_s_m_r7, ↓f_s_m_i6, ↓f_s_m_r6, ↓f_s_m_i5, ↓f_s_m_r5, ↓f_s_m_i4, ↓f_s_m_r4, ↓f_s_w_n, ↓f_s_w_c, ↓f_s_p_eq, ↓f_s_p_ne, ↓f_s_p_lt, ↓f_s_p_ge, ↓f_s_p_gt, ↓f_s_p_le, ↓nk_i, ↓nk_z, ↓nk_c, ↓rf_s, ↓ov_s, ↓ov_n, ↓fin0, ↓fin1, ↓fin2, ↓fin3, cond_true, cond_false, List.set_cons_zero, List.set_cons_succ, List.length_cons, List.length_nil, true_and, and_true, true_or, or_true, implies_true, forall_const, not_true_eq_false, not_false_eq_true, false_implies, Nat.reduceAdd, Nat.reduceLT, Nat.reduceBEq, Nat.reduceEqDiff, Bool.or_false, Bool.false_or, Bool.or_true, Bool.true_or, beq_self_eq_true, Nat.reduceLeDiff, Nat.reduceMul, Nat.reduceSub, eq_self, Nat.reduceBneDiff, st0_s, st1_s, st2_s, st3_s, reduceCtorEq, cc_0, tl_0, cl_0, il_0, tl_1, cl_1, il_1, tl_2, cl_2, il_2, tl_3, cl_3, il_3, tl_4, cl_4, il_4, tl_5, cl_5, il_5, tl_6, cl_6, il_6, tl_7, cl_7, il_7, tl_8, cl_8, il_8, tl_9, cl_9, il_9, tl_10, cl_10, il_10, tl_11, cl_11, il_11, tl_12, cl_12, il_12, tl_13, cl_13, il_13, tl_14, cl_14, il_14, tl_15, cl_15, il_15, tl_16, cl_16, il_16, tl_20, tl_21, tl_25, tl_32, tl_48, tl_50, tl_57, tl_58, tl_59, tl_60, tl_99, tl_100, tl_101, tl_108, tl_109, tl_116, tl_120, tl_126, tl_374, tl_1122, tl_50000, i10, i01, tl_m1, tl_m2, tl_m3, tl_m4, nr_X7_isRange, tX7_isRange_0, tX7_isRange_1, tX7_isRange_44, tX7_isRange_45, tX7_isRange_46, tX7_isRange_49, tX7_isRange_52, tX7_isRange_53, tX7_isRange_54, tX7_isRange_55, tX7_isRange_58, tX7_isRange_61, tX7_isRange_64, tX7_isRange_65, tX7_isRange_68, tX7_isRange_71, tX7_isRange_74, tX7_isRange_75, tX7_isRange_78, tX7_isRange_79, tX7_isRange_80, tX7_isRange_81, tX7_isRange_84, tX7_isRange_87, tX7_isRange_88, tX7_isRange_91, tX7_isRange_92, tX7_isRange_93, tX7_isRange_94, pw_QK_s, h1, h2, h3, ↓w_isLine, ↓w_bit, sg_100_101, sg_100_108, sg_100_109, sg_100_116, sg_100_120, sg_101_100, sg_101_108, sg_101_109, sg_101_116, sg_101_120, sg_108_100, sg_108_101, sg_108_109, sg_108_116, sg_108_120, sg_109_100, sg_109_101, sg_109_108, sg_109_116, sg_109_120, sg_116_100, sg_116_101, sg_116_108, sg_116_109, sg_116_120, sg_120_100, sg_120_101, sg_120_108, sg_120_109, sg_120_116]
      simp only [rngS, sg_100_101, sg_100_108, sg_100_109, sg_100_116, sg_100_120, sg_101_100, sg_101_108, sg_101_109, sg_101_116, sg_101_120, sg_108_100, sg_108_101, sg_108_109, sg_108_116, sg_108_120, sg_109_100, sg_109_101, sg_109_108, sg_109_116, sg_109_120, sg_116_100, sg_116_101, sg_116_108, sg_116_109, sg_116_120, sg_120_100, sg_120_101, sg_120_108, sg_120_109, sg_120_116, eq_self, or_true, true_or, or_false, false_or, if_true, if_false, Bool.and_eq_true, Bool.and_eq_false_iff, decide_eq_true_eq, decide_eq_false_iff_not] at hA hB
    · rw [e10, l4, la]
      exact ⟨by omega, fun q => hA (by omega), fun q => hB (by omega)⟩
    · rw [e10, e11, l4, la, bb]
      exact ⟨by omega, fun q => ⟨fun q2 => hA (by omega), fun q2 => hB (by omega)⟩, fun q => hB (by omega)⟩
    · rw [e10, e11, l4, la, bb]
      exact ⟨by omega, fun q => ⟨fun q2 => hA (by omega), fun q2 => hB (by omega)⟩, fun q => hB (by omega)⟩
    · exact hA trivial
    · exact hA trivial
    · rw [e10, show (0 : Int32) = nI 0 from rfl]
      exact ⟨fun q => hB (fun z => nI_ge z (by omega) q), fun q => hA (by
        rcases Nat.eq_zero_or_pos a with z | z
        · exact absurd (nI_le (by omega) (by omega)) q
        · exact z)⟩
  · exact h.elim
def w_isPossible (m : Nat) : pw_Wp := fun Ag I K => match Ag with
  | [.ref o, .int x] => o = m ∧ InvB (I (m + 1)) ∧ InvT (I (m + 1)) ∧ OrdOK (I (m + 1)) ∧ isSgn x ∧ ∃ a b, numOK m I a b ∧ rngS (I (m + 1)) x a b = true ∧ (posS (I (m + 1)) x a b = true → ∀ J, scrOK m I J → K (some (.int 1)) J) ∧ (posS (I (m + 1)) x a b = false → ∀ J, scrOK m I J → K (some (.int 0)) J)
  | _ => False
theorem scrOK.rf {m : Nat} {I : pw_I} : scrOK m I I := fun _ _ _ _ => rfl
set_option maxRecDepth 100000 in
set_option maxHeartbeats 4000000 in
theorem x_isPossible (hM : pw_mod sh P m) (h : w_isPossible m Ag I K) : pw_ok mX7_isPossible 4 base n sh P Ag I K := by
  unfold w_isPossible at h
  split at h
  · rename_i o x
    obtain ⟨rfl, hI, hT, hO, hsg, a, b, ⟨e10, e11, ha, hb⟩, hR, hA, hB⟩ := h
    obtain ⟨h1, ⟨h2, h3⟩, -⟩ := id hM
    have h4 := hI.2.1
    have h10 := hI.2.2.1
    have t0 := hI.t0
    refine pw_bd [_, _] pl_X7 c_ri rfl rfl ?_
    rcases hsg with rfl | rfl | rfl | rfl | rfl | rfl
    all_goals
      refine pw_go okX7_isPossible (cc [(99, w_l), (127, (w_canLevel o)), (116, (w_nextLine o))]) ⟨Nat.le_refl _, Nat.le_refl _⟩ (cc_c (fun Ag I K h => ⟨0, Nat.le_of_ble_eq_true rfl, x_l h⟩) (cc_c (fun Ag I K h => ⟨1, Nat.le_of_ble_eq_true rfl, x_canLevel hM h⟩) (cc_c (fun Ag I K h => ⟨3, Nat.le_of_ble_eq_true rfl, x_nextLine7 hM h⟩) cc_n))) (st0) 90 ?_
      simp only [↓f_vc_s, ↓vk_i, ↓cc_i, ↓reduceIte, f_vq_s, Bool.false_eq_true, ↓f_e_iconst, ↓f_e_bipush, ↓f_e_sipush, ↓f_e_ldc, ↓f_e_ldc_w, ↓f_e_iload_n, ↓f_e_iload, ↓f_e_aload_n, ↓f_e_aload, ↓f_e_istore_n, ↓f_e_istore, ↓f_e_astore_n, ↓f_e_astore, ↓f_e_iinc, ↓f_e_iadd, ↓f_e_isub, ↓f_e_imul, ↓f_e_iand, ↓f_e_ior, ↓f_e_ixor, ↓f_e_idiv, ↓f_e_irem, ↓f_e_ishl, ↓f_e_ishr, ↓f_e_iushr, ↓f_e_i2c, ↓f_e_dup, ↓f_e_dup2, ↓f_e_pop, ↓f_e_goto, ↓f_e_ifCond, ↓f_e_if_icmp, ↓f_e_tableswitch, ↓f_e_lookupswitch, ↓f_e_getfield_i, ↓f_e_getfield_r, ↓f_e_putfield_i, ↓f_e_putfield_z, ↓f_e_iaload, ↓f_e_caload, ↓f_e_aaload, ↓f_e_iastore, ↓f_e_castore, ↓f_e_arraylength, ↓f_e_invokestatic, ↓f_e_invokevirtual, ↓f_e_ireturn, ↓f_e_return_, ↓f_s_i_c, ↓f_s_r_c, ↓f_s_v_i, ↓f_s_v_r, ↓f_s_l_0, ↓s_l_1, ↓s_l_2, ↓s_l_3, ↓s_l_4, ↓s_l_5, ↓s_l_6, ↓s_a_0, ↓s_a_1, ↓s_a_2, ↓s_a_3, ↓s_m_0, ↓f_s_m_i, ↓f_s_m_r, ↓f_s_m_i7, ↓f_s_m_r7, ↓f_s_m_i6, ↓f_s_m_r6, ↓f_s_m_i5, ↓f_s_m_r5, ↓f_s_m_i4, ↓f_s_m_r4, ↓f_s_w_n, ↓f_s_w_c, ↓f_s_p_eq, ↓f_s_p_ne, ↓f_s_p_lt, ↓f_s_p_ge, ↓f_s_p_gt, ↓f_s_p_le, ↓nk_i, ↓nk_z, ↓nk_c, ↓rf_s, ↓ov_s, ↓ov_n, ↓fin0, ↓fin1, ↓fin2, ↓fin3, cond_true, cond_false, List.set_cons_zero, List.set_cons_succ, List.length_cons, List.length_nil, true_and, and_true, true_or, or_true, implies_true, forall_const, not_true_eq_false, not_false_eq_true, false_implies, Nat.reduceAdd, Nat.reduceLT, Nat.reduceBEq, Nat.reduceEqDiff, Bool.or_false, Bool.false_or, Bool.or_true, Bool.true_or, beq_self_eq_true, Nat.reduceLeDiff, Nat.reduceMul, Nat.reduceSub, eq_self, Nat.reduceBneDiff, st0_s, st1_s, st2_s, st3_s, reduceCtorEq, cc_0, tl_0, cl_0, il_0, tl_1, cl_1, il_1, tl_2, cl_2, il_2, tl_3, cl_3, il_3, tl_4, cl_4, il_4, tl_5, cl_5, il_5, tl_6, cl_6, il_6, tl_7, cl_7, il_7, tl_8, cl_8, il_8, tl_9, cl_9, il_9, tl_10, cl_10, il_10, tl_11, cl_11, il_11, tl_12, cl_12, il_12, tl_13, cl_13, il_13, tl_14, cl_14, il_14, tl_15, cl_15, il_15, tl_16, cl_16, il_16, tl_20, tl_21, tl_25, tl_32, tl_48, tl_50, tl_57, tl_58, tl_59, tl_60, tl_99, tl_100, tl_101, tl_108, tl_109, tl_116, tl_120, tl_126, tl_374, tl_1122, tl_50000, i10, i01, tl_m1, tl_m2, tl_m3, tl_m4, nr_X7_isPossible, tX7_isPossible_0, tX7_isPossible_1, tX7_isPossible_52, tX7_isPossible_53, tX7_isPossible_56, tX7_isPossible_57, tX7_isPossible_60, tX7_isPossible_63, tX7_isPossible_64, tX7_isPossible_65, tX7_isPossible_66, tX7_isPossible_69, tX7_isPossible_70, tX7_isPossible_73, tX7_isPossible_74, tX7_isPossible_75, tX7_isPossible_76, tX7_isPossible_77, tX7_isPossible_80, tX7_isPossible_81, tX7_isPossible_84, tX7_isPossible_87, tX7_isPossible_88, tX7_isPossible_89, tX7_isPossible_92, tX7_isPossible_93, tX7_isPossible_96, tX7_isPossible_99, tX7_isPossible_100, tX7_isPossible_101, tX7_isPossible_102, tX7_isPossible_103, tX7_isPossible_106, tX7_isPossible_109, tX7_isPossible_110, tX7_isPossible_113, tX7_isPossible_114, tX7_isPossible_115, tX7_isPossible_116, tX7_isPossible_119, tX7_isPossible_121, tX7_isPossible_122, tX7_isPossible_123, tX7_isPossible_126, tX7_isPossible_127, tX7_isPossible_130, tX7_isPossible_133, tX7_isPossible_134, tX7_isPossible_137, tX7_isPossible_138, tX7_isPossible_139, tX7_isPossible_140, tX7_isPossible_143, tX7_isPossible_145, tX7_isPossible_146, tX7_isPossible_149, tX7_isPossible_150, tX7_isPossible_153, tX7_isPossible_154, tX7_isPossible_155, tX7_isPossible_156, tX7_isPossible_159, tX7_isPossible_160, tX7_isPossible_161, tX7_isPossible_162, tX7_isPossible_165, tX7_isPossible_166, tX7_isPossible_168, tX7_isPossible_171, tX7_isPossible_172, tX7_isPossible_175, tX7_isPossible_176, pw_QK_s, h1, h2, h3, ↓w_l, ↓w_canLevel, ↓w_nextLine, sg_100_101, sg_100_108, sg_100_109, sg_100_116, sg_100_120, sg_101_100, sg_101_108, sg_101_109, sg_101_116, sg_101_120, sg_108_100, sg_108_101, sg_108_109, sg_108_116, sg_108_120, sg_109_100, sg_109_101, sg_109_108, sg_109_116, sg_109_120, sg_116_100, sg_116_101, sg_116_108, sg_116_109, sg_116_120, sg_120_100, sg_120_101, sg_120_108, sg_120_109, sg_120_116]
      simp only [rngS, sg_100_101, sg_100_108, sg_100_109, sg_100_116, sg_100_120, sg_101_100, sg_101_108, sg_101_109, sg_101_116, sg_101_120, sg_108_100, sg_108_101, sg_108_109, sg_108_116, sg_108_120, sg_109_100, sg_109_101, sg_109_108, sg_109_116, sg_109_120, sg_116_100, sg_116_101, sg_116_108, sg_116_109, sg_116_120, sg_120_100, sg_120_101, sg_120_108, sg_120_109, sg_120_116, eq_self, or_true, true_or, or_false, false_or, if_true, if_false, Bool.and_eq_true, decide_eq_true_eq] at hR
      simp only [posS, sg_100_101, sg_100_108, sg_100_109, sg_100_116, sg_100_120, sg_101_100, sg_101_108, sg_101_109, sg_101_116, sg_101_120, sg_108_100, sg_108_101, sg_108_109, sg_108_116, sg_108_120, sg_109_100, sg_109_101, sg_109_108, sg_109_116, sg_109_120, sg_116_100, sg_116_101, sg_116_108, sg_116_109, sg_116_120, sg_120_100, sg_120_101, sg_120_108, sg_120_109, sg_120_116, eq_self, or_true, true_or, or_false, false_or, if_true, if_false] at hA hB
      try simp (disch := omega) only [ix_l, ix_n, ix_0, ix_1, ix_2, ix_3, ix_4, ix_5, ix_6, ix_7, ix_8, ix_9, ix_10, ix_11, ix_12, ix_13, ix_14, ix_15, ix_20, ix_100, ix_374, jx_100, jx_11, jx_374, kx_374, cl_nI, in_nI, Nat.add_zero, true_and, up_set, set_s, set_set, set_n, cpy_s0, cpy_sd, cpy_ss, nI_add, upd_s, upd_n, e10, e11]
    · exact ⟨fun q => hB (beq_f q) I scrOK.rf, fun q => hA (beq_t q) I scrOK.rf⟩
    · refine ⟨by rw [ti_nI (by omega)]; omega, fun q => hA (by rw [beq_t q.1, beq_f q.2]; rfl) I scrOK.rf, fun q => hB ?_ I scrOK.rf⟩
      rw [Bool.and_eq_false_iff, Bool.not_eq_false', beq_iff_eq, ← Bool.not_eq_true, beq_iff_eq]
      by_cases z : I (o + 1) (166 + 13 * a + 2) = 1
      · exact Or.inr (Classical.not_not.mp fun z2 => q ⟨z, z2⟩)
      · exact Or.inl z
    · exact ⟨fun q => hB (by rw [beq_t q]; rfl) I scrOK.rf, fun q => hA (by rw [beq_f q]; rfl) I scrOK.rf⟩
    · rw [h10.1, show (4 : Int32) = nI 4 from rfl]
      refine ⟨fun q => hB ?_ I scrOK.rf, fun q => ⟨hI, hT, hO, fun J hJ => ?_⟩⟩
      · rw [decide_eq_false (fun z => nI_ge z (by omega) q)]; rfl
      · have hm : vN (I (o + 1)) 10 < 4 := by
          rcases Nat.lt_or_ge (vN (I (o + 1)) 10) 4 with z | z
          · exact z
          · exact absurd (nI_le z (by omega)) q
        rw [decide_eq_true hm, Bool.true_and] at hA hB
        cases e : nextS (I (o + 1)) with
        | none => exact ⟨fun _ => hB (by rw [e]; rfl) J hJ, fun q2 => absurd (by decide) q2⟩
        | some k => exact ⟨fun q2 => absurd q2 (nI_pos (by have := nextS_lt hO e; omega)), fun _ => hA (by rw [e]; rfl) J hJ⟩
    · rw [h10.1, show (0 : Int32) = nI 0 from rfl]
      refine ⟨fun q => hB (decide_eq_false (fun z => nI_ge z (by omega) q)) I scrOK.rf, fun q => hA (decide_eq_true ?_) I scrOK.rf⟩
      rcases Nat.eq_zero_or_pos (vN (I (o + 1)) 10) with z | z
      · exact absurd (nI_le (by omega) (by omega)) q
      · exact z
    · have la : (nI a).toInt = (a : Int) := ti_nI (by omega)
      rw [ti_lt, ti_add (by omega) (by omega), la, show (50000 : Int32).toInt = 50000 from rfl]
      exact ⟨fun q => hB (decide_eq_false (by omega)) I scrOK.rf, fun q => hA (decide_eq_true (by omega)) I scrOK.rf⟩
  · exact h.elim
def w_goEvent (m : Nat) : pw_Wp := fun Ag I K => match Ag with
  | [.ref o, .int x] => o = m ∧ InvB (I (m + 1)) ∧ InvT (I (m + 1)) ∧ OrdOK (I (m + 1)) ∧ TakeOK (I (m + 1)) ∧ isSgn x ∧ ∃ a b, numOK m I a b ∧ rngS (I (m + 1)) x a b = true ∧ posS (I (m + 1)) x a b = true ∧ (∀ J, scrOK m I J → K none (pw_set J (m + 1) (doS (I (m + 1)) x a b)))
  | _ => False
set_option maxRecDepth 100000 in
set_option maxHeartbeats 4000000 in
theorem x_goEvent (hM : pw_mod sh P m) (h : w_goEvent m Ag I K) : pw_ok mX7_goEvent 4 base n sh P Ag I K := by
  unfold w_goEvent at h
  split at h
  · rename_i o x
    obtain ⟨rfl, hI, hT, hO, hTk, hsg, a, b, ⟨e10, e11, ha, hb⟩, hR, hP, hA⟩ := h
    obtain ⟨h1, ⟨h2, h3⟩, -⟩ := id hM
    have h4 := hI.2.1
    have h10 := hI.2.2.1
    refine pw_bd [_, _] pl_X7 c_ri rfl rfl ?_
    rcases hsg with rfl | rfl | rfl | rfl | rfl | rfl
    all_goals
      refine pw_go okX7_goEvent (cc [(99, w_l), (125, (w_goEdge o)), (116, (w_nextLine o)), (119, (w_goTake o)), (120, (w_goDone o)), (131, (w_goTicks o))]) ⟨Nat.le_refl _, Nat.le_refl _⟩ (cc_c (fun Ag I K h => ⟨0, Nat.le_of_ble_eq_true rfl, x_l h⟩) (cc_c (fun Ag I K h => ⟨1, Nat.le_of_ble_eq_true rfl, x_goEdge hM h⟩) (cc_c (fun Ag I K h => ⟨3, Nat.le_of_ble_eq_true rfl, x_nextLine7 hM h⟩) (cc_c (fun Ag I K h => ⟨3, Nat.le_of_ble_eq_true rfl, x_goTake hM h⟩) (cc_c (fun Ag I K h => ⟨1, Nat.le_of_ble_eq_true rfl, x_goDone hM h⟩) (cc_c (fun Ag I K h => ⟨1, Nat.le_of_ble_eq_true rfl, x_goTicks hM h⟩) cc_n)))))) (st0) 90 ?_
      simp only [↓f_vc_s, ↓vk_i, ↓cc_i, ↓reduceIte, f_vq_s, Bool.false_eq_true, ↓f_e_iconst, ↓f_e_bipush, ↓f_e_sipush, ↓f_e_ldc, ↓f_e_ldc_w, ↓f_e_iload_n, ↓f_e_iload, ↓f_e_aload_n, ↓f_e_aload, ↓f_e_istore_n, ↓f_e_istore, ↓f_e_astore_n, ↓f_e_astore, ↓f_e_iinc, ↓f_e_iadd, ↓f_e_isub, ↓f_e_imul, ↓f_e_iand, ↓f_e_ior, ↓f_e_ixor, ↓f_e_idiv, ↓f_e_irem, ↓f_e_ishl, ↓f_e_ishr, ↓f_e_iushr, ↓f_e_i2c, ↓f_e_dup, ↓f_e_dup2, ↓f_e_pop, ↓f_e_goto, ↓f_e_ifCond, ↓f_e_if_icmp, ↓f_e_tableswitch, ↓f_e_lookupswitch, ↓f_e_getfield_i, ↓f_e_getfield_r, ↓f_e_putfield_i, ↓f_e_putfield_z, ↓f_e_iaload, ↓f_e_caload, ↓f_e_aaload, ↓f_e_iastore, ↓f_e_castore, ↓f_e_arraylength, ↓f_e_invokestatic, ↓f_e_invokevirtual, ↓f_e_ireturn, ↓f_e_return_, ↓f_s_i_c, ↓f_s_r_c, ↓f_s_v_i, ↓f_s_v_r, ↓f_s_l_0, ↓s_l_1, ↓s_l_2, ↓s_l_3, ↓s_l_4, ↓s_l_5, ↓s_l_6, ↓s_a_0, ↓s_a_1, ↓s_a_2, ↓s_a_3, ↓s_m_0, ↓f_s_m_i, ↓f_s_m_r, ↓f_s_m_i7, ↓f_s_m_r7, ↓f_s_m_i6, ↓f_s_m_r6, ↓f_s_m_i5, ↓f_s_m_r5, ↓f_s_m_i4, ↓f_s_m_r4, ↓f_s_w_n, ↓f_s_w_c, ↓f_s_p_eq, ↓f_s_p_ne, ↓f_s_p_lt, ↓f_s_p_ge, ↓f_s_p_gt, ↓f_s_p_le, ↓nk_i, ↓nk_z, ↓nk_c, ↓rf_s, ↓ov_s, ↓ov_n, ↓fin0, ↓fin1, ↓fin2, ↓fin3, cond_true, cond_false, List.set_cons_zero, List.set_cons_succ, List.length_cons, List.length_nil, true_and, and_true, true_or, or_true, implies_true, forall_const, not_true_eq_false, not_false_eq_true, false_implies, Nat.reduceAdd, Nat.reduceLT, Nat.reduceBEq, Nat.reduceEqDiff, Bool.or_false, Bool.false_or, Bool.or_true, Bool.true_or, beq_self_eq_true, Nat.reduceLeDiff, Nat.reduceMul, Nat.reduceSub, eq_self, Nat.reduceBneDiff, st0_s, st1_s, st2_s, st3_s, reduceCtorEq, cc_0, tl_0, cl_0, il_0, tl_1, cl_1, il_1, tl_2, cl_2, il_2, tl_3, cl_3, il_3, tl_4, cl_4, il_4, tl_5, cl_5, il_5, tl_6, cl_6, il_6, tl_7, cl_7, il_7, tl_8, cl_8, il_8, tl_9, cl_9, il_9, tl_10, cl_10, il_10, tl_11, cl_11, il_11, tl_12, cl_12, il_12, tl_13, cl_13, il_13, tl_14, cl_14, il_14, tl_15, cl_15, il_15, tl_16, cl_16, il_16, tl_20, tl_21, tl_25, tl_32, tl_48, tl_50, tl_57, tl_58, tl_59, tl_60, tl_99, tl_100, tl_101, tl_108, tl_109, tl_116, tl_120, tl_126, tl_374, tl_1122, tl_50000, i10, i01, tl_m1, tl_m2, tl_m3, tl_m4, nr_X7_goEvent, tX7_goEvent_0, tX7_goEvent_1, tX7_goEvent_52, tX7_goEvent_53, tX7_goEvent_54, tX7_goEvent_57, tX7_goEvent_60, tX7_goEvent_61, tX7_goEvent_64, tX7_goEvent_65, tX7_goEvent_68, tX7_goEvent_69, tX7_goEvent_72, tX7_goEvent_75, tX7_goEvent_76, tX7_goEvent_77, tX7_goEvent_78, tX7_goEvent_81, tX7_goEvent_82, tX7_goEvent_85, tX7_goEvent_86, tX7_goEvent_89, tX7_goEvent_90, tX7_goEvent_93, tX7_goEvent_96, tX7_goEvent_97, tX7_goEvent_98, tX7_goEvent_99, tX7_goEvent_102, tX7_goEvent_103, tX7_goEvent_106, tX7_goEvent_107, tX7_goEvent_108, tX7_goEvent_111, tX7_goEvent_114, tX7_goEvent_117, tX7_goEvent_118, tX7_goEvent_121, tX7_goEvent_122, tX7_goEvent_125, tX7_goEvent_126, tX7_goEvent_127, tX7_goEvent_130, tX7_goEvent_133, tX7_goEvent_134, pw_QK_s, h1, h2, h3, ↓w_l, ↓w_goEdge, ↓w_nextLine, ↓w_goTake, ↓w_goDone, ↓w_goTicks, sg_100_101, sg_100_108, sg_100_109, sg_100_116, sg_100_120, sg_101_100, sg_101_108, sg_101_109, sg_101_116, sg_101_120, sg_108_100, sg_108_101, sg_108_109, sg_108_116, sg_108_120, sg_109_100, sg_109_101, sg_109_108, sg_109_116, sg_109_120, sg_116_100, sg_116_101, sg_116_108, sg_116_109, sg_116_120, sg_120_100, sg_120_101, sg_120_108, sg_120_109, sg_120_116]
      simp only [rngS, sg_100_101, sg_100_108, sg_100_109, sg_100_116, sg_100_120, sg_101_100, sg_101_108, sg_101_109, sg_101_116, sg_101_120, sg_108_100, sg_108_101, sg_108_109, sg_108_116, sg_108_120, sg_109_100, sg_109_101, sg_109_108, sg_109_116, sg_109_120, sg_116_100, sg_116_101, sg_116_108, sg_116_109, sg_116_120, sg_120_100, sg_120_101, sg_120_108, sg_120_109, sg_120_116, eq_self, or_true, true_or, or_false, false_or, if_true, if_false, Bool.and_eq_true, decide_eq_true_eq] at hR
      simp only [posS, sg_100_101, sg_100_108, sg_100_109, sg_100_116, sg_100_120, sg_101_100, sg_101_108, sg_101_109, sg_101_116, sg_101_120, sg_108_100, sg_108_101, sg_108_109, sg_108_116, sg_108_120, sg_109_100, sg_109_101, sg_109_108, sg_109_116, sg_109_120, sg_116_100, sg_116_101, sg_116_108, sg_116_109, sg_116_120, sg_120_100, sg_120_101, sg_120_108, sg_120_109, sg_120_116, eq_self, or_true, true_or, or_false, false_or, if_true, if_false, Bool.and_eq_true, decide_eq_true_eq] at hP
      simp only [doS, sg_100_101, sg_100_108, sg_100_109, sg_100_116, sg_100_120, sg_101_100, sg_101_108, sg_101_109, sg_101_116, sg_101_120, sg_108_100, sg_108_101, sg_108_109, sg_108_116, sg_108_120, sg_109_100, sg_109_101, sg_109_108, sg_109_116, sg_109_120, sg_116_100, sg_116_101, sg_116_108, sg_116_109, sg_116_120, sg_120_100, sg_120_101, sg_120_108, sg_120_109, sg_120_116, eq_self, if_true, if_false] at hA
      try simp (disch := omega) only [ix_l, ix_n, ix_0, ix_1, ix_2, ix_3, ix_4, ix_5, ix_6, ix_7, ix_8, ix_9, ix_10, ix_11, ix_12, ix_13, ix_14, ix_15, ix_20, ix_100, ix_374, jx_100, jx_11, jx_374, kx_374, cl_nI, in_nI, Nat.add_zero, true_and, up_set, set_s, set_set, set_n, cpy_s0, cpy_sd, cpy_ss, nI_add, upd_s, upd_n, e10, e11]
    · exact ⟨by rw [ti_nI (by omega)]; omega, fun _ => hA I scrOK.rf, fun _ => hA I scrOK.rf⟩
    · exact hA I scrOK.rf
    · exact hA I scrOK.rf
    · refine ⟨hI, hT, hO, fun J hJ => ?_⟩
      have hJS : J (o + 1) = I (o + 1) := hJ _ (by omega) (by omega) (by omega)
      obtain ⟨k, e⟩ := Option.isSome_iff_exists.mp hP.2
      have hk := nextS_lt hO e
      obtain ⟨c1, c2⟩ := hTk k e hP.1
      have := hA J hJ
      rw [e] at this
      rw [hJS, e, optI, cl_nI (by omega), ti_nI (by omega)]
      exact ⟨hI, by omega, hP.1, c1, c2, this⟩
    · exact ⟨hI, hP, hA I scrOK.rf⟩
    · exact ⟨h4, by rw [ti_nI (by omega)]; omega, hA I scrOK.rf⟩
  · exact h.elim
end RUN1
