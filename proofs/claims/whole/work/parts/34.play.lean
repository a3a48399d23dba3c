/-! the reference: a run over the text, and what is told of it -/
theorem par_bd {T : Nat → Int32} {len p a b q : Nat} (h : parT T len p = some (a, b, q)) : isSgn (T p) ∧ a ≤ 99 ∧ b ≤ 99 ∧ p < q ∧ q ≤ len := by
  unfold isSgn
  by_cases c1 : T p = 101 ∨ T p = 116
  · rw [parT_n c1] at h
    cases e : numT T len (p + 1) with
    | none => rw [e] at h; cases h
    | some z =>
      obtain ⟨v, r⟩ := z
      have := num_bd e
      rw [e] at h
      dsimp only at h
      split at h
      · rename_i h2
        have := semi_lt h2
        cases h
        exact ⟨c1.elim Or.inl (fun z => Or.inr (Or.inr (Or.inr (Or.inr (Or.inr z))))), by omega⟩
      · cases h
  · by_cases c2 : T p = 108 ∨ T p = 109
    · rw [parT_2 c2] at h
      cases e : numT T len (p + 1) with
      | none => rw [e] at h; cases h
      | some z =>
        obtain ⟨v, r⟩ := z
        have := num_bd e
        rw [e] at h
        dsimp only at h
        split at h
        · cases e2 : numT T len (r + 1) with
          | none => rw [e2] at h; cases h
          | some z2 =>
            obtain ⟨v2, r2⟩ := z2
            have := num_bd e2
            rw [e2] at h
            dsimp only at h
            split at h
            · rename_i h2
              have := semi_lt h2
              cases h
              exact ⟨c2.elim (fun z => Or.inr (Or.inl z)) (fun z => Or.inr (Or.inr (Or.inl z))), by omega⟩
            · cases h
        · cases h
    · by_cases c3 : T p = 120 ∨ T p = 100
      · rw [parT_0 c3] at h
        split at h
        · rename_i h2
          have := semi_lt h2
          cases h
          exact ⟨c3.elim (fun z => Or.inr (Or.inr (Or.inr (Or.inl z)))) (fun z => Or.inr (Or.inr (Or.inr (Or.inr (Or.inl z))))), by omega⟩
        · cases h
      · unfold parT at h
        rw [if_neg c1, if_neg c2, if_neg c3] at h
        cases h
/-- the run from place p with e events done: the row behind it, the fault (place, reason) if there is one, how many were done -/
def runS (T : Nat → Int32) (len : Nat) : Nat → (Nat → Int32) → Nat → Nat → (Nat → Int32) × Option (Nat × Nat) × Nat
  | 0, S, _, e => (S, none, e)
  | f + 1, S, p, e => if p < len then (match parT T len p with
      | none => (S, some (p, 1), e)
      | some (a, b, q) => bif rngS S (T p) a b then (bif posS S (T p) a b then runS T len f (doS S (T p) a b) q (e + 1) else (S, some (p, 3), e)) else (S, some (p, 2), e))
    else (S, none, e)
def codeS : Option (Nat × Nat) → Int32
  | none => -1
  | some (p, r) => nI (4 * p + r)
/-- what a run writes -/
def runOK (m : Nat) (I J : pw_I) : Prop := (∀ a, a ≠ m → a ≠ m + 1 → a ≠ m + 4 → a ≠ m + 5 → a ≠ m + 6 → J a = I a) ∧ ∀ k, k ≠ 9 → k ≠ 10 → k ≠ 11 → k ≠ 12 → J m k = I m k
theorem runOK.rf {m : Nat} {I : pw_I} : runOK m I I := ⟨fun _ _ _ _ _ _ => rfl, fun _ _ _ _ _ => rfl⟩
theorem runOK.fld {m : Nat} {I J J' : pw_I} (h : runOK m I J) (h2 : fldOK m J J') : runOK m I J' :=
  ⟨fun a a1 a2 a3 a4 a5 => (h2.1 a a1).trans (h.1 a a1 a2 a3 a4 a5), fun k k1 k2 k3 k4 => (h2.2 k k1 k2 k3).trans (h.2 k k1 k2 k3 k4)⟩
theorem runOK.scr {m : Nat} {I J J' : pw_I} (h : runOK m I J) (h2 : scrOK m J J') : runOK m I J' :=
  ⟨fun a a1 a2 a3 a4 a5 => (h2 a a3 a4 a5).trans (h.1 a a1 a2 a3 a4 a5), fun k k1 k2 k3 k4 => by rw [h2 m (by omega) (by omega) (by omega)]; exact h.2 k k1 k2 k3 k4⟩
theorem runOK.row {m : Nat} {I J : pw_I} (h : runOK m I J) {S : Nat → Int32} : runOK m I (pw_set J (m + 1) S) :=
  ⟨fun a a1 a2 a3 a4 a5 => by rw [set_n a2]; exact h.1 a a1 a2 a3 a4 a5, fun k k1 k2 k3 k4 => by rw [set_n (by omega)]; exact h.2 k k1 k2 k3 k4⟩
theorem runOK.up {m : Nat} {I J : pw_I} (h : runOK m I J) {k : Nat} {v : Int32} (hk : k = 9 ∨ k = 10 ∨ k = 11 ∨ k = 12) : runOK m I (pw_up J m k v) :=
  ⟨fun a a1 a2 a3 a4 a5 => by rw [up_set, set_n a1]; exact h.1 a a1 a2 a3 a4 a5, fun i k1 k2 k3 k4 => by rw [up_n (by omega)]; exact h.2 i k1 k2 k3 k4⟩
/-- what a run asks of the rows that it comes through -/
def RunInv (Ok : Nat → (Nat → Int32) → Prop) : Prop := ∀ e S, Ok e S → (InvB S ∧ InvT S ∧ OrdOK S ∧ TakeOK S) ∧ (e < 60 → ∀ x a b, isSgn x → a ≤ 99 → b ≤ 99 → rngS S x a b = true → posS S x a b = true → Ok (e + 1) (doS S x a b))
section RUN2
variable {n base m : Nat} {sh : pw_Sh} {P : pw_P} {Ag : List Value} {I : pw_I} {K : Option Value → pw_I → Prop}
def w_run (m : Nat) (Ok : Nat → (Nat → Int32) → Prop) : pw_Wp := fun Ag I K => match Ag with
  | [.ref o] => o = m ∧ RunInv Ok ∧ Ok 0 (I (m + 1)) ∧ ∃ len, I m 7 = nI len ∧ len ≤ 60 ∧ ∀ J, runOK m I J → J (m + 1) = (runS (I (m + 7)) len len (I (m + 1)) 0 0).1 → J m 12 = nI (runS (I (m + 7)) len len (I (m + 1)) 0 0).2.2 → K (some (.int (codeS (runS (I (m + 7)) len len (I (m + 1)) 0 0).2.1))) J
  | _ => False
set_option maxRecDepth 100000 in
set_option maxHeartbeats 4000000 in
theorem x_run (hM : pw_mod sh P m) {Ok : Nat → (Nat → Int32) → Prop} (h : w_run m Ok Ag I K) : pw_ok mX7_run 5 base n sh P Ag I K := by
  unfold w_run at h
  split at h
  · rename_i o
    obtain ⟨rfl, hR, hO, len, h7, hl, hA⟩ := h
    obtain ⟨h1, ⟨h2, h3⟩, -, -, -, -, -, h4, h5⟩ := id hM
    refine pw_bd [_, _, _] pl_X7 c_r rfl rfl ?_
    generalize hT : I (o + 7) = T at hA
    have loop : ∀ (f : Nat) (J : pw_I) (S : Nat → Int32) (p e : Nat), runOK o I J → J (o + 1) = S → Ok e S → J o 9 = nI p → p ≤ len → len ≤ p + f → e ≤ p → J o 12 = nI e →
        (∀ J, runOK o I J → J (o + 1) = (runS T len f S p e).1 → J o 12 = nI (runS T len f S p e).2.2 → K (some (.int (codeS (runS T len f S p e).2.1))) J) →
        ∀ z1 z2, PW (mX7_run, 5, 0, 0, none, base) n sh P J 0 0 10 [some (.ref o), z1, z2] [] (pw_QK n sh P K) := by
      intro f
      induction f with
      | zero =>
        intro J S p e hJ hS hOk e9 hp hf hep e12 hK z1 z2
        have j7 : J o 7 = nI len := (hJ.2 7 (by omega) (by omega) (by omega) (by omega)).trans h7
        refine PW.weak (L := [some (.ref o), none, none]) ?_ ⟨rfl, trivial⟩
        refine pw_go okX7_run (cc [(152, w_isSign), (148, (w_isForm o)), (149, (w_isRange o)), (150, (w_isPossible o)), (151, (w_goEvent o))]) ⟨Nat.le_refl _, Nat.le_refl _⟩ (cc_c (fun Ag I K h => ⟨0, Nat.le_of_ble_eq_true rfl, x_isSign h⟩) (cc_c (fun Ag I K h => ⟨2, Nat.le_of_ble_eq_true rfl, x_isForm hM h⟩) (cc_c (fun Ag I K h => ⟨2, Nat.le_of_ble_eq_true rfl, x_isRange hM h⟩) (cc_c (fun Ag I K h => ⟨4, Nat.le_of_ble_eq_true rfl, x_isPossible hM h⟩) (cc_c (fun Ag I K h => ⟨4, Nat.le_of_ble_eq_true rfl, x_goEvent hM h⟩) cc_n))))) (st1 10) 90 ?_
        simp only [↓f_vc_s, ↓vk_i, ↓cc_i, ↓reduceIte, f_vq_s, Bool.false_eq_true, ↓f_e_iconst, ↓f_e_bipush, ↓f_e_sipush, ↓f_e_ldc, ↓f_e_ldc_w, ↓f_e_iload_n, ↓f_e_iload, ↓f_e_aload_n, ↓f_e_aload, ↓f_e_istore_n, ↓f_e_istore, ↓f_e_astore_n, ↓f_e_astore, ↓f_e_iinc, ↓f_e_iadd, ↓f_e_isub, ↓f_e_imul, ↓f_e_iand, ↓f_e_ior, ↓f_e_ixor, ↓f_e_idiv, ↓f_e_irem, ↓f_e_ishl, ↓f_e_ishr, ↓f_e_iushr, ↓f_e_i2c, ↓f_e_dup, ↓f_e_dup2, ↓f_e_pop, ↓f_e_goto, ↓f_e_ifCond, ↓f_e_if_icmp, ↓f_e_tableswitch, ↓f_e_lookupswitch, ↓f_e_getfield_i, ↓f_e_getfield_r, ↓f_e_putfield_i, ↓f_e_putfield_z, ↓f_e_iaload, ↓f_e_caload, ↓f_e_aaload, ↓f_e_iastore, ↓f_e_castore, ↓f_e_arraylength, ↓f_e_invokestatic, ↓f_e_invokevirtual, ↓f_e_ireturn, ↓f_e_return_, ↓f_s_i_c, ↓f_s_r_c, ↓f_s_v_i, ↓f_s_v_r, ↓f_s_l_0, ↓s_l_1, ↓s_l_2, ↓s_l_3, ↓s_l_4, ↓s_l_5, ↓s_l_6, ↓s_a_0, ↓s_a_1, ↓s_a_2, ↓s_a_3, ↓s_m_0, ↓f_s_m_i, ↓f_s_m_r, ↓f_s_m_i7, ↓f_s_m_r7, ↓f_s_m_i6, ↓f_s_m_r6, ↓f_s_m_i5, ↓f_s_m_r5, ↓f_s_m_i4, ↓f_s_m_r4, ↓f_s_w_n, ↓f_s_w_c, ↓f_s_p_eq, ↓f_s_p_ne, ↓f_s_p_lt, ↓f_s_p_ge, ↓f_s_p_gt, ↓f_s_p_le, ↓nk_i, ↓nk_z, ↓nk_c, ↓rf_s, ↓ov_s, ↓ov_n, ↓fin0, ↓fin1, ↓fin2, ↓fin3, cond_true, cond_false, List.set_cons_zero, List.set_cons_succ, List.length_cons, List.length_nil, true_and, and_true, true_or, or_true, implies_true, forall_const, not_true_eq_false, not_false_eq_true, false_implies, Nat.reduceAdd, Nat.reduceLT, Nat.reduceBEq, Nat.reduceEqDiff, Bool.or_false, Bool.false_or, Bool.or_true, Bool.true_or, beq_self_eq_true, Nat.reduceLeDiff, Nat.reduceMul, Nat.reduceSub, eq_self, Nat.reduceBneDiff, st0_s, st1_s, st2_s, st3_s, reduceCtorEq, cc_0, tl_0, cl_0, il_0, tl_1, cl_1, il_1, tl_2, cl_2, il_2, tl_3, cl_3, il_3, tl_4, cl_4, il_4, tl_5, cl_5, il_5, tl_6, cl_6, il_6, tl_7, cl_7, il_7, tl_8, cl_8, il_8, tl_9, cl_9, il_9, tl_10, cl_10, il_10, tl_11, cl_11, il_11, tl_12, cl_12, il_12, tl_13, cl_13, il_13, tl_14, cl_14, il_14, tl_15, cl_15, il_15, tl_16, cl_16, il_16, tl_20, tl_21, tl_25, tl_32, tl_48, tl_50, tl_57, tl_58, tl_59, tl_60, tl_99, tl_100, tl_101, tl_108, tl_109, tl_116, tl_120, tl_126, tl_374, tl_1122, tl_50000, i10, i01, tl_m1, tl_m2, tl_m3, tl_m4, nr_X7_run, tX7_run_0, tX7_run_1, tX7_run_2, tX7_run_5, tX7_run_6, tX7_run_7, tX7_run_10, tX7_run_11, tX7_run_14, tX7_run_15, tX7_run_18, tX7_run_21, tX7_run_22, tX7_run_25, tX7_run_26, tX7_run_27, tX7_run_30, tX7_run_31, tX7_run_34, tX7_run_35, tX7_run_36, tX7_run_37, tX7_run_38, tX7_run_41, tX7_run_42, tX7_run_43, tX7_run_46, tX7_run_47, tX7_run_50, tX7_run_53, tX7_run_54, tX7_run_55, tX7_run_58, tX7_run_61, tX7_run_62, tX7_run_63, tX7_run_64, tX7_run_65, tX7_run_66, tX7_run_67, tX7_run_68, tX7_run_69, tX7_run_72, tX7_run_75, tX7_run_76, tX7_run_77, tX7_run_78, tX7_run_79, tX7_run_80, tX7_run_81, tX7_run_82, tX7_run_83, tX7_run_86, tX7_run_89, tX7_run_90, tX7_run_91, tX7_run_92, tX7_run_93, tX7_run_94, tX7_run_95, tX7_run_96, tX7_run_97, tX7_run_100, tX7_run_101, tX7_run_102, tX7_run_105, tX7_run_106, tX7_run_107, tX7_run_110, tX7_run_113, tX7_run_114, pw_QK_s, h1, h2, h3, h4, h5, ↓w_isSign, ↓w_isForm, ↓w_isRange, ↓w_isPossible, ↓w_goEvent]
        rw [j7, e9]
        exact ⟨fun _ => hK J hJ hS e12, fun q => absurd (nI_le (by omega) (by omega)) q⟩
      | succ f ih =>
        intro J S p e hJ hS hOk e9 hp hf hep e12 hK z1 z2
        have j7 : J o 7 = nI len := (hJ.2 7 (by omega) (by omega) (by omega) (by omega)).trans h7
        have jT : J (o + 7) = T := (hJ.1 (o + 7) (by omega) (by omega) (by omega) (by omega) (by omega)).trans hT
        obtain ⟨⟨iB, iT, iO, iK⟩, iN⟩ := hR e S hOk
        refine PW.weak (L := [some (.ref o), none, none]) ?_ ⟨rfl, trivial⟩
        refine pw_go okX7_run (cc [(152, w_isSign), (148, (w_isForm o)), (149, (w_isRange o)), (150, (w_isPossible o)), (151, (w_goEvent o))]) ⟨Nat.le_refl _, Nat.le_refl _⟩ (cc_c (fun Ag I K h => ⟨0, Nat.le_of_ble_eq_true rfl, x_isSign h⟩) (cc_c (fun Ag I K h => ⟨2, Nat.le_of_ble_eq_true rfl, x_isForm hM h⟩) (cc_c (fun Ag I K h => ⟨2, Nat.le_of_ble_eq_true rfl, x_isRange hM h⟩) (cc_c (fun Ag I K h => ⟨4, Nat.le_of_ble_eq_true rfl, x_isPossible hM h⟩) (cc_c (fun Ag I K h => ⟨4, Nat.le_of_ble_eq_true rfl, x_goEvent hM h⟩) cc_n))))) (st1 10) 90 ?_
        simp only [↓f_vc_s, ↓vk_i, ↓cc_i, ↓reduceIte, f_vq_s, Bool.false_eq_true, ↓f_e_iconst, ↓f_e_bipush, ↓f_e_sipush, ↓f_e_ldc, ↓f_e_ldc_w, ↓f_e_iload_n, ↓f_e_iload, ↓f_e_aload_n, ↓f_e_aload, ↓f_e_istore_n, ↓f_e_istore, ↓f_e_astore_n, ↓f_e_astore, ↓f_e_iinc, ↓f_e_iadd, ↓f_e_isub, ↓f_e_imul, ↓f_e_iand, ↓f_e_ior, ↓f_e_ixor, ↓f_e_idiv, ↓f_e_irem, ↓f_e_ishl, ↓f_e_ishr, ↓f_e_iushr, ↓f_e_i2c, ↓f_e_dup, ↓f_e_dup2, ↓f_e_pop, ↓f_e_goto, ↓f_e_ifCond, ↓f_e_if_icmp, ↓f_e_tableswitch, ↓f_e_lookupswitch, ↓f_e_getfield_i, ↓f_e_getfield_r, ↓f_e_putfield_i, ↓f_e_putfield_z, ↓f_e_iaload, ↓f_e_caload, ↓f_e_aaload, ↓f_e_iastore, ↓f_e_castore, ↓f_e_arraylength, ↓f_e_invokestatic, ↓f_e_invokevirtual, ↓f_e_ireturn, ↓f_e_return_, ↓f_s_i_c, ↓f_s_r_c, ↓f_s_v_i, ↓f_s_v_r, ↓f_s_l_0, ↓s_l_1, ↓s_l_2, ↓s_l_3, ↓s_l_4, ↓s_l_5, ↓s_l_6, ↓s_a_0, ↓s_a_1, ↓s_a_2, ↓s_a_3, ↓s_m_0, ↓f_s_m_i, ↓f_s_m_r, ↓f_s_m_i7, ↓f_s_m_r7, ↓f_s_m_i6, ↓f_s_m_r6, ↓f_s_m_i5, ↓f_s_m_r5, ↓f_s_m_i4, ↓f_s_m_r4, ↓f_s_w_n, ↓f_s_w_c, ↓f_s_p_eq, ↓f_s_p_ne, ↓f_s_p_lt, ↓f_s_p_ge, ↓f_s_p_gt, ↓f_s_p_le, ↓nk_i, ↓nk_z, ↓nk_c, ↓rf_s, ↓ov_s, ↓ov_n, ↓fin0, ↓fin1, ↓fin2, ↓fin3, cond_true, cond_false, List.set_cons_zero, List.set_cons_succ, List.length_cons, List.length_nil, true_and, and_true, true_or, or_true, implies_true, forall_const, not_true_eq_false, not_false_eq_true, false_implies, Nat.reduceAdd, Nat.reduceLT, Nat.reduceBEq, Nat.reduceEqDiff, Bool.or_false, Bool.false_or, Bool.or_true, Bool.true_or, beq_self_eq_true, Nat.reduceLeDiff, Nat.reduceMul, Nat.reduceSub, eq_self, Nat.reduceBneDiff, st0_s, st1_s, st2_s, st3_s, reduceCtorEq, cc_0, tl_0, cl_0, il_0, tl_1, cl_1, il_1, tl_2, cl_2, il_2, tl_3, cl_3, il_3, tl_4, cl_4, il_4, tl_5, cl_5, il_5, tl_6, cl_6, il_6, tl_7, cl_7, il_7, tl_8, cl_8, il_8, tl_9, cl_9, il_9, tl_10, cl_10, il_10, tl_11, cl_11, il_11, tl_12, cl_12, il_12, tl_13, cl_13, il_13, tl_14, cl_14, il_14, tl_15, cl_15, il_15, tl_16, cl_16, il_16, tl_20, tl_21, tl_25, tl_32, tl_48, tl_50, tl_57, tl_58, tl_59, tl_60, tl_99, tl_100, tl_101, tl_108, tl_109, tl_116, tl_120, tl_126, tl_374, tl_1122, tl_50000, i10, i01, tl_m1, tl_m2, tl_m3, tl_m4, nr_X7_run, tX7_run_0, tX7_run_1, tX7_run_2, tX7_run_5, tX7_run_6, tX7_run_7, tX7_run_10, tX7_run_11, tX7_run_14, tX7_run_15, tX7_run_18, tX7_run_21, tX7_run_22, tX7_run_25, tX7_run_26, tX7_run_27, tX7_run_30, tX7_run_31, tX7_run_34, tX7_run_35, tX7_run_36, tX7_run_37, tX7_run_38, tX7_run_41, tX7_run_42, tX7_run_43, tX7_run_46, tX7_run_47, tX7_run_50, tX7_run_53, tX7_run_54, tX7_run_55, tX7_run_58, tX7_run_61, tX7_run_62, tX7_run_63, tX7_run_64, tX7_run_65, tX7_run_66, tX7_run_67, tX7_run_68, tX7_run_69, tX7_run_72, tX7_run_75, tX7_run_76, tX7_run_77, tX7_run_78, tX7_run_79, tX7_run_80, tX7_run_81, tX7_run_82, tX7_run_83, tX7_run_86, tX7_run_89, tX7_run_90, tX7_run_91, tX7_run_92, tX7_run_93, tX7_run_94, tX7_run_95, tX7_run_96, tX7_run_97, tX7_run_100, tX7_run_101, tX7_run_102, tX7_run_105, tX7_run_106, tX7_run_107, tX7_run_110, tX7_run_113, tX7_run_114, pw_QK_s, h1, h2, h3, h4, h5, ↓w_isSign, ↓w_isForm, ↓w_isRange, ↓w_isPossible, ↓w_goEvent]
        rw [j7, e9, jT, cl_nI (by omega)]
        refine ⟨fun q => ?_, fun q => ?_⟩
        · have : ¬ p < len := fun z => nI_ge z (by omega) q
          rw [runS, if_neg this] at hK
          exact hK J hJ hS e12
        · have hlt : p < len := by
            rcases Nat.lt_or_ge p len with z | z
            · exact z
            · exact absurd (nI_le z (by omega)) q
          have c4 : ∀ r : Nat, r ≤ 3 → (4 : Int32) * nI p + nI r = nI (4 * p + r) := fun r hr => by
            rw [show (4 : Int32) * nI p = nI (4 * p) from pk_mul 4 p, nI_add]
          have hJ1 : runOK o I (pw_up J o 9 (nI p + 1)) := hJ.up (Or.inl rfl)
          have a9 : pw_up J o 9 (nI p + 1) o 9 = nI (p + 1) := by rw [up_r]; exact ix_1 p
          have a12 : pw_up J o 9 (nI p + 1) o 12 = nI e := by rw [up_n (by omega), e12]
          have aS : pw_up J o 9 (nI p + 1) (o + 1) = S := by rw [up_set, set_n (by omega), hS]
          have a7 : pw_up J o 9 (nI p + 1) o 7 = nI len := by rw [up_n (by omega), j7]
          have aT : pw_up J o 9 (nI p + 1) (o + 7) = T := by rw [up_set, set_n (by omega), jT]
          generalize pw_up J o 9 (nI p + 1) = J1 at hJ1 a9 a12 aS a7 aT ⊢
          have hN : parT T len p = none → ∀ J', fldOK o J1 J' → K (some (.int (4 * nI p + 1))) J' := fun z J' hJ' => by
            rw [runS, if_pos hlt, z] at hK
            have := hK J' (hJ1.fld hJ') (by rw [hJ'.1 _ (by omega), aS]) (by rw [hJ'.2 12 (by omega) (by omega) (by omega), a12])
            rw [codeS, ← c4 1 (by omega)] at this
            exact this
          refine ⟨in_nI (by omega) (by omega), fun hs => ⟨T, len, p, aT, a7, hl, a9, hlt, rfl, hs, hN, fun a b q hp2 J2 hJ2 b9 b10 b11 => ?_⟩, fun hs => hN ?_ J1 fldOK.rf⟩
          · obtain ⟨-, la, lb, lq, lq2⟩ := par_bd hp2
            have bS : J2 (o + 1) = S := by rw [hJ2.1 _ (by omega), aS]
            have b12 : J2 o 12 = nI e := by rw [hJ2.2 12 (by omega) (by omega) (by omega), a12]
            have hn : numOK o J2 a b := ⟨b10, b11, la, lb⟩
            have hJ3 := hJ1.fld hJ2
            rw [runS, if_pos hlt, hp2] at hK
            dsimp only at hK
            rw [bS]
            refine ⟨iB, hs, a, b, hn, fun r1 => ⟨iB, iT, iO, hs, a, b, hn, r1, fun r2 J4 hJ4 => ?_, fun r2 J4 hJ4 => ?_⟩, fun r1 => ?_⟩
            · have dS : J4 (o + 1) = S := by rw [hJ4 _ (by omega) (by omega) (by omega), bS]
              rw [dS]
              refine ⟨iB, iT, iO, iK, hs, a, b, ?_, r1, r2, fun J5 hJ5 => ?_⟩
              · unfold numOK
                rw [hJ4 o (by omega) (by omega) (by omega)]
                exact hn
              · have hJ6 := ((hJ3.scr hJ4).scr hJ5).row (S := doS S (T p) a b)
                have o5 : J5 o = J2 o := by rw [hJ5 o (by omega) (by omega) (by omega), hJ4 o (by omega) (by omega) (by omega)]
                rw [r1, cond_true, r2, cond_true] at hK
                refine ih _ (doS S (T p) a b) q (e + 1) (hJ6.up (Or.inr (Or.inr (Or.inr rfl)))) ?_ (iN (by omega) _ a b hs la lb r1 r2) ?_ lq2 (by omega) (by omega) ?_ hK _ _
                · rw [up_set, set_n (by omega), set_s]
                · rw [up_n (by omega), set_n (by omega), o5, b9]
                · rw [up_r, set_n (by omega), o5, b12]; exact ix_1 e
            · rw [r1, cond_true, r2, cond_false] at hK
              have := hK J4 (hJ3.scr hJ4) (by rw [hJ4 _ (by omega) (by omega) (by omega), bS]) (by rw [hJ4 o (by omega) (by omega) (by omega), b12])
              rw [codeS, ← c4 3 (by omega)] at this
              exact this
            · rw [r1, cond_false] at hK
              have := hK J2 hJ3 bS b12
              rw [codeS, ← c4 2 (by omega)] at this
              exact this
          · cases z : parT T len p with
            | none => rfl
            | some w =>
              obtain ⟨a, b, q⟩ := w
              exact absurd (par_bd z).1 hs
    refine pw_go okX7_run (cc []) ⟨Nat.le_refl _, Nat.le_refl _⟩ cc_n (st1 10) 60 ?_
    simp only [↓f_vc_s, ↓vk_i, ↓cc_i, ↓reduceIte, f_vq_s, Bool.false_eq_true, ↓f_e_iconst, ↓f_e_bipush, ↓f_e_sipush, ↓f_e_ldc, ↓f_e_ldc_w, ↓f_e_iload_n, ↓f_e_iload, ↓f_e_aload_n, ↓f_e_aload, ↓f_e_istore_n, ↓f_e_istore, ↓f_e_astore_n, ↓f_e_astore, ↓f_e_iinc, ↓f_e_iadd, ↓f_e_isub, ↓f_e_imul, ↓f_e_iand, ↓f_e_ior, ↓f_e_ixor, ↓f_e_idiv, ↓f_e_irem, ↓f_e_ishl, ↓f_e_ishr, ↓f_e_iushr, ↓f_e_i2c, ↓f_e_dup, ↓f_e_dup2, ↓f_e_pop, ↓f_e_goto, ↓f_e_ifCond, ↓f_e_if_icmp, ↓f_e_tableswitch, ↓f_e_lookupswitch, ↓f_e_getfield_i, ↓f_e_getfield_r, ↓f_e_putfield_i, ↓f_e_putfield_z, ↓f_e_iaload, ↓f_e_caload, ↓f_e_aaload, ↓f_e_iastore, ↓f_e_castore, ↓f_e_arraylength, ↓f_e_invokestatic, ↓f_e_invokevirtual, ↓f_e_ireturn, ↓f_e_return_, ↓f_s_i_c, ↓f_s_r_c, ↓f_s_v_i, ↓f_s_v_r, ↓f_s_l_0, ↓s_l_1, ↓s_l_2, ↓s_l_3, ↓s_l_4, ↓s_l_5, ↓s_l_6, ↓s_a_0, ↓s_a_1, ↓s_a_2, ↓s_a_3, ↓s_m_0, ↓f_s_m_i, ↓f_s_m_r, ↓f_s_m_i7, ↓f_s_m_r7, ↓f_s_m_i6, ↓f_s_m_r6, ↓f_s_m_i5, ↓f_s_m_r5, ↓f_s_m_i4, ↓f_s_m_r4, ↓f_s_w_n, ↓f_s_w_c, ↓f_s_p_eq, ↓f_s_p_ne, ↓f_s_p_lt, ↓f_s_p_ge, ↓f_s_p_gt, ↓f_s_p_le, ↓nk_i, ↓nk_z, ↓nk_c, ↓rf_s, ↓ov_s, ↓ov_n, ↓fin0, ↓fin1, ↓fin2, ↓fin3, cond_true, cond_false, List.set_cons_zero, List.set_cons_succ, List.length_cons, List.length_nil, true_and, and_true, true_or, or_true, implies_true, forall_const, not_true_eq_false, not_false_eq_true, false_implies, Nat.reduceAdd, Nat.reduceLT, Nat.reduceBEq, Nat.reduceEqDiff, Bool.or_false, Bool.false_or, Bool.or_true, Bool.true_or, beq_self_eq_true, Nat.reduceLeDiff, Nat.reduceMul, Nat.reduceSub, eq_self, Nat.reduceBneDiff, st0_s, st1_s, st2_s, st3_s, reduceCtorEq, cc_0, tl_0, cl_0, il_0, tl_1, cl_1, il_1, tl_2, cl_2, il_2, tl_3, cl_3, il_3, tl_4, cl_4, il_4, tl_5, cl_5, il_5, tl_6, cl_6, il_6, tl_7, cl_7, il_7, tl_8, cl_8, il_8, tl_9, cl_9, il_9, tl_10, cl_10, il_10, tl_11, cl_11, il_11, tl_12, cl_12, il_12, tl_13, cl_13, il_13, tl_14, cl_14, il_14, tl_15, cl_15, il_15, tl_16, cl_16, il_16, tl_20, tl_21, tl_25, tl_32, tl_48, tl_50, tl_57, tl_58, tl_59, tl_60, tl_99, tl_100, tl_101, tl_108, tl_109, tl_116, tl_120, tl_126, tl_374, tl_1122, tl_50000, i10, i01, tl_m1, tl_m2, tl_m3, tl_m4, nr_X7_run, tX7_run_0, tX7_run_1, tX7_run_2, tX7_run_5, tX7_run_6, tX7_run_7, tX7_run_10, tX7_run_11, tX7_run_14, tX7_run_15, tX7_run_18, tX7_run_21, tX7_run_22, tX7_run_25, tX7_run_26, tX7_run_27, tX7_run_30, tX7_run_31, tX7_run_34, tX7_run_35, tX7_run_36, tX7_run_37, tX7_run_38, tX7_run_41, tX7_run_42, tX7_run_43, tX7_run_46, tX7_run_47, tX7_run_50, tX7_run_53, tX7_run_54, tX7_run_55, tX7_run_58, tX7_run_61, tX7_run_62, tX7_run_63, tX7_run_64, tX7_run_65, tX7_run_66, tX7_run_67, tX7_run_68, tX7_run_69, tX7_run_72, tX7_run_75, tX7_run_76, tX7_run_77, tX7_run_78, tX7_run_79, tX7_run_80, tX7_run_81, tX7_run_82, tX7_run_83, tX7_run_86, tX7_run_89, tX7_run_90, tX7_run_91, tX7_run_92, tX7_run_93, tX7_run_94, tX7_run_95, tX7_run_96, tX7_run_97, tX7_run_100, tX7_run_101, tX7_run_102, tX7_run_105, tX7_run_106, tX7_run_107, tX7_run_110, tX7_run_113, tX7_run_114, pw_QK_s, h1]
    refine loop len _ (I (o + 1)) 0 0 ((runOK.rf.up (Or.inl rfl)).up (Or.inr (Or.inr (Or.inr rfl)))) ?_ hO ?_ (by omega) (by omega) (Nat.le_refl _) ?_ hA _ _
    · rw [up_set, set_n (by omega), up_set, set_n (by omega)]
    · rw [up_n (by omega), up_r]; rfl
    · rw [up_r]; rfl
  · exact h.elim
end RUN2
