/-! ticks one by one, or all at once; the class's text: signs, numbers, events -/
theorem sumF_add {f g h : Nat → Int32} : ∀ n, (∀ i, i < n → f i + g i = h i) → sumF f n + sumF g n = sumF h n
  | 0, _ => rfl
  | n + 1, e => by
    rw [sumF, sumF, sumF, ← sumF_add n (fun i hi => e i (by omega)), ← e n (by omega)]
    ac_rfl
theorem tick_eq {S : Nat → Int32} (h0 : 0 ≤ (S 0).toInt) : ∀ t : Nat, 1 ≤ t → (S 0).toInt + (t : Int) ≤ 2000000 → tickN t S = ackL (upd S 0 (S 0 + nI t)) (vN S 4) ∧ tickC t S = ackC (upd S 0 (S 0 + nI t)) (vN S 4)
  | 0, h, _ => absurd h (by omega)
  | 1, _, _ => by
    refine ⟨rfl, ?_⟩
    show 0 + ackC (upd S 0 (S 0 + 1)) (vN S 4) = _
    rw [Int32.zero_add]
    rfl
  | t + 2, _, hb => by
    obtain ⟨i1, i2⟩ := tick_eq h0 (t + 1) (by omega) (by omega)
    generalize hn : vN S 4 = n at i1 i2 ⊢
    have a0 : ackL (upd S 0 (S 0 + nI (t + 1))) n 0 = S 0 + nI (t + 1) := by rw [ackL_n _ (fun i _ => by omega), upd_s]
    have a4 : vN (ackL (upd S 0 (S 0 + nI (t + 1))) n) 4 = n := by
      show (ackL (upd S 0 (S 0 + nI (t + 1))) n 4).toNatClampNeg = n
      rw [ackL_n _ (fun i _ => by omega), upd_n (by omega)]
      exact hn
    have e1 : S 0 + nI (t + 1) + 1 = S 0 + nI (t + 2) := by rw [Int32.add_assoc, ix_1]
    have hA : (S 0 + nI (t + 1)).toInt = (S 0).toInt + (t + 1 : Nat) := by
      have := ti_nI (n := t + 1) (by omega)
      rw [ti_add (by omega) (by omega), this]
    have hC : (S 0 + nI (t + 2)).toInt = (S 0).toInt + (t + 2 : Nat) := by
      have := ti_nI (n := t + 2) (by omega)
      rw [ti_add (by omega) (by omega), this]
    have bot : ∀ p, p ≠ 0 → (∀ i, p ≠ 166 + 13 * i + 4) → ackL (upd S 0 (S 0 + nI (t + 1))) n p = S p := fun p h1 h2 => by rw [ackL_n _ (fun i _ => h2 i), upd_n h1]
    have dB : ∀ k, k < n → dueS (upd (ackL (upd S 0 (S 0 + nI (t + 1))) n) 0 (S 0 + nI (t + 2))) k = (dueS (upd S 0 (S 0 + nI (t + 2))) k && !dueS (upd S 0 (S 0 + nI (t + 1))) k) := fun k hk => by
      have e4 := ackL_at (S := upd S 0 (S 0 + nI (t + 1))) (k := k) n
      unfold dueS at e4 ⊢
      rw [upd_s, upd_n (show 166 + 13 * k + 4 ≠ 0 by omega), upd_n (show 166 + 13 * k + 11 ≠ 0 by omega), upd_s, upd_n (show 166 + 13 * k + 4 ≠ 0 by omega), upd_n (show 166 + 13 * k + 11 ≠ 0 by omega), upd_s, upd_n (show 166 + 13 * k + 4 ≠ 0 by omega), upd_n (show 166 + 13 * k + 11 ≠ 0 by omega), bot (166 + 13 * k + 11) (by omega) (fun i => by omega)]
      rw [upd_s, upd_n (show 166 + 13 * k + 4 ≠ 0 by omega), upd_n (show 166 + 13 * k + 11 ≠ 0 by omega)] at e4
      rw [e4]
      by_cases q : k < n ∧ (S (166 + 13 * k + 4) == 2 && decide (S (166 + 13 * k + 11) ≤ S 0 + nI (t + 1))) = true
      · rw [if_pos q, q.2, Bool.not_true, Bool.and_false, beq_f (by decide), Bool.false_and]
      · rw [if_neg q]
        have q2 : (S (166 + 13 * k + 4) == 2 && decide (S (166 + 13 * k + 11) ≤ S 0 + nI (t + 1))) = false := by
          cases e : (S (166 + 13 * k + 4) == 2 && decide (S (166 + 13 * k + 11) ≤ S 0 + nI (t + 1))) with
          | false => rfl
          | true => exact absurd ⟨hk, e⟩ q
        rw [q2, Bool.not_false, Bool.and_true]
    have dAC : ∀ k, dueS (upd S 0 (S 0 + nI (t + 1))) k = true → dueS (upd S 0 (S 0 + nI (t + 2))) k = true := fun k h => by
      unfold dueS at h ⊢
      rw [upd_s, upd_n (show 166 + 13 * k + 4 ≠ 0 by omega), upd_n (show 166 + 13 * k + 11 ≠ 0 by omega)] at h ⊢
      rw [Bool.and_eq_true, decide_eq_true_eq] at h ⊢
      refine ⟨h.1, ?_⟩
      have := h.2
      rw [ti_le] at this ⊢
      omega
    constructor
    · show tick1 (tickN (t + 1) S) = _
      rw [i1]
      unfold tick1
      rw [a0, a4, e1]
      funext p
      by_cases hp : ∃ i, p = 166 + 13 * i + 4
      · obtain ⟨k, rfl⟩ := hp
        rw [ackL_at, ackL_at, upd_n (by omega), upd_n (by omega), ackL_at, upd_n (by omega)]
        by_cases hk : k < n
        · rw [dB k hk]
          cases c1 : dueS (upd S 0 (S 0 + nI (t + 1))) k with
          | true =>
            rw [dAC k c1]
            simp [hk]
          | false =>
            cases c2 : dueS (upd S 0 (S 0 + nI (t + 2))) k with
            | true => simp [hk]
            | false => simp
        · rw [if_neg (fun z => hk z.1), if_neg (fun z => hk z.1), if_neg (fun z => hk z.1)]
      · have hp : ∀ i, p ≠ 166 + 13 * i + 4 := fun i e => hp ⟨i, e⟩
        rw [ackL_n _ (fun i _ => hp i), ackL_n _ (fun i _ => hp i)]
        by_cases e : p = 0
        · rw [e, upd_s, upd_s]
        · rw [upd_n e, upd_n e, bot p e hp]
    · show tickC (t + 1) S + ackC (upd (tickN (t + 1) S) 0 (tickN (t + 1) S 0 + 1)) (vN S 4) = _
      rw [i2, i1, a0, e1, hn]
      unfold ackC
      refine sumF_add n (fun k hk => ?_)
      rw [dB k hk]
      cases c1 : dueS (upd S 0 (S 0 + nI (t + 1))) k with
      | true => rw [dAC k c1]; rfl
      | false =>
        cases c2 : dueS (upd S 0 (S 0 + nI (t + 2))) k <;> rfl
theorem tick_ack {S : Nat → Int32} (hI : InvB S) {t : Nat} (h1 : 1 ≤ t) (h2 : t ≤ 99) : ackB (upd S 0 (S 0 + nI t)) = goTicksS S t ∧ ackC (upd S 0 (S 0 + nI t)) (vN S 4) = tickC t S := by
  have h0 := hI.t0
  obtain ⟨e1, e2⟩ := tick_eq h0.1 t h1 (by omega)
  have v4 : vN (upd S 0 (S 0 + nI t)) 4 = vN S 4 := by
    show (upd S 0 (S 0 + nI t) 4).toNatClampNeg = _
    rw [upd_n (by omega)]
  refine ⟨?_, e2.symm⟩
  unfold ackB goTicksS
  rw [v4, e1, e2, upd_n (by omega)]
/-- a text at e; its signs -/
def pw_txt (sh : pw_Sh) (P : pw_P) (e : Nat) : Prop := sh e = (1, 0) ∧ P e 0 = some (e + 1) ∧ sh (e + 1) = (9, 60)
def texR (I : pw_I) (e : Nat) (T : Nat → Int32) (len : Nat) : Prop := I e 1 = nI len ∧ len ≤ 60 ∧ ∀ i, i < len → I (e + 1) i = T i ∧ ∃ m : Nat, 32 ≤ m ∧ m ≤ 126 ∧ T i = nI m
def evOK (e : Nat) (I J : pw_I) : Prop := (∀ a, a ≠ e → J a = I a) ∧ ∀ k, k ≠ 3 → k ≠ 4 → k ≠ 5 → J e k = I e k
theorem evOK.rf {e : Nat} {I : pw_I} : evOK e I I := ⟨fun _ _ => rfl, fun _ _ _ _ => rfl⟩
theorem evOK.set {e : Nat} {I J : pw_I} (h : evOK e I J) {k : Nat} {v : Int32} (hk : k = 3 ∨ k = 4 ∨ k = 5) : evOK e I (pw_set J e (upd (J e) k v)) :=
  ⟨fun a ha => by rw [set_n ha]; exact h.1 a ha, fun i h1 h2 h3 => by rw [set_s, upd_n (by omega)]; exact h.2 i h1 h2 h3⟩
theorem texR.ev {I J : pw_I} {e : Nat} {T : Nat → Int32} {len : Nat} (h : texR I e T len) (hJ : evOK e I J) : texR J e T len :=
  ⟨(hJ.2 1 (by omega) (by omega) (by omega)).trans h.1, h.2.1, fun i hi => by rw [hJ.1 (e + 1) (by omega)]; exact h.2.2 i hi⟩
def sgT (T : Nat → Int32) (len p : Nat) : Int32 := if p < len then T p else 0
def dgI : Option Nat → Int32
  | none => -1
  | some d => nI d
section TXT
variable {n base e : Nat} {sh : pw_Sh} {P : pw_P} {Ag : List Value} {I : pw_I} {T : Nat → Int32} {len : Nat} {K : Option Value → pw_I → Prop}
def w_signAt (e : Nat) (T : Nat → Int32) (len : Nat) : pw_Wp := fun Ag I K => match Ag with
  | [.ref o, .int x] => o = e ∧ texR I e T len ∧ ∃ p, x = nI p ∧ p ≤ 100 ∧ K (some (.int (sgT T len p))) I
  | _ => False
set_option maxRecDepth 100000 in
set_option maxHeartbeats 4000000 in
theorem x_signAt (hM : pw_txt sh P e) (h : w_signAt e T len Ag I K) : pw_ok mX1_signAt 0 base n sh P Ag I K := by
  unfold w_signAt at h
  split at h
  · rename_i o x
    obtain ⟨rfl, hT, p, rfl, hp, hA⟩ := h
    obtain ⟨h1, h2, h3⟩ := hM
    obtain ⟨t1, t2, t3⟩ := hT
    have cp : (nI p).toNatClampNeg = p := cl_nI (by omega)
    refine pw_bd [_, _] pl_X1 c_ri rfl rfl ?_
    refine pw_go okX1_signAt (cc []) ⟨Nat.le_refl _, Nat.le_refl _⟩ cc_n (st0) 60 ?_
    simp only [↓f_vc_s, ↓vk_i, ↓cc_i, ↓reduceIte, f_vq_s, Bool.false_eq_true, ↓f_e_iconst, ↓f_e_bipush, ↓f_e_sipush, ↓f_e_ldc, ↓f_e_ldc_w, ↓f_e_iload_n, ↓f_e_iload, ↓f_e_aload_n, ↓f_e_aload, ↓f_e_istore_n, ↓f_e_istore, ↓f_e_astore_n, ↓f_e_astore, ↓f_e_iinc, ↓f_e_iadd, ↓f_e_isub, ↓f_e_imul, ↓f_e_iand, ↓f_e_ior, ↓f_e_ixor, ↓f_e_idiv, ↓f_e_irem, ↓f_e_ishl, ↓f_e_ishr, ↓f_e_iushr, ↓f_e_i2c, ↓f_e_dup, ↓f_e_dup2, ↓f_e_pop, ↓f_e_goto, ↓f_e_ifCond, ↓f_e_if_icmp, ↓f_e_tableswitch, ↓f_e_lookupswitch, ↓f_e_getfield_i, ↓f_e_getfield_r, ↓f_e_putfield_i, ↓f_e_putfield_z, ↓f_e_iaload, ↓f_e_caload, ↓f_e_aaload, ↓f_e_iastore, ↓f_e_castore, ↓f_e_arraylength, ↓f_e_invokestatic, ↓f_e_invokevirtual, ↓f_e_ireturn, ↓f_e_return_, ↓f_s_i_c, ↓f_s_r_c, ↓f_s_v_i, ↓f_s_v_r, ↓f_s_l_0, ↓s_l_1, ↓s_l_2, ↓s_l_3, ↓s_l_4, ↓s_l_5, ↓s_l_6, ↓s_a_0, ↓s_a_1, ↓s_a_2, ↓s_a_3, ↓s_m_0, ↓f_s_m_i, ↓f_s_m_r, ↓f_s_m_i7, ↓f_s_m_r7, ↓f_s_m_i6, ↓f_s_m_r6, ↓f_s_m_i5, ↓f_s_m_r5, ↓f_s_m_i4, ↓f_s_m_r4, ↓f_s_w_n, ↓f_s_w_c, ↓f_s_p_eq, ↓f_s_p_ne, ↓f_s_p_lt, ↓f_s_p_ge, ↓f_s_p_gt, ↓f_s_p_le, ↓nk_i, ↓nk_z, ↓nk_c, ↓rf_s, ↓ov_s, ↓ov_n, ↓fin0, ↓fin1, ↓fin2, ↓fin3, cond_true, cond_false, List.set_cons_zero, List.set_cons_succ, List.length_cons, List.length_nil, true_and, and_true, true_or, or_true, implies_true, forall_const, not_true_eq_false, not_false_eq_true, false_implies, Nat.reduceAdd, Nat.reduceLT, Nat.reduceBEq, Nat.reduceEqDiff, Bool.or_false, Bool.false_or, Bool.or_true, Bool.true_or, beq_self_eq_true, Nat.reduceLeDiff, Nat.reduceMul, Nat.reduceSub, eq_self, Nat.reduceBneDiff, st0_s, st1_s, st2_s, st3_s, reduceCtorEq, cc_0, tl_0, cl_0, il_0, tl_1, cl_1, il_1, tl_2, cl_2, il_2, tl_3, cl_3, il_3, tl_4, cl_4, il_4, tl_5, cl_5, il_5, tl_6, cl_6, il_6, tl_7, cl_7, il_7, tl_8, cl_8, il_8, tl_9, cl_9, il_9, tl_10, cl_10, il_10, tl_11, cl_11, il_11, tl_12, cl_12, il_12, tl_13, cl_13, il_13, tl_14, cl_14, il_14, tl_15, cl_15, il_15, tl_16, cl_16, il_16, tl_20, tl_21, tl_25, tl_32, tl_48, tl_50, tl_57, tl_58, tl_59, tl_60, tl_99, tl_100, tl_101, tl_108, tl_109, tl_116, tl_120, tl_126, tl_374, tl_1122, tl_50000, i10, i01, tl_m1, tl_m2, tl_m3, tl_m4, nr_X1_signAt, tX1_signAt_0, tX1_signAt_1, tX1_signAt_4, tX1_signAt_5, tX1_signAt_6, tX1_signAt_9, tX1_signAt_12, tX1_signAt_13, tX1_signAt_16, tX1_signAt_17, tX1_signAt_18, tX1_signAt_21, tX1_signAt_22, pw_QK_s, h1, h2, h3, t1, cp]
    refine ⟨fun q => absurd q (nI_pos (by omega)), fun _ => ⟨fun q => ?_, fun q => ?_⟩⟩
    · have hp2 : ¬ p < len := fun z => nI_ge z (by omega) q
      unfold sgT at hA
      rw [if_neg hp2] at hA
      exact ⟨⟨0, by omega, rfl⟩, hA⟩
    · have hp2 : p < len := by
        rcases Nat.lt_or_ge p len with z | z
        · exact z
        · exact absurd (nI_le z (by omega)) q
      obtain ⟨e1, m, m1, m2, m3⟩ := t3 p hp2
      unfold sgT at hA
      rw [if_pos hp2] at hA
      rw [e1]
      exact ⟨in_nI (by omega) (by omega), ⟨m, by omega, m3⟩, hA⟩
  · exact h.elim
def w_digitAt (e : Nat) (T : Nat → Int32) (len : Nat) : pw_Wp := fun Ag I K => match Ag with
  | [.ref o, .int x] => o = e ∧ texR I e T len ∧ ∃ p, x = nI p ∧ p ≤ 100 ∧ K (some (.int (dgI (dgT T len p)))) I
  | _ => False
set_option maxRecDepth 100000 in
set_option maxHeartbeats 4000000 in
theorem x_digitAt (hM : pw_txt sh P e) (h : w_digitAt e T len Ag I K) : pw_ok mX1_digitAt 1 base n sh P Ag I K := by
  unfold w_digitAt at h
  split at h
  · rename_i o x
    obtain ⟨rfl, hT, p, rfl, hp, hA⟩ := h
    obtain ⟨h1, h2, h3⟩ := id hM
    refine pw_bd [_, _, _] pl_X1 c_ri rfl rfl ?_
    refine pw_go okX1_digitAt (cc [(49, (w_signAt o T len))]) ⟨Nat.le_refl _, Nat.le_refl _⟩ (cc_c (fun Ag I K h => ⟨0, Nat.le_of_ble_eq_true rfl, x_signAt hM h⟩) cc_n) (st0) 60 ?_
    simp only [↓f_vc_s, ↓vk_i, ↓cc_i, ↓reduceIte, f_vq_s, Bool.false_eq_true, ↓f_e_iconst, ↓f_e_bipush, ↓f_e_sipush, ↓f_e_ldc, ↓f_e_ldc_w, ↓f_e_iload_n, ↓f_e_iload, ↓f_e_aload_n, ↓f_e_aload, ↓f_e_istore_n, ↓f_e_istore, ↓f_e_astore_n, ↓f_e_astore, ↓f_e_iinc, ↓f_e_iadd, ↓f_e_isub, ↓f_e_imul, ↓f_e_iand, ↓f_e_ior, ↓f_e_ixor, ↓f_e_idiv, ↓f_e_irem, ↓f_e_ishl, ↓f_e_ishr, ↓f_e_iushr, ↓f_e_i2c, ↓f_e_dup, ↓f_e_dup2, ↓f_e_pop, ↓f_e_goto, ↓f_e_ifCond, ↓f_e_if_icmp, ↓f_e_tableswitch, ↓f_e_lookupswitch, ↓f_e_getfield_i, ↓f_e_getfield_r, ↓f_e_putfield_i, ↓f_e_putfield_z, ↓f_e_iaload, ↓f_e_caload, ↓f_e_aaload, ↓f_e_iastore, ↓f_e_castore, ↓f_e_arraylength, ↓f_e_invokestatic, ↓f_e_invokevirtual, ↓f_e_ireturn, ↓f_e_return_, ↓f_s_i_c, ↓f_s_r_c, ↓f_s_v_i, ↓f_s_v_r, ↓f_s_l_0, ↓s_l_1, ↓s_l_2, ↓s_l_3, ↓s_l_4, ↓s_l_5, ↓s_l_6, ↓s_a_0, ↓s_a_1, ↓s_a_2, ↓s_a_3, ↓s_m_0, ↓f_s_m_i, ↓f_s_m_r, ↓f_s_m_i7, ↓f_s_m_r7, ↓f_s_m_i6, ↓f_s_m_r6, ↓f_s_m_i5, ↓f_s_m_r5, ↓f_s_m_i4, ↓f_s_m_r4, ↓f_s_w_n, ↓f_s_w_c, ↓f_s_p_eq, ↓f_s_p_ne, ↓f_s_p_lt, ↓f_s_p_ge, ↓f_s_p_gt, ↓f_s_p_le, ↓nk_i, ↓nk_z, ↓nk_c, ↓rf_s, ↓ov_s, ↓ov_n, ↓fin0, ↓fin1, ↓fin2, ↓fin3, cond_true, cond_false, List.set_cons_zero, List.set_cons_succ, List.length_cons, List.length_nil, true_and, and_true, true_or, or_true, implies_true, forall_const, not_true_eq_false, not_false_eq_true, false_implies, Nat.reduceAdd, Nat.reduceLT, Nat.reduceBEq, Nat.reduceEqDiff, Bool.or_false, Bool.false_or, Bool.or_true, Bool.true_or, beq_self_eq_true, Nat.reduceLeDiff, Nat.reduceMul, Nat.reduceSub, eq_self, Nat.reduceBneDiff, st0_s, st1_s, st2_s, st3_s, reduceCtorEq, cc_0, tl_0, cl_0, il_0, tl_1, cl_1, il_1, tl_2, cl_2, il_2, tl_3, cl_3, il_3, tl_4, cl_4, il_4, tl_5, cl_5, il_5, tl_6, cl_6, il_6, tl_7, cl_7, il_7, tl_8, cl_8, il_8, tl_9, cl_9, il_9, tl_10, cl_10, il_10, tl_11, cl_11, il_11, tl_12, cl_12, il_12, tl_13, cl_13, il_13, tl_14, cl_14, il_14, tl_15, cl_15, il_15, tl_16, cl_16, il_16, tl_20, tl_21, tl_25, tl_32, tl_48, tl_50, tl_57, tl_58, tl_59, tl_60, tl_99, tl_100, tl_101, tl_108, tl_109, tl_116, tl_120, tl_126, tl_374, tl_1122, tl_50000, i10, i01, tl_m1, tl_m2, tl_m3, tl_m4, nr_X1_digitAt, tX1_digitAt_0, tX1_digitAt_1, tX1_digitAt_2, tX1_digitAt_5, tX1_digitAt_6, tX1_digitAt_7, tX1_digitAt_9, tX1_digitAt_12, tX1_digitAt_13, tX1_digitAt_15, tX1_digitAt_18, tX1_digitAt_19, tX1_digitAt_21, tX1_digitAt_22, tX1_digitAt_25, tX1_digitAt_26, pw_QK_s, h1, h2, h3, ↓w_signAt]
    refine ⟨hT, p, rfl, hp, ?_⟩
    unfold sgT
    cases ed : dgT T len p with
    | none =>
      rw [ed] at hA
      by_cases q : p < len
      · rw [if_pos q]
        have := dg_none ed q
        refine ⟨fun _ => hA, fun z => ⟨fun _ => hA, fun z2 => absurd ⟨Int32.not_lt.mp z, Int32.not_lt.mp z2⟩ this⟩⟩
      · rw [if_neg q]
        exact ⟨fun _ => hA, fun z => absurd (by decide) z⟩
    | some d =>
      rw [ed] at hA
      obtain ⟨q1, q2, q3, q4⟩ := dg_some ed
      rw [if_pos q1]
      have e9 : T p - 48 = nI d := by
        rw [q3]
        exact (pk_sub (a := 48 + d) (b := 48) (by omega)).trans (by rw [Nat.add_sub_cancel_left])
      rw [e9]
      exact ⟨fun z => absurd q2.1 (Int32.not_le.mpr z), fun _ => ⟨fun z => absurd q2.2 (Int32.not_le.mpr z), fun _ => hA⟩⟩
  · exact h.elim
def w_readNumber (e : Nat) (T : Nat → Int32) (len : Nat) : pw_Wp := fun Ag I K => match Ag with
  | [.ref o] => o = e ∧ texR I e T len ∧ ∃ p, I e 3 = nI p ∧ p ≤ 90 ∧ (numT T len p = none → K (some (.int (-1))) I) ∧ (∀ v q, numT T len p = some (v, q) → K (some (.int (nI v))) (pw_set I e (upd (I e) 3 (nI q))))
  | _ => False
set_option maxRecDepth 100000 in
set_option maxHeartbeats 4000000 in
theorem x_readNumber (hM : pw_txt sh P e) (h : w_readNumber e T len Ag I K) : pw_ok mX1_readNumber 2 base n sh P Ag I K := by
  unfold w_readNumber at h
  split at h
  · rename_i o
    obtain ⟨rfl, hT, p, e3, hp, hA, hB⟩ := h
    obtain ⟨h1, h2, h3⟩ := id hM
    refine pw_bd [_, _, _] pl_X1 c_r rfl rfl ?_
    unfold numT at hA hB
    cases e1 : dgT T len p with
    | none =>
      have hA := hA (by rw [e1])
      refine pw_go okX1_readNumber (cc [(48, (w_digitAt o T len))]) ⟨Nat.le_refl _, Nat.le_refl _⟩ (cc_c (fun Ag I K h => ⟨1, Nat.le_of_ble_eq_true rfl, x_digitAt hM h⟩) cc_n) (st1 16) 60 ?_
      simp only [↓f_vc_s, ↓vk_i, ↓cc_i, ↓reduceIte, f_vq_s, Bool.false_eq_true, ↓f_e_iconst, ↓f_e_bipush, ↓f_e_sipush, ↓f_e_ldc, ↓f_e_ldc_w, ↓f_e_iload_n, ↓f_e_iload, ↓f_e_aload_n, ↓f_e_aload, ↓f_e_istore_n, ↓f_e_istore, ↓f_e_astore_n, ↓f_e_astore, ↓f_e_iinc, ↓f_e_iadd, ↓f_e_isub, ↓f_e_imul, ↓f_e_iand, ↓f_e_ior, ↓f_e_ixor, ↓f_e_idiv, ↓f_e_irem, ↓f_e_ishl, ↓f_e_ishr, ↓f_e_iushr, ↓f_e_i2c, ↓f_e_dup, ↓f_e_dup2, ↓f_e_pop, ↓f_e_goto, ↓f_e_ifCond, ↓f_e_if_icmp, ↓f_e_tableswitch, ↓f_e_lookupswitch, ↓f_e_getfield_i, ↓f_e_getfield_r, ↓f_e_putfield_i, ↓f_e_putfield_z, ↓f_e_iaload, ↓f_e_caload, ↓f_e_aaload, ↓f_e_iastore, ↓f_e_castore, ↓f_e_arraylength, ↓f_e_invokestatic, ↓f_e_invokevirtual, ↓f_e_ireturn, ↓f_e_return_, ↓f_s_i_c, ↓f_s_r_c, ↓f_s_v_i, ↓f_s_v_r, ↓f_s_l_0, ↓s_l_1, ↓s_l_2, ↓s_l_3, ↓s_l_4, ↓s_l_5, ↓s_l_6, ↓s_a_0, ↓s_a_1, ↓s_a_2, ↓s_a_3, ↓s_m_0, ↓f_s_m_i, ↓f_s_m_r, ↓f_s_m_i7, ↓f_s_m_r7, ↓f_s_m_i6, ↓f_s_m_r6, ↓f_s_m_i5, ↓f_s_m_r5, ↓f_s_m_i4, ↓f_s_m_r4, ↓f_s_w_n, ↓f_s_w_c, ↓f_s_p_eq, ↓f_s_p_ne, ↓f_s_p_lt, ↓f_s_p_ge, ↓f_s_p_gt, ↓f_s_p_le, ↓nk_i, ↓nk_z, ↓nk_c, ↓rf_s, ↓ov_s, ↓ov_n, ↓fin0, ↓fin1, ↓fin2, ↓fin3, cond_true, cond_false, List.set_cons_zero, List.set_cons_succ, List.length_cons, List.length_nil, true_and, and_true, true_or, or_true, implies_true, forall_const, not_true_eq_false, not_false_eq_true, false_implies, Nat.reduceAdd, Nat.reduceLT, Nat.reduceBEq, Nat.reduceEqDiff, Bool.or_false, Bool.false_or, Bool.or_true, Bool.true_or, beq_self_eq_true, Nat.reduceLeDiff, Nat.reduceMul, Nat.reduceSub, eq_self, Nat.reduceBneDiff, st0_s, st1_s, st2_s, st3_s, reduceCtorEq, cc_0, tl_0, cl_0, il_0, tl_1, cl_1, il_1, tl_2, cl_2, il_2, tl_3, cl_3, il_3, tl_4, cl_4, il_4, tl_5, cl_5, il_5, tl_6, cl_6, il_6, tl_7, cl_7, il_7, tl_8, cl_8, il_8, tl_9, cl_9, il_9, tl_10, cl_10, il_10, tl_11, cl_11, il_11, tl_12, cl_12, il_12, tl_13, cl_13, il_13, tl_14, cl_14, il_14, tl_15, cl_15, il_15, tl_16, cl_16, il_16, tl_20, tl_21, tl_25, tl_32, tl_48, tl_50, tl_57, tl_58, tl_59, tl_60, tl_99, tl_100, tl_101, tl_108, tl_109, tl_116, tl_120, tl_126, tl_374, tl_1122, tl_50000, i10, i01, tl_m1, tl_m2, tl_m3, tl_m4, nr_X1_readNumber, tX1_readNumber_0, tX1_readNumber_1, tX1_readNumber_2, tX1_readNumber_5, tX1_readNumber_8, tX1_readNumber_9, tX1_readNumber_10, tX1_readNumber_11, tX1_readNumber_14, tX1_readNumber_15, tX1_readNumber_16, tX1_readNumber_17, tX1_readNumber_18, tX1_readNumber_21, tX1_readNumber_22, tX1_readNumber_23, tX1_readNumber_26, tX1_readNumber_27, tX1_readNumber_28, tX1_readNumber_31, tX1_readNumber_34, tX1_readNumber_35, tX1_readNumber_36, tX1_readNumber_37, tX1_readNumber_40, tX1_readNumber_41, tX1_readNumber_42, tX1_readNumber_43, tX1_readNumber_44, tX1_readNumber_47, tX1_readNumber_48, tX1_readNumber_49, tX1_readNumber_52, tX1_readNumber_54, tX1_readNumber_55, tX1_readNumber_56, tX1_readNumber_57, tX1_readNumber_58, pw_QK_s, h1, h2, h3, e3, ↓w_digitAt]
      refine ⟨hT, p, rfl, by omega, ?_⟩
      rw [e1]
      exact ⟨fun q => absurd rfl q, fun _ => hA⟩
    | some d =>
      rw [e1] at hB
      dsimp only at hB
      obtain ⟨-, -, -, d9⟩ := dg_some e1
      have nm : ∀ d, d ≤ 9 → ¬ dgI (some d) = -1 := fun d hd z => by
        have := congrArg Int32.toInt z
        rw [show dgI (some d) = nI d from rfl, ti_nI (by omega)] at this
        exact absurd this (by show ¬ _ = (-1 : Int); omega)
      have e3' : I o 3 + 1 = nI (p + 1) := by rw [e3, ix_1]
      have hT2 : texR (pw_set I o (upd (I o) 3 (nI (p + 1)))) o T len := hT.ev (evOK.rf.set (Or.inl rfl))
      have tail : PW (mX1_readNumber, 2, 0, 0, none, base) n sh P (pw_set I o (upd (I o) 3 (nI (p + 1)))) 0 0 26 [some (.ref o), some (.int (nI d)), none] [] (pw_QK n sh P K) := by
        have r3 : pw_set I o (upd (I o) 3 (nI (p + 1))) o 3 = nI (p + 1) := by rw [set_s, upd_s]
        cases e2 : dgT T len (p + 1) with
        | none =>
          have hB := hB d (p + 1) (by rw [e2])
          refine pw_go okX1_readNumber (cc [(48, (w_digitAt o T len))]) ⟨Nat.le_refl _, Nat.le_refl _⟩ (cc_c (fun Ag I K h => ⟨1, Nat.le_of_ble_eq_true rfl, x_digitAt hM h⟩) cc_n) (st1 42) 60 ?_
          simp only [↓f_vc_s, ↓vk_i, ↓cc_i, ↓reduceIte, f_vq_s, Bool.false_eq_true, ↓f_e_iconst, ↓f_e_bipush, ↓f_e_sipush, ↓f_e_ldc, ↓f_e_ldc_w, ↓f_e_iload_n, ↓f_e_iload, ↓f_e_aload_n, ↓f_e_aload, ↓f_e_istore_n, ↓f_e_istore, ↓f_e_astore_n, ↓f_e_astore, ↓f_e_iinc, ↓f_e_iadd, ↓f_e_isub, ↓f_e_imul, ↓f_e_iand, ↓f_e_ior, ↓f_e_ixor, ↓f_e_idiv, ↓f_e_irem, ↓f_e_ishl, ↓f_e_ishr, ↓f_e_iushr, ↓f_e_i2c, ↓f_e_dup, ↓f_e_dup2, ↓f_e_pop, ↓f_e_goto, ↓f_e_ifCond, ↓f_e_if_icmp, ↓f_e_tableswitch, ↓f_e_lookupswitch, ↓f_e_getfield_i, ↓f_e_getfield_r, ↓f_e_putfield_i, ↓f_e_putfield_z, ↓f_e_iaload, ↓f_e_caload, ↓f_e_aaload, ↓f_e_iastore, ↓f_e_castore, ↓f_e_arraylength, ↓f_e_invokestatic, ↓f_e_invokevirtual, ↓f_e_ireturn, ↓f_e_return_, ↓f_s_i_c, ↓f_s_r_c, ↓f_s_v_i, ↓f_s_v_r, ↓f_s_l_0, ↓s_l_1, ↓s_l_2, ↓s_l_3, ↓s_l_4, ↓s_l_5, ↓s_l_6, ↓s_a_0, ↓s_a_1, ↓s_a_2, ↓s_a_3, ↓s_m_0, ↓f_s_m_i, ↓f_s_m_r, ↓f_s_m_i7, ↓f_s_m_r7, ↓f_s_m_i6, ↓f_s_m_r6, ↓f_s_m_i5, ↓f_s_m_r5, ↓f_s_m_i4, ↓f_s_m_r4, ↓f_s_w_n, ↓f_s_w_c, ↓f_s_p_eq, ↓f_s_p_ne, ↓f_s_p_lt, ↓f_s_p_ge, ↓f_s_p_gt, ↓f_s_p_le, ↓nk_i, ↓nk_z, ↓nk_c, ↓rf_s, ↓ov_s, ↓ov_n, ↓fin0, ↓fin1, ↓fin2, ↓fin3, cond_true, cond_false, List.set_cons_zero, List.set_cons_succ, List.length_cons, List.length_nil, true_and, and_true, true_or, or_true, implies_true, forall_const, not_true_eq_false, not_false_eq_true, false_implies, Nat.reduceAdd, Nat.reduceLT, Nat.reduceBEq, Nat.reduceEqDiff, Bool.or_false, Bool.false_or, Bool.or_true, Bool.true_or, beq_self_eq_true, Nat.reduceLeDiff, Nat.reduceMul, Nat.reduceSub, eq_self, Nat.reduceBneDiff, st0_s, st1_s, st2_s, st3_s, reduceCtorEq, cc_0, tl_0, cl_0, il_0, tl_1, cl_1, il_1, tl_2, cl_2, il_2, tl_3, cl_3, il_3, tl_4, cl_4, il_4, tl_5, cl_5, il_5, tl_6, cl_6, il_6, tl_7, cl_7, il_7, tl_8, cl_8, il_8, tl_9, cl_9, il_9, tl_10, cl_10, il_10, tl_11, cl_11, il_11, tl_12, cl_12, il_12, tl_13, cl_13, il_13, tl_14, cl_14, il_14, tl_15, cl_15, il_15, tl_16, cl_16, il_16, tl_20, tl_21, tl_25, tl_32, tl_48, tl_50, tl_57, tl_58, tl_59, tl_60, tl_99, tl_100, tl_101, tl_108, tl_109, tl_116, tl_120, tl_126, tl_374, tl_1122, tl_50000, i10, i01, tl_m1, tl_m2, tl_m3, tl_m4, nr_X1_readNumber, tX1_readNumber_0, tX1_readNumber_1, tX1_readNumber_2, tX1_readNumber_5, tX1_readNumber_8, tX1_readNumber_9, tX1_readNumber_10, tX1_readNumber_11, tX1_readNumber_14, tX1_readNumber_15, tX1_readNumber_16, tX1_readNumber_17, tX1_readNumber_18, tX1_readNumber_21, tX1_readNumber_22, tX1_readNumber_23, tX1_readNumber_26, tX1_readNumber_27, tX1_readNumber_28, tX1_readNumber_31, tX1_readNumber_34, tX1_readNumber_35, tX1_readNumber_36, tX1_readNumber_37, tX1_readNumber_40, tX1_readNumber_41, tX1_readNumber_42, tX1_readNumber_43, tX1_readNumber_44, tX1_readNumber_47, tX1_readNumber_48, tX1_readNumber_49, tX1_readNumber_52, tX1_readNumber_54, tX1_readNumber_55, tX1_readNumber_56, tX1_readNumber_57, tX1_readNumber_58, pw_QK_s, h1, h2, h3, r3, ↓w_digitAt]
          refine ⟨hT2, p + 1, rfl, by omega, ?_⟩
          rw [e2]
          exact ⟨fun q => absurd rfl q, fun _ => hB⟩
        | some d2 =>
          have hB := hB (10 * d + d2) (p + 2) (by rw [e2])
          obtain ⟨-, -, -, d29⟩ := dg_some e2
          refine pw_go okX1_readNumber (cc [(48, (w_digitAt o T len))]) ⟨Nat.le_refl _, Nat.le_refl _⟩ (cc_c (fun Ag I K h => ⟨1, Nat.le_of_ble_eq_true rfl, x_digitAt hM h⟩) cc_n) (st0) 60 ?_
          simp only [↓f_vc_s, ↓vk_i, ↓cc_i, ↓reduceIte, f_vq_s, Bool.false_eq_true, ↓f_e_iconst, ↓f_e_bipush, ↓f_e_sipush, ↓f_e_ldc, ↓f_e_ldc_w, ↓f_e_iload_n, ↓f_e_iload, ↓f_e_aload_n, ↓f_e_aload, ↓f_e_istore_n, ↓f_e_istore, ↓f_e_astore_n, ↓f_e_astore, ↓f_e_iinc, ↓f_e_iadd, ↓f_e_isub, ↓f_e_imul, ↓f_e_iand, ↓f_e_ior, ↓f_e_ixor, ↓f_e_idiv, ↓f_e_irem, ↓f_e_ishl, ↓f_e_ishr, ↓f_e_iushr, ↓f_e_i2c, ↓f_e_dup, ↓f_e_dup2, ↓f_e_pop, ↓f_e_goto, ↓f_e_ifCond, ↓f_e_if_icmp, ↓f_e_tableswitch, ↓f_e_lookupswitch, ↓f_e_getfield_i, ↓f_e_getfield_r, ↓f_e_putfield_i, ↓f_e_putfield_z, ↓f_e_iaload, ↓f_e_caload, ↓f_e_aaload, ↓f_e_iastore, ↓f_e_castore, ↓f_e_arraylength, ↓f_e_invokestatic, ↓f_e_invokevirtual, ↓f_e_ireturn, ↓f_e_return_, ↓f_s_i_c, ↓f_s_r_c, ↓f_s_v_i, ↓f_s_v_r, ↓f_s_l_0, ↓s_l_1, ↓s_l_2, ↓s_l_3, ↓s_l_4, ↓s_l_5, ↓s_l_6, ↓s_a_0, ↓s_a_1, ↓s_a_2, ↓s_a_3, ↓s_m_0, ↓f_s_m_i, ↓f_s_m_r, ↓f_s_m_i7, ↓f_s_m_r7, ↓f_s_m_i6, ↓f_s_m_r6, ↓f_s_m_i5, ↓f_s_m_r5, ↓f_s_m_i4, ↓f_s_m_r4, ↓f_s_w_n, ↓f_s_w_c, ↓f_s_p_eq, ↓f_s_p_ne, ↓f_s_p_lt, ↓f_s_p_ge, ↓f_s_p_gt, ↓f_s_p_le, ↓nk_i, ↓nk_z, ↓nk_c, ↓rf_s, ↓ov_s, ↓ov_n, ↓fin0, ↓fin1, ↓fin2, ↓fin3, cond_true, cond_false, List.set_cons_zero, List.set_cons_succ, List.length_cons, List.length_nil, true_and, and_true, true_or, or_true, implies_true, forall_const, not_true_eq_false, not_false_eq_true, false_implies, Nat.reduceAdd, Nat.reduceLT, Nat.reduceBEq, Nat.reduceEqDiff, Bool.or_false, Bool.false_or, Bool.or_true, Bool.true_or, beq_self_eq_true, Nat.reduceLeDiff, Nat.reduceMul, Nat.reduceSub, eq_self, Nat.reduceBneDiff, st0_s, st1_s, st2_s, st3_s, reduceCtorEq, cc_0, tl_0, cl_0, il_0, tl_1, cl_1, il_1, tl_2, cl_2, il_2, tl_3, cl_3, il_3, tl_4, cl_4, il_4, tl_5, cl_5, il_5, tl_6, cl_6, il_6, tl_7, cl_7, il_7, tl_8, cl_8, il_8, tl_9, cl_9, il_9, tl_10, cl_10, il_10, tl_11, cl_11, il_11, tl_12, cl_12, il_12, tl_13, cl_13, il_13, tl_14, cl_14, il_14, tl_15, cl_15, il_15, tl_16, cl_16, il_16, tl_20, tl_21, tl_25, tl_32, tl_48, tl_50, tl_57, tl_58, tl_59, tl_60, tl_99, tl_100, tl_101, tl_108, tl_109, tl_116, tl_120, tl_126, tl_374, tl_1122, tl_50000, i10, i01, tl_m1, tl_m2, tl_m3, tl_m4, nr_X1_readNumber, tX1_readNumber_0, tX1_readNumber_1, tX1_readNumber_2, tX1_readNumber_5, tX1_readNumber_8, tX1_readNumber_9, tX1_readNumber_10, tX1_readNumber_11, tX1_readNumber_14, tX1_readNumber_15, tX1_readNumber_16, tX1_readNumber_17, tX1_readNumber_18, tX1_readNumber_21, tX1_readNumber_22, tX1_readNumber_23, tX1_readNumber_26, tX1_readNumber_27, tX1_readNumber_28, tX1_readNumber_31, tX1_readNumber_34, tX1_readNumber_35, tX1_readNumber_36, tX1_readNumber_37, tX1_readNumber_40, tX1_readNumber_41, tX1_readNumber_42, tX1_readNumber_43, tX1_readNumber_44, tX1_readNumber_47, tX1_readNumber_48, tX1_readNumber_49, tX1_readNumber_52, tX1_readNumber_54, tX1_readNumber_55, tX1_readNumber_56, tX1_readNumber_57, tX1_readNumber_58, pw_QK_s, h1, h2, h3, r3, ↓w_digitAt]
          refine ⟨hT2, p + 1, rfl, by omega, ?_⟩
          rw [e2]
          refine ⟨fun q => ?_, fun q => absurd q (nm d2 d29)⟩
          rw [ix_1, up_set, set_s, set_set, upd_upd, show (10 : Int32) * nI d + dgI (some d2) = nI (10 * d + d2) by rw [show (10 : Int32) * nI d = nI (10 * d) from pk_mul 10 d]; exact nI_add _ _]
          exact hB
      refine pw_go okX1_readNumber (cc [(48, (w_digitAt o T len))]) ⟨Nat.le_refl _, Nat.le_refl _⟩ (cc_c (fun Ag I K h => ⟨1, Nat.le_of_ble_eq_true rfl, x_digitAt hM h⟩) cc_n) (st1 26) 60 ?_
      simp only [↓f_vc_s, ↓vk_i, ↓cc_i, ↓reduceIte, f_vq_s, Bool.false_eq_true, ↓f_e_iconst, ↓f_e_bipush, ↓f_e_sipush, ↓f_e_ldc, ↓f_e_ldc_w, ↓f_e_iload_n, ↓f_e_iload, ↓f_e_aload_n, ↓f_e_aload, ↓f_e_istore_n, ↓f_e_istore, ↓f_e_astore_n, ↓f_e_astore, ↓f_e_iinc, ↓f_e_iadd, ↓f_e_isub, ↓f_e_imul, ↓f_e_iand, ↓f_e_ior, ↓f_e_ixor, ↓f_e_idiv, ↓f_e_irem, ↓f_e_ishl, ↓f_e_ishr, ↓f_e_iushr, ↓f_e_i2c, ↓f_e_dup, ↓f_e_dup2, ↓f_e_pop, ↓f_e_goto, ↓f_e_ifCond, ↓f_e_if_icmp, ↓f_e_tableswitch, ↓f_e_lookupswitch, ↓f_e_getfield_i, ↓f_e_getfield_r, ↓f_e_putfield_i, ↓f_e_putfield_z, ↓f_e_iaload, ↓f_e_caload, ↓f_e_aaload, ↓f_e_iastore, ↓f_e_castore, ↓f_e_arraylength, ↓f_e_invokestatic, ↓f_e_invokevirtual, ↓f_e_ireturn, ↓f_e_return_, ↓f_s_i_c, ↓f_s_r_c, ↓f_s_v_i, ↓f_s_v_r, ↓f_s_l_0, ↓s_l_1, ↓s_l_2, ↓s_l_3, ↓s_l_4, ↓s_l_5, ↓s_l_6, ↓s_a_0, ↓s_a_1, ↓s_a_2, ↓s_a_3, ↓s_m_0, ↓f_s_m_i, ↓f_s_m_r, ↓f_s_m_i7, ↓f_s_m_r7, ↓f_s_m_i6, ↓f_s_m_r6, ↓f_s_m_i5, ↓f_s_m_r5, ↓f_s_m_i4, ↓f_s_m_r4, ↓f_s_w_n, ↓f_s_w_c, ↓f_s_p_eq, ↓f_s_p_ne, ↓f_s_p_lt, ↓f_s_p_ge, ↓f_s_p_gt, ↓f_s_p_le, ↓nk_i, ↓nk_z, ↓nk_c, ↓rf_s, ↓ov_s, ↓ov_n, ↓fin0, ↓fin1, ↓fin2, ↓fin3, cond_true, cond_false, List.set_cons_zero, List.set_cons_succ, List.length_cons, List.length_nil, true_and, and_true, true_or, or_true, implies_true, forall_const, not_true_eq_false, not_false_eq_true, false_implies, Nat.reduceAdd, Nat.reduceLT, Nat.reduceBEq, Nat.reduceEqDiff, Bool.or_false, Bool.false_or, Bool.or_true, Bool.true_or, beq_self_eq_true, Nat.reduceLeDiff, Nat.reduceMul, Nat.reduceSub, eq_self, Nat.reduceBneDiff, st0_s, st1_s, st2_s, st3_s, reduceCtorEq, cc_0, tl_0, cl_0, il_0, tl_1, cl_1, il_1, tl_2, cl_2, il_2, tl_3, cl_3, il_3, tl_4, cl_4, il_4, tl_5, cl_5, il_5, tl_6, cl_6, il_6, tl_7, cl_7, il_7, tl_8, cl_8, il_8, tl_9, cl_9, il_9, tl_10, cl_10, il_10, tl_11, cl_11, il_11, tl_12, cl_12, il_12, tl_13, cl_13, il_13, tl_14, cl_14, il_14, tl_15, cl_15, il_15, tl_16, cl_16, il_16, tl_20, tl_21, tl_25, tl_32, tl_48, tl_50, tl_57, tl_58, tl_59, tl_60, tl_99, tl_100, tl_101, tl_108, tl_109, tl_116, tl_120, tl_126, tl_374, tl_1122, tl_50000, i10, i01, tl_m1, tl_m2, tl_m3, tl_m4, nr_X1_readNumber, tX1_readNumber_0, tX1_readNumber_1, tX1_readNumber_2, tX1_readNumber_5, tX1_readNumber_8, tX1_readNumber_9, tX1_readNumber_10, tX1_readNumber_11, tX1_readNumber_14, tX1_readNumber_15, tX1_readNumber_16, tX1_readNumber_17, tX1_readNumber_18, tX1_readNumber_21, tX1_readNumber_22, tX1_readNumber_23, tX1_readNumber_26, tX1_readNumber_27, tX1_readNumber_28, tX1_readNumber_31, tX1_readNumber_34, tX1_readNumber_35, tX1_readNumber_36, tX1_readNumber_37, tX1_readNumber_40, tX1_readNumber_41, tX1_readNumber_42, tX1_readNumber_43, tX1_readNumber_44, tX1_readNumber_47, tX1_readNumber_48, tX1_readNumber_49, tX1_readNumber_52, tX1_readNumber_54, tX1_readNumber_55, tX1_readNumber_56, tX1_readNumber_57, tX1_readNumber_58, pw_QK_s, h1, h2, h3, e3, ↓w_digitAt]
      refine ⟨hT, p, rfl, by omega, ?_⟩
      rw [e1, ix_1, up_set]
      exact ⟨fun q => tail, fun q => absurd q (nm d d9)⟩
  · exact h.elim
def w_readSign (e : Nat) (T : Nat → Int32) (len : Nat) : pw_Wp := fun Ag I K => match Ag with
  | [.ref o, .int c] => o = e ∧ texR I e T len ∧ ¬ c = 0 ∧ ∃ p, I e 3 = nI p ∧ p ≤ 90 ∧ (semiT T len p c = false → K (some (.int 0)) (pw_set I e (upd (I e) 3 (nI (p + 1))))) ∧ (semiT T len p c = true → K (some (.int 1)) (pw_set I e (upd (I e) 3 (nI (p + 1)))))
  | _ => False
set_option maxRecDepth 100000 in
set_option maxHeartbeats 4000000 in
theorem x_readSign (hM : pw_txt sh P e) (h : w_readSign e T len Ag I K) : pw_ok mX1_readSign 1 base n sh P Ag I K := by
  unfold w_readSign at h
  split at h
  · rename_i o c
    obtain ⟨rfl, hT, hc, p, e3, hp, hA, hB⟩ := h
    obtain ⟨h1, h2, h3⟩ := id hM
    refine pw_bd [_, _, _] pl_X1 c_ri rfl rfl ?_
    refine pw_go okX1_readSign (cc [(49, (w_signAt o T len))]) ⟨Nat.le_refl _, Nat.le_refl _⟩ (cc_c (fun Ag I K h => ⟨0, Nat.le_of_ble_eq_true rfl, x_signAt hM h⟩) cc_n) (st0) 60 ?_
    simp only [↓f_vc_s, ↓vk_i, ↓cc_i, ↓reduceIte, f_vq_s, Bool.false_eq_true, ↓f_e_iconst, ↓f_e_bipush, ↓f_e_sipush, ↓f_e_ldc, ↓f_e_ldc_w, ↓f_e_iload_n, ↓f_e_iload, ↓f_e_aload_n, ↓f_e_aload, ↓f_e_istore_n, ↓f_e_istore, ↓f_e_astore_n, ↓f_e_astore, ↓f_e_iinc, ↓f_e_iadd, ↓f_e_isub, ↓f_e_imul, ↓f_e_iand, ↓f_e_ior, ↓f_e_ixor, ↓f_e_idiv, ↓f_e_irem, ↓f_e_ishl, ↓f_e_ishr, ↓f_e_iushr, ↓f_e_i2c, ↓f_e_dup, ↓f_e_dup2, ↓f_e_pop, ↓f_e_goto, ↓f_e_ifCond, ↓f_e_if_icmp, ↓f_e_tableswitch, ↓f_e_lookupswitch, ↓f_e_getfield_i, ↓f_e_getfield_r, ↓f_e_putfield_i, ↓f_e_putfield_z, ↓f_e_iaload, ↓f_e_caload, ↓f_e_aaload, ↓f_e_iastore, ↓f_e_castore, ↓f_e_arraylength, ↓f_e_invokestatic, ↓f_e_invokevirtual, ↓f_e_ireturn, ↓f_e_return_, ↓f_s_i_c, ↓f_s_r_c, ↓f_s_v_i, ↓f_s_v_r, ↓f_s_l_0, ↓s_l_1, ↓s_l_2, ↓s_l_3, ↓s_l_4, ↓s_l_5, ↓s_l_6, ↓s_a_0, ↓s_a_1, ↓s_a_2, ↓s_a_3, ↓s_m_0, ↓f_s_m_i, ↓f_s_m_r, ↓f_s_m_i7, ↓f_s_m_r7, ↓f_s_m_i6, ↓f_s_m_r6, ↓f_s_m_i5, ↓f_s_m_r5, ↓f_s_m_i4, ↓f_s_m_r4, ↓f_s_w_n, ↓f_s_w_c, ↓f_s_p_eq, ↓f_s_p_ne, ↓f_s_p_lt, ↓f_s_p_ge, ↓f_s_p_gt, ↓f_s_p_le, ↓nk_i, ↓nk_z, ↓nk_c, ↓rf_s, ↓ov_s, ↓ov_n, ↓fin0, ↓fin1, ↓fin2, ↓fin3, cond_true, cond_false, List.set_cons_zero, List.set_cons_succ, List.length_cons, List.length_nil, true_and, and_true, true_or, or_true, implies_true, forall_const, not_true_eq_false, not_false_eq_true, false_implies, Nat.reduceAdd, Nat.reduceLT, Nat.reduceBEq, Nat.reduceEqDiff, Bool.or_false, Bool.false_or, Bool.or_true, Bool.true_or, beq_self_eq_true, Nat.reduceLeDiff, Nat.reduceMul, Nat.reduceSub, eq_self, Nat.reduceBneDiff, st0_s, st1_s, st2_s, st3_s, reduceCtorEq, cc_0, tl_0, cl_0, il_0, tl_1, cl_1, il_1, tl_2, cl_2, il_2, tl_3, cl_3, il_3, tl_4, cl_4, il_4, tl_5, cl_5, il_5, tl_6, cl_6, il_6, tl_7, cl_7, il_7, tl_8, cl_8, il_8, tl_9, cl_9, il_9, tl_10, cl_10, il_10, tl_11, cl_11, il_11, tl_12, cl_12, il_12, tl_13, cl_13, il_13, tl_14, cl_14, il_14, tl_15, cl_15, il_15, tl_16, cl_16, il_16, tl_20, tl_21, tl_25, tl_32, tl_48, tl_50, tl_57, tl_58, tl_59, tl_60, tl_99, tl_100, tl_101, tl_108, tl_109, tl_116, tl_120, tl_126, tl_374, tl_1122, tl_50000, i10, i01, tl_m1, tl_m2, tl_m3, tl_m4, nr_X1_readSign, tX1_readSign_0, tX1_readSign_1, tX1_readSign_2, tX1_readSign_5, tX1_readSign_8, tX1_readSign_9, tX1_readSign_12, tX1_readSign_13, tX1_readSign_16, tX1_readSign_17, tX1_readSign_18, tX1_readSign_19, tX1_readSign_20, tX1_readSign_23, tX1_readSign_24, tX1_readSign_25, tX1_readSign_28, tX1_readSign_29, pw_QK_s, h1, h2, h3, e3, ↓w_signAt]
    refine ⟨hT, p, rfl, by omega, ?_⟩
    rw [ix_1, up_set]
    unfold semiT at hA hB
    unfold sgT
    by_cases q : p < len
    · rw [if_pos q]
      rw [decide_eq_true q, Bool.true_and] at hA hB
      exact ⟨fun z => hA (beq_f z), fun z => hB (beq_t z)⟩
    · rw [if_neg q]
      rw [decide_eq_false q, Bool.false_and] at hA
      exact ⟨fun z => hA rfl, fun z => absurd z.symm hc⟩
  · exact h.elim
end TXT
