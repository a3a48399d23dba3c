/-! the class's board: who is next; the walk through the tree -/
theorem way_self {S : Nat → Int32} (h : InvB S) {j : Nat} (hj : j < 6) : j ∈ wayS S j := by
  rcases Nat.eq_zero_or_pos j with e | e
  · subst e; rw [wayS_0]; exact List.mem_singleton.mpr rfl
  · rw [wayS_s h e hj]; exact List.mem_cons_self
theorem way_up {S : Nat → Int32} (h : InvB S) {c : Nat} (hc : 1 ≤ c) : ∀ x, x < 6 → c ∈ wayS S x → onS S c ∈ wayS S x := by
  intro x
  induction x using Nat.strongRecOn with
  | ind x ih =>
    intro hx hm
    rcases Nat.eq_zero_or_pos x with e | e
    · subst e; rw [wayS_0, List.mem_singleton] at hm; omega
    · have ho := h.on x e hx
      rw [wayS_s h e hx] at hm ⊢
      rcases List.mem_cons.mp hm with z | z
      · subst z; exact List.mem_cons_of_mem _ (way_self h (by omega))
      · exact List.mem_cons_of_mem _ (ih _ ho (by omega) z)
theorem way_uniq {S : Nat → Int32} (h : InvB S) {c c' : Nat} (hc : 1 ≤ c) (hc' : 1 ≤ c') (he : onS S c = onS S c') : ∀ x, x < 6 → c ∈ wayS S x → c' ∈ wayS S x → c = c' := by
  intro x
  induction x using Nat.strongRecOn with
  | ind x ih =>
    intro hx hm hm'
    rcases Nat.eq_zero_or_pos x with e | e
    · subst e; rw [wayS_0, List.mem_singleton] at hm; omega
    · have ho := h.on x e hx
      rw [wayS_s h e hx] at hm hm'
      rcases List.mem_cons.mp hm with z | z <;> rcases List.mem_cons.mp hm' with z' | z'
      · omega
      · have := way_le h _ (by omega) _ z'
        have := h.on c' hc' (by omega)
        subst z; omega
      · have := way_le h _ (by omega) _ z
        have := h.on c hc (by omega)
        subst z'; omega
      · exact ih _ ho (by omega) z z'
def stpN (S : Nat → Int32) : Nat → Nat → Nat
  | 0, _ => 0
  | f + 1, j => ((entL S j).map (fun e => if e < 100 then 1 else 1 + stpN S f (e - 100))).sum + 1
def stpR (S : Nat → Int32) (f j p : Nat) : Nat := (((entL S j).drop p).map (fun e => if e < 100 then 1 else 1 + stpN S f (e - 100))).sum + 1
theorem stpN_R (S : Nat → Int32) (f j : Nat) : stpN S (f + 1) j = stpR S f j 0 := rfl
theorem stpR_end {S : Nat → Int32} {f j : Nat} : stpR S f j (cntS S j) = 1 := by
  unfold stpR entL
  rw [List.drop_of_length_le (by simp)]
  rfl
theorem stpR_step {S : Nat → Int32} {f j p : Nat} (h : p < cntS S j) : stpR S f j p = (if entS S j p < 100 then 1 else 1 + stpN S f (entS S j p - 100)) + stpR S f j (p + 1) := by
  unfold stpR
  have hl : p < (entL S j).length := by simp [entL]; exact h
  rw [List.drop_eq_getElem_cons hl, List.map_cons, List.sum_cons, Nat.add_assoc]
  congr 1
  simp [entL]
/-- the walk ends in time -/
def WalkOK (S : Nat → Int32) : Prop := stpN S 6 0 ≤ 27
def lowA (S : Nat → Int32) : Option Nat → Int32
  | none => lowS S
  | some c => S (166 + 13 * c + 1) + 1
theorem pick_low {S : Nat → Int32} (hI : InvB S) {acc : Option Nat} (ha : ∀ c, acc = some c → c < 16 ∧ readyS S c = true) {k : Nat} (hk : k < 16) :
    (S (166 + 13 * k + 3) == 1 && (S (166 + 13 * k + 4) == 0 && (decide (lowA S acc ≤ S (166 + 13 * k + 1)) && !hidS S k))) = (readyS S k && aboveS S k acc) := by
  cases acc with
  | none =>
    rw [show lowA S none = lowS S from rfl, low_ready hI, show aboveS S k none = true from rfl, Bool.and_true]
  | some c =>
    obtain ⟨hc, hr⟩ := ha c rfl
    have hr := ready_iff.mp hr
    have rc := (hI.2.2.2.2.2.1 c hc).2.1
    have e : (S (166 + 13 * c + 1) + 1).toInt = (S (166 + 13 * c + 1)).toInt + 1 := ti_add (y := 1) (by show _ ≤ _ + 1; omega) (by show _ + 1 < _; omega)
    have key : decide (S (166 + 13 * c + 1) + 1 ≤ S (166 + 13 * k + 1)) = decide (S (166 + 13 * c + 1) < S (166 + 13 * k + 1)) := by
      rw [Bool.eq_iff_iff, decide_eq_true_eq, decide_eq_true_eq, ti_le, ti_lt, e]
      omega
    show (S (166 + 13 * k + 3) == 1 && (S (166 + 13 * k + 4) == 0 && (decide (S (166 + 13 * c + 1) + 1 ≤ S (166 + 13 * k + 1)) && !hidS S k))) = (readyS S k && decide (S (166 + 13 * c + 1) < S (166 + 13 * k + 1)))
    rw [key]
    unfold readyS
    by_cases q : S (166 + 13 * c + 1) < S (166 + 13 * k + 1)
    · have q1 : S 1 ≤ S (166 + 13 * k + 1) := by have := hr.2.2.2.1; simp only [ti_le, ti_lt] at this q ⊢; omega
      have q2 : leastS S < S (166 + 13 * k + 1) := by have := hr.2.2.2.2; simp only [ti_lt] at this q ⊢; omega
      rw [decide_eq_true q, decide_eq_true q1, decide_eq_true q2]
      cases (S (166 + 13 * k + 3) == 1) <;> cases (S (166 + 13 * k + 4) == 0) <;> cases hidS S k <;> rfl
    · rw [decide_eq_false q]
      simp
def wkOK (b : Nat) (I J : pw_I) : Prop := ∀ a, a ≠ b + 41 → J a = I a
theorem wkOK.brd {b : Nat} {I J : pw_I} (h : wkOK b I J) : brdOK b I J := fun a ha => h a (by omega)
theorem RelB.wk {I J : pw_I} {b : Nat} {S : Nat → Int32} (h : RelB I b S) (hJ : wkOK b I J) : RelB J b S := by
  obtain ⟨hF, hN, hL, hS, hY, W, w1, w2, w3⟩ := h
  refine ⟨?_, fun j hj => ?_, fun k hk => ?_, ?_, hY.to (fun k _ => by rw [hJ _ (by omega)]) (fun j _ => by rw [hJ _ (by omega)]) rfl (fun k _ => rfl), W, ?_, ?_, w3⟩
  · unfold relF; rw [hJ b (by omega)]; exact hF
  · unfold relN; rw [hJ (b + 2 + 3 * j) (by omega), hJ (b + 3 + 3 * j) (by omega), hJ (b + 4 + 3 * j) (by omega)]; exact hN j hj
  · unfold relL; rw [hJ (b + 21 + k) (by omega)]; exact hL k hk
  · unfold relS; rw [hJ (b + 37) (by omega), hJ (b + 38) (by omega)]; exact hS
  · rw [hJ (b + 39) (by omega)]; exact w1
  · rw [hJ (b + 40) (by omega)]; exact w2
section WLK
variable {n base b : Nat} {sh : pw_Sh} {P : pw_P} {Ag : List Value} {I : pw_I} {S : Nat → Int32} {K : Option Value → pw_I → Prop}
def w_nextLine0 (b : Nat) (S : Nat → Int32) : pw_Wp := fun Ag I K => match Ag with
  | [.ref o] => o = b ∧ InvB S ∧ InvT S ∧ WalkOK S ∧ RelB I b S ∧ ∀ J, wkOK b I J → K (some (.int (optI (nextS S)))) J
  | _ => False
set_option maxRecDepth 100000 in
set_option maxHeartbeats 4000000 in
theorem x_nextLine0 (hM : pw_brd sh P b) (h : w_nextLine0 b S Ag I K) : pw_ok mX0_nextLine 2 base n sh P Ag I K := by
  unfold w_nextLine0 at h
  split at h
  · rename_i o
    obtain ⟨rfl, hI, hT, hW, hR, hA⟩ := h
    obtain ⟨b0, ⟨b1, b2⟩, bN, ⟨b3, b4⟩, bL, -, -, b5, b6⟩ := id hM
    have h3 := hI.1
    have h4 := hI.2.1
    have l3 : (S 3).toInt = (vN S 3 : Int) := (congrArg Int32.toInt h3.1).trans (ti_nI (by omega))
    refine pw_bd [_, _, _, _, _, _] pl_X0 c_r rfl rfl ?_
    have exit : ∀ (J : pw_I) (u v t : Int32), wkOK o I J → K (some (.int u)) J → PW (mX0_nextLine, 2, 0, 0, none, base) n sh P J 0 0 33 [some (.ref o), some (.int u), some (.int v), some (.int (-1)), some (.int t), none] [] (pw_QK n sh P K) := by
      intro J u v t hJ hK
      have rF := (hR.wk hJ).1
      refine pw_go okX0_nextLine (cc [(2, (w_hasNode o S))]) ⟨Nat.le_refl _, Nat.le_refl _⟩ (cc_c (fun Ag I K h => ⟨0, Nat.le_of_ble_eq_true rfl, x_hasNode hM h⟩) cc_n) (st2 33 48) 60 ?_
      simp only [↓f_vc_s, ↓vk_i, ↓cc_i, ↓reduceIte, f_vq_s, Bool.false_eq_true, ↓f_e_iconst, ↓f_e_bipush, ↓f_e_sipush, ↓f_e_ldc, ↓f_e_ldc_w, ↓f_e_iload_n, ↓f_e_iload, ↓f_e_aload_n, ↓f_e_aload, ↓f_e_istore_n, ↓f_e_istore, ↓f_e_astore_n, ↓f_e_astore, ↓f_e_iinc, ↓f_e_iadd, ↓f_e_isub, ↓f_e_imul, ↓f_e_iand, ↓f_e_ior, ↓f_e_ixor, ↓f_e_idiv, ↓f_e_irem, ↓f_e_ishl, ↓f_e_ishr, ↓f_e_iushr, ↓f_e_i2c, ↓f_e_dup, ↓f_e_dup2, ↓f_e_pop, ↓f_e_goto, ↓f_e_ifCond, ↓f_e_if_icmp, ↓f_e_tableswitch, ↓f_e_lookupswitch, ↓f_e_getfield_i, ↓f_e_getfield_r, ↓f_e_putfield_i, ↓f_e_putfield_z, ↓f_e_iaload, ↓f_e_caload, ↓f_e_aaload, ↓f_e_iastore, ↓f_e_castore, ↓f_e_arraylength, ↓f_e_invokestatic, ↓f_e_invokevirtual, ↓f_e_ireturn, ↓f_e_return_, ↓f_s_i_c, ↓f_s_r_c, ↓f_s_v_i, ↓f_s_v_r, ↓f_s_l_0, ↓s_l_1, ↓s_l_2, ↓s_l_3, ↓s_l_4, ↓s_l_5, ↓s_l_6, ↓s_a_0, ↓s_a_1, ↓s_a_2, ↓s_a_3, ↓s_m_0, ↓f_s_m_i, ↓f_s_m_r, ↓f_s_m_i7, ↓f_s_m_r7, ↓f_s_m_i6, ↓f_s_m_r6, ↓f_s_m_i5, ↓f_s_m_r5, ↓f_s_m_i4, ↓f_s_m_r4, ↓f_s_w_n, ↓f_s_w_c, ↓f_s_p_eq, ↓f_s_p_ne, ↓f_s_p_lt, ↓f_s_p_ge, ↓f_s_p_gt, ↓f_s_p_le, ↓nk_i, ↓nk_z, ↓nk_c, ↓rf_s, ↓ov_s, ↓ov_n, ↓fin0, ↓fin1, ↓fin2, ↓fin3, cond_true, cond_false, List.set_cons_zero, List.set_cons_succ, List.length_cons, List.length_nil, true_and, and_true, true_or, or_true, implies_true, forall_const, not_true_eq_false, not_false_eq_true, false_implies, Nat.reduceAdd, Nat.reduceLT, Nat.reduceBEq, Nat.reduceEqDiff, Bool.or_false, Bool.false_or, Bool.or_true, Bool.true_or, beq_self_eq_true, Nat.reduceLeDiff, Nat.reduceMul, Nat.reduceSub, eq_self, Nat.reduceBneDiff, st0_s, st1_s, st2_s, st3_s, reduceCtorEq, cc_0, tl_0, cl_0, il_0, tl_1, cl_1, il_1, tl_2, cl_2, il_2, tl_3, cl_3, il_3, tl_4, cl_4, il_4, tl_5, cl_5, il_5, tl_6, cl_6, il_6, tl_7, cl_7, il_7, tl_8, cl_8, il_8, tl_9, cl_9, il_9, tl_10, cl_10, il_10, tl_11, cl_11, il_11, tl_12, cl_12, il_12, tl_13, cl_13, il_13, tl_14, cl_14, il_14, tl_15, cl_15, il_15, tl_16, cl_16, il_16, tl_20, tl_21, tl_25, tl_32, tl_48, tl_50, tl_57, tl_58, tl_59, tl_60, tl_99, tl_100, tl_101, tl_108, tl_109, tl_116, tl_120, tl_126, tl_374, tl_1122, tl_50000, i10, i01, tl_m1, tl_m2, tl_m3, tl_m4, nr_X0_nextLine, tX0_nextLine_0, tX0_nextLine_1, tX0_nextLine_2, tX0_nextLine_3, tX0_nextLine_6, tX0_nextLine_7, tX0_nextLine_8, tX0_nextLine_9, tX0_nextLine_10, tX0_nextLine_12, tX0_nextLine_15, tX0_nextLine_16, tX0_nextLine_19, tX0_nextLine_20, tX0_nextLine_21, tX0_nextLine_22, tX0_nextLine_25, tX0_nextLine_28, tX0_nextLine_29, tX0_nextLine_30, tX0_nextLine_31, tX0_nextLine_33, tX0_nextLine_35, tX0_nextLine_37, tX0_nextLine_40, tX0_nextLine_41, tX0_nextLine_42, tX0_nextLine_45, tX0_nextLine_48, tX0_nextLine_49, tX0_nextLine_52, tX0_nextLine_53, tX0_nextLine_54, tX0_nextLine_57, tX0_nextLine_58, tX0_nextLine_61, tX0_nextLine_62, tX0_nextLine_63, tX0_nextLine_66, tX0_nextLine_68, tX0_nextLine_69, tX0_nextLine_72, tX0_nextLine_73, tX0_nextLine_74, tX0_nextLine_75, tX0_nextLine_76, tX0_nextLine_77, tX0_nextLine_78, tX0_nextLine_80, tX0_nextLine_81, tX0_nextLine_84, tX0_nextLine_85, tX0_nextLine_88, tX0_nextLine_89, tX0_nextLine_90, tX0_nextLine_93, tX0_nextLine_94, tX0_nextLine_97, tX0_nextLine_99, tX0_nextLine_101, tX0_nextLine_104, tX0_nextLine_106, tX0_nextLine_108, tX0_nextLine_109, tX0_nextLine_110, tX0_nextLine_113, tX0_nextLine_114, tX0_nextLine_116, tX0_nextLine_117, tX0_nextLine_120, tX0_nextLine_123, tX0_nextLine_125, tX0_nextLine_126, tX0_nextLine_127, tX0_nextLine_130, tX0_nextLine_132, tX0_nextLine_133, tX0_nextLine_136, tX0_nextLine_137, tX0_nextLine_138, tX0_nextLine_139, tX0_nextLine_142, tX0_nextLine_145, tX0_nextLine_146, pw_QK_s, b0, ↓w_hasNode]
      exact ⟨fun _ => hK, fun _ => ⟨rF, fun q => absurd q.1 (by decide), fun _ => hK⟩⟩
    have stepA : ∀ (J : pw_I) (u v : Int32) (j p t : Nat), wkOK o I J → j < vN S 3 → p ≤ cntS S j → J (o + 41) j = nI p → t < 27 →
        PW (mX0_nextLine, 2, 0, 0, none, base) n sh P (pw_up J (o + 41) j (nI p + 1)) 0 0 78 [some (.ref o), some (.int u), some (.int v), some (.int (nI j)), some (.int (nI t)), some (.int (if p < cntS S j then S (16 + 25 * j + 4 + p) else -1))] [] (pw_QK n sh P K) →
        PW (mX0_nextLine, 2, 0, 0, none, base) n sh P J 0 0 33 [some (.ref o), some (.int u), some (.int v), some (.int (nI j)), some (.int (nI t)), none] [] (pw_QK n sh P K) := by
      intro J u v j p t hJ hj hp hw ht hn
      have hRJ := hR.wk hJ
      have rF := hRJ.1
      have hj6 : j < 6 := by omega
      have hc := (hI.2.2.2.1 j hj6).2.2
      have hc2 : cntS S j ≤ 21 := hc.2
      have cj : (nI j).toNatClampNeg = j := cl_nI (by omega)
      have cp : (nI p).toNatClampNeg = p := cl_nI (by omega)
      have tj : (nI j).toInt = (j : Int) := ti_nI (by omega)
      have tp : (nI p).toInt = (p : Int) := ti_nI (by omega)
      have tc : (S (16 + 25 * j + 3)).toInt = (cntS S j : Int) := (congrArg Int32.toInt hc.1).trans (ti_nI (by omega))
      obtain ⟨⟨n1, n2⟩, n4, n5⟩ := bN j hj6
      obtain ⟨r1, r2, r3, r4, r5⟩ := hRJ.2.1 j hj6
      refine pw_go okX0_nextLine (cc [(2, (w_hasNode o S)), (60, (w_get (o + 3 + 3 * j) (o + 4 + 3 * j)))]) ⟨Nat.le_refl _, Nat.le_refl _⟩ (cc_c (fun Ag I K h => ⟨0, Nat.le_of_ble_eq_true rfl, x_hasNode hM h⟩) (cc_c (fun Ag I K h => ⟨0, Nat.le_of_ble_eq_true rfl, x_get n5 h⟩) cc_n)) (st2 33 78) 60 ?_
      simp only [↓f_vc_s, ↓vk_i, ↓cc_i, ↓reduceIte, f_vq_s, Bool.false_eq_true, ↓f_e_iconst, ↓f_e_bipush, ↓f_e_sipush, ↓f_e_ldc, ↓f_e_ldc_w, ↓f_e_iload_n, ↓f_e_iload, ↓f_e_aload_n, ↓f_e_aload, ↓f_e_istore_n, ↓f_e_istore, ↓f_e_astore_n, ↓f_e_astore, ↓f_e_iinc, ↓f_e_iadd, ↓f_e_isub, ↓f_e_imul, ↓f_e_iand, ↓f_e_ior, ↓f_e_ixor, ↓f_e_idiv, ↓f_e_irem, ↓f_e_ishl, ↓f_e_ishr, ↓f_e_iushr, ↓f_e_i2c, ↓f_e_dup, ↓f_e_dup2, ↓f_e_pop, ↓f_e_goto, ↓f_e_ifCond, ↓f_e_if_icmp, ↓f_e_tableswitch, ↓f_e_lookupswitch, ↓f_e_getfield_i, ↓f_e_getfield_r, ↓f_e_putfield_i, ↓f_e_putfield_z, ↓f_e_iaload, ↓f_e_caload, ↓f_e_aaload, ↓f_e_iastore, ↓f_e_castore, ↓f_e_arraylength, ↓f_e_invokestatic, ↓f_e_invokevirtual, ↓f_e_ireturn, ↓f_e_return_, ↓f_s_i_c, ↓f_s_r_c, ↓f_s_v_i, ↓f_s_v_r, ↓f_s_l_0, ↓s_l_1, ↓s_l_2, ↓s_l_3, ↓s_l_4, ↓s_l_5, ↓s_l_6, ↓s_a_0, ↓s_a_1, ↓s_a_2, ↓s_a_3, ↓s_m_0, ↓f_s_m_i, ↓f_s_m_r, ↓f_s_m_i7, ↓f_s_m_r7, ↓f_s_m_i6, ↓f_s_m_r6, ↓f_s_m_i5, ↓f_s_m_r5, ↓f_s_m_i4, ↓f_s_m_r4, ↓f_s_w_n, ↓f_s_w_c, ↓f_s_p_eq, ↓f_s_p_ne, ↓f_s_p_lt, ↓f_s_p_ge, ↓f_s_p_gt, ↓f_s_p_le, ↓nk_i, ↓nk_z, ↓nk_c, ↓rf_s, ↓ov_s, ↓ov_n, ↓fin0, ↓fin1, ↓fin2, ↓fin3, cond_true, cond_false, List.set_cons_zero, List.set_cons_succ, List.length_cons, List.length_nil, true_and, and_true, true_or, or_true, implies_true, forall_const, not_true_eq_false, not_false_eq_true, false_implies, Nat.reduceAdd, Nat.reduceLT, Nat.reduceBEq, Nat.reduceEqDiff, Bool.or_false, Bool.false_or, Bool.or_true, Bool.true_or, beq_self_eq_true, Nat.reduceLeDiff, Nat.reduceMul, Nat.reduceSub, eq_self, Nat.reduceBneDiff, st0_s, st1_s, st2_s, st3_s, reduceCtorEq, cc_0, tl_0, cl_0, il_0, tl_1, cl_1, il_1, tl_2, cl_2, il_2, tl_3, cl_3, il_3, tl_4, cl_4, il_4, tl_5, cl_5, il_5, tl_6, cl_6, il_6, tl_7, cl_7, il_7, tl_8, cl_8, il_8, tl_9, cl_9, il_9, tl_10, cl_10, il_10, tl_11, cl_11, il_11, tl_12, cl_12, il_12, tl_13, cl_13, il_13, tl_14, cl_14, il_14, tl_15, cl_15, il_15, tl_16, cl_16, il_16, tl_20, tl_21, tl_25, tl_32, tl_48, tl_50, tl_57, tl_58, tl_59, tl_60, tl_99, tl_100, tl_101, tl_108, tl_109, tl_116, tl_120, tl_126, tl_374, tl_1122, tl_50000, i10, i01, tl_m1, tl_m2, tl_m3, tl_m4, nr_X0_nextLine, tX0_nextLine_0, tX0_nextLine_1, tX0_nextLine_2, tX0_nextLine_3, tX0_nextLine_6, tX0_nextLine_7, tX0_nextLine_8, tX0_nextLine_9, tX0_nextLine_10, tX0_nextLine_12, tX0_nextLine_15, tX0_nextLine_16, tX0_nextLine_19, tX0_nextLine_20, tX0_nextLine_21, tX0_nextLine_22, tX0_nextLine_25, tX0_nextLine_28, tX0_nextLine_29, tX0_nextLine_30, tX0_nextLine_31, tX0_nextLine_33, tX0_nextLine_35, tX0_nextLine_37, tX0_nextLine_40, tX0_nextLine_41, tX0_nextLine_42, tX0_nextLine_45, tX0_nextLine_48, tX0_nextLine_49, tX0_nextLine_52, tX0_nextLine_53, tX0_nextLine_54, tX0_nextLine_57, tX0_nextLine_58, tX0_nextLine_61, tX0_nextLine_62, tX0_nextLine_63, tX0_nextLine_66, tX0_nextLine_68, tX0_nextLine_69, tX0_nextLine_72, tX0_nextLine_73, tX0_nextLine_74, tX0_nextLine_75, tX0_nextLine_76, tX0_nextLine_77, tX0_nextLine_78, tX0_nextLine_80, tX0_nextLine_81, tX0_nextLine_84, tX0_nextLine_85, tX0_nextLine_88, tX0_nextLine_89, tX0_nextLine_90, tX0_nextLine_93, tX0_nextLine_94, tX0_nextLine_97, tX0_nextLine_99, tX0_nextLine_101, tX0_nextLine_104, tX0_nextLine_106, tX0_nextLine_108, tX0_nextLine_109, tX0_nextLine_110, tX0_nextLine_113, tX0_nextLine_114, tX0_nextLine_116, tX0_nextLine_117, tX0_nextLine_120, tX0_nextLine_123, tX0_nextLine_125, tX0_nextLine_126, tX0_nextLine_127, tX0_nextLine_130, tX0_nextLine_132, tX0_nextLine_133, tX0_nextLine_136, tX0_nextLine_137, tX0_nextLine_138, tX0_nextLine_139, tX0_nextLine_142, tX0_nextLine_145, tX0_nextLine_146, pw_QK_s, b0, b1, b2, b5, b6, cj, cp, n1, n2, n4, n5.1, r4, hw, ↓w_hasNode, ↓w_get]
      rw [tj, l3, tp, tc]
      refine ⟨fun q => absurd q (nI_ge (a := t) (b := 27) (by omega) (by omega)), fun _ => ⟨rF, fun _ => ⟨in_nI hj6 (by omega), in_nI hj6 (by omega), by omega, fun q => ⟨in_nI hj6 (by omega), in_nI hj6 (by omega), ?_⟩, fun q => ⟨in_nI hj6 (by omega), in_nI hj6 (by omega), ?_⟩⟩, fun q => absurd (by omega) q⟩⟩
      · rw [if_pos (by omega)] at hn
        rw [r5 p (by omega)]; exact hn
      · rw [if_neg (by omega)] at hn
        exact hn
    have run : ∀ (f j : Nat), j < vN S 3 → 6 ≤ j + f → ∀ (d p : Nat), p + d = cntS S j → ∀ (acc : Option Nat) (t : Nat) (J : pw_I), (∀ c, acc = some c → c < 16 ∧ readyS S c = true) → wkOK o I J → J (o + 41) j = nI p →
        (∀ i c x, p ≤ i → i < cntS S j → entS S j i = 100 + c → x < 6 → c ∈ wayS S x → J (o + 41) x = 0) → t + stpR S (f - 1) j p ≤ 27 →
        (∀ J', wkOK o I J' → (∀ x, x < 6 → ¬ j ∈ wayS S x → J' (o + 41) x = J (o + 41) x) → (∀ c, (ordR S (f - 1) j p).foldl (pickS S) acc = some c → c < 16 ∧ readyS S c = true) →
          PW (mX0_nextLine, 2, 0, 0, none, base) n sh P J' 0 0 33 [some (.ref o), some (.int (optI ((ordR S (f - 1) j p).foldl (pickS S) acc))), some (.int (lowA S ((ordR S (f - 1) j p).foldl (pickS S) acc))), some (.int (S (16 + 25 * j))), some (.int (nI (t + stpR S (f - 1) j p))), none] [] (pw_QK n sh P K)) →
        PW (mX0_nextLine, 2, 0, 0, none, base) n sh P J 0 0 33 [some (.ref o), some (.int (optI acc)), some (.int (lowA S acc)), some (.int (nI j)), some (.int (nI t)), none] [] (pw_QK n sh P K) := by
      intro f
      induction f with
      | zero => intro j hj hf; omega
      | succ f ihf =>
        intro j hj hf d
        rw [Nat.add_sub_cancel]
        have hj6 : j < 6 := by omega
        have cj : (nI j).toNatClampNeg = j := cl_nI (by omega)
        obtain ⟨⟨n1, n2⟩, n4, n5⟩ := bN j hj6
        have hc2 : cntS S j ≤ 21 := (hI.2.2.2.1 j hj6).2.2.2
        induction d with
        | zero =>
          intro p hp acc t J hacc hJ hw hz ht hnext
          obtain rfl : p = cntS S j := by omega
          rw [ordR_end, stpR_end] at hnext
          rw [stpR_end] at ht
          have hJ2 : wkOK o I (pw_up J (o + 41) j (nI (cntS S j) + 1)) := fun a ha => by rw [up_set, set_n ha]; exact hJ a ha
          have nx := hnext _ hJ2 (fun x hx hjx => by
            rw [up_n (fun e => hjx (by rw [e]; exact way_self hI hj6))]) hacc
          refine stepA J _ _ j (cntS S j) t hJ hj (Nat.le_refl _) hw (by omega) ?_
          rw [if_neg (by omega)]
          have r1 := ((hR.wk hJ2).2.1 j hj6).1
          generalize pw_up J (o + 41) j (nI (cntS S j) + 1) = J2 at hJ2 nx r1 ⊢
          refine pw_go okX0_nextLine (cc []) ⟨Nat.le_refl _, Nat.le_refl _⟩ cc_n (st1 33) 60 ?_
          simp only [↓f_vc_s, ↓vk_i, ↓cc_i, ↓reduceIte, f_vq_s, Bool.false_eq_true, ↓f_e_iconst, ↓f_e_bipush, ↓f_e_sipush, ↓f_e_ldc, ↓f_e_ldc_w, ↓f_e_iload_n, ↓f_e_iload, ↓f_e_aload_n, ↓f_e_aload, ↓f_e_istore_n, ↓f_e_istore, ↓f_e_astore_n, ↓f_e_astore, ↓f_e_iinc, ↓f_e_iadd, ↓f_e_isub, ↓f_e_imul, ↓f_e_iand, ↓f_e_ior, ↓f_e_ixor, ↓f_e_idiv, ↓f_e_irem, ↓f_e_ishl, ↓f_e_ishr, ↓f_e_iushr, ↓f_e_i2c, ↓f_e_dup, ↓f_e_dup2, ↓f_e_pop, ↓f_e_goto, ↓f_e_ifCond, ↓f_e_if_icmp, ↓f_e_tableswitch, ↓f_e_lookupswitch, ↓f_e_getfield_i, ↓f_e_getfield_r, ↓f_e_putfield_i, ↓f_e_putfield_z, ↓f_e_iaload, ↓f_e_caload, ↓f_e_aaload, ↓f_e_iastore, ↓f_e_castore, ↓f_e_arraylength, ↓f_e_invokestatic, ↓f_e_invokevirtual, ↓f_e_ireturn, ↓f_e_return_, ↓f_s_i_c, ↓f_s_r_c, ↓f_s_v_i, ↓f_s_v_r, ↓f_s_l_0, ↓s_l_1, ↓s_l_2, ↓s_l_3, ↓s_l_4, ↓s_l_5, ↓s_l_6, ↓s_a_0, ↓s_a_1, ↓s_a_2, ↓s_a_3, ↓s_m_0, ↓f_s_m_i, ↓f_s_m_r, ↓f_s_m_i7, ↓f_s_m_r7, ↓f_s_m_i6, ↓f_s_m_r6, ↓f_s_m_i5, ↓f_s_m_r5, ↓f_s_m_i4, ↓f_s_m_r4, ↓f_s_w_n, ↓f_s_w_c, ↓f_s_p_eq, ↓f_s_p_ne, ↓f_s_p_lt, ↓f_s_p_ge, ↓f_s_p_gt, ↓f_s_p_le, ↓nk_i, ↓nk_z, ↓nk_c, ↓rf_s, ↓ov_s, ↓ov_n, ↓fin0, ↓fin1, ↓fin2, ↓fin3, cond_true, cond_false, List.set_cons_zero, List.set_cons_succ, List.length_cons, List.length_nil, true_and, and_true, true_or, or_true, implies_true, forall_const, not_true_eq_false, not_false_eq_true, false_implies, Nat.reduceAdd, Nat.reduceLT, Nat.reduceBEq, Nat.reduceEqDiff, Bool.or_false, Bool.false_or, Bool.or_true, Bool.true_or, beq_self_eq_true, Nat.reduceLeDiff, Nat.reduceMul, Nat.reduceSub, eq_self, Nat.reduceBneDiff, st0_s, st1_s, st2_s, st3_s, reduceCtorEq, cc_0, tl_0, cl_0, il_0, tl_1, cl_1, il_1, tl_2, cl_2, il_2, tl_3, cl_3, il_3, tl_4, cl_4, il_4, tl_5, cl_5, il_5, tl_6, cl_6, il_6, tl_7, cl_7, il_7, tl_8, cl_8, il_8, tl_9, cl_9, il_9, tl_10, cl_10, il_10, tl_11, cl_11, il_11, tl_12, cl_12, il_12, tl_13, cl_13, il_13, tl_14, cl_14, il_14, tl_15, cl_15, il_15, tl_16, cl_16, il_16, tl_20, tl_21, tl_25, tl_32, tl_48, tl_50, tl_57, tl_58, tl_59, tl_60, tl_99, tl_100, tl_101, tl_108, tl_109, tl_116, tl_120, tl_126, tl_374, tl_1122, tl_50000, i10, i01, tl_m1, tl_m2, tl_m3, tl_m4, nr_X0_nextLine, tX0_nextLine_0, tX0_nextLine_1, tX0_nextLine_2, tX0_nextLine_3, tX0_nextLine_6, tX0_nextLine_7, tX0_nextLine_8, tX0_nextLine_9, tX0_nextLine_10, tX0_nextLine_12, tX0_nextLine_15, tX0_nextLine_16, tX0_nextLine_19, tX0_nextLine_20, tX0_nextLine_21, tX0_nextLine_22, tX0_nextLine_25, tX0_nextLine_28, tX0_nextLine_29, tX0_nextLine_30, tX0_nextLine_31, tX0_nextLine_33, tX0_nextLine_35, tX0_nextLine_37, tX0_nextLine_40, tX0_nextLine_41, tX0_nextLine_42, tX0_nextLine_45, tX0_nextLine_48, tX0_nextLine_49, tX0_nextLine_52, tX0_nextLine_53, tX0_nextLine_54, tX0_nextLine_57, tX0_nextLine_58, tX0_nextLine_61, tX0_nextLine_62, tX0_nextLine_63, tX0_nextLine_66, tX0_nextLine_68, tX0_nextLine_69, tX0_nextLine_72, tX0_nextLine_73, tX0_nextLine_74, tX0_nextLine_75, tX0_nextLine_76, tX0_nextLine_77, tX0_nextLine_78, tX0_nextLine_80, tX0_nextLine_81, tX0_nextLine_84, tX0_nextLine_85, tX0_nextLine_88, tX0_nextLine_89, tX0_nextLine_90, tX0_nextLine_93, tX0_nextLine_94, tX0_nextLine_97, tX0_nextLine_99, tX0_nextLine_101, tX0_nextLine_104, tX0_nextLine_106, tX0_nextLine_108, tX0_nextLine_109, tX0_nextLine_110, tX0_nextLine_113, tX0_nextLine_114, tX0_nextLine_116, tX0_nextLine_117, tX0_nextLine_120, tX0_nextLine_123, tX0_nextLine_125, tX0_nextLine_126, tX0_nextLine_127, tX0_nextLine_130, tX0_nextLine_132, tX0_nextLine_133, tX0_nextLine_136, tX0_nextLine_137, tX0_nextLine_138, tX0_nextLine_139, tX0_nextLine_142, tX0_nextLine_145, tX0_nextLine_146, pw_QK_s, b0, b1, b2, cj, n1, n2, r1]
          rw [ix_1]
          exact ⟨in_nI hj6 (by omega), PW.weak nx ⟨rfl, rfl, rfl, rfl, rfl, trivial⟩⟩
        | succ d ihd =>
          intro p hp acc t J hacc hJ hw hz ht hnext
          have hp2 : p < cntS S j := by omega
          have he := (hT.1 j hj).1 p hp2
          rw [stpR_step hp2] at ht hnext
          rw [ordR_step hp2] at hnext
          have hJ2 : wkOK o I (pw_up J (o + 41) j (nI p + 1)) := fun a ha => by rw [up_set, set_n ha]; exact hJ a ha
          have w2 : pw_up J (o + 41) j (nI p + 1) (o + 41) j = nI (p + 1) := by rw [up_r, ix_1]
          have w3 : ∀ x, x ≠ j → pw_up J (o + 41) j (nI p + 1) (o + 41) x = J (o + 41) x := fun x hx => up_n hx
          refine stepA J _ _ j p t hJ hj (by omega) hw (by have : 1 ≤ stpR S f j (p + 1) := by { unfold stpR; omega }; omega) ?_
          rw [if_pos hp2, he.1]
          have hR2 := hR.wk hJ2
          generalize pw_up J (o + 41) j (nI p + 1) = J2 at hJ2 w2 w3 hR2 ⊢
          by_cases q1 : entS S j p < 100
          · have hek : entS S j p < vN S 4 ∧ vN S (166 + 13 * entS S j p) = j := by
              rcases he.2 with z | z
              · exact z
              · omega
            rw [if_pos q1] at ht
            rw [if_pos q1, if_pos q1] at hnext
            generalize entS S j p = k at he q1 hek ht hnext
            rw [show [k] ++ ordR S f j (p + 1) = k :: ordR S f j (p + 1) from rfl, List.foldl_cons] at hnext
            have hk16 : k < 16 := by omega
            obtain ⟨l1, l2⟩ := bL k hk16
            have ck : (nI k).toNatClampNeg = k := cl_nI (by omega)
            have r := (hR2.2.2.1 k hk16).2.1
            have hpk := pick_low hI hacc hk16
            have hacc2 : ∀ c, pickS S acc k = some c → c < 16 ∧ readyS S c = true := fun c hc => by
              unfold pickS at hc
              cases e : (readyS S k && aboveS S k acc) with
              | true =>
                rw [e] at hc; cases hc
                rw [Bool.and_eq_true] at e
                exact ⟨hk16, e.1⟩
              | false => rw [e] at hc; exact hacc c hc
            have nx := ihd (p + 1) (by omega) (pickS S acc k) (t + 1) J2 hacc2 hJ2 w2 (fun i c x h1 h2 h5 h6 h7 => by
              have hcj : 1 ≤ c ∧ j < c := by
                have := ((hT.1 j hj).1 i h2).2
                rw [h5, Nat.add_sub_cancel_left] at this
                rcases this with z | z
                · omega
                · have := hI.on c (by omega) (by omega); omega
              have := way_le hI x h6 c h7
              rw [w3 x (by omega)]
              exact hz i c x (by omega) h2 h5 h6 h7) (by omega) (fun J' a1 a2 a3 => by
                have := hnext J' a1 (fun x hx hjx => by
                  rw [a2 x hx hjx]
                  exact w3 x (fun e => hjx (by rw [e]; exact way_self hI hj6))) a3
                rw [show t + (1 + stpR S f j (p + 1)) = t + 1 + stpR S f j (p + 1) by omega] at this
                exact this)
            have neg1 : ¬ nI k = -1 := fun z => by
              have := congrArg Int32.toInt z
              rw [ti_nI (by omega)] at this
              exact absurd this (by show ¬ _ = (-1 : Int); omega)
            refine pw_go okX0_nextLine (cc [(21, (w_isReady0 o S))]) ⟨Nat.le_refl _, Nat.le_refl _⟩ (cc_c (fun Ag I K h => ⟨1, Nat.le_of_ble_eq_true rfl, x_isReady0 hM h⟩) cc_n) (st1 33) 60 ?_
            simp only [↓f_vc_s, ↓vk_i, ↓cc_i, ↓reduceIte, f_vq_s, Bool.false_eq_true, ↓f_e_iconst, ↓f_e_bipush, ↓f_e_sipush, ↓f_e_ldc, ↓f_e_ldc_w, ↓f_e_iload_n, ↓f_e_iload, ↓f_e_aload_n, ↓f_e_aload, ↓f_e_istore_n, ↓f_e_istore, ↓f_e_astore_n, ↓f_e_astore, ↓f_e_iinc, ↓f_e_iadd, ↓f_e_isub, ↓f_e_imul, ↓f_e_iand, ↓f_e_ior, ↓f_e_ixor, ↓f_e_idiv, ↓f_e_irem, ↓f_e_ishl, ↓f_e_ishr, ↓f_e_iushr, ↓f_e_i2c, ↓f_e_dup, ↓f_e_dup2, ↓f_e_pop, ↓f_e_goto, ↓f_e_ifCond, ↓f_e_if_icmp, ↓f_e_tableswitch, ↓f_e_lookupswitch, ↓f_e_getfield_i, ↓f_e_getfield_r, ↓f_e_putfield_i, ↓f_e_putfield_z, ↓f_e_iaload, ↓f_e_caload, ↓f_e_aaload, ↓f_e_iastore, ↓f_e_castore, ↓f_e_arraylength, ↓f_e_invokestatic, ↓f_e_invokevirtual, ↓f_e_ireturn, ↓f_e_return_, ↓f_s_i_c, ↓f_s_r_c, ↓f_s_v_i, ↓f_s_v_r, ↓f_s_l_0, ↓s_l_1, ↓s_l_2, ↓s_l_3, ↓s_l_4, ↓s_l_5, ↓s_l_6, ↓s_a_0, ↓s_a_1, ↓s_a_2, ↓s_a_3, ↓s_m_0, ↓f_s_m_i, ↓f_s_m_r, ↓f_s_m_i7, ↓f_s_m_r7, ↓f_s_m_i6, ↓f_s_m_r6, ↓f_s_m_i5, ↓f_s_m_r5, ↓f_s_m_i4, ↓f_s_m_r4, ↓f_s_w_n, ↓f_s_w_c, ↓f_s_p_eq, ↓f_s_p_ne, ↓f_s_p_lt, ↓f_s_p_ge, ↓f_s_p_gt, ↓f_s_p_le, ↓nk_i, ↓nk_z, ↓nk_c, ↓rf_s, ↓ov_s, ↓ov_n, ↓fin0, ↓fin1, ↓fin2, ↓fin3, cond_true, cond_false, List.set_cons_zero, List.set_cons_succ, List.length_cons, List.length_nil, true_and, and_true, true_or, or_true, implies_true, forall_const, not_true_eq_false, not_false_eq_true, false_implies, Nat.reduceAdd, Nat.reduceLT, Nat.reduceBEq, Nat.reduceEqDiff, Bool.or_false, Bool.false_or, Bool.or_true, Bool.true_or, beq_self_eq_true, Nat.reduceLeDiff, Nat.reduceMul, Nat.reduceSub, eq_self, Nat.reduceBneDiff, st0_s, st1_s, st2_s, st3_s, reduceCtorEq, cc_0, tl_0, cl_0, il_0, tl_1, cl_1, il_1, tl_2, cl_2, il_2, tl_3, cl_3, il_3, tl_4, cl_4, il_4, tl_5, cl_5, il_5, tl_6, cl_6, il_6, tl_7, cl_7, il_7, tl_8, cl_8, il_8, tl_9, cl_9, il_9, tl_10, cl_10, il_10, tl_11, cl_11, il_11, tl_12, cl_12, il_12, tl_13, cl_13, il_13, tl_14, cl_14, il_14, tl_15, cl_15, il_15, tl_16, cl_16, il_16, tl_20, tl_21, tl_25, tl_32, tl_48, tl_50, tl_57, tl_58, tl_59, tl_60, tl_99, tl_100, tl_101, tl_108, tl_109, tl_116, tl_120, tl_126, tl_374, tl_1122, tl_50000, i10, i01, tl_m1, tl_m2, tl_m3, tl_m4, nr_X0_nextLine, tX0_nextLine_0, tX0_nextLine_1, tX0_nextLine_2, tX0_nextLine_3, tX0_nextLine_6, tX0_nextLine_7, tX0_nextLine_8, tX0_nextLine_9, tX0_nextLine_10, tX0_nextLine_12, tX0_nextLine_15, tX0_nextLine_16, tX0_nextLine_19, tX0_nextLine_20, tX0_nextLine_21, tX0_nextLine_22, tX0_nextLine_25, tX0_nextLine_28, tX0_nextLine_29, tX0_nextLine_30, tX0_nextLine_31, tX0_nextLine_33, tX0_nextLine_35, tX0_nextLine_37, tX0_nextLine_40, tX0_nextLine_41, tX0_nextLine_42, tX0_nextLine_45, tX0_nextLine_48, tX0_nextLine_49, tX0_nextLine_52, tX0_nextLine_53, tX0_nextLine_54, tX0_nextLine_57, tX0_nextLine_58, tX0_nextLine_61, tX0_nextLine_62, tX0_nextLine_63, tX0_nextLine_66, tX0_nextLine_68, tX0_nextLine_69, tX0_nextLine_72, tX0_nextLine_73, tX0_nextLine_74, tX0_nextLine_75, tX0_nextLine_76, tX0_nextLine_77, tX0_nextLine_78, tX0_nextLine_80, tX0_nextLine_81, tX0_nextLine_84, tX0_nextLine_85, tX0_nextLine_88, tX0_nextLine_89, tX0_nextLine_90, tX0_nextLine_93, tX0_nextLine_94, tX0_nextLine_97, tX0_nextLine_99, tX0_nextLine_101, tX0_nextLine_104, tX0_nextLine_106, tX0_nextLine_108, tX0_nextLine_109, tX0_nextLine_110, tX0_nextLine_113, tX0_nextLine_114, tX0_nextLine_116, tX0_nextLine_117, tX0_nextLine_120, tX0_nextLine_123, tX0_nextLine_125, tX0_nextLine_126, tX0_nextLine_127, tX0_nextLine_130, tX0_nextLine_132, tX0_nextLine_133, tX0_nextLine_136, tX0_nextLine_137, tX0_nextLine_138, tX0_nextLine_139, tX0_nextLine_142, tX0_nextLine_145, tX0_nextLine_146, pw_QK_s, b0, b3, b4, ck, l1, l2, r, ↓w_isReady0]
            rw [ix_1]
            refine ⟨fun _ => ⟨fun _ => ⟨hI, hR2, k, rfl, by omega, fun q => ⟨in_nI hk16 (by omega), ?_⟩, fun q => ?_⟩, fun q => absurd (Int32.not_le.mp (nI_geL 100 q1 (by omega))) q⟩, fun q => absurd q neg1⟩
            · rw [hpk] at q
              rw [pickS, q] at nx
              exact PW.weak nx ⟨rfl, rfl, rfl, rfl, rfl, trivial⟩
            · rw [hpk] at q
              rw [pickS, q] at nx
              exact PW.weak nx ⟨rfl, rfl, rfl, rfl, rfl, trivial⟩
          · obtain ⟨c, hc0⟩ : ∃ c, entS S j p = 100 + c := ⟨entS S j p - 100, by omega⟩
            have hcn : 1 ≤ c ∧ c < vN S 3 ∧ onS S c = j := by
              rcases he.2 with z | z
              · have := hI.2.1.2; omega
              · rw [hc0, Nat.add_sub_cancel_left] at z; exact ⟨by omega, z.2⟩
            have hc6 : c < 6 := by omega
            have hjc : j < c := by have := hI.on c hcn.1 (by omega); omega
            obtain ⟨f, rfl⟩ : ∃ f', f = f' + 1 := ⟨f - 1, by omega⟩
            rw [if_neg q1, hc0, Nat.add_sub_cancel_left, stpN_R] at ht
            rw [if_neg q1, if_neg q1, hc0, Nat.add_sub_cancel_left, ordN_R, stpN_R, List.foldl_append] at hnext
            have hup : ∀ x, x < 6 → c ∈ wayS S x → j ∈ wayS S x := fun x hx hm => by
              have := way_up hI hcn.1 x hx hm
              rwa [hcn.2.2] at this
            have hwc : J2 (o + 41) c = nI 0 := by
              rw [w3 c (by omega)]
              exact hz p c c (Nat.le_refl _) hp2 hc0 hc6 (way_self hI hc6)
            have nx := ihf c hcn.2.1 (by omega) (cntS S c) 0 (Nat.zero_add _) acc (t + 1) J2 hacc hJ2 hwc (fun i c2 x h1 h2 h5 h6 h7 => by
              have hc2 : 1 ≤ c2 ∧ onS S c2 = c := by
                have := ((hT.1 c hcn.2.1).1 i h2).2
                rw [h5, Nat.add_sub_cancel_left] at this
                rcases this with z | z
                · omega
                · exact ⟨by omega, z.2.2⟩
              have hcx := way_up hI hc2.1 x h6 h7
              rw [hc2.2] at hcx
              have := way_le hI x h6 c hcx
              rw [w3 x (by omega)]
              exact hz p c x (Nat.le_refl _) hp2 hc0 h6 hcx) (by rw [Nat.add_sub_cancel]; omega) (fun J' a1 a2 a3 => by
                rw [Nat.add_sub_cancel] at a3 ⊢
                have e16 : S (16 + 25 * c) = nI j := by
                  have := (hI.2.2.2.2.1.2 c hcn.1 hc6).1
                  rw [this]
                  exact congrArg nI hcn.2.2
                rw [e16]
                refine ihd (p + 1) (by omega) _ _ J' a3 a1 ?_ (fun i c' x h1 h2 h5 h6 h7 => ?_) (by omega) (fun J3 d1 d2 d3 => ?_)
                · rw [a2 j hj6 (fun z => by have := way_le hI j hj6 c z; omega)]; exact w2
                · have hc' : 1 ≤ c' ∧ onS S c' = j := by
                    have := ((hT.1 j hj).1 i h2).2
                    rw [h5, Nat.add_sub_cancel_left] at this
                    rcases this with z | z
                    · omega
                    · exact ⟨by omega, z.2.2⟩
                  have hne : c ≠ c' := fun e => (hT.1 j hj).2 p i (by omega) h2 (by rw [hc0, h5, e])
                  have hncx : ¬ c ∈ wayS S x := fun z => hne (way_uniq hI hcn.1 hc'.1 (hcn.2.2.trans hc'.2.symm) x h6 z h7)
                  have := way_le hI x h6 c' h7
                  have := hI.on c' hc'.1 (by omega)
                  rw [a2 x h6 hncx, w3 x (by omega)]
                  exact hz i c' x (by omega) h2 h5 h6 h7
                · have := hnext J3 d1 (fun x hx hjx => by
                    rw [d2 x hx hjx, a2 x hx (fun z => hjx (hup x hx z))]
                    exact w3 x (fun e => hjx (by rw [e]; exact way_self hI hj6))) d3
                  rw [show t + (1 + stpR S f c 0 + stpR S (f + 1) j (p + 1)) = t + 1 + stpR S f c 0 + stpR S (f + 1) j (p + 1) by omega] at this
                  exact this)
            rw [hc0]
            have neg1 : ¬ nI (100 + c) = -1 := fun z => by
              have := congrArg Int32.toInt z
              rw [ti_nI (by omega)] at this
              exact absurd this (by show ¬ _ = (-1 : Int); omega)
            have m100 : nI (100 + c) - 100 = nI c := (pk_sub (a := 100 + c) (b := 100) (by omega)).trans (by rw [Nat.add_sub_cancel_left])
            refine pw_go okX0_nextLine (cc []) ⟨Nat.le_refl _, Nat.le_refl _⟩ cc_n (st2 33 113) 60 ?_
            simp only [↓f_vc_s, ↓vk_i, ↓cc_i, ↓reduceIte, f_vq_s, Bool.false_eq_true, ↓f_e_iconst, ↓f_e_bipush, ↓f_e_sipush, ↓f_e_ldc, ↓f_e_ldc_w, ↓f_e_iload_n, ↓f_e_iload, ↓f_e_aload_n, ↓f_e_aload, ↓f_e_istore_n, ↓f_e_istore, ↓f_e_astore_n, ↓f_e_astore, ↓f_e_iinc, ↓f_e_iadd, ↓f_e_isub, ↓f_e_imul, ↓f_e_iand, ↓f_e_ior, ↓f_e_ixor, ↓f_e_idiv, ↓f_e_irem, ↓f_e_ishl, ↓f_e_ishr, ↓f_e_iushr, ↓f_e_i2c, ↓f_e_dup, ↓f_e_dup2, ↓f_e_pop, ↓f_e_goto, ↓f_e_ifCond, ↓f_e_if_icmp, ↓f_e_tableswitch, ↓f_e_lookupswitch, ↓f_e_getfield_i, ↓f_e_getfield_r, ↓f_e_putfield_i, ↓f_e_putfield_z, ↓f_e_iaload, ↓f_e_caload, ↓f_e_aaload, ↓f_e_iastore, ↓f_e_castore, ↓f_e_arraylength, ↓f_e_invokestatic, ↓f_e_invokevirtual, ↓f_e_ireturn, ↓f_e_return_, ↓f_s_i_c, ↓f_s_r_c, ↓f_s_v_i, ↓f_s_v_r, ↓f_s_l_0, ↓s_l_1, ↓s_l_2, ↓s_l_3, ↓s_l_4, ↓s_l_5, ↓s_l_6, ↓s_a_0, ↓s_a_1, ↓s_a_2, ↓s_a_3, ↓s_m_0, ↓f_s_m_i, ↓f_s_m_r, ↓f_s_m_i7, ↓f_s_m_r7, ↓f_s_m_i6, ↓f_s_m_r6, ↓f_s_m_i5, ↓f_s_m_r5, ↓f_s_m_i4, ↓f_s_m_r4, ↓f_s_w_n, ↓f_s_w_c, ↓f_s_p_eq, ↓f_s_p_ne, ↓f_s_p_lt, ↓f_s_p_ge, ↓f_s_p_gt, ↓f_s_p_le, ↓nk_i, ↓nk_z, ↓nk_c, ↓rf_s, ↓ov_s, ↓ov_n, ↓fin0, ↓fin1, ↓fin2, ↓fin3, cond_true, cond_false, List.set_cons_zero, List.set_cons_succ, List.length_cons, List.length_nil, true_and, and_true, true_or, or_true, implies_true, forall_const, not_true_eq_false, not_false_eq_true, false_implies, Nat.reduceAdd, Nat.reduceLT, Nat.reduceBEq, Nat.reduceEqDiff, Bool.or_false, Bool.false_or, Bool.or_true, Bool.true_or, beq_self_eq_true, Nat.reduceLeDiff, Nat.reduceMul, Nat.reduceSub, eq_self, Nat.reduceBneDiff, st0_s, st1_s, st2_s, st3_s, reduceCtorEq, cc_0, tl_0, cl_0, il_0, tl_1, cl_1, il_1, tl_2, cl_2, il_2, tl_3, cl_3, il_3, tl_4, cl_4, il_4, tl_5, cl_5, il_5, tl_6, cl_6, il_6, tl_7, cl_7, il_7, tl_8, cl_8, il_8, tl_9, cl_9, il_9, tl_10, cl_10, il_10, tl_11, cl_11, il_11, tl_12, cl_12, il_12, tl_13, cl_13, il_13, tl_14, cl_14, il_14, tl_15, cl_15, il_15, tl_16, cl_16, il_16, tl_20, tl_21, tl_25, tl_32, tl_48, tl_50, tl_57, tl_58, tl_59, tl_60, tl_99, tl_100, tl_101, tl_108, tl_109, tl_116, tl_120, tl_126, tl_374, tl_1122, tl_50000, i10, i01, tl_m1, tl_m2, tl_m3, tl_m4, nr_X0_nextLine, tX0_nextLine_0, tX0_nextLine_1, tX0_nextLine_2, tX0_nextLine_3, tX0_nextLine_6, tX0_nextLine_7, tX0_nextLine_8, tX0_nextLine_9, tX0_nextLine_10, tX0_nextLine_12, tX0_nextLine_15, tX0_nextLine_16, tX0_nextLine_19, tX0_nextLine_20, tX0_nextLine_21, tX0_nextLine_22, tX0_nextLine_25, tX0_nextLine_28, tX0_nextLine_29, tX0_nextLine_30, tX0_nextLine_31, tX0_nextLine_33, tX0_nextLine_35, tX0_nextLine_37, tX0_nextLine_40, tX0_nextLine_41, tX0_nextLine_42, tX0_nextLine_45, tX0_nextLine_48, tX0_nextLine_49, tX0_nextLine_52, tX0_nextLine_53, tX0_nextLine_54, tX0_nextLine_57, tX0_nextLine_58, tX0_nextLine_61, tX0_nextLine_62, tX0_nextLine_63, tX0_nextLine_66, tX0_nextLine_68, tX0_nextLine_69, tX0_nextLine_72, tX0_nextLine_73, tX0_nextLine_74, tX0_nextLine_75, tX0_nextLine_76, tX0_nextLine_77, tX0_nextLine_78, tX0_nextLine_80, tX0_nextLine_81, tX0_nextLine_84, tX0_nextLine_85, tX0_nextLine_88, tX0_nextLine_89, tX0_nextLine_90, tX0_nextLine_93, tX0_nextLine_94, tX0_nextLine_97, tX0_nextLine_99, tX0_nextLine_101, tX0_nextLine_104, tX0_nextLine_106, tX0_nextLine_108, tX0_nextLine_109, tX0_nextLine_110, tX0_nextLine_113, tX0_nextLine_114, tX0_nextLine_116, tX0_nextLine_117, tX0_nextLine_120, tX0_nextLine_123, tX0_nextLine_125, tX0_nextLine_126, tX0_nextLine_127, tX0_nextLine_130, tX0_nextLine_132, tX0_nextLine_133, tX0_nextLine_136, tX0_nextLine_137, tX0_nextLine_138, tX0_nextLine_139, tX0_nextLine_142, tX0_nextLine_145, tX0_nextLine_146, pw_QK_s, b0, b3, b4, m100]
            rw [ix_1]
            exact ⟨fun _ => ⟨fun q => absurd (nI_leL 100 (by omega) (by omega)) (Int32.not_le.mpr q), fun _ => PW.weak nx ⟨rfl, rfl, rfl, rfl, rfl, trivial⟩⟩, fun q => absurd q neg1⟩
    have main : ∀ J, wkOK o I J → (∀ x, x < 6 → J (o + 41) x = 0) → PW (mX0_nextLine, 2, 0, 0, none, base) n sh P J 0 0 33 [some (.ref o), some (.int (-1)), some (.int (lowS S)), some (.int (nI 0)), some (.int (nI 0)), none] [] (pw_QK n sh P K) := by
      intro J hJ hz
      have hst : stpN S 6 0 ≤ 27 := hW
      rw [stpN_R] at hst
      refine run 6 0 (by omega) (by omega) (cntS S 0) 0 (Nat.zero_add _) none 0 J (fun c z => by cases z) hJ (hz 0 (by omega)) (fun i c x _ _ _ h6 _ => hz x h6) (by show 0 + stpR S 5 0 0 ≤ 27; omega) (fun J' a1 _ _ => ?_)
      rw [show S (16 + 25 * 0) = -1 from hI.2.2.2.2.1.1]
      exact exit J' _ _ _ a1 (hA J' a1)
    have zero : ∀ (f k : Nat) (J : pw_I), k + f = 6 → wkOK o I J → (∀ x, x < k → J (o + 41) x = 0) → PW (mX0_nextLine, 2, 0, 0, none, base) n sh P J 0 0 9 [some (.ref o), some (.int (-1)), some (.int (lowS S)), some (.int (nI k)), none, none] [] (pw_QK n sh P K) := by
      intro f
      induction f with
      | zero =>
        intro k J hk hJ hz
        obtain rfl : k = 6 := by omega
        refine pw_go okX0_nextLine (cc []) ⟨Nat.le_refl _, Nat.le_refl _⟩ cc_n (st2 9 33) 60 ?_
        simp only [↓f_vc_s, ↓vk_i, ↓cc_i, ↓reduceIte, f_vq_s, Bool.false_eq_true, ↓f_e_iconst, ↓f_e_bipush, ↓f_e_sipush, ↓f_e_ldc, ↓f_e_ldc_w, ↓f_e_iload_n, ↓f_e_iload, ↓f_e_aload_n, ↓f_e_aload, ↓f_e_istore_n, ↓f_e_istore, ↓f_e_astore_n, ↓f_e_astore, ↓f_e_iinc, ↓f_e_iadd, ↓f_e_isub, ↓f_e_imul, ↓f_e_iand, ↓f_e_ior, ↓f_e_ixor, ↓f_e_idiv, ↓f_e_irem, ↓f_e_ishl, ↓f_e_ishr, ↓f_e_iushr, ↓f_e_i2c, ↓f_e_dup, ↓f_e_dup2, ↓f_e_pop, ↓f_e_goto, ↓f_e_ifCond, ↓f_e_if_icmp, ↓f_e_tableswitch, ↓f_e_lookupswitch, ↓f_e_getfield_i, ↓f_e_getfield_r, ↓f_e_putfield_i, ↓f_e_putfield_z, ↓f_e_iaload, ↓f_e_caload, ↓f_e_aaload, ↓f_e_iastore, ↓f_e_castore, ↓f_e_arraylength, ↓f_e_invokestatic, ↓f_e_invokevirtual, ↓f_e_ireturn, ↓f_e_return_, ↓f_s_i_c, ↓f_s_r_c, ↓f_s_v_i, ↓f_s_v_r, ↓f_s_l_0, ↓s_l_1, ↓s_l_2, ↓s_l_3, ↓s_l_4, ↓s_l_5, ↓s_l_6, ↓s_a_0, ↓s_a_1, ↓s_a_2, ↓s_a_3, ↓s_m_0, ↓f_s_m_i, ↓f_s_m_r, ↓f_s_m_i7, ↓f_s_m_r7, ↓f_s_m_i6, ↓f_s_m_r6, ↓f_s_m_i5, ↓f_s_m_r5, ↓f_s_m_i4, ↓f_s_m_r4, ↓f_s_w_n, ↓f_s_w_c, ↓f_s_p_eq, ↓f_s_p_ne, ↓f_s_p_lt, ↓f_s_p_ge, ↓f_s_p_gt, ↓f_s_p_le, ↓nk_i, ↓nk_z, ↓nk_c, ↓rf_s, ↓ov_s, ↓ov_n, ↓fin0, ↓fin1, ↓fin2, ↓fin3, cond_true, cond_false, List.set_cons_zero, List.set_cons_succ, List.length_cons, List.length_nil, true_and, and_true, true_or, or_true, implies_true, forall_const, not_true_eq_false, not_false_eq_true, false_implies, Nat.reduceAdd, Nat.reduceLT, Nat.reduceBEq, Nat.reduceEqDiff, Bool.or_false, Bool.false_or, Bool.or_true, Bool.true_or, beq_self_eq_true, Nat.reduceLeDiff, Nat.reduceMul, Nat.reduceSub, eq_self, Nat.reduceBneDiff, st0_s, st1_s, st2_s, st3_s, reduceCtorEq, cc_0, tl_0, cl_0, il_0, tl_1, cl_1, il_1, tl_2, cl_2, il_2, tl_3, cl_3, il_3, tl_4, cl_4, il_4, tl_5, cl_5, il_5, tl_6, cl_6, il_6, tl_7, cl_7, il_7, tl_8, cl_8, il_8, tl_9, cl_9, il_9, tl_10, cl_10, il_10, tl_11, cl_11, il_11, tl_12, cl_12, il_12, tl_13, cl_13, il_13, tl_14, cl_14, il_14, tl_15, cl_15, il_15, tl_16, cl_16, il_16, tl_20, tl_21, tl_25, tl_32, tl_48, tl_50, tl_57, tl_58, tl_59, tl_60, tl_99, tl_100, tl_101, tl_108, tl_109, tl_116, tl_120, tl_126, tl_374, tl_1122, tl_50000, i10, i01, tl_m1, tl_m2, tl_m3, tl_m4, nr_X0_nextLine, tX0_nextLine_0, tX0_nextLine_1, tX0_nextLine_2, tX0_nextLine_3, tX0_nextLine_6, tX0_nextLine_7, tX0_nextLine_8, tX0_nextLine_9, tX0_nextLine_10, tX0_nextLine_12, tX0_nextLine_15, tX0_nextLine_16, tX0_nextLine_19, tX0_nextLine_20, tX0_nextLine_21, tX0_nextLine_22, tX0_nextLine_25, tX0_nextLine_28, tX0_nextLine_29, tX0_nextLine_30, tX0_nextLine_31, tX0_nextLine_33, tX0_nextLine_35, tX0_nextLine_37, tX0_nextLine_40, tX0_nextLine_41, tX0_nextLine_42, tX0_nextLine_45, tX0_nextLine_48, tX0_nextLine_49, tX0_nextLine_52, tX0_nextLine_53, tX0_nextLine_54, tX0_nextLine_57, tX0_nextLine_58, tX0_nextLine_61, tX0_nextLine_62, tX0_nextLine_63, tX0_nextLine_66, tX0_nextLine_68, tX0_nextLine_69, tX0_nextLine_72, tX0_nextLine_73, tX0_nextLine_74, tX0_nextLine_75, tX0_nextLine_76, tX0_nextLine_77, tX0_nextLine_78, tX0_nextLine_80, tX0_nextLine_81, tX0_nextLine_84, tX0_nextLine_85, tX0_nextLine_88, tX0_nextLine_89, tX0_nextLine_90, tX0_nextLine_93, tX0_nextLine_94, tX0_nextLine_97, tX0_nextLine_99, tX0_nextLine_101, tX0_nextLine_104, tX0_nextLine_106, tX0_nextLine_108, tX0_nextLine_109, tX0_nextLine_110, tX0_nextLine_113, tX0_nextLine_114, tX0_nextLine_116, tX0_nextLine_117, tX0_nextLine_120, tX0_nextLine_123, tX0_nextLine_125, tX0_nextLine_126, tX0_nextLine_127, tX0_nextLine_130, tX0_nextLine_132, tX0_nextLine_133, tX0_nextLine_136, tX0_nextLine_137, tX0_nextLine_138, tX0_nextLine_139, tX0_nextLine_142, tX0_nextLine_145, tX0_nextLine_146, pw_QK_s]
        exact ⟨fun _ => main J hJ hz, fun q => absurd (by decide) q⟩
      | succ f ih =>
        intro k J hk hJ hz
        have ck : (nI k).toNatClampNeg = k := cl_nI (by omega)
        refine pw_go okX0_nextLine (cc []) ⟨Nat.le_refl _, Nat.le_refl _⟩ cc_n (st2 9 33) 60 ?_
        simp only [↓f_vc_s, ↓vk_i, ↓cc_i, ↓reduceIte, f_vq_s, Bool.false_eq_true, ↓f_e_iconst, ↓f_e_bipush, ↓f_e_sipush, ↓f_e_ldc, ↓f_e_ldc_w, ↓f_e_iload_n, ↓f_e_iload, ↓f_e_aload_n, ↓f_e_aload, ↓f_e_istore_n, ↓f_e_istore, ↓f_e_astore_n, ↓f_e_astore, ↓f_e_iinc, ↓f_e_iadd, ↓f_e_isub, ↓f_e_imul, ↓f_e_iand, ↓f_e_ior, ↓f_e_ixor, ↓f_e_idiv, ↓f_e_irem, ↓f_e_ishl, ↓f_e_ishr, ↓f_e_iushr, ↓f_e_i2c, ↓f_e_dup, ↓f_e_dup2, ↓f_e_pop, ↓f_e_goto, ↓f_e_ifCond, ↓f_e_if_icmp, ↓f_e_tableswitch, ↓f_e_lookupswitch, ↓f_e_getfield_i, ↓f_e_getfield_r, ↓f_e_putfield_i, ↓f_e_putfield_z, ↓f_e_iaload, ↓f_e_caload, ↓f_e_aaload, ↓f_e_iastore, ↓f_e_castore, ↓f_e_arraylength, ↓f_e_invokestatic, ↓f_e_invokevirtual, ↓f_e_ireturn, ↓f_e_return_, ↓f_s_i_c, ↓f_s_r_c, ↓f_s_v_i, ↓f_s_v_r, ↓f_s_l_0, ↓s_l_1, ↓s_l_2, ↓s_l_3, ↓s_l_4, ↓s_l_5, ↓s_l_6, ↓s_a_0, ↓s_a_1, ↓s_a_2, ↓s_a_3, ↓s_m_0, ↓f_s_m_i, ↓f_s_m_r, ↓f_s_m_i7, ↓f_s_m_r7, ↓f_s_m_i6, ↓f_s_m_r6, ↓f_s_m_i5, ↓f_s_m_r5, ↓f_s_m_i4, ↓f_s_m_r4, ↓f_s_w_n, ↓f_s_w_c, ↓f_s_p_eq, ↓f_s_p_ne, ↓f_s_p_lt, ↓f_s_p_ge, ↓f_s_p_gt, ↓f_s_p_le, ↓nk_i, ↓nk_z, ↓nk_c, ↓rf_s, ↓ov_s, ↓ov_n, ↓fin0, ↓fin1, ↓fin2, ↓fin3, cond_true, cond_false, List.set_cons_zero, List.set_cons_succ, List.length_cons, List.length_nil, true_and, and_true, true_or, or_true, implies_true, forall_const, not_true_eq_false, not_false_eq_true, false_implies, Nat.reduceAdd, Nat.reduceLT, Nat.reduceBEq, Nat.reduceEqDiff, Bool.or_false, Bool.false_or, Bool.or_true, Bool.true_or, beq_self_eq_true, Nat.reduceLeDiff, Nat.reduceMul, Nat.reduceSub, eq_self, Nat.reduceBneDiff, st0_s, st1_s, st2_s, st3_s, reduceCtorEq, cc_0, tl_0, cl_0, il_0, tl_1, cl_1, il_1, tl_2, cl_2, il_2, tl_3, cl_3, il_3, tl_4, cl_4, il_4, tl_5, cl_5, il_5, tl_6, cl_6, il_6, tl_7, cl_7, il_7, tl_8, cl_8, il_8, tl_9, cl_9, il_9, tl_10, cl_10, il_10, tl_11, cl_11, il_11, tl_12, cl_12, il_12, tl_13, cl_13, il_13, tl_14, cl_14, il_14, tl_15, cl_15, il_15, tl_16, cl_16, il_16, tl_20, tl_21, tl_25, tl_32, tl_48, tl_50, tl_57, tl_58, tl_59, tl_60, tl_99, tl_100, tl_101, tl_108, tl_109, tl_116, tl_120, tl_126, tl_374, tl_1122, tl_50000, i10, i01, tl_m1, tl_m2, tl_m3, tl_m4, nr_X0_nextLine, tX0_nextLine_0, tX0_nextLine_1, tX0_nextLine_2, tX0_nextLine_3, tX0_nextLine_6, tX0_nextLine_7, tX0_nextLine_8, tX0_nextLine_9, tX0_nextLine_10, tX0_nextLine_12, tX0_nextLine_15, tX0_nextLine_16, tX0_nextLine_19, tX0_nextLine_20, tX0_nextLine_21, tX0_nextLine_22, tX0_nextLine_25, tX0_nextLine_28, tX0_nextLine_29, tX0_nextLine_30, tX0_nextLine_31, tX0_nextLine_33, tX0_nextLine_35, tX0_nextLine_37, tX0_nextLine_40, tX0_nextLine_41, tX0_nextLine_42, tX0_nextLine_45, tX0_nextLine_48, tX0_nextLine_49, tX0_nextLine_52, tX0_nextLine_53, tX0_nextLine_54, tX0_nextLine_57, tX0_nextLine_58, tX0_nextLine_61, tX0_nextLine_62, tX0_nextLine_63, tX0_nextLine_66, tX0_nextLine_68, tX0_nextLine_69, tX0_nextLine_72, tX0_nextLine_73, tX0_nextLine_74, tX0_nextLine_75, tX0_nextLine_76, tX0_nextLine_77, tX0_nextLine_78, tX0_nextLine_80, tX0_nextLine_81, tX0_nextLine_84, tX0_nextLine_85, tX0_nextLine_88, tX0_nextLine_89, tX0_nextLine_90, tX0_nextLine_93, tX0_nextLine_94, tX0_nextLine_97, tX0_nextLine_99, tX0_nextLine_101, tX0_nextLine_104, tX0_nextLine_106, tX0_nextLine_108, tX0_nextLine_109, tX0_nextLine_110, tX0_nextLine_113, tX0_nextLine_114, tX0_nextLine_116, tX0_nextLine_117, tX0_nextLine_120, tX0_nextLine_123, tX0_nextLine_125, tX0_nextLine_126, tX0_nextLine_127, tX0_nextLine_130, tX0_nextLine_132, tX0_nextLine_133, tX0_nextLine_136, tX0_nextLine_137, tX0_nextLine_138, tX0_nextLine_139, tX0_nextLine_142, tX0_nextLine_145, tX0_nextLine_146, pw_QK_s, b0, b5, b6, ck]
        rw [ix_1]
        refine ⟨fun q => absurd q (nI_ge (a := k) (b := 6) (by omega) (by omega)), fun _ => ⟨in_nI (by omega) (by omega), ih (k + 1) _ (by omega) (fun a ha => by rw [up_set, set_n ha]; exact hJ a ha) (fun x hx => ?_)⟩⟩
        by_cases e : x = k
        · rw [e, up_r]
        · rw [up_n e]; exact hz x (by omega)
    have := zero 6 0 I (by omega) (fun a _ => rfl) (fun x hx => by omega)
    refine pw_go okX0_nextLine (cc [(20, (w_lowestRank o S))]) ⟨Nat.le_refl _, Nat.le_refl _⟩ (cc_c (fun Ag I K h => ⟨1, Nat.le_of_ble_eq_true rfl, x_lowestRank hM h⟩) cc_n) (st1 9) 60 ?_
    simp only [↓f_vc_s, ↓vk_i, ↓cc_i, ↓reduceIte, f_vq_s, Bool.false_eq_true, ↓f_e_iconst, ↓f_e_bipush, ↓f_e_sipush, ↓f_e_ldc, ↓f_e_ldc_w, ↓f_e_iload_n, ↓f_e_iload, ↓f_e_aload_n, ↓f_e_aload, ↓f_e_istore_n, ↓f_e_istore, ↓f_e_astore_n, ↓f_e_astore, ↓f_e_iinc, ↓f_e_iadd, ↓f_e_isub, ↓f_e_imul, ↓f_e_iand, ↓f_e_ior, ↓f_e_ixor, ↓f_e_idiv, ↓f_e_irem, ↓f_e_ishl, ↓f_e_ishr, ↓f_e_iushr, ↓f_e_i2c, ↓f_e_dup, ↓f_e_dup2, ↓f_e_pop, ↓f_e_goto, ↓f_e_ifCond, ↓f_e_if_icmp, ↓f_e_tableswitch, ↓f_e_lookupswitch, ↓f_e_getfield_i, ↓f_e_getfield_r, ↓f_e_putfield_i, ↓f_e_putfield_z, ↓f_e_iaload, ↓f_e_caload, ↓f_e_aaload, ↓f_e_iastore, ↓f_e_castore, ↓f_e_arraylength, ↓f_e_invokestatic, ↓f_e_invokevirtual, ↓f_e_ireturn, ↓f_e_return_, ↓f_s_i_c, ↓f_s_r_c, ↓f_s_v_i, ↓f_s_v_r, ↓f_s_l_0, ↓s_l_1, ↓s_l_2, ↓s_l_3, ↓s_l_4, ↓s_l_5, ↓s_l_6, ↓s_a_0, ↓s_a_1, ↓s_a_2, ↓s_a_3, ↓s_m_0, ↓f_s_m_i, ↓f_s_m_r, ↓f_s_m_i7, ↓f_s_m_r7, ↓f_s_m_i6, ↓f_s_m_r6, ↓f_s_m_i5, ↓f_s_m_r5, ↓f_s_m_i4, ↓f_s_m_r4, ↓f_s_w_n, ↓f_s_w_c, ↓f_s_p_eq, ↓f_s_p_ne, ↓f_s_p_lt, ↓f_s_p_ge, ↓f_s_p_gt, ↓f_s_p_le, ↓nk_i, ↓nk_z, ↓nk_c, ↓rf_s, ↓ov_s, ↓ov_n, ↓fin0, ↓fin1, ↓fin2, ↓fin3, cond_true, cond_false, List.set_cons_zero, List.set_cons_succ, List.length_cons, List.length_nil, true_and, and_true, true_or, or_true, implies_true, forall_const, not_true_eq_false, not_false_eq_true, false_implies, Nat.reduceAdd, Nat.reduceLT, Nat.reduceBEq, Nat.reduceEqDiff, Bool.or_false, Bool.false_or, Bool.or_true, Bool.true_or, beq_self_eq_true, Nat.reduceLeDiff, Nat.reduceMul, Nat.reduceSub, eq_self, Nat.reduceBneDiff, st0_s, st1_s, st2_s, st3_s, reduceCtorEq, cc_0, tl_0, cl_0, il_0, tl_1, cl_1, il_1, tl_2, cl_2, il_2, tl_3, cl_3, il_3, tl_4, cl_4, il_4, tl_5, cl_5, il_5, tl_6, cl_6, il_6, tl_7, cl_7, il_7, tl_8, cl_8, il_8, tl_9, cl_9, il_9, tl_10, cl_10, il_10, tl_11, cl_11, il_11, tl_12, cl_12, il_12, tl_13, cl_13, il_13, tl_14, cl_14, il_14, tl_15, cl_15, il_15, tl_16, cl_16, il_16, tl_20, tl_21, tl_25, tl_32, tl_48, tl_50, tl_57, tl_58, tl_59, tl_60, tl_99, tl_100, tl_101, tl_108, tl_109, tl_116, tl_120, tl_126, tl_374, tl_1122, tl_50000, i10, i01, tl_m1, tl_m2, tl_m3, tl_m4, nr_X0_nextLine, tX0_nextLine_0, tX0_nextLine_1, tX0_nextLine_2, tX0_nextLine_3, tX0_nextLine_6, tX0_nextLine_7, tX0_nextLine_8, tX0_nextLine_9, tX0_nextLine_10, tX0_nextLine_12, tX0_nextLine_15, tX0_nextLine_16, tX0_nextLine_19, tX0_nextLine_20, tX0_nextLine_21, tX0_nextLine_22, tX0_nextLine_25, tX0_nextLine_28, tX0_nextLine_29, tX0_nextLine_30, tX0_nextLine_31, tX0_nextLine_33, tX0_nextLine_35, tX0_nextLine_37, tX0_nextLine_40, tX0_nextLine_41, tX0_nextLine_42, tX0_nextLine_45, tX0_nextLine_48, tX0_nextLine_49, tX0_nextLine_52, tX0_nextLine_53, tX0_nextLine_54, tX0_nextLine_57, tX0_nextLine_58, tX0_nextLine_61, tX0_nextLine_62, tX0_nextLine_63, tX0_nextLine_66, tX0_nextLine_68, tX0_nextLine_69, tX0_nextLine_72, tX0_nextLine_73, tX0_nextLine_74, tX0_nextLine_75, tX0_nextLine_76, tX0_nextLine_77, tX0_nextLine_78, tX0_nextLine_80, tX0_nextLine_81, tX0_nextLine_84, tX0_nextLine_85, tX0_nextLine_88, tX0_nextLine_89, tX0_nextLine_90, tX0_nextLine_93, tX0_nextLine_94, tX0_nextLine_97, tX0_nextLine_99, tX0_nextLine_101, tX0_nextLine_104, tX0_nextLine_106, tX0_nextLine_108, tX0_nextLine_109, tX0_nextLine_110, tX0_nextLine_113, tX0_nextLine_114, tX0_nextLine_116, tX0_nextLine_117, tX0_nextLine_120, tX0_nextLine_123, tX0_nextLine_125, tX0_nextLine_126, tX0_nextLine_127, tX0_nextLine_130, tX0_nextLine_132, tX0_nextLine_133, tX0_nextLine_136, tX0_nextLine_137, tX0_nextLine_138, tX0_nextLine_139, tX0_nextLine_142, tX0_nextLine_145, tX0_nextLine_146, pw_QK_s, b0, ↓w_lowestRank]
    exact ⟨hI, hR, this⟩
  · exact h.elim
end WLK
