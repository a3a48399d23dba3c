/-! the class's board: the inputs on a line's way take their turns -/
theorem posF_congr {f g : Nat → Int32} {x : Int32} : ∀ n, (∀ i, i < n → f i = g i) → posF f x n = posF g x n
  | 0, _ => rfl
  | n + 1, h => by
    unfold posF
    rw [posF_congr n (fun i hi => h i (by omega)), h n (by omega)]
theorem RelB.agr {I J : pw_I} {b j : Nat} {S S' : Nat → Int32} (h : RelB I b S) (hI : InvB S) (hA : Agr S S') (hJ : ∀ a, a ≠ b + 4 + 3 * j → J a = I a) (hn : relN J b S' j) (ho : ∀ i, i < 6 → i ≠ j → ∀ c, c < 21 → S' (16 + 25 * i + 4 + c) = S (16 + 25 * i + 4 + c)) (hj : j < 6) : RelB J b S' := by
  obtain ⟨⟨f1, f2, f3, f4, f5, f6, f7⟩, hN, hL, hS, hY, hW⟩ := h
  have n0 : ∀ i, S' (16 + 25 * i) = S (16 + 25 * i) := fun i => hA.nd (c := 0) (by omega)
  refine ⟨⟨?_, ?_, ?_, ?_, ?_, ?_, ?_⟩, fun i hi => ?_, fun k hk => (hL k hk).to (hJ _ (by omega)) (fun c hc => hA.hi (by omega)), hS.to (hJ _ (by omega)) (hJ _ (by omega)) hI.2.2.1.2 (fun i h1 h2 => hA.lo (by omega)), hY.to (fun k _ => by rw [hJ _ (by omega)]) (fun i _ => by rw [hJ _ (by omega)]) (hA.lo (by omega)) (fun k _ => hA.hi (by omega)), hW.to (hJ _ (by omega)) (hJ _ (by omega)) hI.2.1.2 (hA.lo (by omega)) (fun k hk => hA.hi (by omega)) (fun k hk => hA.hi (by omega)) (fun k hk => hA.hi (by omega))⟩
  · rw [hJ b (by omega), hA.lo (by omega)]; exact f1
  · rw [hJ b (by omega), hA.lo (by omega)]; exact f2
  · rw [hJ b (by omega), f3]
    unfold setF setF setF setF setF setF setF
    rw [hA.nd (j := 0) (c := 2) (by omega), hA.nd (j := 1) (c := 2) (by omega), hA.nd (j := 2) (c := 2) (by omega), hA.nd (j := 3) (c := 2) (by omega), hA.nd (j := 4) (c := 2) (by omega), hA.nd (j := 5) (c := 2) (by omega)]
  · rw [hJ b (by omega), hA.lo (by omega)]; exact f4
  · rw [hJ b (by omega), hA.lo (by omega)]; exact f5
  · rw [hJ b (by omega), hA.lo (by omega)]; exact f6
  · rw [hJ b (by omega), hA.lo (by omega)]; exact f7
  · by_cases e : i = j
    · rw [e]; exact hn
    · exact (hN i hi).to (hJ _ (by omega)) (hJ _ (by omega)) (hJ _ (by omega)) (n0 i) (hA.nd (by omega)) (hA.nd (by omega)) (ho i hi e) (hI.2.2.2.1 i hi).2.2.2 (wayF_to hI (hA.lo (by omega)) (fun c hc => n0 c) hi)
theorem RelB.turn {I : pw_I} {b j : Nat} {S : Nat → Int32} {x : Int32} (h : RelB I b S) (hI : InvB S) (hj : j < 6) (hp : posF (fun i => S (16 + 25 * j + 4 + i)) x (cntS S j) < cntS S j) : RelB (pw_set I (b + 4 + 3 * j) (mbF (I (b + 4 + 3 * j)) (cntS S j) x)) b (turnB S j x) := by
  have hc := (hI.2.2.2.1 j hj).2.2
  have hA := turnB_agr hj hc.2 hp
  have hn := h.2.1 j hj
  obtain ⟨a1, a2, a3, a4, a5⟩ := hn
  refine h.agr hI hA (fun a ha => set_n ha) ?_ (fun i hi hij c hc2 => ?_) hj
  · have hcc : cntS (turnB S j x) j = cntS S j := by
      show (turnB S j x (16 + 25 * j + 3)).toNatClampNeg = (S (16 + 25 * j + 3)).toNatClampNeg
      rw [hA.nd (c := 3) (by omega)]
    unfold relN
    rw [set_n (by omega), set_n (by omega), set_s, show turnB S j x (16 + 25 * j) = S (16 + 25 * j) from hA.nd (c := 0) (by omega), hA.nd (c := 1) (by omega), hA.nd (c := 3) (by omega), hcc, wayF_to hI (hA.lo (by omega)) (fun c _ => hA.nd (c := 0) (by omega)) hj]
    refine ⟨a1, a2, a3, a4, fun i hi => ?_⟩
    have hpos : posF (I (b + 4 + 3 * j)) x (cntS S j) = posF (fun i => S (16 + 25 * j + 4 + i)) x (cntS S j) := posF_congr _ (fun i hi => a5 i hi)
    have hyes := posF_yes (f := fun i => S (16 + 25 * j + 4 + i)) (x := x) _ hp
    unfold turnB mbF remF rotS
    rw [hpos]
    show upd (va_cpy (I (b + 4 + 3 * j)) (I (b + 4 + 3 * j)) (posF (fun i => S (16 + 25 * j + 4 + i)) x (cntS S j) + 1) (posF (fun i => S (16 + 25 * j + 4 + i)) x (cntS S j)) (cntS S j - 1 - posF (fun i => S (16 + 25 * j + 4 + i)) x (cntS S j))) (cntS S j - 1) x i = upd (va_cpy S S (16 + 25 * j + 4 + posF (fun i => S (16 + 25 * j + 4 + i)) x (cntS S j) + 1) (16 + 25 * j + 4 + posF (fun i => S (16 + 25 * j + 4 + i)) x (cntS S j)) (cntS S j - 1 - posF (fun i => S (16 + 25 * j + 4 + i)) x (cntS S j))) (16 + 25 * j + 4 + cntS S j - 1) (S (16 + 25 * j + 4 + posF (fun i => S (16 + 25 * j + 4 + i)) x (cntS S j))) (16 + 25 * j + 4 + i)
    generalize posF (fun i => S (16 + 25 * j + 4 + i)) x (cntS S j) = p at hp hyes ⊢
    by_cases e : i = cntS S j - 1
    · subst e
      rw [upd_s, show 16 + 25 * j + 4 + (cntS S j - 1) = 16 + 25 * j + 4 + cntS S j - 1 by omega, upd_s]
      exact hyes.symm
    · rw [upd_n e, upd_n (by omega)]
      by_cases q : p ≤ i
      · rw [cpy_in q (by omega), cpy_in (by omega) (by omega), a5 _ (by omega)]
        congr 1; omega
      · rw [cpy_lo (by omega), cpy_lo (by omega)]
        exact a5 i hi
  · have hc3 : vN S (16 + 25 * j + 3) ≤ 21 := hc.2
    have hp3 : posF (fun i => S (16 + 25 * j + 4 + i)) x (vN S (16 + 25 * j + 3)) < vN S (16 + 25 * j + 3) := hp
    unfold turnB rotS
    rw [upd_n (by omega)]
    rcases Nat.lt_or_ge i j with z | z
    · rw [cpy_lo (by omega)]
    · rw [cpy_hi (by omega)]
section TRN
variable {n base b : Nat} {sh : pw_Sh} {P : pw_P} {Ag : List Value} {I : pw_I} {S : Nat → Int32} {K : Option Value → pw_I → Prop}
def w_turnInputs (b : Nat) (S : Nat → Int32) : pw_Wp := fun Ag I K => match Ag with
  | [.ref o, .int x] => o = b ∧ InvB S ∧ RelB I b S ∧ ∃ k, x = nI k ∧ k < 16 ∧ turnOK (wayS S (vN S (166 + 13 * k))) S (nI k) ∧ ∀ J, brdOK b I J → RelB J b (turnWS S k) → K none J
  | _ => False
set_option maxRecDepth 100000 in
set_option maxHeartbeats 4000000 in
theorem x_turnInputs (hM : pw_brd sh P b) (h : w_turnInputs b S Ag I K) : pw_ok mX0_turnInputs 2 base n sh P Ag I K := by
  unfold w_turnInputs at h
  split at h
  · rename_i o x
    obtain ⟨rfl, hI, hR, k, rfl, hk, hT, hA⟩ := h
    obtain ⟨b0, ⟨b1, b2⟩, bN, ⟨b3, b4⟩, bL, -⟩ := id hM
    unfold turnWS at hA
    refine pw_bd [_, _, _, _, _] pl_X0 c_ri rfl rfl ?_
    have ex : ∀ (J : pw_I) (T : Nat → Int32) (z x t : Int32), relF J o T → K none J → PW (mX0_turnInputs, 2, 0, 0, none, base) n sh P J 0 0 15 [some (.ref o), some (.int z), some (.int x), some (.int (-1)), some (.int t)] [] (pw_QK n sh P K) := by
      intro J T z x t hF hK
      refine pw_go okX0_turnInputs (cc [(2, (w_hasNode o T))]) ⟨Nat.le_refl _, Nat.le_refl _⟩ (cc_c (fun Ag I K h => ⟨0, Nat.le_of_ble_eq_true rfl, x_hasNode hM h⟩) cc_n) (st2 15 30) 60 ?_
      simp only [↓f_vc_s, ↓vk_i, ↓cc_i, ↓reduceIte, f_vq_s, Bool.false_eq_true, ↓f_e_iconst, ↓f_e_bipush, ↓f_e_sipush, ↓f_e_ldc, ↓f_e_ldc_w, ↓f_e_iload_n, ↓f_e_iload, ↓f_e_aload_n, ↓f_e_aload, ↓f_e_istore_n, ↓f_e_istore, ↓f_e_astore_n, ↓f_e_astore, ↓f_e_iinc, ↓f_e_iadd, ↓f_e_isub, ↓f_e_imul, ↓f_e_iand, ↓f_e_ior, ↓f_e_ixor, ↓f_e_idiv, ↓f_e_irem, ↓f_e_ishl, ↓f_e_ishr, ↓f_e_iushr, ↓f_e_i2c, ↓f_e_dup, ↓f_e_dup2, ↓f_e_pop, ↓f_e_goto, ↓f_e_ifCond, ↓f_e_if_icmp, ↓f_e_tableswitch, ↓f_e_lookupswitch, ↓f_e_getfield_i, ↓f_e_getfield_r, ↓f_e_putfield_i, ↓f_e_putfield_z, ↓f_e_iaload, ↓f_e_caload, ↓f_e_aaload, ↓f_e_iastore, ↓f_e_castore, ↓f_e_arraylength, ↓f_e_invokestatic, ↓f_e_invokevirtual, ↓f_e_ireturn, ↓f_e_return_, ↓f_s_i_c, ↓f_s_r_c, ↓f_s_v_i, ↓f_s_v_r, ↓f_s_l_0, ↓s_l_1, ↓s_l_2, ↓s_l_3, ↓s_l_4, ↓s_l_5, ↓s_l_6, ↓s_a_0, ↓s_a_1, ↓s_a_2, ↓s_a_3, ↓s_m_0, ↓f_s_m_i, ↓f_s_m_r, ↓f_s_m_i7, ↓f_s_m_r7, ↓f_s_m_i6, ↓f_s_m_r6, ↓f_s_m_i5, ↓f_s_m_r5, ↓f_s_m_i4, ↓f_s_m_r4, ↓f_s_w_n, ↓f_s_w_c, ↓f_s_p_eq, ↓f_s_p_ne, ↓f_s_p_lt, ↓f_s_p_ge, ↓f_s_p_gt, ↓f_s_p_le, ↓nk_i, ↓nk_z, ↓nk_c, ↓rf_s, ↓ov_s, ↓ov_n, ↓fin0, ↓fin1, ↓fin2, ↓fin3, cond_true, cond_false, List.set_cons_zero, List.set_cons_succ, List.length_cons, List.length_nil, true_and, and_true, true_or, or_true, implies_true, forall_const, not_true_eq_false, not_false_eq_true, false_implies, Nat.reduceAdd, Nat.reduceLT, Nat.reduceBEq, Nat.reduceEqDiff, Bool.or_false, Bool.false_or, Bool.or_true, Bool.true_or, beq_self_eq_true, Nat.reduceLeDiff, Nat.reduceMul, Nat.reduceSub, eq_self, Nat.reduceBneDiff, st0_s, st1_s, st2_s, st3_s, reduceCtorEq, cc_0, tl_0, cl_0, il_0, tl_1, cl_1, il_1, tl_2, cl_2, il_2, tl_3, cl_3, il_3, tl_4, cl_4, il_4, tl_5, cl_5, il_5, tl_6, cl_6, il_6, tl_7, cl_7, il_7, tl_8, cl_8, il_8, tl_9, cl_9, il_9, tl_10, cl_10, il_10, tl_11, cl_11, il_11, tl_12, cl_12, il_12, tl_13, cl_13, il_13, tl_14, cl_14, il_14, tl_15, cl_15, il_15, tl_16, cl_16, il_16, tl_20, tl_21, tl_25, tl_32, tl_48, tl_50, tl_57, tl_58, tl_59, tl_60, tl_99, tl_100, tl_101, tl_108, tl_109, tl_116, tl_120, tl_126, tl_374, tl_1122, tl_50000, i10, i01, tl_m1, tl_m2, tl_m3, tl_m4, nr_X0_turnInputs, tX0_turnInputs_0, tX0_turnInputs_1, tX0_turnInputs_2, tX0_turnInputs_3, tX0_turnInputs_6, tX0_turnInputs_7, tX0_turnInputs_8, tX0_turnInputs_11, tX0_turnInputs_12, tX0_turnInputs_13, tX0_turnInputs_15, tX0_turnInputs_17, tX0_turnInputs_19, tX0_turnInputs_22, tX0_turnInputs_23, tX0_turnInputs_24, tX0_turnInputs_27, tX0_turnInputs_30, tX0_turnInputs_31, tX0_turnInputs_34, tX0_turnInputs_35, tX0_turnInputs_36, tX0_turnInputs_39, tX0_turnInputs_42, tX0_turnInputs_43, tX0_turnInputs_46, tX0_turnInputs_47, tX0_turnInputs_48, tX0_turnInputs_51, tX0_turnInputs_52, tX0_turnInputs_55, tX0_turnInputs_57, tX0_turnInputs_58, tX0_turnInputs_59, tX0_turnInputs_60, tX0_turnInputs_61, tX0_turnInputs_64, tX0_turnInputs_65, tX0_turnInputs_66, tX0_turnInputs_69, tX0_turnInputs_70, tX0_turnInputs_73, tX0_turnInputs_76, pw_QK_s, b0, ↓w_hasNode]
      exact ⟨fun _ => hK, fun _ => ⟨hF, fun q => absurd q.1 (by decide), fun _ => hK⟩⟩
    have loop : ∀ (f j : Nat) (J : pw_I) (T : Nat → Int32) (z x : Int32) (t : Nat), j < f → t + j < 6 → InvB T → RelB J o T → brdOK o I J → j < vN T 3 → turnOK (wayS T j) T x → (∀ J', brdOK o I J' → RelB J' o (turnW (wayS T j) T x) → K none J') →
        PW (mX0_turnInputs, 2, 0, 0, none, base) n sh P J 0 0 15 [some (.ref o), some (.int z), some (.int x), some (.int (nI j)), some (.int (nI t))] [] (pw_QK n sh P K) := by
      intro f
      induction f with
      | zero => intro j J T z x t h1; omega
      | succ f ih =>
        intro j J T z x t hf ht hI hR hJ hj3 hT hK
        have h3 := hI.1
        have hj : j < 6 := by omega
        have cj : (nI j).toNatClampNeg = j := cl_nI (by omega)
        have tj : (nI j).toInt = (j : Int) := ti_nI (by omega)
        have l3 : (T 3).toInt = (vN T 3 : Int) := (congrArg Int32.toInt h3.1).trans (ti_nI (by omega))
        obtain ⟨⟨n1, n2⟩, n4, n5⟩ := bN j hj
        obtain ⟨r1, r2, r3, r4, r5⟩ := hR.2.1 j hj
        have hb := hI.2.2.2.1 j hj
        have next : ∀ (T' : Nat → Int32) (J' : pw_I), Agr T T' → RelB J' o T' → brdOK o I J' → (T' = if T (16 + 25 * j + 1) = 1 then turnB T j x else T) → PW (mX0_turnInputs, 2, 0, 0, none, base) n sh P J' 0 0 55 [some (.ref o), some (.int z), some (.int x), some (.int (nI j)), some (.int (nI t))] [] (pw_QK n sh P K) := by
          intro T' J' hAg hR' hJ' hT'
          have r1' := (hR'.2.1 j hj).1
          rw [show T' (16 + 25 * j) = T (16 + 25 * j) from hAg.nd (c := 0) (by omega)] at r1'
          have hI' := hAg.InvB hI
          refine pw_go okX0_turnInputs (cc []) ⟨Nat.le_refl _, Nat.le_refl _⟩ cc_n (st2 15 55) 60 ?_
          simp only [↓f_vc_s, ↓vk_i, ↓cc_i, ↓reduceIte, f_vq_s, Bool.false_eq_true, ↓f_e_iconst, ↓f_e_bipush, ↓f_e_sipush, ↓f_e_ldc, ↓f_e_ldc_w, ↓f_e_iload_n, ↓f_e_iload, ↓f_e_aload_n, ↓f_e_aload, ↓f_e_istore_n, ↓f_e_istore, ↓f_e_astore_n, ↓f_e_astore, ↓f_e_iinc, ↓f_e_iadd, ↓f_e_isub, ↓f_e_imul, ↓f_e_iand, ↓f_e_ior, ↓f_e_ixor, ↓f_e_idiv, ↓f_e_irem, ↓f_e_ishl, ↓f_e_ishr, ↓f_e_iushr, ↓f_e_i2c, ↓f_e_dup, ↓f_e_dup2, ↓f_e_pop, ↓f_e_goto, ↓f_e_ifCond, ↓f_e_if_icmp, ↓f_e_tableswitch, ↓f_e_lookupswitch, ↓f_e_getfield_i, ↓f_e_getfield_r, ↓f_e_putfield_i, ↓f_e_putfield_z, ↓f_e_iaload, ↓f_e_caload, ↓f_e_aaload, ↓f_e_iastore, ↓f_e_castore, ↓f_e_arraylength, ↓f_e_invokestatic, ↓f_e_invokevirtual, ↓f_e_ireturn, ↓f_e_return_, ↓f_s_i_c, ↓f_s_r_c, ↓f_s_v_i, ↓f_s_v_r, ↓f_s_l_0, ↓s_l_1, ↓s_l_2, ↓s_l_3, ↓s_l_4, ↓s_l_5, ↓s_l_6, ↓s_a_0, ↓s_a_1, ↓s_a_2, ↓s_a_3, ↓s_m_0, ↓f_s_m_i, ↓f_s_m_r, ↓f_s_m_i7, ↓f_s_m_r7, ↓f_s_m_i6, ↓f_s_m_r6, ↓f_s_m_i5, ↓f_s_m_r5, ↓f_s_m_i4, ↓f_s_m_r4, ↓f_s_w_n, ↓f_s_w_c, ↓f_s_p_eq, ↓f_s_p_ne, ↓f_s_p_lt, ↓f_s_p_ge, ↓f_s_p_gt, ↓f_s_p_le, ↓nk_i, ↓nk_z, ↓nk_c, ↓rf_s, ↓ov_s, ↓ov_n, ↓fin0, ↓fin1, ↓fin2, ↓fin3, cond_true, cond_false, List.set_cons_zero, List.set_cons_succ, List.length_cons, List.length_nil, true_and, and_true, true_or, or_true, implies_true, forall_const, not_true_eq_false, not_false_eq_true, false_implies, Nat.reduceAdd, Nat.reduceLT, Nat.reduceBEq, Nat.reduceEqDiff, Bool.or_false, Bool.false_or, Bool.or_true, Bool.true_or, beq_self_eq_true, Nat.reduceLeDiff, Nat.reduceMul, Nat.reduceSub, eq_self, Nat.reduceBneDiff, st0_s, st1_s, st2_s, st3_s, reduceCtorEq, cc_0, tl_0, cl_0, il_0, tl_1, cl_1, il_1, tl_2, cl_2, il_2, tl_3, cl_3, il_3, tl_4, cl_4, il_4, tl_5, cl_5, il_5, tl_6, cl_6, il_6, tl_7, cl_7, il_7, tl_8, cl_8, il_8, tl_9, cl_9, il_9, tl_10, cl_10, il_10, tl_11, cl_11, il_11, tl_12, cl_12, il_12, tl_13, cl_13, il_13, tl_14, cl_14, il_14, tl_15, cl_15, il_15, tl_16, cl_16, il_16, tl_20, tl_21, tl_25, tl_32, tl_48, tl_50, tl_57, tl_58, tl_59, tl_60, tl_99, tl_100, tl_101, tl_108, tl_109, tl_116, tl_120, tl_126, tl_374, tl_1122, tl_50000, i10, i01, tl_m1, tl_m2, tl_m3, tl_m4, nr_X0_turnInputs, tX0_turnInputs_0, tX0_turnInputs_1, tX0_turnInputs_2, tX0_turnInputs_3, tX0_turnInputs_6, tX0_turnInputs_7, tX0_turnInputs_8, tX0_turnInputs_11, tX0_turnInputs_12, tX0_turnInputs_13, tX0_turnInputs_15, tX0_turnInputs_17, tX0_turnInputs_19, tX0_turnInputs_22, tX0_turnInputs_23, tX0_turnInputs_24, tX0_turnInputs_27, tX0_turnInputs_30, tX0_turnInputs_31, tX0_turnInputs_34, tX0_turnInputs_35, tX0_turnInputs_36, tX0_turnInputs_39, tX0_turnInputs_42, tX0_turnInputs_43, tX0_turnInputs_46, tX0_turnInputs_47, tX0_turnInputs_48, tX0_turnInputs_51, tX0_turnInputs_52, tX0_turnInputs_55, tX0_turnInputs_57, tX0_turnInputs_58, tX0_turnInputs_59, tX0_turnInputs_60, tX0_turnInputs_61, tX0_turnInputs_64, tX0_turnInputs_65, tX0_turnInputs_66, tX0_turnInputs_69, tX0_turnInputs_70, tX0_turnInputs_73, tX0_turnInputs_76, pw_QK_s, b0, b1, b2, cj, n1, n2, r1']
          rw [jx_100, ix_1]
          refine ⟨in_nI hj (by omega), ?_⟩
          by_cases hj0 : j = 0
          · subst hj0
            rw [show T (16 + 25 * 0) = -1 from hI.2.2.2.2.1.1]
            refine ex _ T' _ _ _ hR'.1 (hK _ hJ' ?_)
            rw [wayS_0]
            show RelB J' o (if T (16 + 25 * 0 + 1) = 1 then turnB T 0 x else T)
            rw [← hT']
            exact hR'
          · have hon := hI.2.2.2.2.1.2 j (by omega) hj
            rw [wayS_s hI (by omega) hj] at hT hK
            rw [hon.1]
            have hT2 := hT.2
            rw [← hT'] at hT2
            refine ih (onS T j) J' T' _ _ (t + 1) (by have := hI.on j (by omega) hj; omega) (by have := hI.on j (by omega) hj; omega) hI' hR' hJ' ?_ ?_ (fun J2 h1 h2 => hK J2 h1 ?_)
            · have := hI.on j (by omega) hj
              have e3 : vN T' 3 = vN T 3 := by unfold vN; rw [hAg.lo (by omega)]
              omega
            · rw [hAg.way]; exact hT2
            · rw [hAg.way] at h2
              show RelB J2 o (turnW (wayS T (onS T j)) (if T (16 + 25 * j + 1) = 1 then turnB T j x else T) (nI (100 + j)))
              rw [← hT']
              exact h2
        refine pw_go okX0_turnInputs (cc [(2, (w_hasNode o T)), (63, (w_moveBehind (o + 3 + 3 * j) (o + 4 + 3 * j)))]) ⟨Nat.le_refl _, Nat.le_refl _⟩ (cc_c (fun Ag I K h => ⟨0, Nat.le_of_ble_eq_true rfl, x_hasNode hM h⟩) (cc_c (fun Ag I K h => ⟨1, Nat.le_of_ble_eq_true rfl, x_moveBehind n5 h⟩) cc_n)) (st2 15 55) 60 ?_
        simp only [↓f_vc_s, ↓vk_i, ↓cc_i, ↓reduceIte, f_vq_s, Bool.false_eq_true, ↓f_e_iconst, ↓f_e_bipush, ↓f_e_sipush, ↓f_e_ldc, ↓f_e_ldc_w, ↓f_e_iload_n, ↓f_e_iload, ↓f_e_aload_n, ↓f_e_aload, ↓f_e_istore_n, ↓f_e_istore, ↓f_e_astore_n, ↓f_e_astore, ↓f_e_iinc, ↓f_e_iadd, ↓f_e_isub, ↓f_e_imul, ↓f_e_iand, ↓f_e_ior, ↓f_e_ixor, ↓f_e_idiv, ↓f_e_irem, ↓f_e_ishl, ↓f_e_ishr, ↓f_e_iushr, ↓f_e_i2c, ↓f_e_dup, ↓f_e_dup2, ↓f_e_pop, ↓f_e_goto, ↓f_e_ifCond, ↓f_e_if_icmp, ↓f_e_tableswitch, ↓f_e_lookupswitch, ↓f_e_getfield_i, ↓f_e_getfield_r, ↓f_e_putfield_i, ↓f_e_putfield_z, ↓f_e_iaload, ↓f_e_caload, ↓f_e_aaload, ↓f_e_iastore, ↓f_e_castore, ↓f_e_arraylength, ↓f_e_invokestatic, ↓f_e_invokevirtual, ↓f_e_ireturn, ↓f_e_return_, ↓f_s_i_c, ↓f_s_r_c, ↓f_s_v_i, ↓f_s_v_r, ↓f_s_l_0, ↓s_l_1, ↓s_l_2, ↓s_l_3, ↓s_l_4, ↓s_l_5, ↓s_l_6, ↓s_a_0, ↓s_a_1, ↓s_a_2, ↓s_a_3, ↓s_m_0, ↓f_s_m_i, ↓f_s_m_r, ↓f_s_m_i7, ↓f_s_m_r7, ↓f_s_m_i6, ↓f_s_m_r6, ↓f_s_m_i5, ↓f_s_m_r5, ↓f_s_m_i4, ↓f_s_m_r4, ↓f_s_w_n, ↓f_s_w_c, ↓f_s_p_eq, ↓f_s_p_ne, ↓f_s_p_lt, ↓f_s_p_ge, ↓f_s_p_gt, ↓f_s_p_le, ↓nk_i, ↓nk_z, ↓nk_c, ↓rf_s, ↓ov_s, ↓ov_n, ↓fin0, ↓fin1, ↓fin2, ↓fin3, cond_true, cond_false, List.set_cons_zero, List.set_cons_succ, List.length_cons, List.length_nil, true_and, and_true, true_or, or_true, implies_true, forall_const, not_true_eq_false, not_false_eq_true, false_implies, Nat.reduceAdd, Nat.reduceLT, Nat.reduceBEq, Nat.reduceEqDiff, Bool.or_false, Bool.false_or, Bool.or_true, Bool.true_or, beq_self_eq_true, Nat.reduceLeDiff, Nat.reduceMul, Nat.reduceSub, eq_self, Nat.reduceBneDiff, st0_s, st1_s, st2_s, st3_s, reduceCtorEq, cc_0, tl_0, cl_0, il_0, tl_1, cl_1, il_1, tl_2, cl_2, il_2, tl_3, cl_3, il_3, tl_4, cl_4, il_4, tl_5, cl_5, il_5, tl_6, cl_6, il_6, tl_7, cl_7, il_7, tl_8, cl_8, il_8, tl_9, cl_9, il_9, tl_10, cl_10, il_10, tl_11, cl_11, il_11, tl_12, cl_12, il_12, tl_13, cl_13, il_13, tl_14, cl_14, il_14, tl_15, cl_15, il_15, tl_16, cl_16, il_16, tl_20, tl_21, tl_25, tl_32, tl_48, tl_50, tl_57, tl_58, tl_59, tl_60, tl_99, tl_100, tl_101, tl_108, tl_109, tl_116, tl_120, tl_126, tl_374, tl_1122, tl_50000, i10, i01, tl_m1, tl_m2, tl_m3, tl_m4, nr_X0_turnInputs, tX0_turnInputs_0, tX0_turnInputs_1, tX0_turnInputs_2, tX0_turnInputs_3, tX0_turnInputs_6, tX0_turnInputs_7, tX0_turnInputs_8, tX0_turnInputs_11, tX0_turnInputs_12, tX0_turnInputs_13, tX0_turnInputs_15, tX0_turnInputs_17, tX0_turnInputs_19, tX0_turnInputs_22, tX0_turnInputs_23, tX0_turnInputs_24, tX0_turnInputs_27, tX0_turnInputs_30, tX0_turnInputs_31, tX0_turnInputs_34, tX0_turnInputs_35, tX0_turnInputs_36, tX0_turnInputs_39, tX0_turnInputs_42, tX0_turnInputs_43, tX0_turnInputs_46, tX0_turnInputs_47, tX0_turnInputs_48, tX0_turnInputs_51, tX0_turnInputs_52, tX0_turnInputs_55, tX0_turnInputs_57, tX0_turnInputs_58, tX0_turnInputs_59, tX0_turnInputs_60, tX0_turnInputs_61, tX0_turnInputs_64, tX0_turnInputs_65, tX0_turnInputs_66, tX0_turnInputs_69, tX0_turnInputs_70, tX0_turnInputs_73, tX0_turnInputs_76, pw_QK_s, b0, b1, b2, cj, n1, n2, n4, n5.1, r2, ↓w_hasNode, ↓w_moveBehind]
        rw [tj, l3]
        refine ⟨fun q => absurd q (nI_ge (a := t) (b := 6) (by omega) (by omega)), fun _ => ⟨hR.1, fun _ => ⟨in_nI hj (by omega), fun q => ?_, fun q => ⟨in_nI hj (by omega), cntS T j, r4.trans hb.2.2.1, hb.2.2.2, ?_, ?_⟩⟩, fun q => absurd (by omega) q⟩⟩
        · have q0 : ¬ T (16 + 25 * j + 1) = 1 := by rw [q]; decide
          exact next T J Agr.rf hR hJ (if_neg q0).symm
        · have q1 := hb.1.resolve_left q
          have : posF (J (o + 4 + 3 * j)) x (cntS T j) = posF (fun i => T (16 + 25 * j + 4 + i)) x (cntS T j) := posF_congr _ (fun i hi => r5 i hi)
          rw [this]
          by_cases hj0 : j = 0
          · subst hj0
            rw [wayS_0] at hT
            exact hT.1 q1
          · rw [wayS_s hI (by omega) hj] at hT
            exact hT.1 q1
        · have q1 := hb.1.resolve_left q
          have hp : posF (fun i => T (16 + 25 * j + 4 + i)) x (cntS T j) < cntS T j := by
            by_cases hj0 : j = 0
            · subst hj0
              rw [wayS_0] at hT
              exact hT.1 q1
            · rw [wayS_s hI (by omega) hj] at hT
              exact hT.1 q1
          exact next (turnB T j x) _ (turnB_agr hj hb.2.2.2 hp) (hR.turn hI hj hp) (fun a h => by rw [set_n (by omega)]; exact hJ a h) (if_pos q1).symm
    obtain ⟨l1, l2⟩ := bL k hk
    have hat := (hI.2.2.2.2.2.1 k hk).1
    have h3 := hI.1
    have ck : (nI k).toNatClampNeg = k := cl_nI (by omega)
    have r1 := (hR.2.2.1 k hk).1.trans hat.1
    refine pw_go okX0_turnInputs (cc []) ⟨Nat.le_refl _, Nat.le_refl _⟩ cc_n (st1 15) 60 ?_
    simp only [↓f_vc_s, ↓vk_i, ↓cc_i, ↓reduceIte, f_vq_s, Bool.false_eq_true, ↓f_e_iconst, ↓f_e_bipush, ↓f_e_sipush, ↓f_e_ldc, ↓f_e_ldc_w, ↓f_e_iload_n, ↓f_e_iload, ↓f_e_aload_n, ↓f_e_aload, ↓f_e_istore_n, ↓f_e_istore, ↓f_e_astore_n, ↓f_e_astore, ↓f_e_iinc, ↓f_e_iadd, ↓f_e_isub, ↓f_e_imul, ↓f_e_iand, ↓f_e_ior, ↓f_e_ixor, ↓f_e_idiv, ↓f_e_irem, ↓f_e_ishl, ↓f_e_ishr, ↓f_e_iushr, ↓f_e_i2c, ↓f_e_dup, ↓f_e_dup2, ↓f_e_pop, ↓f_e_goto, ↓f_e_ifCond, ↓f_e_if_icmp, ↓f_e_tableswitch, ↓f_e_lookupswitch, ↓f_e_getfield_i, ↓f_e_getfield_r, ↓f_e_putfield_i, ↓f_e_putfield_z, ↓f_e_iaload, ↓f_e_caload, ↓f_e_aaload, ↓f_e_iastore, ↓f_e_castore, ↓f_e_arraylength, ↓f_e_invokestatic, ↓f_e_invokevirtual, ↓f_e_ireturn, ↓f_e_return_, ↓f_s_i_c, ↓f_s_r_c, ↓f_s_v_i, ↓f_s_v_r, ↓f_s_l_0, ↓s_l_1, ↓s_l_2, ↓s_l_3, ↓s_l_4, ↓s_l_5, ↓s_l_6, ↓s_a_0, ↓s_a_1, ↓s_a_2, ↓s_a_3, ↓s_m_0, ↓f_s_m_i, ↓f_s_m_r, ↓f_s_m_i7, ↓f_s_m_r7, ↓f_s_m_i6, ↓f_s_m_r6, ↓f_s_m_i5, ↓f_s_m_r5, ↓f_s_m_i4, ↓f_s_m_r4, ↓f_s_w_n, ↓f_s_w_c, ↓f_s_p_eq, ↓f_s_p_ne, ↓f_s_p_lt, ↓f_s_p_ge, ↓f_s_p_gt, ↓f_s_p_le, ↓nk_i, ↓nk_z, ↓nk_c, ↓rf_s, ↓ov_s, ↓ov_n, ↓fin0, ↓fin1, ↓fin2, ↓fin3, cond_true, cond_false, List.set_cons_zero, List.set_cons_succ, List.length_cons, List.length_nil, true_and, and_true, true_or, or_true, implies_true, forall_const, not_true_eq_false, not_false_eq_true, false_implies, Nat.reduceAdd, Nat.reduceLT, Nat.reduceBEq, Nat.reduceEqDiff, Bool.or_false, Bool.false_or, Bool.or_true, Bool.true_or, beq_self_eq_true, Nat.reduceLeDiff, Nat.reduceMul, Nat.reduceSub, eq_self, Nat.reduceBneDiff, st0_s, st1_s, st2_s, st3_s, reduceCtorEq, cc_0, tl_0, cl_0, il_0, tl_1, cl_1, il_1, tl_2, cl_2, il_2, tl_3, cl_3, il_3, tl_4, cl_4, il_4, tl_5, cl_5, il_5, tl_6, cl_6, il_6, tl_7, cl_7, il_7, tl_8, cl_8, il_8, tl_9, cl_9, il_9, tl_10, cl_10, il_10, tl_11, cl_11, il_11, tl_12, cl_12, il_12, tl_13, cl_13, il_13, tl_14, cl_14, il_14, tl_15, cl_15, il_15, tl_16, cl_16, il_16, tl_20, tl_21, tl_25, tl_32, tl_48, tl_50, tl_57, tl_58, tl_59, tl_60, tl_99, tl_100, tl_101, tl_108, tl_109, tl_116, tl_120, tl_126, tl_374, tl_1122, tl_50000, i10, i01, tl_m1, tl_m2, tl_m3, tl_m4, nr_X0_turnInputs, tX0_turnInputs_0, tX0_turnInputs_1, tX0_turnInputs_2, tX0_turnInputs_3, tX0_turnInputs_6, tX0_turnInputs_7, tX0_turnInputs_8, tX0_turnInputs_11, tX0_turnInputs_12, tX0_turnInputs_13, tX0_turnInputs_15, tX0_turnInputs_17, tX0_turnInputs_19, tX0_turnInputs_22, tX0_turnInputs_23, tX0_turnInputs_24, tX0_turnInputs_27, tX0_turnInputs_30, tX0_turnInputs_31, tX0_turnInputs_34, tX0_turnInputs_35, tX0_turnInputs_36, tX0_turnInputs_39, tX0_turnInputs_42, tX0_turnInputs_43, tX0_turnInputs_46, tX0_turnInputs_47, tX0_turnInputs_48, tX0_turnInputs_51, tX0_turnInputs_52, tX0_turnInputs_55, tX0_turnInputs_57, tX0_turnInputs_58, tX0_turnInputs_59, tX0_turnInputs_60, tX0_turnInputs_61, tX0_turnInputs_64, tX0_turnInputs_65, tX0_turnInputs_66, tX0_turnInputs_69, tX0_turnInputs_70, tX0_turnInputs_73, tX0_turnInputs_76, pw_QK_s, b0, b3, b4, ck, l1, l2, r1]
    exact ⟨in_nI hk (by omega), loop 6 _ I S _ _ 0 (by omega) (by omega) hI hR (fun a _ => rfl) hat.2 hT hA⟩
  · exact h.elim
def w_passOver (b : Nat) (S : Nat → Int32) (ob : Option Nat) : pw_Wp := fun Ag I K => match Ag with
  | [.ref o, .int x] => o = b ∧ x = optI ob ∧ InvB S ∧ RelB I b S ∧ (ob = none → K none I) ∧ ∀ k, ob = some k → k < vN S 4 ∧ turnOK (wayS (upd S (166 + 13 * k + 3) 0) (vN (upd S (166 + 13 * k + 3) 0) (166 + 13 * k))) (upd S (166 + 13 * k + 3) 0) (nI k) ∧ ∀ J, brdOK b I J → RelB J b (turnWS (upd S (166 + 13 * k + 3) 0) k) → K none J
  | _ => False
set_option maxRecDepth 100000 in
set_option maxHeartbeats 4000000 in
theorem x_passOver {ob : Option Nat} (hM : pw_brd sh P b) (h : w_passOver b S ob Ag I K) : pw_ok mX0_passOver 3 base n sh P Ag I K := by
  unfold w_passOver at h
  split at h
  · rename_i o x
    obtain ⟨rfl, rfl, hI, hR, hA, hB⟩ := h
    obtain ⟨b0, ⟨b1, b2⟩, bN, ⟨b3, b4⟩, bL, -⟩ := id hM
    have h4 := hI.2.1
    have l4 : (S 4).toInt = (vN S 4 : Int) := (congrArg Int32.toInt h4.1).trans (ti_nI (by omega))
    refine pw_bd [_, _] pl_X0 c_ri rfl rfl ?_
    cases ob with
    | none =>
      have hA := hA rfl
      refine pw_go okX0_passOver (cc [(3, (w_hasLine o S))]) ⟨Nat.le_refl _, Nat.le_refl _⟩ (cc_c (fun Ag I K h => ⟨0, Nat.le_of_ble_eq_true rfl, x_hasLine hM h⟩) cc_n) (st1 8) 60 ?_
      simp only [↓f_vc_s, ↓vk_i, ↓cc_i, ↓reduceIte, f_vq_s, Bool.false_eq_true, ↓f_e_iconst, ↓f_e_bipush, ↓f_e_sipush, ↓f_e_ldc, ↓f_e_ldc_w, ↓f_e_iload_n, ↓f_e_iload, ↓f_e_aload_n, ↓f_e_aload, ↓f_e_istore_n, ↓f_e_istore, ↓f_e_astore_n, ↓f_e_astore, ↓f_e_iinc, ↓f_e_iadd, ↓f_e_isub, ↓f_e_imul, ↓f_e_iand, ↓f_e_ior, ↓f_e_ixor, ↓f_e_idiv, ↓f_e_irem, ↓f_e_ishl, ↓f_e_ishr, ↓f_e_iushr, ↓f_e_i2c, ↓f_e_dup, ↓f_e_dup2, ↓f_e_pop, ↓f_e_goto, ↓f_e_ifCond, ↓f_e_if_icmp, ↓f_e_tableswitch, ↓f_e_lookupswitch, ↓f_e_getfield_i, ↓f_e_getfield_r, ↓f_e_putfield_i, ↓f_e_putfield_z, ↓f_e_iaload, ↓f_e_caload, ↓f_e_aaload, ↓f_e_iastore, ↓f_e_castore, ↓f_e_arraylength, ↓f_e_invokestatic, ↓f_e_invokevirtual, ↓f_e_ireturn, ↓f_e_return_, ↓f_s_i_c, ↓f_s_r_c, ↓f_s_v_i, ↓f_s_v_r, ↓f_s_l_0, ↓s_l_1, ↓s_l_2, ↓s_l_3, ↓s_l_4, ↓s_l_5, ↓s_l_6, ↓s_a_0, ↓s_a_1, ↓s_a_2, ↓s_a_3, ↓s_m_0, ↓f_s_m_i, ↓f_s_m_r, ↓f_s_m_i7, ↓f_s_m_r7, ↓f_s_m_i6, ↓f_s_m_r6, ↓f_s_m_i5, ↓f_s_m_r5, ↓f_s_m_i4, ↓f_s_m_r4, ↓f_s_w_n, ↓f_s_w_c, ↓f_s_p_eq, ↓f_s_p_ne, ↓f_s_p_lt, ↓f_s_p_ge, ↓f_s_p_gt, ↓f_s_p_le, ↓nk_i, ↓nk_z, ↓nk_c, ↓rf_s, ↓ov_s, ↓ov_n, ↓fin0, ↓fin1, ↓fin2, ↓fin3, cond_true, cond_false, List.set_cons_zero, List.set_cons_succ, List.length_cons, List.length_nil, true_and, and_true, true_or, or_true, implies_true, forall_const, not_true_eq_false, not_false_eq_true, false_implies, Nat.reduceAdd, Nat.reduceLT, Nat.reduceBEq, Nat.reduceEqDiff, Bool.or_false, Bool.false_or, Bool.or_true, Bool.true_or, beq_self_eq_true, Nat.reduceLeDiff, Nat.reduceMul, Nat.reduceSub, eq_self, Nat.reduceBneDiff, st0_s, st1_s, st2_s, st3_s, reduceCtorEq, cc_0, tl_0, cl_0, il_0, tl_1, cl_1, il_1, tl_2, cl_2, il_2, tl_3, cl_3, il_3, tl_4, cl_4, il_4, tl_5, cl_5, il_5, tl_6, cl_6, il_6, tl_7, cl_7, il_7, tl_8, cl_8, il_8, tl_9, cl_9, il_9, tl_10, cl_10, il_10, tl_11, cl_11, il_11, tl_12, cl_12, il_12, tl_13, cl_13, il_13, tl_14, cl_14, il_14, tl_15, cl_15, il_15, tl_16, cl_16, il_16, tl_20, tl_21, tl_25, tl_32, tl_48, tl_50, tl_57, tl_58, tl_59, tl_60, tl_99, tl_100, tl_101, tl_108, tl_109, tl_116, tl_120, tl_126, tl_374, tl_1122, tl_50000, i10, i01, tl_m1, tl_m2, tl_m3, tl_m4, nr_X0_passOver, tX0_passOver_0, tX0_passOver_1, tX0_passOver_2, tX0_passOver_5, tX0_passOver_8, tX0_passOver_9, tX0_passOver_12, tX0_passOver_13, tX0_passOver_14, tX0_passOver_15, tX0_passOver_18, tX0_passOver_19, tX0_passOver_20, tX0_passOver_23, pw_QK_s, b0, hR.1.2.1, ↓w_hasLine, optI]
      exact ⟨fun q => absurd q.1 (by decide), fun _ => hA⟩
    | some k =>
      obtain ⟨hk4, hT, hB⟩ := hB k rfl
      have hk : k < 16 := by omega
      obtain ⟨l1, l2⟩ := bL k hk
      have ck : (nI k).toNatClampNeg = k := cl_nI (by omega)
      have tk : (nI k).toInt = (k : Int) := ti_nI (by omega)
      have r := hR.2.2.1 k hk
      have fin : RelB (pw_up I (o + 21 + k) 3 0) o (upd S (166 + 13 * k + 3) 0) := by
        refine hR.ln hI hk (fun a h => by rw [up_set, set_n h]) (fun i h1 h2 => upd_n (by omega)) ?_
        unfold relL
        refine ⟨?_, ?_, ?_, ?_, ?_, ?_, ?_, ?_, ?_, ?_, ?_, ?_⟩ <;> simp (disch := omega) only [up_n, up_r, upd_n, upd_s, r.1, r.2.1, r.2.2.1, r.2.2.2.1, r.2.2.2.2.1, r.2.2.2.2.2.1, r.2.2.2.2.2.2.1, r.2.2.2.2.2.2.2.1, r.2.2.2.2.2.2.2.2.1, r.2.2.2.2.2.2.2.2.2.1, r.2.2.2.2.2.2.2.2.2.2.1, r.2.2.2.2.2.2.2.2.2.2.2]
      refine pw_go okX0_passOver (cc [(3, (w_hasLine o S)), (17, (w_turnInputs o (upd S (166 + 13 * k + 3) 0)))]) ⟨Nat.le_refl _, Nat.le_refl _⟩ (cc_c (fun Ag I K h => ⟨0, Nat.le_of_ble_eq_true rfl, x_hasLine hM h⟩) (cc_c (fun Ag I K h => ⟨2, Nat.le_of_ble_eq_true rfl, x_turnInputs hM h⟩) cc_n)) (st0) 60 ?_
      simp only [↓f_vc_s, ↓vk_i, ↓cc_i, ↓reduceIte, f_vq_s, Bool.false_eq_true, ↓f_e_iconst, ↓f_e_bipush, ↓f_e_sipush, ↓f_e_ldc, ↓f_e_ldc_w, ↓f_e_iload_n, ↓f_e_iload, ↓f_e_aload_n, ↓f_e_aload, ↓f_e_istore_n, ↓f_e_istore, ↓f_e_astore_n, ↓f_e_astore, ↓f_e_iinc, ↓f_e_iadd, ↓f_e_isub, ↓f_e_imul, ↓f_e_iand, ↓f_e_ior, ↓f_e_ixor, ↓f_e_idiv, ↓f_e_irem, ↓f_e_ishl, ↓f_e_ishr, ↓f_e_iushr, ↓f_e_i2c, ↓f_e_dup, ↓f_e_dup2, ↓f_e_pop, ↓f_e_goto, ↓f_e_ifCond, ↓f_e_if_icmp, ↓f_e_tableswitch, ↓f_e_lookupswitch, ↓f_e_getfield_i, ↓f_e_getfield_r, ↓f_e_putfield_i, ↓f_e_putfield_z, ↓f_e_iaload, ↓f_e_caload, ↓f_e_aaload, ↓f_e_iastore, ↓f_e_castore, ↓f_e_arraylength, ↓f_e_invokestatic, ↓f_e_invokevirtual, ↓f_e_ireturn, ↓f_e_return_, ↓f_s_i_c, ↓f_s_r_c, ↓f_s_v_i, ↓f_s_v_r, ↓f_s_l_0, ↓s_l_1, ↓s_l_2, ↓s_l_3, ↓s_l_4, ↓s_l_5, ↓s_l_6, ↓s_a_0, ↓s_a_1, ↓s_a_2, ↓s_a_3, ↓s_m_0, ↓f_s_m_i, ↓f_s_m_r, ↓f_s_m_i7, ↓f_s_m_r7, ↓f_s_m_i6, ↓f_s_m_r6, ↓f_s_m_i5, ↓f_s_m_r5, ↓f_s_m_i4, ↓f_s_m_r4, ↓f_s_w_n, ↓f_s_w_c, ↓f_s_p_eq, ↓f_s_p_ne, ↓f_s_p_lt, ↓f_s_p_ge, ↓f_s_p_gt, ↓f_s_p_le, ↓nk_i, ↓nk_z, ↓nk_c, ↓rf_s, ↓ov_s, ↓ov_n, ↓fin0, ↓fin1, ↓fin2, ↓fin3, cond_true, cond_false, List.set_cons_zero, List.set_cons_succ, List.length_cons, List.length_nil, true_and, and_true, true_or, or_true, implies_true, forall_const, not_true_eq_false, not_false_eq_true, false_implies, Nat.reduceAdd, Nat.reduceLT, Nat.reduceBEq, Nat.reduceEqDiff, Bool.or_false, Bool.false_or, Bool.or_true, Bool.true_or, beq_self_eq_true, Nat.reduceLeDiff, Nat.reduceMul, Nat.reduceSub, eq_self, Nat.reduceBneDiff, st0_s, st1_s, st2_s, st3_s, reduceCtorEq, cc_0, tl_0, cl_0, il_0, tl_1, cl_1, il_1, tl_2, cl_2, il_2, tl_3, cl_3, il_3, tl_4, cl_4, il_4, tl_5, cl_5, il_5, tl_6, cl_6, il_6, tl_7, cl_7, il_7, tl_8, cl_8, il_8, tl_9, cl_9, il_9, tl_10, cl_10, il_10, tl_11, cl_11, il_11, tl_12, cl_12, il_12, tl_13, cl_13, il_13, tl_14, cl_14, il_14, tl_15, cl_15, il_15, tl_16, cl_16, il_16, tl_20, tl_21, tl_25, tl_32, tl_48, tl_50, tl_57, tl_58, tl_59, tl_60, tl_99, tl_100, tl_101, tl_108, tl_109, tl_116, tl_120, tl_126, tl_374, tl_1122, tl_50000, i10, i01, tl_m1, tl_m2, tl_m3, tl_m4, nr_X0_passOver, tX0_passOver_0, tX0_passOver_1, tX0_passOver_2, tX0_passOver_5, tX0_passOver_8, tX0_passOver_9, tX0_passOver_12, tX0_passOver_13, tX0_passOver_14, tX0_passOver_15, tX0_passOver_18, tX0_passOver_19, tX0_passOver_20, tX0_passOver_23, pw_QK_s, b0, b3, b4, ck, l1, l2, hR.1.2.1, ↓w_hasLine, ↓w_turnInputs, optI]
      rw [tk, l4]
      exact ⟨fun _ => ⟨in_nI hk (by omega), hI.bitL (Or.inl rfl) (Or.inl rfl), fin, k, rfl, hk, hT, fun J h1 h2 => hB J (fun a h => by rw [h1 a h, up_set, set_n (by omega)]) h2⟩, fun q => absurd (by omega) q⟩
  · exact h.elim
end TRN
