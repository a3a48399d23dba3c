/-! the class's board: the next line is taken -/
theorem dc_take : decode mX0_takeNext.2.1 78 = .ok (.invokestatic 154, 3) := by
  have h := (okX0_takeNext 78).resolve_left (fun h => by rw [tX0_takeNext_78] at h; cases h)
  rw [tX0_takeNext_78] at h
  exact h.1
theorem waitOK.to2 {S S' : Nat → Int32} {W : List Nat} (h : waitOK S W) (h4 : vN S 4 ≤ 16) (e4 : S' 4 = S 4) (es : ∀ k, k < 16 → (S' (166 + 13 * k + 4) = 2 ↔ S (166 + 13 * k + 4) = 2)) (ed : ∀ k, k < 16 → S' (166 + 13 * k + 11) = S (166 + 13 * k + 11)) (eo : ∀ k, k < 16 → S' (166 + 13 * k + 12) = S (166 + 13 * k + 12)) : waitOK S' W := by
  obtain ⟨w3, w4, w5⟩ := h
  have v4 : vN S' 4 = vN S 4 := by unfold vN; rw [e4]
  refine ⟨w3, fun k => ?_, w5.imp_of_mem fun {a c} ha hc q => ?_⟩
  · rw [v4]
    constructor
    · intro z
      have := (w4 k).mp z
      exact ⟨this.1, (es k (by omega)).mpr this.2⟩
    · intro z
      exact (w4 k).mpr ⟨z.1, (es k (by omega)).mp z.2⟩
  · have h1 := ((w4 a).mp ha).1
    have h2 := ((w4 c).mp hc).1
    unfold earlS
    rw [ed a (by omega), ed c (by omega), eo a (by omega), eo c (by omega)]
    exact q
theorem take1_lo {S : Nat → Int32} {k i : Nat} (h1 : i < 166) (h2 : i ≠ 7) (h3 : i ≠ 8) (h4 : i ≠ 10) (h5 : i ≠ 11 + vN S 10) : goTake1 S k i = S i := by
  unfold goTake1
  split
  · rw [upd_n h2, upd_n (by omega), upd_n (by omega), upd_n (by omega), upd_n (by omega), upd_n h4, upd_n h5]
  · rw [upd_n h3, upd_n (by omega), upd_n (by omega), upd_n h4, upd_n h5]
theorem take1_hi {S : Nat → Int32} {k i c : Nat} (h10 : vN S 10 < 4) (h : i ≠ k ∨ (c ≠ 3 ∧ c ≠ 4 ∧ c ≠ 8 ∧ c ≠ 9)) (hc : c < 13) : goTake1 S k (166 + 13 * i + c) = S (166 + 13 * i + c) := by
  have e10 : vN S 10 < 4 := h10
  unfold goTake1
  split
  · rw [upd_n (by omega), upd_n (by omega), upd_n (by omega), upd_n (by omega), upd_n (by omega), upd_n (by omega), upd_n (by omega)]
  · rw [upd_n (by omega), upd_n (by omega), upd_n (by omega), upd_n (by omega), upd_n (by omega)]
theorem take1_10 {S : Nat → Int32} {k : Nat} (h10 : vN S 10 < 4) : goTake1 S k 10 = nI (vN S 10 + 1) ∧ goTake1 S k (11 + vN S 10) = nI k ∧ goTake1 S k (166 + 13 * k + 4) = 1 := by
  have e10 : vN S 10 < 4 := h10
  unfold goTake1
  split
  · refine ⟨?_, ?_, ?_⟩
    · rw [upd_n (by omega), upd_n (by omega), upd_n (by omega), upd_n (by omega), upd_n (by omega), upd_s]
    · rw [upd_n (by omega), upd_n (by omega), upd_n (by omega), upd_n (by omega), upd_n (by omega), upd_n (by omega), upd_s]
    · rw [upd_n (by omega), upd_n (by omega), upd_n (by omega), upd_n (by omega), upd_s]
  · refine ⟨?_, ?_, ?_⟩
    · rw [upd_n (by omega), upd_n (by omega), upd_n (by omega), upd_s]
    · rw [upd_n (by omega), upd_n (by omega), upd_n (by omega), upd_n (by omega), upd_s]
    · rw [upd_n (by omega), upd_n (by omega), upd_s]
theorem take_rel {J J2 : pw_I} {b k : Nat} {S : Nat → Int32} (h : RelB J b S) (hI : InvB S) (h10 : vN S 10 < 4) (hk : k < vN S 4) (hs : S (166 + 13 * k + 4) = 0) (hJ : ∀ a, a ≠ b + 21 + k → J2 a = J a) (hl : relL J2 b (goTake1 S k) k) (hy : J2 (b + 21 + k) 12 = J (b + 21 + k) 12) :
    RelB (pw_set (pw_set J2 (b + 38) (insF (J2 (b + 38)) (vN S 10) (vN S 10) (nI k))) (b + 37) (upd (J2 (b + 37)) 1 (nI (vN S 10 + 1)))) b (goTake1 S k) := by
  obtain ⟨⟨f1, f2, f3, f4, f5, f6, f7⟩, hN, hL, ⟨s1, s2⟩, hY, W, w1, w2, w3⟩ := h
  have h4 := hI.2.1.2
  have mem : ∀ a, a ≠ b + 37 → a ≠ b + 38 → a ≠ b + 21 + k → pw_set (pw_set J2 (b + 38) (insF (J2 (b + 38)) (vN S 10) (vN S 10) (nI k))) (b + 37) (upd (J2 (b + 37)) 1 (nI (vN S 10 + 1))) a = J a := fun a a1 a2 a3 => by
    rw [set_n a1, set_n a2]; exact hJ a a3
  have m37 : pw_set (pw_set J2 (b + 38) (insF (J2 (b + 38)) (vN S 10) (vN S 10) (nI k))) (b + 37) (upd (J2 (b + 37)) 1 (nI (vN S 10 + 1))) (b + 37) 1 = nI (vN S 10 + 1) := by rw [set_s, upd_s]
  have m38 : pw_set (pw_set J2 (b + 38) (insF (J2 (b + 38)) (vN S 10) (vN S 10) (nI k))) (b + 37) (upd (J2 (b + 37)) 1 (nI (vN S 10 + 1))) (b + 38) = upd (J (b + 38)) (vN S 10) (nI k) := by
    rw [set_n (by omega), set_s, insF_n, hJ _ (by omega)]
  have mk : pw_set (pw_set J2 (b + 38) (insF (J2 (b + 38)) (vN S 10) (vN S 10) (nI k))) (b + 37) (upd (J2 (b + 37)) 1 (nI (vN S 10 + 1))) (b + 21 + k) = J2 (b + 21 + k) := by
    rw [set_n (by omega), set_n (by omega)]
  generalize pw_set (pw_set J2 (b + 38) (insF (J2 (b + 38)) (vN S 10) (vN S 10) (nI k))) (b + 37) (upd (J2 (b + 37)) 1 (nI (vN S 10 + 1))) = J3 at mem m37 m38 mk ⊢
  have mb : J3 b = J b := mem b (by omega) (by omega) (by omega)
  have e10 : vN S 10 < 4 := h10
  have t10 := take1_10 (k := k) h10
  have v10 : vN (goTake1 S k) 10 = vN S 10 + 1 := by
    show (goTake1 S k 10).toNatClampNeg = _
    rw [t10.1, cl_nI (by omega)]
  have n0 : ∀ i, i < 6 → goTake1 S k (16 + 25 * i) = S (16 + 25 * i) := fun i hi => take1_lo (by omega) (by omega) (by omega) (by omega) (by omega)
  refine ⟨⟨?_, ?_, ?_, ?_, ?_, ?_, ?_⟩, fun i hi => (hN i hi).to (mem _ (by omega) (by omega) (by omega)) (mem _ (by omega) (by omega) (by omega)) (mem _ (by omega) (by omega) (by omega)) (n0 i hi) (take1_lo (by omega) (by omega) (by omega) (by omega) (by omega)) (take1_lo (by omega) (by omega) (by omega) (by omega) (by omega)) (fun c hc => take1_lo (by omega) (by omega) (by omega) (by omega) (by omega)) (hI.2.2.2.1 i hi).2.2.2 (wayF_to hI (take1_lo (by omega) (by omega) (by omega) (by omega) (by omega)) n0 hi), fun i hi => ?_, ⟨?_, fun i hi => ?_⟩, hY.to (fun i _ => ?_) (fun i _ => by rw [mem _ (by omega) (by omega) (by omega)]) (take1_lo (by omega) (by omega) (by omega) (by omega) (by omega)) (fun i _ => take1_hi (c := 0) h10 (Or.inr (by omega)) (by omega)), W, ?_, ?_, ?_⟩
  · rw [mb, take1_lo (by omega) (by omega) (by omega) (by omega) (by omega)]; exact f1
  · rw [mb, take1_lo (by omega) (by omega) (by omega) (by omega) (by omega)]; exact f2
  · rw [mb, f3]
    unfold setF setF setF setF setF setF setF
    rw [take1_lo (i := 16 + 25 * 0 + 2) (by omega) (by omega) (by omega) (by omega) (by omega), take1_lo (i := 16 + 25 * 1 + 2) (by omega) (by omega) (by omega) (by omega) (by omega), take1_lo (i := 16 + 25 * 2 + 2) (by omega) (by omega) (by omega) (by omega) (by omega), take1_lo (i := 16 + 25 * 3 + 2) (by omega) (by omega) (by omega) (by omega) (by omega), take1_lo (i := 16 + 25 * 4 + 2) (by omega) (by omega) (by omega) (by omega) (by omega), take1_lo (i := 16 + 25 * 5 + 2) (by omega) (by omega) (by omega) (by omega) (by omega)]
  · rw [mb, take1_lo (by omega) (by omega) (by omega) (by omega) (by omega)]; exact f4
  · rw [mb, take1_lo (by omega) (by omega) (by omega) (by omega) (by omega)]; exact f5
  · rw [mb, take1_lo (by omega) (by omega) (by omega) (by omega) (by omega)]; exact f6
  · rw [mb, take1_lo (by omega) (by omega) (by omega) (by omega) (by omega)]; exact f7
  · by_cases e : i = k
    · subst e
      unfold relL at hl ⊢
      rw [mk]; exact hl
    · exact (hL i hi).to (mem _ (by omega) (by omega) (by omega)) (fun c hc => take1_hi h10 (Or.inl e) (by omega))
  · rw [m37, t10.1]
  · rw [v10] at hi
    rw [m38]
    by_cases e : i = vN S 10
    · subst e
      rw [upd_s, t10.2.1]
    · rw [upd_n e, take1_lo (by omega) (by omega) (by omega) (by omega) (by omega)]
      exact s2 i (by omega)
  · by_cases e : i = k
    · rw [e, mk]; exact hy
    · rw [mem _ (by omega) (by omega) (by omega)]
  · rw [mem _ (by omega) (by omega) (by omega)]; exact w1
  · rw [mem _ (by omega) (by omega) (by omega)]; exact w2
  · refine w3.to2 h4 (take1_lo (by omega) (by omega) (by omega) (by omega) (by omega)) (fun i hi => ?_) (fun i hi => take1_hi h10 (Or.inr (by omega)) (by omega)) (fun i hi => take1_hi h10 (Or.inr (by omega)) (by omega))
    by_cases e : i = k
    · subst e
      rw [t10.2.2, hs]
      exact ⟨fun z => absurd z (by decide), fun z => absurd z (by decide)⟩
    · rw [take1_hi h10 (Or.inl e) (by omega)]
section TAK
variable {n base b : Nat} {sh : pw_Sh} {P : pw_P} {Ag : List Value} {I : pw_I} {S : Nat → Int32} {K : Option Value → pw_I → Prop}
def w_takeNext (b : Nat) (S : Nat → Int32) : pw_Wp := fun Ag I K => match Ag with
  | [.ref o] => o = b ∧ InvB S ∧ InvT S ∧ OrdOK S ∧ WalkOK S ∧ TakeOK S ∧ RelB I b S ∧ (vN S 10 = 4 → K (some (.int (-3))) I) ∧ (vN S 10 < 4 → nextS S = none → ∀ J, brdOK b I J → RelB J b S → K (some (.int (-4))) J) ∧
    (∀ k, vN S 10 < 4 → nextS S = some k → ∀ J, brdOK b I J → RelB J b (goTakeS S k) → K (some (.int (nI k))) J)
  | _ => False
theorem pickS_ready {S : Nat → Int32} : ∀ (l : List Nat) (b : Option Nat) (c : Nat), (∀ d, b = some d → readyS S d = true) → l.foldl (pickS S) b = some c → readyS S c = true
  | [], b, c, h, e => h c e
  | k :: l, b, c, h, e => by
    rw [List.foldl_cons] at e
    refine pickS_ready l _ c (fun d hd => ?_) e
    unfold pickS at hd
    cases z : (readyS S k && aboveS S k b) with
    | true =>
      rw [z] at hd; cases hd
      rw [Bool.and_eq_true] at z; exact z.1
    | false => rw [z] at hd; exact h d hd
set_option maxRecDepth 100000 in
set_option maxHeartbeats 4000000 in
theorem x_takeNext (hM : pw_brd sh P b) (h : w_takeNext b S Ag I K) : pw_ok mX0_takeNext 3 base n sh P Ag I K := by
  unfold w_takeNext at h
  split at h
  · rename_i o
    obtain ⟨rfl, hI, hT, hO, hW, hK, hR, hA, hB, hC⟩ := h
    obtain ⟨b0, ⟨b1, b2⟩, bN, ⟨b3, b4⟩, bL, ⟨b5, b6⟩, -⟩ := id hM
    have h10 := hI.2.2.1
    have h4 := hI.2.1
    have l4 : (S 4).toInt = (vN S 4 : Int) := (congrArg Int32.toInt h4.1).trans (ti_nI (by omega))
    have e10 : I (o + 37) 1 = nI (vN S 10) := hR.2.2.2.1.1.trans h10.1
    refine pw_bd [_, _, _] pl_X0 c_r rfl rfl ?_
    by_cases hm : vN S 10 = 4
    · have hA := hA hm
      rw [hm] at e10
      refine pw_go okX0_takeNext (cc []) ⟨Nat.le_refl _, Nat.le_refl _⟩ cc_n (st1 14) 60 ?_
      simp only [↓f_vc_s, ↓vk_i, ↓cc_i, ↓reduceIte, f_vq_s, Bool.false_eq_true, ↓f_e_iconst, ↓f_e_bipush, ↓f_e_sipush, ↓f_e_ldc, ↓f_e_ldc_w, ↓f_e_iload_n, ↓f_e_iload, ↓f_e_aload_n, ↓f_e_aload, ↓f_e_istore_n, ↓f_e_istore, ↓f_e_astore_n, ↓f_e_astore, ↓f_e_iinc, ↓f_e_iadd, ↓f_e_isub, ↓f_e_imul, ↓f_e_iand, ↓f_e_ior, ↓f_e_ixor, ↓f_e_idiv, ↓f_e_irem, ↓f_e_ishl, ↓f_e_ishr, ↓f_e_iushr, ↓f_e_i2c, ↓f_e_dup, ↓f_e_dup2, ↓f_e_pop, ↓f_e_goto, ↓f_e_ifCond, ↓f_e_if_icmp, ↓f_e_tableswitch, ↓f_e_lookupswitch, ↓f_e_getfield_i, ↓f_e_getfield_r, ↓f_e_putfield_i, ↓f_e_putfield_z, ↓f_e_iaload, ↓f_e_caload, ↓f_e_aaload, ↓f_e_iastore, ↓f_e_castore, ↓f_e_arraylength, ↓f_e_invokestatic, ↓f_e_invokevirtual, ↓f_e_ireturn, ↓f_e_return_, ↓f_s_i_c, ↓f_s_r_c, ↓f_s_v_i, ↓f_s_v_r, ↓f_s_l_0, ↓s_l_1, ↓s_l_2, ↓s_l_3, ↓s_l_4, ↓s_l_5, ↓s_l_6, ↓s_a_0, ↓s_a_1, ↓s_a_2, ↓s_a_3, ↓s_m_0, ↓f_s_m_i, ↓f_s_m_r, ↓f_s_m_i7, ↓f_s_m_r7, ↓f_s_m_i6, ↓f_s_m_r6, ↓f_s_m_i5, ↓f_s_m_r5, ↓f_s_m_i4, ↓f_s_m_r4, ↓f_s_w_n, ↓f_s_w_c, ↓f_s_p_eq, ↓f_s_p_ne, ↓f_s_p_lt, ↓f_s_p_ge, ↓f_s_p_gt, ↓f_s_p_le, ↓nk_i, ↓nk_z, ↓nk_c, ↓rf_s, ↓ov_s, ↓ov_n, ↓fin0, ↓fin1, ↓fin2, ↓fin3, cond_true, cond_false, List.set_cons_zero, List.set_cons_succ, List.length_cons, List.length_nil, true_and, and_true, true_or, or_true, implies_true, forall_const, not_true_eq_false, not_false_eq_true, false_implies, Nat.reduceAdd, Nat.reduceLT, Nat.reduceBEq, Nat.reduceEqDiff, Bool.or_false, Bool.false_or, Bool.or_true, Bool.true_or, beq_self_eq_true, Nat.reduceLeDiff, Nat.reduceMul, Nat.reduceSub, eq_self, Nat.reduceBneDiff, st0_s, st1_s, st2_s, st3_s, reduceCtorEq, cc_0, tl_0, cl_0, il_0, tl_1, cl_1, il_1, tl_2, cl_2, il_2, tl_3, cl_3, il_3, tl_4, cl_4, il_4, tl_5, cl_5, il_5, tl_6, cl_6, il_6, tl_7, cl_7, il_7, tl_8, cl_8, il_8, tl_9, cl_9, il_9, tl_10, cl_10, il_10, tl_11, cl_11, il_11, tl_12, cl_12, il_12, tl_13, cl_13, il_13, tl_14, cl_14, il_14, tl_15, cl_15, il_15, tl_16, cl_16, il_16, tl_20, tl_21, tl_25, tl_32, tl_48, tl_50, tl_57, tl_58, tl_59, tl_60, tl_99, tl_100, tl_101, tl_108, tl_109, tl_116, tl_120, tl_126, tl_374, tl_1122, tl_50000, i10, i01, tl_m1, tl_m2, tl_m3, tl_m4, nr_X0_takeNext, tX0_takeNext_0, tX0_takeNext_1, tX0_takeNext_4, tX0_takeNext_7, tX0_takeNext_8, tX0_takeNext_11, tX0_takeNext_13, tX0_takeNext_14, tX0_takeNext_15, tX0_takeNext_18, tX0_takeNext_19, tX0_takeNext_20, tX0_takeNext_21, tX0_takeNext_24, tX0_takeNext_27, tX0_takeNext_29, tX0_takeNext_30, tX0_takeNext_31, tX0_takeNext_34, tX0_takeNext_35, tX0_takeNext_36, tX0_takeNext_37, tX0_takeNext_38, tX0_takeNext_39, tX0_takeNext_42, tX0_takeNext_43, tX0_takeNext_44, tX0_takeNext_47, tX0_takeNext_48, tX0_takeNext_49, tX0_takeNext_52, tX0_takeNext_53, tX0_takeNext_56, tX0_takeNext_59, tX0_takeNext_60, tX0_takeNext_61, tX0_takeNext_64, tX0_takeNext_65, tX0_takeNext_66, tX0_takeNext_69, tX0_takeNext_70, tX0_takeNext_73, tX0_takeNext_74, tX0_takeNext_77, tX0_takeNext_78, tX0_takeNext_81, tX0_takeNext_84, tX0_takeNext_85, tX0_takeNext_88, tX0_takeNext_89, tX0_takeNext_92, tX0_takeNext_95, tX0_takeNext_96, tX0_takeNext_99, tX0_takeNext_100, tX0_takeNext_101, tX0_takeNext_104, tX0_takeNext_105, pw_QK_s, b0, b5, b6.1, e10]
      exact ⟨fun q => absurd q (by decide), fun _ => hA⟩
    · have hm4 : vN S 10 < 4 := by omega
      cases e : nextS S with
      | none =>
        have hB := hB hm4 e
        refine pw_go okX0_takeNext (cc [(18, (w_nextLine0 o S)), (3, (w_hasLine o S))]) ⟨Nat.le_refl _, Nat.le_refl _⟩ (cc_c (fun Ag I K h => ⟨2, Nat.le_of_ble_eq_true rfl, x_nextLine0 hM h⟩) (cc_c (fun Ag I K h => ⟨0, Nat.le_of_ble_eq_true rfl, x_hasLine hM h⟩) cc_n)) (st1 30) 60 ?_
        simp only [↓f_vc_s, ↓vk_i, ↓cc_i, ↓reduceIte, f_vq_s, Bool.false_eq_true, ↓f_e_iconst, ↓f_e_bipush, ↓f_e_sipush, ↓f_e_ldc, ↓f_e_ldc_w, ↓f_e_iload_n, ↓f_e_iload, ↓f_e_aload_n, ↓f_e_aload, ↓f_e_istore_n, ↓f_e_istore, ↓f_e_astore_n, ↓f_e_astore, ↓f_e_iinc, ↓f_e_iadd, ↓f_e_isub, ↓f_e_imul, ↓f_e_iand, ↓f_e_ior, ↓f_e_ixor, ↓f_e_idiv, ↓f_e_irem, ↓f_e_ishl, ↓f_e_ishr, ↓f_e_iushr, ↓f_e_i2c, ↓f_e_dup, ↓f_e_dup2, ↓f_e_pop, ↓f_e_goto, ↓f_e_ifCond, ↓f_e_if_icmp, ↓f_e_tableswitch, ↓f_e_lookupswitch, ↓f_e_getfield_i, ↓f_e_getfield_r, ↓f_e_putfield_i, ↓f_e_putfield_z, ↓f_e_iaload, ↓f_e_caload, ↓f_e_aaload, ↓f_e_iastore, ↓f_e_castore, ↓f_e_arraylength, ↓f_e_invokestatic, ↓f_e_invokevirtual, ↓f_e_ireturn, ↓f_e_return_, ↓f_s_i_c, ↓f_s_r_c, ↓f_s_v_i, ↓f_s_v_r, ↓f_s_l_0, ↓s_l_1, ↓s_l_2, ↓s_l_3, ↓s_l_4, ↓s_l_5, ↓s_l_6, ↓s_a_0, ↓s_a_1, ↓s_a_2, ↓s_a_3, ↓s_m_0, ↓f_s_m_i, ↓f_s_m_r, ↓f_s_m_i7, ↓f_s_m_r7, ↓f_s_m_i6, ↓f_s_m_r6, ↓f_s_m_i5, ↓f_s_m_r5, ↓f_s_m_i4, ↓f_s_m_r4, ↓f_s_w_n, ↓f_s_w_c, ↓f_s_p_eq, ↓f_s_p_ne, ↓f_s_p_lt, ↓f_s_p_ge, ↓f_s_p_gt, ↓f_s_p_le, ↓nk_i, ↓nk_z, ↓nk_c, ↓rf_s, ↓ov_s, ↓ov_n, ↓fin0, ↓fin1, ↓fin2, ↓fin3, cond_true, cond_false, List.set_cons_zero, List.set_cons_succ, List.length_cons, List.length_nil, true_and, and_true, true_or, or_true, implies_true, forall_const, not_true_eq_false, not_false_eq_true, false_implies, Nat.reduceAdd, Nat.reduceLT, Nat.reduceBEq, Nat.reduceEqDiff, Bool.or_false, Bool.false_or, Bool.or_true, Bool.true_or, beq_self_eq_true, Nat.reduceLeDiff, Nat.reduceMul, Nat.reduceSub, eq_self, Nat.reduceBneDiff, st0_s, st1_s, st2_s, st3_s, reduceCtorEq, cc_0, tl_0, cl_0, il_0, tl_1, cl_1, il_1, tl_2, cl_2, il_2, tl_3, cl_3, il_3, tl_4, cl_4, il_4, tl_5, cl_5, il_5, tl_6, cl_6, il_6, tl_7, cl_7, il_7, tl_8, cl_8, il_8, tl_9, cl_9, il_9, tl_10, cl_10, il_10, tl_11, cl_11, il_11, tl_12, cl_12, il_12, tl_13, cl_13, il_13, tl_14, cl_14, il_14, tl_15, cl_15, il_15, tl_16, cl_16, il_16, tl_20, tl_21, tl_25, tl_32, tl_48, tl_50, tl_57, tl_58, tl_59, tl_60, tl_99, tl_100, tl_101, tl_108, tl_109, tl_116, tl_120, tl_126, tl_374, tl_1122, tl_50000, i10, i01, tl_m1, tl_m2, tl_m3, tl_m4, nr_X0_takeNext, tX0_takeNext_0, tX0_takeNext_1, tX0_takeNext_4, tX0_takeNext_7, tX0_takeNext_8, tX0_takeNext_11, tX0_takeNext_13, tX0_takeNext_14, tX0_takeNext_15, tX0_takeNext_18, tX0_takeNext_19, tX0_takeNext_20, tX0_takeNext_21, tX0_takeNext_24, tX0_takeNext_27, tX0_takeNext_29, tX0_takeNext_30, tX0_takeNext_31, tX0_takeNext_34, tX0_takeNext_35, tX0_takeNext_36, tX0_takeNext_37, tX0_takeNext_38, tX0_takeNext_39, tX0_takeNext_42, tX0_takeNext_43, tX0_takeNext_44, tX0_takeNext_47, tX0_takeNext_48, tX0_takeNext_49, tX0_takeNext_52, tX0_takeNext_53, tX0_takeNext_56, tX0_takeNext_59, tX0_takeNext_60, tX0_takeNext_61, tX0_takeNext_64, tX0_takeNext_65, tX0_takeNext_66, tX0_takeNext_69, tX0_takeNext_70, tX0_takeNext_73, tX0_takeNext_74, tX0_takeNext_77, tX0_takeNext_78, tX0_takeNext_81, tX0_takeNext_84, tX0_takeNext_85, tX0_takeNext_88, tX0_takeNext_89, tX0_takeNext_92, tX0_takeNext_95, tX0_takeNext_96, tX0_takeNext_99, tX0_takeNext_100, tX0_takeNext_101, tX0_takeNext_104, tX0_takeNext_105, pw_QK_s, b0, b5, b6.1, e10, ↓w_nextLine0, ↓w_hasLine, e, optI]
        exact ⟨fun _ => ⟨hI, hT, hW, hR, fun J hJ => ⟨(hR.wk hJ).1.2.1, fun q => absurd q.1 (by decide), fun _ => hB J hJ.brd (hR.wk hJ)⟩⟩, fun q => absurd (Int32.not_le.mp (nI_ge (a := vN S 10) (b := 4) hm4 (by omega))) q⟩
      | some k =>
        have hk4 := nextS_lt hO e
        have hrd := ready_iff.mp (pickS_ready _ _ _ (fun d hd => by cases hd) e)
        have hC := hC k hm4 e
        obtain ⟨c1, c2⟩ := hK k e hm4
        have hk : k < 16 := by omega
        obtain ⟨l1, l2⟩ := bL k hk
        have ck : (nI k).toNatClampNeg = k := cl_nI (by omega)
        have tk : (nI k).toInt = (k : Int) := ti_nI (by omega)
        have t10 := take1_10 (k := k) hm4
        have tail : ∀ (J J2 : pw_I), wkOK o I J → (∀ a : Nat, a ≠ (o : Nat) + 21 + k → J2 a = J a) → relL J2 o (goTake1 S k) k → J2 (o + 21 + k) 12 = J (o + 21 + k) 12 → PW (mX0_takeNext, 3, 0, 0, none, base) n sh P J2 0 0 84 [some (.ref o), some (.int (nI k)), some (.ref (o + 21 + k))] [] (pw_QK n sh P K) := by
          intro J J2 hJ hJ2 hl hy
          have hR3 := take_rel (hR.wk hJ) hI hm4 hk4 hrd.2.1 hJ2 hl hy
          have j37 : J2 (o + 37) 1 = nI (vN S 10) := by
            rw [hJ2 _ (by omega), hJ _ (by omega)]; exact e10
          refine pw_go okX0_takeNext (cc [(61, (w_insert (o + 37) (o + 38))), (17, (w_turnInputs o (goTake1 S k)))]) ⟨Nat.le_refl _, Nat.le_refl _⟩ (cc_c (fun Ag I K h => ⟨0, Nat.le_of_ble_eq_true rfl, x_insert b6 h⟩) (cc_c (fun Ag I K h => ⟨2, Nat.le_of_ble_eq_true rfl, x_turnInputs hM h⟩) cc_n)) (st0) 60 ?_
          simp only [↓f_vc_s, ↓vk_i, ↓cc_i, ↓reduceIte, f_vq_s, Bool.false_eq_true, ↓f_e_iconst, ↓f_e_bipush, ↓f_e_sipush, ↓f_e_ldc, ↓f_e_ldc_w, ↓f_e_iload_n, ↓f_e_iload, ↓f_e_aload_n, ↓f_e_aload, ↓f_e_istore_n, ↓f_e_istore, ↓f_e_astore_n, ↓f_e_astore, ↓f_e_iinc, ↓f_e_iadd, ↓f_e_isub, ↓f_e_imul, ↓f_e_iand, ↓f_e_ior, ↓f_e_ixor, ↓f_e_idiv, ↓f_e_irem, ↓f_e_ishl, ↓f_e_ishr, ↓f_e_iushr, ↓f_e_i2c, ↓f_e_dup, ↓f_e_dup2, ↓f_e_pop, ↓f_e_goto, ↓f_e_ifCond, ↓f_e_if_icmp, ↓f_e_tableswitch, ↓f_e_lookupswitch, ↓f_e_getfield_i, ↓f_e_getfield_r, ↓f_e_putfield_i, ↓f_e_putfield_z, ↓f_e_iaload, ↓f_e_caload, ↓f_e_aaload, ↓f_e_iastore, ↓f_e_castore, ↓f_e_arraylength, ↓f_e_invokestatic, ↓f_e_invokevirtual, ↓f_e_ireturn, ↓f_e_return_, ↓f_s_i_c, ↓f_s_r_c, ↓f_s_v_i, ↓f_s_v_r, ↓f_s_l_0, ↓s_l_1, ↓s_l_2, ↓s_l_3, ↓s_l_4, ↓s_l_5, ↓s_l_6, ↓s_a_0, ↓s_a_1, ↓s_a_2, ↓s_a_3, ↓s_m_0, ↓f_s_m_i, ↓f_s_m_r, ↓f_s_m_i7, ↓f_s_m_r7, ↓f_s_m_i6, ↓f_s_m_r6, ↓f_s_m_i5, ↓f_s_m_r5, ↓f_s_m_i4, ↓f_s_m_r4, ↓f_s_w_n, ↓f_s_w_c, ↓f_s_p_eq, ↓f_s_p_ne, ↓f_s_p_lt, ↓f_s_p_ge, ↓f_s_p_gt, ↓f_s_p_le, ↓nk_i, ↓nk_z, ↓nk_c, ↓rf_s, ↓ov_s, ↓ov_n, ↓fin0, ↓fin1, ↓fin2, ↓fin3, cond_true, cond_false, List.set_cons_zero, List.set_cons_succ, List.length_cons, List.length_nil, true_and, and_true, true_or, or_true, implies_true, forall_const, not_true_eq_false, not_false_eq_true, false_implies, Nat.reduceAdd, Nat.reduceLT, Nat.reduceBEq, Nat.reduceEqDiff, Bool.or_false, Bool.false_or, Bool.or_true, Bool.true_or, beq_self_eq_true, Nat.reduceLeDiff, Nat.reduceMul, Nat.reduceSub, eq_self, Nat.reduceBneDiff, st0_s, st1_s, st2_s, st3_s, reduceCtorEq, cc_0, tl_0, cl_0, il_0, tl_1, cl_1, il_1, tl_2, cl_2, il_2, tl_3, cl_3, il_3, tl_4, cl_4, il_4, tl_5, cl_5, il_5, tl_6, cl_6, il_6, tl_7, cl_7, il_7, tl_8, cl_8, il_8, tl_9, cl_9, il_9, tl_10, cl_10, il_10, tl_11, cl_11, il_11, tl_12, cl_12, il_12, tl_13, cl_13, il_13, tl_14, cl_14, il_14, tl_15, cl_15, il_15, tl_16, cl_16, il_16, tl_20, tl_21, tl_25, tl_32, tl_48, tl_50, tl_57, tl_58, tl_59, tl_60, tl_99, tl_100, tl_101, tl_108, tl_109, tl_116, tl_120, tl_126, tl_374, tl_1122, tl_50000, i10, i01, tl_m1, tl_m2, tl_m3, tl_m4, nr_X0_takeNext, tX0_takeNext_0, tX0_takeNext_1, tX0_takeNext_4, tX0_takeNext_7, tX0_takeNext_8, tX0_takeNext_11, tX0_takeNext_13, tX0_takeNext_14, tX0_takeNext_15, tX0_takeNext_18, tX0_takeNext_19, tX0_takeNext_20, tX0_takeNext_21, tX0_takeNext_24, tX0_takeNext_27, tX0_takeNext_29, tX0_takeNext_30, tX0_takeNext_31, tX0_takeNext_34, tX0_takeNext_35, tX0_takeNext_36, tX0_takeNext_37, tX0_takeNext_38, tX0_takeNext_39, tX0_takeNext_42, tX0_takeNext_43, tX0_takeNext_44, tX0_takeNext_47, tX0_takeNext_48, tX0_takeNext_49, tX0_takeNext_52, tX0_takeNext_53, tX0_takeNext_56, tX0_takeNext_59, tX0_takeNext_60, tX0_takeNext_61, tX0_takeNext_64, tX0_takeNext_65, tX0_takeNext_66, tX0_takeNext_69, tX0_takeNext_70, tX0_takeNext_73, tX0_takeNext_74, tX0_takeNext_77, tX0_takeNext_78, tX0_takeNext_81, tX0_takeNext_84, tX0_takeNext_85, tX0_takeNext_88, tX0_takeNext_89, tX0_takeNext_92, tX0_takeNext_95, tX0_takeNext_96, tX0_takeNext_99, tX0_takeNext_100, tX0_takeNext_101, tX0_takeNext_104, tX0_takeNext_105, pw_QK_s, b0, b5, b6.1, j37, ↓w_insert, ↓w_turnInputs]
          refine ⟨vN S 10, vN S 10, rfl, by omega, rfl, Nat.le_refl _, c1, hR3, k, rfl, hk, c2, fun J4 h1 h2 => hC J4 (fun a ha => ?_) h2⟩
          rw [h1 a ha, set_n (by omega), set_n (by omega), hJ2 a (by omega)]
          exact hJ a (by omega)
        have mid : ∀ (J : pw_I), wkOK o I J → PW (mX0_takeNext, 3, 0, 0, none, base) n sh P J 0 0 30 [some (.ref o), some (.int (nI k)), none] [] (pw_QK n sh P K) := by
          intro J hJ
          have hRJ := hR.wk hJ
          have r := hRJ.2.2.1 k hk
          have f4 := hRJ.1.2.2.2.1
          have r0 : goTake1 S k (166 + 13 * k) = S (166 + 13 * k) := take1_hi (c := 0) hm4 (Or.inr (by omega)) (by omega)
          have g : ∀ c, c < 13 → c ≠ 3 → c ≠ 4 → c ≠ 8 → c ≠ 9 → goTake1 S k (166 + 13 * k + c) = S (166 + 13 * k + c) := fun c h1 h2 h3 h5 h6 => take1_hi hm4 (Or.inr (by omega)) (by omega)
          refine pw_go okX0_takeNext (cc []) ⟨Nat.le_refl _, Nat.le_refl _⟩ cc_n (st2 78 84) 60 ?_
          simp only [↓f_vc_s, ↓vk_i, ↓cc_i, ↓reduceIte, f_vq_s, Bool.false_eq_true, ↓f_e_iconst, ↓f_e_bipush, ↓f_e_sipush, ↓f_e_ldc, ↓f_e_ldc_w, ↓f_e_iload_n, ↓f_e_iload, ↓f_e_aload_n, ↓f_e_aload, ↓f_e_istore_n, ↓f_e_istore, ↓f_e_astore_n, ↓f_e_astore, ↓f_e_iinc, ↓f_e_iadd, ↓f_e_isub, ↓f_e_imul, ↓f_e_iand, ↓f_e_ior, ↓f_e_ixor, ↓f_e_idiv, ↓f_e_irem, ↓f_e_ishl, ↓f_e_ishr, ↓f_e_iushr, ↓f_e_i2c, ↓f_e_dup, ↓f_e_dup2, ↓f_e_pop, ↓f_e_goto, ↓f_e_ifCond, ↓f_e_if_icmp, ↓f_e_tableswitch, ↓f_e_lookupswitch, ↓f_e_getfield_i, ↓f_e_getfield_r, ↓f_e_putfield_i, ↓f_e_putfield_z, ↓f_e_iaload, ↓f_e_caload, ↓f_e_aaload, ↓f_e_iastore, ↓f_e_castore, ↓f_e_arraylength, ↓f_e_invokestatic, ↓f_e_invokevirtual, ↓f_e_ireturn, ↓f_e_return_, ↓f_s_i_c, ↓f_s_r_c, ↓f_s_v_i, ↓f_s_v_r, ↓f_s_l_0, ↓s_l_1, ↓s_l_2, ↓s_l_3, ↓s_l_4, ↓s_l_5, ↓s_l_6, ↓s_a_0, ↓s_a_1, ↓s_a_2, ↓s_a_3, ↓s_m_0, ↓f_s_m_i, ↓f_s_m_r, ↓f_s_m_i7, ↓f_s_m_r7, ↓f_s_m_i6, ↓f_s_m_r6, ↓f_s_m_i5, ↓f_s_m_r5, ↓f_s_m_i4, ↓f_s_m_r4, ↓f_s_w_n, ↓f_s_w_c, ↓f_s_p_eq, ↓f_s_p_ne, ↓f_s_p_lt, ↓f_s_p_ge, ↓f_s_p_gt, ↓f_s_p_le, ↓nk_i, ↓nk_z, ↓nk_c, ↓rf_s, ↓ov_s, ↓ov_n, ↓fin0, ↓fin1, ↓fin2, ↓fin3, cond_true, cond_false, List.set_cons_zero, List.set_cons_succ, List.length_cons, List.length_nil, true_and, and_true, true_or, or_true, implies_true, forall_const, not_true_eq_false, not_false_eq_true, false_implies, Nat.reduceAdd, Nat.reduceLT, Nat.reduceBEq, Nat.reduceEqDiff, Bool.or_false, Bool.false_or, Bool.or_true, Bool.true_or, beq_self_eq_true, Nat.reduceLeDiff, Nat.reduceMul, Nat.reduceSub, eq_self, Nat.reduceBneDiff, st0_s, st1_s, st2_s, st3_s, reduceCtorEq, cc_0, tl_0, cl_0, il_0, tl_1, cl_1, il_1, tl_2, cl_2, il_2, tl_3, cl_3, il_3, tl_4, cl_4, il_4, tl_5, cl_5, il_5, tl_6, cl_6, il_6, tl_7, cl_7, il_7, tl_8, cl_8, il_8, tl_9, cl_9, il_9, tl_10, cl_10, il_10, tl_11, cl_11, il_11, tl_12, cl_12, il_12, tl_13, cl_13, il_13, tl_14, cl_14, il_14, tl_15, cl_15, il_15, tl_16, cl_16, il_16, tl_20, tl_21, tl_25, tl_32, tl_48, tl_50, tl_57, tl_58, tl_59, tl_60, tl_99, tl_100, tl_101, tl_108, tl_109, tl_116, tl_120, tl_126, tl_374, tl_1122, tl_50000, i10, i01, tl_m1, tl_m2, tl_m3, tl_m4, nr_X0_takeNext, tX0_takeNext_0, tX0_takeNext_1, tX0_takeNext_4, tX0_takeNext_7, tX0_takeNext_8, tX0_takeNext_11, tX0_takeNext_13, tX0_takeNext_14, tX0_takeNext_15, tX0_takeNext_18, tX0_takeNext_19, tX0_takeNext_20, tX0_takeNext_21, tX0_takeNext_24, tX0_takeNext_27, tX0_takeNext_29, tX0_takeNext_30, tX0_takeNext_31, tX0_takeNext_34, tX0_takeNext_35, tX0_takeNext_36, tX0_takeNext_37, tX0_takeNext_38, tX0_takeNext_39, tX0_takeNext_42, tX0_takeNext_43, tX0_takeNext_44, tX0_takeNext_47, tX0_takeNext_48, tX0_takeNext_49, tX0_takeNext_52, tX0_takeNext_53, tX0_takeNext_56, tX0_takeNext_59, tX0_takeNext_60, tX0_takeNext_61, tX0_takeNext_64, tX0_takeNext_65, tX0_takeNext_66, tX0_takeNext_69, tX0_takeNext_70, tX0_takeNext_73, tX0_takeNext_74, tX0_takeNext_77, tX0_takeNext_78, tX0_takeNext_81, tX0_takeNext_84, tX0_takeNext_85, tX0_takeNext_88, tX0_takeNext_89, tX0_takeNext_92, tX0_takeNext_95, tX0_takeNext_96, tX0_takeNext_99, tX0_takeNext_100, tX0_takeNext_101, tX0_takeNext_104, tX0_takeNext_105, pw_QK_s, b0, b3, b4, ck, l1, l2]
          refine ⟨in_nI hk (by omega), fun q => ?_, fun q => ?_⟩
          · rw [up_n (by omega), up_n (by omega), r.2.2.1] at q
            refine tail J _ hJ (fun a ha => by rw [up_set, set_n ha, up_set, set_n ha]) ?_ (by rw [up_n (by omega), up_n (by omega)])
            have e8 : goTake1 S k (166 + 13 * k + 8) = S (166 + 13 * k + 8) + 1 := by
              unfold goTake1
              rw [if_neg q, upd_n (by omega), upd_s]
            have e3 : goTake1 S k (166 + 13 * k + 3) = S (166 + 13 * k + 3) := by
              unfold goTake1
              rw [if_neg q, upd_n (by omega), upd_n (by omega), upd_n (by omega), upd_n (by omega), upd_n (by omega)]
            have e9 : goTake1 S k (166 + 13 * k + 9) = S (166 + 13 * k + 9) := by
              unfold goTake1
              rw [if_neg q, upd_n (by omega), upd_n (by omega), upd_n (by omega), upd_n (by omega), upd_n (by omega)]
            unfold relL
            rw [r0, g 1 (by omega) (by omega) (by omega) (by omega) (by omega), g 2 (by omega) (by omega) (by omega) (by omega) (by omega), e3, t10.2.2, g 5 (by omega) (by omega) (by omega) (by omega) (by omega), g 6 (by omega) (by omega) (by omega) (by omega) (by omega), g 7 (by omega) (by omega) (by omega) (by omega) (by omega), e8, e9, g 10 (by omega) (by omega) (by omega) (by omega) (by omega), g 11 (by omega) (by omega) (by omega) (by omega) (by omega)]
            refine ⟨?_, ?_, ?_, ?_, ?_, ?_, ?_, ?_, ?_, ?_, ?_, ?_⟩ <;> simp (disch := omega) only [up_n, up_r, r.1, r.2.1, r.2.2.1, r.2.2.2.1, r.2.2.2.2.1, r.2.2.2.2.2.1, r.2.2.2.2.2.2.1, r.2.2.2.2.2.2.2.1, r.2.2.2.2.2.2.2.2.1, r.2.2.2.2.2.2.2.2.2.1, r.2.2.2.2.2.2.2.2.2.2.1, r.2.2.2.2.2.2.2.2.2.2.2]
          · rw [up_n (by omega), up_n (by omega), r.2.2.1] at q
            refine PW.mmax (idx := 154) mx_lowest (by show 1 ≤ 3; omega) ⟨Nat.le_refl _, Nat.le_refl _⟩ trivial dc_take ?_
            refine pw_go okX0_takeNext (cc []) ⟨Nat.le_refl _, Nat.le_refl _⟩ cc_n (st1 84) 60 ?_
            simp only [↓f_vc_s, ↓vk_i, ↓cc_i, ↓reduceIte, f_vq_s, Bool.false_eq_true, ↓f_e_iconst, ↓f_e_bipush, ↓f_e_sipush, ↓f_e_ldc, ↓f_e_ldc_w, ↓f_e_iload_n, ↓f_e_iload, ↓f_e_aload_n, ↓f_e_aload, ↓f_e_istore_n, ↓f_e_istore, ↓f_e_astore_n, ↓f_e_astore, ↓f_e_iinc, ↓f_e_iadd, ↓f_e_isub, ↓f_e_imul, ↓f_e_iand, ↓f_e_ior, ↓f_e_ixor, ↓f_e_idiv, ↓f_e_irem, ↓f_e_ishl, ↓f_e_ishr, ↓f_e_iushr, ↓f_e_i2c, ↓f_e_dup, ↓f_e_dup2, ↓f_e_pop, ↓f_e_goto, ↓f_e_ifCond, ↓f_e_if_icmp, ↓f_e_tableswitch, ↓f_e_lookupswitch, ↓f_e_getfield_i, ↓f_e_getfield_r, ↓f_e_putfield_i, ↓f_e_putfield_z, ↓f_e_iaload, ↓f_e_caload, ↓f_e_aaload, ↓f_e_iastore, ↓f_e_castore, ↓f_e_arraylength, ↓f_e_invokestatic, ↓f_e_invokevirtual, ↓f_e_ireturn, ↓f_e_return_, ↓f_s_i_c, ↓f_s_r_c, ↓f_s_v_i, ↓f_s_v_r, ↓f_s_l_0, ↓s_l_1, ↓s_l_2, ↓s_l_3, ↓s_l_4, ↓s_l_5, ↓s_l_6, ↓s_a_0, ↓s_a_1, ↓s_a_2, ↓s_a_3, ↓s_m_0, ↓f_s_m_i, ↓f_s_m_r, ↓f_s_m_i7, ↓f_s_m_r7, ↓f_s_m_i6, ↓f_s_m_r6, ↓f_s_m_i5, ↓f_s_m_r5, ↓f_s_m_i4, ↓f_s_m_r4, ↓f_s_w_n, ↓f_s_w_c, ↓f_s_p_eq, ↓f_s_p_ne, ↓f_s_p_lt, ↓f_s_p_ge, ↓f_s_p_gt, ↓f_s_p_le, ↓nk_i, ↓nk_z, ↓nk_c, ↓rf_s, ↓ov_s, ↓ov_n, ↓fin0, ↓fin1, ↓fin2, ↓fin3, cond_true, cond_false, List.set_cons_zero, List.set_cons_succ, List.length_cons, List.length_nil, true_and, and_true, true_or, or_true, implies_true, forall_const, not_true_eq_false, not_false_eq_true, false_implies, Nat.reduceAdd, Nat.reduceLT, Nat.reduceBEq, Nat.reduceEqDiff, Bool.or_false, Bool.false_or, Bool.or_true, Bool.true_or, beq_self_eq_true, Nat.reduceLeDiff, Nat.reduceMul, Nat.reduceSub, eq_self, Nat.reduceBneDiff, st0_s, st1_s, st2_s, st3_s, reduceCtorEq, cc_0, tl_0, cl_0, il_0, tl_1, cl_1, il_1, tl_2, cl_2, il_2, tl_3, cl_3, il_3, tl_4, cl_4, il_4, tl_5, cl_5, il_5, tl_6, cl_6, il_6, tl_7, cl_7, il_7, tl_8, cl_8, il_8, tl_9, cl_9, il_9, tl_10, cl_10, il_10, tl_11, cl_11, il_11, tl_12, cl_12, il_12, tl_13, cl_13, il_13, tl_14, cl_14, il_14, tl_15, cl_15, il_15, tl_16, cl_16, il_16, tl_20, tl_21, tl_25, tl_32, tl_48, tl_50, tl_57, tl_58, tl_59, tl_60, tl_99, tl_100, tl_101, tl_108, tl_109, tl_116, tl_120, tl_126, tl_374, tl_1122, tl_50000, i10, i01, tl_m1, tl_m2, tl_m3, tl_m4, nr_X0_takeNext, tX0_takeNext_0, tX0_takeNext_1, tX0_takeNext_4, tX0_takeNext_7, tX0_takeNext_8, tX0_takeNext_11, tX0_takeNext_13, tX0_takeNext_14, tX0_takeNext_15, tX0_takeNext_18, tX0_takeNext_19, tX0_takeNext_20, tX0_takeNext_21, tX0_takeNext_24, tX0_takeNext_27, tX0_takeNext_29, tX0_takeNext_30, tX0_takeNext_31, tX0_takeNext_34, tX0_takeNext_35, tX0_takeNext_36, tX0_takeNext_37, tX0_takeNext_38, tX0_takeNext_39, tX0_takeNext_42, tX0_takeNext_43, tX0_takeNext_44, tX0_takeNext_47, tX0_takeNext_48, tX0_takeNext_49, tX0_takeNext_52, tX0_takeNext_53, tX0_takeNext_56, tX0_takeNext_59, tX0_takeNext_60, tX0_takeNext_61, tX0_takeNext_64, tX0_takeNext_65, tX0_takeNext_66, tX0_takeNext_69, tX0_takeNext_70, tX0_takeNext_73, tX0_takeNext_74, tX0_takeNext_77, tX0_takeNext_78, tX0_takeNext_81, tX0_takeNext_84, tX0_takeNext_85, tX0_takeNext_88, tX0_takeNext_89, tX0_takeNext_92, tX0_takeNext_95, tX0_takeNext_96, tX0_takeNext_99, tX0_takeNext_100, tX0_takeNext_101, tX0_takeNext_104, tX0_takeNext_105, pw_QK_s, b0, b3, b4, ck, l1, l2]
            refine tail J _ hJ (fun a ha => by rw [up_set, set_n ha, up_set, set_n ha, up_set, set_n ha, up_set, set_n ha]) ?_ (by rw [up_n (by omega), up_n (by omega), up_n (by omega), up_n (by omega)])
            have e8 : goTake1 S k (166 + 13 * k + 8) = S (166 + 13 * k + 8) + 1 := by
              unfold goTake1
              rw [if_pos q, upd_n (by omega), upd_n (by omega), upd_n (by omega), upd_s]
            have e3 : goTake1 S k (166 + 13 * k + 3) = 0 := by
              unfold goTake1
              rw [if_pos q, upd_n (by omega), upd_n (by omega), upd_s]
            have e9 : goTake1 S k (166 + 13 * k + 9) = if S (166 + 13 * k + 9) < S 0 - S (166 + 13 * k + 10) then S 0 - S (166 + 13 * k + 10) else S (166 + 13 * k + 9) := by
              unfold goTake1
              rw [if_pos q, upd_n (by omega), upd_s]
            have t5 : ∀ x, pw_up (pw_up (pw_up J (o + 21 + k) 5 1) (o + 21 + k) 8 x) (o + 21 + k) 3 0 o 5 = S 0 := fun x => by
              rw [up_set, set_n (by omega), up_set, set_n (by omega), up_set, set_n (by omega)]; exact f4
            unfold relL
            rw [r0, g 1 (by omega) (by omega) (by omega) (by omega) (by omega), g 2 (by omega) (by omega) (by omega) (by omega) (by omega), e3, t10.2.2, g 5 (by omega) (by omega) (by omega) (by omega) (by omega), g 6 (by omega) (by omega) (by omega) (by omega) (by omega), g 7 (by omega) (by omega) (by omega) (by omega) (by omega), e8, e9, g 10 (by omega) (by omega) (by omega) (by omega) (by omega), g 11 (by omega) (by omega) (by omega) (by omega) (by omega), t5]
            refine ⟨?_, ?_, ?_, ?_, ?_, ?_, ?_, ?_, ?_, ?_, ?_, ?_⟩ <;> simp (disch := omega) only [up_n, up_r, r.1, r.2.1, r.2.2.1, r.2.2.2.1, r.2.2.2.2.1, r.2.2.2.2.2.1, r.2.2.2.2.2.2.1, r.2.2.2.2.2.2.2.1, r.2.2.2.2.2.2.2.2.1, r.2.2.2.2.2.2.2.2.2.1, r.2.2.2.2.2.2.2.2.2.2.1, r.2.2.2.2.2.2.2.2.2.2.2]
        refine pw_go okX0_takeNext (cc [(18, (w_nextLine0 o S)), (3, (w_hasLine o S))]) ⟨Nat.le_refl _, Nat.le_refl _⟩ (cc_c (fun Ag I K h => ⟨2, Nat.le_of_ble_eq_true rfl, x_nextLine0 hM h⟩) (cc_c (fun Ag I K h => ⟨0, Nat.le_of_ble_eq_true rfl, x_hasLine hM h⟩) cc_n)) (st1 30) 60 ?_
        simp only [↓f_vc_s, ↓vk_i, ↓cc_i, ↓reduceIte, f_vq_s, Bool.false_eq_true, ↓f_e_iconst, ↓f_e_bipush, ↓f_e_sipush, ↓f_e_ldc, ↓f_e_ldc_w, ↓f_e_iload_n, ↓f_e_iload, ↓f_e_aload_n, ↓f_e_aload, ↓f_e_istore_n, ↓f_e_istore, ↓f_e_astore_n, ↓f_e_astore, ↓f_e_iinc, ↓f_e_iadd, ↓f_e_isub, ↓f_e_imul, ↓f_e_iand, ↓f_e_ior, ↓f_e_ixor, ↓f_e_idiv, ↓f_e_irem, ↓f_e_ishl, ↓f_e_ishr, ↓f_e_iushr, ↓f_e_i2c, ↓f_e_dup, ↓f_e_dup2, ↓f_e_pop, ↓f_e_goto, ↓f_e_ifCond, ↓f_e_if_icmp, ↓f_e_tableswitch, ↓f_e_lookupswitch, ↓f_e_getfield_i, ↓f_e_getfield_r, ↓f_e_putfield_i, ↓f_e_putfield_z, ↓f_e_iaload, ↓f_e_caload, ↓f_e_aaload, ↓f_e_iastore, ↓f_e_castore, ↓f_e_arraylength, ↓f_e_invokestatic, ↓f_e_invokevirtual, ↓f_e_ireturn, ↓f_e_return_, ↓f_s_i_c, ↓f_s_r_c, ↓f_s_v_i, ↓f_s_v_r, ↓f_s_l_0, ↓s_l_1, ↓s_l_2, ↓s_l_3, ↓s_l_4, ↓s_l_5, ↓s_l_6, ↓s_a_0, ↓s_a_1, ↓s_a_2, ↓s_a_3, ↓s_m_0, ↓f_s_m_i, ↓f_s_m_r, ↓f_s_m_i7, ↓f_s_m_r7, ↓f_s_m_i6, ↓f_s_m_r6, ↓f_s_m_i5, ↓f_s_m_r5, ↓f_s_m_i4, ↓f_s_m_r4, ↓f_s_w_n, ↓f_s_w_c, ↓f_s_p_eq, ↓f_s_p_ne, ↓f_s_p_lt, ↓f_s_p_ge, ↓f_s_p_gt, ↓f_s_p_le, ↓nk_i, ↓nk_z, ↓nk_c, ↓rf_s, ↓ov_s, ↓ov_n, ↓fin0, ↓fin1, ↓fin2, ↓fin3, cond_true, cond_false, List.set_cons_zero, List.set_cons_succ, List.length_cons, List.length_nil, true_and, and_true, true_or, or_true, implies_true, forall_const, not_true_eq_false, not_false_eq_true, false_implies, Nat.reduceAdd, Nat.reduceLT, Nat.reduceBEq, Nat.reduceEqDiff, Bool.or_false, Bool.false_or, Bool.or_true, Bool.true_or, beq_self_eq_true, Nat.reduceLeDiff, Nat.reduceMul, Nat.reduceSub, eq_self, Nat.reduceBneDiff, st0_s, st1_s, st2_s, st3_s, reduceCtorEq, cc_0, tl_0, cl_0, il_0, tl_1, cl_1, il_1, tl_2, cl_2, il_2, tl_3, cl_3, il_3, tl_4, cl_4, il_4, tl_5, cl_5, il_5, tl_6, cl_6, il_6, tl_7, cl_7, il_7, tl_8, cl_8, il_8, tl_9, cl_9, il_9, tl_10, cl_10, il_10, tl_11, cl_11, il_11, tl_12, cl_12, il_12, tl_13, cl_13, il_13, tl_14, cl_14, il_14, tl_15, cl_15, il_15, tl_16, cl_16, il_16, tl_20, tl_21, tl_25, tl_32, tl_48, tl_50, tl_57, tl_58, tl_59, tl_60, tl_99, tl_100, tl_101, tl_108, tl_109, tl_116, tl_120, tl_126, tl_374, tl_1122, tl_50000, i10, i01, tl_m1, tl_m2, tl_m3, tl_m4, nr_X0_takeNext, tX0_takeNext_0, tX0_takeNext_1, tX0_takeNext_4, tX0_takeNext_7, tX0_takeNext_8, tX0_takeNext_11, tX0_takeNext_13, tX0_takeNext_14, tX0_takeNext_15, tX0_takeNext_18, tX0_takeNext_19, tX0_takeNext_20, tX0_takeNext_21, tX0_takeNext_24, tX0_takeNext_27, tX0_takeNext_29, tX0_takeNext_30, tX0_takeNext_31, tX0_takeNext_34, tX0_takeNext_35, tX0_takeNext_36, tX0_takeNext_37, tX0_takeNext_38, tX0_takeNext_39, tX0_takeNext_42, tX0_takeNext_43, tX0_takeNext_44, tX0_takeNext_47, tX0_takeNext_48, tX0_takeNext_49, tX0_takeNext_52, tX0_takeNext_53, tX0_takeNext_56, tX0_takeNext_59, tX0_takeNext_60, tX0_takeNext_61, tX0_takeNext_64, tX0_takeNext_65, tX0_takeNext_66, tX0_takeNext_69, tX0_takeNext_70, tX0_takeNext_73, tX0_takeNext_74, tX0_takeNext_77, tX0_takeNext_78, tX0_takeNext_81, tX0_takeNext_84, tX0_takeNext_85, tX0_takeNext_88, tX0_takeNext_89, tX0_takeNext_92, tX0_takeNext_95, tX0_takeNext_96, tX0_takeNext_99, tX0_takeNext_100, tX0_takeNext_101, tX0_takeNext_104, tX0_takeNext_105, pw_QK_s, b0, b5, b6.1, e10, ↓w_nextLine0, ↓w_hasLine, e, optI]
        rw [tk, l4]
        exact ⟨fun _ => ⟨hI, hT, hW, hR, fun J hJ => ⟨(hR.wk hJ).1.2.1, fun _ => mid J hJ, fun q => absurd (by omega) q⟩⟩, fun q => absurd (Int32.not_le.mp (nI_ge (a := vN S 10) (b := 4) hm4 (by omega))) q⟩
  · exact h.elim
end TAK
