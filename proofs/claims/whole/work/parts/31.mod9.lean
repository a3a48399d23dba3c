/-! the reference: in which order all would be taken -/
def passS (S : Nat → Int32) : Nat → Int32 := match nextS S with
  | none => S
  | some k => turnWS (upd S (166 + 13 * k + 3) 0) k
def passN (S : Nat → Int32) : Nat → (Nat → Int32)
  | 0 => S
  | t + 1 => passS (passN S t)
/-- what a pass asks of the state -/
def PassOK (S : Nat → Int32) : Prop := InvB S ∧ InvT S ∧ OrdOK S ∧ ∀ k, nextS S = some k → InvB (upd S (166 + 13 * k + 3) 0) ∧ turnOK (wayS (upd S (166 + 13 * k + 3) 0) (vN (upd S (166 + 13 * k + 3) 0) (166 + 13 * k))) (upd S (166 + 13 * k + 3) 0) (nI k)
def fndI (b : Option Nat) : Int32 := match b with
  | none => -4
  | some k => nI k
section MOD9
variable {n base m : Nat} {sh : pw_Sh} {P : pw_P} {Ag : List Value} {I : pw_I} {K : Option Value → pw_I → Prop}
def scr5 (m : Nat) (I J : pw_I) : Prop := ∀ a, a ≠ m + 1 → a ≠ m + 3 → a ≠ m + 4 → a ≠ m + 5 → a ≠ m + 6 → J a = I a
theorem passN_none {S : Nat → Int32} {t : Nat} (h : nextS (passN S t) = none) : ∀ d, nextS (passN S (t + d)) = none ∧ passN S (t + d) = passN S t
  | 0 => ⟨h, rfl⟩
  | d + 1 => by
    obtain ⟨h1, h2⟩ := passN_none h d
    have e : passN S (t + (d + 1)) = passN S t := by
      show passS (passN S (t + d)) = _
      unfold passS
      rw [h1]
      exact h2
    rw [e]
    exact ⟨h, rfl⟩
def w_orderAt7 (m N : Nat) : pw_Wp := fun Ag I K => match Ag with
  | [.ref o, .int x] => o = m ∧ (∀ t, PassOK (passN (I (m + 1)) t)) ∧ nextS (passN (I (m + 1)) N) = none ∧ (∀ t k, 374 ≤ k → passN (I (m + 1)) t k = I (m + 1) k) ∧ (x.toInt < 0 → K (some (.int (-1))) I) ∧
    (0 ≤ x.toInt → ∀ J, scr5 m I J → J (m + 1) = I (m + 1) → K (some (.int (fndI (nextS (passN (I (m + 1)) x.toNatClampNeg))))) J)
  | _ => False
set_option maxRecDepth 100000 in
set_option maxHeartbeats 4000000 in
theorem x_orderAt7 {N : Nat} (hM : pw_mod sh P m) (h : w_orderAt7 m N Ag I K) : pw_ok mX7_orderAt 4 base n sh P Ag I K := by
  unfold w_orderAt7 at h
  split at h
  · rename_i o x
    obtain ⟨rfl, hP, hN, hhi, hA, hB⟩ := h
    obtain ⟨h1, ⟨h2, h3⟩, -, ⟨h4, h5⟩, -⟩ := id hM
    generalize hS : I (o + 1) = S at hP hN hhi hB
    refine pw_bd [_, _, _, _] pl_X7 c_ri rfl rfl ?_
    have hnx : ∀ t k, nextS (passN S t) = some k → k < 16 := fun t k e => by
      have := nextS_lt (hP t).2.2.1 e
      have := (hP t).1.2.1.2
      omega
    have fin : ∀ (J : pw_I) (t : Nat) (y z : Int32), 0 ≤ x.toInt → scr5 o I J → J (o + 1) = passN S t → (∀ k, k < 374 → J (o + 3) k = S k) → nextS (passN S t) = nextS (passN S x.toNatClampNeg) → y = optI (nextS (passN S t)) → (y < 0 ∨ x ≤ z) →
        PW (mX7_orderAt, 4, 0, 0, none, base) n sh P J 0 0 17 [some (.ref o), some (.int x), some (.int y), some (.int z)] [] (pw_QK n sh P K) := by
      intro J t y z hx hJ hJS hJ3 hxt hy hyz
      have ex : ∀ J2, J2 = pw_set J (o + 1) (va_cpy (J (o + 3)) (J (o + 1)) 0 0 374) → K (some (.int (fndI (nextS (passN S t))))) J2 := by
        intro J2 e
        subst e
        rw [hxt]
        refine hB hx _ (fun a a1 a2 a3 a4 a5 => by rw [set_n a1]; exact hJ a a1 a2 a3 a4 a5) ?_
        rw [set_s, hJS]
        funext k
        unfold va_cpy
        by_cases hk : k < 374
        · rw [if_pos ⟨by omega, by omega⟩]; rw [show 0 + (k - 0) = k by omega]; exact hJ3 k hk
        · rw [if_neg (by omega)]; exact hhi t k (by omega)
      refine pw_go okX7_orderAt (cc [(97, (w_layBack o))]) ⟨Nat.le_refl _, Nat.le_refl _⟩ (cc_c (fun Ag I K h => ⟨0, Nat.le_of_ble_eq_true rfl, x_layBack hM h⟩) cc_n) (st0) 60 ?_
      simp only [↓f_vc_s, ↓vk_i, ↓cc_i, ↓reduceIte, f_vq_s, Bool.false_eq_true, ↓f_e_iconst, ↓f_e_bipush, ↓f_e_sipush, ↓f_e_ldc, ↓f_e_ldc_w, ↓f_e_iload_n, ↓f_e_iload, ↓f_e_aload_n, ↓f_e_aload, ↓f_e_istore_n, ↓f_e_istore, ↓f_e_astore_n, ↓f_e_astore, ↓f_e_iinc, ↓f_e_iadd, ↓f_e_isub, ↓f_e_imul, ↓f_e_iand, ↓f_e_ior, ↓f_e_ixor, ↓f_e_idiv, ↓f_e_irem, ↓f_e_ishl, ↓f_e_ishr, ↓f_e_iushr, ↓f_e_i2c, ↓f_e_dup, ↓f_e_dup2, ↓f_e_pop, ↓f_e_goto, ↓f_e_ifCond, ↓f_e_if_icmp, ↓f_e_tableswitch, ↓f_e_lookupswitch, ↓f_e_getfield_i, ↓f_e_getfield_r, ↓f_e_putfield_i, ↓f_e_putfield_z, ↓f_e_iaload, ↓f_e_caload, ↓f_e_aaload, ↓f_e_iastore, ↓f_e_castore, ↓f_e_arraylength, ↓f_e_invokestatic, ↓f_e_invokevirtual, ↓f_e_ireturn, ↓f_e_return_, ↓f_s_i_c, ↓f_s_r_c, ↓f_s_v_i, ↓f_s_v_r, ↓f_s_l_0, ↓s_l_1, ↓s_l_2, ↓s_l_3, ↓s_l_4, ↓s_l_5, ↓s_l_6, ↓s_a_0, ↓s_a_1, ↓s_a_2, ↓s_a_3, ↓s_m_0, ↓f_s_m_i, ↓f_s_m_r, ↓f_s_m_i7, ↓f_s_m_r7, ↓f_s_m_i6, ↓f_s_m_r6, ↓f_s_m_i5, ↓f_s_m_r5, ↓f_s_m_i4, ↓f_s_m_r4, ↓f_s_w_n, ↓f_s_w_c, ↓f_s_p_eq, ↓f_s_p_ne, ↓f_s_p_lt, ↓f_s_p_ge, ↓f_s_p_gt, ↓f_s_p_le, ↓nk_i, ↓nk_z, ↓nk_c, ↓rf_s, ↓ov_s, ↓ov_n, ↓fin0, ↓fin1, ↓fin2, ↓fin3, cond_true, cond_false, List.set_cons_zero, List.set_cons_succ, List.length_cons, List.length_nil, true_and, and_true, true_or, or_true, implies_true, forall_const, not_true_eq_false, not_false_eq_true, false_implies, Nat.reduceAdd, Nat.reduceLT, Nat.reduceBEq, Nat.reduceEqDiff, Bool.or_false, Bool.false_or, Bool.or_true, Bool.true_or, beq_self_eq_true, Nat.reduceLeDiff, Nat.reduceMul, Nat.reduceSub, eq_self, Nat.reduceBneDiff, st0_s, st1_s, st2_s, st3_s, reduceCtorEq, cc_0, tl_0, cl_0, il_0, tl_1, cl_1, il_1, tl_2, cl_2, il_2, tl_3, cl_3, il_3, tl_4, cl_4, il_4, tl_5, cl_5, il_5, tl_6, cl_6, il_6, tl_7, cl_7, il_7, tl_8, cl_8, il_8, tl_9, cl_9, il_9, tl_10, cl_10, il_10, tl_11, cl_11, il_11, tl_12, cl_12, il_12, tl_13, cl_13, il_13, tl_14, cl_14, il_14, tl_15, cl_15, il_15, tl_16, cl_16, il_16, tl_20, tl_21, tl_25, tl_32, tl_48, tl_50, tl_57, tl_58, tl_59, tl_60, tl_99, tl_100, tl_101, tl_108, tl_109, tl_116, tl_120, tl_126, tl_374, tl_1122, tl_50000, i10, i01, tl_m1, tl_m2, tl_m3, tl_m4, nr_X7_orderAt, tX7_orderAt_0, tX7_orderAt_1, tX7_orderAt_4, tX7_orderAt_5, tX7_orderAt_6, tX7_orderAt_7, tX7_orderAt_10, tX7_orderAt_11, tX7_orderAt_14, tX7_orderAt_15, tX7_orderAt_16, tX7_orderAt_17, tX7_orderAt_18, tX7_orderAt_19, tX7_orderAt_22, tX7_orderAt_23, tX7_orderAt_26, tX7_orderAt_27, tX7_orderAt_30, tX7_orderAt_31, tX7_orderAt_34, tX7_orderAt_35, tX7_orderAt_36, tX7_orderAt_37, tX7_orderAt_38, tX7_orderAt_39, tX7_orderAt_40, tX7_orderAt_43, tX7_orderAt_44, tX7_orderAt_47, tX7_orderAt_48, tX7_orderAt_51, tX7_orderAt_54, tX7_orderAt_55, tX7_orderAt_58, tX7_orderAt_59, tX7_orderAt_62, tX7_orderAt_64, tX7_orderAt_67, tX7_orderAt_68, pw_QK_s, h1, h2, h3, ↓w_layBack]
      have hy1 : 0 ≤ y → K (some (.int y)) (pw_set J (o + 1) (va_cpy (J (o + 3)) (J (o + 1)) 0 0 374)) := fun q => by
        have := ex _ rfl
        cases e : nextS (passN S t) with
        | none => rw [hy, e] at q; exact absurd q (by decide)
        | some k => rw [e] at this; rw [hy, e]; exact this
      have hy2 : ¬ 0 ≤ y → K (some (.int (-4))) (pw_set J (o + 1) (va_cpy (J (o + 3)) (J (o + 1)) 0 0 374)) := fun q => by
        have := ex _ rfl
        cases e : nextS (passN S t) with
        | none => rw [e] at this; exact this
        | some k => rw [hy, e] at q; exact absurd (nI_pos' (by have := hnx t k e; omega)) q
      exact ⟨fun _ => ⟨hy1, hy2⟩, fun q => ⟨fun _ => ⟨hy1, hy2⟩, fun q2 => hyz.elim q2 q⟩⟩
    have xn : 0 ≤ x.toInt → x = nI x.toNatClampNeg := ti_nat
    have xb := int_range x
    have xe : x.toNatClampNeg = x.toInt.toNat := rfl
    have loop : ∀ (f t : Nat) (J : pw_I), t + f = N → 0 ≤ x.toInt → t ≤ x.toNatClampNeg → scr5 o I J → J (o + 1) = passN S t → (∀ k, k < 374 → J (o + 3) k = S k) →
        PW (mX7_orderAt, 4, 0, 0, none, base) n sh P J 0 0 17 [some (.ref o), some (.int x), some (.int (optI (nextS (passN S t)))), some (.int (nI t))] [] (pw_QK n sh P K) := by
      intro f
      induction f with
      | zero =>
        intro t J ht hx htx hJ hJS hJ3
        obtain rfl : t = N := by omega
        refine fin J t _ _ hx hJ hJS hJ3 ?_ rfl (Or.inl (by rw [hN]; decide))
        rw [show x.toNatClampNeg = t + (x.toNatClampNeg - t) by omega, (passN_none hN _).1]
        exact hN
      | succ f ih =>
        intro t J ht hx htx hJ hJS hJ3
        cases e : nextS (passN S t) with
        | none =>
          have := fin J t (-1) (nI t) hx hJ hJS hJ3 (by rw [show x.toNatClampNeg = t + (x.toNatClampNeg - t) by omega, (passN_none e _).1]; exact e) (by rw [e]; rfl) (Or.inl (by decide))
          exact this
        | some k =>
          have hk := hnx t k e
          by_cases hx2 : t = x.toNatClampNeg
          · have := fin J t (nI k) (nI t) hx hJ hJS hJ3 (by rw [hx2]) (by rw [e]; rfl) (Or.inr (by rw [hx2, ← xn hx]; exact Int32.le_refl _))
            exact this
          · obtain ⟨p1, p2, p3, p4⟩ := hP t
            obtain ⟨p5, p6⟩ := p4 k e
            obtain ⟨n1, n2, n3, -⟩ := hP (t + 1)
            have hps : passN S (t + 1) = turnWS (upd (passN S t) (166 + 13 * k + 3) 0) k := by
              show passS (passN S t) = _
              unfold passS
              rw [e]
            have hlt : t < x.toNatClampNeg := by omega
            have hnle : ¬ x ≤ nI t := by rw [xn hx]; exact nI_ge hlt (by omega)
            refine pw_go okX7_orderAt (cc [(99, w_l), (118, (w_turnWay o)), (116, (w_nextLine o))]) ⟨Nat.le_refl _, Nat.le_refl _⟩ (cc_c (fun Ag I K h => ⟨0, Nat.le_of_ble_eq_true rfl, x_l h⟩) (cc_c (fun Ag I K h => ⟨2, Nat.le_of_ble_eq_true rfl, x_turnWay hM h⟩) (cc_c (fun Ag I K h => ⟨3, Nat.le_of_ble_eq_true rfl, x_nextLine7 hM h⟩) cc_n))) (st1 17) 60 ?_
            simp only [↓f_vc_s, ↓vk_i, ↓cc_i, ↓reduceIte, f_vq_s, Bool.false_eq_true, ↓f_e_iconst, ↓f_e_bipush, ↓f_e_sipush, ↓f_e_ldc, ↓f_e_ldc_w, ↓f_e_iload_n, ↓f_e_iload, ↓f_e_aload_n, ↓f_e_aload, ↓f_e_istore_n, ↓f_e_istore, ↓f_e_astore_n, ↓f_e_astore, ↓f_e_iinc, ↓f_e_iadd, ↓f_e_isub, ↓f_e_imul, ↓f_e_iand, ↓f_e_ior, ↓f_e_ixor, ↓f_e_idiv, ↓f_e_irem, ↓f_e_ishl, ↓f_e_ishr, ↓f_e_iushr, ↓f_e_i2c, ↓f_e_dup, ↓f_e_dup2, ↓f_e_pop, ↓f_e_goto, ↓f_e_ifCond, ↓f_e_if_icmp, ↓f_e_tableswitch, ↓f_e_lookupswitch, ↓f_e_getfield_i, ↓f_e_getfield_r, ↓f_e_putfield_i, ↓f_e_putfield_z, ↓f_e_iaload, ↓f_e_caload, ↓f_e_aaload, ↓f_e_iastore, ↓f_e_castore, ↓f_e_arraylength, ↓f_e_invokestatic, ↓f_e_invokevirtual, ↓f_e_ireturn, ↓f_e_return_, ↓f_s_i_c, ↓f_s_r_c, ↓f_s_v_i, ↓f_s_v_r, ↓f_s_l_0, ↓s_l_1, ↓s_l_2, ↓s_l_3, ↓s_l_4, ↓s_l_5, ↓s_l_6, ↓s_a_0, ↓s_a_1, ↓s_a_2, ↓s_a_3, ↓s_m_0, ↓f_s_m_i, ↓f_s_m_r, ↓f_s_m_i7, ↓f_s_m_r7, ↓f_s_m_i6, ↓f_s_m_r6, ↓f_s_m_i5, ↓f_s_m_r5, ↓f_s_m_i4, ↓f_s_m_r4, ↓f_s_w_n, ↓f_s_w_c, ↓f_s_p_eq, ↓f_s_p_ne, ↓f_s_p_lt, ↓f_s_p_ge, ↓f_s_p_gt, ↓f_s_p_le, ↓nk_i, ↓nk_z, ↓nk_c, ↓rf_s, ↓ov_s, ↓ov_n, ↓fin0, ↓fin1, ↓fin2, ↓fin3, cond_true, cond_false, List.set_cons_zero, List.set_cons_succ, List.length_cons, List.length_nil, true_and, and_true, true_or, or_true, implies_true, forall_const, not_true_eq_false, not_false_eq_true, false_implies, Nat.reduceAdd, Nat.reduceLT, Nat.reduceBEq, Nat.reduceEqDiff, Bool.or_false, Bool.false_or, Bool.or_true, Bool.true_or, beq_self_eq_true, Nat.reduceLeDiff, Nat.reduceMul, Nat.reduceSub, eq_self, Nat.reduceBneDiff, st0_s, st1_s, st2_s, st3_s, reduceCtorEq, cc_0, tl_0, cl_0, il_0, tl_1, cl_1, il_1, tl_2, cl_2, il_2, tl_3, cl_3, il_3, tl_4, cl_4, il_4, tl_5, cl_5, il_5, tl_6, cl_6, il_6, tl_7, cl_7, il_7, tl_8, cl_8, il_8, tl_9, cl_9, il_9, tl_10, cl_10, il_10, tl_11, cl_11, il_11, tl_12, cl_12, il_12, tl_13, cl_13, il_13, tl_14, cl_14, il_14, tl_15, cl_15, il_15, tl_16, cl_16, il_16, tl_20, tl_21, tl_25, tl_32, tl_48, tl_50, tl_57, tl_58, tl_59, tl_60, tl_99, tl_100, tl_101, tl_108, tl_109, tl_116, tl_120, tl_126, tl_374, tl_1122, tl_50000, i10, i01, tl_m1, tl_m2, tl_m3, tl_m4, nr_X7_orderAt, tX7_orderAt_0, tX7_orderAt_1, tX7_orderAt_4, tX7_orderAt_5, tX7_orderAt_6, tX7_orderAt_7, tX7_orderAt_10, tX7_orderAt_11, tX7_orderAt_14, tX7_orderAt_15, tX7_orderAt_16, tX7_orderAt_17, tX7_orderAt_18, tX7_orderAt_19, tX7_orderAt_22, tX7_orderAt_23, tX7_orderAt_26, tX7_orderAt_27, tX7_orderAt_30, tX7_orderAt_31, tX7_orderAt_34, tX7_orderAt_35, tX7_orderAt_36, tX7_orderAt_37, tX7_orderAt_38, tX7_orderAt_39, tX7_orderAt_40, tX7_orderAt_43, tX7_orderAt_44, tX7_orderAt_47, tX7_orderAt_48, tX7_orderAt_51, tX7_orderAt_54, tX7_orderAt_55, tX7_orderAt_58, tX7_orderAt_59, tX7_orderAt_62, tX7_orderAt_64, tX7_orderAt_67, tX7_orderAt_68, pw_QK_s, h1, h2, h3, ↓w_l, ↓w_turnWay, ↓w_nextLine, optI]
            simp (disch := omega) only [ix_l, ix_n, ix_0, ix_1, ix_2, ix_3, ix_4, ix_5, ix_6, ix_7, ix_8, ix_9, ix_10, ix_11, ix_12, ix_13, ix_14, ix_15, ix_20, ix_100, ix_374, jx_100, jx_11, jx_374, kx_374, cl_nI, in_nI, Nat.add_zero, true_and, up_set, set_s, set_set, set_n, cpy_s0, cpy_sd, cpy_ss, nI_add, upd_s, upd_n, hJS]
            refine ⟨fun q => absurd q hnle, fun _ => ⟨fun q => absurd q (nI_pos (by omega)), fun _ => ⟨p5, by rw [ti_nI (by omega)]; omega, p6, ?_⟩⟩⟩
            rw [← hps]
            refine ⟨n1, n2, n3, fun J2 hJ2 => ?_⟩
            have r : ∀ a : Nat, a ≠ (o : Nat) + 4 → a ≠ (o : Nat) + 5 → a ≠ (o : Nat) + 6 → J2 a = pw_set J (o + 1) (passN S (t + 1)) a := hJ2
            have := ih (t + 1) J2 (by omega) hx (by omega) (fun a a1 a2 a3 a4 a5 => by rw [r a a3 a4 a5, set_n a1]; exact hJ a a1 a2 a3 a4 a5) (by rw [r (o + 1) (by omega) (by omega) (by omega), set_s]) (fun k hk => by rw [r (o + 3) (by omega) (by omega) (by omega), set_n (by omega)]; exact hJ3 k hk)
            exact this
    refine pw_go okX7_orderAt (cc [(96, (w_layAside o)), (116, (w_nextLine o))]) ⟨Nat.le_refl _, Nat.le_refl _⟩ (cc_c (fun Ag I K h => ⟨0, Nat.le_of_ble_eq_true rfl, x_layAside hM h⟩) (cc_c (fun Ag I K h => ⟨3, Nat.le_of_ble_eq_true rfl, x_nextLine7 hM h⟩) cc_n)) (st1 17) 60 ?_
    simp only [↓f_vc_s, ↓vk_i, ↓cc_i, ↓reduceIte, f_vq_s, Bool.false_eq_true, ↓f_e_iconst, ↓f_e_bipush, ↓f_e_sipush, ↓f_e_ldc, ↓f_e_ldc_w, ↓f_e_iload_n, ↓f_e_iload, ↓f_e_aload_n, ↓f_e_aload, ↓f_e_istore_n, ↓f_e_istore, ↓f_e_astore_n, ↓f_e_astore, ↓f_e_iinc, ↓f_e_iadd, ↓f_e_isub, ↓f_e_imul, ↓f_e_iand, ↓f_e_ior, ↓f_e_ixor, ↓f_e_idiv, ↓f_e_irem, ↓f_e_ishl, ↓f_e_ishr, ↓f_e_iushr, ↓f_e_i2c, ↓f_e_dup, ↓f_e_dup2, ↓f_e_pop, ↓f_e_goto, ↓f_e_ifCond, ↓f_e_if_icmp, ↓f_e_tableswitch, ↓f_e_lookupswitch, ↓f_e_getfield_i, ↓f_e_getfield_r, ↓f_e_putfield_i, ↓f_e_putfield_z, ↓f_e_iaload, ↓f_e_caload, ↓f_e_aaload, ↓f_e_iastore, ↓f_e_castore, ↓f_e_arraylength, ↓f_e_invokestatic, ↓f_e_invokevirtual, ↓f_e_ireturn, ↓f_e_return_, ↓f_s_i_c, ↓f_s_r_c, ↓f_s_v_i, ↓f_s_v_r, ↓f_s_l_0, ↓s_l_1, ↓s_l_2, ↓s_l_3, ↓s_l_4, ↓s_l_5, ↓s_l_6, ↓s_a_0, ↓s_a_1, ↓s_a_2, ↓s_a_3, ↓s_m_0, ↓f_s_m_i, ↓f_s_m_r, ↓f_s_m_i7, ↓f_s_m_r7, ↓f_s_m_i6, ↓f_s_m_r6, ↓f_s_m_i5, ↓f_s_m_r5, ↓f_s_m_i4, ↓f_s_m_r4, ↓f_s_w_n, ↓f_s_w_c, ↓f_s_p_eq, ↓f_s_p_ne, ↓f_s_p_lt, ↓f_s_p_ge, ↓f_s_p_gt, ↓f_s_p_le, ↓nk_i, ↓nk_z, ↓nk_c, ↓rf_s, ↓ov_s, ↓ov_n, ↓fin0, ↓fin1, ↓fin2, ↓fin3, cond_true, cond_false, List.set_cons_zero, List.set_cons_succ, List.length_cons, List.length_nil, true_and, and_true, true_or, or_true, implies_true, forall_const, not_true_eq_false, not_false_eq_true, false_implies, Nat.reduceAdd, Nat.reduceLT, Nat.reduceBEq, Nat.reduceEqDiff, Bool.or_false, Bool.false_or, Bool.or_true, Bool.true_or, beq_self_eq_true, Nat.reduceLeDiff, Nat.reduceMul, Nat.reduceSub, eq_self, Nat.reduceBneDiff, st0_s, st1_s, st2_s, st3_s, reduceCtorEq, cc_0, tl_0, cl_0, il_0, tl_1, cl_1, il_1, tl_2, cl_2, il_2, tl_3, cl_3, il_3, tl_4, cl_4, il_4, tl_5, cl_5, il_5, tl_6, cl_6, il_6, tl_7, cl_7, il_7, tl_8, cl_8, il_8, tl_9, cl_9, il_9, tl_10, cl_10, il_10, tl_11, cl_11, il_11, tl_12, cl_12, il_12, tl_13, cl_13, il_13, tl_14, cl_14, il_14, tl_15, cl_15, il_15, tl_16, cl_16, il_16, tl_20, tl_21, tl_25, tl_32, tl_48, tl_50, tl_57, tl_58, tl_59, tl_60, tl_99, tl_100, tl_101, tl_108, tl_109, tl_116, tl_120, tl_126, tl_374, tl_1122, tl_50000, i10, i01, tl_m1, tl_m2, tl_m3, tl_m4, nr_X7_orderAt, tX7_orderAt_0, tX7_orderAt_1, tX7_orderAt_4, tX7_orderAt_5, tX7_orderAt_6, tX7_orderAt_7, tX7_orderAt_10, tX7_orderAt_11, tX7_orderAt_14, tX7_orderAt_15, tX7_orderAt_16, tX7_orderAt_17, tX7_orderAt_18, tX7_orderAt_19, tX7_orderAt_22, tX7_orderAt_23, tX7_orderAt_26, tX7_orderAt_27, tX7_orderAt_30, tX7_orderAt_31, tX7_orderAt_34, tX7_orderAt_35, tX7_orderAt_36, tX7_orderAt_37, tX7_orderAt_38, tX7_orderAt_39, tX7_orderAt_40, tX7_orderAt_43, tX7_orderAt_44, tX7_orderAt_47, tX7_orderAt_48, tX7_orderAt_51, tX7_orderAt_54, tX7_orderAt_55, tX7_orderAt_58, tX7_orderAt_59, tX7_orderAt_62, tX7_orderAt_64, tX7_orderAt_67, tX7_orderAt_68, pw_QK_s, h1, h2, h3, ↓w_layAside, ↓w_nextLine]
    simp only [ti_le, show (0 : Int32).toInt = 0 from rfl]
    refine ⟨fun q => ?_, fun q => hA (by omega)⟩
    rw [set_n (a := (o : Nat) + 3) (a' := (o : Nat) + 1) (by omega), hS]
    obtain ⟨p1, p2, p3, p4⟩ := hP 0
    refine ⟨p1, p2, p3, fun J hJ => ?_⟩
    have r : ∀ a : Nat, a ≠ (o : Nat) + 4 → a ≠ (o : Nat) + 5 → a ≠ (o : Nat) + 6 → J a = pw_set I (o + 3) (va_cpy S (I (o + 3)) 0 0 374) a := hJ
    refine loop N 0 J (Nat.zero_add _) q (Nat.zero_le _) (fun a a1 a2 a3 a4 a5 => by rw [r a a3 a4 a5, set_n a2]) (by rw [r (o + 1) (by omega) (by omega) (by omega), set_n (by omega), hS]; rfl) (fun k hk => ?_)
    rw [r (o + 3) (by omega) (by omega) (by omega), set_s, cpy_in (by omega) (by omega)]
    congr 1; omega
  · exact h.elim
end MOD9
