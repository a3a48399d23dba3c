/-! what is kept where a part of the board is written; a node's mask; arguments that are out of range -/
theorem relN.to {I J : pw_I} {b j : Nat} {S S' : Nat → Int32} (h : relN I b S j) (m1 : J (b + 2 + 3 * j) = I (b + 2 + 3 * j)) (m2 : J (b + 3 + 3 * j) = I (b + 3 + 3 * j)) (m3 : J (b + 4 + 3 * j) = I (b + 4 + 3 * j))
    (e0 : S' (16 + 25 * j) = S (16 + 25 * j)) (e1 : S' (16 + 25 * j + 1) = S (16 + 25 * j + 1)) (e3 : S' (16 + 25 * j + 3) = S (16 + 25 * j + 3)) (ei : ∀ i, i < 21 → S' (16 + 25 * j + 4 + i) = S (16 + 25 * j + 4 + i)) (hc : cntS S j ≤ 21) (ew : wayF S' j = wayF S j) : relN J b S' j := by
  obtain ⟨a1, a2, a3, a4, a5⟩ := h
  have hcc : cntS S' j = cntS S j := by
    show (S' (16 + 25 * j + 3)).toNatClampNeg = (S (16 + 25 * j + 3)).toNatClampNeg
    rw [e3]
  unfold relN
  rw [m1, m2, m3, e0, e1, e3, ew]
  exact ⟨a1, a2, a3, a4, fun i hi => by rw [ei i (by omega)]; exact a5 i (by omega)⟩
theorem relL.to {I J : pw_I} {b k : Nat} {S S' : Nat → Int32} (h : relL I b S k) (m : J (b + 21 + k) = I (b + 21 + k)) (e : ∀ c, c < 12 → S' (166 + 13 * k + c) = S (166 + 13 * k + c)) : relL J b S' k := by
  have e0 : S' (166 + 13 * k) = S (166 + 13 * k) := e 0 (by omega)
  unfold relL
  rw [m, e0, e 1 (by omega), e 2 (by omega), e 3 (by omega), e 4 (by omega), e 5 (by omega), e 6 (by omega), e 7 (by omega), e 8 (by omega), e 9 (by omega), e 10 (by omega), e 11 (by omega)]
  exact h
theorem relS.to {I J : pw_I} {b : Nat} {S S' : Nat → Int32} (h : relS I b S) (m1 : J (b + 37) = I (b + 37)) (m2 : J (b + 38) = I (b + 38)) (h10 : vN S 10 ≤ 4) (e : ∀ i, 10 ≤ i → i < 15 → S' i = S i) : relS J b S' := by
  have v10 : vN S' 10 = vN S 10 := by unfold vN; rw [e 10 (by omega) (by omega)]
  unfold relS
  rw [m1, m2, e 10 (by omega) (by omega), v10]
  exact ⟨h.1, fun i hi => (h.2 i hi).trans (e (11 + i) (by omega) (by omega)).symm⟩
theorem waitOK.to {S S' : Nat → Int32} {W : List Nat} (h : waitOK S W) (h4 : vN S 4 ≤ 16) (e4 : S' 4 = S 4) (es : ∀ k, k < 16 → S' (166 + 13 * k + 4) = S (166 + 13 * k + 4)) (ed : ∀ k, k < 16 → S' (166 + 13 * k + 11) = S (166 + 13 * k + 11)) (eo : ∀ k, k < 16 → S' (166 + 13 * k + 12) = S (166 + 13 * k + 12)) : waitOK S' W := by
  obtain ⟨w3, w4, w5⟩ := h
  have v4 : vN S' 4 = vN S 4 := by unfold vN; rw [e4]
  refine ⟨w3, fun k => ?_, w5.imp_of_mem fun {a c} ha hc q => ?_⟩
  · rw [v4]
    constructor
    · intro z
      have := (w4 k).mp z
      exact ⟨this.1, by rw [es k (by omega)]; exact this.2⟩
    · intro z
      refine (w4 k).mpr ⟨z.1, ?_⟩
      have := z.2
      rwa [es k (by omega)] at this
  · have h1 := ((w4 a).mp ha).1
    have h2 := ((w4 c).mp hc).1
    unfold earlS
    rw [ed a (by omega), ed c (by omega), eo a (by omega), eo c (by omega)]
    exact q
theorem relW.to {I J : pw_I} {b : Nat} {S S' : Nat → Int32} (h : relW I b S) (m1 : J (b + 39) = I (b + 39)) (m2 : J (b + 40) = I (b + 40)) (h4 : vN S 4 ≤ 16) (e4 : S' 4 = S 4) (es : ∀ k, k < 16 → S' (166 + 13 * k + 4) = S (166 + 13 * k + 4)) (ed : ∀ k, k < 16 → S' (166 + 13 * k + 11) = S (166 + 13 * k + 11)) (eo : ∀ k, k < 16 → S' (166 + 13 * k + 12) = S (166 + 13 * k + 12)) : relW J b S' := by
  obtain ⟨W, w1, w2, w3⟩ := h
  exact ⟨W, by rw [m1]; exact w1, by rw [m2]; exact w2, w3.to h4 e4 es ed eo⟩
theorem wayF_to {S S' : Nat → Int32} {j : Nat} (hI : InvB S) (e3 : S' 3 = S 3) (eo : ∀ i, i < 6 → S' (16 + 25 * i) = S (16 + 25 * i)) (hj : j < 6) : wayF S' j = wayF S j := by
  have v3 : vN S' 3 = vN S 3 := by unfold vN; rw [e3]
  have ho : ∀ i, i < 6 → onS S' i = onS S i := fun i hi => by unfold onS vN; rw [eo i hi]
  unfold wayF wayS
  rw [v3, wayL_congr hI.on ho (j + 1) j hj]
theorem InvB.to {S S' : Nat → Int32} (h : InvB S) (e3 : S' 3 = S 3) (e4 : S' 4 = S 4) (es : ∀ i, 10 ≤ i → i < 15 → S' i = S i)
    (en : ∀ j, j < 6 → S' (16 + 25 * j) = S (16 + 25 * j) ∧ bit01 (S' (16 + 25 * j + 1)) ∧ bit01 (S' (16 + 25 * j + 2)) ∧ S' (16 + 25 * j + 3) = S (16 + 25 * j + 3))
    (el : ∀ k, k < 16 → S' (166 + 13 * k) = S (166 + 13 * k) ∧ S' (166 + 13 * k + 1) = S (166 + 13 * k + 1) ∧ bit01 (S' (166 + 13 * k + 2)) ∧ bit01 (S' (166 + 13 * k + 3)) ∧ (S' (166 + 13 * k + 4) = 0 ∨ S' (166 + 13 * k + 4) = 1 ∨ S' (166 + 13 * k + 4) = 2) ∧ bit01 (S' (166 + 13 * k + 5)))
    (er : (0 ≤ (S' 0).toInt ∧ (S' 0).toInt ≤ 50000) ∧ (0 ≤ (S' 1).toInt ∧ (S' 1).toInt ≤ 8) ∧ (0 ≤ (S' 2).toInt ∧ (S' 2).toInt ≤ 50)) : InvB S' := by
  obtain ⟨a1, a2, a3, a4, a5, a6, a7, a8⟩ := h
  unfold CLampRanksLaw_law_r1443_3e4940.InvB vN
  rw [e3, e4, es 10 (by omega) (by omega)]
  refine ⟨a1, a2, a3, fun j hj => ?_, ⟨?_, fun j h1 h2 => ?_⟩, fun k hk => ?_, fun i hi => ?_, er⟩
  · obtain ⟨n1, n2, n3, n4⟩ := en j hj
    rw [n4]
    exact ⟨n2, n3, (a4 j hj).2.2⟩
  · exact (en 0 (by omega)).1.trans a5.1
  · rw [(en j h2).1]; exact a5.2 j h1 h2
  · obtain ⟨l1, l2, l3, l4, l5, l6⟩ := el k hk
    rw [l1, l2]
    exact ⟨(a6 k hk).1, (a6 k hk).2.1, l3, l4, l5, l6⟩
  · have : i < 4 := Nat.lt_of_lt_of_le hi a3.2
    rw [es (11 + i) (by omega) (by omega)]; exact a7 i hi
/-- a set of nodes, one of them the other way -/
theorem set6x {p q : Nat → Bool} {j : Nat} (hj : j < 6) (h1 : ∀ i, i ≠ j → q i = p i) (h2 : q j = !p j) : setF q 6 = setF p 6 ^^^ (1 : Int32) <<< (nI j &&& 31) := by
  have key : ∀ a0 a1 a2 a3 a4 a5 : Bool, let s := fun (a0 a1 a2 a3 a4 a5 : Bool) => setF (fun i => match i with | 0 => a0 | 1 => a1 | 2 => a2 | 3 => a3 | 4 => a4 | _ => a5) 6
      s (!a0) a1 a2 a3 a4 a5 = s a0 a1 a2 a3 a4 a5 ^^^ (1 : Int32) <<< (nI 0 &&& 31) ∧ s a0 (!a1) a2 a3 a4 a5 = s a0 a1 a2 a3 a4 a5 ^^^ (1 : Int32) <<< (nI 1 &&& 31) ∧ s a0 a1 (!a2) a3 a4 a5 = s a0 a1 a2 a3 a4 a5 ^^^ (1 : Int32) <<< (nI 2 &&& 31) ∧
      s a0 a1 a2 (!a3) a4 a5 = s a0 a1 a2 a3 a4 a5 ^^^ (1 : Int32) <<< (nI 3 &&& 31) ∧ s a0 a1 a2 a3 (!a4) a5 = s a0 a1 a2 a3 a4 a5 ^^^ (1 : Int32) <<< (nI 4 &&& 31) ∧ s a0 a1 a2 a3 a4 (!a5) = s a0 a1 a2 a3 a4 a5 ^^^ (1 : Int32) <<< (nI 5 &&& 31) := by decide +kernel
  have h := key (p 0) (p 1) (p 2) (p 3) (p 4) (p 5)
  have hp : ∀ r : Nat → Bool, setF (fun i => match i with | 0 => r 0 | 1 => r 1 | 2 => r 2 | 3 => r 3 | 4 => r 4 | _ => r 5) 6 = setF r 6 := fun _ => rfl
  obtain ⟨g0, g1, g2, g3, g4, g5⟩ := h
  rw [← hp q, ← hp p]
  have : j = 0 ∨ j = 1 ∨ j = 2 ∨ j = 3 ∨ j = 4 ∨ j = 5 := by omega
  rcases this with rfl | rfl | rfl | rfl | rfl | rfl
  · rw [h2, h1 1 (by omega), h1 2 (by omega), h1 3 (by omega), h1 4 (by omega), h1 5 (by omega)]; exact g0
  · rw [h2, h1 0 (by omega), h1 2 (by omega), h1 3 (by omega), h1 4 (by omega), h1 5 (by omega)]; exact g1
  · rw [h2, h1 0 (by omega), h1 1 (by omega), h1 3 (by omega), h1 4 (by omega), h1 5 (by omega)]; exact g2
  · rw [h2, h1 0 (by omega), h1 1 (by omega), h1 2 (by omega), h1 4 (by omega), h1 5 (by omega)]; exact g3
  · rw [h2, h1 0 (by omega), h1 1 (by omega), h1 2 (by omega), h1 3 (by omega), h1 5 (by omega)]; exact g4
  · rw [h2, h1 0 (by omega), h1 1 (by omega), h1 2 (by omega), h1 3 (by omega), h1 4 (by omega)]; exact g5
theorem InvB.hid {S : Nat → Int32} {j : Nat} {y : Int32} (h : InvB S) (hj : j < 6) (hy : bit01 y) : InvB (upd S (16 + 25 * j + 2) y) := by
  have a4 := h.2.2.2.1
  have a6 := h.2.2.2.2.2.1
  refine h.to (upd_n (by omega)) (upd_n (by omega)) (fun i h1 h2 => upd_n (by omega)) (fun i hi => ⟨upd_n (by omega), ?_, ?_, upd_n (by omega)⟩) (fun k hk => ?_) ?_
  · rw [upd_n (by omega)]; exact (a4 i hi).1
  · by_cases e : i = j
    · rw [e, upd_s]; exact hy
    · rw [upd_n (by omega)]; exact (a4 i hi).2.1
  · rw [upd_n (show 166 + 13 * k ≠ 16 + 25 * j + 2 by omega), upd_n (show 166 + 13 * k + 1 ≠ 16 + 25 * j + 2 by omega), upd_n (show 166 + 13 * k + 2 ≠ 16 + 25 * j + 2 by omega), upd_n (show 166 + 13 * k + 3 ≠ 16 + 25 * j + 2 by omega), upd_n (show 166 + 13 * k + 4 ≠ 16 + 25 * j + 2 by omega), upd_n (show 166 + 13 * k + 5 ≠ 16 + 25 * j + 2 by omega)]
    exact ⟨rfl, rfl, (a6 k hk).2.2⟩
  · rw [upd_n (show 0 ≠ 16 + 25 * j + 2 by omega), upd_n (show 1 ≠ 16 + 25 * j + 2 by omega), upd_n (show 2 ≠ 16 + 25 * j + 2 by omega)]
    exact h.2.2.2.2.2.2.2
section NMK
variable {n base b : Nat} {sh : pw_Sh} {P : pw_P} {Ag : List Value} {I : pw_I} {S : Nat → Int32} {K : Option Value → pw_I → Prop}
def w_setNodeMask (b j : Nat) (y : Int32) (S : Nat → Int32) : pw_Wp := fun Ag I K => match Ag with
  | [.ref o, .int x, .int z] => o = b ∧ x = nI j ∧ z = y ∧ j < vN S 3 ∧ bit01 y ∧ InvB S ∧ RelB I b S ∧ (S (16 + 25 * j + 2) = y → K (some (.int (-2))) I) ∧
    (¬ S (16 + 25 * j + 2) = y → ∀ J, brdOK b I J → RelB J b (upd S (16 + 25 * j + 2) y) → K (some (.int (bitsS (linesByS (upd S (16 + 25 * j + 2) y) j)))) J)
  | _ => False
set_option maxRecDepth 100000 in
set_option maxHeartbeats 4000000 in
theorem x_setNodeMask {j : Nat} {y : Int32} (hM : pw_brd sh P b) (h : w_setNodeMask b j y S Ag I K) : pw_ok mX0_setNodeMask 1 base n sh P Ag I K := by
  unfold w_setNodeMask at h
  split at h
  · rename_i o x z
    obtain ⟨rfl, rfl, rfl, hj3, hy, hI, hR, hB, hC⟩ := h
    have b0 := hM.1
    obtain ⟨rF, rN, rL, rS, rY, rW⟩ := id hR
    have h3 := hI.1
    have l3 : (S 3).toInt = (vN S 3 : Int) := (congrArg Int32.toInt h3.1).trans (ti_nI (by omega))
    have hj : j < 6 := by omega
    have tj : (nI j).toInt = (j : Int) := ti_nI (by omega)
    have hb := (hI.2.2.2.1 j hj).2.1
    have hI2 := hI.hid hj hy
    refine pw_bd [_, _, _] pl_X0 c_rii rfl rfl ?_
    have hl : 0 ≤ (nI j).toInt ∧ (nI j).toInt < (S 3).toInt := by rw [tj, l3]; omega
    have v4 : vN (upd S (16 + 25 * j + 2) z) 4 ≤ 16 := hI2.2.1.2
    have fin : ¬ S (16 + 25 * j + 2) = z → RelB (pw_up I o 4 (setF (fun i => S (16 + 25 * i + 2) == 1) 6 ^^^ (1 : Int32) <<< (nI j &&& 31))) o (upd S (16 + 25 * j + 2) z) := fun q => by
      obtain ⟨f1, f2, f3, f4, f5, f6, f7⟩ := rF
      refine ⟨⟨?_, ?_, ?_, ?_, ?_, ?_, ?_⟩, fun i hi => (rN i hi).to ?_ ?_ ?_ (upd_n (by omega)) (upd_n (by omega)) (upd_n (by omega)) (fun c hc => upd_n (by omega)) (hI.2.2.2.1 i hi).2.2.2 (wayF_to hI (upd_n (by omega)) (fun c hc => upd_n (by omega)) hi), fun k hk => (rL k hk).to ?_ (fun c hc => upd_n (by omega)), rS.to ?_ ?_ hI.2.2.1.2 (fun i h1 h2 => upd_n (by omega)), rY.to (fun k _ => by rw [up_set, set_n (by omega)]) (fun i _ => by rw [up_set, set_n (by omega)]) (upd_n (by omega)) (fun k _ => upd_n (by omega)), rW.to ?_ ?_ hI.2.1.2 (upd_n (by omega)) (fun k hk => upd_n (by omega)) (fun k hk => upd_n (by omega)) (fun k hk => upd_n (by omega))⟩
      · rw [up_n (by omega), upd_n (by omega)]; exact f1
      · rw [up_n (by omega), upd_n (by omega)]; exact f2
      · rw [up_r]
        refine (set6x hj (fun i hi => by rw [upd_n (by omega)]) ?_).symm
        rw [upd_s]
        rcases hb with z1 | z1 <;> rcases hy with z2 | z2
        · exact absurd (z1.trans z2.symm) q
        · rw [z1, z2]; rfl
        · rw [z1, z2]; rfl
        · exact absurd (z1.trans z2.symm) q
      · rw [up_n (by omega), upd_n (by omega)]; exact f4
      · rw [up_n (by omega), upd_n (by omega)]; exact f5
      · rw [up_n (by omega), upd_n (by omega)]; exact f6
      · rw [up_n (by omega), upd_n (by omega)]; exact f7
      all_goals rw [up_set, set_n (by omega)]
    refine pw_go okX0_setNodeMask (cc [(2, (w_hasNode o S)), (91, w_bit), (28, (w_linesBelow o (upd S (16 + 25 * j + 2) z))), (156, w_bitC)]) ⟨Nat.le_refl _, Nat.le_refl _⟩ (cc_c (fun Ag I K h => ⟨0, Nat.le_of_ble_eq_true rfl, x_hasNode hM h⟩) (cc_c (fun Ag I K h => ⟨0, Nat.le_of_ble_eq_true rfl, x_isBit6 h⟩) (cc_c (fun Ag I K h => ⟨0, Nat.le_of_ble_eq_true rfl, x_linesBelow hM h⟩) (cc_c (fun Ag I K h => ⟨0, Nat.le_of_ble_eq_true rfl, x_bitC h⟩) cc_n)))) (st0) 90 ?_
    simp only [↓f_vc_s, ↓vk_i, ↓cc_i, ↓reduceIte, f_vq_s, Bool.false_eq_true, ↓f_e_iconst, ↓f_e_bipush, ↓f_e_sipush, ↓f_e_ldc, ↓f_e_ldc_w, ↓f_e_iload_n, ↓f_e_iload, ↓f_e_aload_n, ↓f_e_aload, ↓f_e_istore_n, ↓f_e_istore, ↓f_e_astore_n, ↓f_e_astore, ↓f_e_iinc, ↓f_e_iadd, ↓f_e_isub, ↓f_e_imul, ↓f_e_iand, ↓f_e_ior, ↓f_e_ixor, ↓f_e_idiv, ↓f_e_irem, ↓f_e_ishl, ↓f_e_ishr, ↓f_e_iushr, ↓f_e_i2c, ↓f_e_dup, ↓f_e_dup2, ↓f_e_pop, ↓f_e_goto, ↓f_e_ifCond, ↓f_e_if_icmp, ↓f_e_tableswitch, ↓f_e_lookupswitch, ↓f_e_getfield_i, ↓f_e_getfield_r, ↓f_e_putfield_i, ↓f_e_putfield_z, ↓f_e_iaload, ↓f_e_caload, ↓f_e_aaload, ↓f_e_iastore, ↓f_e_castore, ↓f_e_arraylength, ↓f_e_invokestatic, ↓f_e_invokevirtual, ↓f_e_ireturn, ↓f_e_return_, ↓f_s_i_c, ↓f_s_r_c, ↓f_s_v_i, ↓f_s_v_r, ↓f_s_l_0, ↓s_l_1, ↓s_l_2, ↓s_l_3, ↓s_l_4, ↓s_l_5, ↓s_l_6, ↓s_a_0, ↓s_a_1, ↓s_a_2, ↓s_a_3, ↓s_m_0, ↓f_s_m_i, ↓f_s_m_r, ↓f_s_m_i7, ↓f_s_m_r7, ↓f_s_m_i6, ↓f_s_m_r6, ↓f_s_m_i5, ↓f_s_m_r5, ↓f_s_m_i4, ↓f_s_m_r4, ↓f_s_w_n, ↓f_s_w_c, ↓f_s_p_eq, ↓f_s_p_ne, ↓f_s_p_lt, ↓f_s_p_ge, ↓f_s_p_gt, ↓f_s_p_le, ↓nk_i, ↓nk_z, ↓nk_c, ↓rf_s, ↓ov_s, ↓ov_n, ↓fin0, ↓fin1, ↓fin2, ↓fin3, cond_true, cond_false, List.set_cons_zero, List.set_cons_succ, List.length_cons, List.length_nil, true_and, and_true, true_or, or_true, implies_true, forall_const, not_true_eq_false, not_false_eq_true, false_implies, Nat.reduceAdd, Nat.reduceLT, Nat.reduceBEq, Nat.reduceEqDiff, Bool.or_false, Bool.false_or, Bool.or_true, Bool.true_or, beq_self_eq_true, Nat.reduceLeDiff, Nat.reduceMul, Nat.reduceSub, eq_self, Nat.reduceBneDiff, st0_s, st1_s, st2_s, st3_s, reduceCtorEq, cc_0, tl_0, cl_0, il_0, tl_1, cl_1, il_1, tl_2, cl_2, il_2, tl_3, cl_3, il_3, tl_4, cl_4, il_4, tl_5, cl_5, il_5, tl_6, cl_6, il_6, tl_7, cl_7, il_7, tl_8, cl_8, il_8, tl_9, cl_9, il_9, tl_10, cl_10, il_10, tl_11, cl_11, il_11, tl_12, cl_12, il_12, tl_13, cl_13, il_13, tl_14, cl_14, il_14, tl_15, cl_15, il_15, tl_16, cl_16, il_16, tl_20, tl_21, tl_25, tl_32, tl_48, tl_50, tl_57, tl_58, tl_59, tl_60, tl_99, tl_100, tl_101, tl_108, tl_109, tl_116, tl_120, tl_126, tl_374, tl_1122, tl_50000, i10, i01, tl_m1, tl_m2, tl_m3, tl_m4, nr_X0_setNodeMask, tX0_setNodeMask_0, tX0_setNodeMask_1, tX0_setNodeMask_2, tX0_setNodeMask_5, tX0_setNodeMask_8, tX0_setNodeMask_9, tX0_setNodeMask_12, tX0_setNodeMask_15, tX0_setNodeMask_16, tX0_setNodeMask_17, tX0_setNodeMask_18, tX0_setNodeMask_21, tX0_setNodeMask_22, tX0_setNodeMask_23, tX0_setNodeMask_24, tX0_setNodeMask_25, tX0_setNodeMask_26, tX0_setNodeMask_29, tX0_setNodeMask_31, tX0_setNodeMask_32, tX0_setNodeMask_33, tX0_setNodeMask_34, tX0_setNodeMask_37, tX0_setNodeMask_38, tX0_setNodeMask_39, tX0_setNodeMask_40, tX0_setNodeMask_41, tX0_setNodeMask_44, tX0_setNodeMask_45, tX0_setNodeMask_46, tX0_setNodeMask_49, tX0_setNodeMask_52, pw_QK_s, b0, rF.2.2.1, ↓w_hasNode, ↓w_bit, ↓w_linesBelow, ↓w_bitC]
    rw [bit6 hj]
    have hd : ((if (S (16 + 25 * j + 2) == 1) = true then (1 : Int32) else 0) = z) ↔ S (16 + 25 * j + 2) = z := by
      rcases hb with z1 | z1
      · rw [z1, if_neg (by decide)]
      · rw [z1, if_pos (by decide)]
    rw [hd]
    refine ⟨rF, fun _ => ⟨fun _ => ⟨fun q => ⟨hI2, fin q, j, rfl, hj, ?_⟩, hB⟩, fun q => absurd hy q⟩, fun q => absurd hl q⟩
    rw [bc_bv (setF_16 v4)]
    exact hC q _ brdOK.up (fin q)
  · exact h.elim
def w_errL (b : Nat) (S : Nat → Int32) : pw_Wp := fun Ag I K => match Ag with
  | [.ref o, .int x, .int z] => o = b ∧ I b 3 = S 4 ∧ ¬ (okLine S x ∧ bit01 z) ∧ K (some (.int (-1))) I
  | _ => False
set_option maxRecDepth 100000 in
set_option maxHeartbeats 4000000 in
theorem x_setLineMaskE (hM : pw_brd sh P b) (h : w_errL b S Ag I K) : pw_ok mX0_setLineMask 2 base n sh P Ag I K := by
  unfold w_errL at h
  split at h
  · rename_i o x z
    obtain ⟨rfl, h4, hE, hA⟩ := h
    have b0 := hM.1
    refine pw_bd [_, _, _] pl_X0 c_rii rfl rfl ?_
    refine pw_go okX0_setLineMask (cc [(3, (w_hasLine o S)), (91, w_bit)]) ⟨Nat.le_refl _, Nat.le_refl _⟩ (cc_c (fun Ag I K h => ⟨0, Nat.le_of_ble_eq_true rfl, x_hasLine hM h⟩) (cc_c (fun Ag I K h => ⟨0, Nat.le_of_ble_eq_true rfl, x_isBit6 h⟩) cc_n)) (st1 17) 90 ?_
    simp only [↓f_vc_s, ↓vk_i, ↓cc_i, ↓reduceIte, f_vq_s, Bool.false_eq_true, ↓f_e_iconst, ↓f_e_bipush, ↓f_e_sipush, ↓f_e_ldc, ↓f_e_ldc_w, ↓f_e_iload_n, ↓f_e_iload, ↓f_e_aload_n, ↓f_e_aload, ↓f_e_istore_n, ↓f_e_istore, ↓f_e_astore_n, ↓f_e_astore, ↓f_e_iinc, ↓f_e_iadd, ↓f_e_isub, ↓f_e_imul, ↓f_e_iand, ↓f_e_ior, ↓f_e_ixor, ↓f_e_idiv, ↓f_e_irem, ↓f_e_ishl, ↓f_e_ishr, ↓f_e_iushr, ↓f_e_i2c, ↓f_e_dup, ↓f_e_dup2, ↓f_e_pop, ↓f_e_goto, ↓f_e_ifCond, ↓f_e_if_icmp, ↓f_e_tableswitch, ↓f_e_lookupswitch, ↓f_e_getfield_i, ↓f_e_getfield_r, ↓f_e_putfield_i, ↓f_e_putfield_z, ↓f_e_iaload, ↓f_e_caload, ↓f_e_aaload, ↓f_e_iastore, ↓f_e_castore, ↓f_e_arraylength, ↓f_e_invokestatic, ↓f_e_invokevirtual, ↓f_e_ireturn, ↓f_e_return_, ↓f_s_i_c, ↓f_s_r_c, ↓f_s_v_i, ↓f_s_v_r, ↓f_s_l_0, ↓s_l_1, ↓s_l_2, ↓s_l_3, ↓s_l_4, ↓s_l_5, ↓s_l_6, ↓s_a_0, ↓s_a_1, ↓s_a_2, ↓s_a_3, ↓s_m_0, ↓f_s_m_i, ↓f_s_m_r, ↓f_s_m_i7, ↓f_s_m_r7, ↓f_s_m_i6, ↓f_s_m_r6, ↓f_s_m_i5, ↓f_s_m_r5, ↓f_s_m_i4, ↓f_s_m_r4, ↓f_s_w_n, ↓f_s_w_c, ↓f_s_p_eq, ↓f_s_p_ne, ↓f_s_p_lt, ↓f_s_p_ge, ↓f_s_p_gt, ↓f_s_p_le, ↓nk_i, ↓nk_z, ↓nk_c, ↓rf_s, ↓ov_s, ↓ov_n, ↓fin0, ↓fin1, ↓fin2, ↓fin3, cond_true, cond_false, List.set_cons_zero, List.set_cons_succ, List.length_cons, List.length_nil, true_and, and_true, true_or, or_true, implies_true, forall_const, not_true_eq_false, not_false_eq_true, false_implies, Nat.reduceAdd, Nat.reduceLT, Nat.reduceBEq, Nat.reduceEqDiff, Bool.or_false, Bool.false_or, Bool.or_true, Bool.true_or, beq_self_eq_true, Nat.reduceLeDiff, Nat.reduceMul, Nat.reduceSub, eq_self, Nat.reduceBneDiff, st0_s, st1_s, st2_s, st3_s, reduceCtorEq, cc_0, tl_0, cl_0, il_0, tl_1, cl_1, il_1, tl_2, cl_2, il_2, tl_3, cl_3, il_3, tl_4, cl_4, il_4, tl_5, cl_5, il_5, tl_6, cl_6, il_6, tl_7, cl_7, il_7, tl_8, cl_8, il_8, tl_9, cl_9, il_9, tl_10, cl_10, il_10, tl_11, cl_11, il_11, tl_12, cl_12, il_12, tl_13, cl_13, il_13, tl_14, cl_14, il_14, tl_15, cl_15, il_15, tl_16, cl_16, il_16, tl_20, tl_21, tl_25, tl_32, tl_48, tl_50, tl_57, tl_58, tl_59, tl_60, tl_99, tl_100, tl_101, tl_108, tl_109, tl_116, tl_120, tl_126, tl_374, tl_1122, tl_50000, i10, i01, tl_m1, tl_m2, tl_m3, tl_m4, nr_X0_setLineMask, tX0_setLineMask_0, tX0_setLineMask_1, tX0_setLineMask_2, tX0_setLineMask_5, tX0_setLineMask_8, tX0_setLineMask_9, tX0_setLineMask_12, tX0_setLineMask_15, tX0_setLineMask_16, tX0_setLineMask_17, tX0_setLineMask_18, tX0_setLineMask_21, tX0_setLineMask_22, tX0_setLineMask_23, tX0_setLineMask_26, tX0_setLineMask_27, tX0_setLineMask_28, tX0_setLineMask_31, tX0_setLineMask_32, tX0_setLineMask_35, tX0_setLineMask_36, tX0_setLineMask_39, tX0_setLineMask_41, tX0_setLineMask_42, tX0_setLineMask_43, tX0_setLineMask_46, tX0_setLineMask_47, tX0_setLineMask_48, tX0_setLineMask_49, tX0_setLineMask_50, tX0_setLineMask_53, tX0_setLineMask_54, tX0_setLineMask_57, tX0_setLineMask_58, tX0_setLineMask_61, tX0_setLineMask_62, tX0_setLineMask_65, tX0_setLineMask_68, pw_QK_s, b0, h4, ↓w_hasLine, ↓w_bit]
    exact ⟨fun q => ⟨fun q2 => absurd ⟨q, q2⟩ hE, fun _ => hA⟩, fun _ => hA⟩
  · exact h.elim
set_option maxRecDepth 100000 in
set_option maxHeartbeats 4000000 in
theorem x_setLevelE (hM : pw_brd sh P b) (h : w_errL b S Ag I K) : pw_ok mX0_setLevel 2 base n sh P Ag I K := by
  unfold w_errL at h
  split at h
  · rename_i o x z
    obtain ⟨rfl, h4, hE, hA⟩ := h
    have b0 := hM.1
    refine pw_bd [_, _, _, _] pl_X0 c_rii rfl rfl ?_
    refine pw_go okX0_setLevel (cc [(3, (w_hasLine o S)), (91, w_bit)]) ⟨Nat.le_refl _, Nat.le_refl _⟩ (cc_c (fun Ag I K h => ⟨0, Nat.le_of_ble_eq_true rfl, x_hasLine hM h⟩) (cc_c (fun Ag I K h => ⟨0, Nat.le_of_ble_eq_true rfl, x_isBit6 h⟩) cc_n)) (st1 17) 90 ?_
    simp only [↓f_vc_s, ↓vk_i, ↓cc_i, ↓reduceIte, f_vq_s, Bool.false_eq_true, ↓f_e_iconst, ↓f_e_bipush, ↓f_e_sipush, ↓f_e_ldc, ↓f_e_ldc_w, ↓f_e_iload_n, ↓f_e_iload, ↓f_e_aload_n, ↓f_e_aload, ↓f_e_istore_n, ↓f_e_istore, ↓f_e_astore_n, ↓f_e_astore, ↓f_e_iinc, ↓f_e_iadd, ↓f_e_isub, ↓f_e_imul, ↓f_e_iand, ↓f_e_ior, ↓f_e_ixor, ↓f_e_idiv, ↓f_e_irem, ↓f_e_ishl, ↓f_e_ishr, ↓f_e_iushr, ↓f_e_i2c, ↓f_e_dup, ↓f_e_dup2, ↓f_e_pop, ↓f_e_goto, ↓f_e_ifCond, ↓f_e_if_icmp, ↓f_e_tableswitch, ↓f_e_lookupswitch, ↓f_e_getfield_i, ↓f_e_getfield_r, ↓f_e_putfield_i, ↓f_e_putfield_z, ↓f_e_iaload, ↓f_e_caload, ↓f_e_aaload, ↓f_e_iastore, ↓f_e_castore, ↓f_e_arraylength, ↓f_e_invokestatic, ↓f_e_invokevirtual, ↓f_e_ireturn, ↓f_e_return_, ↓f_s_i_c, ↓f_s_r_c, ↓f_s_v_i, ↓f_s_v_r, ↓f_s_l_0, ↓s_l_1, ↓s_l_2, ↓s_l_3, ↓s_l_4, ↓s_l_5, ↓s_l_6, ↓s_a_0, ↓s_a_1, ↓s_a_2, ↓s_a_3, ↓s_m_0, ↓f_s_m_i, ↓f_s_m_r, ↓f_s_m_i7, ↓f_s_m_r7, ↓f_s_m_i6, ↓f_s_m_r6, ↓f_s_m_i5, ↓f_s_m_r5, ↓f_s_m_i4, ↓f_s_m_r4, ↓f_s_w_n, ↓f_s_w_c, ↓f_s_p_eq, ↓f_s_p_ne, ↓f_s_p_lt, ↓f_s_p_ge, ↓f_s_p_gt, ↓f_s_p_le, ↓nk_i, ↓nk_z, ↓nk_c, ↓rf_s, ↓ov_s, ↓ov_n, ↓fin0, ↓fin1, ↓fin2, ↓fin3, cond_true, cond_false, List.set_cons_zero, List.set_cons_succ, List.length_cons, List.length_nil, true_and, and_true, true_or, or_true, implies_true, forall_const, not_true_eq_false, not_false_eq_true, false_implies, Nat.reduceAdd, Nat.reduceLT, Nat.reduceBEq, Nat.reduceEqDiff, Bool.or_false, Bool.false_or, Bool.or_true, Bool.true_or, beq_self_eq_true, Nat.reduceLeDiff, Nat.reduceMul, Nat.reduceSub, eq_self, Nat.reduceBneDiff, st0_s, st1_s, st2_s, st3_s, reduceCtorEq, cc_0, tl_0, cl_0, il_0, tl_1, cl_1, il_1, tl_2, cl_2, il_2, tl_3, cl_3, il_3, tl_4, cl_4, il_4, tl_5, cl_5, il_5, tl_6, cl_6, il_6, tl_7, cl_7, il_7, tl_8, cl_8, il_8, tl_9, cl_9, il_9, tl_10, cl_10, il_10, tl_11, cl_11, il_11, tl_12, cl_12, il_12, tl_13, cl_13, il_13, tl_14, cl_14, il_14, tl_15, cl_15, il_15, tl_16, cl_16, il_16, tl_20, tl_21, tl_25, tl_32, tl_48, tl_50, tl_57, tl_58, tl_59, tl_60, tl_99, tl_100, tl_101, tl_108, tl_109, tl_116, tl_120, tl_126, tl_374, tl_1122, tl_50000, i10, i01, tl_m1, tl_m2, tl_m3, tl_m4, nr_X0_setLevel, tX0_setLevel_0, tX0_setLevel_1, tX0_setLevel_2, tX0_setLevel_5, tX0_setLevel_8, tX0_setLevel_9, tX0_setLevel_12, tX0_setLevel_15, tX0_setLevel_16, tX0_setLevel_17, tX0_setLevel_18, tX0_setLevel_21, tX0_setLevel_22, tX0_setLevel_23, tX0_setLevel_24, tX0_setLevel_25, tX0_setLevel_28, tX0_setLevel_31, tX0_setLevel_32, tX0_setLevel_35, tX0_setLevel_36, tX0_setLevel_37, tX0_setLevel_40, tX0_setLevel_41, tX0_setLevel_44, tX0_setLevel_45, tX0_setLevel_48, tX0_setLevel_50, tX0_setLevel_51, tX0_setLevel_52, tX0_setLevel_53, tX0_setLevel_54, tX0_setLevel_57, tX0_setLevel_58, tX0_setLevel_61, tX0_setLevel_62, tX0_setLevel_65, tX0_setLevel_66, tX0_setLevel_69, tX0_setLevel_72, pw_QK_s, b0, h4, ↓w_hasLine, ↓w_bit]
    exact ⟨fun q => ⟨fun q2 => absurd ⟨q, q2⟩ hE, fun _ => hA⟩, fun _ => hA⟩
  · exact h.elim
def w_errN (b : Nat) (S : Nat → Int32) : pw_Wp := fun Ag I K => match Ag with
  | [.ref o, .int x, .int z] => o = b ∧ relF I b S ∧ ¬ (okNode S x ∧ bit01 z) ∧ K (some (.int (-1))) I
  | _ => False
set_option maxRecDepth 100000 in
set_option maxHeartbeats 4000000 in
theorem x_setNodeMaskE (hM : pw_brd sh P b) (h : w_errN b S Ag I K) : pw_ok mX0_setNodeMask 1 base n sh P Ag I K := by
  unfold w_errN at h
  split at h
  · rename_i o x z
    obtain ⟨rfl, rF, hE, hA⟩ := h
    have b0 := hM.1
    refine pw_bd [_, _, _] pl_X0 c_rii rfl rfl ?_
    refine pw_go okX0_setNodeMask (cc [(2, (w_hasNode o S)), (91, w_bit)]) ⟨Nat.le_refl _, Nat.le_refl _⟩ (cc_c (fun Ag I K h => ⟨0, Nat.le_of_ble_eq_true rfl, x_hasNode hM h⟩) (cc_c (fun Ag I K h => ⟨0, Nat.le_of_ble_eq_true rfl, x_isBit6 h⟩) cc_n)) (st1 17) 90 ?_
    simp only [↓f_vc_s, ↓vk_i, ↓cc_i, ↓reduceIte, f_vq_s, Bool.false_eq_true, ↓f_e_iconst, ↓f_e_bipush, ↓f_e_sipush, ↓f_e_ldc, ↓f_e_ldc_w, ↓f_e_iload_n, ↓f_e_iload, ↓f_e_aload_n, ↓f_e_aload, ↓f_e_istore_n, ↓f_e_istore, ↓f_e_astore_n, ↓f_e_astore, ↓f_e_iinc, ↓f_e_iadd, ↓f_e_isub, ↓f_e_imul, ↓f_e_iand, ↓f_e_ior, ↓f_e_ixor, ↓f_e_idiv, ↓f_e_irem, ↓f_e_ishl, ↓f_e_ishr, ↓f_e_iushr, ↓f_e_i2c, ↓f_e_dup, ↓f_e_dup2, ↓f_e_pop, ↓f_e_goto, ↓f_e_ifCond, ↓f_e_if_icmp, ↓f_e_tableswitch, ↓f_e_lookupswitch, ↓f_e_getfield_i, ↓f_e_getfield_r, ↓f_e_putfield_i, ↓f_e_putfield_z, ↓f_e_iaload, ↓f_e_caload, ↓f_e_aaload, ↓f_e_iastore, ↓f_e_castore, ↓f_e_arraylength, ↓f_e_invokestatic, ↓f_e_invokevirtual, ↓f_e_ireturn, ↓f_e_return_, ↓f_s_i_c, ↓f_s_r_c, ↓f_s_v_i, ↓f_s_v_r, ↓f_s_l_0, ↓s_l_1, ↓s_l_2, ↓s_l_3, ↓s_l_4, ↓s_l_5, ↓s_l_6, ↓s_a_0, ↓s_a_1, ↓s_a_2, ↓s_a_3, ↓s_m_0, ↓f_s_m_i, ↓f_s_m_r, ↓f_s_m_i7, ↓f_s_m_r7, ↓f_s_m_i6, ↓f_s_m_r6, ↓f_s_m_i5, ↓f_s_m_r5, ↓f_s_m_i4, ↓f_s_m_r4, ↓f_s_w_n, ↓f_s_w_c, ↓f_s_p_eq, ↓f_s_p_ne, ↓f_s_p_lt, ↓f_s_p_ge, ↓f_s_p_gt, ↓f_s_p_le, ↓nk_i, ↓nk_z, ↓nk_c, ↓rf_s, ↓ov_s, ↓ov_n, ↓fin0, ↓fin1, ↓fin2, ↓fin3, cond_true, cond_false, List.set_cons_zero, List.set_cons_succ, List.length_cons, List.length_nil, true_and, and_true, true_or, or_true, implies_true, forall_const, not_true_eq_false, not_false_eq_true, false_implies, Nat.reduceAdd, Nat.reduceLT, Nat.reduceBEq, Nat.reduceEqDiff, Bool.or_false, Bool.false_or, Bool.or_true, Bool.true_or, beq_self_eq_true, Nat.reduceLeDiff, Nat.reduceMul, Nat.reduceSub, eq_self, Nat.reduceBneDiff, st0_s, st1_s, st2_s, st3_s, reduceCtorEq, cc_0, tl_0, cl_0, il_0, tl_1, cl_1, il_1, tl_2, cl_2, il_2, tl_3, cl_3, il_3, tl_4, cl_4, il_4, tl_5, cl_5, il_5, tl_6, cl_6, il_6, tl_7, cl_7, il_7, tl_8, cl_8, il_8, tl_9, cl_9, il_9, tl_10, cl_10, il_10, tl_11, cl_11, il_11, tl_12, cl_12, il_12, tl_13, cl_13, il_13, tl_14, cl_14, il_14, tl_15, cl_15, il_15, tl_16, cl_16, il_16, tl_20, tl_21, tl_25, tl_32, tl_48, tl_50, tl_57, tl_58, tl_59, tl_60, tl_99, tl_100, tl_101, tl_108, tl_109, tl_116, tl_120, tl_126, tl_374, tl_1122, tl_50000, i10, i01, tl_m1, tl_m2, tl_m3, tl_m4, nr_X0_setNodeMask, tX0_setNodeMask_0, tX0_setNodeMask_1, tX0_setNodeMask_2, tX0_setNodeMask_5, tX0_setNodeMask_8, tX0_setNodeMask_9, tX0_setNodeMask_12, tX0_setNodeMask_15, tX0_setNodeMask_16, tX0_setNodeMask_17, tX0_setNodeMask_18, tX0_setNodeMask_21, tX0_setNodeMask_22, tX0_setNodeMask_23, tX0_setNodeMask_24, tX0_setNodeMask_25, tX0_setNodeMask_26, tX0_setNodeMask_29, tX0_setNodeMask_31, tX0_setNodeMask_32, tX0_setNodeMask_33, tX0_setNodeMask_34, tX0_setNodeMask_37, tX0_setNodeMask_38, tX0_setNodeMask_39, tX0_setNodeMask_40, tX0_setNodeMask_41, tX0_setNodeMask_44, tX0_setNodeMask_45, tX0_setNodeMask_46, tX0_setNodeMask_49, tX0_setNodeMask_52, pw_QK_s, b0, ↓w_hasNode, ↓w_bit]
    exact ⟨rF, fun q => ⟨fun q2 => absurd ⟨q, q2⟩ hE, fun _ => hA⟩, fun _ => hA⟩
  · exact h.elim
end NMK
