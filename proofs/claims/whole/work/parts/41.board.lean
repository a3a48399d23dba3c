/-! Math.max; the class's board, and what of the row it holds -/
theorem mx_w : Cond.static Lib.Math.max.name ∈ pw_T ∧ Cond.initialized "java/lang/Math" ∈ pw_T ∧ Cond.code Lib.Math.max.name Lib.Math.max.code 2 (some .int) ∈ pw_T := ⟨pw_inT (by decide +kernel), pw_inT (by decide +kernel), pw_inT (by decide +kernel)⟩
theorem PW.mmax {g : pw_g} {n : Nat} {sh : pw_Sh} {P : pw_P} {I : pw_I} {uc us pc idx : Nat} {L : List (Option Value)} {x y : Int32} {r : List Value} {Q : pw_Q} (hk : Cond.methodLink g.1.1.cls idx Lib.Math.max.name ∈ pw_T) (hf : 1 ≤ g.2.1) (hu : uc ≤ g.2.2.1 ∧ us ≤ g.2.2.2.1) (hm : s_m 8 r)
    (hdg : decode g.1.2.1 pc = .ok (.invokestatic idx, 3)) (kk : PW g n sh P I uc us (pc + 3) L (.int (if x < y then y else x) :: r) Q) : PW g n sh P I uc us pc L (.int y :: .int x :: r) Q := by
  intro p l e R s m args below meth c H locs cells slots D dA ls Qf C hW hS hls hc hs hr
  obtain ⟨hx, hb, hrt, hml, hown, hts, hlk, hK, hin, ⟨r1, r2, r3, r4⟩, hbs, hX⟩ := id C
  have h8 := s_m_of hm
  exact va_mmax hx hb (hml.trans hls.1.symm) hown (hts _ hk) (hts _ mx_w.1) (hts _ mx_w.2.1) (hts _ mx_w.2.2) (by omega) (by omega) (by omega) (by omega) hdg
    (kk p l e R s m args below meth c H locs cells slots D dA ls Qf C hW hS hls hc hs hr)
theorem mx_lowest : Cond.methodLink RX0 154 Lib.Math.max.name ∈ pw_T := pw_inT (by decide +kernel)
theorem dc_lowest : decode mX0_lowestRank.2.1 40 = .ok (.invokestatic 154, 3) := by
  have h := (okX0_lowestRank 40).resolve_left (fun h => by rw [tX0_lowestRank_40] at h; cases h)
  rw [tX0_lowestRank_40] at h
  exact h.1
/-- a board at b: itself, its nodes, lines and rows -/
def pw_brd (sh : pw_Sh) (P : pw_P) (b : Nat) : Prop := sh b = (0, 0) ∧ (P b 0 = some (b + 1) ∧ sh (b + 1) = (10, 6)) ∧ (∀ j, j < 6 → (P (b + 1) j = some (b + 2 + 3 * j) ∧ sh (b + 2 + 3 * j) = (4, 0)) ∧ P (b + 2 + 3 * j) 0 = some (b + 3 + 3 * j) ∧ pw_row sh P (b + 3 + 3 * j) (b + 4 + 3 * j)) ∧
  (P b 1 = some (b + 20) ∧ sh (b + 20) = (11, 16)) ∧ (∀ k, k < 16 → P (b + 20) k = some (b + 21 + k) ∧ sh (b + 21 + k) = (3, 0)) ∧ (P b 9 = some (b + 37) ∧ pw_row sh P (b + 37) (b + 38)) ∧ (P b 10 = some (b + 39) ∧ pw_row sh P (b + 39) (b + 40)) ∧ P b 11 = some (b + 41) ∧ sh (b + 41) = (8, 6)
/-- who waits, first the one whose acknowledge comes first -/
def earlS (S : Nat → Int32) (a c : Nat) : Prop := S (166 + 13 * a + 11) < S (166 + 13 * c + 11) ∨ (S (166 + 13 * a + 11) = S (166 + 13 * c + 11) ∧ S (166 + 13 * a + 12) < S (166 + 13 * c + 12))
def waitOK (S : Nat → Int32) (W : List Nat) : Prop := W.Nodup ∧ (∀ k, k ∈ W ↔ k < vN S 4 ∧ S (166 + 13 * k + 4) = 2) ∧ W.Pairwise (earlS S)
def wayF (S : Nat → Int32) (j : Nat) : Int32 := if j < vN S 3 then setF (fun i => (wayS S j).contains i) 6 else 0
def relF (I : pw_I) (b : Nat) (S : Nat → Int32) : Prop := I b 2 = S 3 ∧ I b 3 = S 4 ∧ I b 4 = setF (fun j => S (16 + 25 * j + 2) == 1) 6 ∧ I b 5 = S 0 ∧ I b 6 = S 1 ∧ I b 7 = S 2 ∧ I b 8 = S 9
def relN (I : pw_I) (b : Nat) (S : Nat → Int32) (j : Nat) : Prop := I (b + 2 + 3 * j) 1 = S (16 + 25 * j) ∧ I (b + 2 + 3 * j) 2 = S (16 + 25 * j + 1) ∧ I (b + 2 + 3 * j) 3 = wayF S j ∧ I (b + 3 + 3 * j) 1 = S (16 + 25 * j + 3) ∧ ∀ i, i < cntS S j → I (b + 4 + 3 * j) i = S (16 + 25 * j + 4 + i)
def relL (I : pw_I) (b : Nat) (S : Nat → Int32) (k : Nat) : Prop := I (b + 21 + k) 0 = S (166 + 13 * k) ∧ I (b + 21 + k) 1 = S (166 + 13 * k + 1) ∧ I (b + 21 + k) 2 = S (166 + 13 * k + 2) ∧ I (b + 21 + k) 3 = S (166 + 13 * k + 3) ∧ I (b + 21 + k) 4 = S (166 + 13 * k + 5) ∧ I (b + 21 + k) 5 = S (166 + 13 * k + 4) ∧
  I (b + 21 + k) 6 = S (166 + 13 * k + 6) ∧ I (b + 21 + k) 7 = S (166 + 13 * k + 7) ∧ I (b + 21 + k) 8 = S (166 + 13 * k + 8) ∧ I (b + 21 + k) 9 = S (166 + 13 * k + 9) ∧ I (b + 21 + k) 10 = S (166 + 13 * k + 10) ∧ I (b + 21 + k) 11 = S (166 + 13 * k + 11)
def relS (I : pw_I) (b : Nat) (S : Nat → Int32) : Prop := I (b + 37) 1 = S 10 ∧ ∀ i, i < vN S 10 → I (b + 38) i = S (11 + i)
def relW (I : pw_I) (b : Nat) (S : Nat → Int32) : Prop := ∃ W : List Nat, I (b + 39) 1 = nI W.length ∧ (∀ i k, W[i]? = some k → I (b + 40) i = nI k) ∧ waitOK S W
/-- a line's way is its node's -/
def relY (I : pw_I) (b : Nat) (S : Nat → Int32) : Prop := ∀ k, k < vN S 4 → k < 16 ∧ vN S (166 + 13 * k) < 6 ∧ I (b + 21 + k) 12 = I (b + 2 + 3 * vN S (166 + 13 * k)) 3
/-- the board at b holds the row S -/
def RelB (I : pw_I) (b : Nat) (S : Nat → Int32) : Prop := relF I b S ∧ (∀ j, j < 6 → relN I b S j) ∧ (∀ k, k < 16 → relL I b S k) ∧ relS I b S ∧ relY I b S ∧ relW I b S
theorem relY.to {I J : pw_I} {b : Nat} {S S' : Nat → Int32} (h : relY I b S) (m : ∀ k, k < 16 → J (b + 21 + k) 12 = I (b + 21 + k) 12) (mn : ∀ j, j < 6 → J (b + 2 + 3 * j) 3 = I (b + 2 + 3 * j) 3) (e4 : S' 4 = S 4) (e : ∀ k, k < 16 → S' (166 + 13 * k) = S (166 + 13 * k)) : relY J b S' := by
  intro k hk
  have v4 : vN S' 4 = vN S 4 := by unfold vN; rw [e4]
  rw [v4] at hk
  obtain ⟨h1, h2, h3⟩ := h k hk
  have vk : vN S' (166 + 13 * k) = vN S (166 + 13 * k) := by unfold vN; rw [e k h1]
  rw [vk]
  exact ⟨h1, h2, (m k h1).trans (h3.trans (mn _ h2).symm)⟩
theorem RelB.way {I : pw_I} {b k : Nat} {S : Nat → Int32} (h : RelB I b S) (hk : k < vN S 4) : I (b + 21 + k) 12 = wayF S (vN S (166 + 13 * k)) := by
  obtain ⟨-, hN, -, -, hY, -⟩ := h
  obtain ⟨h1, h2, h3⟩ := hY k hk
  exact h3.trans (hN _ h2).2.2.1
/-- two sets of nodes meet -/
theorem set6 {p q : Nat → Bool} : (setF p 6 &&& setF q 6 = 0) ↔ ∀ i, i < 6 → (p i && q i) = false := by
  have key : ∀ a0 a1 a2 a3 a4 a5 b0 b1 b2 b3 b4 b5 : Bool, (setF (fun i => match i with | 0 => a0 | 1 => a1 | 2 => a2 | 3 => a3 | 4 => a4 | _ => a5) 6 &&& setF (fun i => match i with | 0 => b0 | 1 => b1 | 2 => b2 | 3 => b3 | 4 => b4 | _ => b5) 6 == 0) = (!(a0 && b0) && !(a1 && b1) && !(a2 && b2) && !(a3 && b3) && !(a4 && b4) && !(a5 && b5)) := by decide +kernel
  have h := key (p 0) (p 1) (p 2) (p 3) (p 4) (p 5) (q 0) (q 1) (q 2) (q 3) (q 4) (q 5)
  have hp : setF (fun i => match i with | 0 => p 0 | 1 => p 1 | 2 => p 2 | 3 => p 3 | 4 => p 4 | _ => p 5) 6 = setF p 6 := rfl
  have hq : setF (fun i => match i with | 0 => q 0 | 1 => q 1 | 2 => q 2 | 3 => q 3 | 4 => q 4 | _ => q 5) 6 = setF q 6 := rfl
  rw [hp, hq] at h
  constructor
  · intro e
    rw [e] at h
    have h := h.symm
    simp only [beq_self_eq_true, Bool.and_eq_true, Bool.not_eq_true'] at h
    obtain ⟨⟨⟨⟨⟨h0, h1⟩, h2⟩, h3⟩, h4⟩, h5⟩ := h
    intro i hi
    have : i = 0 ∨ i = 1 ∨ i = 2 ∨ i = 3 ∨ i = 4 ∨ i = 5 := by omega
    rcases this with rfl | rfl | rfl | rfl | rfl | rfl <;> assumption
  · intro e
    rw [e 0 (by omega), e 1 (by omega), e 2 (by omega), e 3 (by omega), e 4 (by omega), e 5 (by omega)] at h
    exact beq_iff_eq.mp h
theorem way_le {S : Nat → Int32} (h : InvB S) : ∀ j, j < 6 → ∀ x ∈ wayS S j, x ≤ j := by
  intro j
  induction j using Nat.strongRecOn with
  | ind j ih =>
    intro hj x hx
    rcases Nat.eq_zero_or_pos j with e | e
    · subst e
      rw [wayS_0, List.mem_singleton] at hx
      omega
    · rw [wayS_s h e hj, List.mem_cons] at hx
      have := h.on j e hj
      rcases hx with z | z
      · omega
      · have := ih _ this (by omega) x z
        omega
section BRD
variable {n base b : Nat} {sh : pw_Sh} {P : pw_P} {Ag : List Value} {I : pw_I} {S : Nat → Int32} {K : Option Value → pw_I → Prop}
def w_hasNode (b : Nat) (S : Nat → Int32) : pw_Wp := fun Ag I K => match Ag with
  | [.ref o, .int x] => o = b ∧ relF I b S ∧ (0 ≤ x.toInt ∧ x.toInt < (S 3).toInt → K (some (.int 1)) I) ∧ (¬ (0 ≤ x.toInt ∧ x.toInt < (S 3).toInt) → K (some (.int 0)) I)
  | _ => False
set_option maxRecDepth 100000 in
set_option maxHeartbeats 4000000 in
theorem x_hasNode (hM : pw_brd sh P b) (h : w_hasNode b S Ag I K) : pw_ok mX0_hasNode 0 base n sh P Ag I K := by
  unfold w_hasNode at h
  split at h
  · rename_i o x
    obtain ⟨rfl, hF, hA, hB⟩ := h
    refine pw_bd [_, _] pl_X0 c_ri rfl rfl ?_
    refine pw_go okX0_hasNode (cc []) ⟨Nat.le_refl _, Nat.le_refl _⟩ cc_n (st0) 60 ?_
    simp only [↓f_vc_s, ↓vk_i, ↓cc_i, ↓reduceIte, f_vq_s, Bool.false_eq_true, ↓f_e_iconst, ↓f_e_bipush, ↓f_e_sipush, ↓f_e_ldc, ↓f_e_ldc_w, ↓f_e_iload_n, ↓f_e_iload, ↓f_e_aload_n, ↓f_e_aload, ↓f_e_istore_n, ↓f_e_istore, ↓f_e_astore_n, ↓f_e_astore, ↓f_e_iinc, ↓f_e_iadd, ↓f_e_isub, ↓f_e_imul, ↓f_e_iand, ↓f_e_ior, ↓f_e_ixor, ↓f_e_idiv, ↓f_e_irem, ↓f_e_ishl, ↓f_e_ishr, ↓f_e_iushr, ↓f_e_i2c, ↓f_e_dup, ↓f_e_dup2, ↓f_e_pop, ↓f_e_goto, ↓f_e_ifCond, ↓f_e_if_icmp, ↓f_e_tableswitch, ↓f_e_lookupswitch, ↓f_e_getfield_i, ↓f_e_getfield_r, ↓f_e_putfield_i, ↓f_e_putfield_z, ↓f_e_iaload, ↓f_e_caload, ↓f_e_aaload, ↓f_e_iastore, ↓f_e_castore, ↓f_e_arraylength, ↓f_e_invokestatic, ↓f_e_invokevirtual, ↓f_e_ireturn, ↓f_e_return_, ↓f_s_i_c, ↓f_s_r_c, ↓f_s_v_i, ↓f_s_v_r, ↓f_s_l_0, ↓s_l_1, ↓s_l_2, ↓s_l_3, ↓s_l_4, ↓s_l_5, ↓s_l_6, ↓s_a_0, ↓s_a_1, ↓s_a_2, ↓s_a_3, ↓s_m_0, ↓f_s_m_i, ↓f_s_m_r, ↓f_s_m_i7, ↓f_s_m_r7, ↓f_s_m_i6, ↓f_s_m_r6, ↓f_s_m_i5, ↓f_s_m_r5, ↓f_s_m_i4, ↓f_s_m_r4, ↓f_s_w_n, ↓f_s_w_c, ↓f_s_p_eq, ↓f_s_p_ne, ↓f_s_p_lt, ↓f_s_p_ge, ↓f_s_p_gt, ↓f_s_p_le, ↓nk_i, ↓nk_z, ↓nk_c, ↓rf_s, ↓ov_s, ↓ov_n, ↓fin0, ↓fin1, ↓fin2, ↓fin3, cond_true, cond_false, List.set_cons_zero, List.set_cons_succ, List.length_cons, List.length_nil, true_and, and_true, true_or, or_true, implies_true, forall_const, not_true_eq_false, not_false_eq_true, false_implies, Nat.reduceAdd, Nat.reduceLT, Nat.reduceBEq, Nat.reduceEqDiff, Bool.or_false, Bool.false_or, Bool.or_true, Bool.true_or, beq_self_eq_true, Nat.reduceLeDiff, Nat.reduceMul, Nat.reduceSub, eq_self, Nat.reduceBneDiff, st0_s, st1_s, st2_s, st3_s, reduceCtorEq, cc_0, tl_0, cl_0, il_0, tl_1, cl_1, il_1, tl_2, cl_2, il_2, tl_3, cl_3, il_3, tl_4, cl_4, il_4, tl_5, cl_5, il_5, tl_6, cl_6, il_6, tl_7, cl_7, il_7, tl_8, cl_8, il_8, tl_9, cl_9, il_9, tl_10, cl_10, il_10, tl_11, cl_11, il_11, tl_12, cl_12, il_12, tl_13, cl_13, il_13, tl_14, cl_14, il_14, tl_15, cl_15, il_15, tl_16, cl_16, il_16, tl_20, tl_21, tl_25, tl_32, tl_48, tl_50, tl_57, tl_58, tl_59, tl_60, tl_99, tl_100, tl_101, tl_108, tl_109, tl_116, tl_120, tl_126, tl_374, tl_1122, tl_50000, i10, i01, tl_m1, tl_m2, tl_m3, tl_m4, nr_X0_hasNode, tX0_hasNode_0, tX0_hasNode_1, tX0_hasNode_4, tX0_hasNode_5, tX0_hasNode_6, tX0_hasNode_9, tX0_hasNode_12, tX0_hasNode_13, tX0_hasNode_16, tX0_hasNode_17, pw_QK_s, hM.1, hF.1]
    simp only [ti_lt, ti_le, show (0 : Int32).toInt = 0 from rfl]
    refine ⟨fun q => hB (by omega), fun q => ⟨fun q2 => hB (by omega), fun q2 => hA (by omega)⟩⟩
  · exact h.elim
def w_hasLine (b : Nat) (S : Nat → Int32) : pw_Wp := fun Ag I K => match Ag with
  | [.ref o, .int x] => o = b ∧ I b 3 = S 4 ∧ (0 ≤ x.toInt ∧ x.toInt < (S 4).toInt → K (some (.int 1)) I) ∧ (¬ (0 ≤ x.toInt ∧ x.toInt < (S 4).toInt) → K (some (.int 0)) I)
  | _ => False
set_option maxRecDepth 100000 in
set_option maxHeartbeats 4000000 in
theorem x_hasLine (hM : pw_brd sh P b) (h : w_hasLine b S Ag I K) : pw_ok mX0_hasLine 0 base n sh P Ag I K := by
  unfold w_hasLine at h
  split at h
  · rename_i o x
    obtain ⟨rfl, hF, hA, hB⟩ := h
    refine pw_bd [_, _] pl_X0 c_ri rfl rfl ?_
    refine pw_go okX0_hasLine (cc []) ⟨Nat.le_refl _, Nat.le_refl _⟩ cc_n (st0) 60 ?_
    simp only [↓f_vc_s, ↓vk_i, ↓cc_i, ↓reduceIte, f_vq_s, Bool.false_eq_true, ↓f_e_iconst, ↓f_e_bipush, ↓f_e_sipush, ↓f_e_ldc, ↓f_e_ldc_w, ↓f_e_iload_n, ↓f_e_iload, ↓f_e_aload_n, ↓f_e_aload, ↓f_e_istore_n, ↓f_e_istore, ↓f_e_astore_n, ↓f_e_astore, ↓f_e_iinc, ↓f_e_iadd, ↓f_e_isub, ↓f_e_imul, ↓f_e_iand, ↓f_e_ior, ↓f_e_ixor, ↓f_e_idiv, ↓f_e_irem, ↓f_e_ishl, ↓f_e_ishr, ↓f_e_iushr, ↓f_e_i2c, ↓f_e_dup, ↓f_e_dup2, ↓f_e_pop, ↓f_e_goto, ↓f_e_ifCond, ↓f_e_if_icmp, ↓f_e_tableswitch, ↓f_e_lookupswitch, ↓f_e_getfield_i, ↓f_e_getfield_r, ↓f_e_putfield_i, ↓f_e_putfield_z, ↓f_e_iaload, ↓f_e_caload, ↓f_e_aaload, ↓f_e_iastore, ↓f_e_castore, ↓f_e_arraylength, ↓f_e_invokestatic, ↓f_e_invokevirtual, ↓f_e_ireturn, ↓f_e_return_, ↓f_s_i_c, ↓f_s_r_c, ↓f_s_v_i, ↓f_s_v_r, ↓f_s_l_0, ↓s_l_1, ↓s_l_2, ↓s_l_3, ↓s_l_4, ↓s_l_5, ↓s_l_6, ↓s_a_0, ↓s_a_1, ↓s_a_2, ↓s_a_3, ↓s_m_0, ↓f_s_m_i, ↓f_s_m_r, ↓f_s_m_i7, ↓f_s_m_r7, ↓f_s_m_i6, ↓f_s_m_r6, ↓f_s_m_i5, ↓f_s_m_r5, ↓f_s_m_i4, ↓f_s_m_r4, ↓f_s_w_n, ↓f_s_w_c, ↓f_s_p_eq, ↓f_s_p_ne, ↓f_s_p_lt, ↓f_s_p_ge, ↓f_s_p_gt, ↓f_s_p_le, ↓nk_i, ↓nk_z, ↓nk_c, ↓rf_s, ↓ov_s, ↓ov_n, ↓fin0, ↓fin1, ↓fin2, ↓fin3, cond_true, cond_false, List.set_cons_zero, List.set_cons_succ, List.length_cons, List.length_nil, true_and, and_true, true_or, or_true, implies_true, forall_const, not_true_eq_false, not_false_eq_true, false_implies, Nat.reduceAdd, Nat.reduceLT, Nat.reduceBEq, Nat.reduceEqDiff, Bool.or_false, Bool.false_or, Bool.or_true, Bool.true_or, beq_self_eq_true, Nat.reduceLeDiff, Nat.reduceMul, Nat.reduceSub, eq_self, Nat.reduceBneDiff, st0_s, st1_s, st2_s, st3_s, reduceCtorEq, cc_0, tl_0, cl_0, il_0, tl_1, cl_1, il_1, tl_2, cl_2, il_2, tl_3, cl_3, il_3, tl_4, cl_4, il_4, tl_5, cl_5, il_5, tl_6, cl_6, il_6, tl_7, cl_7, il_7, tl_8, cl_8, il_8, tl_9, cl_9, il_9, tl_10, cl_10, il_10, tl_11, cl_11, il_11, tl_12, cl_12, il_12, tl_13, cl_13, il_13, tl_14, cl_14, il_14, tl_15, cl_15, il_15, tl_16, cl_16, il_16, tl_20, tl_21, tl_25, tl_32, tl_48, tl_50, tl_57, tl_58, tl_59, tl_60, tl_99, tl_100, tl_101, tl_108, tl_109, tl_116, tl_120, tl_126, tl_374, tl_1122, tl_50000, i10, i01, tl_m1, tl_m2, tl_m3, tl_m4, nr_X0_hasLine, tX0_hasLine_0, tX0_hasLine_1, tX0_hasLine_4, tX0_hasLine_5, tX0_hasLine_6, tX0_hasLine_9, tX0_hasLine_12, tX0_hasLine_13, tX0_hasLine_16, tX0_hasLine_17, pw_QK_s, hM.1, hF]
    simp only [ti_lt, ti_le, show (0 : Int32).toInt = 0 from rfl]
    refine ⟨fun q => hB (by omega), fun q => ⟨fun q2 => hB (by omega), fun q2 => hA (by omega)⟩⟩
  · exact h.elim
def w_isMasked (b : Nat) (S : Nat → Int32) : pw_Wp := fun Ag I K => match Ag with
  | [.ref o, .int x] => o = b ∧ InvB S ∧ RelB I b S ∧ ∃ k, x = nI k ∧ k < vN S 4 ∧ (hidS S k = true → K (some (.int 1)) I) ∧ (hidS S k = false → K (some (.int 0)) I)
  | _ => False
set_option maxRecDepth 100000 in
set_option maxHeartbeats 4000000 in
theorem x_isMasked (hM : pw_brd sh P b) (h : w_isMasked b S Ag I K) : pw_ok mX0_isMasked 0 base n sh P Ag I K := by
  unfold w_isMasked at h
  split at h
  · rename_i o x
    obtain ⟨rfl, hI, hR, k, rfl, hk4, hA, hB⟩ := h
    obtain ⟨b0, ⟨b1, b2⟩, bN, ⟨b3, b4⟩, bL, -⟩ := id hM
    have hk : k < 16 := by have := hI.2.1.2; omega
    obtain ⟨l1, l2⟩ := bL k hk
    obtain ⟨rF, rN, rL, -⟩ := id hR
    have hnd := (hI.2.2.2.2.2.1 k hk).1
    have h3 := hI.1
    have r1 := rL k hk
    have rw12 := hR.way hk4
    have ck : (nI k).toNatClampNeg = k := cl_nI (by omega)
    refine pw_bd [_, _, _] pl_X0 c_ri rfl rfl ?_
    refine pw_go okX0_isMasked (cc []) ⟨Nat.le_refl _, Nat.le_refl _⟩ cc_n (st0) 60 ?_
    simp only [↓f_vc_s, ↓vk_i, ↓cc_i, ↓reduceIte, f_vq_s, Bool.false_eq_true, ↓f_e_iconst, ↓f_e_bipush, ↓f_e_sipush, ↓f_e_ldc, ↓f_e_ldc_w, ↓f_e_iload_n, ↓f_e_iload, ↓f_e_aload_n, ↓f_e_aload, ↓f_e_istore_n, ↓f_e_istore, ↓f_e_astore_n, ↓f_e_astore, ↓f_e_iinc, ↓f_e_iadd, ↓f_e_isub, ↓f_e_imul, ↓f_e_iand, ↓f_e_ior, ↓f_e_ixor, ↓f_e_idiv, ↓f_e_irem, ↓f_e_ishl, ↓f_e_ishr, ↓f_e_iushr, ↓f_e_i2c, ↓f_e_dup, ↓f_e_dup2, ↓f_e_pop, ↓f_e_goto, ↓f_e_ifCond, ↓f_e_if_icmp, ↓f_e_tableswitch, ↓f_e_lookupswitch, ↓f_e_getfield_i, ↓f_e_getfield_r, ↓f_e_putfield_i, ↓f_e_putfield_z, ↓f_e_iaload, ↓f_e_caload, ↓f_e_aaload, ↓f_e_iastore, ↓f_e_castore, ↓f_e_arraylength, ↓f_e_invokestatic, ↓f_e_invokevirtual, ↓f_e_ireturn, ↓f_e_return_, ↓f_s_i_c, ↓f_s_r_c, ↓f_s_v_i, ↓f_s_v_r, ↓f_s_l_0, ↓s_l_1, ↓s_l_2, ↓s_l_3, ↓s_l_4, ↓s_l_5, ↓s_l_6, ↓s_a_0, ↓s_a_1, ↓s_a_2, ↓s_a_3, ↓s_m_0, ↓f_s_m_i, ↓f_s_m_r, ↓f_s_m_i7, ↓f_s_m_r7, ↓f_s_m_i6, ↓f_s_m_r6, ↓f_s_m_i5, ↓f_s_m_r5, ↓f_s_m_i4, ↓f_s_m_r4, ↓f_s_w_n, ↓f_s_w_c, ↓f_s_p_eq, ↓f_s_p_ne, ↓f_s_p_lt, ↓f_s_p_ge, ↓f_s_p_gt, ↓f_s_p_le, ↓nk_i, ↓nk_z, ↓nk_c, ↓rf_s, ↓ov_s, ↓ov_n, ↓fin0, ↓fin1, ↓fin2, ↓fin3, cond_true, cond_false, List.set_cons_zero, List.set_cons_succ, List.length_cons, List.length_nil, true_and, and_true, true_or, or_true, implies_true, forall_const, not_true_eq_false, not_false_eq_true, false_implies, Nat.reduceAdd, Nat.reduceLT, Nat.reduceBEq, Nat.reduceEqDiff, Bool.or_false, Bool.false_or, Bool.or_true, Bool.true_or, beq_self_eq_true, Nat.reduceLeDiff, Nat.reduceMul, Nat.reduceSub, eq_self, Nat.reduceBneDiff, st0_s, st1_s, st2_s, st3_s, reduceCtorEq, cc_0, tl_0, cl_0, il_0, tl_1, cl_1, il_1, tl_2, cl_2, il_2, tl_3, cl_3, il_3, tl_4, cl_4, il_4, tl_5, cl_5, il_5, tl_6, cl_6, il_6, tl_7, cl_7, il_7, tl_8, cl_8, il_8, tl_9, cl_9, il_9, tl_10, cl_10, il_10, tl_11, cl_11, il_11, tl_12, cl_12, il_12, tl_13, cl_13, il_13, tl_14, cl_14, il_14, tl_15, cl_15, il_15, tl_16, cl_16, il_16, tl_20, tl_21, tl_25, tl_32, tl_48, tl_50, tl_57, tl_58, tl_59, tl_60, tl_99, tl_100, tl_101, tl_108, tl_109, tl_116, tl_120, tl_126, tl_374, tl_1122, tl_50000, i10, i01, tl_m1, tl_m2, tl_m3, tl_m4, nr_X0_isMasked, tX0_isMasked_0, tX0_isMasked_1, tX0_isMasked_4, tX0_isMasked_5, tX0_isMasked_6, tX0_isMasked_7, tX0_isMasked_8, tX0_isMasked_11, tX0_isMasked_14, tX0_isMasked_15, tX0_isMasked_18, tX0_isMasked_19, tX0_isMasked_22, tX0_isMasked_23, tX0_isMasked_26, tX0_isMasked_27, tX0_isMasked_30, tX0_isMasked_31, pw_QK_s, b0, b3, b4, ck, l1, l2, r1.2.2.2.2.1, rw12, rF.2.2.1]
    have hw : wayF S (vN S (166 + 13 * k)) = setF (fun i => (wayS S (vN S (166 + 13 * k))).contains i) 6 := if_pos hnd.2
    have h5 : bit01 (S (166 + 13 * k + 5)) := (hI.2.2.2.2.2.1 k hk).2.2.2.2.2
    rw [hw, set6]
    refine ⟨in_nI hk (by omega), fun q => hA ?_, fun q => ⟨fun q2 => hB ?_, fun q2 => hA ?_⟩⟩
    · unfold hidS
      rw [beq_t (h5.resolve_left q)]; rfl
    · unfold hidS hidW
      rw [q, show ((0 : Int32) == 1) = false from rfl, Bool.false_or, List.any_eq_false]
      intro x hx hc
      have := q2 x (by have := way_le hI _ (by omega) x hx; omega)
      rw [List.contains_iff_mem.mpr hx, Bool.true_and] at this
      rw [this] at hc; cases hc
    · unfold hidS hidW
      rw [Bool.or_eq_true, List.any_eq_true]
      refine Or.inr (Classical.byContradiction fun z => q2 fun i hi => ?_)
      cases e : (wayS S (vN S (166 + 13 * k))).contains i with
      | false => rfl
      | true =>
        cases e2 : (S (16 + 25 * i + 2) == 1) with
        | false => rfl
        | true => exact absurd ⟨i, List.contains_iff_mem.mp e, e2⟩ z
  · exact h.elim
def w_lowestRank (b : Nat) (S : Nat → Int32) : pw_Wp := fun Ag I K => match Ag with
  | [.ref o] => o = b ∧ InvB S ∧ RelB I b S ∧ K (some (.int (if leastS S + 1 ≤ S 1 then S 1 else leastS S + 1))) I
  | _ => False
set_option maxRecDepth 100000 in
set_option maxHeartbeats 4000000 in
theorem x_lowestRank (hM : pw_brd sh P b) (h : w_lowestRank b S Ag I K) : pw_ok mX0_lowestRank 1 base n sh P Ag I K := by
  unfold w_lowestRank at h
  split at h
  · rename_i o
    obtain ⟨rfl, hI, hR, hA⟩ := h
    obtain ⟨b0, ⟨b1, b2⟩, bN, ⟨b3, b4⟩, bL, ⟨b5, b6⟩, -⟩ := id hM
    obtain ⟨rF, rN, rL, ⟨rS1, rS2⟩, -⟩ := id hR
    obtain ⟨c1, c2, c3, -⟩ := id b6
    refine pw_bd [_, _] pl_X0 c_r rfl rfl ?_
    have h10 := hI.2.2.1
    rcases Nat.eq_zero_or_pos (vN S 10) with e | e
    · have e10 : S 10 = 0 := by rw [h10.1, e]; rfl
      have hl : leastS S = -1 := if_pos e10
      have h1 := hI.2.2.2.2.2.2.2.2.1
      rw [hl, if_pos (by rw [ti_le]; exact h1.1)] at hA
      refine pw_go okX0_lowestRank (cc [(60, (w_get (o + 37) (o + 38))), (3, (w_hasLine o S))]) ⟨Nat.le_refl _, Nat.le_refl _⟩ (cc_c (fun Ag I K h => ⟨0, Nat.le_of_ble_eq_true rfl, x_get b6 h⟩) (cc_c (fun Ag I K h => ⟨0, Nat.le_of_ble_eq_true rfl, x_hasLine hM h⟩) cc_n)) (st0) 60 ?_
      simp only [↓f_vc_s, ↓vk_i, ↓cc_i, ↓reduceIte, f_vq_s, Bool.false_eq_true, ↓f_e_iconst, ↓f_e_bipush, ↓f_e_sipush, ↓f_e_ldc, ↓f_e_ldc_w, ↓f_e_iload_n, ↓f_e_iload, ↓f_e_aload_n, ↓f_e_aload, ↓f_e_istore_n, ↓f_e_istore, ↓f_e_astore_n, ↓f_e_astore, ↓f_e_iinc, ↓f_e_iadd, ↓f_e_isub, ↓f_e_imul, ↓f_e_iand, ↓f_e_ior, ↓f_e_ixor, ↓f_e_idiv, ↓f_e_irem, ↓f_e_ishl, ↓f_e_ishr, ↓f_e_iushr, ↓f_e_i2c, ↓f_e_dup, ↓f_e_dup2, ↓f_e_pop, ↓f_e_goto, ↓f_e_ifCond, ↓f_e_if_icmp, ↓f_e_tableswitch, ↓f_e_lookupswitch, ↓f_e_getfield_i, ↓f_e_getfield_r, ↓f_e_putfield_i, ↓f_e_putfield_z, ↓f_e_iaload, ↓f_e_caload, ↓f_e_aaload, ↓f_e_iastore, ↓f_e_castore, ↓f_e_arraylength, ↓f_e_invokestatic, ↓f_e_invokevirtual, ↓f_e_ireturn, ↓f_e_return_, ↓f_s_i_c, ↓f_s_r_c, ↓f_s_v_i, ↓f_s_v_r, ↓f_s_l_0, ↓s_l_1, ↓s_l_2, ↓s_l_3, ↓s_l_4, ↓s_l_5, ↓s_l_6, ↓s_a_0, ↓s_a_1, ↓s_a_2, ↓s_a_3, ↓s_m_0, ↓f_s_m_i, ↓f_s_m_r, ↓f_s_m_i7, ↓f_s_m_r7, ↓f_s_m_i6, ↓f_s_m_r6, ↓f_s_m_i5, ↓f_s_m_r5, ↓f_s_m_i4, ↓f_s_m_r4, ↓f_s_w_n, ↓f_s_w_c, ↓f_s_p_eq, ↓f_s_p_ne, ↓f_s_p_lt, ↓f_s_p_ge, ↓f_s_p_gt, ↓f_s_p_le, ↓nk_i, ↓nk_z, ↓nk_c, ↓rf_s, ↓ov_s, ↓ov_n, ↓fin0, ↓fin1, ↓fin2, ↓fin3, cond_true, cond_false, List.set_cons_zero, List.set_cons_succ, List.length_cons, List.length_nil, true_and, and_true, true_or, or_true, implies_true, forall_const, not_true_eq_false, not_false_eq_true, false_implies, Nat.reduceAdd, Nat.reduceLT, Nat.reduceBEq, Nat.reduceEqDiff, Bool.or_false, Bool.false_or, Bool.or_true, Bool.true_or, beq_self_eq_true, Nat.reduceLeDiff, Nat.reduceMul, Nat.reduceSub, eq_self, Nat.reduceBneDiff, st0_s, st1_s, st2_s, st3_s, reduceCtorEq, cc_0, tl_0, cl_0, il_0, tl_1, cl_1, il_1, tl_2, cl_2, il_2, tl_3, cl_3, il_3, tl_4, cl_4, il_4, tl_5, cl_5, il_5, tl_6, cl_6, il_6, tl_7, cl_7, il_7, tl_8, cl_8, il_8, tl_9, cl_9, il_9, tl_10, cl_10, il_10, tl_11, cl_11, il_11, tl_12, cl_12, il_12, tl_13, cl_13, il_13, tl_14, cl_14, il_14, tl_15, cl_15, il_15, tl_16, cl_16, il_16, tl_20, tl_21, tl_25, tl_32, tl_48, tl_50, tl_57, tl_58, tl_59, tl_60, tl_99, tl_100, tl_101, tl_108, tl_109, tl_116, tl_120, tl_126, tl_374, tl_1122, tl_50000, i10, i01, tl_m1, tl_m2, tl_m3, tl_m4, nr_X0_lowestRank, tX0_lowestRank_0, tX0_lowestRank_1, tX0_lowestRank_4, tX0_lowestRank_5, tX0_lowestRank_8, tX0_lowestRank_11, tX0_lowestRank_12, tX0_lowestRank_13, tX0_lowestRank_16, tX0_lowestRank_17, tX0_lowestRank_18, tX0_lowestRank_19, tX0_lowestRank_22, tX0_lowestRank_25, tX0_lowestRank_26, tX0_lowestRank_29, tX0_lowestRank_30, tX0_lowestRank_33, tX0_lowestRank_34, tX0_lowestRank_35, tX0_lowestRank_38, tX0_lowestRank_39, tX0_lowestRank_40, tX0_lowestRank_43, tX0_lowestRank_46, tX0_lowestRank_47, tX0_lowestRank_50, pw_QK_s, b0, b3, b4, b5, c1, rS1, e10, rF.2.2.2.2.1, ↓w_get, ↓w_hasLine, rF.2.1]
      refine ⟨by decide, fun q => absurd q (by decide), fun _ => ⟨fun q => absurd q.1 (by decide), fun _ => hA⟩⟩
    · obtain ⟨u, hu⟩ : ∃ u, vN S 10 = u + 1 := ⟨vN S 10 - 1, by omega⟩
      have e10 : S 10 = nI (u + 1) := by rw [h10.1, hu]
      have m1 : nI (u + 1) - 1 = nI u := pk_sub (b := 1) (by omega)
      have cu : (nI u).toNatClampNeg = u := cl_nI (by omega)
      have ht := hI.2.2.2.2.2.2.1 u (by omega)
      have eu : I (o + 38) u = nI (vN S (11 + u)) := (rS2 u (by omega)).trans ht.1
      have h4 := hI.2.1
      have hl : leastS S = S (166 + 13 * vN S (11 + u) + 1) := by
        unfold leastS
        rw [if_neg (by rw [e10, show (0 : Int32) = nI 0 from rfl, nI_eq (by omega) (by omega)]; omega), hu, Nat.add_sub_cancel]
      have l4 : (S 4).toInt = (vN S 4 : Int) := (congrArg Int32.toInt h4.1).trans (ti_nI (by omega))
      generalize vN S (11 + u) = t at ht eu hl
      obtain ⟨l1, l2⟩ := bL t (by omega)
      have ct : (nI t).toNatClampNeg = t := cl_nI (by omega)
      have r1 := (rL t (by omega)).2.1
      have tt : (nI t).toInt = (t : Int) := ti_nI (by omega)
      refine pw_go okX0_lowestRank (cc [(60, (w_get (o + 37) (o + 38))), (3, (w_hasLine o S))]) ⟨Nat.le_refl _, Nat.le_refl _⟩ (cc_c (fun Ag I K h => ⟨0, Nat.le_of_ble_eq_true rfl, x_get b6 h⟩) (cc_c (fun Ag I K h => ⟨0, Nat.le_of_ble_eq_true rfl, x_hasLine hM h⟩) cc_n)) (st1 40) 60 ?_
      simp only [↓f_vc_s, ↓vk_i, ↓cc_i, ↓reduceIte, f_vq_s, Bool.false_eq_true, ↓f_e_iconst, ↓f_e_bipush, ↓f_e_sipush, ↓f_e_ldc, ↓f_e_ldc_w, ↓f_e_iload_n, ↓f_e_iload, ↓f_e_aload_n, ↓f_e_aload, ↓f_e_istore_n, ↓f_e_istore, ↓f_e_astore_n, ↓f_e_astore, ↓f_e_iinc, ↓f_e_iadd, ↓f_e_isub, ↓f_e_imul, ↓f_e_iand, ↓f_e_ior, ↓f_e_ixor, ↓f_e_idiv, ↓f_e_irem, ↓f_e_ishl, ↓f_e_ishr, ↓f_e_iushr, ↓f_e_i2c, ↓f_e_dup, ↓f_e_dup2, ↓f_e_pop, ↓f_e_goto, ↓f_e_ifCond, ↓f_e_if_icmp, ↓f_e_tableswitch, ↓f_e_lookupswitch, ↓f_e_getfield_i, ↓f_e_getfield_r, ↓f_e_putfield_i, ↓f_e_putfield_z, ↓f_e_iaload, ↓f_e_caload, ↓f_e_aaload, ↓f_e_iastore, ↓f_e_castore, ↓f_e_arraylength, ↓f_e_invokestatic, ↓f_e_invokevirtual, ↓f_e_ireturn, ↓f_e_return_, ↓f_s_i_c, ↓f_s_r_c, ↓f_s_v_i, ↓f_s_v_r, ↓f_s_l_0, ↓s_l_1, ↓s_l_2, ↓s_l_3, ↓s_l_4, ↓s_l_5, ↓s_l_6, ↓s_a_0, ↓s_a_1, ↓s_a_2, ↓s_a_3, ↓s_m_0, ↓f_s_m_i, ↓f_s_m_r, ↓f_s_m_i7, ↓f_s_m_r7, ↓f_s_m_i6, ↓f_s_m_r6, ↓f_s_m_i5, ↓f_s_m_r5, ↓f_s_m_i4, ↓f_s_m_r4, ↓f_s_w_n, ↓f_s_w_c, ↓f_s_p_eq, ↓f_s_p_ne, ↓f_s_p_lt, ↓f_s_p_ge, ↓f_s_p_gt, ↓f_s_p_le, ↓nk_i, ↓nk_z, ↓nk_c, ↓rf_s, ↓ov_s, ↓ov_n, ↓fin0, ↓fin1, ↓fin2, ↓fin3, cond_true, cond_false, List.set_cons_zero, List.set_cons_succ, List.length_cons, List.length_nil, true_and, and_true, true_or, or_true, implies_true, forall_const, not_true_eq_false, not_false_eq_true, false_implies, Nat.reduceAdd, Nat.reduceLT, Nat.reduceBEq, Nat.reduceEqDiff, Bool.or_false, Bool.false_or, Bool.or_true, Bool.true_or, beq_self_eq_true, Nat.reduceLeDiff, Nat.reduceMul, Nat.reduceSub, eq_self, Nat.reduceBneDiff, st0_s, st1_s, st2_s, st3_s, reduceCtorEq, cc_0, tl_0, cl_0, il_0, tl_1, cl_1, il_1, tl_2, cl_2, il_2, tl_3, cl_3, il_3, tl_4, cl_4, il_4, tl_5, cl_5, il_5, tl_6, cl_6, il_6, tl_7, cl_7, il_7, tl_8, cl_8, il_8, tl_9, cl_9, il_9, tl_10, cl_10, il_10, tl_11, cl_11, il_11, tl_12, cl_12, il_12, tl_13, cl_13, il_13, tl_14, cl_14, il_14, tl_15, cl_15, il_15, tl_16, cl_16, il_16, tl_20, tl_21, tl_25, tl_32, tl_48, tl_50, tl_57, tl_58, tl_59, tl_60, tl_99, tl_100, tl_101, tl_108, tl_109, tl_116, tl_120, tl_126, tl_374, tl_1122, tl_50000, i10, i01, tl_m1, tl_m2, tl_m3, tl_m4, nr_X0_lowestRank, tX0_lowestRank_0, tX0_lowestRank_1, tX0_lowestRank_4, tX0_lowestRank_5, tX0_lowestRank_8, tX0_lowestRank_11, tX0_lowestRank_12, tX0_lowestRank_13, tX0_lowestRank_16, tX0_lowestRank_17, tX0_lowestRank_18, tX0_lowestRank_19, tX0_lowestRank_22, tX0_lowestRank_25, tX0_lowestRank_26, tX0_lowestRank_29, tX0_lowestRank_30, tX0_lowestRank_33, tX0_lowestRank_34, tX0_lowestRank_35, tX0_lowestRank_38, tX0_lowestRank_39, tX0_lowestRank_40, tX0_lowestRank_43, tX0_lowestRank_46, tX0_lowestRank_47, tX0_lowestRank_50, pw_QK_s, b0, b3, b4, b5, c1, rS1, e10, m1, cu, eu, ct, l1, l2, r1, rF.2.2.2.2.1, ↓w_get, ↓w_hasLine, rF.2.1]
      have fin : PW (mX0_lowestRank, 1, 0, 0, none, base) n sh P I 0 0 40 [some (.ref o), some (.int (nI t))] [.int (S (166 + 13 * t + 1) + 1), .int (S 1)] (pw_QK n sh P K) := by
        refine PW.mmax (idx := 154) mx_lowest (Nat.le_refl 1) ⟨Nat.le_refl _, Nat.le_refl _⟩ trivial dc_lowest ?_
        refine pw_go okX0_lowestRank (cc []) ⟨Nat.le_refl _, Nat.le_refl _⟩ cc_n (st0) 60 ?_
        simp only [↓f_vc_s, ↓vk_i, ↓cc_i, ↓reduceIte, f_vq_s, Bool.false_eq_true, ↓f_e_iconst, ↓f_e_bipush, ↓f_e_sipush, ↓f_e_ldc, ↓f_e_ldc_w, ↓f_e_iload_n, ↓f_e_iload, ↓f_e_aload_n, ↓f_e_aload, ↓f_e_istore_n, ↓f_e_istore, ↓f_e_astore_n, ↓f_e_astore, ↓f_e_iinc, ↓f_e_iadd, ↓f_e_isub, ↓f_e_imul, ↓f_e_iand, ↓f_e_ior, ↓f_e_ixor, ↓f_e_idiv, ↓f_e_irem, ↓f_e_ishl, ↓f_e_ishr, ↓f_e_iushr, ↓f_e_i2c, ↓f_e_dup, ↓f_e_dup2, ↓f_e_pop, ↓f_e_goto, ↓f_e_ifCond, ↓f_e_if_icmp, ↓f_e_tableswitch, ↓f_e_lookupswitch, ↓f_e_getfield_i, ↓f_e_getfield_r, ↓f_e_putfield_i, ↓f_e_putfield_z, ↓f_e_iaload, ↓f_e_caload, ↓f_e_aaload, ↓f_e_iastore, ↓f_e_castore, ↓f_e_arraylength, ↓f_e_invokestatic, ↓f_e_invokevirtual, ↓f_e_ireturn, ↓f_e_return_, ↓f_s_i_c, ↓f_s_r_c, ↓f_s_v_i, ↓f_s_v_r, ↓f_s_l_0, ↓s_l_1, ↓s_l_2, ↓s_l_3, ↓s_l_4, ↓s_l_5, ↓s_l_6, ↓s_a_0, ↓s_a_1, ↓s_a_2, ↓s_a_3, ↓s_m_0, ↓f_s_m_i, ↓f_s_m_r, ↓f_s_m_i7, ↓f_s_m_r7, ↓f_s_m_i6, ↓f_s_m_r6, ↓f_s_m_i5, ↓f_s_m_r5, ↓f_s_m_i4, ↓f_s_m_r4, ↓f_s_w_n, ↓f_s_w_c, ↓f_s_p_eq, ↓f_s_p_ne, ↓f_s_p_lt, ↓f_s_p_ge, ↓f_s_p_gt, ↓f_s_p_le, ↓nk_i, ↓nk_z, ↓nk_c, ↓rf_s, ↓ov_s, ↓ov_n, ↓fin0, ↓fin1, ↓fin2, ↓fin3, cond_true, cond_false, List.set_cons_zero, List.set_cons_succ, List.length_cons, List.length_nil, true_and, and_true, true_or, or_true, implies_true, forall_const, not_true_eq_false, not_false_eq_true, false_implies, Nat.reduceAdd, Nat.reduceLT, Nat.reduceBEq, Nat.reduceEqDiff, Bool.or_false, Bool.false_or, Bool.or_true, Bool.true_or, beq_self_eq_true, Nat.reduceLeDiff, Nat.reduceMul, Nat.reduceSub, eq_self, Nat.reduceBneDiff, st0_s, st1_s, st2_s, st3_s, reduceCtorEq, cc_0, tl_0, cl_0, il_0, tl_1, cl_1, il_1, tl_2, cl_2, il_2, tl_3, cl_3, il_3, tl_4, cl_4, il_4, tl_5, cl_5, il_5, tl_6, cl_6, il_6, tl_7, cl_7, il_7, tl_8, cl_8, il_8, tl_9, cl_9, il_9, tl_10, cl_10, il_10, tl_11, cl_11, il_11, tl_12, cl_12, il_12, tl_13, cl_13, il_13, tl_14, cl_14, il_14, tl_15, cl_15, il_15, tl_16, cl_16, il_16, tl_20, tl_21, tl_25, tl_32, tl_48, tl_50, tl_57, tl_58, tl_59, tl_60, tl_99, tl_100, tl_101, tl_108, tl_109, tl_116, tl_120, tl_126, tl_374, tl_1122, tl_50000, i10, i01, tl_m1, tl_m2, tl_m3, tl_m4, nr_X0_lowestRank, tX0_lowestRank_0, tX0_lowestRank_1, tX0_lowestRank_4, tX0_lowestRank_5, tX0_lowestRank_8, tX0_lowestRank_11, tX0_lowestRank_12, tX0_lowestRank_13, tX0_lowestRank_16, tX0_lowestRank_17, tX0_lowestRank_18, tX0_lowestRank_19, tX0_lowestRank_22, tX0_lowestRank_25, tX0_lowestRank_26, tX0_lowestRank_29, tX0_lowestRank_30, tX0_lowestRank_33, tX0_lowestRank_34, tX0_lowestRank_35, tX0_lowestRank_38, tX0_lowestRank_39, tX0_lowestRank_40, tX0_lowestRank_43, tX0_lowestRank_46, tX0_lowestRank_47, tX0_lowestRank_50, pw_QK_s]
        rw [hl] at hA
        by_cases q : S 1 < S (166 + 13 * t + 1) + 1
        · rw [if_pos q]; rw [if_neg (Int32.not_le.mpr q)] at hA; exact hA
        · rw [if_neg q]; rw [if_pos (Int32.not_lt.mp q)] at hA; exact hA
      rw [tt, l4, ti_nI (by omega), ti_nI (by omega)]
      exact ⟨by omega, fun _ => ⟨fun _ => ⟨in_nI (by omega) (by omega), fin⟩, fun q => absurd (by omega) q⟩, fun q => absurd (by omega) q⟩
  · exact h.elim
def w_isReady0 (b : Nat) (S : Nat → Int32) : pw_Wp := fun Ag I K => match Ag with
  | [.ref o, .int x, .int lo] => o = b ∧ InvB S ∧ RelB I b S ∧ ∃ k, x = nI k ∧ k < vN S 4 ∧ ((S (166 + 13 * k + 3) == 1 && (S (166 + 13 * k + 4) == 0 && (decide (lo ≤ S (166 + 13 * k + 1)) && !hidS S k))) = true → K (some (.int 1)) I) ∧
    ((S (166 + 13 * k + 3) == 1 && (S (166 + 13 * k + 4) == 0 && (decide (lo ≤ S (166 + 13 * k + 1)) && !hidS S k))) = false → K (some (.int 0)) I)
  | _ => False
set_option maxRecDepth 100000 in
set_option maxHeartbeats 4000000 in
theorem x_isReady0 (hM : pw_brd sh P b) (h : w_isReady0 b S Ag I K) : pw_ok mX0_isReady 1 base n sh P Ag I K := by
  unfold w_isReady0 at h
  split at h
  · rename_i o x lo
    obtain ⟨rfl, hI, hR, k, rfl, hk, hA, hB⟩ := h
    obtain ⟨b0, ⟨b1, b2⟩, bN, ⟨b3, b4⟩, bL, -⟩ := id hM
    have h4 := hI.2.1
    obtain ⟨l1, l2⟩ := bL k (by omega)
    obtain ⟨rF, rN, rL, -⟩ := id hR
    have r1 := rL k (by omega)
    have ck : (nI k).toNatClampNeg = k := cl_nI (by omega)
    have tk : (nI k).toInt = (k : Int) := ti_nI (by omega)
    have l4 : (S 4).toInt = (vN S 4 : Int) := (congrArg Int32.toInt h4.1).trans (ti_nI (by omega))
    have h3 := (hI.2.2.2.2.2.1 k (by omega)).2.2.2.1
    refine pw_bd [_, _, _, _] pl_X0 c_rii rfl rfl ?_
    refine pw_go okX0_isReady (cc [(3, (w_hasLine o S)), (22, (w_isMasked o S))]) ⟨Nat.le_refl _, Nat.le_refl _⟩ (cc_c (fun Ag I K h => ⟨0, Nat.le_of_ble_eq_true rfl, x_hasLine hM h⟩) (cc_c (fun Ag I K h => ⟨0, Nat.le_of_ble_eq_true rfl, x_isMasked hM h⟩) cc_n)) (st0) 60 ?_
    simp only [↓f_vc_s, ↓vk_i, ↓cc_i, ↓reduceIte, f_vq_s, Bool.false_eq_true, ↓f_e_iconst, ↓f_e_bipush, ↓f_e_sipush, ↓f_e_ldc, ↓f_e_ldc_w, ↓f_e_iload_n, ↓f_e_iload, ↓f_e_aload_n, ↓f_e_aload, ↓f_e_istore_n, ↓f_e_istore, ↓f_e_astore_n, ↓f_e_astore, ↓f_e_iinc, ↓f_e_iadd, ↓f_e_isub, ↓f_e_imul, ↓f_e_iand, ↓f_e_ior, ↓f_e_ixor, ↓f_e_idiv, ↓f_e_irem, ↓f_e_ishl, ↓f_e_ishr, ↓f_e_iushr, ↓f_e_i2c, ↓f_e_dup, ↓f_e_dup2, ↓f_e_pop, ↓f_e_goto, ↓f_e_ifCond, ↓f_e_if_icmp, ↓f_e_tableswitch, ↓f_e_lookupswitch, ↓f_e_getfield_i, ↓f_e_getfield_r, ↓f_e_putfield_i, ↓f_e_putfield_z, ↓f_e_iaload, ↓f_e_caload, ↓f_e_aaload, ↓f_e_iastore, ↓f_e_castore, ↓f_e_arraylength, ↓f_e_invokestatic, ↓f_e_invokevirtual, ↓f_e_ireturn, ↓f_e_return_, ↓f_s_i_c, ↓f_s_r_c, ↓f_s_v_i, ↓f_s_v_r, ↓f_s_l_0, ↓s_l_1, ↓s_l_2, ↓s_l_3, ↓s_l_4, ↓s_l_5, ↓s_l_6, ↓s_a_0, ↓s_a_1, ↓s_a_2, ↓s_a_3, ↓s_m_0, ↓f_s_m_i, ↓f_s_m_r, ↓f_s_m_i7, ↓f_s_m_r7, ↓f_s_m_i6, ↓f_s_m_r6, ↓f_s_m_i5, ↓f_s_m_r5, ↓f_s_m_i4, ↓f_s_m_r4, ↓f_s_w_n, ↓f_s_w_c, ↓f_s_p_eq, ↓f_s_p_ne, ↓f_s_p_lt, ↓f_s_p_ge, ↓f_s_p_gt, ↓f_s_p_le, ↓nk_i, ↓nk_z, ↓nk_c, ↓rf_s, ↓ov_s, ↓ov_n, ↓fin0, ↓fin1, ↓fin2, ↓fin3, cond_true, cond_false, List.set_cons_zero, List.set_cons_succ, List.length_cons, List.length_nil, true_and, and_true, true_or, or_true, implies_true, forall_const, not_true_eq_false, not_false_eq_true, false_implies, Nat.reduceAdd, Nat.reduceLT, Nat.reduceBEq, Nat.reduceEqDiff, Bool.or_false, Bool.false_or, Bool.or_true, Bool.true_or, beq_self_eq_true, Nat.reduceLeDiff, Nat.reduceMul, Nat.reduceSub, eq_self, Nat.reduceBneDiff, st0_s, st1_s, st2_s, st3_s, reduceCtorEq, cc_0, tl_0, cl_0, il_0, tl_1, cl_1, il_1, tl_2, cl_2, il_2, tl_3, cl_3, il_3, tl_4, cl_4, il_4, tl_5, cl_5, il_5, tl_6, cl_6, il_6, tl_7, cl_7, il_7, tl_8, cl_8, il_8, tl_9, cl_9, il_9, tl_10, cl_10, il_10, tl_11, cl_11, il_11, tl_12, cl_12, il_12, tl_13, cl_13, il_13, tl_14, cl_14, il_14, tl_15, cl_15, il_15, tl_16, cl_16, il_16, tl_20, tl_21, tl_25, tl_32, tl_48, tl_50, tl_57, tl_58, tl_59, tl_60, tl_99, tl_100, tl_101, tl_108, tl_109, tl_116, tl_120, tl_126, tl_374, tl_1122, tl_50000, i10, i01, tl_m1, tl_m2, tl_m3, tl_m4, nr_X0_isReady, tX0_isReady_0, tX0_isReady_1, tX0_isReady_2, tX0_isReady_5, tX0_isReady_8, tX0_isReady_9, tX0_isReady_10, tX0_isReady_11, tX0_isReady_14, tX0_isReady_15, tX0_isReady_16, tX0_isReady_17, tX0_isReady_18, tX0_isReady_21, tX0_isReady_24, tX0_isReady_25, tX0_isReady_28, tX0_isReady_31, tX0_isReady_32, tX0_isReady_35, tX0_isReady_36, tX0_isReady_39, tX0_isReady_40, tX0_isReady_41, tX0_isReady_44, tX0_isReady_47, tX0_isReady_48, tX0_isReady_51, tX0_isReady_52, pw_QK_s, b0, b3, b4, ck, l1, l2, r1.1, r1.2.1, r1.2.2.2.1, r1.2.2.2.2.2.1, ↓w_hasLine, ↓w_isMasked, rF.2.1]
    rw [tk, l4]
    refine ⟨fun _ => ⟨in_nI (by omega) (by omega), fun q => hB ?_, fun q1 => ⟨fun q => hB ?_, fun q2 => ⟨fun q => hB ?_, fun q3 => ⟨hI, hR, k, rfl, by omega, fun q => hB ?_, fun q => hA ?_⟩⟩⟩⟩, fun q => absurd (by omega) q⟩
    · rw [beq_f (by rw [q]; decide), Bool.false_and]
    · rw [beq_f q, Bool.false_and, Bool.and_false]
    · rw [decide_eq_false (Int32.not_le.mpr q), Bool.false_and, Bool.and_false, Bool.and_false]
    · rw [q, Bool.not_true, Bool.and_false, Bool.and_false, Bool.and_false]
    · rw [q, beq_t (h3.resolve_left q1), beq_t q2, decide_eq_true (Int32.not_lt.mp q3)]; rfl
  · exact h.elim
/-- ready, for the class: the rank is the lowest that can be, or higher -/
def lowS (S : Nat → Int32) : Int32 := if leastS S + 1 ≤ S 1 then S 1 else leastS S + 1
theorem low_ready {S : Nat → Int32} (hI : InvB S) {k : Nat} : (S (166 + 13 * k + 3) == 1 && (S (166 + 13 * k + 4) == 0 && (decide (lowS S ≤ S (166 + 13 * k + 1)) && !hidS S k))) = readyS S k := by
  have h1 := hI.2.2.2.2.2.2.2.2.1
  have hl : -1 ≤ (leastS S).toInt ∧ (leastS S).toInt ≤ 7 := by
    unfold leastS
    by_cases e : S 10 = 0
    · rw [if_pos e]; decide
    · rw [if_neg e]
      have h10 := hI.2.2.1
      have hp : 1 ≤ vN S 10 := by
        rcases Nat.eq_zero_or_pos (vN S 10) with z | z
        · exact absurd (by rw [h10.1, z]; rfl) e
        · exact z
      have := (hI.2.2.2.2.2.2.1 (vN S 10 - 1) (by omega)).2
      have h4 := hI.2.1
      have := (hI.2.2.2.2.2.1 (vN S (11 + (vN S 10 - 1))) (by omega)).2.1
      omega
  have e : decide (lowS S ≤ S (166 + 13 * k + 1)) = (decide (S 1 ≤ S (166 + 13 * k + 1)) && decide (leastS S < S (166 + 13 * k + 1))) := by
    have ha : (leastS S + 1).toInt = (leastS S).toInt + 1 := ti_add (y := 1) (by show _ ≤ _ + 1; omega) (by show _ + 1 < _; omega)
    rw [Bool.eq_iff_iff, Bool.and_eq_true, decide_eq_true_eq, decide_eq_true_eq, decide_eq_true_eq]
    unfold lowS
    simp only [ti_le, ti_lt, ha]
    split
    · omega
    · rw [ha]; omega
  unfold readyS
  rw [e]
  cases (S (166 + 13 * k + 3) == 1) <;> cases (S (166 + 13 * k + 4) == 0) <;> cases hidS S k <;> cases decide (S 1 ≤ S (166 + 13 * k + 1)) <;> cases decide (leastS S < S (166 + 13 * k + 1)) <;> rfl
end BRD
