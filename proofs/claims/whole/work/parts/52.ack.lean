/-! the class's board: acknowledges that are due -/
theorem InvB.sta {S : Nat → Int32} {k : Nat} {y : Int32} (h : InvB S) (hy : y = 0 ∨ y = 1 ∨ y = 2) : InvB (upd S (166 + 13 * k + 4) y) := by
  have a4 := h.2.2.2.1
  have a6 := h.2.2.2.2.2.1
  refine h.to (upd_n (by omega)) (upd_n (by omega)) (fun i h1 h2 => upd_n (by omega)) (fun i hi => ⟨upd_n (by omega), ?_, ?_, upd_n (by omega)⟩) (fun i hi => ?_) ?_
  · rw [upd_n (by omega)]; exact (a4 i hi).1
  · rw [upd_n (by omega)]; exact (a4 i hi).2.1
  · rw [upd_n (show 166 + 13 * i ≠ 166 + 13 * k + 4 by omega), upd_n (show 166 + 13 * i + 1 ≠ 166 + 13 * k + 4 by omega), upd_n (show 166 + 13 * i + 2 ≠ 166 + 13 * k + 4 by omega), upd_n (show 166 + 13 * i + 3 ≠ 166 + 13 * k + 4 by omega), upd_n (show 166 + 13 * i + 5 ≠ 166 + 13 * k + 4 by omega)]
    refine ⟨rfl, rfl, (a6 i hi).2.2.1, (a6 i hi).2.2.2.1, ?_, (a6 i hi).2.2.2.2.2⟩
    by_cases e : i = k
    · rw [e, upd_s]; exact hy
    · rw [upd_n (by omega)]; exact (a6 i hi).2.2.2.2.1
  · rw [upd_n (show 0 ≠ 166 + 13 * k + 4 by omega), upd_n (show 1 ≠ 166 + 13 * k + 4 by omega), upd_n (show 2 ≠ 166 + 13 * k + 4 by omega)]
    exact h.2.2.2.2.2.2.2
/-- the board at b holds the row S, and V waits -/
def relBW (J : pw_I) (b : Nat) (S : Nat → Int32) (V : List Nat) : Prop := relF J b S ∧ (∀ j, j < 6 → relN J b S j) ∧ (∀ k, k < 16 → relL J b S k) ∧ (relS J b S ∧ relY J b S) ∧ J (b + 39) 1 = nI V.length ∧ (∀ i k, V[i]? = some k → J (b + 40) i = nI k) ∧ waitOK S V
theorem relBW.rel {J : pw_I} {b : Nat} {S : Nat → Int32} {V : List Nat} (h : relBW J b S V) : RelB J b S := ⟨h.1, h.2.1, h.2.2.1, h.2.2.2.1.1, h.2.2.2.1.2, V, h.2.2.2.2⟩
theorem RelB.bw {J : pw_I} {b : Nat} {S : Nat → Int32} (h : RelB J b S) : ∃ V, relBW J b S V := by
  obtain ⟨h1, h2, h3, h4, hY, V, h5⟩ := h
  exact ⟨V, h1, h2, h3, ⟨h4, hY⟩, h5⟩
theorem nodup_len {l : List Nat} : l.Nodup → ∀ n, (∀ k ∈ l, k < n) → l.length ≤ n := by
  intro hn n h
  have := List.Nodup.length_le_of_subset hn (l₂ := List.range n) (fun k hk => List.mem_range.mpr (h k hk))
  simpa using this
theorem waitOK.len {S : Nat → Int32} {W : List Nat} (h : waitOK S W) (h4 : vN S 4 ≤ 16) : W.length ≤ 16 := nodup_len h.1 16 (fun k hk => by have := ((h.2.1 k).mp hk).1; omega)
/-- sums that differ at one place -/
theorem sumF_one {f g : Nat → Int32} {k : Nat} (h : ∀ i, i ≠ k → f i = g i) : ∀ n, k < n → sumF f n + g k = sumF g n + f k
  | 0, hk => absurd hk (Nat.not_lt_zero _)
  | n + 1, hk => by
    rw [sumF, sumF]
    by_cases e : k = n
    · subst e
      have : ∀ m, m ≤ k → sumF f m = sumF g m := by
        intro m
        induction m with
        | zero => intro _; rfl
        | succ m ih => intro hm; rw [sumF, sumF, ih (by omega), h m (by omega)]
      rw [this k (Nat.le_refl _)]
      ac_rfl
    · have ih := sumF_one h n (by omega)
      rw [h n (fun z => e z.symm)]
      calc sumF f n + g n + g k = (sumF f n + g k) + g n := by ac_rfl
        _ = (sumF g n + f k) + g n := by rw [ih]
        _ = sumF g n + g n + f k := by ac_rfl
theorem sumF_congr {f g : Nat → Int32} : ∀ n, (∀ i, i < n → f i = g i) → sumF f n = sumF g n
  | 0, _ => rfl
  | n + 1, h => by rw [sumF, sumF, sumF_congr n (fun i hi => h i (by omega)), h n (by omega)]
theorem sumF_zero {f : Nat → Int32} : ∀ n, (∀ i, i < n → f i = 0) → sumF f n = 0
  | 0, _ => rfl
  | n + 1, h => by rw [sumF, sumF_zero n (fun i hi => h i (by omega)), h n (by omega)]; rfl
theorem ackL_none {S : Nat → Int32} : ∀ n, (∀ i, i < n → dueS S i = false) → ackL S n = S
  | 0, _ => rfl
  | n + 1, h => by rw [ackL, h n (by omega), cond_false]; exact ackL_none n (fun i hi => h i (by omega))
theorem ackC_none {S : Nat → Int32} {n : Nat} (h : ∀ i, i < n → dueS S i = false) : ackC S n = 0 := sumF_zero n (fun i hi => by rw [h i hi]; rfl)
/-- what the acknowledges make of a line's state -/
theorem ackL_at {S : Nat → Int32} {k : Nat} : ∀ n, ackL S n (166 + 13 * k + 4) = if k < n ∧ dueS S k = true then 0 else S (166 + 13 * k + 4)
  | 0 => by rw [if_neg (by omega)]; rfl
  | n + 1 => by
    have ih := ackL_at (S := S) (k := k) n
    unfold ackL
    cases e : dueS S n with
    | true =>
      rw [cond_true]
      by_cases z : k = n
      · subst z
        rw [upd_s, if_pos ⟨by omega, e⟩]
      · rw [upd_n (by omega), ih]
        by_cases q : k < n ∧ dueS S k = true
        · rw [if_pos q, if_pos ⟨by omega, q.2⟩]
        · rw [if_neg q, if_neg (fun y => q ⟨by omega, y.2⟩)]
    | false =>
      rw [cond_false, ih]
      by_cases q : k < n ∧ dueS S k = true
      · rw [if_pos q, if_pos ⟨by omega, q.2⟩]
      · rw [if_neg q, if_neg]
        rintro ⟨y1, y2⟩
        by_cases z : k = n
        · subst z; rw [e] at y2; cases y2
        · exact q ⟨by omega, y2⟩
theorem due_upd {S : Nat → Int32} {k i : Nat} : dueS (upd S (166 + 13 * k + 4) 0) i = (dueS S i && !(i == k)) := by
  unfold dueS
  rw [upd_n (show 166 + 13 * i + 11 ≠ 166 + 13 * k + 4 by omega), upd_n (show 0 ≠ 166 + 13 * k + 4 by omega)]
  by_cases e : i = k
  · subst e
    rw [upd_s, beq_f (show ¬ (0 : Int32) = 2 by decide), Bool.false_and]
    simp
  · rw [upd_n (by omega)]
    simp [e]
/-- one of those that are due, then the others -/
theorem ackL_one {S : Nat → Int32} {k : Nat} (hd : dueS S k = true) : ∀ n, k < n → ackL (upd S (166 + 13 * k + 4) 0) n = ackL S n := by
  intro n hk
  funext p
  by_cases hp : ∃ i, p = 166 + 13 * i + 4
  · obtain ⟨i, rfl⟩ := hp
    rw [ackL_at, ackL_at, due_upd]
    by_cases e : i = k
    · subst e
      rw [upd_s, if_neg (by simp), if_pos ⟨hk, hd⟩]
    · rw [upd_n (by omega)]
      simp [e]
  · have hp : ∀ i, p ≠ 166 + 13 * i + 4 := fun i e => hp ⟨i, e⟩
    rw [ackL_n _ (fun i _ => hp i), ackL_n _ (fun i _ => hp i), upd_n (hp k)]
theorem ackC_one {S : Nat → Int32} {k : Nat} (hd : dueS S k = true) {n : Nat} (hk : k < n) : ackC S n = 1 + ackC (upd S (166 + 13 * k + 4) 0) n := by
  have := sumF_one (f := fun i => bif dueS S i then (1 : Int32) else 0) (g := fun i => bif dueS (upd S (166 + 13 * k + 4) 0) i then (1 : Int32) else 0) (k := k) (fun i hi => by show (bif dueS S i then (1 : Int32) else 0) = bif dueS (upd S (166 + 13 * k + 4) 0) i then (1 : Int32) else 0; rw [due_upd, show (i == k) = false from by simpa using hi, Bool.not_false, Bool.and_true]) n hk
  simp only [due_upd (k := k) (i := k), hd, beq_self_eq_true, Bool.not_true, Bool.and_false, cond_false, cond_true, Int32.add_zero] at this
  unfold ackC
  rw [this]
  ac_rfl
section ACK
variable {n base b : Nat} {sh : pw_Sh} {P : pw_P} {Ag : List Value} {I : pw_I} {S : Nat → Int32} {K : Option Value → pw_I → Prop}
def ackB (S : Nat → Int32) : Nat → Int32 := upd (ackL S (vN S 4)) 9 (S 9 + ackC S (vN S 4))
def w_acknowledgeDue (b : Nat) (S : Nat → Int32) : pw_Wp := fun Ag I K => match Ag with
  | [.ref o] => o = b ∧ InvB S ∧ RelB I b S ∧ ∀ J, brdOK b I J → RelB J b (ackB S) → K (some (.int (ackC S (vN S 4)))) J
  | _ => False
theorem relBW.pop {J : pw_I} {b k : Nat} {S : Nat → Int32} {V : List Nat} (h : relBW J b S (k :: V)) (hI : InvB S) :
    relBW (pw_up (pw_set (pw_set J (b + 40) (remF (J (b + 40)) 0 (V.length + 1))) (b + 39) (upd (J (b + 39)) 1 (nI V.length))) (b + 21 + k) 5 0) b (upd S (166 + 13 * k + 4) 0) V := by
  obtain ⟨⟨f1, f2, f3, f4, f5, f6, f7⟩, hN, hL, ⟨hS, hY⟩, w1, w2, w3, w4, w5⟩ := h
  have hk := (w4 k).mp List.mem_cons_self
  have h4 := hI.2.1.2
  have hk16 : k < 16 := by omega
  have mem : ∀ a, a ≠ b + 39 → a ≠ b + 40 → a ≠ b + 21 + k → pw_up (pw_set (pw_set J (b + 40) (remF (J (b + 40)) 0 (V.length + 1))) (b + 39) (upd (J (b + 39)) 1 (nI V.length))) (b + 21 + k) 5 0 a = J a := fun a h1 h2 h3 => by
    rw [up_set, set_n h3, set_n h1, set_n h2]
  have m39 : pw_up (pw_set (pw_set J (b + 40) (remF (J (b + 40)) 0 (V.length + 1))) (b + 39) (upd (J (b + 39)) 1 (nI V.length))) (b + 21 + k) 5 0 (b + 39) = upd (J (b + 39)) 1 (nI V.length) := by
    rw [up_set, set_n (by omega), set_s]
  have m40 : pw_up (pw_set (pw_set J (b + 40) (remF (J (b + 40)) 0 (V.length + 1))) (b + 39) (upd (J (b + 39)) 1 (nI V.length))) (b + 21 + k) 5 0 (b + 40) = remF (J (b + 40)) 0 (V.length + 1) := by
    rw [up_set, set_n (by omega), set_n (by omega), set_s]
  have mk : pw_up (pw_set (pw_set J (b + 40) (remF (J (b + 40)) 0 (V.length + 1))) (b + 39) (upd (J (b + 39)) 1 (nI V.length))) (b + 21 + k) 5 0 (b + 21 + k) = upd (J (b + 21 + k)) 5 0 := by
    rw [up_set, set_s, set_n (by omega), set_n (by omega)]
  generalize pw_up (pw_set (pw_set J (b + 40) (remF (J (b + 40)) 0 (V.length + 1))) (b + 39) (upd (J (b + 39)) 1 (nI V.length))) (b + 21 + k) 5 0 = J2 at mem m39 m40 mk ⊢
  have mb : J2 b = J b := mem b (by omega) (by omega) (by omega)
  refine ⟨⟨?_, ?_, ?_, ?_, ?_, ?_, ?_⟩, fun i hi => (hN i hi).to (mem _ (by omega) (by omega) (by omega)) (mem _ (by omega) (by omega) (by omega)) (mem _ (by omega) (by omega) (by omega)) (upd_n (by omega)) (upd_n (by omega)) (upd_n (by omega)) (fun c hc => upd_n (by omega)) (hI.2.2.2.1 i hi).2.2.2 (wayF_to hI (upd_n (by omega)) (fun c hc => upd_n (by omega)) hi), fun i hi => ?_, ⟨hS.to (mem _ (by omega) (by omega) (by omega)) (mem _ (by omega) (by omega) (by omega)) hI.2.2.1.2 (fun i h1 h2 => upd_n (by omega)), hY.to (fun i _ => ?_) (fun i _ => by rw [mem _ (by omega) (by omega) (by omega)]) (upd_n (by omega)) (fun i _ => upd_n (by omega))⟩, ?_, ?_, (List.nodup_cons.mp w3).2, ?_, ?_⟩
  · rw [mb, upd_n (by omega)]; exact f1
  · rw [mb, upd_n (by omega)]; exact f2
  · rw [mb, f3]
    unfold setF setF setF setF setF setF setF
    rw [upd_n (by omega), upd_n (by omega), upd_n (by omega), upd_n (by omega), upd_n (by omega), upd_n (by omega)]
  · rw [mb, upd_n (by omega)]; exact f4
  · rw [mb, upd_n (by omega)]; exact f5
  · rw [mb, upd_n (by omega)]; exact f6
  · rw [mb, upd_n (by omega)]; exact f7
  · have r := hL i hi
    by_cases e : i = k
    · subst e
      unfold relL
      rw [mk]
      refine ⟨?_, ?_, ?_, ?_, ?_, ?_, ?_, ?_, ?_, ?_, ?_, ?_⟩ <;> simp (disch := omega) only [upd_n, upd_s, r.1, r.2.1, r.2.2.1, r.2.2.2.1, r.2.2.2.2.1, r.2.2.2.2.2.1, r.2.2.2.2.2.2.1, r.2.2.2.2.2.2.2.1, r.2.2.2.2.2.2.2.2.1, r.2.2.2.2.2.2.2.2.2.1, r.2.2.2.2.2.2.2.2.2.2.1, r.2.2.2.2.2.2.2.2.2.2.2]
    · refine r.to (mem _ (by omega) (by omega) (by omega)) (fun c hc => upd_n (by omega))
  · by_cases e : i = k
    · rw [e, mk, upd_n (by omega)]
    · rw [mem _ (by omega) (by omega) (by omega)]
  · rw [m39, upd_s]
  · intro i x hx
    have hlt : i < V.length := (List.getElem?_eq_some_iff.mp hx).1
    rw [m40]
    unfold remF
    rw [cpy_in (by omega) (by omega), show 0 + 1 + (i - 0) = i + 1 by omega]
    exact w2 (i + 1) x (by rw [List.getElem?_cons_succ]; exact hx)
  · intro i
    have hki := (List.nodup_cons.mp w3).1
    have v4 : vN (upd S (166 + 13 * k + 4) 0) 4 = vN S 4 := by unfold vN; rw [upd_n (by omega)]
    rw [v4]
    constructor
    · intro z
      have e : i ≠ k := fun e => hki (e ▸ z)
      have := (w4 i).mp (List.mem_cons_of_mem _ z)
      exact ⟨this.1, by rw [upd_n (by omega)]; exact this.2⟩
    · rintro ⟨z1, z2⟩
      by_cases e : i = k
      · subst e; rw [upd_s] at z2; exact absurd z2 (by decide)
      · rw [upd_n (by omega)] at z2
        rcases List.mem_cons.mp ((w4 i).mpr ⟨z1, z2⟩) with q | q
        · exact absurd q e
        · exact q
  · refine (List.pairwise_cons.mp w5).2.imp fun {a c} q => ?_
    unfold earlS
    rw [upd_n (by omega), upd_n (by omega), upd_n (by omega), upd_n (by omega)]
    exact q
set_option maxRecDepth 100000 in
set_option maxHeartbeats 4000000 in
theorem x_acknowledgeDue (hM : pw_brd sh P b) (h : w_acknowledgeDue b S Ag I K) : pw_ok mX0_acknowledgeDue 1 base n sh P Ag I K := by
  unfold w_acknowledgeDue at h
  split at h
  · rename_i o
    obtain ⟨rfl, hI, hR, hA⟩ := h
    obtain ⟨b0, ⟨b1, b2⟩, bN, ⟨b3, b4⟩, bL, -, ⟨b5, b6⟩, -⟩ := id hM
    refine pw_bd [_, _, _, _] pl_X0 c_r rfl rfl ?_
    have exit : ∀ (J : pw_I) (T : Nat → Int32) (c : Int32), RelB J o T → brdOK o I J → (∀ J', brdOK o I J' → RelB J' o (upd T 9 (T 9 + c)) → K (some (.int c)) J') → PW (mX0_acknowledgeDue, 1, 0, 0, none, base) n sh P J 0 0 73 [some (.ref o), some (.int c), none, none] [] (pw_QK n sh P K) := by
      intro J T c hT hJ hK
      obtain ⟨f1, f2, f3, f4, f5, f6, f7⟩ := hT.1
      refine pw_go okX0_acknowledgeDue (cc []) ⟨Nat.le_refl _, Nat.le_refl _⟩ cc_n (st0) 60 ?_
      simp only [↓f_vc_s, ↓vk_i, ↓cc_i, ↓reduceIte, f_vq_s, Bool.false_eq_true, ↓f_e_iconst, ↓f_e_bipush, ↓f_e_sipush, ↓f_e_ldc, ↓f_e_ldc_w, ↓f_e_iload_n, ↓f_e_iload, ↓f_e_aload_n, ↓f_e_aload, ↓f_e_istore_n, ↓f_e_istore, ↓f_e_astore_n, ↓f_e_astore, ↓f_e_iinc, ↓f_e_iadd, ↓f_e_isub, ↓f_e_imul, ↓f_e_iand, ↓f_e_ior, ↓f_e_ixor, ↓f_e_idiv, ↓f_e_irem, ↓f_e_ishl, ↓f_e_ishr, ↓f_e_iushr, ↓f_e_i2c, ↓f_e_dup, ↓f_e_dup2, ↓f_e_pop, ↓f_e_goto, ↓f_e_ifCond, ↓f_e_if_icmp, ↓f_e_tableswitch, ↓f_e_lookupswitch, ↓f_e_getfield_i, ↓f_e_getfield_r, ↓f_e_putfield_i, ↓f_e_putfield_z, ↓f_e_iaload, ↓f_e_caload, ↓f_e_aaload, ↓f_e_iastore, ↓f_e_castore, ↓f_e_arraylength, ↓f_e_invokestatic, ↓f_e_invokevirtual, ↓f_e_ireturn, ↓f_e_return_, ↓f_s_i_c, ↓f_s_r_c, ↓f_s_v_i, ↓f_s_v_r, ↓f_s_l_0, ↓s_l_1, ↓s_l_2, ↓s_l_3, ↓s_l_4, ↓s_l_5, ↓s_l_6, ↓s_a_0, ↓s_a_1, ↓s_a_2, ↓s_a_3, ↓s_m_0, ↓f_s_m_i, ↓f_s_m_r, ↓f_s_m_i7, ↓f_s_m_r7, ↓f_s_m_i6, ↓f_s_m_r6, ↓f_s_m_i5, ↓f_s_m_r5, ↓f_s_m_i4, ↓f_s_m_r4, ↓f_s_w_n, ↓f_s_w_c, ↓f_s_p_eq, ↓f_s_p_ne, ↓f_s_p_lt, ↓f_s_p_ge, ↓f_s_p_gt, ↓f_s_p_le, ↓nk_i, ↓nk_z, ↓nk_c, ↓rf_s, ↓ov_s, ↓ov_n, ↓fin0, ↓fin1, ↓fin2, ↓fin3, cond_true, cond_false, List.set_cons_zero, List.set_cons_succ, List.length_cons, List.length_nil, true_and, and_true, true_or, or_true, implies_true, forall_const, not_true_eq_false, not_false_eq_true, false_implies, Nat.reduceAdd, Nat.reduceLT, Nat.reduceBEq, Nat.reduceEqDiff, Bool.or_false, Bool.false_or, Bool.or_true, Bool.true_or, beq_self_eq_true, Nat.reduceLeDiff, Nat.reduceMul, Nat.reduceSub, eq_self, Nat.reduceBneDiff, st0_s, st1_s, st2_s, st3_s, reduceCtorEq, cc_0, tl_0, cl_0, il_0, tl_1, cl_1, il_1, tl_2, cl_2, il_2, tl_3, cl_3, il_3, tl_4, cl_4, il_4, tl_5, cl_5, il_5, tl_6, cl_6, il_6, tl_7, cl_7, il_7, tl_8, cl_8, il_8, tl_9, cl_9, il_9, tl_10, cl_10, il_10, tl_11, cl_11, il_11, tl_12, cl_12, il_12, tl_13, cl_13, il_13, tl_14, cl_14, il_14, tl_15, cl_15, il_15, tl_16, cl_16, il_16, tl_20, tl_21, tl_25, tl_32, tl_48, tl_50, tl_57, tl_58, tl_59, tl_60, tl_99, tl_100, tl_101, tl_108, tl_109, tl_116, tl_120, tl_126, tl_374, tl_1122, tl_50000, i10, i01, tl_m1, tl_m2, tl_m3, tl_m4, nr_X0_acknowledgeDue, tX0_acknowledgeDue_0, tX0_acknowledgeDue_1, tX0_acknowledgeDue_2, tX0_acknowledgeDue_3, tX0_acknowledgeDue_4, tX0_acknowledgeDue_5, tX0_acknowledgeDue_7, tX0_acknowledgeDue_10, tX0_acknowledgeDue_11, tX0_acknowledgeDue_14, tX0_acknowledgeDue_15, tX0_acknowledgeDue_18, tX0_acknowledgeDue_19, tX0_acknowledgeDue_20, tX0_acknowledgeDue_21, tX0_acknowledgeDue_24, tX0_acknowledgeDue_27, tX0_acknowledgeDue_28, tX0_acknowledgeDue_31, tX0_acknowledgeDue_32, tX0_acknowledgeDue_33, tX0_acknowledgeDue_36, tX0_acknowledgeDue_37, tX0_acknowledgeDue_40, tX0_acknowledgeDue_43, tX0_acknowledgeDue_46, tX0_acknowledgeDue_47, tX0_acknowledgeDue_50, tX0_acknowledgeDue_51, tX0_acknowledgeDue_54, tX0_acknowledgeDue_55, tX0_acknowledgeDue_58, tX0_acknowledgeDue_59, tX0_acknowledgeDue_60, tX0_acknowledgeDue_61, tX0_acknowledgeDue_64, tX0_acknowledgeDue_67, tX0_acknowledgeDue_70, tX0_acknowledgeDue_73, tX0_acknowledgeDue_74, tX0_acknowledgeDue_75, tX0_acknowledgeDue_78, tX0_acknowledgeDue_79, tX0_acknowledgeDue_80, tX0_acknowledgeDue_83, tX0_acknowledgeDue_84, pw_QK_s, b0, f7]
      refine hK _ (fun a h => by rw [up_set, set_n (by omega)]; exact hJ a h) (hT.dir (fun a h => by rw [up_set, set_n h]) (fun k hk => upd_n (by omega)) ?_)
      unfold relF
      rw [up_n (by omega), up_n (by omega), up_n (by omega), up_n (by omega), up_n (by omega), up_n (by omega), up_r, upd_n (by omega), upd_n (by omega), upd_n (by omega), upd_n (by omega), upd_n (by omega), upd_s]
      exact ⟨f1, f2, f3, f4, f5, f6, rfl⟩
    have loop : ∀ (V : List Nat) (J : pw_I) (T : Nat → Int32) (c : Int32) (t : Nat), t + V.length ≤ 16 → InvB T → relBW J o T V → brdOK o I J → (∀ J', brdOK o I J' → RelB J' o (upd (ackL T (vN T 4)) 9 (T 9 + (c + ackC T (vN T 4)))) → K (some (.int (c + ackC T (vN T 4)))) J') → ∀ z, PW (mX0_acknowledgeDue, 1, 0, 0, none, base) n sh P J 0 0 4 [some (.ref o), some (.int c), some (.int (nI t)), z] [] (pw_QK n sh P K) := by
      intro V
      induction V with
      | nil =>
        intro J T c t ht hT hV hJ hK z
        have nd : ∀ i, i < vN T 4 → dueS T i = false := fun i hi => by
          unfold dueS
          rw [beq_f (fun e => absurd ((hV.2.2.2.2.2.2.2.1 i).mpr ⟨hi, e⟩) (by simp)), Bool.false_and]
        rw [ackL_none _ nd, ackC_none nd, Int32.add_zero] at hK
        have ex := exit J T c hV.rel hJ hK
        have e39 : J (o + 39) 1 = 0 := hV.2.2.2.2.1
        have f2 := hV.1.2.1
        refine PW.weak (L := [some (.ref o), some (.int c), some (.int (nI t)), none]) ?_ ⟨rfl, rfl, rfl, trivial⟩
        refine pw_go okX0_acknowledgeDue (cc [(60, (w_get (o + 39) (o + 40))), (3, (w_hasLine o T)), (62, (w_remove (o + 39) (o + 40)))]) ⟨Nat.le_refl _, Nat.le_refl _⟩ (cc_c (fun Ag I K h => ⟨0, Nat.le_of_ble_eq_true rfl, x_get b6 h⟩) (cc_c (fun Ag I K h => ⟨0, Nat.le_of_ble_eq_true rfl, x_hasLine hM h⟩) (cc_c (fun Ag I K h => ⟨0, Nat.le_of_ble_eq_true rfl, x_remove b6 h⟩) cc_n))) (st2 4 73) 90 ?_
        simp only [↓f_vc_s, ↓vk_i, ↓cc_i, ↓reduceIte, f_vq_s, Bool.false_eq_true, ↓f_e_iconst, ↓f_e_bipush, ↓f_e_sipush, ↓f_e_ldc, ↓f_e_ldc_w, ↓f_e_iload_n, ↓f_e_iload, ↓f_e_aload_n, ↓f_e_aload, ↓f_e_istore_n, ↓f_e_istore, ↓f_e_astore_n, ↓f_e_astore, ↓f_e_iinc, ↓f_e_iadd, ↓f_e_isub, ↓f_e_imul, ↓f_e_iand, ↓f_e_ior, ↓f_e_ixor, ↓f_e_idiv, ↓f_e_irem, ↓f_e_ishl, ↓f_e_ishr, ↓f_e_iushr, ↓f_e_i2c, ↓f_e_dup, ↓f_e_dup2, ↓f_e_pop, ↓f_e_goto, ↓f_e_ifCond, ↓f_e_if_icmp, ↓f_e_tableswitch, ↓f_e_lookupswitch, ↓f_e_getfield_i, ↓f_e_getfield_r, ↓f_e_putfield_i, ↓f_e_putfield_z, ↓f_e_iaload, ↓f_e_caload, ↓f_e_aaload, ↓f_e_iastore, ↓f_e_castore, ↓f_e_arraylength, ↓f_e_invokestatic, ↓f_e_invokevirtual, ↓f_e_ireturn, ↓f_e_return_, ↓f_s_i_c, ↓f_s_r_c, ↓f_s_v_i, ↓f_s_v_r, ↓f_s_l_0, ↓s_l_1, ↓s_l_2, ↓s_l_3, ↓s_l_4, ↓s_l_5, ↓s_l_6, ↓s_a_0, ↓s_a_1, ↓s_a_2, ↓s_a_3, ↓s_m_0, ↓f_s_m_i, ↓f_s_m_r, ↓f_s_m_i7, ↓f_s_m_r7, ↓f_s_m_i6, ↓f_s_m_r6, ↓f_s_m_i5, ↓f_s_m_r5, ↓f_s_m_i4, ↓f_s_m_r4, ↓f_s_w_n, ↓f_s_w_c, ↓f_s_p_eq, ↓f_s_p_ne, ↓f_s_p_lt, ↓f_s_p_ge, ↓f_s_p_gt, ↓f_s_p_le, ↓nk_i, ↓nk_z, ↓nk_c, ↓rf_s, ↓ov_s, ↓ov_n, ↓fin0, ↓fin1, ↓fin2, ↓fin3, cond_true, cond_false, List.set_cons_zero, List.set_cons_succ, List.length_cons, List.length_nil, true_and, and_true, true_or, or_true, implies_true, forall_const, not_true_eq_false, not_false_eq_true, false_implies, Nat.reduceAdd, Nat.reduceLT, Nat.reduceBEq, Nat.reduceEqDiff, Bool.or_false, Bool.false_or, Bool.or_true, Bool.true_or, beq_self_eq_true, Nat.reduceLeDiff, Nat.reduceMul, Nat.reduceSub, eq_self, Nat.reduceBneDiff, st0_s, st1_s, st2_s, st3_s, reduceCtorEq, cc_0, tl_0, cl_0, il_0, tl_1, cl_1, il_1, tl_2, cl_2, il_2, tl_3, cl_3, il_3, tl_4, cl_4, il_4, tl_5, cl_5, il_5, tl_6, cl_6, il_6, tl_7, cl_7, il_7, tl_8, cl_8, il_8, tl_9, cl_9, il_9, tl_10, cl_10, il_10, tl_11, cl_11, il_11, tl_12, cl_12, il_12, tl_13, cl_13, il_13, tl_14, cl_14, il_14, tl_15, cl_15, il_15, tl_16, cl_16, il_16, tl_20, tl_21, tl_25, tl_32, tl_48, tl_50, tl_57, tl_58, tl_59, tl_60, tl_99, tl_100, tl_101, tl_108, tl_109, tl_116, tl_120, tl_126, tl_374, tl_1122, tl_50000, i10, i01, tl_m1, tl_m2, tl_m3, tl_m4, nr_X0_acknowledgeDue, tX0_acknowledgeDue_0, tX0_acknowledgeDue_1, tX0_acknowledgeDue_2, tX0_acknowledgeDue_3, tX0_acknowledgeDue_4, tX0_acknowledgeDue_5, tX0_acknowledgeDue_7, tX0_acknowledgeDue_10, tX0_acknowledgeDue_11, tX0_acknowledgeDue_14, tX0_acknowledgeDue_15, tX0_acknowledgeDue_18, tX0_acknowledgeDue_19, tX0_acknowledgeDue_20, tX0_acknowledgeDue_21, tX0_acknowledgeDue_24, tX0_acknowledgeDue_27, tX0_acknowledgeDue_28, tX0_acknowledgeDue_31, tX0_acknowledgeDue_32, tX0_acknowledgeDue_33, tX0_acknowledgeDue_36, tX0_acknowledgeDue_37, tX0_acknowledgeDue_40, tX0_acknowledgeDue_43, tX0_acknowledgeDue_46, tX0_acknowledgeDue_47, tX0_acknowledgeDue_50, tX0_acknowledgeDue_51, tX0_acknowledgeDue_54, tX0_acknowledgeDue_55, tX0_acknowledgeDue_58, tX0_acknowledgeDue_59, tX0_acknowledgeDue_60, tX0_acknowledgeDue_61, tX0_acknowledgeDue_64, tX0_acknowledgeDue_67, tX0_acknowledgeDue_70, tX0_acknowledgeDue_73, tX0_acknowledgeDue_74, tX0_acknowledgeDue_75, tX0_acknowledgeDue_78, tX0_acknowledgeDue_79, tX0_acknowledgeDue_80, tX0_acknowledgeDue_83, tX0_acknowledgeDue_84, pw_QK_s, b0, b5, b6.1, e39, f2, ↓w_get, ↓w_hasLine, ↓w_remove]
        refine ⟨fun _ => PW.weak ex ⟨rfl, rfl, trivial⟩, fun _ => ⟨by decide, fun q => absurd q (by decide), fun _ => ⟨fun q => absurd q.1 (by decide), fun _ => PW.weak ex ⟨rfl, rfl, trivial⟩⟩⟩⟩
      | cons k V ih =>
        intro J T c t ht hT hV hJ hK z
        rw [List.length_cons] at ht
        have e39 : J (o + 39) 1 = nI (V.length + 1) := hV.2.2.2.2.1
        have e40 : J (o + 40) 0 = nI k := hV.2.2.2.2.2.1 0 k rfl
        have f2 := hV.1.2.1
        have f4 := hV.1.2.2.2.1
        have hk := (hV.2.2.2.2.2.2.2.1 k).mp List.mem_cons_self
        have h4 := hT.2.1
        have hk16 : k < 16 := by omega
        obtain ⟨l1, l2⟩ := bL k hk16
        have r := hV.2.2.1 k hk16
        have r11 := r.2.2.2.2.2.2.2.2.2.2.2
        have ck : (nI k).toNatClampNeg = k := cl_nI (by omega)
        have l4 : (T 4).toInt = (vN T 4 : Int) := (congrArg Int32.toInt h4.1).trans (ti_nI (by omega))
        have tk : (nI k).toInt = (k : Int) := ti_nI (by omega)
        have tv : (nI (V.length + 1)).toInt = ((V.length + 1 : Nat) : Int) := ti_nI (by omega)
        have hpop := hV.pop hT
        have ex : ¬ T (166 + 13 * k + 11) ≤ T 0 → PW (mX0_acknowledgeDue, 1, 0, 0, none, base) n sh P J 0 0 73 [some (.ref o), some (.int c), none, none] [] (pw_QK n sh P K) := fun q => by
          have nd : ∀ i, i < vN T 4 → dueS T i = false := fun i hi => by
            unfold dueS
            by_cases e : T (166 + 13 * i + 4) = 2
            · have hm := (hV.2.2.2.2.2.2.2.1 i).mpr ⟨hi, e⟩
              have : ¬ T (166 + 13 * i + 11) ≤ T 0 := by
                rcases List.mem_cons.mp hm with z | z
                · rw [z]; exact q
                · have := (List.pairwise_cons.mp hV.2.2.2.2.2.2.2.2).1 i z
                  unfold earlS at this
                  simp only [ti_le, ti_lt, ti_eq] at this q ⊢
                  omega
              rw [decide_eq_false this, Bool.and_false]
            · rw [beq_f e, Bool.false_and]
          rw [ackL_none _ nd, ackC_none nd, Int32.add_zero] at hK
          exact exit J T c hV.rel hJ hK
        have nx : T (166 + 13 * k + 11) ≤ T 0 → ∀ z, PW (mX0_acknowledgeDue, 1, 0, 0, none, base) n sh P (pw_up (pw_set (pw_set J (o + 40) (remF (J (o + 40)) 0 (V.length + 1))) (o + 39) (upd (J (o + 39)) 1 (nI V.length))) (o + 21 + k) 5 0) 0 0 4 [some (.ref o), some (.int (c + 1)), some (.int (nI (t + 1))), z] [] (pw_QK n sh P K) := fun q => by
          have hd : dueS T k = true := by
            unfold dueS
            rw [beq_t hk.2, decide_eq_true q]; rfl
          refine ih _ (upd T (166 + 13 * k + 4) 0) (c + 1) (t + 1) (by omega) (hT.sta (Or.inl rfl)) hpop (fun a h => by rw [up_set, set_n (by omega), set_n (by omega), set_n (by omega)]; exact hJ a h) ?_
          have v4 : vN (upd T (166 + 13 * k + 4) 0) 4 = vN T 4 := by unfold vN; rw [upd_n (by omega)]
          rw [v4, ackL_one hd _ hk.1, upd_n (by omega), Int32.add_assoc c, ← ackC_one hd hk.1]
          exact hK
        refine PW.weak (L := [some (.ref o), some (.int c), some (.int (nI t)), none]) ?_ ⟨rfl, rfl, rfl, trivial⟩
        refine pw_go okX0_acknowledgeDue (cc [(60, (w_get (o + 39) (o + 40))), (3, (w_hasLine o T)), (62, (w_remove (o + 39) (o + 40)))]) ⟨Nat.le_refl _, Nat.le_refl _⟩ (cc_c (fun Ag I K h => ⟨0, Nat.le_of_ble_eq_true rfl, x_get b6 h⟩) (cc_c (fun Ag I K h => ⟨0, Nat.le_of_ble_eq_true rfl, x_hasLine hM h⟩) (cc_c (fun Ag I K h => ⟨0, Nat.le_of_ble_eq_true rfl, x_remove b6 h⟩) cc_n))) (st2 4 73) 90 ?_
        simp only [↓f_vc_s, ↓vk_i, ↓cc_i, ↓reduceIte, f_vq_s, Bool.false_eq_true, ↓f_e_iconst, ↓f_e_bipush, ↓f_e_sipush, ↓f_e_ldc, ↓f_e_ldc_w, ↓f_e_iload_n, ↓f_e_iload, ↓f_e_aload_n, ↓f_e_aload, ↓f_e_istore_n, ↓f_e_istore, ↓f_e_astore_n, ↓f_e_astore, ↓f_e_iinc, ↓f_e_iadd, ↓f_e_isub, ↓f_e_imul, ↓f_e_iand, ↓f_e_ior, ↓f_e_ixor, ↓f_e_idiv, ↓f_e_irem, ↓f_e_ishl, ↓f_e_ishr, ↓f_e_iushr, ↓f_e_i2c, ↓f_e_dup, ↓f_e_dup2, ↓f_e_pop, ↓f_e_goto, ↓f_e_ifCond, ↓f_e_if_icmp, ↓f_e_tableswitch, ↓f_e_lookupswitch, ↓f_e_getfield_i, ↓f_e_getfield_r, ↓f_e_putfield_i, ↓f_e_putfield_z, ↓f_e_iaload, ↓f_e_caload, ↓f_e_aaload, ↓f_e_iastore, ↓f_e_castore, ↓f_e_arraylength, ↓f_e_invokestatic, ↓f_e_invokevirtual, ↓f_e_ireturn, ↓f_e_return_, ↓f_s_i_c, ↓f_s_r_c, ↓f_s_v_i, ↓f_s_v_r, ↓f_s_l_0, ↓s_l_1, ↓s_l_2, ↓s_l_3, ↓s_l_4, ↓s_l_5, ↓s_l_6, ↓s_a_0, ↓s_a_1, ↓s_a_2, ↓s_a_3, ↓s_m_0, ↓f_s_m_i, ↓f_s_m_r, ↓f_s_m_i7, ↓f_s_m_r7, ↓f_s_m_i6, ↓f_s_m_r6, ↓f_s_m_i5, ↓f_s_m_r5, ↓f_s_m_i4, ↓f_s_m_r4, ↓f_s_w_n, ↓f_s_w_c, ↓f_s_p_eq, ↓f_s_p_ne, ↓f_s_p_lt, ↓f_s_p_ge, ↓f_s_p_gt, ↓f_s_p_le, ↓nk_i, ↓nk_z, ↓nk_c, ↓rf_s, ↓ov_s, ↓ov_n, ↓fin0, ↓fin1, ↓fin2, ↓fin3, cond_true, cond_false, List.set_cons_zero, List.set_cons_succ, List.length_cons, List.length_nil, true_and, and_true, true_or, or_true, implies_true, forall_const, not_true_eq_false, not_false_eq_true, false_implies, Nat.reduceAdd, Nat.reduceLT, Nat.reduceBEq, Nat.reduceEqDiff, Bool.or_false, Bool.false_or, Bool.or_true, Bool.true_or, beq_self_eq_true, Nat.reduceLeDiff, Nat.reduceMul, Nat.reduceSub, eq_self, Nat.reduceBneDiff, st0_s, st1_s, st2_s, st3_s, reduceCtorEq, cc_0, tl_0, cl_0, il_0, tl_1, cl_1, il_1, tl_2, cl_2, il_2, tl_3, cl_3, il_3, tl_4, cl_4, il_4, tl_5, cl_5, il_5, tl_6, cl_6, il_6, tl_7, cl_7, il_7, tl_8, cl_8, il_8, tl_9, cl_9, il_9, tl_10, cl_10, il_10, tl_11, cl_11, il_11, tl_12, cl_12, il_12, tl_13, cl_13, il_13, tl_14, cl_14, il_14, tl_15, cl_15, il_15, tl_16, cl_16, il_16, tl_20, tl_21, tl_25, tl_32, tl_48, tl_50, tl_57, tl_58, tl_59, tl_60, tl_99, tl_100, tl_101, tl_108, tl_109, tl_116, tl_120, tl_126, tl_374, tl_1122, tl_50000, i10, i01, tl_m1, tl_m2, tl_m3, tl_m4, nr_X0_acknowledgeDue, tX0_acknowledgeDue_0, tX0_acknowledgeDue_1, tX0_acknowledgeDue_2, tX0_acknowledgeDue_3, tX0_acknowledgeDue_4, tX0_acknowledgeDue_5, tX0_acknowledgeDue_7, tX0_acknowledgeDue_10, tX0_acknowledgeDue_11, tX0_acknowledgeDue_14, tX0_acknowledgeDue_15, tX0_acknowledgeDue_18, tX0_acknowledgeDue_19, tX0_acknowledgeDue_20, tX0_acknowledgeDue_21, tX0_acknowledgeDue_24, tX0_acknowledgeDue_27, tX0_acknowledgeDue_28, tX0_acknowledgeDue_31, tX0_acknowledgeDue_32, tX0_acknowledgeDue_33, tX0_acknowledgeDue_36, tX0_acknowledgeDue_37, tX0_acknowledgeDue_40, tX0_acknowledgeDue_43, tX0_acknowledgeDue_46, tX0_acknowledgeDue_47, tX0_acknowledgeDue_50, tX0_acknowledgeDue_51, tX0_acknowledgeDue_54, tX0_acknowledgeDue_55, tX0_acknowledgeDue_58, tX0_acknowledgeDue_59, tX0_acknowledgeDue_60, tX0_acknowledgeDue_61, tX0_acknowledgeDue_64, tX0_acknowledgeDue_67, tX0_acknowledgeDue_70, tX0_acknowledgeDue_73, tX0_acknowledgeDue_74, tX0_acknowledgeDue_75, tX0_acknowledgeDue_78, tX0_acknowledgeDue_79, tX0_acknowledgeDue_80, tX0_acknowledgeDue_83, tX0_acknowledgeDue_84, pw_QK_s, b0, b3, b4, b5, b6.1, ck, l1, l2, e39, e40, f2, f4, r11, ↓w_get, ↓w_hasLine, ↓w_remove]
        rw [tk, l4, tv, ix_1]
        refine ⟨fun q => absurd q (nI_ge (a := t) (b := 16) (by omega) (by omega)), fun _ => ⟨by omega, fun _ => ⟨fun _ => ⟨in_nI hk16 (by omega), fun q => ⟨V.length + 1, 0, rfl, by omega, rfl, by omega, in_nI hk16 (by omega), PW.weak (nx q none) ⟨rfl, rfl, rfl, trivial⟩⟩, fun q => PW.weak (ex q) ⟨rfl, rfl, trivial⟩⟩, fun q => absurd (by omega) q⟩, fun q => absurd (by omega) q⟩⟩
    obtain ⟨V, hV⟩ := hR.bw
    have h4 := hI.2.1.2
    have hlen : V.length ≤ 16 := hV.2.2.2.2.2.2.len h4
    have := loop V I S 0 0 (by omega) hI hV (fun a _ => rfl) (fun J' h1 h2 => by rw [Int32.zero_add] at h2 ⊢; exact hA J' h1 h2) none
    refine pw_go okX0_acknowledgeDue (cc []) ⟨Nat.le_refl _, Nat.le_refl _⟩ cc_n (st1 4) 60 ?_
    simp only [↓f_vc_s, ↓vk_i, ↓cc_i, ↓reduceIte, f_vq_s, Bool.false_eq_true, ↓f_e_iconst, ↓f_e_bipush, ↓f_e_sipush, ↓f_e_ldc, ↓f_e_ldc_w, ↓f_e_iload_n, ↓f_e_iload, ↓f_e_aload_n, ↓f_e_aload, ↓f_e_istore_n, ↓f_e_istore, ↓f_e_astore_n, ↓f_e_astore, ↓f_e_iinc, ↓f_e_iadd, ↓f_e_isub, ↓f_e_imul, ↓f_e_iand, ↓f_e_ior, ↓f_e_ixor, ↓f_e_idiv, ↓f_e_irem, ↓f_e_ishl, ↓f_e_ishr, ↓f_e_iushr, ↓f_e_i2c, ↓f_e_dup, ↓f_e_dup2, ↓f_e_pop, ↓f_e_goto, ↓f_e_ifCond, ↓f_e_if_icmp, ↓f_e_tableswitch, ↓f_e_lookupswitch, ↓f_e_getfield_i, ↓f_e_getfield_r, ↓f_e_putfield_i, ↓f_e_putfield_z, ↓f_e_iaload, ↓f_e_caload, ↓f_e_aaload, ↓f_e_iastore, ↓f_e_castore, ↓f_e_arraylength, ↓f_e_invokestatic, ↓f_e_invokevirtual, ↓f_e_ireturn, ↓f_e_return_, ↓f_s_i_c, ↓f_s_r_c, ↓f_s_v_i, ↓f_s_v_r, ↓f_s_l_0, ↓s_l_1, ↓s_l_2, ↓s_l_3, ↓s_l_4, ↓s_l_5, ↓s_l_6, ↓s_a_0, ↓s_a_1, ↓s_a_2, ↓s_a_3, ↓s_m_0, ↓f_s_m_i, ↓f_s_m_r, ↓f_s_m_i7, ↓f_s_m_r7, ↓f_s_m_i6, ↓f_s_m_r6, ↓f_s_m_i5, ↓f_s_m_r5, ↓f_s_m_i4, ↓f_s_m_r4, ↓f_s_w_n, ↓f_s_w_c, ↓f_s_p_eq, ↓f_s_p_ne, ↓f_s_p_lt, ↓f_s_p_ge, ↓f_s_p_gt, ↓f_s_p_le, ↓nk_i, ↓nk_z, ↓nk_c, ↓rf_s, ↓ov_s, ↓ov_n, ↓fin0, ↓fin1, ↓fin2, ↓fin3, cond_true, cond_false, List.set_cons_zero, List.set_cons_succ, List.length_cons, List.length_nil, true_and, and_true, true_or, or_true, implies_true, forall_const, not_true_eq_false, not_false_eq_true, false_implies, Nat.reduceAdd, Nat.reduceLT, Nat.reduceBEq, Nat.reduceEqDiff, Bool.or_false, Bool.false_or, Bool.or_true, Bool.true_or, beq_self_eq_true, Nat.reduceLeDiff, Nat.reduceMul, Nat.reduceSub, eq_self, Nat.reduceBneDiff, st0_s, st1_s, st2_s, st3_s, reduceCtorEq, cc_0, tl_0, cl_0, il_0, tl_1, cl_1, il_1, tl_2, cl_2, il_2, tl_3, cl_3, il_3, tl_4, cl_4, il_4, tl_5, cl_5, il_5, tl_6, cl_6, il_6, tl_7, cl_7, il_7, tl_8, cl_8, il_8, tl_9, cl_9, il_9, tl_10, cl_10, il_10, tl_11, cl_11, il_11, tl_12, cl_12, il_12, tl_13, cl_13, il_13, tl_14, cl_14, il_14, tl_15, cl_15, il_15, tl_16, cl_16, il_16, tl_20, tl_21, tl_25, tl_32, tl_48, tl_50, tl_57, tl_58, tl_59, tl_60, tl_99, tl_100, tl_101, tl_108, tl_109, tl_116, tl_120, tl_126, tl_374, tl_1122, tl_50000, i10, i01, tl_m1, tl_m2, tl_m3, tl_m4, nr_X0_acknowledgeDue, tX0_acknowledgeDue_0, tX0_acknowledgeDue_1, tX0_acknowledgeDue_2, tX0_acknowledgeDue_3, tX0_acknowledgeDue_4, tX0_acknowledgeDue_5, tX0_acknowledgeDue_7, tX0_acknowledgeDue_10, tX0_acknowledgeDue_11, tX0_acknowledgeDue_14, tX0_acknowledgeDue_15, tX0_acknowledgeDue_18, tX0_acknowledgeDue_19, tX0_acknowledgeDue_20, tX0_acknowledgeDue_21, tX0_acknowledgeDue_24, tX0_acknowledgeDue_27, tX0_acknowledgeDue_28, tX0_acknowledgeDue_31, tX0_acknowledgeDue_32, tX0_acknowledgeDue_33, tX0_acknowledgeDue_36, tX0_acknowledgeDue_37, tX0_acknowledgeDue_40, tX0_acknowledgeDue_43, tX0_acknowledgeDue_46, tX0_acknowledgeDue_47, tX0_acknowledgeDue_50, tX0_acknowledgeDue_51, tX0_acknowledgeDue_54, tX0_acknowledgeDue_55, tX0_acknowledgeDue_58, tX0_acknowledgeDue_59, tX0_acknowledgeDue_60, tX0_acknowledgeDue_61, tX0_acknowledgeDue_64, tX0_acknowledgeDue_67, tX0_acknowledgeDue_70, tX0_acknowledgeDue_73, tX0_acknowledgeDue_74, tX0_acknowledgeDue_75, tX0_acknowledgeDue_78, tX0_acknowledgeDue_79, tX0_acknowledgeDue_80, tX0_acknowledgeDue_83, tX0_acknowledgeDue_84, pw_QK_s]
    exact this
  · exact h.elim
end ACK
