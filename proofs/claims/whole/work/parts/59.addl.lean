/-! the class's board: a line more -/
theorem lineS_eq {S : Nat → Int32} {j : Nat} {r t : Int32} (hj : j < 6) : lineS S j r t = upd (upd (upd (upd (upd (upd S (166 + 13 * vN S 4) (nI j)) (166 + 13 * vN S 4 + 1) r) (166 + 13 * vN S 4 + 2) t) 4 (nI (vN S 4 + 1))) (16 + 25 * j + 4 + cntS S j) (nI (vN S 4))) (16 + 25 * j + 3) (nI (cntS S j + 1)) := by
  have e : vN (upd (upd (upd (upd S (166 + 13 * vN S 4) (nI j)) (166 + 13 * vN S 4 + 1) r) (166 + 13 * vN S 4 + 2) t) 4 (nI (vN S 4 + 1))) (16 + 25 * j + 3) = cntS S j := by
    show (upd (upd (upd (upd S (166 + 13 * vN S 4) (nI j)) (166 + 13 * vN S 4 + 1) r) (166 + 13 * vN S 4 + 2) t) 4 (nI (vN S 4 + 1)) (16 + 25 * j + 3)).toNatClampNeg = _
    rw [upd_n (by omega), upd_n (by omega), upd_n (by omega), upd_n (by omega)]
  unfold lineS hangS
  rw [e]
theorem lineS_n {S : Nat → Int32} {j p : Nat} {r t : Int32} (hj : j < 6) (h1 : p ≠ 4) (h2 : p ≠ 166 + 13 * vN S 4) (h3 : p ≠ 166 + 13 * vN S 4 + 1) (h6 : p ≠ 166 + 13 * vN S 4 + 2) (h4 : p ≠ 16 + 25 * j + 3) (h5 : p ≠ 16 + 25 * j + 4 + cntS S j) : lineS S j r t p = S p := by
  rw [lineS_eq hj, upd_n h4, upd_n h5, upd_n h1, upd_n h6, upd_n h3, upd_n h2]
theorem lineS_v {S : Nat → Int32} {j : Nat} {r t : Int32} (hj : j < 6) (hc : cntS S j ≤ 20) : lineS S j r t 4 = nI (vN S 4 + 1) ∧ lineS S j r t (166 + 13 * vN S 4) = nI j ∧ lineS S j r t (166 + 13 * vN S 4 + 1) = r ∧ lineS S j r t (166 + 13 * vN S 4 + 2) = t ∧ lineS S j r t (16 + 25 * j + 3) = nI (cntS S j + 1) ∧ lineS S j r t (16 + 25 * j + 4 + cntS S j) = nI (vN S 4) := by
  have hc' : cntS S j ≤ 20 := hc
  rw [lineS_eq hj]
  refine ⟨?_, ?_, ?_, ?_, upd_s, ?_⟩
  · rw [upd_n (by omega), upd_n (by omega), upd_s]
  · rw [upd_n (by omega), upd_n (by omega), upd_n (by omega), upd_n (by omega), upd_n (by omega), upd_s]
  · rw [upd_n (by omega), upd_n (by omega), upd_n (by omega), upd_n (by omega), upd_s]
  · rw [upd_n (by omega), upd_n (by omega), upd_n (by omega), upd_s]
  · rw [upd_n (by omega), upd_s]
theorem line_rel {I J : pw_I} {b j : Nat} {S : Nat → Int32} {r t : Int32} (h : RelB I b S) (hI : InvB S) (h16 : vN S 4 < 16) (hj6 : j < 6) (hc : cntS S j ≤ 20) (hst : S (166 + 13 * vN S 4 + 4) = 0)
    (hJ : ∀ a, a ≠ b + 21 + vN S 4 → J a = I a) (m1 : J (b + 21 + vN S 4) = upd (upd (upd (upd (I (b + 21 + vN S 4)) 0 (nI j)) 12 (I (b + 2 + 3 * j) 3)) 1 r) 2 t) :
    RelB (pw_up (pw_set (pw_set J (b + 4 + 3 * j) (insF (J (b + 4 + 3 * j)) (cntS S j) (cntS S j) (nI (vN S 4)))) (b + 3 + 3 * j) (upd (J (b + 3 + 3 * j)) 1 (nI (cntS S j + 1)))) b 3 (nI (vN S 4 + 1))) b (lineS S j r t) := by
  obtain ⟨⟨f1, f2, f3, f4, f5, f6, f7⟩, hN, hL, hS, hY, W, w1, w2, w3⟩ := h
  have hc' : cntS S j ≤ 20 := hc
  obtain ⟨v4, vl0, vl1, vl2, vj3, vjc⟩ := lineS_v (r := r) (t := t) hj6 hc
  have vv4 : vN (lineS S j r t) 4 = vN S 4 + 1 := by
    show (lineS S j r t 4).toNatClampNeg = _
    rw [v4, cl_nI (by omega)]
  have hi : ∀ k c, k ≠ vN S 4 ∨ 3 ≤ c → c < 13 → lineS S j r t (166 + 13 * k + c) = S (166 + 13 * k + c) := fun k c hp h13 => lineS_n hj6 (by omega) (by omega) (by omega) (by omega) (by omega) (by omega)
  have lo : ∀ p, p < 16 → p ≠ 4 → lineS S j r t p = S p := fun p hp h3 => lineS_n hj6 h3 (by omega) (by omega) (by omega) (by omega) (by omega)
  have nd : ∀ i c, i < 6 → c < 3 → lineS S j r t (16 + 25 * i + c) = S (16 + 25 * i + c) := fun i c h1 h2 => lineS_n hj6 (by omega) (by omega) (by omega) (by omega) (by omega) (by omega)
  have n0 : ∀ i, i < 6 → lineS S j r t (16 + 25 * i) = S (16 + 25 * i) := fun i h1 => nd i 0 h1 (by omega)
  have oth : ∀ i c, i < 6 → i ≠ j → 3 ≤ c → c < 25 → lineS S j r t (16 + 25 * i + c) = S (16 + 25 * i + c) := fun i c h0 h1 h2 h3 => lineS_n hj6 (by omega) (by omega) (by omega) (by omega) (by omega) (by omega)
  have cj : cntS (lineS S j r t) j = cntS S j + 1 := by
    show (lineS S j r t (16 + 25 * j + 3)).toNatClampNeg = _
    rw [vj3, cl_nI (by omega)]
  have mb : pw_up (pw_set (pw_set J (b + 4 + 3 * j) (insF (J (b + 4 + 3 * j)) (cntS S j) (cntS S j) (nI (vN S 4)))) (b + 3 + 3 * j) (upd (J (b + 3 + 3 * j)) 1 (nI (cntS S j + 1)))) b 3 (nI (vN S 4 + 1)) b = upd (I b) 3 (nI (vN S 4 + 1)) := by
    rw [up_set, set_s, set_n (by omega), set_n (by omega), hJ b (by omega)]
  have mem : ∀ a, a ≠ b → a ≠ b + 4 + 3 * j → a ≠ b + 3 + 3 * j → pw_up (pw_set (pw_set J (b + 4 + 3 * j) (insF (J (b + 4 + 3 * j)) (cntS S j) (cntS S j) (nI (vN S 4)))) (b + 3 + 3 * j) (upd (J (b + 3 + 3 * j)) 1 (nI (cntS S j + 1)))) b 3 (nI (vN S 4 + 1)) a = J a := fun a a1 a2 a3 => by
    rw [up_set, set_n a1, set_n a3, set_n a2]
  have m4 : pw_up (pw_set (pw_set J (b + 4 + 3 * j) (insF (J (b + 4 + 3 * j)) (cntS S j) (cntS S j) (nI (vN S 4)))) (b + 3 + 3 * j) (upd (J (b + 3 + 3 * j)) 1 (nI (cntS S j + 1)))) b 3 (nI (vN S 4 + 1)) (b + 4 + 3 * j) = upd (I (b + 4 + 3 * j)) (cntS S j) (nI (vN S 4)) := by
    rw [up_set, set_n (by omega), set_n (by omega), set_s, insF_n, hJ _ (by omega)]
  have m5 : pw_up (pw_set (pw_set J (b + 4 + 3 * j) (insF (J (b + 4 + 3 * j)) (cntS S j) (cntS S j) (nI (vN S 4)))) (b + 3 + 3 * j) (upd (J (b + 3 + 3 * j)) 1 (nI (cntS S j + 1)))) b 3 (nI (vN S 4 + 1)) (b + 3 + 3 * j) 1 = nI (cntS S j + 1) := by
    rw [up_set, set_n (by omega), set_s, upd_s]
  generalize pw_up (pw_set (pw_set J (b + 4 + 3 * j) (insF (J (b + 4 + 3 * j)) (cntS S j) (cntS S j) (nI (vN S 4)))) (b + 3 + 3 * j) (upd (J (b + 3 + 3 * j)) 1 (nI (cntS S j + 1)))) b 3 (nI (vN S 4 + 1)) = M at mem mb m4 m5 ⊢
  have memI : ∀ a, a ≠ b → a ≠ b + 4 + 3 * j → a ≠ b + 3 + 3 * j → a ≠ b + 21 + vN S 4 → M a = I a := fun a a1 a2 a3 a4 => (mem a a1 a2 a3).trans (hJ a a4)
  have mL : M (b + 21 + vN S 4) = upd (upd (upd (upd (I (b + 21 + vN S 4)) 0 (nI j)) 12 (I (b + 2 + 3 * j) 3)) 1 r) 2 t := (mem _ (by omega) (by omega) (by omega)).trans m1
  have wy : ∀ i, i < 6 → wayF (lineS S j r t) i = wayF S i := fun i h1 => wayF_to hI (lo 3 (by omega) (by omega)) n0 h1
  refine ⟨⟨?_, ?_, ?_, ?_, ?_, ?_, ?_⟩, fun i h1 => ?_, fun k hk => ?_, hS.to (memI _ (by omega) (by omega) (by omega) (by omega)) (memI _ (by omega) (by omega) (by omega) (by omega)) hI.2.2.1.2 (fun i h1 h2 => lo i (by omega) (by omega)), fun k hk => ?_, W, ?_, ?_, ?_⟩
  · rw [mb, upd_n (by omega), lo 3 (by omega) (by omega)]; exact f1
  · rw [mb, upd_s, v4]
  · rw [mb, upd_n (by omega), f3]
    unfold setF setF setF setF setF setF setF
    rw [nd 0 2 (by omega) (by omega), nd 1 2 (by omega) (by omega), nd 2 2 (by omega) (by omega), nd 3 2 (by omega) (by omega), nd 4 2 (by omega) (by omega), nd 5 2 (by omega) (by omega)]
  · rw [mb, upd_n (by omega), lo 0 (by omega) (by omega)]; exact f4
  · rw [mb, upd_n (by omega), lo 1 (by omega) (by omega)]; exact f5
  · rw [mb, upd_n (by omega), lo 2 (by omega) (by omega)]; exact f6
  · rw [mb, upd_n (by omega), lo 9 (by omega) (by omega)]; exact f7
  · obtain ⟨a1, a2, a3, a4, a5⟩ := hN i h1
    by_cases e2 : i = j
    · subst e2
      unfold relN
      rw [cj, memI (b + 2 + 3 * i) (by omega) (by omega) (by omega) (by omega), m5, m4, wy i h1, vj3, n0 i h1, nd i 1 h1 (by omega)]
      refine ⟨a1, a2, a3, rfl, fun c hc => ?_⟩
      by_cases z : c = cntS S i
      · subst z
        rw [upd_s, vjc]
      · rw [upd_n z, a5 c (by omega)]
        exact (lineS_n hj6 (by omega) (by omega) (by omega) (by omega) (by omega) (by omega)).symm
    · exact (hN i h1).to (memI _ (by omega) (by omega) (by omega) (by omega)) (memI _ (by omega) (by omega) (by omega) (by omega)) (memI _ (by omega) (by omega) (by omega) (by omega)) (n0 i h1) (nd i 1 h1 (by omega)) (oth i 3 h1 e2 (by omega) (by omega)) (fun c hc => by rw [show 16 + 25 * i + 4 + c = 16 + 25 * i + (4 + c) by omega]; exact oth i (4 + c) h1 e2 (by omega) (by omega)) (hI.2.2.2.1 i h1).2.2.2 (wy i h1)
  · have rl := hL k hk
    by_cases e : k = vN S 4
    · subst e
      unfold relL
      rw [mL, vl0, vl1, vl2]
      refine ⟨?_, ?_, ?_, ?_, ?_, ?_, ?_, ?_, ?_, ?_, ?_, ?_⟩ <;> simp (disch := omega) only [upd_n, upd_s, hi, rl.2.2.2.1, rl.2.2.2.2.1, rl.2.2.2.2.2.1, rl.2.2.2.2.2.2.1, rl.2.2.2.2.2.2.2.1, rl.2.2.2.2.2.2.2.2.1, rl.2.2.2.2.2.2.2.2.2.1, rl.2.2.2.2.2.2.2.2.2.2.1, rl.2.2.2.2.2.2.2.2.2.2.2]
    · exact rl.to (memI _ (by omega) (by omega) (by omega) (by omega)) (fun c hc => hi k c (Or.inl e) (by omega))
  · rw [vv4] at hk
    by_cases e : k = vN S 4
    · subst e
      have ek : vN (lineS S j r t) (166 + 13 * vN S 4) = j := by
        show (lineS S j r t (166 + 13 * vN S 4)).toNatClampNeg = j
        rw [vl0, cl_nI (by omega)]
      rw [ek, mL, upd_n (by omega), upd_n (by omega), upd_s, memI (b + 2 + 3 * j) (by omega) (by omega) (by omega) (by omega)]
      exact ⟨h16, hj6, rfl⟩
    · obtain ⟨y1, y2, y3⟩ := hY k (by omega)
      have ek : vN (lineS S j r t) (166 + 13 * k) = vN S (166 + 13 * k) := by
        show (lineS S j r t (166 + 13 * k)).toNatClampNeg = (S (166 + 13 * k)).toNatClampNeg
        rw [show lineS S j r t (166 + 13 * k) = S (166 + 13 * k) from hi k 0 (Or.inl e) (by omega)]
      rw [ek, memI (b + 21 + k) (by omega) (by omega) (by omega) (by omega), memI (b + 2 + 3 * vN S (166 + 13 * k)) (by omega) (by omega) (by omega) (by omega)]
      exact ⟨y1, y2, y3⟩
  · rw [memI _ (by omega) (by omega) (by omega) (by omega)]; exact w1
  · rw [memI _ (by omega) (by omega) (by omega) (by omega)]; exact w2
  · obtain ⟨z1, z2, z3⟩ := w3
    have ne : ∀ k ∈ W, k ≠ vN S 4 := fun k hk e => by have := ((z2 k).mp hk).1; omega
    refine ⟨z1, fun k => ?_, z3.imp_of_mem fun {a c} ha hc q => ?_⟩
    · rw [vv4]
      constructor
      · intro z
        have := (z2 k).mp z
        exact ⟨by omega, by rw [hi k 4 (Or.inr (by omega)) (by omega)]; exact this.2⟩
      · rintro ⟨y1, y2⟩
        rw [hi k 4 (Or.inr (by omega)) (by omega)] at y2
        refine (z2 k).mpr ⟨?_, y2⟩
        rcases Nat.lt_or_ge k (vN S 4) with y | y
        · exact y
        · have : k = vN S 4 := by omega
          rw [this, hst] at y2
          exact absurd y2 (by decide)
    · unfold earlS
      rw [hi a 11 (Or.inr (by omega)) (by omega), hi c 11 (Or.inr (by omega)) (by omega), hi a 12 (Or.inr (by omega)) (by omega), hi c 12 (Or.inr (by omega)) (by omega)]
      exact q
section ADL
variable {n base b : Nat} {sh : pw_Sh} {P : pw_P} {Ag : List Value} {I : pw_I} {S : Nat → Int32} {K : Option Value → pw_I → Prop}
def okL3 (S : Nat → Int32) (x r t : Int32) : Prop := okNode S x ∧ (0 ≤ r.toInt ∧ r.toInt ≤ 7) ∧ bit01 t
def w_addLine (b : Nat) (S : Nat → Int32) : pw_Wp := fun Ag I K => match Ag with
  | [.ref o, .int x, .int r, .int t] => o = b ∧ InvB S ∧ RelB I b S ∧ (vN S 4 < 16 → S (166 + 13 * vN S 4 + 4) = 0 ∧ ∀ j, j < vN S 3 → cntS S j ≤ 20) ∧ (¬ okL3 S x r t → K (some (.int (-1))) I) ∧ (okL3 S x r t → vN S 4 = 16 → K (some (.int (-3))) I) ∧
    (okL3 S x r t → vN S 4 < 16 → ∀ J, brdOK b I J → RelB J b (lineS S x.toNatClampNeg r t) → K (some (.int (nI (vN S 4)))) J)
  | _ => False
set_option maxRecDepth 100000 in
set_option maxHeartbeats 4000000 in
theorem x_addLine (hM : pw_brd sh P b) (h : w_addLine b S Ag I K) : pw_ok mX0_addLine 1 base n sh P Ag I K := by
  unfold w_addLine at h
  split at h
  · rename_i o x r t
    obtain ⟨rfl, hI, hR, hcn, hA, hB, hC⟩ := h
    obtain ⟨b0, ⟨b1, b2⟩, bN, ⟨b3, b4⟩, bL, -⟩ := id hM
    have h3 := hI.1
    have h4 := hI.2.1
    have rF := hR.1
    have l3 : (S 3).toInt = (vN S 3 : Int) := (congrArg Int32.toInt h3.1).trans (ti_nI (by omega))
    have e2 : I o 3 = nI (vN S 4) := rF.2.1.trans h4.1
    refine pw_bd [_, _, _, _, _, _, _] pl_X0 c_riii rfl rfl ?_
    by_cases hx : okL3 S x r t
    · obtain ⟨hx1, hxr, hx2⟩ := id hx
      obtain ⟨j, rfl, hj⟩ := tn6 (x := x) ⟨hx1.1, by have := hx1.2; omega⟩
      have cj : (nI j).toNatClampNeg = j := cl_nI (by omega)
      have hj3 : j < vN S 3 := by have := hx1.2; rw [ti_nI (by omega), l3] at this; omega
      have hB := hB hx
      have hC := hC hx
      rw [cj] at hC
      have rr1 : ¬ r < 0 := by rw [ti_lt]; show ¬ _ < (0 : Int); omega
      have rr2 : r ≤ 7 := by rw [ti_le]; show _ ≤ (7 : Int); omega
      by_cases h6 : vN S 4 = 16
      · have hB := hB h6
        rw [h6] at e2
        refine pw_go okX0_addLine (cc [(2, (w_hasNode o S)), (91, w_bit)]) ⟨Nat.le_refl _, Nat.le_refl _⟩ (cc_c (fun Ag I K h => ⟨0, Nat.le_of_ble_eq_true rfl, x_hasNode hM h⟩) (cc_c (fun Ag I K h => ⟨0, Nat.le_of_ble_eq_true rfl, x_isBit6 h⟩) cc_n)) (st1 39) 60 ?_
        simp only [↓f_vc_s, ↓vk_i, ↓cc_i, ↓reduceIte, f_vq_s, Bool.false_eq_true, ↓f_e_iconst, ↓f_e_bipush, ↓f_e_sipush, ↓f_e_ldc, ↓f_e_ldc_w, ↓f_e_iload_n, ↓f_e_iload, ↓f_e_aload_n, ↓f_e_aload, ↓f_e_istore_n, ↓f_e_istore, ↓f_e_astore_n, ↓f_e_astore, ↓f_e_iinc, ↓f_e_iadd, ↓f_e_isub, ↓f_e_imul, ↓f_e_iand, ↓f_e_ior, ↓f_e_ixor, ↓f_e_idiv, ↓f_e_irem, ↓f_e_ishl, ↓f_e_ishr, ↓f_e_iushr, ↓f_e_i2c, ↓f_e_dup, ↓f_e_dup2, ↓f_e_pop, ↓f_e_goto, ↓f_e_ifCond, ↓f_e_if_icmp, ↓f_e_tableswitch, ↓f_e_lookupswitch, ↓f_e_getfield_i, ↓f_e_getfield_r, ↓f_e_putfield_i, ↓f_e_putfield_z, ↓f_e_iaload, ↓f_e_caload, ↓f_e_aaload, ↓f_e_iastore, ↓f_e_castore, ↓f_e_arraylength, ↓f_e_invokestatic, ↓f_e_invokevirtual, ↓f_e_ireturn, ↓f_e_return_, ↓f_s_i_c, ↓f_s_r_c, ↓f_s_v_i, ↓f_s_v_r, ↓f_s_l_0, ↓s_l_1, ↓s_l_2, ↓s_l_3, ↓s_l_4, ↓s_l_5, ↓s_l_6, ↓s_a_0, ↓s_a_1, ↓s_a_2, ↓s_a_3, ↓s_m_0, ↓f_s_m_i, ↓f_s_m_r, ↓f_s_m_i7, ↓f_s_m_r7, ↓f_s_m_i6, ↓f_s_m_r6, ↓f_s_m_i5, ↓f_s_m_r5, ↓f_s_m_i4, ↓f_s_m_r4, ↓f_s_w_n, ↓f_s_w_c, ↓f_s_p_eq, ↓f_s_p_ne, ↓f_s_p_lt, ↓f_s_p_ge, ↓f_s_p_gt, ↓f_s_p_le, ↓nk_i, ↓nk_z, ↓nk_c, ↓rf_s, ↓ov_s, ↓ov_n, ↓fin0, ↓fin1, ↓fin2, ↓fin3, cond_true, cond_false, List.set_cons_zero, List.set_cons_succ, List.length_cons, List.length_nil, true_and, and_true, true_or, or_true, implies_true, forall_const, not_true_eq_false, not_false_eq_true, false_implies, Nat.reduceAdd, Nat.reduceLT, Nat.reduceBEq, Nat.reduceEqDiff, Bool.or_false, Bool.false_or, Bool.or_true, Bool.true_or, beq_self_eq_true, Nat.reduceLeDiff, Nat.reduceMul, Nat.reduceSub, eq_self, Nat.reduceBneDiff, st0_s, st1_s, st2_s, st3_s, reduceCtorEq, cc_0, tl_0, cl_0, il_0, tl_1, cl_1, il_1, tl_2, cl_2, il_2, tl_3, cl_3, il_3, tl_4, cl_4, il_4, tl_5, cl_5, il_5, tl_6, cl_6, il_6, tl_7, cl_7, il_7, tl_8, cl_8, il_8, tl_9, cl_9, il_9, tl_10, cl_10, il_10, tl_11, cl_11, il_11, tl_12, cl_12, il_12, tl_13, cl_13, il_13, tl_14, cl_14, il_14, tl_15, cl_15, il_15, tl_16, cl_16, il_16, tl_20, tl_21, tl_25, tl_32, tl_48, tl_50, tl_57, tl_58, tl_59, tl_60, tl_99, tl_100, tl_101, tl_108, tl_109, tl_116, tl_120, tl_126, tl_374, tl_1122, tl_50000, i10, i01, tl_m1, tl_m2, tl_m3, tl_m4, nr_X0_addLine, tX0_addLine_0, tX0_addLine_1, tX0_addLine_2, tX0_addLine_5, tX0_addLine_8, tX0_addLine_9, tX0_addLine_12, tX0_addLine_13, tX0_addLine_15, tX0_addLine_18, tX0_addLine_19, tX0_addLine_22, tX0_addLine_25, tX0_addLine_26, tX0_addLine_27, tX0_addLine_28, tX0_addLine_31, tX0_addLine_33, tX0_addLine_36, tX0_addLine_38, tX0_addLine_39, tX0_addLine_40, tX0_addLine_43, tX0_addLine_45, tX0_addLine_46, tX0_addLine_49, tX0_addLine_51, tX0_addLine_52, tX0_addLine_54, tX0_addLine_56, tX0_addLine_57, tX0_addLine_60, tX0_addLine_62, tX0_addLine_63, tX0_addLine_66, tX0_addLine_67, tX0_addLine_68, tX0_addLine_71, tX0_addLine_74, tX0_addLine_76, tX0_addLine_77, tX0_addLine_80, tX0_addLine_82, tX0_addLine_83, tX0_addLine_84, tX0_addLine_87, tX0_addLine_88, tX0_addLine_91, tX0_addLine_92, tX0_addLine_95, tX0_addLine_96, tX0_addLine_99, tX0_addLine_100, tX0_addLine_101, tX0_addLine_104, tX0_addLine_106, tX0_addLine_108, tX0_addLine_110, tX0_addLine_113, tX0_addLine_115, tX0_addLine_118, tX0_addLine_119, tX0_addLine_120, tX0_addLine_123, tX0_addLine_124, tX0_addLine_125, tX0_addLine_128, tX0_addLine_130, pw_QK_s, b0, e2, ↓w_hasNode, ↓w_bit]
        exact ⟨rF, fun _ => ⟨fun z => absurd z rr1, fun _ => ⟨fun z => absurd rr2 (Int32.not_le.mpr z), fun _ => ⟨fun _ => ⟨fun q => absurd q (by decide), fun _ => hB⟩, fun q => absurd hx2 q⟩⟩⟩, fun q => absurd hx1 q⟩
      · have h6 : vN S 4 < 16 := by omega
        have hC := hC h6
        obtain ⟨hst, hcn⟩ := hcn h6
        have hc := hcn j hj3
        have cN : (nI (vN S 4)).toNatClampNeg = vN S 4 := cl_nI (by omega)
        obtain ⟨⟨n1, n2⟩, n4, n5⟩ := bN j hj
        obtain ⟨q1, q2⟩ := bL (vN S 4) h6
        obtain ⟨r1, r2, r3, r4, r5⟩ := hR.2.1 j hj
        have hcj := (hI.2.2.2.1 j hj).2.2.1
        have tail : ∀ (J : pw_I), (∀ a : Nat, a ≠ (o : Nat) + 21 + vN S 4 → J a = I a) → J (o + 21 + vN S 4) = upd (upd (upd (upd (I (o + 21 + vN S 4)) 0 (nI j)) 12 (I (o + 2 + 3 * j) 3)) 1 r) 2 t →
            PW (mX0_addLine, 1, 0, 0, none, base) n sh P J 0 0 106 [some (.ref o), some (.int (nI j)), some (.int r), some (.int t), some (.int (nI (vN S 4))), some (.ref (o + 21 + vN S 4)), some (.ref (o + 3 + 3 * j))] [] (pw_QK n sh P K) := by
          intro J hJ m1
          have hfin := line_rel hR hI h6 hj hc hst hJ m1
          have j4 : J (o + 3 + 3 * j) 1 = nI (cntS S j) := by rw [hJ _ (by omega)]; exact r4.trans hcj
          have jb : J o 3 = nI (vN S 4) := by rw [hJ _ (by omega)]; exact e2
          refine pw_go okX0_addLine (cc [(61, (w_insert (o + 3 + 3 * j) (o + 4 + 3 * j)))]) ⟨Nat.le_refl _, Nat.le_refl _⟩ (cc_c (fun Ag I K h => ⟨0, Nat.le_of_ble_eq_true rfl, x_insert n5 h⟩) cc_n) (st0) 60 ?_
          simp only [↓f_vc_s, ↓vk_i, ↓cc_i, ↓reduceIte, f_vq_s, Bool.false_eq_true, ↓f_e_iconst, ↓f_e_bipush, ↓f_e_sipush, ↓f_e_ldc, ↓f_e_ldc_w, ↓f_e_iload_n, ↓f_e_iload, ↓f_e_aload_n, ↓f_e_aload, ↓f_e_istore_n, ↓f_e_istore, ↓f_e_astore_n, ↓f_e_astore, ↓f_e_iinc, ↓f_e_iadd, ↓f_e_isub, ↓f_e_imul, ↓f_e_iand, ↓f_e_ior, ↓f_e_ixor, ↓f_e_idiv, ↓f_e_irem, ↓f_e_ishl, ↓f_e_ishr, ↓f_e_iushr, ↓f_e_i2c, ↓f_e_dup, ↓f_e_dup2, ↓f_e_pop, ↓f_e_goto, ↓f_e_ifCond, ↓f_e_if_icmp, ↓f_e_tableswitch, ↓f_e_lookupswitch, ↓f_e_getfield_i, ↓f_e_getfield_r, ↓f_e_putfield_i, ↓f_e_putfield_z, ↓f_e_iaload, ↓f_e_caload, ↓f_e_aaload, ↓f_e_iastore, ↓f_e_castore, ↓f_e_arraylength, ↓f_e_invokestatic, ↓f_e_invokevirtual, ↓f_e_ireturn, ↓f_e_return_, ↓f_s_i_c, ↓f_s_r_c, ↓f_s_v_i, ↓f_s_v_r, ↓f_s_l_0, ↓s_l_1, ↓s_l_2, ↓s_l_3, ↓s_l_4, ↓s_l_5, ↓s_l_6, ↓s_a_0, ↓s_a_1, ↓s_a_2, ↓s_a_3, ↓s_m_0, ↓f_s_m_i, ↓f_s_m_r, ↓f_s_m_i7, ↓f_s_m_r7, ↓f_s_m_i6, ↓f_s_m_r6, ↓f_s_m_i5, ↓f_s_m_r5, ↓f_s_m_i4, ↓f_s_m_r4, ↓f_s_w_n, ↓f_s_w_c, ↓f_s_p_eq, ↓f_s_p_ne, ↓f_s_p_lt, ↓f_s_p_ge, ↓f_s_p_gt, ↓f_s_p_le, ↓nk_i, ↓nk_z, ↓nk_c, ↓rf_s, ↓ov_s, ↓ov_n, ↓fin0, ↓fin1, ↓fin2, ↓fin3, cond_true, cond_false, List.set_cons_zero, List.set_cons_succ, List.length_cons, List.length_nil, true_and, and_true, true_or, or_true, implies_true, forall_const, not_true_eq_false, not_false_eq_true, false_implies, Nat.reduceAdd, Nat.reduceLT, Nat.reduceBEq, Nat.reduceEqDiff, Bool.or_false, Bool.false_or, Bool.or_true, Bool.true_or, beq_self_eq_true, Nat.reduceLeDiff, Nat.reduceMul, Nat.reduceSub, eq_self, Nat.reduceBneDiff, st0_s, st1_s, st2_s, st3_s, reduceCtorEq, cc_0, tl_0, cl_0, il_0, tl_1, cl_1, il_1, tl_2, cl_2, il_2, tl_3, cl_3, il_3, tl_4, cl_4, il_4, tl_5, cl_5, il_5, tl_6, cl_6, il_6, tl_7, cl_7, il_7, tl_8, cl_8, il_8, tl_9, cl_9, il_9, tl_10, cl_10, il_10, tl_11, cl_11, il_11, tl_12, cl_12, il_12, tl_13, cl_13, il_13, tl_14, cl_14, il_14, tl_15, cl_15, il_15, tl_16, cl_16, il_16, tl_20, tl_21, tl_25, tl_32, tl_48, tl_50, tl_57, tl_58, tl_59, tl_60, tl_99, tl_100, tl_101, tl_108, tl_109, tl_116, tl_120, tl_126, tl_374, tl_1122, tl_50000, i10, i01, tl_m1, tl_m2, tl_m3, tl_m4, nr_X0_addLine, tX0_addLine_0, tX0_addLine_1, tX0_addLine_2, tX0_addLine_5, tX0_addLine_8, tX0_addLine_9, tX0_addLine_12, tX0_addLine_13, tX0_addLine_15, tX0_addLine_18, tX0_addLine_19, tX0_addLine_22, tX0_addLine_25, tX0_addLine_26, tX0_addLine_27, tX0_addLine_28, tX0_addLine_31, tX0_addLine_33, tX0_addLine_36, tX0_addLine_38, tX0_addLine_39, tX0_addLine_40, tX0_addLine_43, tX0_addLine_45, tX0_addLine_46, tX0_addLine_49, tX0_addLine_51, tX0_addLine_52, tX0_addLine_54, tX0_addLine_56, tX0_addLine_57, tX0_addLine_60, tX0_addLine_62, tX0_addLine_63, tX0_addLine_66, tX0_addLine_67, tX0_addLine_68, tX0_addLine_71, tX0_addLine_74, tX0_addLine_76, tX0_addLine_77, tX0_addLine_80, tX0_addLine_82, tX0_addLine_83, tX0_addLine_84, tX0_addLine_87, tX0_addLine_88, tX0_addLine_91, tX0_addLine_92, tX0_addLine_95, tX0_addLine_96, tX0_addLine_99, tX0_addLine_100, tX0_addLine_101, tX0_addLine_104, tX0_addLine_106, tX0_addLine_108, tX0_addLine_110, tX0_addLine_113, tX0_addLine_115, tX0_addLine_118, tX0_addLine_119, tX0_addLine_120, tX0_addLine_123, tX0_addLine_124, tX0_addLine_125, tX0_addLine_128, tX0_addLine_130, pw_QK_s, b0, b1, b2, n4, n5.1, j4, ↓w_insert]
          refine ⟨cntS S j, cntS S j, rfl, hc, rfl, Nat.le_refl _, ?_⟩
          have eb : pw_set (pw_set J (o + 4 + 3 * j) (insF (J (o + 4 + 3 * j)) (cntS S j) (cntS S j) (nI (vN S 4)))) (o + 3 + 3 * j) (upd (J (o + 3 + 3 * j)) 1 (nI (cntS S j + 1))) o 3 = nI (vN S 4) := by
            rw [set_n (by omega), set_n (by omega)]; exact jb
          rw [eb, ix_1]
          refine hC _ (fun a h => ?_) hfin
          rw [up_set, set_n (by omega), set_n (by omega), set_n (by omega)]
          exact hJ a (by omega)
        have fin : ∀ (y : Int32), y = t → PW (mX0_addLine, 1, 0, 0, none, base) n sh P (pw_up (pw_up (pw_up (pw_up I (o + 21 + vN S 4) 0 (nI j)) (o + 21 + vN S 4) 12 (I (o + 2 + 3 * j) 3)) (o + 21 + vN S 4) 1 r) (o + 21 + vN S 4) 2 y) 0 0 106 [some (.ref o), some (.int (nI j)), some (.int r), some (.int t), some (.int (nI (vN S 4))), some (.ref (o + 21 + vN S 4)), some (.ref (o + 3 + 3 * j))] [] (pw_QK n sh P K) := fun y hy => by
          subst hy
          refine tail _ (fun a h => ?_) ?_
          · rw [up_set, set_n h, up_set, set_n h, up_set, set_n h, up_set, set_n h]
          · rw [up_set, set_s, up_set, set_s, up_set, set_s, up_set, set_s]
        have wj : pw_up I (o + 21 + vN S 4) 0 (nI j) (o + 2 + 3 * j) 3 = I (o + 2 + 3 * j) 3 := by
          rw [up_set, set_n (by omega)]
        refine pw_go okX0_addLine (cc [(2, (w_hasNode o S)), (91, w_bit)]) ⟨Nat.le_refl _, Nat.le_refl _⟩ (cc_c (fun Ag I K h => ⟨0, Nat.le_of_ble_eq_true rfl, x_hasNode hM h⟩) (cc_c (fun Ag I K h => ⟨0, Nat.le_of_ble_eq_true rfl, x_isBit6 h⟩) cc_n)) (st1 106) 60 ?_
        simp only [↓f_vc_s, ↓vk_i, ↓cc_i, ↓reduceIte, f_vq_s, Bool.false_eq_true, ↓f_e_iconst, ↓f_e_bipush, ↓f_e_sipush, ↓f_e_ldc, ↓f_e_ldc_w, ↓f_e_iload_n, ↓f_e_iload, ↓f_e_aload_n, ↓f_e_aload, ↓f_e_istore_n, ↓f_e_istore, ↓f_e_astore_n, ↓f_e_astore, ↓f_e_iinc, ↓f_e_iadd, ↓f_e_isub, ↓f_e_imul, ↓f_e_iand, ↓f_e_ior, ↓f_e_ixor, ↓f_e_idiv, ↓f_e_irem, ↓f_e_ishl, ↓f_e_ishr, ↓f_e_iushr, ↓f_e_i2c, ↓f_e_dup, ↓f_e_dup2, ↓f_e_pop, ↓f_e_goto, ↓f_e_ifCond, ↓f_e_if_icmp, ↓f_e_tableswitch, ↓f_e_lookupswitch, ↓f_e_getfield_i, ↓f_e_getfield_r, ↓f_e_putfield_i, ↓f_e_putfield_z, ↓f_e_iaload, ↓f_e_caload, ↓f_e_aaload, ↓f_e_iastore, ↓f_e_castore, ↓f_e_arraylength, ↓f_e_invokestatic, ↓f_e_invokevirtual, ↓f_e_ireturn, ↓f_e_return_, ↓f_s_i_c, ↓f_s_r_c, ↓f_s_v_i, ↓f_s_v_r, ↓f_s_l_0, ↓s_l_1, ↓s_l_2, ↓s_l_3, ↓s_l_4, ↓s_l_5, ↓s_l_6, ↓s_a_0, ↓s_a_1, ↓s_a_2, ↓s_a_3, ↓s_m_0, ↓f_s_m_i, ↓f_s_m_r, ↓f_s_m_i7, ↓f_s_m_r7, ↓f_s_m_i6, ↓f_s_m_r6, ↓f_s_m_i5, ↓f_s_m_r5, ↓f_s_m_i4, ↓f_s_m_r4, ↓f_s_w_n, ↓f_s_w_c, ↓f_s_p_eq, ↓f_s_p_ne, ↓f_s_p_lt, ↓f_s_p_ge, ↓f_s_p_gt, ↓f_s_p_le, ↓nk_i, ↓nk_z, ↓nk_c, ↓rf_s, ↓ov_s, ↓ov_n, ↓fin0, ↓fin1, ↓fin2, ↓fin3, cond_true, cond_false, List.set_cons_zero, List.set_cons_succ, List.length_cons, List.length_nil, true_and, and_true, true_or, or_true, implies_true, forall_const, not_true_eq_false, not_false_eq_true, false_implies, Nat.reduceAdd, Nat.reduceLT, Nat.reduceBEq, Nat.reduceEqDiff, Bool.or_false, Bool.false_or, Bool.or_true, Bool.true_or, beq_self_eq_true, Nat.reduceLeDiff, Nat.reduceMul, Nat.reduceSub, eq_self, Nat.reduceBneDiff, st0_s, st1_s, st2_s, st3_s, reduceCtorEq, cc_0, tl_0, cl_0, il_0, tl_1, cl_1, il_1, tl_2, cl_2, il_2, tl_3, cl_3, il_3, tl_4, cl_4, il_4, tl_5, cl_5, il_5, tl_6, cl_6, il_6, tl_7, cl_7, il_7, tl_8, cl_8, il_8, tl_9, cl_9, il_9, tl_10, cl_10, il_10, tl_11, cl_11, il_11, tl_12, cl_12, il_12, tl_13, cl_13, il_13, tl_14, cl_14, il_14, tl_15, cl_15, il_15, tl_16, cl_16, il_16, tl_20, tl_21, tl_25, tl_32, tl_48, tl_50, tl_57, tl_58, tl_59, tl_60, tl_99, tl_100, tl_101, tl_108, tl_109, tl_116, tl_120, tl_126, tl_374, tl_1122, tl_50000, i10, i01, tl_m1, tl_m2, tl_m3, tl_m4, nr_X0_addLine, tX0_addLine_0, tX0_addLine_1, tX0_addLine_2, tX0_addLine_5, tX0_addLine_8, tX0_addLine_9, tX0_addLine_12, tX0_addLine_13, tX0_addLine_15, tX0_addLine_18, tX0_addLine_19, tX0_addLine_22, tX0_addLine_25, tX0_addLine_26, tX0_addLine_27, tX0_addLine_28, tX0_addLine_31, tX0_addLine_33, tX0_addLine_36, tX0_addLine_38, tX0_addLine_39, tX0_addLine_40, tX0_addLine_43, tX0_addLine_45, tX0_addLine_46, tX0_addLine_49, tX0_addLine_51, tX0_addLine_52, tX0_addLine_54, tX0_addLine_56, tX0_addLine_57, tX0_addLine_60, tX0_addLine_62, tX0_addLine_63, tX0_addLine_66, tX0_addLine_67, tX0_addLine_68, tX0_addLine_71, tX0_addLine_74, tX0_addLine_76, tX0_addLine_77, tX0_addLine_80, tX0_addLine_82, tX0_addLine_83, tX0_addLine_84, tX0_addLine_87, tX0_addLine_88, tX0_addLine_91, tX0_addLine_92, tX0_addLine_95, tX0_addLine_96, tX0_addLine_99, tX0_addLine_100, tX0_addLine_101, tX0_addLine_104, tX0_addLine_106, tX0_addLine_108, tX0_addLine_110, tX0_addLine_113, tX0_addLine_115, tX0_addLine_118, tX0_addLine_119, tX0_addLine_120, tX0_addLine_123, tX0_addLine_124, tX0_addLine_125, tX0_addLine_128, tX0_addLine_130, pw_QK_s, b0, b1, b2, b3, b4, e2, cj, cN, n1, n2, n4, q1, q2, wj, ↓w_hasNode, ↓w_bit]
        refine ⟨rF, fun _ => ⟨fun z => absurd z rr1, fun _ => ⟨fun z => absurd rr2 (Int32.not_le.mpr z), fun _ => ⟨fun _ => ⟨fun _ => ⟨in_nI h6 (by omega), in_nI hj (by omega), fun q => ⟨in_nI hj (by omega), fin 0 (hx2.elim (fun z => z.symm) (fun z => absurd z q))⟩, fun q => ⟨in_nI hj (by omega), fin 1 q.symm⟩⟩, fun q => absurd (Int32.not_le.mp (nI_ge (a := vN S 4) (b := 16) h6 (by omega))) q⟩, fun q => absurd hx2 q⟩⟩⟩, fun q => absurd hx1 q⟩
    · have hA := hA hx
      refine pw_go okX0_addLine (cc [(2, (w_hasNode o S)), (91, w_bit)]) ⟨Nat.le_refl _, Nat.le_refl _⟩ (cc_c (fun Ag I K h => ⟨0, Nat.le_of_ble_eq_true rfl, x_hasNode hM h⟩) (cc_c (fun Ag I K h => ⟨0, Nat.le_of_ble_eq_true rfl, x_isBit6 h⟩) cc_n)) (st1 27) 60 ?_
      simp only [↓f_vc_s, ↓vk_i, ↓cc_i, ↓reduceIte, f_vq_s, Bool.false_eq_true, ↓f_e_iconst, ↓f_e_bipush, ↓f_e_sipush, ↓f_e_ldc, ↓f_e_ldc_w, ↓f_e_iload_n, ↓f_e_iload, ↓f_e_aload_n, ↓f_e_aload, ↓f_e_istore_n, ↓f_e_istore, ↓f_e_astore_n, ↓f_e_astore, ↓f_e_iinc, ↓f_e_iadd, ↓f_e_isub, ↓f_e_imul, ↓f_e_iand, ↓f_e_ior, ↓f_e_ixor, ↓f_e_idiv, ↓f_e_irem, ↓f_e_ishl, ↓f_e_ishr, ↓f_e_iushr, ↓f_e_i2c, ↓f_e_dup, ↓f_e_dup2, ↓f_e_pop, ↓f_e_goto, ↓f_e_ifCond, ↓f_e_if_icmp, ↓f_e_tableswitch, ↓f_e_lookupswitch, ↓f_e_getfield_i, ↓f_e_getfield_r, ↓f_e_putfield_i, ↓f_e_putfield_z, ↓f_e_iaload, ↓f_e_caload, ↓f_e_aaload, ↓f_e_iastore, ↓f_e_castore, ↓f_e_arraylength, ↓f_e_invokestatic, ↓f_e_invokevirtual, ↓f_e_ireturn, ↓f_e_return_, ↓f_s_i_c, ↓f_s_r_c, ↓f_s_v_i, ↓f_s_v_r, ↓f_s_l_0, ↓s_l_1, ↓s_l_2, ↓s_l_3, ↓s_l_4, ↓s_l_5, ↓s_l_6, ↓s_a_0, ↓s_a_1, ↓s_a_2, ↓s_a_3, ↓s_m_0, ↓f_s_m_i, ↓f_s_m_r, ↓f_s_m_i7, ↓f_s_m_r7, ↓f_s_m_i6, ↓f_s_m_r6, ↓f_s_m_i5, ↓f_s_m_r5, ↓f_s_m_i4, ↓f_s_m_r4, ↓f_s_w_n, ↓f_s_w_c, ↓f_s_p_eq, ↓f_s_p_ne, ↓f_s_p_lt, ↓f_s_p_ge, ↓f_s_p_gt, ↓f_s_p_le, ↓nk_i, ↓nk_z, ↓nk_c, ↓rf_s, ↓ov_s, ↓ov_n, ↓fin0, ↓fin1, ↓fin2, ↓fin3, cond_true, cond_false, List.set_cons_zero, List.set_cons_succ, List.length_cons, List.length_nil, true_and, and_true, true_or, or_true, implies_true, forall_const, not_true_eq_false, not_false_eq_true, false_implies, Nat.reduceAdd, Nat.reduceLT, Nat.reduceBEq, Nat.reduceEqDiff, Bool.or_false, Bool.false_or, Bool.or_true, Bool.true_or, beq_self_eq_true, Nat.reduceLeDiff, Nat.reduceMul, Nat.reduceSub, eq_self, Nat.reduceBneDiff, st0_s, st1_s, st2_s, st3_s, reduceCtorEq, cc_0, tl_0, cl_0, il_0, tl_1, cl_1, il_1, tl_2, cl_2, il_2, tl_3, cl_3, il_3, tl_4, cl_4, il_4, tl_5, cl_5, il_5, tl_6, cl_6, il_6, tl_7, cl_7, il_7, tl_8, cl_8, il_8, tl_9, cl_9, il_9, tl_10, cl_10, il_10, tl_11, cl_11, il_11, tl_12, cl_12, il_12, tl_13, cl_13, il_13, tl_14, cl_14, il_14, tl_15, cl_15, il_15, tl_16, cl_16, il_16, tl_20, tl_21, tl_25, tl_32, tl_48, tl_50, tl_57, tl_58, tl_59, tl_60, tl_99, tl_100, tl_101, tl_108, tl_109, tl_116, tl_120, tl_126, tl_374, tl_1122, tl_50000, i10, i01, tl_m1, tl_m2, tl_m3, tl_m4, nr_X0_addLine, tX0_addLine_0, tX0_addLine_1, tX0_addLine_2, tX0_addLine_5, tX0_addLine_8, tX0_addLine_9, tX0_addLine_12, tX0_addLine_13, tX0_addLine_15, tX0_addLine_18, tX0_addLine_19, tX0_addLine_22, tX0_addLine_25, tX0_addLine_26, tX0_addLine_27, tX0_addLine_28, tX0_addLine_31, tX0_addLine_33, tX0_addLine_36, tX0_addLine_38, tX0_addLine_39, tX0_addLine_40, tX0_addLine_43, tX0_addLine_45, tX0_addLine_46, tX0_addLine_49, tX0_addLine_51, tX0_addLine_52, tX0_addLine_54, tX0_addLine_56, tX0_addLine_57, tX0_addLine_60, tX0_addLine_62, tX0_addLine_63, tX0_addLine_66, tX0_addLine_67, tX0_addLine_68, tX0_addLine_71, tX0_addLine_74, tX0_addLine_76, tX0_addLine_77, tX0_addLine_80, tX0_addLine_82, tX0_addLine_83, tX0_addLine_84, tX0_addLine_87, tX0_addLine_88, tX0_addLine_91, tX0_addLine_92, tX0_addLine_95, tX0_addLine_96, tX0_addLine_99, tX0_addLine_100, tX0_addLine_101, tX0_addLine_104, tX0_addLine_106, tX0_addLine_108, tX0_addLine_110, tX0_addLine_113, tX0_addLine_115, tX0_addLine_118, tX0_addLine_119, tX0_addLine_120, tX0_addLine_123, tX0_addLine_124, tX0_addLine_125, tX0_addLine_128, tX0_addLine_130, pw_QK_s, b0, ↓w_hasNode, ↓w_bit]
      refine ⟨rF, fun q => ⟨fun _ => hA, fun z => ⟨fun _ => hA, fun z2 => ⟨fun q2 => absurd ⟨q, ⟨?_, ?_⟩, q2⟩ hx, fun _ => hA⟩⟩⟩, fun _ => hA⟩
      · rw [ti_lt] at z
        have z : ¬ _ < (0 : Int) := z
        omega
      · rw [ti_lt] at z2
        have z2 : ¬ (7 : Int) < _ := z2
        omega
  · exact h.elim
end ADL
