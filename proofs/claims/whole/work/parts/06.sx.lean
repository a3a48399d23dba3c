/-! an instruction's condition is enough; and so is a whole stretch's (vc) -/
theorem ps_table {lo hi d : Int} {offs : Array Int} {pc a : Nat} {x : Int32} {k : Nat → Prop} (ha : (pc : Int) + d = (a : Int)) (hlo : -2147483648 ≤ lo) (hhi : hi < 2147483648) (hs : offs.size = (hi + 1 - lo).toNat)
    (hall : (List.range offs.size).all (fun (j : Nat) => decide (0 ≤ (pc : Int) + offs.getD j 0)) = true) (h : s_w ((List.range offs.size).map (fun (j : Nat) => (Int32.ofInt (lo + (j : Int)), ((pc : Int) + offs.getD j 0).toNat))) x a k) :
    ((x.toInt < lo ∨ hi < x.toInt) ∧ k a) ∨ (¬ x.toInt < lo ∧ ¬ hi < x.toInt ∧ ∃ (off : Int) (t : Nat), offs[(x.toInt - lo).toNat]? = some off ∧ (pc : Int) + off = (t : Int) ∧ k t) := by
  have hkey : ∀ j : Nat, j < offs.size → (Int32.ofInt (lo + (j : Int))).toInt = lo + (j : Int) := fun j hj => int_ofInt_toInt (by omega) (by omega)
  rcases s_w_of h with ⟨t, h1, h2, -⟩ | ⟨h1, h2⟩
  · refine Or.inr ?_
    obtain ⟨j, hj, hq⟩ := List.mem_map.mp h1
    have hj' := List.mem_range.mp hj
    cases hq
    have e := hkey j hj'
    rw [e]
    refine ⟨by omega, by omega, offs.getD j 0, _, ?_, ?_, h2⟩
    · rw [show (lo + (j : Int) - lo).toNat = j by omega]
      rw [Array.getD_eq_getD_getElem?, Array.getElem?_eq_getElem hj']
      rfl
    · have := List.all_eq_true.mp hall j hj
      rw [decide_eq_true_eq] at this
      exact (Int.toNat_of_nonneg this).symm
  · refine Or.inl ⟨?_, h2⟩
    by_cases e1 : x.toInt < lo
    · exact Or.inl e1
    · by_cases e2 : hi < x.toInt
      · exact Or.inr e2
      · exfalso
        have hj : (x.toInt - lo).toNat < offs.size := by omega
        refine h1 _ (List.mem_map.mpr ⟨(x.toInt - lo).toNat, List.mem_range.mpr hj, rfl⟩) ?_
        refine Int32.toInt_inj.mp ?_
        show (Int32.ofInt (lo + ((x.toInt - lo).toNat : Int))).toInt = _
        rw [hkey _ hj]
        omega
section PWX
variable {g : pw_g} {n : Nat} {sh : pw_Sh} {P : pw_P} {I : pw_I} {uc us pc : Nat} {L : List (Option Value)} {st : List Value} {Q : pw_Q}
set_option maxHeartbeats 4000000 in
theorem pw_sxs {Ms : Nat → pm_I} {C : pw_C} {K : pw_Kt} {i : Instr} {nx a b c : Nat} {v : Int32} {sw : List (Int32 × Nat)} (ok : pm_ok g.1 Ms pc (i, nx, a, b, c, v, sw)) (hu : uc ≤ g.2.2.1 ∧ us ≤ g.2.2.2.1)
    (hC : ∀ a Ag I K, C a Ag I K → pw_cal g n sh P Ms a Ag I K) (hK : ∀ pc' L' st' I', K pc' L' st' I' → PW g n sh P I' uc us pc' L' st' Q)
    (h : sx g.1.2.2.2 n sh P C Q i nx a b c v sw L st I K) : PW g n sh P I uc us pc L st Q := by
  by_cases hinv : ∃ x, i = .invokestatic x ∨ i = .invokevirtual x
  · obtain ⟨x, rfl | rfl⟩ := hinv
    · obtain ⟨hd, -, rfl, hl⟩ := ok
      rw [Nat.add_sub_cancel_left] at hd
      obtain ⟨As, r, h1, h2, h3, h4⟩ := s_a_of h
      rw [List.append_nil] at h4
      subst h2; subst h1
      obtain ⟨d', hd', hM⟩ := hC _ _ _ _ h4
      refine PW.callS hM hd' (by omega) (by omega) hl h3 hd fun v n' sh' P' I' hq => ?_
      obtain ⟨rfl, rfl, rfl, hq⟩ := hq
      exact hK _ _ _ _ hq
    · obtain ⟨hd, -, rfl, hl⟩ := ok
      rw [Nat.add_sub_cancel_left] at hd
      obtain ⟨As, r, h1, h2, h3⟩ := s_a_of h
      rw [List.append_nil] at h3
      obtain ⟨o, r', rfl, h4, h5, h6⟩ := s_r_of h3
      subst h2; subst h1
      obtain ⟨d', hd', hM⟩ := hC _ _ _ _ h6
      refine PW.callV hM hd' (by omega) (by omega) hl h4 h5 hd fun v n' sh' P' I' hq => ?_
      obtain ⟨rfl, rfl, rfl, hq⟩ := hq
      exact hK _ _ _ _ hq
  intro p l e R s m args below meth c0 H locs cells slots D dA ls Qf CC hW hS hls hc hs hr
  have hx := CC.1
  have hb := CC.2.1
  have hown := CC.2.2.2.2.1
  have hts := CC.2.2.2.2.2.1
  have hin : ∀ {a : Nat}, (sh a).1 ≤ 12 → g.2.2.2.2.2 ≤ a := fun q => (hW.2 _ q).1.1
  have go : ∀ {pc' : Nat} {L' : List (Option Value)} {st' : List Value} {I' : pw_I}, K pc' L' st' I' → ∀ {ls' : Array Slot} {H' : Heap} {locs' : List Loc}, pl_has ls' g.1.2.2.1 L' → pw_Wd D dA g.2.2.2.2.2 n sh P I' H' → va_S (fun q => g.2.2.2.2.2 ≤ q) s.heap H' locs' → W p l e R s m args below meth c0 H' locs' cells slots Qf (F0 m pc' ls' st') :=
    fun hk _ _ _ hl' hW' hS' => hK _ _ _ _ hk p l e R s m args below meth c0 _ _ cells slots D dA _ Qf CC hW' hS' hl' hc hs hr
  have hlen : L.length = g.1.2.2.1 := hls.2.1
  cases i <;> first | exact h.elim | exact absurd ⟨_, Or.inl rfl⟩ hinv | exact absurd ⟨_, Or.inr rfl⟩ hinv | skip
  case iconst x => obtain ⟨hd, -, rfl, hv⟩ := ok; rw [Nat.add_sub_cancel_left] at hd; exact lv_iconst hx hb hd hv (go h hls hW hS)
  case bipush x => obtain ⟨hd, -, rfl, hv⟩ := ok; rw [Nat.add_sub_cancel_left] at hd; exact lv_bipush hx hb hd hv (go h hls hW hS)
  case sipush x => obtain ⟨hd, -, rfl, hv⟩ := ok; rw [Nat.add_sub_cancel_left] at hd; exact lv_sipush hx hb hd hv (go h hls hW hS)
  case ldc x => obtain ⟨hd, -, rfl, hv⟩ := ok; rw [Nat.add_sub_cancel_left] at hd; exact lv_ldc hx hb hown (hts _ hv) hd (go h hls hW hS)
  case ldc_w x => obtain ⟨hd, -, rfl, hv⟩ := ok; rw [Nat.add_sub_cancel_left] at hd; exact lv_ldcw hx hb hown (hts _ hv) hd (go h hls hW hS)
  case iload_n j =>
    obtain ⟨hd, -, rfl⟩ := ok; rw [Nat.add_sub_cancel_left] at hd
    obtain ⟨w, h1, h⟩ := s_l_of h
    obtain ⟨x, r, e1, h⟩ := s_i_of h
    cases e1
    exact lv_iload_n hx hb hd rfl (hls.2.2.2 _ _ h1).1 (go h hls hW hS)
  case iload j =>
    obtain ⟨hd, -, rfl⟩ := ok; rw [Nat.add_sub_cancel_left] at hd
    obtain ⟨w, h1, h⟩ := s_l_of h
    obtain ⟨x, r, e1, h⟩ := s_i_of h
    cases e1
    exact lv_iload hx hb hd (hls.2.2.2 _ _ h1).1 (go h hls hW hS)
  case aload_n j =>
    obtain ⟨hd, -, rfl⟩ := ok; rw [Nat.add_sub_cancel_left] at hd
    obtain ⟨w, h1, h⟩ := s_l_of h
    obtain ⟨x, r, e1, h⟩ := s_r_of h
    cases e1
    exact lv_aload_n hx hb hd rfl (hls.2.2.2 _ _ h1).1 (go h hls hW hS)
  case aload j =>
    obtain ⟨hd, -, rfl⟩ := ok; rw [Nat.add_sub_cancel_left] at hd
    obtain ⟨w, h1, h⟩ := s_l_of h
    obtain ⟨x, r, e1, h⟩ := s_r_of h
    cases e1
    exact lv_aload hx hb hd (hls.2.2.2 _ _ h1).1 (go h hls hW hS)
  case istore_n j =>
    obtain ⟨hd, -, rfl⟩ := ok; rw [Nat.add_sub_cancel_left] at hd
    obtain ⟨x, r, rfl, h1, h⟩ := s_i_of h
    exact lv_istore_n hx hb hd rfl hls.lv (by omega) rfl fun ls' hl' => go h (hls.st rfl hl') hW hS
  case istore j =>
    obtain ⟨hd, -, rfl⟩ := ok; rw [Nat.add_sub_cancel_left] at hd
    obtain ⟨x, r, rfl, h1, h⟩ := s_i_of h
    exact lv_istore hx hb hd hls.lv (by omega) rfl fun ls' hl' => go h (hls.st rfl hl') hW hS
  case astore_n j =>
    obtain ⟨hd, -, rfl⟩ := ok; rw [Nat.add_sub_cancel_left] at hd
    obtain ⟨x, r, rfl, h1, h⟩ := s_r_of h
    exact lv_astore_n hx hb hd rfl hls.lv (by omega) rfl fun ls' hl' => go h (hls.st rfl hl') hW hS
  case astore j =>
    obtain ⟨hd, -, rfl⟩ := ok; rw [Nat.add_sub_cancel_left] at hd
    obtain ⟨x, r, rfl, h1, h⟩ := s_r_of h
    exact lv_astore hx hb hd hls.lv (by omega) rfl fun ls' hl' => go h (hls.st rfl hl') hW hS
  case iinc j z =>
    obtain ⟨hd, -, rfl, hv⟩ := ok; rw [Nat.add_sub_cancel_left] at hd
    obtain ⟨w, h1, h⟩ := s_l_of h
    obtain ⟨x, r, e1, h⟩ := s_i_of h
    cases e1
    have hj : j < L.length := (List.getElem?_eq_some_iff.mp h1).1
    obtain ⟨k, hk⟩ := List.getElem?_of_mem (pl_mem.mpr h1)
    exact lv_iinc hx hb hd hls.lv hk (by rw [hv]) (by omega) rfl fun ls' hl' => go h (hls.st rfl hl') hW hS
  case iadd => obtain ⟨hd, -, rfl⟩ := ok; rw [Nat.add_sub_cancel_left] at hd; obtain ⟨y, r, rfl, h⟩ := s_i_of h; obtain ⟨x, r, rfl, h⟩ := s_i_of h; exact lv_iadd hx hb hd (go h hls hW hS)
  case isub => obtain ⟨hd, -, rfl⟩ := ok; rw [Nat.add_sub_cancel_left] at hd; obtain ⟨y, r, rfl, h⟩ := s_i_of h; obtain ⟨x, r, rfl, h⟩ := s_i_of h; exact lv_isub hx hb hd (go h hls hW hS)
  case imul => obtain ⟨hd, -, rfl⟩ := ok; rw [Nat.add_sub_cancel_left] at hd; obtain ⟨y, r, rfl, h⟩ := s_i_of h; obtain ⟨x, r, rfl, h⟩ := s_i_of h; exact lv_imul hx hb hd (go h hls hW hS)
  case iand => obtain ⟨hd, -, rfl⟩ := ok; rw [Nat.add_sub_cancel_left] at hd; obtain ⟨y, r, rfl, h⟩ := s_i_of h; obtain ⟨x, r, rfl, h⟩ := s_i_of h; exact lv_iand hx hb hd (go h hls hW hS)
  case ior => obtain ⟨hd, -, rfl⟩ := ok; rw [Nat.add_sub_cancel_left] at hd; obtain ⟨y, r, rfl, h⟩ := s_i_of h; obtain ⟨x, r, rfl, h⟩ := s_i_of h; exact lv_ior hx hb hd (go h hls hW hS)
  case ixor => obtain ⟨hd, -, rfl⟩ := ok; rw [Nat.add_sub_cancel_left] at hd; obtain ⟨y, r, rfl, h⟩ := s_i_of h; obtain ⟨x, r, rfl, h⟩ := s_i_of h; exact lv_ixor hx hb hd (go h hls hW hS)
  case idiv => obtain ⟨hd, -, rfl⟩ := ok; rw [Nat.add_sub_cancel_left] at hd; obtain ⟨y, r, rfl, h⟩ := s_i_of h; obtain ⟨x, r, rfl, h0, h⟩ := s_i_of h; exact lv_idiv hx hb hd h0 (go h hls hW hS)
  case irem => obtain ⟨hd, -, rfl⟩ := ok; rw [Nat.add_sub_cancel_left] at hd; obtain ⟨y, r, rfl, h⟩ := s_i_of h; obtain ⟨x, r, rfl, h0, h⟩ := s_i_of h; exact lv_irem hx hb hd h0 (go h hls hW hS)
  case ishl => obtain ⟨hd, -, rfl⟩ := ok; rw [Nat.add_sub_cancel_left] at hd; obtain ⟨y, r, rfl, h⟩ := s_i_of h; obtain ⟨x, r, rfl, h⟩ := s_i_of h; exact lv_ishl hx hb hd (go h hls hW hS)
  case ishr => obtain ⟨hd, -, rfl⟩ := ok; rw [Nat.add_sub_cancel_left] at hd; obtain ⟨y, r, rfl, h⟩ := s_i_of h; obtain ⟨x, r, rfl, h⟩ := s_i_of h; exact lv_ishr hx hb hd (go h hls hW hS)
  case iushr => obtain ⟨hd, -, rfl⟩ := ok; rw [Nat.add_sub_cancel_left] at hd; obtain ⟨y, r, rfl, h⟩ := s_i_of h; obtain ⟨x, r, rfl, h⟩ := s_i_of h; exact lv_iushr hx hb hd rfl (go h hls hW hS)
  case i2c => obtain ⟨hd, -, rfl⟩ := ok; rw [Nat.add_sub_cancel_left] at hd; obtain ⟨x, r, rfl, h⟩ := s_i_of h; exact lv_i2c hx hb hd rfl (go h hls hW hS)
  case dup => obtain ⟨hd, -, rfl⟩ := ok; rw [Nat.add_sub_cancel_left] at hd; have h : s_v st fun x r => K (pc + 1) L (x :: x :: r) I := h; obtain ⟨x, r, rfl, h1, h⟩ := s_v_of h; exact lv_dup hx hb hd h1 (go h hls hW hS)
  case dup2 => obtain ⟨hd, -, rfl⟩ := ok; rw [Nat.add_sub_cancel_left] at hd; have h : s_v st fun x r => s_v r fun y r => K (pc + 1) L (x :: y :: x :: y :: r) I := h; obtain ⟨x, r, rfl, h1, h⟩ := s_v_of h; obtain ⟨y, r, rfl, h2, h⟩ := s_v_of h; exact lv_dup2_11 hx hb hd h1 h2 (go h hls hW hS)
  case pop => obtain ⟨hd, -, rfl⟩ := ok; rw [Nat.add_sub_cancel_left] at hd; have h : s_v st fun _ r => K (pc + 1) L r I := h; obtain ⟨x, r, rfl, h1, h⟩ := s_v_of h; exact lv_pop hx hb hd h1 (go h hls hW hS)
  case goto off => obtain ⟨hd, -, rfl, ht⟩ := ok; rw [Nat.add_sub_cancel_left] at hd; exact lv_goto hx hb hd ht (go h hls hW hS)
  case ifCond cd off =>
    obtain ⟨hd, -, rfl, ht⟩ := ok; rw [Nat.add_sub_cancel_left] at hd
    obtain ⟨x, r, rfl, h⟩ := s_i_of h
    cases cd
    · exact lv_if_eq hx hb hd ht (fun q => go (h.1 q) hls hW hS) (fun q => go (h.2 q) hls hW hS)
    · exact lv_if_ne hx hb hd ht (fun q => go (h.1 q) hls hW hS) (fun q => go (h.2 q) hls hW hS)
    · exact lv_if_lt hx hb hd ht (fun q => go (h.1 q) hls hW hS) (fun q => go (h.2 q) hls hW hS)
    · exact lv_if_ge hx hb hd ht (fun q => go (h.1 q) hls hW hS) (fun q => go (h.2 q) hls hW hS)
    · exact lv_if_gt hx hb hd ht (fun q => go (h.1 q) hls hW hS) (fun q => go (h.2 q) hls hW hS)
    · exact lv_if_le hx hb hd ht (fun q => go (h.1 q) hls hW hS) (fun q => go (h.2 q) hls hW hS)
  case if_icmp cd off =>
    obtain ⟨hd, -, rfl, ht⟩ := ok; rw [Nat.add_sub_cancel_left] at hd
    obtain ⟨y, r, rfl, h⟩ := s_i_of h
    obtain ⟨x, r, rfl, h⟩ := s_i_of h
    cases cd
    · exact lv_icmp_eq hx hb hd ht (fun q => go (h.1 q) hls hW hS) (fun q => go (h.2 q) hls hW hS)
    · exact lv_icmp_ne hx hb hd ht (fun q => go (h.1 q) hls hW hS) (fun q => go (h.2 q) hls hW hS)
    · exact lv_icmp_lt hx hb hd ht (fun q => go (h.1 q) hls hW hS) (fun q => go (h.2 q) hls hW hS)
    · exact lv_icmp_ge hx hb hd ht (fun q => go (h.1 q) hls hW hS) (fun q => go (h.2 q) hls hW hS)
    · exact lv_icmp_gt hx hb hd ht (fun q => go (h.1 q) hls hW hS) (fun q => go (h.2 q) hls hW hS)
    · exact lv_icmp_le hx hb hd ht (fun q => go (h.1 q) hls hW hS) (fun q => go (h.2 q) hls hW hS)
  case tableswitch d lo hi offs =>
    obtain ⟨hd, -, ht, h1, h2, h3, h4, h5⟩ := ok
    obtain ⟨x, r, rfl, h⟩ := s_i_of h
    subst h4
    rcases ps_table ht h1 h2 h3 h5 h with ⟨q1, q2⟩ | ⟨q1, q2, off, t, q3, q4, q5⟩
    · exact lv_tableOut hx hb hd q1 ht (go q2 hls hW hS)
    · exact lv_tableIn hx hb hd q1 q2 q3 q4 (go q5 hls hW hS)
  case lookupswitch d ps =>
    obtain ⟨hd, -, ht, h1, h2, h3⟩ := ok
    obtain ⟨x, r, rfl, h⟩ := s_i_of h
    subst h2
    obtain ⟨t, q1, q2⟩ := ps_lookup h3 ht h
    exact lv_lookup hx hb hd h1 rfl q1 (go q2 hls hW hS)
  case getfield x =>
    obtain ⟨hd, -, rfl, h1, h2, h3, h4, h5⟩ := ok; rw [Nat.add_sub_cancel_left] at hd
    obtain ⟨o, r, rfl, h6, h⟩ := s_r_of h
    refine pw_getf CC hW h1 h2 h3 h6 h4 hd (go ?_ hls hW hS)
    unfold pw_val
    rw [h5]
    cases sw <;> exact h
  case putfield x =>
    obtain ⟨hd, -, rfl, h1, h2, h3, h4, h5, h6, h7⟩ := ok; rw [Nat.add_sub_cancel_left] at hd
    obtain ⟨z, r, rfl, h⟩ := s_i_of h
    obtain ⟨o, r, rfl, h8, h9, h⟩ := s_r_of h
    have hnf : narrow (pw_ty a b) (.int z) = .int z ∧ fits (pw_ty a b) (.int z) = true := by
      cases sw with
      | nil => rw [h7]; exact ⟨rfl, rfl⟩
      | cons q r => rw [h7]; rcases h9 with rfl | rfl <;> exact ⟨rfl, rfl⟩
    refine pw_putf CC hW hS (P' := P) (I' := pw_up I o b z) (hin (by omega)) h1 h2 h3 h8 h4 (Or.inl h6) hnf.1 hnf.2 (fun _ _ _ => rfl) (fun q hq k => pw_up_a hq) (fun j hj => ?_) hd (fun H1 locs1 hW1 hS1 => go h hls hW1 hS1)
    unfold pw_val
    by_cases e : j = b
    · subst e
      rw [h5, if_pos rfl]
      simp [pw_up]
    · rw [if_neg e]
      rw [pw_up_k e]
  case iaload => obtain ⟨hd, -, rfl⟩ := ok; rw [Nat.add_sub_cancel_left] at hd; obtain ⟨y, r, rfl, h⟩ := s_i_of h; obtain ⟨o, r, rfl, h1, h2, h⟩ := s_r_of h; exact pw_iald CC hW h1 h2 hd (go h hls hW hS)
  case caload => obtain ⟨hd, -, rfl⟩ := ok; rw [Nat.add_sub_cancel_left] at hd; obtain ⟨y, r, rfl, h⟩ := s_i_of h; obtain ⟨o, r, rfl, h1, h2, h⟩ := s_r_of h; exact pw_cald CC hW h1 h2 hd (go h hls hW hS)
  case aaload => obtain ⟨hd, -, rfl⟩ := ok; rw [Nat.add_sub_cancel_left] at hd; obtain ⟨y, r, rfl, h⟩ := s_i_of h; obtain ⟨o, r, rfl, h1, h2, h⟩ := s_r_of h; exact pw_aald CC hW h1 h2 hd (go h hls hW hS)
  case iastore => obtain ⟨hd, -, rfl⟩ := ok; rw [Nat.add_sub_cancel_left] at hd; obtain ⟨x, r, rfl, h⟩ := s_i_of h; obtain ⟨y, r, rfl, h⟩ := s_i_of h; obtain ⟨o, r, rfl, h1, h2, h⟩ := s_r_of h; exact pw_iast CC hW hS (hin (by omega)) h1 h2 hd (fun H1 locs1 hW1 hS1 => go h hls hW1 hS1)
  case castore =>
    obtain ⟨hd, -, rfl⟩ := ok; rw [Nat.add_sub_cancel_left] at hd; obtain ⟨x, r, rfl, h⟩ := s_i_of h; obtain ⟨y, r, rfl, h⟩ := s_i_of h; obtain ⟨o, r, rfl, h1, h2, h3, h⟩ := s_r_of h
    obtain ⟨ty, e1, e2⟩ := pw_nok_narrow h3
    cases e1
    exact pw_cast CC hW hS (hin (by omega)) h1 h2 e2 hd (fun H1 locs1 hW1 hS1 => go h hls hW1 hS1)
  case arraylength => obtain ⟨hd, -, rfl⟩ := ok; rw [Nat.add_sub_cancel_left] at hd; obtain ⟨o, r, rfl, h1, h⟩ := s_r_of h; exact pw_alen CC hW h1 hd (go h hls hW hS)
  case ireturn =>
    obtain ⟨hd, -, rfl⟩ := ok; rw [Nat.add_sub_cancel_left] at hd; obtain ⟨x, r, rfl, rfl, h1, h⟩ := s_i_of h
    exact hr (some (.int x)) n sh P I pc ls H locs cells slots h hW hS (by omega) (by omega) ⟨hd, x, rfl, h1⟩
  case return_ =>
    obtain ⟨hd, -, rfl⟩ := ok; rw [Nat.add_sub_cancel_left] at hd; obtain ⟨rfl, h1, h⟩ := h
    exact hr none n sh P I pc ls H locs cells slots h hW hS (by omega) (by omega) ⟨hd, h1⟩
def vc (g : pw_g) (n : Nat) (sh : pw_Sh) (P : pw_P) (uc us : Nat) (tb : Nat → pm_E) (C : pw_C) (stop : Nat → Bool) (Q : pw_Q) : Nat → pw_Kt
  | 0 => fun pc L st I => PW g n sh P I uc us pc L st Q
  | k + 1 => fun pc L st I => match tb pc with
    | (i, nx, a, b, c, v, sw) => sx g.1.2.2.2 n sh P C Q i nx a b c v sw L st I (fun pc' L' st' I' => bif stop pc' then PW g n sh P I' uc us pc' L' st' Q else vc g n sh P uc us tb C stop Q k pc' L' st' I')
theorem pw_vcs {Ms : Nat → pm_I} {C : pw_C} {tb : Nat → pm_E} (hu : uc ≤ g.2.2.1 ∧ us ≤ g.2.2.2.1) (hC : ∀ a Ag I K, C a Ag I K → pw_cal g n sh P Ms a Ag I K) (ok : ∀ pc, (tb pc).1 = .nop ∨ pm_ok g.1 Ms pc (tb pc)) (stop : Nat → Bool) :
    ∀ (k : Nat) {pc : Nat} {L : List (Option Value)} {st : List Value} {I : pw_I}, vc g n sh P uc us tb C stop Q k pc L st I → PW g n sh P I uc us pc L st Q := by
  intro k
  induction k with
  | zero => exact fun h => h
  | succ k ih =>
    intro pc L st I h
    have hok := ok pc
    simp only [vc] at h
    generalize hq : tb pc = q at h hok
    obtain ⟨i, nx, a, b, c, v, sw⟩ := q
    rcases hok with hok | hok
    · dsimp only at hok
      subst hok
      exact h.elim
    · refine pw_sxs hok hu hC (fun pc' L' st' I' hk => ?_) h
      cases hst : stop pc' with
      | true => rw [hst] at hk; exact hk
      | false => rw [hst] at hk; exact ih hk
end PWX
