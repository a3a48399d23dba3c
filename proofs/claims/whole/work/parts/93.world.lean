/-! the law's start: the world is empty, all classes are known; both objects are made -/
theorem in6 : Cond.instantiable (pw_R 6) (pw_nf 6) ∈ pw_T ∧ Cond.initialized (pw_R 6) ∈ pw_T := ⟨pw_inT (by decide +kernel), pw_inT (by decide +kernel)⟩
theorem in7 : Cond.instantiable (pw_R 7) (pw_nf 7) ∈ pw_T ∧ Cond.initialized (pw_R 7) ∈ pw_T := ⟨pw_inT (by decide +kernel), pw_inT (by decide +kernel)⟩
theorem inA : ∀ ci, ci < 8 → Cond.instantiable (pw_R ci) (pw_nf ci) ∈ pw_T := by
  intro ci h
  have : ci = 0 ∨ ci = 1 ∨ ci = 2 ∨ ci = 3 ∨ ci = 4 ∨ ci = 5 ∨ ci = 6 ∨ ci = 7 := by omega
  rcases this with rfl | rfl | rfl | rfl | rfl | rfl | rfl | rfl
  · exact in0.1
  · exact in1.1
  · exact in2.1
  · exact in3.1
  · exact in4.1
  · exact in5.1
  · exact in6.1
  · exact in7.1
theorem ao_4 : Cond.arrayOver (.object RX4) ∈ lw_tbl := by decide +kernel
theorem ao_3 : Cond.arrayOver (.object RX3) ∈ lw_tbl := by decide +kernel
theorem ao_0 : Cond.arrayOver (.object RX0) ∈ lw_tbl := by decide +kernel
theorem k_start {s : State} {args : Array Value} (hts : ∀ w ∈ lw_tbl, w.before args s = true) : ∃ (D : va_G) (dA : Nat → ClassId), pw_K D dA s := by
  have htT : ∀ w ∈ pw_T, w.before args s = true := fun w hw => hts w (List.mem_filter.mp hw).1
  have hk : ∀ ci, ∃ q : ClassId × (Nat → Nat), ci < 8 → u_Kn s (pw_R ci) (pw_tb ci) (pw_nf ci) q.1 q.2 := fun ci => by
    by_cases h : ci < 8
    · obtain ⟨cC, iS, h1⟩ := u_known (C := pw_R ci) (T := pw_tb ci) (N := pw_nf ci) htT (pw_clok_all ci h).2.1 (htT _ (inA ci h))
      exact ⟨(cC, iS), fun _ => h1⟩
    · exact ⟨(0, fun _ => 0), fun z => absurd z h⟩
  have prim : ∀ ty : FieldType, Cond.arrayClass ty ∈ pw_T → ∃ cA : ClassId, ArrOfT s cA ty ∧ s.vm.findClass ("[" ++ ty.toString) = some cA := fun ty h => by
    obtain ⟨c, k, comp, h1, h2, h3⟩ := Cond.arrayClass_spec (htT _ h)
    exact ⟨c, fun n z => ⟨(fun k h => by cases h), k, h2, comp, h3⟩, h1⟩
  have over : ∀ C : String, Cond.arrayOver (.object C) ∈ lw_tbl → va_AO C s ∧ ∃ cA : ClassId, ArrOfT s cA (.object C) ∧ va_RA s cA (.object C) := fun C h => by
    refine ⟨va_AO.of (hts _ h), ?_⟩
    obtain ⟨comp, c, k, h1, -, h3, h4, h5⟩ := Cond.arrayOver_spec (hts _ h)
    exact ⟨c, fun n z => ⟨(fun k h => by cases h), k, h3, comp, h4⟩, k, comp, h3, h4, h1, h5⟩
  obtain ⟨c8, p8, r8⟩ := prim .int ac_int
  obtain ⟨c9, p9, r9⟩ := prim .char ac_char
  obtain ⟨o4, c10, p10, r10⟩ := over RX4 ao_4
  obtain ⟨o3, c11, p11, r11⟩ := over RX3 ao_3
  obtain ⟨o0, c12, p12, r12⟩ := over RX0 ao_0
  refine ⟨(fun c => (Classical.choose (hk c)).1, fun c => (Classical.choose (hk c)).2), fun k => if k = 8 then c8 else if k = 9 then c9 else if k = 10 then c10 else if k = 11 then c11 else c12, ⟨fun c q hq => ?_, fun k q hq => ?_⟩, fun w hw => ?_, o4, o3, o0⟩
  · have hc : c < 8 := (List.getElem?_eq_some_iff.mp hq).1
    have := (pw_clok_all c hc).1
    rw [hq] at this
    cases this
    exact Classical.choose_spec (hk c) hc
  · match k, hq with
    | 0, hq => cases hq; exact ⟨p8, r8⟩
    | 1, hq => cases hq; exact ⟨p9, r9⟩
    | 2, hq => cases hq; exact ⟨p10, r10⟩
    | 3, hq => cases hq; exact ⟨p11, r11⟩
    | 4, hq => cases hq; exact ⟨p12, r12⟩
    | k + 5, hq => simp [pw_tys] at hq
  · obtain ⟨h1, h2⟩ := List.mem_filter.mp hw
    have hb := hts w h1
    cases w with
    | fieldLinkNest a b c d e f => exact va_Nw.of rfl hb
    | methodLinkNest a b c d => exact va_Nw.of rfl hb
    | _ => cases h2
theorem pw_cls.on {sh sh' : pw_Sh} {P P' : pw_P} {x : Nat} {q : Nat → Nat} (h : pw_cls sh P x q) (e : ∀ a, x ≤ a → a < x + 299 → sh' a = sh a ∧ P' a = P a) : pw_cls sh' P' x q := by
  obtain ⟨s0, p0, p1, p2, p3, hb, ht, hh, hx⟩ := h
  have ep := (e x (by omega) (by omega)).2
  refine ⟨(e x (by omega) (by omega)).1.trans s0, by rw [ep]; exact p0, by rw [ep]; exact p1, by rw [ep]; exact p2, by rw [ep]; exact p3, hb.on (fun a h1 h2 => e a (by omega) (by omega)), ht.on (fun a h1 h2 => e a (by omega) (by omega)), ?_, ?_⟩
  · obtain ⟨y1, ⟨y2, y3⟩, y4, y5, y6⟩ := hh
    exact ⟨(e _ (by omega) (by omega)).1.trans y1, ⟨by rw [(e _ (by omega) (by omega)).2]; exact y2, (e _ (by omega) (by omega)).1.trans y3⟩, fun i hi => ⟨by rw [(e (x + 85 + 1) (by omega) (by omega)).2]; exact (y4 i hi).1, (y4 i hi).2⟩, y5, fun k hk => (y6 k hk).on (fun a h1 h2 => e a (by omega) (by omega))⟩
  · exact ⟨(e _ (by omega) (by omega)).1.trans hx.1, by rw [(e _ (by omega) (by omega)).2]; exact hx.2.1, (e _ (by omega) (by omega)).1.trans hx.2.2⟩
theorem dL_0 : decode mL_law.2.1 0 = .ok (.new 7, 3) := by decide +kernel
theorem dL_4 : decode mL_law.2.1 4 = .ok (.invokespecial 9, 3) := by decide +kernel
theorem dL_8 : decode mL_law.2.1 8 = .ok (.new 10, 3) := by decide +kernel
theorem dL_12 : decode mL_law.2.1 12 = .ok (.invokespecial 12, 3) := by decide +kernel
theorem nL_7 : Cond.classLink RL 7 (pw_R 6) ∈ pw_T := pw_inT (by decide +kernel)
theorem nL_10 : Cond.classLink RL 10 (pw_R 7) ∈ pw_T := pw_inT (by decide +kernel)
theorem iL_6 : pm_lnI RL 9 mX6_init 0 := ⟨⟨pw_inT (by decide +kernel), pw_inT (by decide +kernel), Or.inl (pw_inT (by decide +kernel)), by decide +kernel, by decide +kernel⟩, pw_inT (by decide +kernel), rfl⟩
theorem iL_7 : pm_lnI RL 12 mX7_init 0 := ⟨⟨pw_inT (by decide +kernel), pw_inT (by decide +kernel), Or.inl (pw_inT (by decide +kernel)), by decide +kernel, by decide +kernel⟩, pw_inT (by decide +kernel), rfl⟩
theorem lw_begin {x b L : Nat} {xs : Nat → Int32} {sh : pw_Sh} {P : pw_P} {I : pw_I} (hL : L ≤ 2048) : PW (lw_g x b L xs) 0 sh P I 0 0 0 [some (.ref b), none, none, none] [] (fun v _ _ _ _ => v = some (.int 1)) := by
  refine PW.new (ci := 6) (a := x) (N := 4) rfl rfl (by omega) (pw_clok_all 6 (by omega)) nL_7 in6.1 in6.2 (df_all 6 (by omega)) dL_0 (by show 0 + 1 ≤ 400; omega) (by show 0 + 4 ≤ 6000; omega) ?_
  refine PW.st okL_law tL_law_3 (fun z => by cases z) ⟨by omega, by omega⟩ ?_
  show PW (lw_g x b L xs) _ _ _ _ _ _ 4 [some (.ref b), none, none, none] [.ref x, .ref x] _
  refine PW.make (i_cls (x := x) (by show x + (0 + 1) = x + 1; omega) nsh_s (fun sh1 P1 I1 a1 a2 a3 a4 a5 => ⟨rfl, ?_⟩)) (by show 5 < 7; omega) (by show 0 + 1 + 298 ≤ 400; omega) (by show 0 + 4 + 3266 ≤ 6000; omega) iL_6 trivial dL_4
  refine PW.st okL_law tL_law_7 (fun z => by cases z) ⟨by omega, by omega⟩ ?_
  refine ⟨by show 1 < 4; omega, ?_⟩
  show PW (lw_g x b L xs) _ _ _ _ _ _ 8 [some (.ref b), some (.ref x), none, none] [] _
  refine PW.new (ci := 7) (a := x + 299) (N := 13) rfl (by show x + 299 = x + (0 + 1 + 298); omega) (by omega) (pw_clok_all 7 (by omega)) nL_10 in7.1 in7.2 (df_all 7 (by omega)) dL_8 (by show 0 + 1 + 298 + 1 ≤ 400; omega) (by show 0 + 4 + 3266 + 13 ≤ 6000; omega) ?_
  refine PW.st okL_law tL_law_11 (fun z => by cases z) ⟨by omega, by omega⟩ ?_
  show PW (lw_g x b L xs) _ _ _ _ _ _ 12 [some (.ref b), some (.ref x), none, none] [.ref (x + 299), .ref (x + 299)] _
  refine PW.make (i_mod (m := x + 299) (by show x + (0 + 1 + 298 + 1) = x + 299 + 1; omega) nsh_s (fun k => nZ_s) (fun sh2 P2 I2 b1 b2 b3 b4 => ⟨rfl, ?_⟩)) (by show 1 < 7; omega) (by show 0 + 1 + 298 + 1 + 7 ≤ 400; omega) (by show 0 + 4 + 3266 + 13 + 2332 ≤ 6000; omega) iL_7 trivial dL_12
  refine PW.st okL_law tL_law_15 (fun z => by cases z) ⟨by omega, by omega⟩ ?_
  refine ⟨by show 2 < 4; omega, ?_⟩
  show PW (lw_g x b L xs) _ _ _ _ _ _ 16 [some (.ref b), some (.ref x), some (.ref (x + 299)), none] [] _
  refine PW.st okL_law tL_law_16 (fun z => by cases z) ⟨by omega, by omega⟩ ?_
  refine PW.st okL_law tL_law_17 (fun z => by cases z) ⟨by omega, by omega⟩ ?_
  refine ⟨by show 3 < 4; omega, ?_⟩
  show PW (lw_g x b L xs) _ _ _ _ _ _ 18 (lw_L b x (x + 299) 0) [] _
  have lo : ∀ a, a < x + 299 → sh2 a = sh1 a ∧ P2 a = P1 a ∧ I2 a = I1 a := fun a ha => by
    obtain ⟨e1, e2, e3⟩ := b1 a ha
    exact ⟨e1.trans (nsh_n (by omega)), e2.trans (nP_n (by omega)), e3.trans (nZ_n (by omega))⟩
  refine lw_loop hL rfl ⟨by omega, by omega⟩ 600 0 0 P2 I2 (by omega) (by omega) (by omega) ⟨b2, fun i => x + 85 + 2 + 42 * i, rowS0, fun _ => rowS0, 0, I2 (x + 299 + 7), 0, a2.on (fun a h1 h2 => ⟨(lo a h2).1, (lo a h2).2.1⟩), ⟨(a3.on (fun a h1 h2 => (lo a (by omega)).2.2)).rel, ⟨?_, by omega, fun i hi => absurd hi (by omega)⟩, ?_, by omega, fun i hi => absurd hi (by omega)⟩, ⟨b4, b3 8, fun i hi => absurd hi (by omega), b3 7, rfl⟩, IV.start, fun i hi => absurd hi (by omega)⟩
  · rw [(lo _ (by omega)).2.2]; exact a4 1
  · rw [(lo _ (by omega)).2.2]; exact a5 1
