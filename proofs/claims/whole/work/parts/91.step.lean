/-! the law's body: one instruction, the script, the arguments, one call of each side -/
theorem PW.st {y : pm_I} {tb : Nat → pm_E} (ok : ∀ pc, (tb pc).1 = .nop ∨ pm_ok y pw_Ms pc (tb pc)) {d mc ms base n uc us pc nx a b c : Nat} {v : Int32} {sw : List (Int32 × Nat)} {i : Instr} {X : pw_X} {sh : pw_Sh} {P : pw_P} {I : pw_I} {L : List (Option Value)} {st : List Value} {Q : pw_Q} (ht : tb pc = (i, nx, a, b, c, v, sw)) (hi : i ≠ .nop) (hu : uc ≤ mc ∧ us ≤ ms)
    (h : sx y.2.2.2 n sh P pw_no Q i nx a b c v sw L st I (fun pc' L' st' I' => PW (y, d, mc, ms, X, base) n sh P I' uc us pc' L' st' Q)) : PW (y, d, mc, ms, X, base) n sh P I uc us pc L st Q := by
  have hok := (ok pc).resolve_left (by rw [ht]; exact hi)
  rw [ht] at hok
  exact pw_sxs (g := (y, d, mc, ms, X, base)) (C := pw_no) hok hu (fun _ _ _ _ h => h.elim) (fun _ _ _ _ h => h) h
theorem st_dec {y : pm_I} {tb : Nat → pm_E} (ok : ∀ pc, (tb pc).1 = .nop ∨ pm_ok y pw_Ms pc (tb pc)) {pc nx a b c ln : Nat} {v : Int32} {sw : List (Int32 × Nat)} {i : Instr} (ht : tb pc = (i, nx, a, b, c, v, sw)) (hi : i ≠ .nop) (hl : nx - pc = ln) : decode y.2.1 pc = .ok (i, ln) := by
  have hok := (ok pc).resolve_left (by rw [ht]; exact hi)
  rw [ht] at hok
  rw [← hl]
  exact hok.1
theorem PW.sld {y : pm_I} {d mc ms base n uc us pc b L : Nat} {xs : Nat → Int32} {sh : pw_Sh} {P : pw_P} {I : pw_I} {Ls : List (Option Value)} {st : List Value} {Q : pw_Q} {i : Int32} (hin : vp_in i L) (hdg : decode y.2.1 pc = .ok (.iaload, 1))
    (kk : PW (y, d, mc, ms, some (b, L, xs), base) n sh P I uc us (pc + 1) Ls (.int (xs i.toNatClampNeg) :: st) Q) : PW (y, d, mc, ms, some (b, L, xs), base) n sh P I uc us pc Ls (.int i :: .ref b :: st) Q := by
  intro p l e R s m args below meth c H locs cells slots D dA ls Qf C hW hS hls hc hs hr
  obtain ⟨hx, hb, hrt, hml, hown, hts, hlk, hK, hin2, hroom, hbs, hX⟩ := id C
  obtain ⟨h1, h2⟩ := hX _ rfl
  have h2 : b < base := h2
  have hbs : base ≤ s.heap.size := hbs
  exact va_sld hx hb h1 (by omega) (by show ¬ base ≤ b; omega) hS hin hdg (kk p l e R s m args below meth c H locs cells slots D dA ls Qf C hW hS hls hc hs hr)
theorem PW.slen {y : pm_I} {d mc ms base n uc us pc b L : Nat} {xs : Nat → Int32} {sh : pw_Sh} {P : pw_P} {I : pw_I} {Ls : List (Option Value)} {st : List Value} {Q : pw_Q} (hdg : decode y.2.1 pc = .ok (.arraylength, 1))
    (kk : PW (y, d, mc, ms, some (b, L, xs), base) n sh P I uc us (pc + 1) Ls (.int (nI L) :: st) Q) : PW (y, d, mc, ms, some (b, L, xs), base) n sh P I uc us pc Ls (.ref b :: st) Q := by
  intro p l e R s m args below meth c H locs cells slots D dA ls Qf C hW hS hls hc hs hr
  obtain ⟨hx, hb, hrt, hml, hown, hts, hlk, hK, hin2, hroom, hbs, hX⟩ := id C
  obtain ⟨h1, h2⟩ := hX _ rfl
  have h2 : b < base := h2
  have hbs : base ≤ s.heap.size := hbs
  exact va_slen hx hb h1 (by omega) (by show ¬ base ≤ b; omega) hS hdg (kk p l e R s m args below meth c H locs cells slots D dA ls Qf C hW hS hls hc hs hr)
/-- where the law stands: its context, its locals -/
abbrev lw_g (base b L : Nat) (xs : Nat → Int32) : pw_g := (mL_law, 7, 400, 6000, some (b, L, xs), base)
abbrev lw_L (b x m i : Nat) : List (Option Value) := [some (.ref b), some (.ref x), some (.ref m), some (.int (nI i))]
/-- an argument is loaded at pc: the j-th int behind the call's own -/
def lw_ar (pc j : Nat) : Prop := tbL_law pc = (.aload_n 0, pc + 1, 0, 0, 0, 0, []) ∧ tbL_law (pc + 1) = (.iload_n 3, pc + 2, 0, 0, 0, 0, []) ∧ (∃ z : Int, tbL_law (pc + 2) = (.iconst z, pc + 3, 0, 0, 0, nI j, [])) ∧ tbL_law (pc + 3) = (.iadd, pc + 4, 0, 0, 0, 0, []) ∧ tbL_law (pc + 4) = (.iaload, pc + 5, 0, 0, 0, 0, [])
def lw_ars : Nat → List Nat → Prop
  | _, [] => True
  | pc, j :: js => lw_ar pc j ∧ lw_ars (pc + 5) js
section LAW
variable {base n uc us b L x m i : Nat} {xs : Nat → Int32} {sh : pw_Sh} {P : pw_P} {I : pw_I} {Q : pw_Q}
theorem lw_arg {pc j : Nat} {st : List Value} (ha : lw_ar pc j) (hu : uc ≤ 400 ∧ us ≤ 6000) (hj : i + j < L) (hL : L ≤ 2048) (kk : PW (lw_g base b L xs) n sh P I uc us (pc + 5) (lw_L b x m i) (.int (xs (i + j)) :: st) Q) : PW (lw_g base b L xs) n sh P I uc us pc (lw_L b x m i) st Q := by
  obtain ⟨t0, t1, ⟨z, t2⟩, t3, t4⟩ := ha
  refine PW.st okL_law t0 (fun z => by cases z) hu ?_
  show PW (lw_g base b L xs) n sh P I uc us (pc + 1) (lw_L b x m i) (.ref b :: st) Q
  refine PW.st okL_law t1 (fun z => by cases z) hu ?_
  show PW (lw_g base b L xs) n sh P I uc us (pc + 2) (lw_L b x m i) (.int (nI i) :: .ref b :: st) Q
  refine PW.st okL_law t2 (fun z => by cases z) hu ?_
  show PW (lw_g base b L xs) n sh P I uc us (pc + 3) (lw_L b x m i) (.int (nI j) :: .int (nI i) :: .ref b :: st) Q
  refine PW.st okL_law t3 (fun z => by cases z) hu ?_
  show PW (lw_g base b L xs) n sh P I uc us (pc + 4) (lw_L b x m i) (.int (nI i + nI j) :: .ref b :: st) Q
  rw [nI_add]
  refine PW.sld (in_nI hj (by omega)) (st_dec okL_law t4 (fun z => by cases z) (by omega)) ?_
  rw [cl_nI (by omega)]
  exact kk
theorem lw_args : ∀ (js : List Nat) {pc : Nat} {st : List Value}, lw_ars pc js → uc ≤ 400 ∧ us ≤ 6000 → (∀ j ∈ js, i + j < L) → L ≤ 2048 → PW (lw_g base b L xs) n sh P I uc us (pc + 5 * js.length) (lw_L b x m i) ((js.map (fun j => Value.int (xs (i + j)))).reverse ++ st) Q → PW (lw_g base b L xs) n sh P I uc us pc (lw_L b x m i) st Q
  | [], pc, st, _, _, _, _, kk => kk
  | j :: js, pc, st, ha, hu, hj, hL, kk => by
    refine lw_arg ha.1 hu (hj j List.mem_cons_self) hL (lw_args js ha.2 hu (fun k hk => hj k (List.mem_cons_of_mem _ hk)) hL ?_)
    rw [List.map_cons, List.reverse_cons, List.append_assoc, List.length_cons, show pc + 5 * (js.length + 1) = pc + 5 + 5 * js.length by omega] at kk
    exact kk
/-- side by side -/
def lw_J (sh : pw_Sh) (P : pw_P) (I : pw_I) (x m B : Nat) : Prop := pw_mod sh P m ∧ ∃ (q : Nat → Nat) (S : Nat → Int32) (st : Nat → Nat → Int32) (u : Nat) (T : Nat → Int32) (len : Nat), pw_cls sh P x q ∧ clsR I x q S st u T len ∧ modR I m S st u T len ∧ IV B S ∧ ∀ i, i < u → IV B (st i)
/-- one call of each side: the answers are the same, and the law goes on -/
theorem lw_case {pc A a1 a2 i1 i2 B : Nat} {off : Int} {js : List Nat} (hA : js.length = A) (hu : uc ≤ 400 ∧ us ≤ 6000) (hj : ∀ j ∈ js, i + j < L) (hL : L ≤ 2048) (hxm : m = x + 299)
    (t0 : tbL_law pc = (.aload_n 1, pc + 1, 0, 0, 0, 0, [])) (s1 : lw_ars (pc + 1) js) (t1 : tbL_law (pc + 1 + 5 * A) = (.invokevirtual i1, pc + 1 + 5 * A + 3, a1, A, 6, 0, []))
    (t2 : tbL_law (pc + 4 + 5 * A) = (.aload_n 2, pc + 5 + 5 * A, 0, 0, 0, 0, [])) (s2 : lw_ars (pc + 5 + 5 * A) js) (t3 : tbL_law (pc + 5 + 10 * A) = (.invokevirtual i2, pc + 5 + 10 * A + 3, a2, A, 7, 0, []))
    (t4 : tbL_law (pc + 8 + 10 * A) = (.if_icmp .eq off, pc + 11 + 10 * A, 753, 0, 0, 0, []))
    (hJ : lw_J sh P I x m B) (hC : ∀ (q : Nat → Nat) (S : Nat → Int32) (st : Nat → Nat → Int32) (u : Nat) (T : Nat → Int32) (len : Nat), pw_cls sh P x q → clsR I x q S st u T len → IV B S → (∀ i, i < u → IV B (st i)) → callOK base n sh P I x m S st u T len B a1 a2 (js.map (fun j => Value.int (xs (i + j)))))
    (kk : ∀ P' I', lw_J sh P' I' x m (B + 61) → PW (lw_g base b L xs) n sh P' I' uc us 753 (lw_L b x m i) [] Q) : PW (lw_g base b L xs) n sh P I uc us pc (lw_L b x m i) [] Q := by
  obtain ⟨hm, q, S, st, u, T, len, hM, hR, hmR, hS, hst⟩ := hJ
  obtain ⟨r, S', st', u', T', len', d1, d2, Qc, Qm, hd1, hd2, c1, c2, c3, c4, c5, c6⟩ := hC q S st u T len hM hR hS hst
  have hx0 := hM.1
  have hm0 := hm.1
  have hlen : (js.map (fun j => Value.int (xs (i + j)))).length = A := by rw [List.length_map]; exact hA
  refine PW.st okL_law t0 (fun z => by cases z) hu ?_
  show PW (lw_g base b L xs) n sh P I uc us (pc + 1) (lw_L b x m i) [.ref x] Q
  refine lw_args js s1 hu hj hL ?_
  rw [hA]
  refine pw_callP okL_law t1 (As := js.map (fun j => Value.int (xs (i + j)))) (o := x) (r := []) c1 hd1 hu hlen (by rw [hx0]) trivial (fun v n' sh' P' I' hQ => ?_)
  obtain ⟨e1, e2, rfl, e4, e5, q', k1, k2⟩ := c2 v n' sh' P' I' hQ
  subst e1 e2
  have hm' : pw_mod sh' P' m := hm.P (e4 m (by omega))
  have hmR' : modR I' m S st u T len := by
    obtain ⟨g1, g2, g3, g4, g5⟩ := hmR
    exact ⟨(e5 _ (by omega)).trans g1, by rw [e5 m (by omega)]; exact g2, fun i hi k hk => by rw [e5 (m + 2) (by omega)]; exact g3 i hi k hk, by rw [e5 m (by omega)]; exact g4, (e5 _ (by omega)).trans g5⟩
  rw [show pc + 1 + 5 * A + 3 = pc + 4 + 5 * A by omega]
  refine PW.st okL_law t2 (fun z => by cases z) hu ?_
  show PW (lw_g base b L xs) n' sh' P' I' uc us (pc + 5 + 5 * A) (lw_L b x m i) [.ref m, .int r] Q
  refine lw_args js s2 hu hj hL ?_
  rw [hA, show pc + 5 + 5 * A + 5 * A = pc + 5 + 10 * A by omega]
  refine pw_callP okL_law t3 (As := js.map (fun j => Value.int (xs (i + j)))) (o := m) (r := [.int r]) (c3 P' I' hm' hmR') hd2 hu hlen (by rw [hm0]) trivial (fun v2 n2 sh2 P2 I2 hQ2 => ?_)
  obtain ⟨f1, f2, f3, rfl, f5, f6⟩ := c4 P' I' v2 n2 sh2 P2 I2 hmR' hQ2
  subst f1 f2 f3
  rw [show pc + 5 + 10 * A + 3 = pc + 8 + 10 * A by omega]
  refine PW.st okL_law t4 (fun z => by cases z) hu ?_
  refine ⟨fun _ => kk P2 I2 ⟨hm', q', S', st', u', T', len', k1, ?_, f6, c5, c6⟩, fun z => absurd rfl z⟩
  have g : ∀ a, a < x + 299 → I2 a = I' a := fun a ha => f5 a (by omega)
  obtain ⟨w1, ⟨w2, w3, w4⟩, w5⟩ := k2
  have hh := k1.2.2.2.2.2.2.2.1
  exact ⟨w1.out (fun a a1 a2 => g a (by omega)), ⟨by rw [g _ (by omega)]; exact w2, w3, fun i hi => (w4 i hi).out (fun a a1 a2 => by
    have := hh.at (i := i) (by omega)
    exact g a (by omega))⟩, w5.out (by rw [g _ (by omega)]) (g _ (by omega))⟩
end LAW
