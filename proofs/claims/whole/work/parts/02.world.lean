/-! THE WORLD AS ONE MEMORY: kinds of addresses (sh), whole numbers (I), references (P); one judgement PW for the walk of a body, one PM for a contract -/
def pw_T : List Cond := lw_tbl.filter goodWord
def pw_isN (w : Cond) : Bool := match w with
  | .fieldLinkNest _ _ _ _ _ _ => true
  | .methodLinkNest _ _ _ _ => true
  | _ => false
def pw_N : List Cond := lw_tbl.filter pw_isN
theorem pw_good {a b : Cond} (hb : b ∈ pw_T) : GoodIn (a :: pw_T) (b :: pw_T) := by
  intro w hw
  have hm : w ∈ pw_T := by
    rcases List.mem_cons.mp hw with rfl | h
    · exact hb
    · exact h
  exact ⟨List.mem_cons_of_mem _ hm, good_of_word (List.mem_filter.mp hm).2⟩
theorem pw_goodT {b : Cond} (hb : b ∈ pw_T) : GoodIn pw_T (b :: pw_T) := by
  intro w hw
  have hm : w ∈ pw_T := by
    rcases List.mem_cons.mp hw with rfl | h
    · exact hb
    · exact h
  exact ⟨hm, good_of_word (List.mem_filter.mp hm).2⟩
abbrev pm_I : Type := MethodName × ByteArray × Nat × Option FieldType
abbrev pw_Sh : Type := Nat → Nat × Nat
abbrev pw_P : Type := Nat → Nat → Option Nat
abbrev pw_I : Type := Nat → Nat → Int32
abbrev pw_X : Type := Option (Nat × Nat × (Nat → Int32))
abbrev pw_g : Type := pm_I × Nat × Nat × Nat × pw_X × Nat
abbrev pw_Q : Type := Option Value → Nat → pw_Sh → pw_P → pw_I → Prop
/-- fields of references, by class and slot -/
def pw_rf : Nat → Nat → Bool
  | 0, 0 => true
  | 0, 1 => true
  | 0, 9 => true
  | 0, 10 => true
  | 0, 11 => true
  | 1, 0 => true
  | 2, 0 => true
  | 4, 0 => true
  | 5, 0 => true
  | 6, _ => true
  | 7, 0 => true
  | 7, 1 => true
  | 7, 2 => true
  | 7, 3 => true
  | 7, 4 => true
  | 7, 5 => true
  | 7, 6 => true
  | _, _ => false
def pw_nf : Nat → Nat
  | 0 => 12
  | 1 => 7
  | 2 => 2
  | 3 => 13
  | 4 => 4
  | 5 => 2
  | 6 => 4
  | _ => 13
def pw_R : Nat → String
  | 0 => RX0
  | 1 => RX1
  | 2 => RX2
  | 3 => RX3
  | 4 => RX4
  | 5 => RX5
  | 6 => RX6
  | _ => RX7
def pw_tb : Nat → u_T
  | 0 => TX0
  | 1 => TX1
  | 2 => TX2
  | 3 => TX3
  | 4 => TX4
  | 5 => TX5
  | 6 => TX6
  | _ => TX7
def pw_ty : Nat → Nat → FieldType
  | 0 => tyX0
  | 1 => tyX1
  | 2 => tyX2
  | 3 => tyX3
  | 4 => tyX4
  | 5 => tyX5
  | 6 => tyX6
  | _ => tyX7
/-- what each of the eight classes gives -/
def pw_clok (ci : Nat) : Prop := vwCl[ci]? = some (pw_R ci, pw_tb ci, pw_nf ci) ∧ (∀ w ∈ u_ws (pw_R ci) (pw_tb ci) (pw_nf ci), w ∈ pw_T) ∧
  (∀ k, k < pw_nf ci → parseFieldDescriptor (pw_tb ci k).2.2.1 = some (pw_ty ci k)) ∧
  (∀ a, a < pw_nf ci → ∀ b, b < pw_nf ci → a ≠ b → (pw_tb ci a).2.1 ≠ (pw_tb ci b).2.1)
def pw_val (ci : Nat) (P : pw_P) (I : pw_I) (a k : Nat) : Value := bif pw_rf ci k then va_rf (P a k) else .int (I a k)
def pw_cell (D : va_G) (dA : Nat → ClassId) (sh : pw_Sh) (P : pw_P) (I : pw_I) (H : Heap) (a : Nat) : Prop :=
  ((sh a).1 < 8 → t_OB a (D.1 (sh a).1) (pw_nf (sh a).1) (D.2 (sh a).1) H (pw_val (sh a).1 P I a)) ∧
  ((sh a).1 = 8 ∨ (sh a).1 = 9 → H[a]? = some (arrV (dA (sh a).1) (sh a).2 (fun j => .int (I a j)))) ∧
  (10 ≤ (sh a).1 ∧ (sh a).1 ≤ 12 → H[a]? = some (arrV (dA (sh a).1) (sh a).2 (fun j => va_rf (P a j))))
def pw_Wd (D : va_G) (dA : Nat → ClassId) (base n : Nat) (sh : pw_Sh) (P : pw_P) (I : pw_I) (H : Heap) : Prop :=
  H.size = base + n ∧ ∀ a, (sh a).1 ≤ 12 → (base ≤ a ∧ a < base + n) ∧ pw_cell D dA sh P I H a
def pw_tys (dA : Nat → ClassId) : List (ClassId × FieldType) := [(dA 8, .int), (dA 9, .char), (dA 10, .object RX4), (dA 11, .object RX3), (dA 12, .object RX0)]
def pw_K (D : va_G) (dA : Nat → ClassId) (U : State) : Prop := va_K D vwCl (pw_tys dA) U ∧ (∀ w ∈ pw_N, va_Nw w U) ∧ va_AO RX4 U ∧ va_AO RX3 U ∧ va_AO RX0 U
theorem pw_K.warm {D : va_G} {dA : Nat → ClassId} {s U : State} (hW : s.WarmedH U.vm) (h : pw_K D dA s) : pw_K D dA U := by
  obtain ⟨h1, h2, h3, h4, h5⟩ := h
  refine ⟨h1.moved hW.alike, fun w hw => ?_, h3.moved hW.alike, h4.moved hW.alike, h5.moved hW.alike⟩
  have hq := (List.mem_filter.mp hw).2
  have hz := h2 w hw
  cases w with
  | fieldLinkNest a b c d e f => exact va_Nw.warmF hW hz
  | methodLinkNest a b c d => exact va_Nw.warmM hW hz
  | _ => cases hq
theorem pw_K.same {D : va_G} {dA : Nat → ClassId} {u U : State} (hv : u.vm = U.vm) (h : pw_K D dA u) : pw_K D dA U := by
  obtain ⟨h1, h2, h3, h4, h5⟩ := h
  have hA : u.vm.Alike U.vm := by rw [hv]; exact Vm.Alike.refl _
  refine ⟨h1.moved hA, fun w hw => ?_, h3.moved hA, h4.moved hA, h5.moved hA⟩
  have hq := (List.mem_filter.mp hw).2
  have hz := h2 w hw
  cases w with
  | fieldLinkNest a b c d e f => exact va_Nw.same rfl hv hz
  | methodLinkNest a b c d => exact va_Nw.same rfl hv hz
  | _ => cases hq
/-- locals: a list of as many as the method has -/
def pl_has (ls : Array Slot) (n : Nat) (L : List (Option Value)) : Prop := ls.size = n ∧ L.length = n ∧ lv_wf ls ∧ ∀ (i : Nat) (v : Value), L[i]? = some (some v) → ls[i]? = some (.val v) ∧ v.category = 1
def pl_lv (L : List (Option Value)) : List (Nat × Value) := (List.range L.length).filterMap (fun i => (L[i]?.join).map (fun v => (i, v)))
theorem pl_mem {L : List (Option Value)} {i : Nat} {v : Value} : (i, v) ∈ pl_lv L ↔ L[i]? = some (some v) := by
  unfold pl_lv
  rw [List.mem_filterMap]
  constructor
  · rintro ⟨j, hj, h⟩
    rw [Option.map_eq_some_iff] at h
    obtain ⟨w, h1, h2⟩ := h
    cases h2
    rw [Option.join_eq_some_iff] at h1
    exact h1
  · intro h
    have hi : i < L.length := (List.getElem?_eq_some_iff.mp h).1
    exact ⟨i, List.mem_range.mpr hi, by rw [h]; rfl⟩
theorem pl_has.lv {ls : Array Slot} {n : Nat} {L : List (Option Value)} (h : pl_has ls n L) : lv_has ls n (pl_lv L) :=
  ⟨h.1, h.2.2.1, fun q hq => (h.2.2.2 q.1 q.2 (pl_mem.mp hq)).1⟩
theorem pl_has.st {ls ls' : Array Slot} {n i : Nat} {L : List (Option Value)} {v : Value} (h : pl_has ls n L) (hc : v.category = 1)
    (h' : lv_has ls' n ((i, v) :: (pl_lv L).filter (fun q => !(q.1 == i) && !(q.1 + 1 == i && q.2.category == 2)))) : pl_has ls' n (L.set i (some v)) := by
  refine ⟨h'.1, by rw [List.length_set]; exact h.2.1, h'.2.1, fun j w hj => ?_⟩
  by_cases e : i = j
  · subst e
    have hi : i < L.length := by
      have := (List.getElem?_eq_some_iff.mp hj).1
      rwa [List.length_set] at this
    rw [List.getElem?_set_self hi] at hj
    cases hj
    exact ⟨h'.2.2 (i, v) List.mem_cons_self, hc⟩
  · rw [List.getElem?_set_ne e] at hj
    have hw := h.2.2.2 j w hj
    refine ⟨h'.2.2 (j, w) (List.mem_cons_of_mem _ (List.mem_filter.mpr ⟨pl_mem.mpr hj, ?_⟩)), hw.2⟩
    have e1 : (j == i) = false := by simpa using fun q : j = i => e q.symm
    have e2 : (w.category == 2) = false := by rw [hw.2]; rfl
    simp [e1, e2]
def pw_ctx (p : Program) (s : State) (m : MethodId) (args : Array Value) (meth : Method) (c : Code) (R : Room) (g : pw_g) (D : va_G) (dA : Nat → ClassId) : Prop :=
  p.tables.exec = Jvm.exec ∧ c.code = g.1.2.1 ∧ meth.sig.returnType = g.1.2.2.2 ∧ c.maxLocals = g.1.2.2.1 ∧ s.vm.findClass g.1.1.cls = some m.cls ∧ (∀ w ∈ pw_T, w.before args s = true) ∧ meth.locks = false ∧ pw_K D dA s ∧
  (g.1.1.name = "<init>" → meth.name = "<init>") ∧ (g.2.1 ≤ R.frames ∧ 30 * g.2.1 ≤ R.locals ∧ g.2.2.1 ≤ R.cells ∧ g.2.2.2.1 ≤ R.slots) ∧ g.2.2.2.2.2 ≤ s.heap.size ∧
  (∀ q, g.2.2.2.2.1 = some q → va_X q.1 q.2.1 q.2.2 s s.heap ∧ q.1 < g.2.2.2.2.2)
/-- the end of a body: an answer of the method's type, at an instruction that gives it -/
def pw_nok (ty : Option FieldType) (x : Int32) : Prop := match ty with
  | some .int => True
  | some .boolean => x = 0 ∨ x = 1
  | some .char => ∃ n : Nat, n < 65536 ∧ x = nI n
  | _ => False
theorem pw_nok_narrow {rt : Option FieldType} {x : Int32} (h : pw_nok rt x) : ∃ ty, rt = some ty ∧ narrow ty (.int x) = .int x := by
  unfold pw_nok at h
  split at h
  · exact ⟨_, rfl, rfl⟩
  · rcases h with rfl | rfl
    · exact ⟨_, rfl, rfl⟩
    · exact ⟨_, rfl, rfl⟩
  · obtain ⟨n, hn, rfl⟩ := h
    exact ⟨_, rfl, (pk_charN hn).1⟩
  · exact h.elim
def pw_ret (y : pm_I) (v : Option Value) (pc : Nat) : Prop := match v with
  | none => decode y.2.1 pc = .ok (.return_, 1) ∧ y.2.2.2 = none
  | some v => decode y.2.1 pc = .ok (.ireturn, 1) ∧ ∃ x : Int32, v = .int x ∧ pw_nok y.2.2.2 x
def PW (g : pw_g) (n : Nat) (sh : pw_Sh) (P : pw_P) (I : pw_I) (uc us pc : Nat) (L : List (Option Value)) (st : List Value) (Q : pw_Q) : Prop :=
  ∀ (p : Program) (l : Launch) (e : Env) (R : Room) (s : State) (m : MethodId) (args : Array Value) (below : List Frame) (meth : Method) (c : Code) (H : Heap) (locs : List Loc) (cells slots : Nat) (D : va_G) (dA : Nat → ClassId) (ls : Array Slot) (Qf : State → Prop),
    pw_ctx p s m args meth c R g D dA → pw_Wd D dA g.2.2.2.2.2 n sh P I H → va_S (fun q => g.2.2.2.2.2 ≤ q) s.heap H locs → pl_has ls g.1.2.2.1 L → cells ≤ uc → slots ≤ us →
    (∀ (v : Option Value) (n' : Nat) (sh' : pw_Sh) (P' : pw_P) (I' : pw_I) (pc' : Nat) (ls' : Array Slot) (H' : Heap) (locs' : List Loc) (cells' slots' : Nat), Q v n' sh' P' I' → pw_Wd D dA g.2.2.2.2.2 n' sh' P' I' H' → va_S (fun q => g.2.2.2.2.2 ≤ q) s.heap H' locs' →
      cells' ≤ g.2.2.1 → slots' ≤ g.2.2.2.1 → pw_ret g.1 v pc' → W p l e R s m args below meth c H' locs' cells' slots' Qf (F0 m pc' ls' v.toList)) →
    W p l e R s m args below meth c H locs cells slots Qf (F0 m pc ls st)
def pm_Pc (base n : Nat) (Ag : List Value) (sh : pw_Sh) (P : pw_P) (I : pw_I) (D : va_G) (dA : Nat → ClassId) : Array Value → State → Prop := va_Pc Ag (fun U => pw_Wd D dA base n sh P I U.heap ∧ pw_K D dA U)
def pm_Qc (base : Nat) (Q : pw_Q) (D : va_G) (dA : Nat → ClassId) : Array Value → State → Outcome → State → Prop := fun _ st oc t =>
  (∃ (v : Option Value) (n' : Nat) (sh' : pw_Sh) (P' : pw_P) (I' : pw_I), oc = .returned v ∧ Q v n' sh' P' I' ∧ pw_Wd D dA base n' sh' P' I' t.heap ∧ (v = none ∨ ∃ x : Int32, v = some (.int x))) ∧ va_F (fun q => base ≤ q) st t
def pm_ws (y : pm_I) : List Cond := Cond.code y.1 y.2.1 y.2.2.1 y.2.2.2 :: pw_T
def pm_R (d mc ms : Nat) : Room := { frames := d, cells := mc, slots := ms, locals := 30 * d }
/-- the contract of a method: room for d more frames, mc cells, ms slots -/
def PM (y : pm_I) (d mc ms base : Nat) (Ag : List Value) (n : Nat) (sh : pw_Sh) (P : pw_P) (I : pw_I) (Q : pw_Q) : Prop :=
  ∀ (l : Launch) (D : va_G) (dA : Nat → ClassId), Met l y.1 (pm_ws y) (pm_R d mc ms) (pm_Pc base n Ag sh P I D dA) (pm_Qc base Q D dA) mc ms (fun q => base ≤ q)
theorem pl_args : ∀ (vs : List Value) (k : Nat), (∀ v ∈ vs, v.category = 1) → ∀ (i : Nat) (v : Value), vs[i]? = some v → (k + i, v) ∈ lv_args k vs
  | [], _, _, i, v, h => by simp at h
  | w :: vs, k, hc, i, v, h => by
    have hw : ¬ w.category = 2 := by rw [hc w List.mem_cons_self]; decide
    unfold lv_args
    rw [if_neg hw]
    cases i with
    | zero =>
      rw [List.getElem?_cons_zero] at h
      cases h
      exact List.mem_cons_self
    | succ i =>
      rw [List.getElem?_cons_succ] at h
      have := pl_args vs (k + 1) (fun v hv => hc v (List.mem_cons_of_mem _ hv)) i v h
      refine List.mem_cons_of_mem _ ?_
      rw [show k + (i + 1) = k + 1 + i by omega]
      exact this
theorem pl_sl : ∀ (vs : List Value), (∀ v ∈ vs, v.category = 1) → (lg_sl vs).length = vs.length
  | [], _ => rfl
  | w :: vs, hc => by
    have hw : ¬ w.category = 2 := by rw [hc w List.mem_cons_self]; decide
    have := pl_sl vs (fun v hv => hc v (List.mem_cons_of_mem _ hv))
    unfold lg_sl at this ⊢
    rw [List.flatMap_cons, if_neg hw, List.length_append, this]
    simp
    omega
/-- the locals at a method's entry -/
def pl_in (Ag : List Value) (n : Nat) : List (Option Value) := Ag.map some ++ List.replicate (n - Ag.length) none
theorem pl_entry {vs : List Value} {n : Nat} (hc : ∀ v ∈ vs, v.category = 1) (hn : vs.length ≤ n) : pl_has ((lg_sl vs ++ List.replicate (n - (lg_sl vs).length) Slot.unset).toArray) n (pl_in vs n) := by
  have h := lv_entry vs (n := n) (by rw [pl_sl vs hc]; exact hn)
  refine ⟨h.1, by simp [pl_in]; omega, h.2.1, fun i v hi => ?_⟩
  have hi2 : vs[i]? = some v := by
    unfold pl_in at hi
    by_cases hl : i < vs.length
    · rw [List.getElem?_append_left (by simpa using hl), List.getElem?_map] at hi
      cases hq : vs[i]? with
      | none => rw [hq] at hi; simp at hi
      | some w => rw [hq] at hi; simp at hi; rw [hi]
    · rw [List.getElem?_append_right (by simp; omega), List.getElem?_replicate] at hi
      split at hi <;> cases hi
  have hm := pl_args vs 0 hc i v hi2
  rw [Nat.zero_add] at hm
  exact ⟨h.2.2 (i, v) hm, hc v (List.mem_of_getElem? hi2)⟩
theorem PM.of_PW {y : pm_I} {d mc ms base n : Nat} {Ag : List Value} {sh : pw_Sh} {P : pw_P} {I : pw_I} {Q : pw_Q} (hy : plainName y.1.cls = true) (hc : ∀ v ∈ Ag, v.category = 1) (hn : Ag.length ≤ y.2.2.1)
    (h : PW (y, d, mc, ms, none, base) n sh P I 0 0 0 (pl_in Ag y.2.2.1) [] Q) : PM y d mc ms base Ag n sh P I Q := by
  intro l D dA
  refine Met.ofW (cc := y.2.1) (maxL := y.2.2.1) (ret := y.2.2.2) hy rfl ?_
  intro p e s m args below meth c s₁ B hml hv
  obtain ⟨rfl, hWd, hK⟩ := hv
  have hts := atoms_spec (ws := pm_ws y) B.pre
  have hname : meth.name = y.1.name := (name_of_methodNamed B.named B.method).1
  rw [lg_entry_eq]
  refine h p l e _ s m _ below meth c s.heap [] 0 0 D dA _ _ ⟨B.exec, B.bytes, B.returns, hml, findClass_of_methodNamed B.named, fun w hw => hts w (List.mem_cons_of_mem _ hw), B.notSynchronized, hK, fun e => hname.trans e, ⟨Nat.le_refl _, Nat.le_refl _, Nat.le_refl _, Nat.le_refl _⟩, ?_, fun q hq => by cases hq⟩ hWd va_S.rf (pl_entry hc hn) (Nat.le_refl _) (Nat.le_refl _) ?_
  · rw [hWd.1]
    exact Nat.le_add_right _ _
  · intro v n' sh' P' I' pc' ls' H' locs' cells' slots' hQ hW' hS' hc' hs' hret
    refine W.widen hc' hs' ?_
    have hlocks := B.notSynchronized
    cases v with
    | none =>
      obtain ⟨hd, hr⟩ := hret
      exact W.vret B.exec B.bytes (B.returns.trans hr) (fun t ht hW => ⟨⟨none, n', sh', P', I', rfl, hQ, by rw [ht]; exact hW', Or.inl rfl⟩, hS'.F ht⟩) hS'.2.2 hd hlocks
    | some v =>
      obtain ⟨hd, x, rfl, hx⟩ := hret
      obtain ⟨ty, ht1, ht2⟩ := pw_nok_narrow hx
      exact W.zret B.exec B.bytes (B.returns.trans ht1) ht2 (fun t ht hW => ⟨⟨some (.int x), n', sh', P', I', rfl, hQ, by rw [ht]; exact hW', Or.inr ⟨x, rfl⟩⟩, hS'.F ht⟩) hS'.2.2 hd hlocks
theorem pm_blind {base n : Nat} {Ag : List Value} {sh : pw_Sh} {P : pw_P} {I : pw_I} {D : va_G} {dA : Nat → ClassId} : FrameBlind (pm_Pc base n Ag sh P I D dA) := by
  intro a U g mk q
  obtain ⟨h1, h2, h3⟩ := q
  exact ⟨h1, h2, pw_K.same (u := U) (U := U.calling g mk a) rfl h3⟩
