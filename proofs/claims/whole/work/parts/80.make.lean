/-! objects and arrays are made: steps of PW -/
def nsh (sh : pw_Sh) (a : Nat) (k : Nat × Nat) : pw_Sh := fun q => if q = a then k else sh q
def nP (P : pw_P) (a : Nat) : pw_P := fun q k => if q = a then none else P q k
def nZ (I : pw_I) (a : Nat) : pw_I := pw_set I a (fun _ => 0)
theorem nsh_s {sh : pw_Sh} {a : Nat} {k : Nat × Nat} : nsh sh a k a = k := if_pos rfl
theorem nsh_n {sh : pw_Sh} {a q : Nat} {k : Nat × Nat} (h : q ≠ a) : nsh sh a k q = sh q := if_neg h
theorem nP_s {P : pw_P} {a k : Nat} : nP P a a k = none := if_pos rfl
theorem nP_n {P : pw_P} {a q : Nat} (h : q ≠ a) : nP P a q = P q := by
  funext k
  exact if_neg h
theorem nZ_s {I : pw_I} {a k : Nat} : nZ I a a k = 0 := by unfold nZ; rw [set_s]
theorem nZ_n {I : pw_I} {a q : Nat} (h : q ≠ a) : nZ I a q = I q := set_n h
theorem upP_s {P : pw_P} {a k : Nat} {v : Option Nat} : pw_upP P a k v a k = v := by simp [pw_upP]
theorem upP_a {P : pw_P} {a k q : Nat} {v : Option Nat} (h : q ≠ a) : pw_upP P a k v q = P q := by
  funext i
  simp [pw_upP, h]
theorem upP_k {P : pw_P} {a k i : Nat} {v : Option Nat} (h : i ≠ k) : pw_upP P a k v a i = P a i := by simp [pw_upP, h]
theorem pw_Wd.push {D : va_G} {dA : Nat → ClassId} {base n : Nat} {sh : pw_Sh} {P : pw_P} {I : pw_I} {H H' : Heap} {k : Nat × Nat} (h : pw_Wd D dA base n sh P I H) (z : H'.size = base + n + 1) (o : ∀ q, q < base + n → H'[q]? = H[q]?)
    (hc1 : k.1 < 8 → t_OB (base + n) (D.1 k.1) (pw_nf k.1) (D.2 k.1) H' (fun j => bif pw_rf k.1 j then va_rf none else .int 0)) (hc2 : k.1 = 8 ∨ k.1 = 9 → H'[base + n]? = some (arrV (dA k.1) k.2 (fun _ => .int 0))) (hc3 : 10 ≤ k.1 ∧ k.1 ≤ 12 → H'[base + n]? = some (arrV (dA k.1) k.2 (fun _ => va_rf none))) :
    pw_Wd D dA base (n + 1) (nsh sh (base + n) k) (nP P (base + n)) (nZ I (base + n)) H' := by
  refine ⟨by omega, fun a ha => ?_⟩
  by_cases e : a = base + n
  · subst e
    refine ⟨⟨by omega, by omega⟩, ?_⟩
    have e1 : pw_val k.1 (nP P (base + n)) (nZ I (base + n)) (base + n) = fun j => bif pw_rf k.1 j then va_rf none else .int 0 := by
      funext j
      unfold pw_val
      rw [nP_s, nZ_s]
    unfold pw_cell
    rw [nsh_s, e1]
    refine ⟨hc1, fun hk => ?_, fun hk => ?_⟩
    · rw [hc2 hk]
      congr 2
      funext j
      rw [nZ_s]
    · rw [hc3 hk]
      congr 2
      funext j
      rw [nP_s]
  · rw [nsh_n e] at ha
    obtain ⟨hb, hcell⟩ := h.2 a ha
    refine ⟨⟨hb.1, by omega⟩, ?_⟩
    have := hcell.kept (H' := H') (P' := nP P (base + n)) (I' := nZ I (base + n)) (o a hb.2) (fun j => by rw [nP_n e]) (fun j => by rw [nZ_n e])
    unfold pw_cell at this ⊢
    rw [nsh_n e]
    exact this
section MAK
variable {g : pw_g} {n : Nat} {sh : pw_Sh} {P : pw_P} {I : pw_I} {uc us pc : Nat} {L : List (Option Value)} {st : List Value} {Q : pw_Q}
theorem PW.new {ci idx a N : Nat} (hN : pw_nf ci = N) (ha : a = g.2.2.2.2.2 + n) (hci : ci < 8) (hcl : pw_clok ci) (h1 : Cond.classLink g.1.1.cls idx (pw_R ci) ∈ pw_T) (h2 : Cond.instantiable (pw_R ci) (pw_nf ci) ∈ pw_T) (h3 : Cond.initialized (pw_R ci) ∈ pw_T) (hz : ∀ k, k < pw_nf ci → defaultValue (pw_ty ci k) = bif pw_rf ci k then va_rf none else .int 0) (hdg : decode g.1.2.1 pc = .ok (.new idx, 3))
    (hu : uc + 1 ≤ g.2.2.1) (hv : us + N ≤ g.2.2.2.1) (kk : PW g (n + 1) (nsh sh a (ci, 0)) (nP P a) (nZ I a) (uc + 1) (us + N) (pc + 3) L (.ref a :: st) Q) : PW g n sh P I uc us pc L st Q := by
  subst hN
  subst ha
  intro p l e R s m args below meth c H locs cells slots D dA ls Qf C hW hS hls hc hs hr
  obtain ⟨hx, hb, hrt, hml, hown, hts, hlk, hK, hin, ⟨r1, r2, r3, r4⟩, hbs, hX⟩ := id C
  have hKn := hK.1.1 ci _ hcl.1
  refine W.newcK hx hb hown (hts _ h1) (hts _ h2) (hts _ h3) rfl hdg (by omega) (by omega) hKn.2.1 hW.1 fun H1 kC hkC e1 z1 o1 => ?_
  exact kk p l e R s m args below meth c H1 locs _ _ D dA ls Qf C (hW.push z1 o1 (fun _ => (u_born (pw_ty ci) hts hcl.2.1 hKn hkC e1 hcl.2.2.1).to hz) (fun h => absurd h (by omega)) (fun h => absurd h (by omega))) ⟨Nat.le_trans hS.1 (by rw [hW.1, z1]; omega), fun x h1 h2 => (o1 x (by have := hS.1; have := hW.1; omega)).trans (hS.2.1 x h1 h2), hS.2.2⟩ hls (by omega) (by omega) hr
theorem PW.newa {kd N a : Nat} {atype : ArrayType} (ha : a = g.2.2.2.2.2 + n) (hkd : (kd = 8 ∧ atype = .int) ∨ (kd = 9 ∧ atype = .char)) (h1 : Cond.arrayClass (newarray.typeOf atype) ∈ pw_T) (hN : N ≤ 100000) (hdg : decode g.1.2.1 pc = .ok (.newarray atype, 2))
    (hu : uc + 1 ≤ g.2.2.1) (hv : us + N ≤ g.2.2.2.1) (kk : PW g (n + 1) (nsh sh a (kd, N)) (nP P a) (nZ I a) (uc + 1) (us + N) (pc + 2) L (.ref a :: st) Q) : PW g n sh P I uc us pc L (.int (nI N) :: st) Q := by
  subst ha
  intro p l e R s m args below meth c H locs cells slots D dA ls Qf C hW hS hls hc hs hr
  obtain ⟨hx, hb, hrt, hml, hown, hts, hlk, hK, hin, ⟨r1, r2, r3, r4⟩, hbs, hX⟩ := id C
  have hS1 : ∀ H1 : Heap, H1.size = g.2.2.2.2.2 + n + 1 → (∀ q, q < g.2.2.2.2.2 + n → H1[q]? = H[q]?) → va_S (fun q => g.2.2.2.2.2 ≤ q) s.heap H1 locs := fun H1 z1 o1 => ⟨Nat.le_trans hS.1 (by rw [hW.1, z1]; omega), fun x h1 h2 => (o1 x (by have := hS.1; have := hW.1; omega)).trans (hS.2.1 x h1 h2), hS.2.2⟩
  rcases hkd with ⟨rfl, rfl⟩ | ⟨rfl, rfl⟩
  · refine va_newaK (N := N) (g := F0 m pc ls (.int (nI N) :: st)) hx hb (hts _ h1) rfl hdg rfl (nI_pos (by omega)) (cl_nI (by omega)) (by show N * 4 ≤ _; omega) (by omega) (by omega) hW.1 fun H1 cA e1 z1 o1 hAr hNm => ?_
    have hcA : cA = dA 8 := Option.some.inj (hNm.symm.trans (hK.1.2 0 _ rfl).2)
    subst hcA
    exact kk p l e R s m args below meth c H1 locs _ _ D dA ls Qf C (hW.push z1 o1 (fun h => absurd h (by omega)) (fun _ => e1) (fun h => absurd h (by omega))) (hS1 H1 z1 o1) hls (by omega) (by omega) hr
  · refine va_newaK (N := N) (g := F0 m pc ls (.int (nI N) :: st)) hx hb (hts _ h1) rfl hdg rfl (nI_pos (by omega)) (cl_nI (by omega)) (by show N * 2 ≤ _; omega) (by omega) (by omega) hW.1 fun H1 cA e1 z1 o1 hAr hNm => ?_
    have hcA : cA = dA 9 := Option.some.inj (hNm.symm.trans (hK.1.2 1 _ rfl).2)
    subst hcA
    exact kk p l e R s m args below meth c H1 locs _ _ D dA ls Qf C (hW.push z1 o1 (fun h => absurd h (by omega)) (fun _ => e1) (fun h => absurd h (by omega))) (hS1 H1 z1 o1) hls (by omega) (by omega) hr
theorem PW.anew {kd N a idx : Nat} (ha : a = g.2.2.2.2.2 + n) (hkd : 10 ≤ kd ∧ kd ≤ 12) (h1 : Cond.classLink g.1.1.cls idx (pw_R (pw_el kd)) ∈ pw_T) (hN : N ≤ 100000) (hdg : decode g.1.2.1 pc = .ok (.anewarray idx, 3))
    (hu : uc + 1 ≤ g.2.2.1) (hv : us + N ≤ g.2.2.2.1) (kk : PW g (n + 1) (nsh sh a (kd, N)) (nP P a) (nZ I a) (uc + 1) (us + N) (pc + 3) L (.ref a :: st) Q) : PW g n sh P I uc us pc L (.int (nI N) :: st) Q := by
  subst ha
  intro p l e R s m args below meth c H locs cells slots D dA ls Qf C hW hS hls hc hs hr
  obtain ⟨hx, hb, hrt, hml, hown, hts, hlk, hK, hin, ⟨r1, r2, r3, r4⟩, hbs, hX⟩ := id C
  have hcl : (nI N).toNatClampNeg = N := cl_nI (by omega)
  have hover : va_AO (pw_R (pw_el kd)) s := by
    have : kd = 10 ∨ kd = 11 ∨ kd = 12 := by omega
    rcases this with rfl | rfl | rfl
    · exact hK.2.2.1
    · exact hK.2.2.2.1
    · exact hK.2.2.2.2
  refine W.anew (g := F0 m pc ls (.int (nI N) :: st)) hx hb hown (hts _ h1) (va_AO.use hover) rfl hdg rfl (nI_pos (by omega)) (by rw [hcl]; omega) (by omega) (by rw [hcl]; omega) fun cA kA comp f1 f2 f3 f4 => ?_
  rw [hcl]
  generalize hH1 : H.push ({ cls := cA, slots := Array.replicate N .null, vm := .none } : Cell) = H1
  have z1 : H1.size = g.2.2.2.2.2 + n + 1 := by rw [← hH1, Array.size_push, hW.1]
  have e1 : H1[g.2.2.2.2.2 + n]? = some (arrV cA N (fun _ => .null)) := by rw [← hH1, ← hW.1, Array.getElem?_push_size, ← arrV_new]
  have o1 : ∀ q : Nat, q < g.2.2.2.2.2 + n → H1[q]? = H[q]? := fun q hq => by rw [← hH1, Array.getElem?_push, if_neg (by rw [hW.1]; omega)]
  obtain ⟨kA', comp', k1, k2, k3, k4⟩ := (hK.1.2 _ _ (pw_tysk hkd)).2
  have hcA : cA = dA kd := Option.some.inj (f1.symm.trans k4)
  subst hcA
  rw [hW.1]
  exact kk p l e R s m args below meth c H1 locs _ _ D dA ls Qf C (hW.push z1 o1 (fun h => absurd h (by omega)) (fun h => absurd h (by omega)) (fun _ => e1)) ⟨Nat.le_trans hS.1 (by rw [hW.1, z1]; omega), fun x h1 h2 => (o1 x (by have := hS.1; have := hW.1; omega)).trans (hS.2.1 x h1 h2), hS.2.2⟩ hls (by omega) (by omega) hr
/-- a reference is put into a field that is final, in a constructor -/
theorem PW.putR {a v ci k idx : Nat} (hci : ci < 8) (hcl : pw_clok ci) (hk : k < pw_nf ci) (hsh : (sh a).1 = ci) (hrf : pw_rf ci k = true) (hl : Cond.fieldLink g.1.1.cls idx (pw_tb ci k).1 (pw_tb ci k).2.1 (pw_tb ci k).2.2.1 ∈ pw_T) (hfin : (pw_tb ci k).2.2.2 = true ∧ g.1.1.name = "<init>" ∧ (pw_tb ci k).1 = g.1.1.cls)
    (hn : narrow (pw_ty ci k) (.ref v) = .ref v) (hfit : fits (pw_ty ci k) (.ref v) = true) (hdg : decode g.1.2.1 pc = .ok (.putfield idx, 3)) (kk : PW g n sh (pw_upP P a k (some v)) I uc us (pc + 3) L st Q) : PW g n sh P I uc us pc L (.ref v :: .ref a :: st) Q := by
  intro p l e R s m args below meth c H locs cells slots D dA ls Qf C hW hS hls hc hs hr
  have hA : g.2.2.2.2.2 ≤ a := (hW.2 a (by omega)).1.1
  refine pw_putf C hW hS (P' := pw_upP P a k (some v)) (I' := I) hA hci hcl hk hsh (Or.inl hl) (Or.inr ⟨hfin.1, C.2.2.2.2.2.2.2.2.1 hfin.2.1, hfin.2.2, hl⟩) hn hfit (fun q hq j => by rw [upP_a hq]) (fun _ _ _ => rfl) (fun j hj => ?_) hdg (fun H1 locs1 hW1 hS1 => kk p l e R s m args below meth c H1 locs1 cells slots D dA ls Qf C hW1 hS1 hls hc hs hr)
  unfold pw_val
  by_cases z : j = k
  · subst z
    rw [if_pos rfl, hrf, upP_s]; rfl
  · rw [if_neg z, upP_k z]
/-- a reference is stored into an array of its class -/
theorem PW.aastG {a v k N : Nat} (hs : (sh a).2 = N ∧ 10 ≤ (sh a).1 ∧ (sh a).1 ≤ 12) (hv : (sh v).1 = pw_el (sh a).1) (hk : k < N) (hN : N < 2147483648) (hdg : decode g.1.2.1 pc = .ok (.aastore, 1))
    (kk : PW g n sh (pw_upP P a k (some v)) I uc us (pc + 1) L st Q) : PW g n sh P I uc us pc L (.ref v :: .int (nI k) :: .ref a :: st) Q := by
  intro p l e R s m args below meth c H locs cells slots D dA ls Qf C hW hS hls hc hsl hr
  have ck : (nI k).toNatClampNeg = k := cl_nI (by omega)
  have hA : g.2.2.2.2.2 ≤ a := (hW.2 a (by omega)).1.1
  have hel : pw_el (sh a).1 < 8 := by
    have : (sh a).1 = 10 ∨ (sh a).1 = 11 ∨ (sh a).1 = 12 := by omega
    rcases this with h | h | h <;> rw [h] <;> decide
  refine pw_aast C hW hS hA hs.2 (pw_clok_all _ hel) hv (by rw [hs.1]; exact in_nI hk hN) hdg fun H1 locs1 hW1 hS1 => ?_
  rw [ck] at hW1
  exact kk p l e R s m args below meth c H1 locs1 cells slots D dA ls Qf C hW1 hS1 hls hc hsl hr
/-- Object's own constructor -/
theorem ob_w : Cond.instanceMethod Lib.objectInit ∈ pw_T ∧ Cond.code Lib.objectInit ⟨#[0xb1]⟩ 1 none ∈ pw_T := ⟨pw_inT (by decide +kernel), pw_inT (by decide +kernel)⟩
theorem PW.obj0 {a idx : Nat} (hk : Cond.methodLink g.1.1.cls idx Lib.objectInit ∈ pw_T) (hf : 1 ≤ g.2.1) (hm : s_m 8 st) (hdg : decode g.1.2.1 pc = .ok (.invokespecial idx, 3)) (kk : PW g n sh P I uc us (pc + 3) L st Q) : PW g n sh P I uc us pc L (.ref a :: st) Q := by
  intro p l e R s m args below meth c H locs cells slots D dA ls Qf C hW hS hls hc hs hr
  obtain ⟨hx, hb, hrt, hml, hown, hts, hlk, hK, hin, ⟨r1, r2, r3, r4⟩, hbs, hX⟩ := id C
  have h8 := lv_room (m := m) (pc := pc) (ls := ls) (rest := .ref a :: st) (s_m_of hm)
  exact W.objInit (g := F0 m pc ls (.ref a :: st)) hx hb hown (hts _ hk) (hts _ ob_w.1) (hts _ ob_w.2) rfl (hls.1.trans hml.symm) rfl hdg (by omega) (by omega) (kk p l e R s m args below meth c H locs cells slots D dA ls Qf C hW hS hls hc hs hr)
/-- a constructor of a class of its own -/
def pm_lnI (own : String) (idx : Nat) (y : pm_I) (nargs : Nat) : Prop := pm_ln own idx y nargs ∧ Cond.instanceMethod y.1 ∈ pw_T ∧ y.1.name = "<init>"
theorem PW.callI {yn : MethodName} {yb : ByteArray} {ym d' mc' ms' b idx : Nat} {As : List Value} {Qc : pw_Q} (hM : PM (yn, yb, ym, none) d' mc' ms' g.2.2.2.2.2 (.ref b :: As) n sh P I Qc) (hd : d' < g.2.1) (hmc : uc + mc' ≤ g.2.2.1) (hms : us + ms' ≤ g.2.2.2.1)
    (hl : pm_lnI g.1.1.cls idx (yn, yb, ym, none) As.length) (hm : s_m 8 st) (hdg : decode g.1.2.1 pc = .ok (.invokespecial idx, 3))
    (kk : ∀ v n' sh' P' I', Qc v n' sh' P' I' → PW g n' sh' P' I' (uc + mc') (us + ms') (pc + 3) L (v.toList ++ st) Q) : PW g n sh P I uc us pc L (As.reverse ++ .ref b :: st) Q := by
  intro p l e R s m args below meth c H locs cells slots D dA ls Qf C hW hS hls hc hs hr
  have hB := pm_lB (mc' := mc') (ms' := ms') C hd hl.1
  obtain ⟨hx, hb, hrt, hml, hown, hts, hlk, hK, hin, ⟨r1, r2, r3, r4⟩, hbs, hX⟩ := id C
  obtain ⟨⟨l1, l2, l3, l4, l5⟩, l6, l7⟩ := hl
  have hpre : PreS s H (pm_Pc g.2.2.2.2.2 n (.ref b :: As) sh P I D dA) (.ref b :: As) := ⟨pm_blind, fun U hU hWm => ⟨rfl, by rw [hU]; exact hW, hK.warm hWm⟩⟩
  have hkk : ∀ (v : Option Value) (n' : Nat) (sh' : pw_Sh) (P' : pw_P) (I' : pw_I) (H1 : Heap) (locs1 : List Loc), Qc v n' sh' P' I' → pw_Wd D dA g.2.2.2.2.2 n' sh' P' I' H1 → va_S (fun q => g.2.2.2.2.2 ≤ q) s.heap H1 locs1 → (v = none ∨ ∃ x : Int32, v = some (.int x)) → W p l e R s m args below meth c H1 locs1 (cells + mc') (slots + ms') Qf (F0 m (pc + 3) ls (v.toList ++ st)) :=
    fun v n' sh' P' I' H1 locs1 h1 h2 h3 _ => kk v n' sh' P' I' h1 p l e R s m args below meth c H1 locs1 _ _ D dA ls Qf C h2 h3 hls (by omega) (by omega) hr
  have hfit : cells + mc' ≤ R.cells ∧ slots + ms' ≤ R.slots := ⟨by omega, by omega⟩
  rcases l3 with l3 | ⟨host, l3⟩
  · exact pw_run (va_runI (b := b) (As := As) (rest := st) (g := F0 m pc ls (As.reverse ++ .ref b :: st)) ⟨hx, hb, hml, hown, hts⟩ (hM l D dA) ⟨callB_of As.length hts (pw_goodT l1) rfl rfl rfl (hts _ l2) (hts _ l3) l4 hB, l7, hts _ l6⟩ hpre rfl rfl hls.1 rfl (lv_room (s_m_of hm)) hdg hfit) hS hkk
  · exact pw_run (va_runIN (b := b) (As := As) (rest := st) (g := F0 m pc ls (As.reverse ++ .ref b :: st)) ⟨hx, hb, hml, hown, hts⟩ (hM l D dA) ⟨va_cnB As.length hts (pw_goodT l1) rfl rfl rfl (hK.2.1 _ l3) (hts _ l2) l4 hB, l7, hts _ l6⟩ hpre rfl rfl hls.1 rfl (lv_room (s_m_of hm)) hdg hfit) hS hkk
end MAK
