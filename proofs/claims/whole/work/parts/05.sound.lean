/-! the calls, and that a body's condition (sx, vc) is enough -/
section PWC
variable {p : Program} {l : Launch} {e : Env} {R : Room} {s : State} {m : MethodId} {args : Array Value} {below : List Frame} {meth : Method} {c : Code} {H : Heap} {locs : List Loc} {cells slots : Nat} {Q : State → Prop}
variable {pc : Nat} {ls : Array Slot} {rest st0 : List Value} {a : Array Value} {base mc ms : Nat} {D : va_G} {dA : Nat → ClassId} {Qc : pw_Q}
theorem pw_run (hr : va_Run p l e R s m args below meth c H locs cells slots mc ms (F0 m pc ls st0) rest (pm_Qc base Qc D dA a) (fun q => base ≤ q)) (hS : va_S (fun q => base ≤ q) s.heap H locs)
    (kk : ∀ (v : Option Value) (n' : Nat) (sh' : pw_Sh) (P' : pw_P) (I' : pw_I) (H1 : Heap) (locs1 : List Loc), Qc v n' sh' P' I' → pw_Wd D dA base n' sh' P' I' H1 → va_S (fun q => base ≤ q) s.heap H1 locs1 → (v = none ∨ ∃ x : Int32, v = some (.int x)) → W p l e R s m args below meth c H1 locs1 (cells + mc) (slots + ms) Q (F0 m (pc + 3) ls (v.toList ++ rest))) :
    W p l e R s m args below meth c H locs cells slots Q (F0 m pc ls st0) := by
  intro T hT X
  obtain ⟨v, st₀, t, T', L, h0, X', hL, e1, e2, ⟨⟨v', n', sh', P', I', hv, hq, hw, hvok⟩, hz, hk⟩, st⟩ := hr T hT X
  cases hv
  rw [h0] at hz hk
  rw [← e1] at hw hz
  obtain ⟨t2, a1, b1⟩ := kk v n' sh' P' I' T'.heap (locs ++ L) hq hw
    ⟨Nat.le_trans hS.1 hz, fun q h1 h2 => by rw [e1, hk q (Nat.lt_of_lt_of_le h1 hS.1) h2]; exact hS.2.1 q h1 h2, fun q hq => by
      rcases List.mem_append.mp hq with h | h
      · exact hS.2.2 q h
      · exact hL q h⟩ hvok T' rfl X'
  exact ⟨t2, st t2 a1, b1⟩
theorem pm_lB {g : pw_g} (C : pw_ctx p s m args meth c R g D dA) {y : pm_I} {d' mc' ms' idx nargs : Nat} (hd : d' < g.2.1) (hl : pm_ln g.1.1.cls idx y nargs) :
    (pm_R d' mc' ms').frames + 1 ≤ R.frames ∧ 8 + (y.2.2.1 + 11) + (pm_R d' mc' ms').locals ≤ R.locals := by
  obtain ⟨-, -, -, -, -, -, -, -, -, ⟨r1, r2, -⟩, -⟩ := C
  have h11 := hl.2.2.2.2
  show d' + 1 ≤ R.frames ∧ 8 + (y.2.2.1 + 11) + 30 * d' ≤ R.locals
  omega
theorem pw_recv {n : Nat} {sh : pw_Sh} {P : pw_P} {I : pw_I} (hK : pw_K D dA s) (hW : pw_Wd D dA base n sh P I H) {b k : Nat} (hk : k < 8) (hcl : pw_clok k) (hsh : (sh b).1 = k) : ∃ cell : Cell, H[b]? = some cell ∧ cell.vm.isStatics = false ∧ s.vm.findClass (pw_R k) = some cell.cls := by
  obtain ⟨cell, q1, q2, q3, -⟩ := (hW.2 b (by omega)).2.1 (by omega)
  rw [hsh] at q2
  exact ⟨cell, q1, by rw [q3]; rfl, by rw [q2]; exact (hK.1.1 k _ hcl.1).2.1⟩
end PWC
section PWD
variable {g : pw_g} {n : Nat} {sh : pw_Sh} {P : pw_P} {I : pw_I} {uc us pc : Nat} {L : List (Option Value)} {Q : pw_Q}
theorem PW.callV {y : pm_I} {d' mc' ms' k b idx : Nat} {As r : List Value} {Qc : pw_Q} (hM : PM y d' mc' ms' g.2.2.2.2.2 (.ref b :: As) n sh P I Qc) (hd : d' < g.2.1) (hmc : uc + mc' ≤ g.2.2.1) (hms : us + ms' ≤ g.2.2.2.1)
    (hl : pm_lnV g.1.1.cls idx y As.length k) (hsh : (sh b).1 = k) (hm : s_m 8 r) (hdg : decode g.1.2.1 pc = .ok (.invokevirtual idx, 3))
    (kk : ∀ v n' sh' P' I', Qc v n' sh' P' I' → PW g n' sh' P' I' (uc + mc') (us + ms') (pc + 3) L (v.toList ++ r) Q) : PW g n sh P I uc us pc L (As.reverse ++ .ref b :: r) Q := by
  intro p l e R s m args below meth c H locs cells slots D dA ls Qf C hW hS hls hc hs hr
  have hB := pm_lB (mc' := mc') (ms' := ms') C hd hl.1
  obtain ⟨hx, hb, hrt, hml, hown, hts, hlk, hK, hin, ⟨r1, r2, r3, r4⟩, hbs, hX⟩ := id C
  obtain ⟨⟨l1, l2, l3, l4, l5⟩, l6, l7, l8, l9, l10⟩ := hl
  have hrec := pw_recv hK hW l8 l10 hsh
  rw [l9] at hrec
  have hpre : PreV s H y.1.cls b (pm_Pc g.2.2.2.2.2 n (.ref b :: As) sh P I D dA) As := ⟨pm_blind, hrec, fun U hU hWm => ⟨rfl, by rw [hU]; exact hW, hK.warm hWm⟩⟩
  have hkk : ∀ (v : Option Value) (n' : Nat) (sh' : pw_Sh) (P' : pw_P) (I' : pw_I) (H1 : Heap) (locs1 : List Loc), Qc v n' sh' P' I' → pw_Wd D dA g.2.2.2.2.2 n' sh' P' I' H1 → va_S (fun q => g.2.2.2.2.2 ≤ q) s.heap H1 locs1 → (v = none ∨ ∃ x : Int32, v = some (.int x)) → W p l e R s m args below meth c H1 locs1 (cells + mc') (slots + ms') Qf (F0 m (pc + 3) ls (v.toList ++ r)) :=
    fun v n' sh' P' I' H1 locs1 h1 h2 h3 _ => kk v n' sh' P' I' h1 p l e R s m args below meth c H1 locs1 _ _ D dA ls Qf C h2 h3 hls (by omega) (by omega) hr
  have hfit : cells + mc' ≤ R.cells ∧ slots + ms' ≤ R.slots := ⟨by omega, by omega⟩
  rcases l3 with l3 | ⟨host, l3⟩
  · exact pw_run (va_runV (As := As) (rest := r) (g := F0 m pc ls (As.reverse ++ .ref b :: r)) ⟨hx, hb, hml, hown, hts⟩ (hM l D dA) ⟨callB_of As.length hts (pw_goodT l1) rfl rfl rfl (hts _ l2) (hts _ l3) l4 hB, hts _ l6, hts _ l7⟩ hpre rfl rfl hls.1 rfl (lv_room (s_m_of hm)) hdg hfit) hS hkk
  · exact pw_run (va_runVN (As := As) (rest := r) (g := F0 m pc ls (As.reverse ++ .ref b :: r)) ⟨hx, hb, hml, hown, hts⟩ (hM l D dA) ⟨va_cnB As.length hts (pw_goodT l1) rfl rfl rfl (hK.2.1 _ l3) (hts _ l2) l4 hB, hts _ l6, hts _ l7⟩ hpre rfl rfl hls.1 rfl (lv_room (s_m_of hm)) hdg hfit) hS hkk
theorem PW.callS {y : pm_I} {d' mc' ms' idx : Nat} {As r : List Value} {Qc : pw_Q} (hM : PM y d' mc' ms' g.2.2.2.2.2 As n sh P I Qc) (hd : d' < g.2.1) (hmc : uc + mc' ≤ g.2.2.1) (hms : us + ms' ≤ g.2.2.2.1)
    (hl : pm_lnS g.1.1.cls idx y As.length) (hm : s_m 8 r) (hdg : decode g.1.2.1 pc = .ok (.invokestatic idx, 3))
    (kk : ∀ v n' sh' P' I', Qc v n' sh' P' I' → PW g n' sh' P' I' (uc + mc') (us + ms') (pc + 3) L (v.toList ++ r) Q) : PW g n sh P I uc us pc L (As.reverse ++ r) Q := by
  intro p l e R s m args below meth c H locs cells slots D dA ls Qf C hW hS hls hc hs hr
  have hB := pm_lB (mc' := mc') (ms' := ms') C hd hl.1
  obtain ⟨hx, hb, hrt, hml, hown, hts, hlk, hK, hin, ⟨r1, r2, r3, r4⟩, hbs, hX⟩ := id C
  obtain ⟨⟨l1, l2, l3, l4, l5⟩, l6⟩ := hl
  have hpre : PreS s H (pm_Pc g.2.2.2.2.2 n As sh P I D dA) As := ⟨pm_blind, fun U hU hWm => ⟨rfl, by rw [hU]; exact hW, hK.warm hWm⟩⟩
  have hkk : ∀ (v : Option Value) (n' : Nat) (sh' : pw_Sh) (P' : pw_P) (I' : pw_I) (H1 : Heap) (locs1 : List Loc), Qc v n' sh' P' I' → pw_Wd D dA g.2.2.2.2.2 n' sh' P' I' H1 → va_S (fun q => g.2.2.2.2.2 ≤ q) s.heap H1 locs1 → (v = none ∨ ∃ x : Int32, v = some (.int x)) → W p l e R s m args below meth c H1 locs1 (cells + mc') (slots + ms') Qf (F0 m (pc + 3) ls (v.toList ++ r)) :=
    fun v n' sh' P' I' H1 locs1 h1 h2 h3 _ => kk v n' sh' P' I' h1 p l e R s m args below meth c H1 locs1 _ _ D dA ls Qf C h2 h3 hls (by omega) (by omega) hr
  have hfit : cells + mc' ≤ R.cells ∧ slots + ms' ≤ R.slots := ⟨by omega, by omega⟩
  rcases l3 with l3 | ⟨host, l3⟩
  · exact pw_run (va_runS (As := As) (rest := r) (g := F0 m pc ls (As.reverse ++ r)) ⟨hx, hb, hml, hown, hts⟩ (hM l D dA) ⟨callB_of As.length hts (pw_goodT l1) rfl rfl rfl (hts _ l2) (hts _ l3) l4 hB, hts _ l6⟩ hpre rfl rfl hls.1 rfl (lv_room (s_m_of hm)) hdg hfit) hS hkk
  · exact pw_run (va_runSN (As := As) (rest := r) (g := F0 m pc ls (As.reverse ++ r)) ⟨hx, hb, hml, hown, hts⟩ (hM l D dA) ⟨va_cnB As.length hts (pw_goodT l1) rfl rfl rfl (hK.2.1 _ l3) (hts _ l2) l4 hB, hts _ l6, trivial⟩ hpre rfl rfl hls.1 rfl (lv_room (s_m_of hm)) hdg hfit) hS hkk
/-- a callee whose contract is at hand, which makes nothing -/
def pw_cal (g : pw_g) (n : Nat) (sh : pw_Sh) (P : pw_P) (Ms : Nat → pm_I) (a : Nat) (Ag : List Value) (I : pw_I) (K : Option Value → pw_I → Prop) : Prop :=
  ∃ d', d' < g.2.1 ∧ PM (Ms a) d' 0 0 g.2.2.2.2.2 Ag n sh P I (fun v n' sh' P' I' => n' = n ∧ sh' = sh ∧ P' = P ∧ K v I')
theorem int_ofInt_toInt {z : Int} (h1 : -2147483648 ≤ z) (h2 : z < 2147483648) : (Int32.ofInt z).toInt = z := Int32.toInt_ofInt_of_le h1 h2
theorem int_range (x : Int32) : -2147483648 ≤ x.toInt ∧ x.toInt < 2147483648 := ⟨Int32.le_toInt x, Int32.toInt_lt x⟩
theorem ps_lookup {ps : List (Int × Int)} {d : Int} {pc : Nat} {x : Int32} (hall : ps.all (fun q => decide (0 ≤ (pc : Int) + q.2 ∧ -2147483648 ≤ q.1 ∧ q.1 < 2147483648)) = true) {k : Nat → Prop} {a : Nat} (ha : (pc : Int) + d = (a : Int))
    (h : s_w (ps.map (fun q => (Int32.ofInt q.1, ((pc : Int) + q.2).toNat))) x a k) : ∃ t : Nat, (pc : Int) + Op.lookupswitch.offset ps d x.toInt = (t : Int) ∧ k t := by
  induction ps with
  | nil => exact ⟨a, ha, h⟩
  | cons q r ih =>
    rw [List.all_cons, Bool.and_eq_true, decide_eq_true_eq] at hall
    obtain ⟨⟨h0, h1, h2⟩, hall⟩ := hall
    obtain ⟨key, off⟩ := q
    have hkey : (Int32.ofInt key).toInt = key := int_ofInt_toInt h1 h2
    by_cases e : x = Int32.ofInt key
    · refine ⟨((pc : Int) + off).toNat, ?_, h.1 e⟩
      rw [Op.lookupswitch.offset_cons, if_pos (by rw [e, hkey])]
      exact (Int.toNat_of_nonneg h0).symm
    · obtain ⟨t, t1, t2⟩ := ih hall (h.2 e)
      refine ⟨t, ?_, t2⟩
      rw [lv_osw e hkey]
      exact t1
end PWD
