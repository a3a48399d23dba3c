/-! the calls that only tell; undo, type, clearText -/
section CAL2
variable {n base x m u len B : Nat} {sh : pw_Sh} {P : pw_P} {I : pw_I} {S T : Nat → Int32} {q : Nat → Nat} {st : Nat → Nat → Int32}
theorem clsOK.rf : clsOK x I I := fun _ _ => rfl
theorem j_lineOf {a w : Int32} (hM : pw_cls sh P x q) (hR : clsR I x q S st u T len) (hS : IV B S) (hst : ∀ i, i < u → IV B (st i)) (hB : B < 800000) : callOK base n sh P I x m S st u T len B 72 122 [.int a, .int w] := by
  refine callR (lineOfV S a w) (d1 := 3) (d2 := 4) (by omega) (by omega) hM hS hst (fun K hK => y_lineOf hM hR hS.ok (hK I clsOK.rf hR)) (fun P' J K hm hr hK => x_lineOf7 hm ?_)
  have e1 := hr.1
  unfold w_lineOf7
  dsimp only
  rw [e1]
  refine ⟨rfl, hS.1, fun z => ?_, fun z => ?_⟩
  · have := hK J modKeep.rf
    rw [lineOfV, pif_neg z] at this; exact this
  · have := hK J modKeep.rf
    rw [lineOfV, pif_pos z] at this; exact this
theorem j_nodeOf {a w : Int32} (hM : pw_cls sh P x q) (hR : clsR I x q S st u T len) (hS : IV B S) (hst : ∀ i, i < u → IV B (st i)) (hB : B < 800000) : callOK base n sh P I x m S st u T len B 73 123 [.int a, .int w] := by
  refine callR (nodeOfV S a w) (d1 := 3) (d2 := 5) (by omega) (by omega) hM hS hst (fun K hK => y_nodeOf hM hR hS.ok (hK I clsOK.rf hR)) (fun P' J K hm hr hK => x_nodeOf7 hm ?_)
  have e1 := hr.1
  unfold w_nodeOf7
  dsimp only
  rw [e1]
  refine ⟨rfl, hS.1, fun z => ?_, fun z => ?_⟩
  · have := hK J modKeep.rf
    rw [nodeOfV, pif_neg z] at this; exact this
  · have := hK J modKeep.rf
    rw [nodeOfV, pif_pos z] at this; exact this
theorem j_inputAt {a i : Int32} (hM : pw_cls sh P x q) (hR : clsR I x q S st u T len) (hS : IV B S) (hst : ∀ i, i < u → IV B (st i)) (hB : B < 800000) : callOK base n sh P I x m S st u T len B 74 124 [.int a, .int i] := by
  refine callR (inputV S a i) (d1 := 2) (d2 := 2) (by omega) (by omega) hM hS hst (fun K hK => y_inputAt hM hR hS.ok (hK I clsOK.rf hR)) (fun P' J K hm hr hK => x_inputAt7 hm ?_)
  have e1 := hr.1
  unfold w_inputAt7
  dsimp only
  rw [e1]
  refine ⟨rfl, hS.1, fun z => ?_, fun z z2 => ?_, fun z z2 => ?_⟩
  · have := hK J modKeep.rf
    rw [inputV, pif_neg z] at this; exact this
  · have := hK J modKeep.rf
    rw [inputV, pif_pos z, pif_neg z2] at this; exact this
  · have := hK J modKeep.rf
    rw [inputV, pif_pos z, pif_pos z2] at this; exact this
theorem j_serviceAt {a : Int32} (hM : pw_cls sh P x q) (hR : clsR I x q S st u T len) (hS : IV B S) (hst : ∀ i, i < u → IV B (st i)) (hB : B < 800000) : callOK base n sh P I x m S st u T len B 82 135 [.int a] := by
  refine callR (serviceV S a) (d1 := 2) (d2 := 0) (by omega) (by omega) hM hS hst (fun K hK => y_serviceAt hM hR hS.ok (hK I clsOK.rf hR)) (fun P' J K hm hr hK => x_serviceAt7 hm ?_)
  have e1 := hr.1
  unfold w_serviceAt7
  dsimp only
  rw [e1]
  refine ⟨rfl, hS.1, fun z => ?_, fun z z2 => ?_, fun z z2 => ?_⟩
  · have := hK J modKeep.rf
    rw [serviceV, pif_pos z] at this; exact this
  · have := hK J modKeep.rf
    rw [serviceV, pif_neg (by omega), pif_neg z2] at this; exact this
  · have := hK J modKeep.rf
    rw [serviceV, pif_neg (by omega), pif_pos z2] at this; exact this
noncomputable def waitV (S : Nat → Int32) (a : Int32) : Int32 := pif (a.toInt < 0) (-1) (waitS S a)
theorem j_waitingAt {a : Int32} (hM : pw_cls sh P x q) (hR : clsR I x q S st u T len) (hS : IV B S) (hst : ∀ i, i < u → IV B (st i)) (hB : B < 800000) : callOK base n sh P I x m S st u T len B 83 137 [.int a] := by
  refine callR (waitV S a) (d1 := 2) (d2 := 2) (by omega) (by omega) hM hS hst (fun K hK => y_waitingAt hM hR hS.ok (fun z => ?_) (fun z W hW => ?_)) (fun P' J K hm hr hK => x_waitingAt7 hm ?_)
  · have := hK I clsOK.rf hR
    rw [waitV, pif_pos z] at this; exact this
  · have := hK I clsOK.rf hR
    rw [waitV, pif_neg (by omega), ← wait_eq hS hW z] at this; exact this
  · have e1 := hr.1
    unfold w_waitingAt7
    dsimp only
    rw [e1]
    refine ⟨rfl, hS.1, fun z => ?_, fun z => ?_⟩
    · have := hK J modKeep.rf
      rw [waitV, pif_pos z] at this; exact this
    · have := hK J modKeep.rf
      rw [waitV, pif_neg (by omega)] at this; exact this
theorem j_lines {a : Int32} (hM : pw_cls sh P x q) (hR : clsR I x q S st u T len) (hS : IV B S) (hst : ∀ i, i < u → IV B (st i)) (hB : B < 800000) : callOK base n sh P I x m S st u T len B 84 140 [.int a] := by
  refine callR (linesV S a) (d1 := 3) (d2 := 5) (by omega) (by omega) hM hS hst (fun K hK => y_lines hM hR hS.ok (hK I clsOK.rf hR)) (fun P' J K hm hr hK => x_lines7 hm ?_)
  have e1 := hr.1
  unfold w_lines7
  dsimp only
  rw [e1]
  refine ⟨rfl, hS.1, fun z => ?_, fun z => ?_⟩
  · have := hK J modKeep.rf
    rw [linesV, pif_pos z] at this; exact this
  · have := hK J modKeep.rf
    rw [linesV, pif_neg z] at this; exact this
theorem j_count {a : Int32} (hM : pw_cls sh P x q) (hR : clsR I x q S st u T len) (hS : IV B S) (hst : ∀ i, i < u → IV B (st i)) (hB : B < 800000) : callOK base n sh P I x m S st u T len B 85 142 [.int a] := by
  refine callR (countC S u len a) (d1 := 3) (d2 := 2) (by omega) (by omega) hM hS hst (fun K hK => y_count hM hR hS.ok (hK I clsOK.rf hR)) (fun P' J K hm hr hK => x_count7 hm ?_)
  obtain ⟨e1, e8, -, e7, -⟩ := hr
  unfold w_count7
  dsimp only
  rw [e1, e8, e7]
  have := hK J modKeep.rf
  rw [count_eq hS] at this
  exact ⟨rfl, hS.1, this⟩
theorem j_next (hM : pw_cls sh P x q) (hR : clsR I x q S st u T len) (hS : IV B S) (hst : ∀ i, i < u → IV B (st i)) (hB : B < 800000) : callOK base n sh P I x m S st u T len B 80 133 [] := by
  refine callR (fndI (nextS S)) (d1 := 3) (d2 := 4) (by omega) (by omega) hM hS hst (fun K hK => y_next hM hR hS.ok hK) (fun P' J K hm hr hK => x_next7 hm ?_)
  obtain ⟨oI, oT, oO, -⟩ := hS.ok
  have e1 := hr.1
  unfold w_next7
  dsimp only
  rw [e1]
  refine ⟨rfl, oI, oT, oO, fun J' hJ => ?_⟩
  have := hK J' (modKeep.scr hJ)
  cases e : nextS S with
  | none => rw [e] at this; exact this
  | some k => rw [e] at this; exact this
theorem j_orderAt {a : Int32} (hM : pw_cls sh P x q) (hR : clsR I x q S st u T len) (hS : IV B S) (hst : ∀ i, i < u → IV B (st i)) (hB : B < 800000) : callOK base n sh P I x m S st u T len B 81 134 [.int a] := by
  refine callR (orderV S a) (d1 := 4) (d2 := 4) (by omega) (by omega) hM hS hst (fun K hK => y_orderAt hM hR hS.passOK (pass_end hS) hK) (fun P' J K hm hr hK => x_orderAt7 (N := 16) hm ?_)
  have e1 := hr.1
  unfold w_orderAt7
  dsimp only
  rw [e1]
  refine ⟨rfl, fun t => (hS.passOK t).1, pass_end hS, fun t k hk => ?_, fun z => ?_, fun z J' h1 h2 => ?_⟩
  · rw [(hS.passN t).2.2.2.2.2.2.2 k hk, hS.2.2.2.2.2.2.2 k hk]
  · have := hK J modKeep.rf
    rw [orderV, pif_pos z] at this; exact this
  · have := hK J' (modKeep.scr5 h1 (h2.trans e1.symm))
    rw [orderV, pif_neg (by omega)] at this; exact this
theorem j_fault {a : Int32} (hM : pw_cls sh P x q) (hR : clsR I x q S st u T len) (hS : IV B S) (hst : ∀ i, i < u → IV B (st i)) (hB : B < 800000) : callOK base n sh P I x m S st u T len B 89 154 [.int a] := by
  have hl := hR.2.2.2.1
  refine callR (faultV T len S a) (d1 := 6) (d2 := 6) (by omega) (by omega) hM hS hst (fun K hK => y_fault (runI_2 (B := B) (by omega)) (runI_0 hS) hM hR hK) (fun P' J K hm hr hK => x_fault7 hm (Ok := runI B) ?_)
  have e1 := hr.1
  have eT := hr.2.2.2.2
  unfold w_fault7
  dsimp only
  rw [e1, eT]
  refine ⟨rfl, runI_1 (by omega), runI_0 hS, len, hr.2.2.2.1, hl, hi_run hS hB hl, fun z => ?_, fun z J' h1 h2 => ?_⟩
  · have := hK J modKeep.rf
    rw [faultV, pif_neg (fun y => z (bit_in.mp y))] at this; exact this
  · have := hK J' (modKeep.pl h1 (h2.trans e1.symm))
    rw [faultV, pif_pos (bit_in.mpr z)] at this; exact this
theorem j_undo (hM : pw_cls sh P x q) (hR : clsR I x q S st u T len) (hS : IV B S) (hst : ∀ i, i < u → IV B (st i)) (hB : B < 800000) : callOK base n sh P I x m S st u T len B 86 143 [] := by
  have hu := hR.2.1.2.1
  rcases Nat.eq_zero_or_pos u with e0 | e0
  · subst e0
    refine callR (-2) (d1 := 5) (d2 := 0) (by omega) (by omega) hM hS hst (fun K hK => y_undo hM hR (fun i hi => absurd hi (by omega)) (fun _ => hK I clsOK.rf hR) (fun v hv => absurd hv (by omega))) (fun P' J K hm hr hK => x_undo7 hm ?_)
    have hv := hr.undo hu
    have e8 : vN (J m) 8 = 0 := by unfold vN; rw [hr.2.1]; rfl
    unfold w_undo
    dsimp only
    exact ⟨rfl, hv, fun _ => hK J modKeep.rf, fun v hv => absurd hv (by omega)⟩
  · obtain ⟨v, rfl⟩ : ∃ v, u = v + 1 := ⟨u - 1, by omega⟩
    refine ⟨nI v, st v, st, v, T, len, 5, 0, fun v' n' sh' P' J => n' = n ∧ sh' = sh ∧ P' = P ∧ v' = some (.int (nI v)) ∧ clsOK x I J ∧ clsR J x q (st v) st v T len, fun P' J v' n' sh' P'' J' => n' = n ∧ sh' = sh ∧ P'' = P' ∧ v' = some (.int (nI v)) ∧ J' = pw_set (pw_set J m (upd (J m) 8 (nI v))) (m + 1) (va_cpy (J (m + 2)) (J (m + 1)) (374 * v) 0 374), by omega, by omega, ?_, fun v' n' sh' P' J h => ?_, fun P' J hm hr => ?_, fun P' J v' n' sh' P'' J' hr h => ?_, (hst v (by omega)).mono (by omega), fun i hi => (hst i (by omega)).mono (by omega)⟩
    · refine y_undo (K := fun v' J => v' = some (.int (nI v)) ∧ clsOK x I J ∧ clsR J x q (st v) st v T len) hM hR (fun i hi => (hst i hi).1) (fun z => absurd z (by omega)) (fun w hw J h1 h2 => ?_)
      obtain rfl : v = w := by omega
      exact ⟨rfl, h1, h2⟩
    · obtain ⟨e1, e2, rfl, e4, e5, e6⟩ := h
      exact ⟨e1, e2, e4, fun _ _ => rfl, e5, q, hM, e6⟩
    · have hv := hr.undo hu
      have e8 : vN (J m) 8 = v + 1 := by unfold vN; rw [hr.2.1, cl_nI (by omega)]
      refine x_undo7 (K := fun v' J' => v' = some (.int (nI v)) ∧ J' = pw_set (pw_set J m (upd (J m) 8 (nI v))) (m + 1) (va_cpy (J (m + 2)) (J (m + 1)) (374 * v) 0 374)) hm ?_
      unfold w_undo
      dsimp only
      refine ⟨rfl, hv, fun z => absurd z (by omega), fun w hw => ?_⟩
      obtain rfl : v = w := by omega
      exact ⟨rfl, rfl⟩
    · obtain ⟨e1, e2, e3, e4, rfl⟩ := h
      obtain ⟨a1, a2, a3, a4, a5⟩ := hr
      refine ⟨e1, e2, e3, e4, fun a ha => by rw [set_n (by omega), set_n (by omega)], ?_, ?_, fun i hi k hk => ?_, ?_, ?_⟩
      · rw [set_s, a1]
        funext k
        rcases Nat.lt_or_ge k 374 with z | z
        · rw [cpy_in (by omega) (by omega), show 374 * v + (k - 0) = 374 * v + k by omega]
          exact a3 v (by omega) k z
        · rw [cpy_hi (by omega), hS.2.2.2.2.2.2.2 k z, (hst v (by omega)).2.2.2.2.2.2.2 k z]
      · rw [set_n (by omega), set_s, upd_s]
      · rw [set_n (by omega), set_n (by omega)]
        exact a3 i (by omega) k hk
      · rw [set_n (by omega), set_s, upd_n (by omega)]; exact a4
      · rw [set_n (by omega), set_n (by omega)]; exact a5
theorem j_clearText (hM : pw_cls sh P x q) (hR : clsR I x q S st u T len) (hS : IV B S) (hst : ∀ i, i < u → IV B (st i)) (hB : B < 800000) : callOK base n sh P I x m S st u T len B 88 145 [] := by
  refine ⟨nI len, S, st, u, T, 0, 1, 0, fun v' n' sh' P' J => n' = n ∧ sh' = sh ∧ P' = P ∧ v' = some (.int (nI len)) ∧ clsOK x I J ∧ clsR J x q S st u T 0, fun P' J v' n' sh' P'' J' => n' = n ∧ sh' = sh ∧ P'' = P' ∧ v' = some (.int (nI len)) ∧ J' = pw_set J m (upd (J m) 7 0), by omega, by omega, ?_, fun v' n' sh' P' J h => ?_, fun P' J hm hr => ?_, fun P' J v' n' sh' P'' J' hr h => ?_, hS.mono (by omega), fun i hi => (hst i hi).mono (by omega)⟩
  · exact y_clearText (K := fun v' J => v' = some (.int (nI len)) ∧ clsOK x I J ∧ clsR J x q S st u T 0) hM hR (fun J h1 h2 => ⟨rfl, h1, h2⟩)
  · obtain ⟨e1, e2, rfl, e4, e5, e6⟩ := h
    exact ⟨e1, e2, e4, fun _ _ => rfl, e5, q, hM, e6⟩
  · refine x_clearText7 (K := fun v' J' => v' = some (.int (nI len)) ∧ J' = pw_set J m (upd (J m) 7 0)) hm ?_
    unfold w_clearText7
    dsimp only
    rw [hr.2.2.2.1]
    exact ⟨rfl, rfl, rfl⟩
  · obtain ⟨e1, e2, e3, e4, rfl⟩ := h
    obtain ⟨a1, a2, a3, a4, a5⟩ := hr
    refine ⟨e1, e2, e3, e4, fun a ha => set_n (by omega), ?_, ?_, fun i hi k hk => ?_, ?_, ?_⟩
    · rw [set_n (by omega)]; exact a1
    · rw [set_s, upd_n (by omega)]; exact a2
    · rw [set_n (by omega)]; exact a3 i hi k hk
    · rw [set_s, upd_s]; rfl
    · rw [set_n (by omega)]; exact a5
theorem j_type {a : Int32} (hM : pw_cls sh P x q) (hR : clsR I x q S st u T len) (hS : IV B S) (hst : ∀ i, i < u → IV B (st i)) (hB : B < 800000) : callOK base n sh P I x m S st u T len B 87 144 [.int a] := by
  have hl := hR.2.2.2.1
  by_cases hz : 32 ≤ a.toInt ∧ a.toInt ≤ 126
  · rcases Nat.lt_or_ge len 60 with h60 | h60
    · refine ⟨nI (len + 1), S, st, u, upd T len a, len + 1, 1, 1, fun v' n' sh' P' J => n' = n ∧ sh' = sh ∧ P' = P ∧ v' = some (.int (nI (len + 1))) ∧ clsOK x I J ∧ clsR J x q S st u (upd T len a) (len + 1), fun P' J v' n' sh' P'' J' => n' = n ∧ sh' = sh ∧ P'' = P' ∧ v' = some (.int (nI (len + 1))) ∧ J' = pw_set (pw_set J (m + 7) (upd (J (m + 7)) len a)) m (upd (J m) 7 (nI (len + 1))), by omega, by omega, ?_, fun v' n' sh' P' J h => ?_, fun P' J hm hr => ?_, fun P' J v' n' sh' P'' J' hr h => ?_, hS.mono (by omega), fun i hi => (hst i hi).mono (by omega)⟩
      · exact y_type (K := fun v' J => v' = some (.int (nI (len + 1))) ∧ clsOK x I J ∧ clsR J x q S st u (upd T len a) (len + 1)) hM hR (fun z => absurd hz z) (fun _ z => absurd z (by omega)) (fun _ _ J h1 h2 => ⟨rfl, h1, h2⟩)
      · obtain ⟨e1, e2, rfl, e4, e5, e6⟩ := h
        exact ⟨e1, e2, e4, fun _ _ => rfl, e5, q, hM, e6⟩
      · have e7 : vN (J m) 7 = len := by unfold vN; rw [hr.2.2.2.1, cl_nI (by omega)]
        refine x_type7 (K := fun v' J' => v' = some (.int (nI (len + 1))) ∧ J' = pw_set (pw_set J (m + 7) (upd (J (m + 7)) len a)) m (upd (J m) 7 (nI (len + 1)))) hm ?_
        unfold w_type7
        dsimp only
        rw [e7]
        exact ⟨rfl, ⟨hr.2.2.2.1, hl⟩, fun z => absurd hz z, fun _ z => absurd z (by omega), fun _ _ => ⟨rfl, rfl⟩⟩
      · obtain ⟨e1, e2, e3, e4, rfl⟩ := h
        obtain ⟨a1, a2, a3, a4, a5⟩ := hr
        refine ⟨e1, e2, e3, e4, fun b hb => by rw [set_n (by omega), set_n (by omega)], ?_, ?_, fun i hi k hk => ?_, ?_, ?_⟩
        · rw [set_n (by omega), set_n (by omega)]; exact a1
        · rw [set_s, upd_n (by omega)]; exact a2
        · rw [set_n (by omega), set_n (by omega)]; exact a3 i hi k hk
        · rw [set_s, upd_s]
        · rw [set_n (by omega), set_s, a5]
    · have e60 : len = 60 := by omega
      refine callR (-3) (d1 := 1) (d2 := 1) (by omega) (by omega) hM hS hst (fun K hK => y_type hM hR (fun z => absurd hz z) (fun _ _ => hK I clsOK.rf hR) (fun _ z => absurd z (by omega))) (fun P' J K hm hr hK => x_type7 hm ?_)
      have e7 : vN (J m) 7 = len := by unfold vN; rw [hr.2.2.2.1, cl_nI (by omega)]
      unfold w_type7
      dsimp only
      rw [e7]
      exact ⟨rfl, ⟨hr.2.2.2.1, hl⟩, fun z => absurd hz z, fun _ _ => hK J modKeep.rf, fun _ z => absurd z (by omega)⟩
  · refine callR (-1) (d1 := 1) (d2 := 1) (by omega) (by omega) hM hS hst (fun K hK => y_type hM hR (fun _ => hK I clsOK.rf hR) (fun z => absurd z hz) (fun z => absurd z hz)) (fun P' J K hm hr hK => x_type7 hm ?_)
    have e7 : vN (J m) 7 = len := by unfold vN; rw [hr.2.2.2.1, cl_nI (by omega)]
    unfold w_type7
    dsimp only
    rw [e7]
    exact ⟨rfl, ⟨hr.2.2.2.1, hl⟩, fun _ => hK J modKeep.rf, fun z => absurd z hz, fun z => absurd z hz⟩
end CAL2
