/-! each call, of the class and of the reference: one answer, and side by side again -/
def midK (x : Nat) (sh : pw_Sh) (P : pw_P) (I : pw_I) (r : Int32) (S' : Nat → Int32) (st' : Nat → Nat → Int32) (u' : Nat) (T' : Nat → Int32) (len' : Nat) : Option Value → pw_P → pw_I → Prop := fun v P' J =>
  v = some (.int r) ∧ (∀ a, a ≠ x + 86 → P' a = P a) ∧ clsOK x I J ∧ ∃ q', pw_cls sh P' x q' ∧ clsR J x q' S' st' u' T' len'
/-- the class's method a1, the reference's a2, at the arguments vs -/
def callOK (base n : Nat) (sh : pw_Sh) (P : pw_P) (I : pw_I) (x m : Nat) (S : Nat → Int32) (st : Nat → Nat → Int32) (u : Nat) (T : Nat → Int32) (len B a1 a2 : Nat) (vs : List Value) : Prop :=
  ∃ (r : Int32) (S' : Nat → Int32) (st' : Nat → Nat → Int32) (u' : Nat) (T' : Nat → Int32) (len' d1 d2 : Nat) (Qc : pw_Q) (Qm : pw_P → pw_I → pw_Q), d1 < 7 ∧ d2 < 7 ∧
    PM (pw_Ms a1) d1 0 0 base (.ref x :: vs) n sh P I Qc ∧
    (∀ v n' sh' P' J, Qc v n' sh' P' J → n' = n ∧ sh' = sh ∧ midK x sh P I r S' st' u' T' len' v P' J) ∧
    (∀ P' J, pw_mod sh P' m → modR J m S st u T len → PM (pw_Ms a2) d2 0 0 base (.ref m :: vs) n sh P' J (Qm P' J)) ∧
    (∀ P' J v n' sh' P'' J', modR J m S st u T len → Qm P' J v n' sh' P'' J' → n' = n ∧ sh' = sh ∧ P'' = P' ∧ v = some (.int r) ∧ (∀ a, a < m → J' a = J a) ∧ modR J' m S' st' u' T' len') ∧
    IV (B + 61) S' ∧ ∀ i, i < u' → IV (B + 61) (st' i)
section CAL
variable {n base x m u len B : Nat} {sh : pw_Sh} {P : pw_P} {I : pw_I} {S T : Nat → Int32} {q : Nat → Nat} {st : Nat → Nat → Int32}
/-- a call that may change -/
theorem callC {a1 a2 d1 d2 : Nat} {vs : List Value} (o : pw_O) (hd1 : d1 < 7) (hd2 : d2 < 7) (hS : IV B S) (hst : ∀ i, i < u → IV B (st i)) (hu : u ≤ 4) (ho : ∀ S', o.2 = some S' → IV (B + 61) S')
    (h1 : ∀ KP, chgK x sh P I S st u T len o KP → pw_okP (pw_Ms a1) d1 base n sh P (.ref x :: vs) I KP)
    (h2 : ∀ P' J K, pw_mod sh P' m → modR J m S st u T len → (∀ J', modN m J o J' → K (some (.int o.1)) J') → pw_ok (pw_Ms a2) d2 base n sh P' (.ref m :: vs) J K) : callOK base n sh P I x m S st u T len B a1 a2 vs := by
  obtain ⟨k1, k2⟩ := nxt_iv (o := o) hS hst hu ho
  refine ⟨o.1, o.2.getD S, nxtH st u S o.2, nxtU u o.2, T, len, d1, d2, pw_QP n sh (midK x sh P I o.1 (o.2.getD S) (nxtH st u S o.2) (nxtU u o.2) T len), fun P' J v n' sh' P'' J' => n' = n ∧ sh' = sh ∧ P'' = P' ∧ v = some (.int o.1) ∧ modN m J o J', hd1, hd2, ?_, fun v n' sh' P' J h => h, fun P' J hm hr => ?_, fun P' J v n' sh' P'' J' hr h => ?_, k1, k2⟩
  · exact h1 _ (fun P' J q' c1 c2 c3 c4 => ⟨rfl, c2, c1, q', c3, c4⟩)
  · exact h2 P' J (fun v J' => v = some (.int o.1) ∧ modN m J o J') hm hr (fun J' hJ => ⟨rfl, hJ⟩)
  · obtain ⟨e1, e2, e3, e4, e5⟩ := h
    exact ⟨e1, e2, e3, e4, e5.lo, hr.next hu e5⟩
/-- a call that only tells -/
theorem callR {a1 a2 d1 d2 : Nat} {vs : List Value} (r : Int32) (hd1 : d1 < 7) (hd2 : d2 < 7) (hM : pw_cls sh P x q) (hS : IV B S) (hst : ∀ i, i < u → IV B (st i))
    (h1 : ∀ K : Option Value → pw_I → Prop, (∀ J, clsOK x I J → clsR J x q S st u T len → K (some (.int r)) J) → pw_ok (pw_Ms a1) d1 base n sh P (.ref x :: vs) I K)
    (h2 : ∀ P' J (K : Option Value → pw_I → Prop), pw_mod sh P' m → modR J m S st u T len → (∀ J', modKeep m J J' → K (some (.int r)) J') → pw_ok (pw_Ms a2) d2 base n sh P' (.ref m :: vs) J K) : callOK base n sh P I x m S st u T len B a1 a2 vs := by
  refine ⟨r, S, st, u, T, len, d1, d2, fun v n' sh' P' J => n' = n ∧ sh' = sh ∧ P' = P ∧ v = some (.int r) ∧ clsOK x I J ∧ clsR J x q S st u T len, fun P' J v n' sh' P'' J' => n' = n ∧ sh' = sh ∧ P'' = P' ∧ v = some (.int r) ∧ modKeep m J J', hd1, hd2, ?_, fun v n' sh' P' J h => ?_, fun P' J hm hr => ?_, fun P' J v n' sh' P'' J' hr h => ?_, hS.mono (by omega), fun i hi => (hst i hi).mono (by omega)⟩
  · exact h1 (fun v J => v = some (.int r) ∧ clsOK x I J ∧ clsR J x q S st u T len) (fun J c1 c2 => ⟨rfl, c1, c2⟩)
  · obtain ⟨e1, e2, rfl, e4, e5, e6⟩ := h
    exact ⟨e1, e2, e4, fun _ _ => rfl, e5, q, hM, e6⟩
  · exact h2 P' J (fun v J' => v = some (.int r) ∧ modKeep m J J') hm hr (fun J' hJ => ⟨rfl, hJ⟩)
  · obtain ⟨e1, e2, e3, e4, e5⟩ := h
    exact ⟨e1, e2, e3, e4, e5.1, hr.keep e5⟩
theorem useN {J J' : pw_I} {o : pw_O} {r : Int32} {K : Option Value → pw_I → Prop} (e : o = (r, none)) (hK : ∀ J', modN m J o J' → K (some (.int o.1)) J') (h : modKeep m J J') : K (some (.int r)) J' := by
  subst e
  exact hK J' h
theorem useS {J J' : pw_I} {o : pw_O} {r : Int32} {S' : Nat → Int32} {K : Option Value → pw_I → Prop} (e : o = (r, some S')) (hK : ∀ J', modN m J o J' → K (some (.int o.1)) J') (h : modRec m J S' J') : K (some (.int r)) J' := by
  subst e
  exact hK J' h
theorem ok_n {a : Int32} (hI : InvB S) (h : okNode S a) : a.toNatClampNeg < vN S 3 := by
  obtain ⟨h1, h2⟩ := h
  have h3 := hI.1
  rw [h3.1, ti_nI (by omega)] at h2
  have := (show a.toNatClampNeg = a.toInt.toNat from rfl)
  omega
theorem ok_l {a : Int32} (hI : InvB S) (h : okLine S a) : a.toNatClampNeg < vN S 4 := by
  obtain ⟨h1, h2⟩ := h
  have h3 := hI.2.1
  rw [h3.1, ti_nI (by omega)] at h2
  have := (show a.toNatClampNeg = a.toInt.toNat from rfl)
  omega
theorem j_node {a t : Int32} (hM : pw_cls sh P x q) (hR : clsR I x q S st u T len) (hS : IV B S) (hst : ∀ i, i < u → IV B (st i)) (hB : B < 800000) : callOK base n sh P I x m S st u T len B 66 104 [.int a, .int t] := by
  have hu := hR.2.1.2.1
  refine callC (nodeO S a t) (d1 := 5) (d2 := 2) (by omega) (by omega) hS hst hu (fun S' e => ?_) (fun KP hK => y_node hM hR hS.ok (inp_n hS.1 hS.2.1) hK) (fun P' J K hm hr hK => x_node7 hm ?_)
  · unfold nodeO at e
    by_cases z : okNode S a ∧ bit01 t
    · rw [pif_pos z] at e
      by_cases z2 : vN S 3 = 6
      · rw [if_pos z2] at e; cases e
      · rw [if_neg z2] at e; cases e
        have h3 := hS.1.1.2.2
        exact (hS.node (ok_n hS.1 z.1) (by omega) z.2).mono (by omega)
    · rw [pif_neg z] at e; cases e
  · have e1 := hr.1
    unfold w_node7
    dsimp only
    rw [e1]
    refine ⟨rfl, hS.1, hr.undo hu, inp_n hS.1 hS.2.1, fun z => useN ?_ hK modKeep.rf, fun z z2 => useN ?_ hK modKeep.rf, fun z z2 => useS ?_ hK (modRec.of modKeep.rf)⟩
    · unfold nodeO; rw [pif_neg z]
    · unfold nodeO; rw [pif_pos z, if_pos z2]
    · unfold nodeO; rw [pif_pos z, if_neg (by omega)]
theorem j_line {a r t : Int32} (hM : pw_cls sh P x q) (hR : clsR I x q S st u T len) (hS : IV B S) (hst : ∀ i, i < u → IV B (st i)) (hB : B < 800000) : callOK base n sh P I x m S st u T len B 67 105 [.int a, .int r, .int t] := by
  have hu := hR.2.1.2.1
  refine callC (lineO S a r t) (d1 := 5) (d2 := 2) (by omega) (by omega) hS hst hu (fun S' e => ?_) (fun KP hK => y_line hM hR hS.ok (fun h16 => ⟨(hS.2.2.1 _ (Nat.le_refl _) h16).1, inp_l hS.1 hS.2.1 h16⟩) hK) (fun P' J K hm hr hK => x_line7 hm ?_)
  · unfold lineO at e
    by_cases z : okL3 S a r t
    · rw [pif_pos z] at e
      by_cases z2 : vN S 4 = 16
      · rw [if_pos z2] at e; cases e
      · rw [if_neg z2] at e; cases e
        have h4 := hS.1.2.1.2
        exact (hS.line (ok_n hS.1 z.1) (by omega) z.2.1 z.2.2).mono (by omega)
    · rw [pif_neg z] at e; cases e
  · have e1 := hr.1
    unfold w_line7
    dsimp only
    rw [e1]
    refine ⟨rfl, hS.1, hr.undo hu, inp_l hS.1 hS.2.1, fun z => useN ?_ hK modKeep.rf, fun z z2 => useN ?_ hK modKeep.rf, fun z z2 => useS ?_ hK (modRec.of modKeep.rf)⟩
    · unfold lineO okL3; rw [pif_neg z]
    · unfold lineO okL3; rw [pif_pos z, if_pos z2]
    · unfold lineO okL3; rw [pif_pos z, if_neg (by omega)]
theorem j_mask {a t : Int32} (hM : pw_cls sh P x q) (hR : clsR I x q S st u T len) (hS : IV B S) (hst : ∀ i, i < u → IV B (st i)) (hB : B < 800000) : callOK base n sh P I x m S st u T len B 68 109 [.int a, .int t] := by
  have hu := hR.2.1.2.1
  refine callC (maskO S a t) (d1 := 5) (d2 := 5) (by omega) (by omega) hS hst hu (fun S' e => ?_) (fun KP hK => y_mask hM hR hS.ok hK) (fun P' J K hm hr hK => x_mask7 hm ?_)
  · unfold maskO at e
    by_cases z : okLine S a ∧ bit01 t
    · rw [pif_pos z] at e
      by_cases z2 : S (166 + 13 * a.toNatClampNeg + 5) = t
      · rw [if_pos z2] at e; cases e
      · rw [if_neg z2] at e; cases e
        have := ok_l hS.1 z.1
        have h4 := hS.1.2.1.2
        exact (hS.bit (Or.inr rfl) (by omega) z.2).mono (by omega)
    · rw [pif_neg z] at e; cases e
  · have e1 := hr.1
    unfold w_mask7
    dsimp only
    rw [e1]
    refine ⟨rfl, hS.1, hr.undo hu, fun k hk => ?_, fun z => useN ?_ hK modKeep.rf, fun z z2 => useN ?_ hK modKeep.rf, fun z z2 => useS ?_ hK (modRec.of modKeep.rf)⟩
    · by_cases z : bit01 t
      · exact Or.inl (hS.bit (Or.inr rfl) hk z).1
      · exact Or.inr z
    · unfold maskO; rw [pif_neg z]
    · unfold maskO; rw [pif_pos z, if_pos z2]
    · unfold maskO; rw [pif_pos z, if_neg z2]
theorem j_maskNode {a t : Int32} (hM : pw_cls sh P x q) (hR : clsR I x q S st u T len) (hS : IV B S) (hst : ∀ i, i < u → IV B (st i)) (hB : B < 800000) : callOK base n sh P I x m S st u T len B 69 110 [.int a, .int t] := by
  have hu := hR.2.1.2.1
  refine callC (maskNodeO S a t) (d1 := 5) (d2 := 3) (by omega) (by omega) hS hst hu (fun S' e => ?_) (fun KP hK => y_maskNode hM hR hS.ok hK) (fun P' J K hm hr hK => x_maskNode7 hm ?_)
  · unfold maskNodeO at e
    by_cases z : okNode S a ∧ bit01 t
    · rw [pif_pos z] at e
      by_cases z2 : S (16 + 25 * a.toNatClampNeg + 2) = t
      · rw [if_pos z2] at e; cases e
      · rw [if_neg z2] at e; cases e
        have := ok_n hS.1 z.1
        have h3 := hS.1.1.2.2
        exact (hS.hid (by omega) z.2).mono (by omega)
    · rw [pif_neg z] at e; cases e
  · have e1 := hr.1
    unfold w_maskNode7
    dsimp only
    rw [e1]
    refine ⟨rfl, hS.1, hr.undo hu, fun k hk => ?_, fun z => useN ?_ hK modKeep.rf, fun z z2 => useN ?_ hK modKeep.rf, fun z z2 => useS ?_ hK (modRec.of modKeep.rf)⟩
    · by_cases z : bit01 t
      · exact Or.inl (hS.hid hk z).1
      · exact Or.inr z
    · unfold maskNodeO; rw [pif_neg z]
    · unfold maskNodeO; rw [pif_pos z, if_pos z2]
    · unfold maskNodeO; rw [pif_pos z, if_neg z2]
theorem j_threshold {a : Int32} (hM : pw_cls sh P x q) (hR : clsR I x q S st u T len) (hS : IV B S) (hst : ∀ i, i < u → IV B (st i)) (hB : B < 800000) : callOK base n sh P I x m S st u T len B 70 111 [.int a] := by
  have hu := hR.2.1.2.1
  refine callC (thrO S a) (d1 := 5) (d2 := 1) (by omega) (by omega) hS hst hu (fun S' e => ?_) (fun KP hK => y_threshold hM hR hS.ok hK) (fun P' J K hm hr hK => x_threshold7 hm ?_)
  · unfold thrO at e
    by_cases z : 0 ≤ a.toInt ∧ a.toInt ≤ 8
    · rw [pif_pos z] at e; cases e
      exact (hS.thr z).mono (by omega)
    · rw [pif_neg z] at e; cases e
  · have e1 := hr.1
    unfold w_threshold7
    dsimp only
    rw [e1]
    refine ⟨rfl, hr.undo hu, fun z => useN ?_ hK modKeep.rf, fun z => useS ?_ hK (modRec.of modKeep.rf)⟩
    · unfold thrO; rw [pif_neg z]
    · unfold thrO; rw [pif_pos z]
theorem j_late {a : Int32} (hM : pw_cls sh P x q) (hR : clsR I x q S st u T len) (hS : IV B S) (hst : ∀ i, i < u → IV B (st i)) (hB : B < 800000) : callOK base n sh P I x m S st u T len B 71 112 [.int a] := by
  have hu := hR.2.1.2.1
  refine callC (lateO S a) (d1 := 5) (d2 := 1) (by omega) (by omega) hS hst hu (fun S' e => ?_) (fun KP hK => y_late hM hR hS.ok hK) (fun P' J K hm hr hK => x_late7 hm ?_)
  · unfold lateO at e
    by_cases z : 0 ≤ a.toInt ∧ a.toInt ≤ 50
    · rw [pif_pos z] at e; cases e
      exact (hS.late z).mono (by omega)
    · rw [pif_neg z] at e; cases e
  · have e1 := hr.1
    unfold w_late7
    dsimp only
    rw [e1]
    refine ⟨rfl, hr.undo hu, fun z => useN ?_ hK modKeep.rf, fun z => useS ?_ hK (modRec.of modKeep.rf)⟩
    · unfold lateO; rw [pif_neg z]
    · unfold lateO; rw [pif_pos z]
theorem j_edge {a : Int32} (hM : pw_cls sh P x q) (hR : clsR I x q S st u T len) (hS : IV B S) (hst : ∀ i, i < u → IV B (st i)) (hB : B < 800000) : callOK base n sh P I x m S st u T len B 75 126 [.int a] := by
  have hu := hR.2.1.2.1
  refine callC (edgeO S a) (d1 := 5) (d2 := 2) (by omega) (by omega) hS hst hu (fun S' e => ?_) (fun KP hK => y_edge hM hR hS.ok hK) (fun P' J K hm hr hK => x_edge7 hm ?_)
  · unfold edgeO at e
    by_cases z : okLine S a
    · rw [pif_pos z] at e
      by_cases z2 : S (166 + 13 * a.toNatClampNeg + 2) = 1
      · rw [if_pos z2] at e; cases e
      · rw [if_neg z2] at e; cases e
        have hk := ok_l hS.1 z
        have h4 := hS.1.2.1.2
        exact (hS.edge hk ((hS.1.2.2.2.2.2.1 _ (by omega)).2.2.1.resolve_right z2)).mono (by omega)
    · rw [pif_neg z] at e; cases e
  · have e1 := hr.1
    unfold w_edge7
    dsimp only
    rw [e1]
    refine ⟨rfl, hS.1, hr.undo hu, fun z => useN ?_ hK modKeep.rf, fun z z2 => useN ?_ hK modKeep.rf, fun z z2 => useS ?_ hK (modRec.of modKeep.rf)⟩
    · unfold edgeO; rw [pif_neg z]
    · unfold edgeO; rw [pif_pos z, if_pos z2]
    · unfold edgeO; rw [pif_pos z, if_neg z2]
theorem j_level {a t : Int32} (hM : pw_cls sh P x q) (hR : clsR I x q S st u T len) (hS : IV B S) (hst : ∀ i, i < u → IV B (st i)) (hB : B < 800000) : callOK base n sh P I x m S st u T len B 76 128 [.int a, .int t] := by
  have hu := hR.2.1.2.1
  refine callC (levelO S a t) (d1 := 5) (d2 := 5) (by omega) (by omega) hS hst hu (fun S' e => ?_) (fun KP hK => y_level hM hR hS.ok hK) (fun P' J K hm hr hK => x_level7 hm ?_)
  · unfold levelO at e
    by_cases z : okLine S a ∧ bit01 t
    · rw [pif_pos z] at e
      by_cases z2 : S (166 + 13 * a.toNatClampNeg + 2) = 1 ∧ ¬ S (166 + 13 * a.toNatClampNeg + 3) = t
      · rw [if_pos z2] at e; cases e
        have := ok_l hS.1 z.1
        have h4 := hS.1.2.1.2
        exact (hS.bit (Or.inl rfl) (by omega) z.2).mono (by omega)
      · rw [if_neg z2] at e; cases e
    · rw [pif_neg z] at e; cases e
  · have e1 := hr.1
    unfold w_level7
    dsimp only
    rw [e1]
    refine ⟨rfl, hS.1, hr.undo hu, fun k hk => ?_, fun z => useN ?_ hK modKeep.rf, fun z z2 => useN ?_ hK modKeep.rf, fun z z2 => useS ?_ hK (modRec.of modKeep.rf)⟩
    · by_cases z : bit01 t
      · exact Or.inl (hS.bit (Or.inl rfl) hk z).1
      · exact Or.inr z
    · unfold levelO; rw [pif_neg z]
    · unfold levelO; rw [pif_pos z, if_neg z2]
    · unfold levelO; rw [pif_pos z, if_pos z2]
theorem j_take (hM : pw_cls sh P x q) (hR : clsR I x q S st u T len) (hS : IV B S) (hst : ∀ i, i < u → IV B (st i)) (hB : B < 800000) : callOK base n sh P I x m S st u T len B 77 129 [] := by
  have hu := hR.2.1.2.1
  have h10 := hS.1.2.2.1.2
  obtain ⟨oI, oT, oO, oK, -, -⟩ := hS.ok
  refine callC (takeO S) (d1 := 5) (d2 := 4) (by omega) (by omega) hS hst hu (fun S' e => ?_) (fun KP hK => y_take hM hR hS.ok hK) (fun P' J K hm hr hK => x_take7 hm ?_)
  · unfold takeO at e
    by_cases z : vN S 10 = 4
    · rw [if_pos z] at e; cases e
    · rw [if_neg z] at e
      cases e2 : nextS S with
      | none => rw [e2] at e; cases e
      | some k =>
        rw [e2] at e; cases e
        exact (hS.take e2 (by omega)).mono (by omega)
  · have e1 := hr.1
    unfold w_take7
    dsimp only
    rw [e1]
    refine ⟨rfl, oI, oT, oO, hr.undo hu, fun z => useN ?_ hK modKeep.rf, fun z z2 J' hJ => useN ?_ hK (modKeep.scr hJ), fun k z z2 => ⟨(oK k z2 z).1, (oK k z2 z).2, fun J' hJ => useS ?_ hK (modRec.of (modKeep.scr hJ))⟩⟩
    · unfold takeO; rw [if_pos z]
    · unfold takeO; rw [if_neg (by omega), z2]
    · unfold takeO; rw [if_neg (by omega), z2]
theorem j_done (hM : pw_cls sh P x q) (hR : clsR I x q S st u T len) (hS : IV B S) (hst : ∀ i, i < u → IV B (st i)) (hB : B < 800000) : callOK base n sh P I x m S st u T len B 78 130 [] := by
  have hu := hR.2.1.2.1
  refine callC (doneO S) (d1 := 5) (d2 := 2) (by omega) (by omega) hS hst hu (fun S' e => ?_) (fun KP hK => y_done hM hR hS.ok hK) (fun P' J K hm hr hK => x_done7 hm ?_)
  · unfold doneO at e
    by_cases z : vN S 10 = 0
    · rw [if_pos z] at e; cases e
    · rw [if_neg z] at e; cases e
      exact (hS.done (by omega) (by omega)).mono (by omega)
  · have e1 := hr.1
    unfold w_done7
    dsimp only
    rw [e1]
    refine ⟨rfl, hS.1, hr.undo hu, fun z => useN ?_ hK modKeep.rf, fun z => useS ?_ hK (modRec.of modKeep.rf)⟩
    · unfold doneO; rw [if_pos z]
    · unfold doneO; rw [if_neg z]
theorem j_tick {a : Int32} (hM : pw_cls sh P x q) (hR : clsR I x q S st u T len) (hS : IV B S) (hst : ∀ i, i < u → IV B (st i)) (hB : B < 800000) : callOK base n sh P I x m S st u T len B 79 132 [.int a] := by
  have hu := hR.2.1.2.1
  refine callC (tickO S a) (d1 := 5) (d2 := 2) (by omega) (by omega) hS hst hu (fun S' e => ?_) (fun KP hK => y_tick hM hR hS.ok hK) (fun P' J K hm hr hK => x_tick7 hm ?_)
  · unfold tickO at e
    by_cases z : 1 ≤ a.toInt ∧ a.toInt ≤ 99
    · rw [pif_pos z] at e
      by_cases z2 : 50000 < (S 0).toInt + a.toInt
      · rw [pif_pos z2] at e; cases e
      · rw [pif_neg z2] at e; cases e
        have := (show a.toNatClampNeg = a.toInt.toNat from rfl)
        exact (hS.ticks (by omega) (by omega) (by omega)).mono (by omega)
    · rw [pif_neg z] at e; cases e
  · have e1 := hr.1
    unfold w_tick7
    dsimp only
    rw [e1]
    refine ⟨rfl, hS.1, hr.undo hu, fun z => useN ?_ hK modKeep.rf, fun z z2 => useN ?_ hK modKeep.rf, fun z z2 => useS ?_ hK (modRec.of modKeep.rf)⟩
    · unfold tickO; rw [pif_neg z]
    · unfold tickO; rw [pif_pos z, pif_pos z2]
    · unfold tickO; rw [pif_pos z, pif_neg z2]
theorem hi_run (hS : IV B S) (hB : B < 800000) (hl : len ≤ 60) : ∀ k, 374 ≤ k → (runS T len len S 0 0).1 k = S k := fun k hk => by
  have h1 := (runI_run (T := T) (by omega) hl hS).2.2.2.2.2.2.2 k hk
  rw [h1, hS.2.2.2.2.2.2.2 k hk]
theorem j_play (hM : pw_cls sh P x q) (hR : clsR I x q S st u T len) (hS : IV B S) (hst : ∀ i, i < u → IV B (st i)) (hB : B < 800000) : callOK base n sh P I x m S st u T len B 90 155 [] := by
  have hu := hR.2.1.2.1
  have hl := hR.2.2.2.1
  refine callC (playO T len S) (d1 := 6) (d2 := 6) (by omega) (by omega) hS hst hu (fun S' e => ?_) (fun KP hK => y_play (runI_2 (B := B) (by omega)) (runI_0 hS) hM hR hK) (fun P' J K hm hr hK => x_play7 hm (Ok := runI B) ?_)
  · unfold playO at e
    cases e2 : (runS T len len S 0 0).2.1 with
    | none =>
      rw [e2] at e; cases e
      exact (runI_run (by omega) hl hS).mono (by omega)
    | some w => rw [e2] at e; cases e
  · have e1 := hr.1
    have eT := hr.2.2.2.2
    unfold w_play7
    dsimp only
    rw [e1, eT]
    refine ⟨rfl, hr.undo hu, runI_1 (by omega), runI_0 hS, len, hr.2.2.2.1, hl, hi_run hS hB hl, fun z J' h1 h2 => useN ?_ hK (modKeep.pl h1 (h2.trans e1.symm)), fun z J' h1 h2 => useS ?_ hK (modRec.pl h1 h2)⟩
    · unfold playO
      cases e2 : (runS T len len S 0 0).2.1 with
      | none => exact absurd e2 z
      | some w => rfl
    · unfold playO
      rw [z]
end CAL
