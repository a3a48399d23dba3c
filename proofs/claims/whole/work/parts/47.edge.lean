/-! the class's board: changes of one line -/
theorem wayL_congr {on on' : Nat → Nat} (h : ∀ j, 1 ≤ j → j < 6 → on j < j) (e : ∀ j, j < 6 → on' j = on j) : ∀ (f j : Nat), j < 6 → wayL on' f j = wayL on f j
  | 0, _, _ => rfl
  | f + 1, j, hj => by
    unfold wayL
    by_cases z : j = 0
    · rw [if_pos z, if_pos z]
    · rw [if_neg z, if_neg z, e j hj, wayL_congr h e f (on j) (by have := h j (by omega) hj; omega)]
theorem RelB.ln {I J : pw_I} {b k0 : Nat} {S S' : Nat → Int32} (h : RelB I b S) (hI : InvB S) (hk0 : k0 < 16) (hJ : ∀ a, a ≠ b + 21 + k0 → J a = I a) (hS : ∀ i, (i < 5 ∨ 9 ≤ i) → (i < 166 + 13 * k0 ∨ 166 + 13 * k0 + 13 ≤ i ∨ i = 166 + 13 * k0 + 4 ∨ i = 166 + 13 * k0 + 11 ∨ i = 166 + 13 * k0 + 12) → S' i = S i) (hL0 : relL J b S' k0) : RelB J b S' := by
  obtain ⟨⟨f1, f2, f3, f4, f5, f6, f7⟩, hN, hL, hV, W, w1, w2, w3, w4, w5⟩ := h
  have v4 : vN S' 4 = vN S 4 := by unfold vN; rw [hS 4 (by omega) (by omega)]
  have v3 : vN S' 3 = vN S 3 := by unfold vN; rw [hS 3 (by omega) (by omega)]
  have v10 : vN S' 10 = vN S 10 := by unfold vN; rw [hS 10 (by omega) (by omega)]
  have hst : ∀ k, S' (166 + 13 * k + 4) = S (166 + 13 * k + 4) := fun k => hS _ (by omega) (by omega)
  have hdu : ∀ k, S' (166 + 13 * k + 11) = S (166 + 13 * k + 11) := fun k => hS _ (by omega) (by omega)
  have hdo : ∀ k, S' (166 + 13 * k + 12) = S (166 + 13 * k + 12) := fun k => hS _ (by omega) (by omega)
  refine ⟨⟨?_, ?_, ?_, ?_, ?_, ?_, ?_⟩, fun j hj => ?_, fun k hk => ?_, ?_, W, ?_, ?_, w3, ?_, ?_⟩
  · rw [hJ b (by omega), hS 3 (by omega) (by omega)]; exact f1
  · rw [hJ b (by omega), hS 4 (by omega) (by omega)]; exact f2
  · rw [hJ b (by omega), f3]
    unfold setF setF setF setF setF setF setF
    rw [hS (16 + 25 * 0 + 2) (by omega) (by omega), hS (16 + 25 * 1 + 2) (by omega) (by omega), hS (16 + 25 * 2 + 2) (by omega) (by omega), hS (16 + 25 * 3 + 2) (by omega) (by omega), hS (16 + 25 * 4 + 2) (by omega) (by omega), hS (16 + 25 * 5 + 2) (by omega) (by omega)]
  · rw [hJ b (by omega), hS 0 (by omega) (by omega)]; exact f4
  · rw [hJ b (by omega), hS 1 (by omega) (by omega)]; exact f5
  · rw [hJ b (by omega), hS 2 (by omega) (by omega)]; exact f6
  · rw [hJ b (by omega), hS 9 (by omega) (by omega)]; exact f7
  · obtain ⟨a1, a2, a3, a4, a5⟩ := hN j hj
    have ho : ∀ i, i < 6 → onS S' i = onS S i := fun i hi => by unfold onS vN; rw [hS (16 + 25 * i) (by omega) (by omega)]
    unfold relN
    rw [hJ (b + 2 + 3 * j) (by omega), hJ (b + 3 + 3 * j) (by omega), hJ (b + 4 + 3 * j) (by omega), hS (16 + 25 * j) (by omega) (by omega), hS (16 + 25 * j + 1) (by omega) (by omega), hS (16 + 25 * j + 3) (by omega) (by omega)]
    refine ⟨a1, a2, ?_, a4, fun i hi => ?_⟩
    · rw [a3]
      unfold wayF wayS
      rw [v3, wayL_congr hI.on ho (j + 1) j hj]
    · have hc2 : cntS S j ≤ 21 := (hI.2.2.2.1 j hj).2.2.2
      have hc3 : cntS S' j = cntS S j := by
        show (S' (16 + 25 * j + 3)).toNatClampNeg = (S (16 + 25 * j + 3)).toNatClampNeg
        rw [hS (16 + 25 * j + 3) (by omega) (by omega)]
      rw [hS (16 + 25 * j + 4 + i) (by omega) (by omega)]
      exact a5 i (by omega)
  · by_cases e : k = k0
    · rw [e]; exact hL0
    · have r := hL k hk
      unfold relL
      rw [hJ (b + 21 + k) (by omega), hst k, hdu k, hS (166 + 13 * k) (by omega) (by omega), hS (166 + 13 * k + 1) (by omega) (by omega), hS (166 + 13 * k + 2) (by omega) (by omega), hS (166 + 13 * k + 3) (by omega) (by omega), hS (166 + 13 * k + 5) (by omega) (by omega), hS (166 + 13 * k + 6) (by omega) (by omega), hS (166 + 13 * k + 7) (by omega) (by omega), hS (166 + 13 * k + 8) (by omega) (by omega), hS (166 + 13 * k + 9) (by omega) (by omega), hS (166 + 13 * k + 10) (by omega) (by omega)]
      exact r
  · unfold relS
    rw [hJ (b + 37) (by omega), hJ (b + 38) (by omega), hS 10 (by omega) (by omega), v10]
    have h10 := hI.2.2.1.2
    exact ⟨hV.1, fun i hi => (hV.2 i hi).trans (hS (11 + i) (by omega) (by omega)).symm⟩
  · rw [hJ (b + 39) (by omega)]; exact w1
  · rw [hJ (b + 40) (by omega)]; exact w2
  · intro k
    rw [v4, hst k]
    exact w4 k
  · refine w5.imp fun {a c} q => ?_
    unfold earlS
    rw [hdu a, hdu c, hdo a, hdo c]
    exact q
