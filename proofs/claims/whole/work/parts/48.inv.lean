/-! the row's fixed invariant under small changes -/
theorem InvB.bitL {S : Nat → Int32} {k c : Nat} {y : Int32} (h : InvB S) (hc : c = 3 ∨ c = 5) (hy : bit01 y) : InvB (upd S (166 + 13 * k + c) y) := by
  obtain ⟨a1, a2, a3, a4, a5, a6, a7, a8⟩ := h
  have lo : ∀ i, i < 166 → upd S (166 + 13 * k + c) y i = S i := fun i hi => upd_n (by omega)
  unfold CLampRanksLaw_law_r1443_3e4940.InvB vN
  rw [lo 3 (by omega), lo 4 (by omega), lo 10 (by omega), lo 0 (by omega), lo 1 (by omega), lo 2 (by omega), lo 16 (by omega)]
  refine ⟨a1, a2, a3, fun j hj => ?_, ⟨a5.1, fun j h1 h2 => ?_⟩, fun k' hk' => ?_, fun i hi => ?_, a8⟩
  · rw [lo (16 + 25 * j + 1) (by omega), lo (16 + 25 * j + 2) (by omega), lo (16 + 25 * j + 3) (by omega)]; exact a4 j hj
  · rw [lo (16 + 25 * j) (by omega)]; exact a5.2 j h1 h2
  · obtain ⟨b1, b2, b3, b4, b5, b6⟩ := a6 k' hk'
    rcases hc with rfl | rfl
    · rw [upd_n (show 166 + 13 * k' ≠ 166 + 13 * k + 3 by omega), upd_n (show 166 + 13 * k' + 1 ≠ 166 + 13 * k + 3 by omega), upd_n (show 166 + 13 * k' + 2 ≠ 166 + 13 * k + 3 by omega), upd_n (show 166 + 13 * k' + 4 ≠ 166 + 13 * k + 3 by omega), upd_n (show 166 + 13 * k' + 5 ≠ 166 + 13 * k + 3 by omega)]
      refine ⟨b1, b2, b3, ?_, b5, b6⟩
      by_cases e : k' = k
      · rw [e, upd_s]; exact hy
      · rw [upd_n (by omega)]; exact b4
    · rw [upd_n (show 166 + 13 * k' ≠ 166 + 13 * k + 5 by omega), upd_n (show 166 + 13 * k' + 1 ≠ 166 + 13 * k + 5 by omega), upd_n (show 166 + 13 * k' + 2 ≠ 166 + 13 * k + 5 by omega), upd_n (show 166 + 13 * k' + 3 ≠ 166 + 13 * k + 5 by omega), upd_n (show 166 + 13 * k' + 4 ≠ 166 + 13 * k + 5 by omega)]
      refine ⟨b1, b2, b3, b4, b5, ?_⟩
      by_cases e : k' = k
      · rw [e, upd_s]; exact hy
      · rw [upd_n (by omega)]; exact b6
  · have h4 : i < 4 := Nat.lt_of_lt_of_le hi a3.2
    rw [lo (11 + i) (by omega)]; exact a7 i hi
