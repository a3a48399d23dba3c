/-! the start: what always holds, holds; the new board holds the reference's row -/
theorem r0_z {k : Nat} (h1 : k ≠ 16) (h2 : k ≠ 3) (h3 : k ≠ 2) : rowS0 k = 0 := by
  unfold rowS0
  rw [if_neg h1, if_neg h2, if_neg h3]
theorem r0_v : vN rowS0 3 = 1 ∧ vN rowS0 4 = 0 ∧ vN rowS0 10 = 0 := ⟨by decide +kernel, by decide +kernel, by decide +kernel⟩
theorem r0_c {j : Nat} (_ : j < 6) : cntS rowS0 j = 0 := by
  show (rowS0 (16 + 25 * j + 3)).toNatClampNeg = 0
  rw [r0_z (by omega) (by omega) (by omega)]; rfl
theorem IV.start : IV 0 rowS0 := by
  obtain ⟨v3, v4, v10⟩ := r0_v
  have z0 : ∀ k, 17 ≤ k → rowS0 k = 0 := fun k hk => r0_z (by omega) (by omega) (by omega)
  have c0 : (0 : Int32).toNatClampNeg = 0 := rfl
  refine ⟨⟨⟨by rw [v3]; rfl, by omega, by omega⟩, ⟨by rw [v4]; rfl, by omega⟩, ⟨by rw [v10]; rfl, by omega⟩, fun j hj => ?_, ⟨rfl, fun j h1 h2 => ?_⟩, fun k hk => ?_, fun i hi => ?_, ?_⟩, ⟨fun j hj => ⟨fun i hi => ?_, fun i i' h1 h2 => ?_⟩, fun k hk => ?_, fun c h1 h2 => ?_, fun j h1 h2 => r0_c h2⟩, fun k h1 h2 => ?_, fun k h1 h2 => ?_, ?_, ⟨fun i hi => ?_, fun i j hij hj => ?_⟩, ⟨?_, ?_, ?_, ?_⟩, fun k hk => z0 k (by omega)⟩
  · rw [z0 (16 + 25 * j + 1) (by omega), z0 (16 + 25 * j + 2) (by omega)]
    have e3 : rowS0 (16 + 25 * j + 3) = 0 := z0 _ (by omega)
    refine ⟨Or.inl rfl, Or.inl rfl, ?_, ?_⟩
    · unfold vN; rw [e3]; rfl
    · unfold vN; rw [e3, c0]; omega
  · have e : rowS0 (16 + 25 * j) = 0 := z0 _ (by omega)
    unfold vN
    rw [e, c0]
    exact ⟨rfl, by omega⟩
  · have e : rowS0 (166 + 13 * k) = 0 := z0 _ (by omega)
    rw [z0 (166 + 13 * k + 1) (by omega), z0 (166 + 13 * k + 2) (by omega), z0 (166 + 13 * k + 3) (by omega), z0 (166 + 13 * k + 4) (by omega), z0 (166 + 13 * k + 5) (by omega), v3]
    unfold vN
    rw [e, c0]
    exact ⟨⟨rfl, by omega⟩, ⟨by decide, by decide⟩, Or.inl rfl, Or.inl rfl, Or.inl rfl, Or.inl rfl⟩
  · rw [v10] at hi; omega
  · exact ⟨⟨by decide +kernel, by decide +kernel⟩, ⟨by decide +kernel, by decide +kernel⟩, ⟨by decide +kernel, by decide +kernel⟩⟩
  · rw [v3] at hj
    rw [r0_c (by omega)] at hi; omega
  · rw [v3] at hj
    rw [r0_c (by omega)] at h2; omega
  · rw [v4] at hk; omega
  · rw [v3] at h2; omega
  · exact ⟨z0 _ (by omega), z0 _ (by omega), z0 _ (by omega), z0 _ (by omega)⟩
  · rw [z0 _ (by omega)] at h2
    exact absurd h2 (by decide)
  · exact ⟨by decide +kernel, by decide +kernel⟩
  · rw [v10] at hi; omega
  · rw [v10] at hj; omega
  · rw [v4]; exact r0_z (by omega) (by omega) (by omega)
  · rw [v4]; exact r0_z (by omega) (by omega) (by omega)
  · rw [v4]; exact r0_z (by omega) (by omega) (by omega)
  · rw [v4]; exact r0_z (by omega) (by omega) (by omega)
theorem r0_way : ∀ j, j < 6 → wayF rowS0 j = if j = 0 then 1 else 0 := by decide +kernel
theorem r0_hid : setF (fun j => rowS0 (16 + 25 * j + 2) == 1) 6 = 0 := by decide +kernel
theorem brdI.rel {I : pw_I} {b : Nat} (h : brdI I b) : RelB I b rowS0 := by
  obtain ⟨h1, h2, h3⟩ := h
  obtain ⟨v3, v4, v10⟩ := r0_v
  have z0 : ∀ k, 17 ≤ k → rowS0 k = 0 := fun k hk => r0_z (by omega) (by omega) (by omega)
  refine ⟨⟨?_, ?_, ?_, ?_, ?_, ?_, ?_⟩, fun j hj => ⟨?_, ?_, ?_, ?_, fun i hi => ?_⟩, fun k hk => ?_, ⟨?_, fun i hi => ?_⟩, fun k hk => absurd hk (by rw [v4]; omega), [], ?_, fun i k e => ?_, List.nodup_nil, fun k => ⟨fun z => ?_, fun z => ?_⟩, List.Pairwise.nil⟩
  · rw [h1]; rfl
  · rw [h1]; rfl
  · rw [h1, r0_hid]; rfl
  · rw [h1]; rfl
  · rw [h1]; rfl
  · rw [h1]; rfl
  · rw [h1]; rfl
  · rcases Nat.eq_zero_or_pos j with e | e
    · subst e
      show I (b + 2) 1 = _
      rw [h2]; rfl
    · rw [h3 _ (by omega) (by omega) (by omega), z0 _ (by omega)]
  · rw [z0 _ (by omega)]
    rcases Nat.eq_zero_or_pos j with e | e
    · subst e
      show I (b + 2) 2 = _
      rw [h2]; rfl
    · rw [h3 _ (by omega) (by omega) (by omega)]
  · rw [r0_way j hj]
    rcases Nat.eq_zero_or_pos j with e | e
    · subst e
      show I (b + 2) 3 = _
      rw [h2]; rfl
    · rw [h3 _ (by omega) (by omega) (by omega), if_neg (by omega)]
  · rw [h3 _ (by omega) (by omega) (by omega), z0 _ (by omega)]
  · rw [r0_c hj] at hi; omega
  · unfold relL
    have e : rowS0 (166 + 13 * k) = 0 := z0 _ (by omega)
    have hz : ∀ c, I (b + 21 + k) c = 0 := fun c => h3 _ (by omega) (by omega) (by omega) c
    have hr : ∀ c, rowS0 (166 + 13 * k + c) = 0 := fun c => z0 _ (by omega)
    refine ⟨?_, ?_, ?_, ?_, ?_, ?_, ?_, ?_, ?_, ?_, ?_, ?_⟩ <;> rw [hz]
    · exact e.symm
    all_goals exact (hr _).symm
  · rw [h3 _ (by omega) (by omega) (by omega)]; rfl
  · rw [v10] at hi; omega
  · rw [h3 _ (by omega) (by omega) (by omega)]; rfl
  · simp at e
  · simp at z
  · rw [v4] at z; omega
