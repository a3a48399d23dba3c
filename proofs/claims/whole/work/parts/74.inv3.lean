/-! what always holds of the row: a line is done, ticks pass, a node, a line more -/
theorem done1_lo {S : Nat → Int32} {k i : Nat} (h1 : i < 166) (h2 : i ≠ 10) (h3 : i ≠ 15) : done1 S k i = S i := by
  unfold done1
  rw [upd_n h3, upd_n (by omega), upd_n (by omega), upd_n (by omega), upd_n h2]
theorem done1_hi {S : Nat → Int32} {k i c : Nat} (hc : c < 13) (h : i ≠ k ∨ (c ≠ 4 ∧ c ≠ 11 ∧ c ≠ 12)) : done1 S k (166 + 13 * i + c) = S (166 + 13 * i + c) := by
  unfold done1
  rw [upd_n (by omega), upd_n (by omega), upd_n (by omega), upd_n (by omega), upd_n (by omega)]
theorem IV.done1 {B : Nat} {S : Nat → Int32} (h : IV B S) (h10 : 1 ≤ vN S 10) (hL : ¬ S 2 = 0) (hB : B < 1000000) : IV (B + 1) (CLampRanksLaw_law_r1443_3e4940.done1 S (vN S (11 + (vN S 10 - 1)))) := by
  have hdi := done_inv (k := vN S (11 + (vN S 10 - 1))) h.1 h10
  obtain ⟨hI, hT, x1, x2, x3, x4, ⟨x6, x7, x8, x9⟩, x10⟩ := h
  have hkl := (hI.2.2.2.2.2.2.1 (vN S 10 - 1) (by omega)).2
  have hkd := fun i (hi : i < vN S 10 - 1) => x4.2 i (vN S 10 - 1) hi (by omega)
  have hks := x4.1 (vN S 10 - 1) (by omega)
  have h4 := hI.2.1.2
  have h10l := hI.2.2.1
  have hr := hI.2.2.2.2.2.2.2
  generalize vN S (11 + (vN S 10 - 1)) = k at hdi hkl hkd hks ⊢
  have v4 : vN (CLampRanksLaw_law_r1443_3e4940.done1 S k) 4 = vN S 4 := by unfold vN; rw [done1_lo (by omega) (by omega) (by omega)]
  have e10 : CLampRanksLaw_law_r1443_3e4940.done1 S k 10 = nI (vN S 10 - 1) := by
    unfold CLampRanksLaw_law_r1443_3e4940.done1
    rw [upd_n (by omega), upd_n (by omega), upd_n (by omega), upd_n (by omega), upd_s]
    have : S 10 - 1 = nI (vN S 10) - 1 := by rw [← h10l.1]
    rw [this]
    exact pk_sub (b := 1) (by omega)
  have v10 : vN (CLampRanksLaw_law_r1443_3e4940.done1 S k) 10 = vN S 10 - 1 := by
    show (CLampRanksLaw_law_r1443_3e4940.done1 S k 10).toNatClampNeg = _
    rw [e10, cl_nI (by omega)]
  have vs : ∀ i, i < vN S 10 → vN (CLampRanksLaw_law_r1443_3e4940.done1 S k) (11 + i) = vN S (11 + i) := fun i hi => by
    show (CLampRanksLaw_law_r1443_3e4940.done1 S k (11 + i)).toNatClampNeg = (S (11 + i)).toNatClampNeg
    rw [done1_lo (by omega) (by omega) (by omega)]
  have e15 : CLampRanksLaw_law_r1443_3e4940.done1 S k 15 = S 15 + 1 := by
    unfold CLampRanksLaw_law_r1443_3e4940.done1
    rw [upd_s]
  have t15 : (S 15 + 1).toInt = (S 15).toInt + 1 := ti_add (y := 1) (by show _ ≤ _ + 1; omega) (by show _ + 1 < _; omega)
  have ek : CLampRanksLaw_law_r1443_3e4940.done1 S k (166 + 13 * k + 4) = 2 ∧ CLampRanksLaw_law_r1443_3e4940.done1 S k (166 + 13 * k + 11) = S 0 + S 2 ∧ CLampRanksLaw_law_r1443_3e4940.done1 S k (166 + 13 * k + 12) = S 15 := by
    unfold CLampRanksLaw_law_r1443_3e4940.done1
    refine ⟨?_, ?_, ?_⟩
    · rw [upd_n (by omega), upd_n (by omega), upd_n (by omega), upd_s]
    · rw [upd_n (by omega), upd_n (by omega), upd_s]
    · rw [upd_n (by omega), upd_s]
  have ts : (S 0 + S 2).toInt = (S 0).toInt + (S 2).toInt := ti_add (by omega) (by omega)
  refine ⟨hdi, hT.to hI (done1_lo (by omega) (by omega) (by omega)) (done1_lo (by omega) (by omega) (by omega)) (fun j hj => ⟨done1_lo (by omega) (by omega) (by omega), done1_lo (by omega) (by omega) (by omega)⟩) (fun j i hj hi21 => done1_lo (by omega) (by omega) (by omega)) (fun i _ => done1_hi (c := 0) (by omega) (by omega)),
    fun i h1 h2 => ?_, fun i h1 h2 => ?_, ?_, ⟨fun i hi => ?_, fun i j hij hj => ?_⟩, ⟨?_, ?_, ?_, ?_⟩, fun i hi3 => ?_⟩
  · rw [v4] at h1
    have : i ≠ k := by omega
    rw [done1_hi (by omega) (Or.inl this), done1_hi (by omega) (Or.inl this), done1_hi (by omega) (Or.inl this), done1_hi (by omega) (Or.inl this)]
    exact x1 i h1 h2
  · rw [done1_lo (i := 0) (by omega) (by omega) (by omega), e15]
    by_cases e : i = k
    · subst e
      rw [ek.2.1, ek.2.2]
      simp only [ti_lt, ti_eq, ts, t15, show (0 : Int32).toInt = 0 from rfl] at hL ⊢
      omega
    · rw [done1_hi (by omega) (Or.inl e)] at h2
      rw [done1_hi (by omega) (Or.inl e), done1_hi (by omega) (Or.inl e)]
      have := x2 i h1 h2
      refine ⟨this.1, this.2.1, ?_⟩
      have := this.2.2
      rw [ti_lt] at this ⊢
      omega
  · rw [e15, t15]; omega
  · rw [v10] at hi
    rw [vs i (by omega), done1_hi (by omega) (Or.inl (hkd i hi))]
    exact x4.1 i (by omega)
  · rw [v10] at hj
    rw [vs i (by omega), vs j (by omega)]
    exact x4.2 i j hij (by omega)
  · rw [v4, done1_lo (by omega) (by omega) (by omega), x6]
    exact (sumF_congr _ (fun i _ => done1_hi (c := 6) (by omega) (by omega))).symm
  · rw [v4, done1_lo (by omega) (by omega) (by omega), x7]
    exact (sumF_congr _ (fun i _ => done1_hi (c := 7) (by omega) (by omega))).symm
  · rw [v4, done1_lo (by omega) (by omega) (by omega), x8]
    exact (sumF_congr _ (fun i _ => by rw [done1_hi (c := 2) (by omega) (by omega), done1_hi (c := 8) (by omega) (by omega)])).symm
  · rw [v4, done1_lo (by omega) (by omega) (by omega), x9]
    exact (sumF_congr _ (fun i _ => by rw [done1_hi (c := 2) (by omega) (by omega), done1_hi (c := 8) (by omega) (by omega)])).symm
  · have : CLampRanksLaw_law_r1443_3e4940.done1 S k i = S i := by
      unfold CLampRanksLaw_law_r1443_3e4940.done1
      rw [upd_n (by omega), upd_n (by omega), upd_n (by omega), upd_n (by omega), upd_n (by omega)]
    rw [this]; exact x10 i hi3
/-- states are freed, the time and what came may change -/
theorem IV.opn {B : Nat} {S S' : Nat → Int32} (h : IV B S) (ht : 0 ≤ (S' 0).toInt ∧ (S' 0).toInt ≤ 50000) (e : ∀ i, i < 166 → i ≠ 0 → i ≠ 9 → S' i = S i) (el : ∀ k, k < 16 → ∀ c, c < 13 → c ≠ 4 → S' (166 + 13 * k + c) = S (166 + 13 * k + c)) (ez : ∀ k, 374 ≤ k → S' k = S k)
    (es : ∀ k, k < 16 → S' (166 + 13 * k + 4) = S (166 + 13 * k + 4) ∨ (S (166 + 13 * k + 4) = 2 ∧ S' (166 + 13 * k + 4) = 0)) (ed : ∀ k, k < 16 → S' (166 + 13 * k + 4) = 2 → S' 0 < S (166 + 13 * k + 11)) : IV B S' := by
  obtain ⟨hI, hT, x1, x2, x3, x4, ⟨x6, x7, x8, x9⟩, x10⟩ := h
  have h4 := hI.2.1.2
  have h10 := hI.2.2.1.2
  have l0 : ∀ k, k < 16 → S' (166 + 13 * k) = S (166 + 13 * k) := fun k hk => el k hk 0 (by omega) (by omega)
  have v4 : vN S' 4 = vN S 4 := by unfold vN; rw [e 4 (by omega) (by omega) (by omega)]
  have v10 : vN S' 10 = vN S 10 := by unfold vN; rw [e 10 (by omega) (by omega) (by omega)]
  have vs : ∀ i, i < 4 → vN S' (11 + i) = vN S (11 + i) := fun i hi => by unfold vN; rw [e (11 + i) (by omega) (by omega) (by omega)]
  refine ⟨hI.to (e 3 (by omega) (by omega) (by omega)) (e 4 (by omega) (by omega) (by omega)) (fun i h1 h2 => e i (by omega) (by omega) (by omega)) (fun j hj => ⟨e _ (by omega) (by omega) (by omega), ?_, ?_, e _ (by omega) (by omega) (by omega)⟩) (fun k hk => ⟨l0 k hk, el k hk 1 (by omega) (by omega), ?_, ?_, ?_, ?_⟩) ⟨ht, ?_⟩,
    hT.to hI (e 3 (by omega) (by omega) (by omega)) (e 4 (by omega) (by omega) (by omega)) (fun j hj => ⟨e _ (by omega) (by omega) (by omega), e _ (by omega) (by omega) (by omega)⟩) (fun j i hj hi => e _ (by omega) (by omega) (by omega)) l0,
    fun k h1 h2 => ?_, fun k h1 h2 => ?_, ?_, ⟨fun i hi => ?_, fun i j hij hj => ?_⟩, ⟨?_, ?_, ?_, ?_⟩, fun i hi => (ez i hi).trans (x10 i hi)⟩
  · rw [e _ (by omega) (by omega) (by omega)]; exact (hI.2.2.2.1 j hj).1
  · rw [e _ (by omega) (by omega) (by omega)]; exact (hI.2.2.2.1 j hj).2.1
  · rw [el k hk 2 (by omega) (by omega)]; exact (hI.2.2.2.2.2.1 k hk).2.2.1
  · rw [el k hk 3 (by omega) (by omega)]; exact (hI.2.2.2.2.2.1 k hk).2.2.2.1
  · rcases es k hk with z | z
    · rw [z]; exact (hI.2.2.2.2.2.1 k hk).2.2.2.2.1
    · exact Or.inl z.2
  · rw [el k hk 5 (by omega) (by omega)]; exact (hI.2.2.2.2.2.1 k hk).2.2.2.2.2
  · rw [e 1 (by omega) (by omega) (by omega), e 2 (by omega) (by omega) (by omega)]
    exact hI.2.2.2.2.2.2.2.2
  · rw [v4] at h1
    have y := x1 k h1 h2
    rw [el k h2 6 (by omega) (by omega), el k h2 7 (by omega) (by omega), el k h2 8 (by omega) (by omega)]
    refine ⟨?_, y.2⟩
    rcases es k h2 with z | z
    · rw [z]; exact y.1
    · exact z.2
  · have hs : S (166 + 13 * k + 4) = 2 := by
      rcases es k h1 with z | z
      · rw [← z]; exact h2
      · exact z.1
    have := x2 k h1 hs
    rw [el k h1 11 (by omega) (by omega), el k h1 12 (by omega) (by omega), e 15 (by omega) (by omega) (by omega)]
    exact ⟨ed k h1 h2, this.2⟩
  · rw [e 15 (by omega) (by omega) (by omega)]; exact x3
  · rw [v10] at hi
    have := (hI.2.2.2.2.2.2.1 i hi).2
    have y := x4.1 i hi
    rw [vs i (by omega)]
    rcases es (vN S (11 + i)) (by omega) with z | z
    · rw [z]; exact y
    · rw [z.1] at y; exact absurd y (by decide)
  · rw [v10] at hj
    rw [vs i (by omega), vs j (by omega)]
    exact x4.2 i j hij hj
  · rw [v4, e 5 (by omega) (by omega) (by omega), x6]
    exact (sumF_congr _ (fun i hi => el i (by omega) 6 (by omega) (by omega))).symm
  · rw [v4, e 6 (by omega) (by omega) (by omega), x7]
    exact (sumF_congr _ (fun i hi => el i (by omega) 7 (by omega) (by omega))).symm
  · rw [v4, e 7 (by omega) (by omega) (by omega), x8]
    exact (sumF_congr _ (fun i hi => by rw [el i (by omega) 2 (by omega) (by omega), el i (by omega) 8 (by omega) (by omega)])).symm
  · rw [v4, e 8 (by omega) (by omega) (by omega), x9]
    exact (sumF_congr _ (fun i hi => by rw [el i (by omega) 2 (by omega) (by omega), el i (by omega) 8 (by omega) (by omega)])).symm
theorem IV.ticks {B t : Nat} {S : Nat → Int32} (h : IV B S) (h1 : 1 ≤ t) (h2 : t ≤ 99) (h3 : ¬ 50000 < (S 0).toInt + t) : IV B (goTicksS S t) := by
  have hI := h.1
  have h4 := hI.2.1.2
  have h0 := hI.t0
  rw [← (tick_ack hI h1 h2).1]
  have ts : (S 0 + nI t).toInt = (S 0).toInt + t := by
    have := ti_nI (n := t) (by omega)
    rw [ti_add (by omega) (by omega), this]
  have v4 : vN (upd S 0 (S 0 + nI t)) 4 = vN S 4 := by
    show (upd S 0 (S 0 + nI t) 4).toNatClampNeg = _
    rw [upd_n (by omega)]
  have key : ∀ p, p ≠ 9 → (∀ i, p ≠ 166 + 13 * i + 4) → ackB (upd S 0 (S 0 + nI t)) p = upd S 0 (S 0 + nI t) p := fun p h1 h2 => by
    unfold ackB
    rw [upd_n h1, ackL_n _ (fun i _ => h2 i)]
  have st : ∀ k, ackB (upd S 0 (S 0 + nI t)) (166 + 13 * k + 4) = if k < vN S 4 ∧ dueS (upd S 0 (S 0 + nI t)) k = true then 0 else S (166 + 13 * k + 4) := fun k => by
    unfold ackB
    rw [upd_n (by omega), v4, ackL_at, upd_n (show 166 + 13 * k + 4 ≠ 0 by omega)]
  have e0 : ackB (upd S 0 (S 0 + nI t)) 0 = S 0 + nI t := by rw [key 0 (by omega) (by omega), upd_s]
  have du : ∀ k, dueS (upd S 0 (S 0 + nI t)) k = (S (166 + 13 * k + 4) == 2 && decide (S (166 + 13 * k + 11) ≤ S 0 + nI t)) := fun k => by
    unfold dueS
    rw [upd_s, upd_n (show 166 + 13 * k + 4 ≠ 0 by omega), upd_n (show 166 + 13 * k + 11 ≠ 0 by omega)]
  refine h.opn ?_ (fun i h1 h2 h3 => by rw [key i h3 (fun k => by omega), upd_n h2]) (fun k hk c hc h4 => by rw [key _ (by omega) (fun i => by omega), upd_n (by omega)]) (fun k hk => ?_) (fun k hk => ?_) (fun k hk hs => ?_)
  · rw [e0, ts]; omega
  · unfold ackB
    rw [upd_n (by omega), v4, ackL_n _ (fun i hi => by omega), upd_n (by omega)]
  · rw [st k]
    by_cases q : k < vN S 4 ∧ dueS (upd S 0 (S 0 + nI t)) k = true
    · rw [if_pos q]
      have := q.2
      rw [du k, Bool.and_eq_true] at this
      exact Or.inr ⟨beq_iff_eq.mp this.1, rfl⟩
    · rw [if_neg q]; exact Or.inl rfl
  · rw [st k] at hs
    rw [e0]
    by_cases q : k < vN S 4 ∧ dueS (upd S 0 (S 0 + nI t)) k = true
    · rw [if_pos q] at hs; exact absurd hs (by decide)
    · rw [if_neg q] at hs
      have hk4 : k < vN S 4 := by
        rcases Nat.lt_or_ge k (vN S 4) with z | z
        · exact z
        · have := (h.2.2.1 k z hk).1
          rw [this] at hs; exact absurd hs (by decide)
      refine Int32.not_le.mp (fun z => q ⟨hk4, ?_⟩)
      rw [du k, beq_t hs, decide_eq_true z]; rfl
theorem IV.done {B : Nat} {S : Nat → Int32} (h : IV B S) (h10 : 1 ≤ vN S 10) (hB : B < 1000000) : IV (B + 1) (goDoneS S) := by
  have hI := h.1
  by_cases e2 : S 2 = 0
  · have hkl := (hI.2.2.2.2.2.2.1 (vN S 10 - 1) (by omega)).2
    have h4 := hI.2.1.2
    -- with a delay of 1 first, then freed
    have h1 : IV B (upd S 2 1) := h.late (by decide)
    have hd := h1.done1 (by show 1 ≤ (upd S 2 1 10).toNatClampNeg; rw [upd_n (by omega)]; exact h10) (by rw [upd_s]; decide) hB
    have ek : vN (upd S 2 1) (11 + (vN (upd S 2 1) 10 - 1)) = vN S (11 + (vN S 10 - 1)) := by
      have e10 : vN (upd S 2 1) 10 = vN S 10 := by unfold vN; rw [upd_n (by omega)]
      rw [e10]
      unfold vN
      rw [upd_n (by omega)]
    rw [ek] at hd
    have hl := hd.late (a := 0) (by decide)
    unfold goDoneS
    generalize vN S (11 + (vN S 10 - 1)) = k at hkl hd hl ⊢
    show IV (B + 1) (if S 2 = 0 then upd (upd (CLampRanksLaw_law_r1443_3e4940.done1 S k) (166 + 13 * k + 4) 0) 9 (S 9 + 1) else CLampRanksLaw_law_r1443_3e4940.done1 S k)
    rw [if_pos e2]
    have hk16 : k < 16 := by omega
    have same : ∀ p, p ≠ 166 + 13 * k + 11 → upd (CLampRanksLaw_law_r1443_3e4940.done1 (upd S 2 1) k) 2 0 p = CLampRanksLaw_law_r1443_3e4940.done1 S k p := fun p hp => by
      by_cases z : p = 2
      · rw [z, upd_s, done1_lo (by omega) (by omega) (by omega), e2]
      · rw [upd_n z]
        unfold CLampRanksLaw_law_r1443_3e4940.done1
        rw [upd_n (show (15 : Nat) ≠ 2 by omega), upd_n (show (10 : Nat) ≠ 2 by omega)]
        by_cases z1 : p = 15
        · rw [z1, upd_s, upd_s]
        · rw [upd_n z1, upd_n z1]
          by_cases z2 : p = 166 + 13 * k + 12
          · rw [z2, upd_s, upd_s]
          · rw [upd_n z2, upd_n z2, upd_n hp, upd_n hp]
            by_cases z3 : p = 166 + 13 * k + 4
            · rw [z3, upd_s, upd_s]
            · rw [upd_n z3, upd_n z3]
              by_cases z4 : p = 10
              · rw [z4, upd_s, upd_s]
              · rw [upd_n z4, upd_n z4, upd_n z]
    have h11 : upd (CLampRanksLaw_law_r1443_3e4940.done1 (upd S 2 1) k) 2 0 (166 + 13 * k + 11) = S 0 + 1 := by
      rw [upd_n (by omega)]
      unfold CLampRanksLaw_law_r1443_3e4940.done1
      rw [upd_n (by omega), upd_n (by omega), upd_s, upd_n (by omega), upd_s]
    -- the same row but for the time when the acknowledge comes, which is not looked at
    obtain ⟨hI2, hT2, y1, y2, y3, y4, ⟨y6, y7, y8, y9⟩, y10⟩ := hl
    have sameV : ∀ p, p < 166 → vN (upd (CLampRanksLaw_law_r1443_3e4940.done1 (upd S 2 1) k) 2 0) p = vN (CLampRanksLaw_law_r1443_3e4940.done1 S k) p := fun p hp => by unfold vN; rw [same p (by omega)]
    have hD : IV (B + 1) (upd (upd (CLampRanksLaw_law_r1443_3e4940.done1 (upd S 2 1) k) 2 0) (166 + 13 * k + 4) 0) := by
      refine IV.opn ⟨hI2, hT2, y1, y2, y3, y4, ⟨y6, y7, y8, y9⟩, y10⟩ ?_ (fun i h1 h2 h3 => upd_n (by omega)) (fun i hi c hc h4 => upd_n (by omega)) (fun i hi => upd_n (by omega)) (fun i hi => ?_) (fun i hi hs => ?_)
      · rw [upd_n (by omega), same 0 (by omega), done1_lo (by omega) (by omega) (by omega)]; exact hI.t0
      · by_cases z : i = k
        · subst z
          refine Or.inr ⟨?_, upd_s⟩
          rw [same _ (by omega)]
          unfold CLampRanksLaw_law_r1443_3e4940.done1
          rw [upd_n (by omega), upd_n (by omega), upd_n (by omega), upd_s]
        · exact Or.inl (upd_n (by omega))
      · by_cases z : i = k
        · subst z
          rw [upd_s] at hs; exact absurd hs (by decide)
        · rw [upd_n (by omega)] at hs
          rw [upd_n (by omega)]
          exact (y2 i hi hs).1
    obtain ⟨hI3, hT3, z1, z2, z3, z4, ⟨z6, z7, z8, z9⟩, z10⟩ := hD
    have fin : ∀ p, p ≠ 9 → p ≠ 166 + 13 * k + 11 → upd (upd (CLampRanksLaw_law_r1443_3e4940.done1 S k) (166 + 13 * k + 4) 0) 9 (S 9 + 1) p = upd (upd (CLampRanksLaw_law_r1443_3e4940.done1 (upd S 2 1) k) 2 0) (166 + 13 * k + 4) 0 p := fun p h1 h2 => by
      rw [upd_n h1]
      by_cases z : p = 166 + 13 * k + 4
      · rw [z, upd_s, upd_s]
      · rw [upd_n z, upd_n z, same p h2]
    have st0 : upd (upd (CLampRanksLaw_law_r1443_3e4940.done1 S k) (166 + 13 * k + 4) 0) 9 (S 9 + 1) (166 + 13 * k + 4) = 0 := by rw [upd_n (by omega), upd_s]
    have n4 : vN (upd (upd (CLampRanksLaw_law_r1443_3e4940.done1 S k) (166 + 13 * k + 4) 0) 9 (S 9 + 1)) 4 = vN (upd (upd (CLampRanksLaw_law_r1443_3e4940.done1 (upd S 2 1) k) 2 0) (166 + 13 * k + 4) 0) 4 := by
      unfold vN
      rw [fin 4 (by omega) (by omega)]
    have n10 : vN (upd (upd (CLampRanksLaw_law_r1443_3e4940.done1 S k) (166 + 13 * k + 4) 0) 9 (S 9 + 1)) 10 = vN (upd (upd (CLampRanksLaw_law_r1443_3e4940.done1 (upd S 2 1) k) 2 0) (166 + 13 * k + 4) 0) 10 := by
      unfold vN
      rw [fin 10 (by omega) (by omega)]
    have h103 := hI3.2.2.1.2
    have h43 := hI3.2.1.2
    have nv : ∀ i, i < vN (upd (upd (CLampRanksLaw_law_r1443_3e4940.done1 (upd S 2 1) k) 2 0) (166 + 13 * k + 4) 0) 10 → vN (upd (upd (CLampRanksLaw_law_r1443_3e4940.done1 S k) (166 + 13 * k + 4) 0) 9 (S 9 + 1)) (11 + i) = vN (upd (upd (CLampRanksLaw_law_r1443_3e4940.done1 (upd S 2 1) k) 2 0) (166 + 13 * k + 4) 0) (11 + i) := fun i hi => by
      show (upd (upd (CLampRanksLaw_law_r1443_3e4940.done1 S k) (166 + 13 * k + 4) 0) 9 (S 9 + 1) (11 + i)).toNatClampNeg = (upd (upd (CLampRanksLaw_law_r1443_3e4940.done1 (upd S 2 1) k) 2 0) (166 + 13 * k + 4) 0 (11 + i)).toNatClampNeg
      rw [fin (11 + i) (by omega) (by omega)]
    refine ⟨hI3.to (fin 3 (by omega) (by omega)) (fin 4 (by omega) (by omega)) (fun i h1 h2 => fin i (by omega) (by omega)) (fun j hj => ⟨fin _ (by omega) (by omega), ?_, ?_, fin _ (by omega) (by omega)⟩) (fun i hi => ⟨fin _ (by omega) (by omega), fin _ (by omega) (by omega), ?_, ?_, ?_, ?_⟩) ?_,
      hT3.to hI3 (fin 3 (by omega) (by omega)) (fin 4 (by omega) (by omega)) (fun j hj => ⟨fin _ (by omega) (by omega), fin _ (by omega) (by omega)⟩) (fun j i hj hi => fin _ (by omega) (by omega)) (fun i hi => fin _ (by omega) (by omega)),
      fun i h1 h2 => ?_, fun i h1 h2 => ?_, ?_, ⟨fun i hi => ?_, fun i j hij hj => ?_⟩, ⟨?_, ?_, ?_, ?_⟩, fun i hi => ?_⟩
    · rw [fin _ (by omega) (by omega)]; exact (hI3.2.2.2.1 j hj).1
    · rw [fin _ (by omega) (by omega)]; exact (hI3.2.2.2.1 j hj).2.1
    · rw [fin _ (by omega) (by omega)]; exact (hI3.2.2.2.2.2.1 i hi).2.2.1
    · rw [fin _ (by omega) (by omega)]; exact (hI3.2.2.2.2.2.1 i hi).2.2.2.1
    · rw [fin _ (by omega) (by omega)]; exact (hI3.2.2.2.2.2.1 i hi).2.2.2.2.1
    · rw [fin _ (by omega) (by omega)]; exact (hI3.2.2.2.2.2.1 i hi).2.2.2.2.2
    · rw [fin 0 (by omega) (by omega), fin 1 (by omega) (by omega), fin 2 (by omega) (by omega)]
      exact hI3.2.2.2.2.2.2.2
    · rw [n4] at h1
      rw [fin _ (by omega) (by omega), fin _ (by omega) (by omega), fin _ (by omega) (by omega), fin _ (by omega) (by omega)]
      exact z1 i h1 h2
    · by_cases z : i = k
      · subst z
        rw [st0] at h2; exact absurd h2 (by decide)
      · rw [fin _ (by omega) (by omega)] at h2
        rw [fin 0 (by omega) (by omega), fin _ (by omega) (by omega), fin _ (by omega) (by omega), fin 15 (by omega) (by omega)]
        exact z2 i h1 h2
    · rw [fin 15 (by omega) (by omega)]; exact z3
    · rw [n10] at hi
      rw [nv i hi, fin _ (by omega) (by omega)]
      exact z4.1 i hi
    · rw [n10] at hj
      rw [nv i (by omega), nv j hj]
      exact z4.2 i j hij hj
    · rw [n4, fin 5 (by omega) (by omega), z6]
      exact (sumF_congr _ (fun i _ => fin _ (by omega) (by omega))).symm
    · rw [n4, fin 6 (by omega) (by omega), z7]
      exact (sumF_congr _ (fun i _ => fin _ (by omega) (by omega))).symm
    · rw [n4, fin 7 (by omega) (by omega), z8]
      exact (sumF_congr _ (fun i _ => by rw [fin (166 + 13 * i + 2) (by omega) (by omega), fin (166 + 13 * i + 8) (by omega) (by omega)])).symm
    · rw [n4, fin 8 (by omega) (by omega), z9]
      exact (sumF_congr _ (fun i _ => by rw [fin (166 + 13 * i + 2) (by omega) (by omega), fin (166 + 13 * i + 8) (by omega) (by omega)])).symm
    · rw [fin _ (by omega) (by omega)]; exact z10 i hi
  · have hd := h.done1 h10 e2 hB
    unfold goDoneS
    generalize vN S (11 + (vN S 10 - 1)) = k at hd ⊢
    show IV (B + 1) (if S 2 = 0 then upd (upd (CLampRanksLaw_law_r1443_3e4940.done1 S k) (166 + 13 * k + 4) 0) 9 (S 9 + 1) else CLampRanksLaw_law_r1443_3e4940.done1 S k)
    rw [if_neg e2]
    exact hd
