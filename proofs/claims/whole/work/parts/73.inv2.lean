/-! what always holds of the row: a line is taken, is done; ticks pass -/
theorem IV.take1 {B k : Nat} {S : Nat → Int32} (h : IV B S) (hk : k < vN S 4) (hs : S (166 + 13 * k + 4) = 0) (h10 : vN S 10 < 4) : IV B (goTake1 S k) := by
  obtain ⟨hI, hT, x1, x2, x3, x4, ⟨x6, x7, x8, x9⟩, x10⟩ := h
  have h4 := hI.2.1.2
  have n10 : vN S 10 < 4 := h10
  have hb := hI.2.2.2.2.2.1 k (by omega)
  obtain ⟨t1, t2, t3⟩ := take1_10 (k := k) h10
  have lo : ∀ i, i < 166 → i ≠ 7 → i ≠ 8 → i ≠ 10 → i ≠ 11 + vN S 10 → goTake1 S k i = S i := fun i a1 a2 a3 a4 a5 => take1_lo a1 a2 a3 a4 a5
  have hi : ∀ i c, c < 13 → (i ≠ k ∨ (c ≠ 3 ∧ c ≠ 4 ∧ c ≠ 8 ∧ c ≠ 9)) → goTake1 S k (166 + 13 * i + c) = S (166 + 13 * i + c) := fun i c a1 a2 => take1_hi h10 a2 a1
  have l0 : ∀ i, goTake1 S k (166 + 13 * i) = S (166 + 13 * i) := fun i => hi i 0 (by omega) (by omega)
  have v4 : vN (goTake1 S k) 4 = vN S 4 := by
    show (goTake1 S k 4).toNatClampNeg = _
    rw [lo 4 (by omega) (by omega) (by omega) (by omega) (by omega)]
  have v10 : vN (goTake1 S k) 10 = vN S 10 + 1 := by
    show (goTake1 S k 10).toNatClampNeg = _
    rw [t1, cl_nI (by omega)]
  have vs : ∀ i, i < vN S 10 → vN (goTake1 S k) (11 + i) = vN S (11 + i) := fun i hi4 => by
    show (goTake1 S k (11 + i)).toNatClampNeg = (S (11 + i)).toNatClampNeg
    rw [lo (11 + i) (by omega) (by omega) (by omega) (by omega) (by omega)]
  have vk : vN (goTake1 S k) (11 + vN S 10) = k := by
    show (goTake1 S k (11 + vN S 10)).toNatClampNeg = k
    rw [t2, cl_nI (by omega)]
  have lit : bit01 (goTake1 S k (166 + 13 * k + 3)) := by
    unfold goTake1
    split
    · rw [upd_n (by omega), upd_n (by omega), upd_s]; exact Or.inl rfl
    · rw [upd_n (by omega), upd_n (by omega), upd_n (by omega), upd_n (by omega), upd_n (by omega)]; exact hb.2.2.2.1
  have e8 : goTake1 S k (166 + 13 * k + 8) = S (166 + 13 * k + 8) + 1 := by
    unfold goTake1
    split
    · rw [upd_n (by omega), upd_n (by omega), upd_n (by omega), upd_s]
    · rw [upd_n (by omega), upd_s]
  have e2 : ∀ i, goTake1 S k (166 + 13 * i + 2) = S (166 + 13 * i + 2) := fun i => hi i 2 (by omega) (by omega)
  refine ⟨?_, hT.to hI (lo 3 (by omega) (by omega) (by omega) (by omega) (by omega)) (lo 4 (by omega) (by omega) (by omega) (by omega) (by omega)) (fun j hj => ⟨lo _ (by omega) (by omega) (by omega) (by omega) (by omega), lo _ (by omega) (by omega) (by omega) (by omega) (by omega)⟩) (fun j i hj hi21 => lo _ (by omega) (by omega) (by omega) (by omega) (by omega)) (fun i _ => l0 i),
    fun i h1 h2 => ?_, fun i h1 h2 => ?_, ?_, ⟨fun i hi4 => ?_, fun i j hij hj => ?_⟩, ⟨?_, ?_, ?_, ?_⟩, fun i hi3 => ?_⟩
  · obtain ⟨a1, a2, a3, a4, a5, a6, a7, a8⟩ := hI
    unfold CLampRanksLaw_law_r1443_3e4940.InvB
    rw [v10, t1, v4]
    unfold vN
    rw [lo 3 (by omega) (by omega) (by omega) (by omega) (by omega), lo 4 (by omega) (by omega) (by omega) (by omega) (by omega), lo 0 (by omega) (by omega) (by omega) (by omega) (by omega), lo 1 (by omega) (by omega) (by omega) (by omega) (by omega), lo 2 (by omega) (by omega) (by omega) (by omega) (by omega), lo 16 (by omega) (by omega) (by omega) (by omega) (by omega)]
    refine ⟨a1, a2, ⟨rfl, by unfold vN at n10; omega⟩, fun j hj => ?_, ⟨a5.1, fun j h1 h2 => ?_⟩, fun i hi16 => ?_, fun i hi5 => ?_, a8⟩
    · rw [lo (16 + 25 * j + 1) (by omega) (by omega) (by omega) (by omega) (by omega), lo (16 + 25 * j + 2) (by omega) (by omega) (by omega) (by omega) (by omega), lo (16 + 25 * j + 3) (by omega) (by omega) (by omega) (by omega) (by omega)]; exact a4 j hj
    · rw [lo (16 + 25 * j) (by omega) (by omega) (by omega) (by omega) (by omega)]; exact a5.2 j h1 h2
    · obtain ⟨b1, b2, b3, b4, b5, b6⟩ := a6 i hi16
      rw [l0 i, hi i 1 (by omega) (by omega), e2 i, hi i 5 (by omega) (by omega)]
      refine ⟨b1, b2, b3, ?_, ?_, b6⟩
      · by_cases e : i = k
        · rw [e]; exact lit
        · rw [hi i 3 (by omega) (Or.inl e)]; exact b4
      · by_cases e : i = k
        · rw [e, t3]; exact Or.inr (Or.inl rfl)
        · rw [hi i 4 (by omega) (Or.inl e)]; exact b5
    · by_cases e : i = vN S 10
      · subst e
        rw [t2, cl_nI (by omega)]
        exact ⟨rfl, hk⟩
      · have hlt : i < vN S 10 := by unfold vN at e ⊢; omega
        rw [lo (11 + i) (by omega) (by omega) (by omega) (by omega) (by omega)]
        exact a7 i hlt
  · rw [v4] at h1
    have : i ≠ k := by omega
    rw [hi i 4 (by omega) (Or.inl this), hi i 6 (by omega) (Or.inl this), hi i 7 (by omega) (Or.inl this), hi i 8 (by omega) (Or.inl this)]
    exact x1 i h1 h2
  · by_cases e : i = k
    · rw [e, t3] at h2; exact absurd h2 (by decide)
    · rw [hi i 4 (by omega) (Or.inl e)] at h2
      rw [lo 0 (by omega) (by omega) (by omega) (by omega) (by omega), hi i 11 (by omega) (by omega), hi i 12 (by omega) (by omega), lo 15 (by omega) (by omega) (by omega) (by omega) (by omega)]
      exact x2 i h1 h2
  · rw [lo 15 (by omega) (by omega) (by omega) (by omega) (by omega)]; exact x3
  · rw [v10] at hi4
    by_cases e : i = vN S 10
    · rw [e, vk]; exact t3
    · have hs4 := x4.1 i (by omega)
      rw [vs i (by omega)]
      by_cases e2 : vN S (11 + i) = k
      · rw [e2, hs] at hs4; exact absurd hs4 (by decide)
      · rw [hi _ 4 (by omega) (Or.inl e2)]; exact hs4
  · rw [v10] at hj
    rw [vs i (by omega)]
    by_cases e : j = vN S 10
    · rw [e, vk]
      intro z
      have hs4 := x4.1 i (by omega)
      rw [z, hs] at hs4; exact absurd hs4 (by decide)
    · rw [vs j (by omega)]
      exact x4.2 i j hij (by omega)
  · rw [v4, lo 5 (by omega) (by omega) (by omega) (by omega) (by omega), x6]
    exact (sumF_congr _ (fun i _ => hi i 6 (by omega) (by omega))).symm
  · rw [v4, lo 6 (by omega) (by omega) (by omega) (by omega) (by omega), x7]
    exact (sumF_congr _ (fun i _ => hi i 7 (by omega) (by omega))).symm
  · by_cases hK : S (166 + 13 * k + 2) = 0
    · have e7 : goTake1 S k 7 = S 7 + 1 := by
        unfold goTake1
        rw [if_pos hK, upd_s]
      rw [v4, e7, x8]
      exact (sum_inc (fun i hik => by rw [e2 i, hi i 8 (by omega) (Or.inl hik)]) hk (by rw [e2 k, if_pos hK, if_pos hK, e8])).symm
    · have e7 : goTake1 S k 7 = S 7 := by
        unfold goTake1
        rw [if_neg hK, upd_n (by omega), upd_n (by omega), upd_n (by omega), upd_n (by omega), upd_n (by omega)]
      rw [v4, e7, x8]
      refine (sumF_congr _ (fun i _ => ?_)).symm
      rw [e2 i]
      by_cases e : i = k
      · rw [e, if_neg hK, if_neg hK]
      · rw [hi i 8 (by omega) (Or.inl e)]
  · by_cases hK : S (166 + 13 * k + 2) = 0
    · have e7 : goTake1 S k 8 = S 8 := by
        unfold goTake1
        rw [if_pos hK, upd_n (by omega), upd_n (by omega), upd_n (by omega), upd_n (by omega), upd_n (by omega), upd_n (by omega), upd_n (by omega)]
      rw [v4, e7, x9]
      refine (sumF_congr _ (fun i _ => ?_)).symm
      rw [e2 i]
      by_cases e : i = k
      · rw [e, if_neg (by rw [hK]; decide), if_neg (by rw [hK]; decide)]
      · rw [hi i 8 (by omega) (Or.inl e)]
    · have hK1 := hb.2.2.1.resolve_left hK
      have e7 : goTake1 S k 8 = S 8 + 1 := by
        unfold goTake1
        rw [if_neg hK, upd_s]
      rw [v4, e7, x9]
      exact (sum_inc (fun i hik => by rw [e2 i, hi i 8 (by omega) (Or.inl hik)]) hk (by rw [e2 k, if_pos hK1, if_pos hK1, e8])).symm
  · have : goTake1 S k i = S i := by
      unfold goTake1
      split
      · rw [upd_n (by omega), upd_n (by omega), upd_n (by omega), upd_n (by omega), upd_n (by omega), upd_n (by omega), upd_n (by omega)]
      · rw [upd_n (by omega), upd_n (by omega), upd_n (by omega), upd_n (by omega), upd_n (by omega)]
    rw [this]; exact x10 i hi3
theorem next_ready {S : Nat → Int32} {k : Nat} (e : nextS S = some k) : readyS S k = true := pickS_ready _ _ _ (fun d hd => by cases hd) e
theorem IV.ok {B : Nat} {S : Nat → Int32} (h : IV B S) : StOK S := by
  have hO := ord_ok h.1 h.2.1
  refine ⟨h.1, h.2.1, hO, fun k e h10 => ?_, ⟨h.2.2.2.2.2.1.1, fun k hk hs => ?_⟩, walk_ok h.1 h.2.1⟩
  · have hk := nextS_lt hO e
    have ht := h.take1 hk (ready_iff.mp (next_ready e)).2.1 h10
    have v4 : vN (goTake1 S k) 4 = vN S 4 := by
      show (goTake1 S k 4).toNatClampNeg = _
      rw [take1_lo (by omega) (by omega) (by omega) (by omega) (by omega)]
    exact ⟨ht.1, (turn_line ht.1 ht.2.1 (by omega)).1⟩
  · have := h.2.2.2.1 k hk hs
    exact ⟨this.1, this.2.2⟩
theorem IV.take {B k : Nat} {S : Nat → Int32} (h : IV B S) (e : nextS S = some k) (h10 : vN S 10 < 4) : IV B (goTakeS S k) := by
  have hO := ord_ok h.1 h.2.1
  have hk := nextS_lt hO e
  have ht := h.take1 hk (ready_iff.mp (next_ready e)).2.1 h10
  have v4 : vN (goTake1 S k) 4 = vN S 4 := by
    show (goTake1 S k 4).toNatClampNeg = _
    rw [take1_lo (by omega) (by omega) (by omega) (by omega) (by omega)]
  obtain ⟨-, g2, g3⟩ := turn_line ht.1 ht.2.1 (k := k) (by omega)
  exact ht.agr g3 g2
theorem IV.pass {B : Nat} {S : Nat → Int32} (h : IV B S) : IV B (passS S) := by
  unfold passS
  cases e : nextS S with
  | none => exact h
  | some k =>
    have hk := nextS_lt (ord_ok h.1 h.2.1) e
    have h4 := h.1.2.1.2
    have h2 := h.bit (k := k) (c := 3) (a := 0) (Or.inl rfl) (by omega) (Or.inl rfl)
    have v4 : vN (upd S (166 + 13 * k + 3) 0) 4 = vN S 4 := by unfold vN; rw [upd_n (by omega)]
    obtain ⟨-, g2, g3⟩ := turn_line h2.1 h2.2.1 (k := k) (by omega)
    exact h2.agr g3 g2
theorem IV.passN {B : Nat} {S : Nat → Int32} (h : IV B S) : ∀ t, IV B (passN S t)
  | 0 => h
  | t + 1 => (IV.passN h t).pass
theorem IV.passOK {B : Nat} {S : Nat → Int32} (h : IV B S) (t : Nat) : PassOK (CLampRanksLaw_law_r1443_3e4940.passN S t) ∧ WalkOK (CLampRanksLaw_law_r1443_3e4940.passN S t) := by
  have ht := h.passN t
  generalize CLampRanksLaw_law_r1443_3e4940.passN S t = S at ht
  have hO := ord_ok ht.1 ht.2.1
  have h4 := ht.1.2.1.2
  refine ⟨⟨ht.1, ht.2.1, hO, fun k e => ?_⟩, walk_ok ht.1 ht.2.1⟩
  have hk := nextS_lt hO e
  have h2 := ht.bit (k := k) (c := 3) (a := 0) (Or.inl rfl) (by omega) (Or.inl rfl)
  have v4 : vN (upd S (166 + 13 * k + 3) 0) 4 = vN S 4 := by unfold vN; rw [upd_n (by omega)]
  exact ⟨h2.1, (turn_line h2.1 h2.2.1 (k := k) (by omega)).1⟩
/-- how many of the first n -/
def cntP (p : Nat → Bool) : Nat → Nat
  | 0 => 0
  | n + 1 => cntP p n + if p n = true then 1 else 0
theorem cntP_le {p : Nat → Bool} : ∀ n, cntP p n ≤ n
  | 0 => Nat.le_refl 0
  | n + 1 => by
    have := cntP_le (p := p) n
    unfold cntP
    split <;> omega
theorem cntP_mono {p q : Nat → Bool} (h : ∀ i, q i = true → p i = true) : ∀ n, cntP q n ≤ cntP p n
  | 0 => Nat.le_refl 0
  | n + 1 => by
    have ih := cntP_mono h n
    unfold cntP
    by_cases e : q n = true
    · rw [if_pos e, if_pos (h n e)]; omega
    · rw [if_neg e]; split <;> omega
theorem cntP_lt {p q : Nat → Bool} (h : ∀ i, q i = true → p i = true) {k : Nat} (hp : p k = true) (hq : ¬ q k = true) : ∀ n, k < n → cntP q n + 1 ≤ cntP p n
  | 0, hk => absurd hk (Nat.not_lt_zero k)
  | n + 1, hk => by
    unfold cntP
    by_cases e : k = n
    · subst e
      have := cntP_mono h k
      rw [if_neg hq, if_pos hp]; omega
    · have ih := cntP_lt h hp hq n (by omega)
      by_cases e2 : q n = true
      · rw [if_pos e2, if_pos (h n e2)]; omega
      · rw [if_neg e2]; split <;> omega
/-- how many lines are lit -/
def litN (S : Nat → Int32) (n : Nat) : Nat := cntP (fun k => S (166 + 13 * k + 3) == 1) n
theorem litN_le {S : Nat → Int32} {n : Nat} : litN S n ≤ n := cntP_le n
theorem litN_lt {S S' : Nat → Int32} {k n : Nat} (h : ∀ i, S' (166 + 13 * i + 3) = 1 → S (166 + 13 * i + 3) = 1) (hp : S (166 + 13 * k + 3) = 1) (hq : ¬ S' (166 + 13 * k + 3) = 1) (hk : k < n) : litN S' n + 1 ≤ litN S n :=
  cntP_lt (fun i hi => beq_t (h i (beq_iff_eq.mp hi))) (beq_t hp) (fun z => hq (beq_iff_eq.mp z)) n hk
theorem litN_pos {S : Nat → Int32} {k : Nat} : ∀ n, S (166 + 13 * k + 3) = 1 → k < n → 1 ≤ litN S n
  | 0, _, hk => absurd hk (Nat.not_lt_zero k)
  | n + 1, hp, hk => by
    unfold litN cntP
    by_cases e : k = n
    · rw [if_pos (by rw [← e]; exact beq_t hp)]; omega
    · have := litN_pos n hp (by omega)
      unfold litN at this
      omega
theorem pass_lit {B N : Nat} {S : Nat → Int32} (h : IV B S) (hN : 16 ≤ N) : nextS S = none ∨ litN (passS S) N + 1 ≤ litN S N := by
  cases e : nextS S with
  | none => exact Or.inl rfl
  | some k =>
    refine Or.inr ?_
    have hk := nextS_lt (ord_ok h.1 h.2.1) e
    have h4 := h.1.2.1.2
    have h2 := h.bit (k := k) (c := 3) (a := 0) (Or.inl rfl) (by omega) (Or.inl rfl)
    have v4 : vN (upd S (166 + 13 * k + 3) 0) 4 = vN S 4 := by unfold vN; rw [upd_n (by omega)]
    obtain ⟨-, -, g3⟩ := turn_line h2.1 h2.2.1 (k := k) (by omega)
    have el : ∀ i, passS S (166 + 13 * i + 3) = if i = k then 0 else S (166 + 13 * i + 3) := fun i => by
      unfold passS
      rw [e]
      show turnWS (upd S (166 + 13 * k + 3) 0) k (166 + 13 * i + 3) = _
      rw [g3.hi (by omega)]
      by_cases z : i = k
      · rw [z, upd_s, if_pos rfl]
      · rw [upd_n (by omega), if_neg z]
    refine litN_lt (k := k) (fun i hi => ?_) (ready_iff.mp (next_ready e)).1 ?_ (by omega)
    · rw [el i] at hi
      by_cases z : i = k
      · rw [if_pos z] at hi; exact absurd hi (by decide)
      · rw [if_neg z] at hi; exact hi
    · rw [el k, if_pos rfl]; decide
theorem pass_key {B N : Nat} {S : Nat → Int32} (h : IV B S) (hN : 16 ≤ N) : ∀ t, nextS (passN S t) = none ∨ litN (passN S t) N + t ≤ N
  | 0 => Or.inr litN_le
  | t + 1 => by
    have hs : passN S (t + 1) = passS (passN S t) := rfl
    rcases pass_key h hN t with ih | ih
    · refine Or.inl ?_
      rw [hs]
      unfold passS
      rw [ih]
      exact ih
    · rcases pass_lit (h.passN t) hN with e | e
      · refine Or.inl ?_
        rw [hs]
        unfold passS
        rw [e]
        exact e
      · refine Or.inr ?_
        rw [hs]
        omega
theorem pass_end {B : Nat} {S : Nat → Int32} (h : IV B S) : nextS (passN S 16) = none := by
  rcases pass_key h (Nat.le_refl 16) 16 with z | z
  · exact z
  · cases e : nextS (passN S 16) with
    | none => rfl
    | some k =>
      have ht := h.passN 16
      have hk := nextS_lt (ord_ok ht.1 ht.2.1) e
      have h4 := ht.1.2.1.2
      have := litN_pos (S := passN S 16) (k := k) 16 (ready_iff.mp (next_ready e)).1 (by omega)
      omega
