/-! what always holds of the row, and which changes keep it -/
def InvX (B : Nat) (S : Nat → Int32) : Prop :=
  (∀ k, vN S 4 ≤ k → k < 16 → S (166 + 13 * k + 4) = 0 ∧ S (166 + 13 * k + 6) = 0 ∧ S (166 + 13 * k + 7) = 0 ∧ S (166 + 13 * k + 8) = 0) ∧
  (∀ k, k < 16 → S (166 + 13 * k + 4) = 2 → S 0 < S (166 + 13 * k + 11) ∧ (S (166 + 13 * k + 11)).toInt ≤ 50050 ∧ S (166 + 13 * k + 12) < S 15) ∧
  (0 ≤ (S 15).toInt ∧ (S 15).toInt ≤ B) ∧
  ((∀ i, i < vN S 10 → S (166 + 13 * vN S (11 + i) + 4) = 1) ∧ ∀ i j, i < j → j < vN S 10 → vN S (11 + i) ≠ vN S (11 + j)) ∧
  (S 5 = sumF (fun k => S (166 + 13 * k + 6)) (vN S 4) ∧ S 6 = sumF (fun k => S (166 + 13 * k + 7)) (vN S 4) ∧ S 7 = sumF (fun k => if S (166 + 13 * k + 2) = 0 then S (166 + 13 * k + 8) else 0) (vN S 4) ∧ S 8 = sumF (fun k => if S (166 + 13 * k + 2) = 1 then S (166 + 13 * k + 8) else 0) (vN S 4)) ∧
  ∀ k, 374 ≤ k → S k = 0
def IV (B : Nat) (S : Nat → Int32) : Prop := InvB S ∧ InvT S ∧ InvX B S
theorem IV.mono {B B' : Nat} {S : Nat → Int32} (h : IV B S) (hB : B ≤ B') : IV B' S := by
  obtain ⟨h1, h2, x1, x2, x3, x4⟩ := h
  exact ⟨h1, h2, x1, x2, ⟨x3.1, by omega⟩, x4⟩
theorem InvX.to {B : Nat} {S S' : Nat → Int32} (h : InvX B S) (hI : InvB S) (e0 : S' 0 = S 0) (e1 : ∀ i, 4 ≤ i → i < 9 → S' i = S i) (es : ∀ i, 10 ≤ i → i < 16 → S' i = S i)
    (el : ∀ k, k < 16 → ∀ c, (c = 2 ∨ c = 4 ∨ c = 6 ∨ c = 7 ∨ c = 8 ∨ c = 11 ∨ c = 12) → S' (166 + 13 * k + c) = S (166 + 13 * k + c)) (ez : ∀ k, 374 ≤ k → S' k = S k) : InvX B S' := by
  obtain ⟨x1, x2, x3, ⟨x4, x5⟩, ⟨x6, x7, x8, x9⟩, x10⟩ := h
  have h4 := hI.2.1.2
  have h10 := hI.2.2.1.2
  have v4 : vN S' 4 = vN S 4 := by unfold vN; rw [e1 4 (by omega) (by omega)]
  have v10 : vN S' 10 = vN S 10 := by unfold vN; rw [es 10 (by omega) (by omega)]
  have vs : ∀ i, i < vN S 10 → vN S' (11 + i) = vN S (11 + i) ∧ vN S (11 + i) < 16 := fun i hi => by
    have := (hI.2.2.2.2.2.2.1 i hi).2
    refine ⟨?_, by omega⟩
    show (S' (11 + i)).toNatClampNeg = _
    rw [es (11 + i) (by omega) (by omega)]
  refine ⟨fun k hk hk16 => ?_, fun k hk hs => ?_, ?_, ⟨fun i hi => ?_, fun i j hij hj => ?_⟩, ⟨?_, ?_, ?_, ?_⟩, fun k hk => (ez k hk).trans (x10 k hk)⟩
  · rw [v4] at hk
    rw [el k hk16 4 (by omega), el k hk16 6 (by omega), el k hk16 7 (by omega), el k hk16 8 (by omega)]
    exact x1 k hk hk16
  · rw [el k hk 4 (by omega)] at hs
    rw [e0, el k hk 11 (by omega), el k hk 12 (by omega), es 15 (by omega) (by omega)]
    exact x2 k hk hs
  · rw [es 15 (by omega) (by omega)]; exact x3
  · rw [v10] at hi
    obtain ⟨a1, a2⟩ := vs i hi
    rw [a1, el _ a2 4 (by omega)]
    exact x4 i hi
  · rw [v10] at hj
    rw [(vs i (by omega)).1, (vs j hj).1]
    exact x5 i j hij hj
  · rw [e1 5 (by omega) (by omega), v4, x6]
    exact (sumF_congr _ (fun i hi => el i (by omega) 6 (by omega))).symm
  · rw [e1 6 (by omega) (by omega), v4, x7]
    exact (sumF_congr _ (fun i hi => el i (by omega) 7 (by omega))).symm
  · rw [e1 7 (by omega) (by omega), v4, x8]
    exact (sumF_congr _ (fun i hi => by rw [el i (by omega) 2 (by omega), el i (by omega) 8 (by omega)])).symm
  · rw [e1 8 (by omega) (by omega), v4, x9]
    exact (sumF_congr _ (fun i hi => by rw [el i (by omega) 2 (by omega), el i (by omega) 8 (by omega)])).symm
theorem IV.soft {B : Nat} {S S' : Nat → Int32} (h : IV B S) (e : ∀ i, i < 16 → i ≠ 1 → i ≠ 2 → i ≠ 9 → S' i = S i) (en : ∀ j, j < 6 → ∀ c, c < 25 → c ≠ 2 → S' (16 + 25 * j + c) = S (16 + 25 * j + c))
    (el : ∀ k, k < 16 → ∀ c, c < 13 → c ≠ 3 → c ≠ 5 → c ≠ 9 → c ≠ 10 → S' (166 + 13 * k + c) = S (166 + 13 * k + c)) (ez : ∀ k, 374 ≤ k → S' k = S k)
    (hb1 : 0 ≤ (S' 1).toInt ∧ (S' 1).toInt ≤ 8) (hb2 : 0 ≤ (S' 2).toInt ∧ (S' 2).toInt ≤ 50) (hh : ∀ j, j < 6 → bit01 (S' (16 + 25 * j + 2))) (hl : ∀ k, k < 16 → bit01 (S' (166 + 13 * k + 3)) ∧ bit01 (S' (166 + 13 * k + 5))) : IV B S' := by
  obtain ⟨hI, hT, hX⟩ := h
  have n0 : ∀ j, j < 6 → S' (16 + 25 * j) = S (16 + 25 * j) := fun j hj => en j hj 0 (by omega) (by omega)
  have l0 : ∀ k, k < 16 → S' (166 + 13 * k) = S (166 + 13 * k) := fun k hk => el k hk 0 (by omega) (by omega) (by omega) (by omega) (by omega)
  refine ⟨hI.to (e 3 (by omega) (by omega) (by omega) (by omega)) (e 4 (by omega) (by omega) (by omega) (by omega)) (fun i h1 h2 => e i (by omega) (by omega) (by omega) (by omega)) (fun j hj => ⟨n0 j hj, ?_, hh j hj, en j hj 3 (by omega) (by omega)⟩) (fun k hk => ⟨l0 k hk, el k hk 1 (by omega) (by omega) (by omega) (by omega) (by omega), ?_, (hl k hk).1, ?_, (hl k hk).2⟩) ⟨?_, hb1, hb2⟩,
    hT.to hI (e 3 (by omega) (by omega) (by omega) (by omega)) (e 4 (by omega) (by omega) (by omega) (by omega)) (fun j hj => ⟨n0 j hj, en j hj 3 (by omega) (by omega)⟩) (fun j i hj hi => by rw [show 16 + 25 * j + 4 + i = 16 + 25 * j + (4 + i) by omega]; exact en j hj (4 + i) (by omega) (by omega)) l0,
    hX.to hI (e 0 (by omega) (by omega) (by omega) (by omega)) (fun i h1 h2 => e i (by omega) (by omega) (by omega) (by omega)) (fun i h1 h2 => e i (by omega) (by omega) (by omega) (by omega)) (fun k hk c hc => el k hk c (by omega) (by omega) (by omega) (by omega) (by omega)) ez⟩
  · rw [en j hj 1 (by omega) (by omega)]; exact (hI.2.2.2.1 j hj).1
  · rw [el k hk 2 (by omega) (by omega) (by omega) (by omega) (by omega)]; exact (hI.2.2.2.2.2.1 k hk).2.2.1
  · rw [el k hk 4 (by omega) (by omega) (by omega) (by omega) (by omega)]; exact (hI.2.2.2.2.2.1 k hk).2.2.2.2.1
  · rw [e 0 (by omega) (by omega) (by omega) (by omega)]; exact hI.t0
theorem IV.agr {B : Nat} {S S' : Nat → Int32} (h : IV B S) (hA : Agr S S') (hT : InvT S') : IV B S' := by
  obtain ⟨hI, -, hX⟩ := h
  exact ⟨hA.InvB hI, hT, hX.to hI (hA.lo (by omega)) (fun i h1 h2 => hA.lo (by omega)) (fun i h1 h2 => hA.lo (by omega)) (fun k hk c hc => hA.hi (by omega)) (fun k hk => hA.hi (by omega))⟩
theorem IV.thr {B : Nat} {S : Nat → Int32} {a : Int32} (h : IV B S) (ha : 0 ≤ a.toInt ∧ a.toInt ≤ 8) : IV B (upd S 1 a) := by
  have hI := h.1
  refine h.soft (fun i h1 h2 h3 h4 => upd_n h2) (fun j hj c h1 h2 => upd_n (by omega)) (fun k hk c h1 h2 h3 h4 h5 => upd_n (by omega)) (fun k hk => upd_n (by omega)) (by rw [upd_s]; exact ha) (by rw [upd_n (by omega)]; exact hI.2.2.2.2.2.2.2.2.2) (fun j hj => by rw [upd_n (by omega)]; exact (hI.2.2.2.1 j hj).2.1) (fun k hk => ?_)
  rw [upd_n (by omega), upd_n (by omega)]
  exact ⟨(hI.2.2.2.2.2.1 k hk).2.2.2.1, (hI.2.2.2.2.2.1 k hk).2.2.2.2.2⟩
theorem IV.late {B : Nat} {S : Nat → Int32} {a : Int32} (h : IV B S) (ha : 0 ≤ a.toInt ∧ a.toInt ≤ 50) : IV B (upd S 2 a) := by
  have hI := h.1
  refine h.soft (fun i h1 h2 h3 h4 => upd_n h3) (fun j hj c h1 h2 => upd_n (by omega)) (fun k hk c h1 h2 h3 h4 h5 => upd_n (by omega)) (fun k hk => upd_n (by omega)) (by rw [upd_n (by omega)]; exact hI.2.2.2.2.2.2.2.2.1) (by rw [upd_s]; exact ha) (fun j hj => by rw [upd_n (by omega)]; exact (hI.2.2.2.1 j hj).2.1) (fun k hk => ?_)
  rw [upd_n (by omega), upd_n (by omega)]
  exact ⟨(hI.2.2.2.2.2.1 k hk).2.2.2.1, (hI.2.2.2.2.2.1 k hk).2.2.2.2.2⟩
theorem IV.bit {B k c : Nat} {S : Nat → Int32} {a : Int32} (h : IV B S) (hc : c = 3 ∨ c = 5) (hk : k < 16) (ha : bit01 a) : IV B (upd S (166 + 13 * k + c) a) := by
  have hI := h.1
  refine h.soft (fun i h1 h2 h3 h4 => upd_n (by omega)) (fun j hj c h1 h2 => upd_n (by omega)) (fun k hk c h1 h2 h3 h4 h5 => upd_n (by omega)) (fun k hk => upd_n (by omega)) (by rw [upd_n (by omega)]; exact hI.2.2.2.2.2.2.2.2.1) (by rw [upd_n (by omega)]; exact hI.2.2.2.2.2.2.2.2.2) (fun j hj => by rw [upd_n (by omega)]; exact (hI.2.2.2.1 j hj).2.1) (fun i hi => ?_)
  have hb := (hI.2.2.2.2.2.1 i hi).2.2.2
  refine ⟨?_, ?_⟩
  · by_cases e : 166 + 13 * i + 3 = 166 + 13 * k + c
    · rw [e, upd_s]; exact ha
    · rw [upd_n e]; exact hb.1
  · by_cases e : 166 + 13 * i + 5 = 166 + 13 * k + c
    · rw [e, upd_s]; exact ha
    · rw [upd_n e]; exact hb.2.2
theorem IV.hid {B j : Nat} {S : Nat → Int32} {a : Int32} (h : IV B S) (hj : j < 6) (ha : bit01 a) : IV B (upd S (16 + 25 * j + 2) a) := by
  have hI := h.1
  refine h.soft (fun i h1 h2 h3 h4 => upd_n (by omega)) (fun j hj c h1 h2 => upd_n (by omega)) (fun k hk c h1 h2 h3 h4 h5 => upd_n (by omega)) (fun k hk => upd_n (by omega)) (by rw [upd_n (by omega)]; exact hI.2.2.2.2.2.2.2.2.1) (by rw [upd_n (by omega)]; exact hI.2.2.2.2.2.2.2.2.2) (fun i hi => ?_) (fun k hk => ?_)
  · by_cases e : i = j
    · rw [e, upd_s]; exact ha
    · rw [upd_n (by omega)]; exact (hI.2.2.2.1 i hi).2.1
  · rw [upd_n (by omega), upd_n (by omega)]
    exact ⟨(hI.2.2.2.2.2.1 k hk).2.2.2.1, (hI.2.2.2.2.2.1 k hk).2.2.2.2.2⟩
/-- a sum with one part that grows -/
theorem sum_inc {f g : Nat → Int32} {k n : Nat} {d : Int32} (h : ∀ i, i ≠ k → f i = g i) (hk : k < n) (hd : f k = g k + d) : sumF f n = sumF g n + d := by
  have h1 := sumF_one h n hk
  rw [hd, show sumF g n + (g k + d) = sumF g n + d + g k by ac_rfl] at h1
  have h2 : sumF f n + g k - g k = sumF g n + d + g k - g k := by rw [h1]
  rwa [Int32.add_sub_cancel, Int32.add_sub_cancel] at h2
theorem IV.edge {B k : Nat} {S : Nat → Int32} (h : IV B S) (hk : k < vN S 4) (hK : S (166 + 13 * k + 2) = 0) : IV B (goEdgeS S k) := by
  obtain ⟨hI, hT, x1, x2, x3, x4, ⟨x6, x7, x8, x9⟩, x10⟩ := h
  have h4 := hI.2.1.2
  have h10 := hI.2.2.1.2
  have lo : ∀ i, i < 166 → i ≠ 5 → i ≠ 6 → goEdgeS S k i = S i := fun i h1 h2 h3 => by
    unfold goEdgeS
    try dsimp only
    split
    · rw [upd_n (by omega), upd_n h3, upd_n (by omega), upd_n h2]
    · rw [upd_n (by omega), upd_n (by omega), upd_n (by omega), upd_n h2]
  have hi : ∀ i c, c < 13 → (i ≠ k ∨ (c ≠ 3 ∧ c ≠ 6 ∧ c ≠ 7 ∧ c ≠ 10)) → goEdgeS S k (166 + 13 * i + c) = S (166 + 13 * i + c) := fun i c h1 h2 => by
    unfold goEdgeS
    try dsimp only
    split
    · rw [upd_n (by omega), upd_n (by omega), upd_n (by omega), upd_n (by omega)]
    · rw [upd_n (by omega), upd_n (by omega), upd_n (by omega), upd_n (by omega)]
  have l0 : ∀ i, goEdgeS S k (166 + 13 * i) = S (166 + 13 * i) := fun i => hi i 0 (by omega) (by omega)
  have v4 : vN (goEdgeS S k) 4 = vN S 4 := by unfold vN; rw [lo 4 (by omega) (by omega) (by omega)]
  have v10 : vN (goEdgeS S k) 10 = vN S 10 := by unfold vN; rw [lo 10 (by omega) (by omega) (by omega)]
  have vs : ∀ i, i < 4 → vN (goEdgeS S k) (11 + i) = vN S (11 + i) := fun i hi4 => by unfold vN; rw [lo (11 + i) (by omega) (by omega) (by omega)]
  have lit : ∀ i, i < 16 → bit01 (goEdgeS S k (166 + 13 * i + 3)) := fun i hi16 => by
    have hb := (hI.2.2.2.2.2.1 i hi16).2.2.2.1
    by_cases e : i = k
    · subst e
      unfold goEdgeS
      try dsimp only
      split
      · rw [upd_n (by omega), upd_n (by omega), upd_n (by omega), upd_n (by omega)]; exact hb
      · rw [upd_n (by omega), upd_s]; exact Or.inr rfl
    · rw [hi i 3 (by omega) (Or.inl e)]; exact hb
  have e5 : goEdgeS S k 5 = S 5 + 1 ∧ goEdgeS S k (166 + 13 * k + 6) = S (166 + 13 * k + 6) + 1 := by
    unfold goEdgeS
    try dsimp only
    split
    · exact ⟨by rw [upd_n (by omega), upd_n (by omega), upd_n (by omega), upd_s], by rw [upd_n (by omega), upd_n (by omega), upd_s]⟩
    · exact ⟨by rw [upd_n (by omega), upd_n (by omega), upd_n (by omega), upd_s], by rw [upd_n (by omega), upd_n (by omega), upd_s]⟩
  have e6 : ∃ d, goEdgeS S k 6 = S 6 + d ∧ goEdgeS S k (166 + 13 * k + 7) = S (166 + 13 * k + 7) + d := by
    unfold goEdgeS
    try dsimp only
    split
    · exact ⟨1, by rw [upd_n (by omega), upd_s], by rw [upd_s]⟩
    · exact ⟨0, by rw [upd_n (by omega), upd_n (by omega), upd_n (by omega), upd_n (by omega), Int32.add_zero], by rw [upd_n (by omega), upd_n (by omega), upd_n (by omega), upd_n (by omega), Int32.add_zero]⟩
  refine ⟨hI.to (lo 3 (by omega) (by omega) (by omega)) (lo 4 (by omega) (by omega) (by omega)) (fun i h1 h2 => lo i (by omega) (by omega) (by omega)) (fun j hj => ⟨lo _ (by omega) (by omega) (by omega), ?_, ?_, lo _ (by omega) (by omega) (by omega)⟩) (fun i hi16 => ⟨l0 i, hi i 1 (by omega) (by omega), ?_, lit i hi16, ?_, ?_⟩) ?_,
    hT.to hI (lo 3 (by omega) (by omega) (by omega)) (lo 4 (by omega) (by omega) (by omega)) (fun j hj => ⟨lo _ (by omega) (by omega) (by omega), lo _ (by omega) (by omega) (by omega)⟩) (fun j i hj hi21 => lo _ (by omega) (by omega) (by omega)) (fun i _ => l0 i),
    fun i h1 h2 => ?_, fun i h1 h2 => ?_, ?_, ⟨fun i hi4 => ?_, fun i j hij hj => ?_⟩, ⟨?_, ?_, ?_, ?_⟩, fun i hi3 => ?_⟩
  · rw [lo _ (by omega) (by omega) (by omega)]; exact (hI.2.2.2.1 j hj).1
  · rw [lo _ (by omega) (by omega) (by omega)]; exact (hI.2.2.2.1 j hj).2.1
  · rw [hi i 2 (by omega) (by omega)]; exact (hI.2.2.2.2.2.1 i hi16).2.2.1
  · rw [hi i 4 (by omega) (by omega)]; exact (hI.2.2.2.2.2.1 i hi16).2.2.2.2.1
  · rw [hi i 5 (by omega) (by omega)]; exact (hI.2.2.2.2.2.1 i hi16).2.2.2.2.2
  · rw [lo 0 (by omega) (by omega) (by omega), lo 1 (by omega) (by omega) (by omega), lo 2 (by omega) (by omega) (by omega)]
    exact hI.2.2.2.2.2.2.2
  · rw [v4] at h1
    have : i ≠ k := by omega
    rw [hi i 4 (by omega) (by omega), hi i 6 (by omega) (by omega), hi i 7 (by omega) (by omega), hi i 8 (by omega) (by omega)]
    exact x1 i h1 h2
  · rw [hi i 4 (by omega) (by omega)] at h2
    rw [lo 0 (by omega) (by omega) (by omega), hi i 11 (by omega) (by omega), hi i 12 (by omega) (by omega), lo 15 (by omega) (by omega) (by omega)]
    exact x2 i h1 h2
  · rw [lo 15 (by omega) (by omega) (by omega)]; exact x3
  · rw [v10] at hi4
    rw [vs i (by omega), hi _ 4 (by omega) (by omega)]
    exact x4.1 i hi4
  · rw [v10] at hj
    rw [vs i (by omega), vs j (by omega)]
    exact x4.2 i j hij hj
  · rw [v4, e5.1, x6]
    exact (sum_inc (fun i hik => hi i 6 (by omega) (Or.inl hik)) hk e5.2).symm
  · obtain ⟨d, d1, d2⟩ := e6
    rw [v4, d1, x7]
    exact (sum_inc (fun i hik => hi i 7 (by omega) (Or.inl hik)) hk d2).symm
  · rw [v4, lo 7 (by omega) (by omega) (by omega), x8]
    exact (sumF_congr _ (fun i _ => by rw [hi i 2 (by omega) (by omega), hi i 8 (by omega) (by omega)])).symm
  · rw [v4, lo 8 (by omega) (by omega) (by omega), x9]
    exact (sumF_congr _ (fun i _ => by rw [hi i 2 (by omega) (by omega), hi i 8 (by omega) (by omega)])).symm
  · have : goEdgeS S k i = S i := by
      unfold goEdgeS
      try dsimp only
      split
      · rw [upd_n (by omega), upd_n (by omega), upd_n (by omega), upd_n (by omega)]
      · rw [upd_n (by omega), upd_n (by omega), upd_n (by omega), upd_n (by omega)]
    rw [this]; exact x10 i hi3
