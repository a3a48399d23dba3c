/-! the tree: each line and each node is come by once -/
def entN (S : Nat → Int32) : Nat → Nat → List Nat
  | 0, _ => []
  | f + 1, j => (entL S j).flatMap (fun e => if e < 100 then [e] else e :: entN S f (e - 100))
theorem ord_ent {S : Nat → Int32} : ∀ f j, ordN S f j = (entN S f j).filter (fun e => decide (e < 100))
  | 0, _ => rfl
  | f + 1, j => by
    unfold ordN entN
    rw [List.filter_flatMap]
    congr 1
    funext e
    by_cases h : e < 100
    · rw [if_pos h, if_pos h]; simp [h]
    · rw [if_neg h, if_neg h, ord_ent f (e - 100), List.filter_cons, if_neg (by simpa using h)]
theorem sum_le_flat {g : Nat → List Nat} {h : Nat → Nat} {p : Nat → Bool} : ∀ l : List Nat, (∀ e ∈ l, h e ≤ (g e).length + ((g e).filter p).length) → (l.map h).sum ≤ (l.flatMap g).length + ((l.flatMap g).filter p).length
  | [], _ => by simp
  | e :: l, hl => by
    have ih := sum_le_flat (g := g) (h := h) (p := p) l (fun x hx => hl x (List.mem_cons_of_mem _ hx))
    have h1 := hl e List.mem_cons_self
    rw [List.map_cons, List.sum_cons, List.flatMap_cons, List.filter_append, List.length_append, List.length_append]
    omega
theorem stp_ent {S : Nat → Int32} : ∀ f j, stpN S f j ≤ (entN S f j).length + ((entN S f j).filter (fun e => decide (100 ≤ e))).length + 1
  | 0, _ => by unfold stpN; omega
  | f + 1, j => by
    unfold stpN entN
    refine Nat.add_le_add_right (sum_le_flat _ (fun e _ => ?_)) 1
    by_cases h : e < 100
    · rw [if_pos h, if_pos h]
      simp
    · have := stp_ent (S := S) f (e - 100)
      rw [if_neg h, if_neg h, List.filter_cons, if_pos (by simpa using h), List.length_cons, List.length_cons]
      omega
def valE (S : Nat → Int32) (x : Nat) : Prop := x < vN S 4 ∨ (100 < x ∧ x - 100 < vN S 3)
def parE (S : Nat → Int32) (x : Nat) : Nat := if x < 100 then vN S (166 + 13 * x) else onS S (x - 100)
theorem sum_none {h : Nat → Nat} : ∀ n, (∀ i, i < n → h i = 0) → ((List.range n).map h).sum = 0
  | 0, _ => rfl
  | n + 1, e => by
    rw [List.range_succ, List.map_append, List.sum_append, sum_none n (fun i hi => e i (by omega)), List.map_cons, List.sum_cons, e n (by omega)]
    rfl
theorem sum_one {h : Nat → Nat} {k : Nat} : ∀ n, k < n → h k = 1 → (∀ i, i < n → i ≠ k → h i = 0) → ((List.range n).map h).sum = 1
  | 0, hk, _, _ => absurd hk (Nat.not_lt_zero _)
  | n + 1, hk, h1, e => by
    rw [List.range_succ, List.map_append, List.sum_append, List.map_cons, List.sum_cons]
    by_cases z : k = n
    · subst z
      rw [sum_none k (fun i hi => e i (by omega) (by omega)), h1]
      rfl
    · rw [sum_one n (by omega) h1 (fun i hi hik => e i (by omega) hik), e n (by omega) (fun y => z y.symm)]
      rfl
theorem way_root {S : Nat → Int32} (h : InvB S) : ∀ x, x < 6 → 0 ∈ wayS S x := by
  intro x
  induction x using Nat.strongRecOn with
  | ind x ih =>
    intro hx
    rcases Nat.eq_zero_or_pos x with e | e
    · subst e; rw [wayS_0]; exact List.mem_singleton.mpr rfl
    · have ho := h.on x e hx
      rw [wayS_s h e hx]
      exact List.mem_cons_of_mem _ (ih _ ho (by omega))
theorem way_child {S : Nat → Int32} (h : InvB S) {j : Nat} : ∀ x, x < 6 → j ∈ wayS S x → x ≠ j → ∃ c, 1 ≤ c ∧ c ≤ x ∧ c ∈ wayS S x ∧ onS S c = j := by
  intro x
  induction x using Nat.strongRecOn with
  | ind x ih =>
    intro hx hm hne
    rcases Nat.eq_zero_or_pos x with e | e
    · subst e; rw [wayS_0, List.mem_singleton] at hm; omega
    · have ho := h.on x e hx
      have hm2 := hm
      rw [wayS_s h e hx] at hm2
      rcases List.mem_cons.mp hm2 with z | z
      · omega
      · by_cases q : onS S x = j
        · exact ⟨x, e, Nat.le_refl _, way_self h hx, q⟩
        · obtain ⟨c, c1, c2, c3, c4⟩ := ih _ ho (by omega) z q
          refine ⟨c, c1, by omega, ?_, c4⟩
          rw [wayS_s h e hx]
          exact List.mem_cons_of_mem _ c3
theorem par_lt {S : Nat → Int32} (hI : InvB S) {x : Nat} (hv : valE S x) : parE S x < vN S 3 := by
  have h3 := hI.1.2
  have h4 := hI.2.1.2
  unfold parE
  rcases hv with z | z
  · rw [if_pos (by omega)]
    exact (hI.2.2.2.2.2.1 x (by omega)).1.2
  · rw [if_neg (by omega)]
    have := hI.on (x - 100) (by omega) (by omega)
    omega
theorem ent_val {S : Nat → Int32} (hI : InvB S) (hT : InvT S) {j i : Nat} (hj : j < vN S 3) (hi : i < cntS S j) : valE S (entS S j i) ∧ parE S (entS S j i) = j := by
  have h4 := hI.2.1.2
  have := ((hT.1 j hj).1 i hi).2
  unfold valE parE
  rcases this with z | z
  · exact ⟨Or.inl z.1, by rw [if_pos (by omega)]; exact z.2⟩
  · exact ⟨Or.inr ⟨z.1, z.2.1⟩, by rw [if_neg (by omega)]; exact z.2.2⟩
theorem ent_ex {S : Nat → Int32} (hI : InvB S) (hT : InvT S) {x : Nat} (hv : valE S x) : ∃ i, i < cntS S (parE S x) ∧ entS S (parE S x) i = x := by
  have h4 := hI.2.1.2
  unfold parE
  rcases hv with z | z
  · rw [if_pos (by omega)]
    exact hT.2.1 x z
  · rw [if_neg (by omega)]
    obtain ⟨i, h1, h2⟩ := hT.2.2.1 (x - 100) (by omega) z.2
    exact ⟨i, h1, by rw [h2]; omega⟩
theorem ent_inj {S : Nat → Int32} (hT : InvT S) {j i i' : Nat} (hj : j < vN S 3) (hi : i < cntS S j) (hi' : i' < cntS S j) (e : entS S j i = entS S j i') : i = i' := by
  rcases Nat.lt_trichotomy i i' with z | z | z
  · exact absurd e ((hT.1 j hj).2 i i' z hi')
  · exact z
  · exact absurd e.symm ((hT.1 j hj).2 i' i z hi)
theorem ent_cnt {S : Nat → Int32} (hI : InvB S) (hT : InvT S) {x : Nat} : ∀ f j, j < vN S 3 → 6 ≤ j + f → ((valE S x ∧ j ∈ wayS S (parE S x)) → (entN S f j).count x = 1) ∧ (¬ (valE S x ∧ j ∈ wayS S (parE S x)) → (entN S f j).count x = 0)
  | 0, j, hj, hf => by have := hI.1.2.2; omega
  | f + 1, j, hj, hf => by
    have h3 := hI.1.2
    have h4 := hI.2.1.2
    have hj6 : j < 6 := by omega
    have ecnt : (entN S (f + 1) j).count x = ((List.range (cntS S j)).map (fun i => (if entS S j i < 100 then [entS S j i] else entS S j i :: entN S f (entS S j i - 100)).count x)).sum := by
      show ((entL S j).flatMap (fun e => if e < 100 then [e] else e :: entN S f (e - 100))).count x = _
      rw [List.count_flatMap]
      unfold entL
      rw [List.map_map]
      rfl
    rw [ecnt]
    -- a child's share
    have child : ∀ i, i < cntS S j → ¬ entS S j i < 100 → ∃ c, entS S j i = 100 + c ∧ 1 ≤ c ∧ c < vN S 3 ∧ onS S c = j ∧ j < c := fun i hi hn => by
      have := ((hT.1 j hj).1 i hi).2
      rcases this with z | z
      · omega
      · refine ⟨entS S j i - 100, by omega, by omega, z.2.1, z.2.2, ?_⟩
        have := hI.on (entS S j i - 100) (by omega) (by omega)
        omega
    have share : ∀ i, i < cntS S j → entS S j i ≠ x → (∀ c, entS S j i = 100 + c → ¬ (valE S x ∧ c ∈ wayS S (parE S x))) → (if entS S j i < 100 then [entS S j i] else entS S j i :: entN S f (entS S j i - 100)).count x = 0 := fun i hi hne hc => by
      by_cases q : entS S j i < 100
      · rw [if_pos q, List.count_cons, List.count_nil, if_neg (by simpa using hne)]
      · obtain ⟨c, c1, c2, c3, c4, c5⟩ := child i hi q
        rw [if_neg q, List.count_cons, if_neg (by simpa using hne), c1, Nat.add_sub_cancel_left]
        exact (ent_cnt hI hT f c c3 (by omega)).2 (hc c c1)
    constructor
    · rintro ⟨hv, hw⟩
      have hp := par_lt hI hv
      by_cases e : parE S x = j
      · obtain ⟨i0, i1, i2⟩ := ent_ex hI hT hv
        rw [e] at i1 i2
        refine sum_one (cntS S j) i1 ?_ (fun i hi hne => share i hi (fun z => hne (ent_inj hT hj hi i1 (z.trans i2.symm))) (fun c hc z => ?_))
        · show (if entS S j i0 < 100 then [entS S j i0] else entS S j i0 :: entN S f (entS S j i0 - 100)).count x = 1
          by_cases q : entS S j i0 < 100
          · rw [if_pos q, i2]; simp
          · obtain ⟨c, c1, c2, c3, c4, c5⟩ := child i0 i1 q
            rw [if_neg q, List.count_cons, c1, Nat.add_sub_cancel_left, if_pos (by rw [← c1, i2]; simp)]
            rw [(ent_cnt hI hT f c c3 (by omega)).2 (fun z => by
              have := way_le hI _ (by omega) c z.2
              omega)]
        · by_cases q : entS S j i < 100
          · omega
          · obtain ⟨c', c1, c2, c3, c4, c5⟩ := child i hi q
            have : c' = c := by omega
            subst this
            have := way_le hI _ (by omega) c' z.2
            omega
      · obtain ⟨c, c1, c2, c3, c4⟩ := way_child hI _ (by omega) hw e
        have hcN : c < vN S 3 := by omega
        obtain ⟨i0, i1, i2⟩ := hT.2.2.1 c c1 hcN
        rw [c4] at i1 i2
        refine sum_one (cntS S j) i1 ?_ (fun i hi hne => share i hi (fun z => e (by rw [← z]; exact (ent_val hI hT hj hi).2)) (fun c' hc' z => ?_))
        · show (if entS S j i0 < 100 then [entS S j i0] else entS S j i0 :: entN S f (entS S j i0 - 100)).count x = 1
          have hne : ¬ entS S j i0 = x := fun z => e (by rw [← z]; exact (ent_val hI hT hj i1).2)
          have hon := hI.on c c1 (by omega)
          rw [if_neg (by omega), List.count_cons, if_neg (by simpa using hne), i2, Nat.add_sub_cancel_left]
          exact (ent_cnt hI hT f c hcN (by omega)).1 ⟨hv, c3⟩
        · by_cases q : entS S j i < 100
          · omega
          · obtain ⟨c'', d1, d2, d3, d4, d5⟩ := child i hi q
            have : c'' = c' := by omega
            subst this
            have := way_uniq hI c1 d2 (c4.trans d4.symm) _ (by omega) c3 z.2
            subst this
            exact hne (ent_inj hT hj hi i1 (d1.trans i2.symm))
    · intro hn
      refine sum_none (cntS S j) (fun i hi => share i hi (fun z => ?_) (fun c hc z => ?_))
      · obtain ⟨v1, v2⟩ := ent_val hI hT hj hi
        rw [z] at v1 v2
        exact hn ⟨v1, by rw [v2]; exact way_self hI hj6⟩
      · by_cases q : entS S j i < 100
        · omega
        · obtain ⟨c', c1, c2, c3, c4, c5⟩ := child i hi q
          have : c' = c := by omega
          subst this
          have hp := par_lt hI z.1
          have := way_up hI c2 _ (by omega) z.2
          rw [c4] at this
          exact hn ⟨z.1, this⟩
theorem ent_all {S : Nat → Int32} (hI : InvB S) (hT : InvT S) : (entN S 6 0).Nodup ∧ ∀ x, x ∈ entN S 6 0 ↔ valE S x := by
  have h3 := hI.1.2
  have key : ∀ x, (valE S x → (entN S 6 0).count x = 1) ∧ (¬ valE S x → (entN S 6 0).count x = 0) := fun x => by
    have := ent_cnt hI hT (x := x) 6 0 (by omega) (by omega)
    exact ⟨fun hv => this.1 ⟨hv, way_root hI _ (by have := par_lt hI hv; omega)⟩, fun hn => this.2 (fun z => hn z.1)⟩
  refine ⟨List.nodup_iff_count.mpr (fun x => ?_), fun x => ⟨fun hx => ?_, fun hv => ?_⟩⟩
  · by_cases hv : valE S x
    · rw [(key x).1 hv]; exact Nat.le_refl 1
    · rw [(key x).2 hv]; exact Nat.zero_le 1
  · refine Classical.byContradiction fun hv => ?_
    have := List.count_pos_iff.mpr hx
    rw [(key x).2 hv] at this
    omega
  · refine List.count_pos_iff.mp ?_
    rw [(key x).1 hv]
    omega
theorem ord_ok {S : Nat → Int32} (hI : InvB S) (hT : InvT S) : OrdOK S := by
  obtain ⟨h1, h2⟩ := ent_all hI hT
  have h4 := hI.2.1.2
  have mem : ∀ x, x ∈ ordS S ↔ x < vN S 4 := fun x => by
    unfold ordS
    rw [ord_ent, List.mem_filter, h2 x, decide_eq_true_eq]
    unfold valE
    omega
  have nd : (ordS S).Nodup := by
    unfold ordS
    rw [ord_ent]
    exact h1.filter _
  refine ⟨?_, fun x hx => (mem x).mp hx⟩
  have a1 := nodup_len nd (vN S 4) (fun k hk => (mem k).mp hk)
  have a2 := List.Nodup.length_le_of_subset (List.nodup_range (n := vN S 4)) (l₂ := ordS S) (fun x hx => (mem x).mpr (List.mem_range.mp hx))
  rw [List.length_range] at a2
  omega
theorem len_split (p : Nat → Bool) : ∀ l : List Nat, l.length = (l.filter p).length + (l.filter (fun e => !p e)).length
  | [] => rfl
  | e :: l => by
    have ih := len_split p l
    rw [List.filter_cons, List.filter_cons, List.length_cons]
    cases p e with
    | true => simp; omega
    | false => simp; omega
theorem walk_ok {S : Nat → Int32} (hI : InvB S) (hT : InvT S) : WalkOK S := by
  obtain ⟨h1, h2⟩ := ent_all hI hT
  have h3 := hI.1.2
  have h4 := hI.2.1.2
  have ho := (ord_ok hI hT).1
  unfold ordS at ho
  rw [ord_ent] at ho
  have hs := stp_ent (S := S) 6 0
  have hl := len_split (fun e => decide (e < 100)) (entN S 6 0)
  have he : (entN S 6 0).filter (fun e => !decide (e < 100)) = (entN S 6 0).filter (fun e => decide (100 ≤ e)) := by
    congr 1
    funext e
    by_cases z : e < 100
    · rw [decide_eq_true z, decide_eq_false (by omega)]; rfl
    · rw [decide_eq_false z, decide_eq_true (by omega)]; rfl
  rw [he] at hl
  have hn : ((entN S 6 0).filter (fun e => decide (100 ≤ e))).length ≤ vN S 3 - 1 := by
    have := List.Nodup.length_le_of_subset (h1.filter (fun e => decide (100 ≤ e))) (l₂ := (List.range (vN S 3 - 1)).map (fun i => i + 101)) (fun x hx => by
      rw [List.mem_filter, h2 x, decide_eq_true_eq] at hx
      unfold valE at hx
      refine List.mem_map.mpr ⟨x - 101, List.mem_range.mpr (by omega), by omega⟩)
    rwa [List.length_map, List.length_range] at this
  unfold WalkOK
  omega
