/-! who waits: the reference's count of those ahead is the place in the class's list -/
theorem cnt_sum {p : Nat → Bool} : ∀ n, n < 2147483648 → sumF (fun k => bif p k then 1 else 0) n = nI (cntP p n)
  | 0, _ => rfl
  | n + 1, h => by
    rw [sumF, cnt_sum n (by omega), cntP]
    cases e : p n with
    | true => rw [if_pos rfl, cond_true, show (1 : Int32) = nI 1 from rfl, nI_add]
    | false => rw [if_neg (by decide), cond_false, Nat.add_zero, Int32.add_zero]
theorem cnt_len {p : Nat → Bool} : ∀ n, cntP p n = ((List.range n).filter p).length
  | 0 => rfl
  | n + 1 => by
    rw [cntP, cnt_len n, List.range_succ, List.filter_append, List.length_append]
    cases e : p n with
    | true => simp [e]
    | false => simp [e]
theorem ahead_earl {B : Nat} {S : Nat → Int32} (h : IV B S) {a b : Nat} (ha : a < 16) (hb : b < 16) (sa : S (166 + 13 * a + 4) = 2) (sb : S (166 + 13 * b + 4) = 2) : aheadS S a b = true ↔ earlS S a b := by
  have t0 := h.1.t0
  obtain ⟨a1, a2, -⟩ := h.2.2.2.1 a ha sa
  obtain ⟨b1, b2, -⟩ := h.2.2.2.1 b hb sb
  rw [ti_lt] at a1 b1
  have hs : (S (166 + 13 * a + 11) - S (166 + 13 * b + 11)).toInt = (S (166 + 13 * a + 11)).toInt - (S (166 + 13 * b + 11)).toInt := ti_sub (by omega) (by omega)
  have e1 : S (166 + 13 * a + 11) - S (166 + 13 * b + 11) < 0 ↔ S (166 + 13 * a + 11) < S (166 + 13 * b + 11) := by
    rw [ti_lt, ti_lt, hs, show (0 : Int32).toInt = 0 from rfl]
    omega
  have e2 : S (166 + 13 * a + 11) - S (166 + 13 * b + 11) = 0 ↔ S (166 + 13 * a + 11) = S (166 + 13 * b + 11) := by
    rw [← Int32.toInt_inj, hs, ← Int32.toInt_inj, show (0 : Int32).toInt = 0 from rfl]
    omega
  unfold aheadS earlS
  rw [Bool.or_eq_true, Bool.and_eq_true, decide_eq_true_eq, decide_eq_true_eq, beq_iff_eq, e1, e2]
theorem earl_irr {S : Nat → Int32} {a b : Nat} (h : earlS S a b) : ¬ earlS S b a := by
  unfold earlS at h ⊢
  rw [ti_lt, ti_lt, ← Int32.toInt_inj] at h ⊢
  omega
theorem rank_at {B : Nat} {S : Nat → Int32} {W : List Nat} (h : IV B S) (hW : waitOK S W) {i l : Nat} (hi : W[i]? = some l) : rankS S l = nI i := by
  obtain ⟨w1, w2, w3⟩ := hW
  have h4 := h.1.2.1.2
  have hlt : i < W.length := (List.getElem?_eq_some_iff.mp hi).1
  have hil : W[i] = l := (List.getElem?_eq_some_iff.mp hi).2
  have hl := (w2 l).mp (List.mem_of_getElem? hi)
  have pw := List.pairwise_iff_getElem.mp w3
  unfold rankS
  rw [cnt_sum _ (by omega), cnt_len]
  congr 1
  have n1 : (W.take i).Nodup := w1.sublist (List.take_sublist _ _)
  have n2 : ((List.range (vN S 4)).filter (fun k => (S (166 + 13 * k + 4) == 2) && aheadS S k l)).Nodup := List.nodup_range.filter _
  have len : (W.take i).length = i := by rw [List.length_take]; omega
  have le1 := List.Nodup.length_le_of_subset n1 (l₂ := (List.range (vN S 4)).filter (fun k => (S (166 + 13 * k + 4) == 2) && aheadS S k l)) (fun k hk => by
    obtain ⟨j, hj, e⟩ := List.getElem_of_mem hk
    rw [List.length_take] at hj
    have hj2 : j < W.length := by omega
    have ek : W[j] = k := by rw [← e, List.getElem_take]
    have hk2 := (w2 k).mp (by rw [← ek]; exact List.getElem_mem hj2)
    have he := pw j i hj2 hlt (by omega)
    rw [ek, hil] at he
    refine List.mem_filter.mpr ⟨List.mem_range.mpr hk2.1, ?_⟩
    rw [beq_t hk2.2, (ahead_earl h (by omega) (by omega) hk2.2 hl.2).mpr he]
    rfl)
  have le2 := List.Nodup.length_le_of_subset n2 (l₂ := W.take i) (fun k hk => by
    obtain ⟨k1, k2⟩ := List.mem_filter.mp hk
    rw [Bool.and_eq_true, beq_iff_eq] at k2
    have k1 := List.mem_range.mp k1
    have he := (ahead_earl h (by omega) (by omega) k2.1 hl.2).mp k2.2
    obtain ⟨j, hj, ek⟩ := List.getElem_of_mem ((w2 k).mpr ⟨k1, k2.1⟩)
    rcases Nat.lt_trichotomy j i with z | z | z
    · refine List.mem_of_getElem? (i := j) ?_
      rw [List.getElem?_take_of_lt z, List.getElem?_eq_getElem hj, ek]
    · subst z
      rw [hil] at ek
      subst ek
      exact absurd he (earl_irr he)
    · have := pw i j hlt hj z
      rw [ek, hil] at this
      exact absurd he (earl_irr this))
  rw [len] at le1 le2
  omega
theorem wait_eq {B : Nat} {S : Nat → Int32} {W : List Nat} (h : IV B S) (hW : waitOK S W) {x : Int32} (hx : 0 ≤ x.toInt) : fndI W[x.toNatClampNeg]? = waitS S x := by
  have h4 := h.1.2.1.2
  have w2 := hW.2.1
  have xe := ti_nat hx
  have xb : x.toNatClampNeg < 2147483648 := by
    have := int_range x
    have := (show x.toNatClampNeg = x.toInt.toNat from rfl)
    omega
  have wl : W.length ≤ 16 := hW.len h4
  generalize x.toNatClampNeg = i at xe xb ⊢
  subst xe
  -- whoever answers stands at place i
  have un : ∀ k, k < vN S 4 → waitP S (nI i) k = 1 → W[i]? = some k := fun k hk hp => by
    unfold waitP at hp
    have h2 : S (166 + 13 * k + 4) = 2 ∧ rankS S k = nI i := by
      refine Classical.byContradiction fun z => ?_
      have : ((S (166 + 13 * k + 4) == 2) && (rankS S k == nI i)) = false := by
        refine Bool.eq_false_iff.mpr fun y => z ?_
        rw [Bool.and_eq_true, beq_iff_eq, beq_iff_eq] at y
        exact y
      rw [this] at hp
      exact absurd hp (by decide)
    obtain ⟨j, hj, ek⟩ := List.getElem_of_mem ((w2 k).mpr ⟨hk, h2.1⟩)
    have hjk : W[j]? = some k := by rw [List.getElem?_eq_getElem hj, ek]
    have := rank_at h hW hjk
    rw [h2.2] at this
    have := (nI_eq xb (by omega)).mp this
    rw [this]; exact hjk
  unfold waitS
  cases e : W[i]? with
  | none =>
    rw [if_neg]
    · rfl
    · intro z
      have := un _ z (posF_yes _ z)
      rw [e] at this
      cases this
  | some l =>
    have hl := (w2 l).mp (List.mem_of_getElem? e)
    have hp : waitP S (nI i) l = 1 := by
      unfold waitP
      rw [beq_t hl.2, beq_t (rank_at h hW e)]; rfl
    have hle := posF_lt (f := waitP S (nI i)) (vN S 4) l hl.1 hp
    have hlt : posF (waitP S (nI i)) 1 (vN S 4) < vN S 4 := by omega
    rw [if_pos hlt]
    have := un _ hlt (posF_yes _ hlt)
    rw [e] at this
    rw [← Option.some.inj this]
    rfl
