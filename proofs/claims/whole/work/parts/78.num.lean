/-! the counts: the class's, the reference's -/
theorem poN_bit (v k : Nat) : (v >>> k) &&& 1 = (v.testBit k).toNat := by
  rw [Nat.toNat_testBit, Nat.shiftRight_eq_div_pow, Nat.and_one_is_mod]
theorem set_bit {p : Nat → Bool} {k : Nat} : ∀ n, n ≤ 16 → (setF p n).toBitVec.toNat.testBit k = (decide (k < n) && p k)
  | 0, _ => by
    show (0 : Nat).testBit k = _
    rw [Nat.zero_testBit, decide_eq_false (by omega)]; rfl
  | n + 1, h => by
    have ih := set_bit (p := p) (k := k) n (by omega)
    rw [setF]
    show ((setF p n).toBitVec ||| (if p n = true then (1 : Int32) <<< (nI n &&& 31) else 0).toBitVec).toNat.testBit k = _
    rw [BitVec.toNat_or, Nat.testBit_or, ih]
    have e2 : (if p n = true then (1 : Int32) <<< (nI n &&& 31) else 0).toBitVec.toNat.testBit k = (p n && decide (n = k)) := by
      cases e : p n with
      | true => rw [if_pos rfl, shl_bv n (by omega), Nat.testBit_two_pow, Bool.true_and]
      | false =>
        rw [if_neg (by decide), Bool.false_and]
        exact Nat.zero_testBit k
    rw [e2]
    by_cases z : k = n
    · subst z
      simp
    · have e1 : decide (n = k) = false := decide_eq_false (fun y => z y.symm)
      have e3 : decide (k < n + 1) = decide (k < n) := by
        by_cases y : k < n
        · rw [decide_eq_true y, decide_eq_true (show k < n + 1 by omega)]
        · rw [decide_eq_false y, decide_eq_false (show ¬ k < n + 1 by omega)]
      rw [e1, e3, Bool.and_false, Bool.or_false]
theorem poN_sum {v : Nat} {f : Nat → Bool} (h : ∀ k, v.testBit k = f k) : ∀ n, n ≤ 16 → nI (poN v n) = sumF (fun k => bif f k then 1 else 0) n
  | 0, _ => rfl
  | n + 1, hn => by
    rw [poN, sumF, ← poN_sum h n (by omega), poN_bit, h n]
    cases f n with
    | true => rw [Bool.toNat_true, cond_true, ← nI_add]; rfl
    | false => rw [Bool.toNat_false, cond_false, Nat.add_zero, Int32.add_zero]
theorem sum_more {f : Nat → Int32} {n : Nat} : ∀ d, (∀ i, n ≤ i → i < n + d → f i = 0) → sumF f (n + d) = sumF f n
  | 0, _ => rfl
  | d + 1, h => by
    show sumF f (n + d) + f (n + d) = _
    rw [sum_more d (fun i h1 h2 => h i h1 (by omega)), h (n + d) (by omega) (by omega), Int32.add_zero]
theorem lit_cnt {S : Nat → Int32} (hI : InvB S) : bitsS (setF (fun k => S (166 + 13 * k + 3) == 1) (vN S 4) &&& setF (fun k => S (166 + 13 * k + 2) == 0) (vN S 4)) = litEdgesS S := by
  have h4 := hI.2.1.2
  have hv : (setF (fun k => S (166 + 13 * k + 3) == 1) (vN S 4) &&& setF (fun k => S (166 + 13 * k + 2) == 0) (vN S 4)).toBitVec.toNat < 65536 := and_16 (setF_16 h4)
  have hb : ∀ k, (setF (fun k => S (166 + 13 * k + 3) == 1) (vN S 4) &&& setF (fun k => S (166 + 13 * k + 2) == 0) (vN S 4)).toBitVec.toNat.testBit k = (decide (k < vN S 4) && ((S (166 + 13 * k + 3) == 1) && (S (166 + 13 * k + 2) == 0))) := fun k => by
    show ((setF (fun k => S (166 + 13 * k + 3) == 1) (vN S 4)).toBitVec &&& (setF (fun k => S (166 + 13 * k + 2) == 0) (vN S 4)).toBitVec).toNat.testBit k = _
    rw [BitVec.toNat_and, Nat.testBit_and, set_bit _ h4, set_bit _ h4]
    cases decide (k < vN S 4) <;> simp
  rw [bv_nI hv, bits_N hv, poN_sum hb 16 (Nat.le_refl _)]
  obtain ⟨d, hd⟩ : ∃ d, 16 = vN S 4 + d := ⟨16 - vN S 4, by omega⟩
  rw [hd, sum_more d (fun i h1 h2 => by rw [decide_eq_false (by omega)]; rfl)]
  unfold litEdgesS
  refine sumF_congr _ (fun k hk => ?_)
  rw [decide_eq_true hk, Bool.true_and]
  have hl := (hI.2.2.2.2.2.1 k (by omega)).2.2.2.1
  by_cases e : S (166 + 13 * k + 2) = 0
  · rw [if_pos e, beq_t e, Bool.and_true]
    rcases hl with z | z
    · rw [z]; rfl
    · rw [z]; rfl
  · rw [if_neg e, beq_f e, Bool.and_false]; rfl
theorem count_eq {B u len : Nat} {S : Nat → Int32} {x : Int32} (h : IV B S) : countC S u len x = (if x = 0 then S 3 else if x = 1 then S 4 else if x = 2 then S 0 else if x = 3 then S 5 else if x = 4 then S 6 else if x = 5 then litEdgesS S else if x = 6 then S 7 else if x = 7 then S 8 else if x = 8 then S 1 else if x = 9 then S 2 else if x = 10 then S 9 else if x = 11 then nI u else if x = 12 then nI len else -1) := by
  obtain ⟨hI, -, -, -, -, -, ⟨x6, x7, x8, x9⟩, -⟩ := h
  unfold countC numS
  by_cases n11 : x = 11
  · subst n11; rfl
  · by_cases n12 : x = 12
    · subst n12; rfl
    · rw [if_neg n11, if_neg n12, if_neg n11, if_neg n12, x6, x7, x8, x9, lit_cnt hI]
