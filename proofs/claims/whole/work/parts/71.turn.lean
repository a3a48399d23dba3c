/-! the tree under turns: each turn finds its entry, and the tree stays one -/
theorem InvT.to {S S' : Nat → Int32} (h : InvT S) (hI : InvB S) (e3 : S' 3 = S 3) (e4 : S' 4 = S 4) (en : ∀ j, j < 6 → S' (16 + 25 * j) = S (16 + 25 * j) ∧ S' (16 + 25 * j + 3) = S (16 + 25 * j + 3)) (ee : ∀ j i, j < 6 → i < 21 → S' (16 + 25 * j + 4 + i) = S (16 + 25 * j + 4 + i)) (el : ∀ k, k < 16 → S' (166 + 13 * k) = S (166 + 13 * k)) : InvT S' := by
  obtain ⟨t1, t2, t3, t4⟩ := h
  have h3 := hI.1.2
  have h4 := hI.2.1.2
  have v3 : vN S' 3 = vN S 3 := by unfold vN; rw [e3]
  have v4 : vN S' 4 = vN S 4 := by unfold vN; rw [e4]
  have cn : ∀ j, j < 6 → cntS S' j = cntS S j := fun j hj => by
    show (S' (16 + 25 * j + 3)).toNatClampNeg = (S (16 + 25 * j + 3)).toNatClampNeg
    rw [(en j hj).2]
  have on : ∀ j, j < 6 → onS S' j = onS S j := fun j hj => by
    show (S' (16 + 25 * j)).toNatClampNeg = (S (16 + 25 * j)).toNatClampNeg
    rw [(en j hj).1]
  have at_ : ∀ k, k < 16 → vN S' (166 + 13 * k) = vN S (166 + 13 * k) := fun k hk => by unfold vN; rw [el k hk]
  have c21 : ∀ j, j < 6 → cntS S j ≤ 21 := fun j hj => (hI.2.2.2.1 j hj).2.2.2
  have en2 : ∀ j i, j < 6 → i < cntS S j → entS S' j i = entS S j i := fun j i hj hi => by
    show (S' (16 + 25 * j + 4 + i)).toNatClampNeg = (S (16 + 25 * j + 4 + i)).toNatClampNeg
    rw [ee j i hj (by have := c21 j hj; omega)]
  refine ⟨fun j hj => ⟨fun i hi => ?_, fun i i' h1 h2 => ?_⟩, fun k hk => ?_, fun c h1 h2 => ?_, fun j h1 h2 => ?_⟩
  · rw [v3] at hj
    have hj6 : j < 6 := by omega
    rw [cn j hj6] at hi
    have := (t1 j hj).1 i hi
    rw [ee j i hj6 (by have := c21 j hj6; omega), en2 j i hj6 hi, v4, v3]
    refine ⟨this.1, this.2.imp (fun z => ⟨z.1, ?_⟩) (fun z => ⟨z.1, z.2.1, ?_⟩)⟩
    · rw [at_ _ (by omega)]; exact z.2
    · rw [on _ (by omega)]; exact z.2.2
  · rw [v3] at hj
    have hj6 : j < 6 := by omega
    rw [cn j hj6] at h2
    rw [en2 j i hj6 (by omega), en2 j i' hj6 h2]
    exact (t1 j hj).2 i i' h1 h2
  · rw [v4] at hk
    have hat := (hI.2.2.2.2.2.1 k (by omega)).1.2
    obtain ⟨i, i1, i2⟩ := t2 k hk
    rw [at_ k (by omega)]
    exact ⟨i, by rw [cn _ (by omega)]; exact i1, by rw [en2 _ i (by omega) i1]; exact i2⟩
  · rw [v3] at h2
    have hon := hI.on c h1 (by omega)
    obtain ⟨i, i1, i2⟩ := t3 c h1 h2
    rw [on c (by omega)]
    exact ⟨i, by rw [cn _ (by omega)]; exact i1, by rw [en2 _ i (by omega) i1]; exact i2⟩
  · rw [v3] at h1
    rw [cn j h2]
    exact t4 j h1 h2
/-- the place from which a turn takes an entry -/
def sgP (p n i : Nat) : Nat := if i = n - 1 then p else if p ≤ i then i + 1 else i
theorem turn_ent {S : Nat → Int32} {j i : Nat} {x : Int32} (hi : i < cntS S j) (hp : posF (fun i => S (16 + 25 * j + 4 + i)) x (cntS S j) < cntS S j) : turnB S j x (16 + 25 * j + 4 + i) = S (16 + 25 * j + 4 + sgP (posF (fun i => S (16 + 25 * j + 4 + i)) x (cntS S j)) (cntS S j) i) := by
  show upd (va_cpy S S (16 + 25 * j + 4 + posF (fun i => S (16 + 25 * j + 4 + i)) x (cntS S j) + 1) (16 + 25 * j + 4 + posF (fun i => S (16 + 25 * j + 4 + i)) x (cntS S j)) (cntS S j - 1 - posF (fun i => S (16 + 25 * j + 4 + i)) x (cntS S j))) (16 + 25 * j + 4 + cntS S j - 1) (S (16 + 25 * j + 4 + posF (fun i => S (16 + 25 * j + 4 + i)) x (cntS S j))) (16 + 25 * j + 4 + i) = _
  generalize posF (fun i => S (16 + 25 * j + 4 + i)) x (cntS S j) = p at hp ⊢
  unfold sgP
  by_cases e : i = cntS S j - 1
  · rw [if_pos e, show 16 + 25 * j + 4 + i = 16 + 25 * j + 4 + cntS S j - 1 by omega, upd_s]
  · rw [if_neg e, upd_n (by omega)]
    by_cases q : p ≤ i
    · rw [if_pos q, cpy_in (by omega) (by omega)]
      congr 1; omega
    · rw [if_neg q, cpy_lo (by omega)]
theorem InvT.turn {S : Nat → Int32} {j : Nat} {x : Int32} (hT : InvT S) (hI : InvB S) (hj : j < vN S 3) (hp : posF (fun i => S (16 + 25 * j + 4 + i)) x (cntS S j) < cntS S j) : InvT (turnB S j x) := by
  have h3 := hI.1.2
  have h4 := hI.2.1.2
  have hj6 : j < 6 := by omega
  have hc := (hI.2.2.2.1 j hj6).2.2
  have hA := turnB_agr hj6 hc.2 hp
  have hent := fun i (hi : i < cntS S j) => turn_ent (x := x) hi hp
  have oth : ∀ i c, i < 6 → i ≠ j → c < 21 → turnB S j x (16 + 25 * i + 4 + c) = S (16 + 25 * i + 4 + c) := fun i c hi hij hc21 => by
    have hc3 : vN S (16 + 25 * j + 3) ≤ 21 := hc.2
    have hp3 : posF (fun i => S (16 + 25 * j + 4 + i)) x (vN S (16 + 25 * j + 3)) < vN S (16 + 25 * j + 3) := hp
    unfold turnB rotS
    rw [upd_n (by omega)]
    rcases Nat.lt_or_ge i j with z | z
    · rw [cpy_lo (by omega)]
    · rw [cpy_hi (by omega)]
  generalize posF (fun i => S (16 + 25 * j + 4 + i)) x (cntS S j) = p at hp hent
  generalize turnB S j x = S' at hA hent oth ⊢
  obtain ⟨t1, t2, t3, t4⟩ := id hT
  have v3 : vN S' 3 = vN S 3 := by unfold vN; rw [hA.lo (by omega)]
  have v4 : vN S' 4 = vN S 4 := by unfold vN; rw [hA.lo (by omega)]
  have cn : ∀ i, cntS S' i = cntS S i := fun i => by
    show (S' (16 + 25 * i + 3)).toNatClampNeg = (S (16 + 25 * i + 3)).toNatClampNeg
    rw [hA.nd (by omega)]
  have on : ∀ i, onS S' i = onS S i := fun i => by rw [hA.on]
  have at_ : ∀ k, vN S' (166 + 13 * k) = vN S (166 + 13 * k) := fun k => by unfold vN; rw [hA.hi (by omega)]
  have c21 : ∀ j, j < 6 → cntS S j ≤ 21 := fun j hj => (hI.2.2.2.1 j hj).2.2.2
  have sl : ∀ i, i < cntS S j → sgP p (cntS S j) i < cntS S j := fun i hi => by
    unfold sgP
    split
    · exact hp
    · split <;> omega
  have ej : ∀ i, i < cntS S j → entS S' j i = entS S j (sgP p (cntS S j) i) := fun i hi => by
    show (S' (16 + 25 * j + 4 + i)).toNatClampNeg = (S (16 + 25 * j + 4 + sgP p (cntS S j) i)).toNatClampNeg
    rw [hent i hi]
  have eo : ∀ i c, i < 6 → i ≠ j → c < cntS S i → entS S' i c = entS S i c := fun i c hi hij hcc => by
    show (S' (16 + 25 * i + 4 + c)).toNatClampNeg = (S (16 + 25 * i + 4 + c)).toNatClampNeg
    rw [oth i c hi hij (by have := c21 i hi; omega)]
  -- each old place is some new place
  have back : ∀ i, i < cntS S j → ∃ i', i' < cntS S j ∧ sgP p (cntS S j) i' = i := fun i hi => by
    unfold sgP
    by_cases z : i = p
    · exact ⟨cntS S j - 1, by omega, by rw [if_pos rfl]; exact z.symm⟩
    · by_cases y : i < p
      · exact ⟨i, hi, by rw [if_neg (by omega), if_neg (by omega)]⟩
      · exact ⟨i - 1, by omega, by rw [if_neg (by omega), if_pos (by omega)]; omega⟩
  have ex : ∀ i y, i < vN S 3 → (∃ c, c < cntS S i ∧ entS S i c = y) → ∃ c, c < cntS S' i ∧ entS S' i c = y := by
    rintro i y hi ⟨c, c1, c2⟩
    rw [cn i]
    by_cases e : i = j
    · subst e
      obtain ⟨c', d1, d2⟩ := back c c1
      exact ⟨c', d1, by rw [ej c' d1, d2]; exact c2⟩
    · exact ⟨c, c1, by rw [eo i c (by omega) e c1]; exact c2⟩
  refine ⟨fun i hi => ⟨fun c hcc => ?_, fun c c' h1 h2 => ?_⟩, fun k hk => ?_, fun c h1 h2 => ?_, fun i h1 h2 => ?_⟩
  · rw [v3] at hi
    rw [cn i] at hcc
    rw [v4, v3]
    by_cases e : i = j
    · subst e
      have := (t1 i hi).1 _ (sl c hcc)
      rw [hent c hcc, ej c hcc, at_, on]
      exact this
    · have := (t1 i hi).1 c hcc
      rw [oth i c (by omega) e (by have := c21 i (by omega); omega), eo i c (by omega) e hcc, at_, on]
      exact this
  · rw [v3] at hi
    rw [cn i] at h2
    by_cases e : i = j
    · subst e
      rw [ej c (by omega), ej c' h2]
      intro z
      have := ent_inj hT hi (sl c (by omega)) (sl c' h2) z
      unfold sgP at this
      split at this <;> split at this <;> (try split at this) <;> (try split at this) <;> omega
    · rw [eo i c (by omega) e (by omega), eo i c' (by omega) e h2]
      exact (t1 i hi).2 c c' h1 h2
  · rw [v4] at hk
    have hat := (hI.2.2.2.2.2.1 k (by omega)).1.2
    rw [at_]
    exact ex _ k hat (t2 k hk)
  · rw [v3] at h2
    have hon := hI.on c h1 (by omega)
    rw [on]
    exact ex _ (100 + c) (by omega) (t3 c h1 h2)
  · rw [v3] at h1
    rw [cn i]
    exact t4 i h1 h2
/-- the turns on a way, from an input that hangs there -/
theorem turn_ok : ∀ (j : Nat) (S : Nat → Int32) (x : Int32), j < vN S 3 → InvB S → InvT S → (∃ i, i < cntS S j ∧ S (16 + 25 * j + 4 + i) = x) → turnOK (wayS S j) S x ∧ InvT (turnW (wayS S j) S x) ∧ Agr S (turnW (wayS S j) S x) := by
  intro j
  induction j using Nat.strongRecOn with
  | ind j ih =>
    intro S x hj hI hT hx
    obtain ⟨i, hi, hix⟩ := hx
    have h3 := hI.1.2
    have hj6 : j < 6 := by omega
    have hc := (hI.2.2.2.1 j hj6).2.2
    have hp : posF (fun i => S (16 + 25 * j + 4 + i)) x (cntS S j) < cntS S j := Nat.lt_of_le_of_lt (posF_lt (f := fun i => S (16 + 25 * j + 4 + i)) (cntS S j) i hi hix) hi
    have hA1 : Agr S (if S (16 + 25 * j + 1) = 1 then turnB S j x else S) := by
      split
      · exact turnB_agr hj6 hc.2 hp
      · exact Agr.rf
    have hT1 : InvT (if S (16 + 25 * j + 1) = 1 then turnB S j x else S) := by
      split
      · exact hT.turn hI hj hp
      · exact hT
    have hI1 := hA1.InvB hI
    rcases Nat.eq_zero_or_pos j with e | e
    · subst e
      rw [wayS_0]
      exact ⟨⟨fun _ => hp, trivial⟩, hT1, hA1⟩
    · have ho := hI.on j e hj6
      rw [wayS_s hI e hj6]
      have v3 : vN (if S (16 + 25 * j + 1) = 1 then turnB S j x else S) 3 = vN S 3 := by unfold vN; rw [hA1.lo (by omega)]
      have hon : onS (if S (16 + 25 * j + 1) = 1 then turnB S j x else S) j = onS S j := by rw [hA1.on]
      have hw : wayS (if S (16 + 25 * j + 1) = 1 then turnB S j x else S) (onS S j) = wayS S (onS S j) := hA1.way _
      show ((S (16 + 25 * j + 1) = 1 → _) ∧ turnOK (wayS S (onS S j)) (if S (16 + 25 * j + 1) = 1 then turnB S j x else S) (nI (100 + j))) ∧ InvT (turnW (wayS S (onS S j)) (if S (16 + 25 * j + 1) = 1 then turnB S j x else S) (nI (100 + j))) ∧ Agr S (turnW (wayS S (onS S j)) (if S (16 + 25 * j + 1) = 1 then turnB S j x else S) (nI (100 + j)))
      generalize (if S (16 + 25 * j + 1) = 1 then turnB S j x else S) = S1 at hA1 hT1 hI1 v3 hon hw ⊢
      obtain ⟨c, c1, c2⟩ := hT1.2.2.1 j e (by rw [v3]; exact hj)
      rw [hon] at c1 c2
      have hval := ((hT1.1 (onS S j) (by rw [v3]; omega)).1 c c1).1
      rw [c2] at hval
      obtain ⟨g1, g2, g3⟩ := ih (onS S j) ho S1 (nI (100 + j)) (by rw [v3]; omega) hI1 hT1 ⟨c, c1, hval⟩
      rw [hw] at g1 g2 g3
      exact ⟨⟨fun _ => hp, g1⟩, g2, hA1.tr g3⟩
theorem turn_line {S : Nat → Int32} {k : Nat} (hI : InvB S) (hT : InvT S) (hk : k < vN S 4) : turnOK (wayS S (vN S (166 + 13 * k))) S (nI k) ∧ InvT (turnWS S k) ∧ Agr S (turnWS S k) := by
  have h4 := hI.2.1.2
  have hat := (hI.2.2.2.2.2.1 k (by omega)).1.2
  obtain ⟨i, i1, i2⟩ := hT.2.1 k hk
  have := ((hT.1 _ hat).1 i i1).1
  rw [i2] at this
  exact turn_ok _ S (nI k) hat hI hT ⟨i, i1, this⟩
