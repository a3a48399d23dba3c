/-! the reference's row: what its writing methods make of it -/
theorem cpy_s {f g : Nat → Int32} {sp dp j : Nat} : upd (va_cpy f g sp dp j) (dp + j) (f (sp + j)) = va_cpy f g sp dp (j + 1) := by
  funext k
  unfold upd va_cpy
  by_cases e : k = dp + j
  · subst e
    rw [if_pos rfl, if_pos ⟨by omega, by omega⟩]
    congr 1; omega
  · rw [if_neg e]
    by_cases h : dp ≤ k ∧ k < dp + j
    · rw [if_pos h, if_pos ⟨h.1, by omega⟩]
    · rw [if_neg h, if_neg (by omega)]
theorem set_comm {I : pw_I} {a b : Nat} {f h : Nat → Int32} (e : a ≠ b) : pw_set (pw_set I a f) b h = pw_set (pw_set I b h) a f := by
  funext a' k
  unfold pw_set
  by_cases e1 : a' = b
  · rw [if_pos e1, if_neg (by omega), if_pos e1]
  · rw [if_neg e1]
    by_cases e2 : a' = a
    · rw [if_pos e2, if_pos e2]
    · rw [if_neg e2, if_neg e2, if_neg e1]
theorem set_idn {I : pw_I} {a : Nat} {f : Nat → Int32} (e : I a = f) : pw_set I a f = I := by
  subst e
  exact set_id
theorem upd_upd {f : Nat → Int32} {k : Nat} {x y : Int32} : upd (upd f k x) k y = upd f k y := by
  funext j
  unfold upd
  by_cases e : j = k
  · rw [if_pos e, if_pos e]
  · rw [if_neg e, if_neg e, if_neg e]
theorem cpy_s0 {f g : Nat → Int32} {j : Nat} : upd (va_cpy f g 0 0 j) j (f j) = va_cpy f g 0 0 (j + 1) := by
  have := cpy_s (f := f) (g := g) (sp := 0) (dp := 0) (j := j)
  rwa [Nat.zero_add] at this
theorem cpy_sd {f g : Nat → Int32} {dp j : Nat} : upd (va_cpy f g 0 dp j) (dp + j) (f j) = va_cpy f g 0 dp (j + 1) := by
  have := cpy_s (f := f) (g := g) (sp := 0) (dp := dp) (j := j)
  rwa [Nat.zero_add] at this
theorem cpy_ss {f g : Nat → Int32} {sp j : Nat} : upd (va_cpy f g sp 0 j) j (f (sp + j)) = va_cpy f g sp 0 (j + 1) := by
  have := cpy_s (f := f) (g := g) (sp := sp) (dp := 0) (j := j)
  rwa [Nat.zero_add] at this
theorem nI_geL {a : Nat} (b : Nat) (h : a < b) (hb : b < 2147483648) : ¬ nI b ≤ nI a := nI_ge h hb
theorem nI_leL {a : Nat} (b : Nat) (h : b ≤ a) (hb : a < 2147483648) : nI b ≤ nI a := nI_le h hb
theorem cpy_0 {f g : Nat → Int32} {sp dp : Nat} : va_cpy f g sp dp 0 = g := by
  funext k
  unfold va_cpy
  rw [if_neg (by omega)]
theorem cpy_hi {f g : Nat → Int32} {sp dp n k : Nat} (h : dp + n ≤ k) : va_cpy f g sp dp n k = g k := by
  unfold va_cpy
  rw [if_neg (by omega)]
theorem cpy_lo {f g : Nat → Int32} {sp dp n k : Nat} (h : k < dp) : va_cpy f g sp dp n k = g k := by
  unfold va_cpy
  rw [if_neg (by omega)]
theorem cpy_in {f g : Nat → Int32} {sp dp n k : Nat} (h : dp ≤ k) (h2 : k < dp + n) : va_cpy f g sp dp n k = f (sp + (k - dp)) := by
  unfold va_cpy
  rw [if_pos ⟨h, h2⟩]
/-- one more state is kept: how many, and all of them -/
def recU (u : Nat) : Nat := if u = 4 then 3 else u
def recB (S B : Nat → Int32) (u : Nat) : Nat → Int32 := va_cpy S (if u = 4 then va_cpy B B 374 0 1122 else B) 0 (374 * recU u) 374
def recI (m : Nat) (I : pw_I) : pw_I := pw_set (pw_set I (m + 2) (recB (I (m + 1)) (I (m + 2)) (vN (I m) 8))) m (upd (I m) 8 (nI (recU (vN (I m) 8) + 1)))
def hangS (S : Nat → Int32) (j : Nat) (x : Int32) : Nat → Int32 := upd (upd S (16 + 25 * j + 4 + vN S (16 + 25 * j + 3)) x) (16 + 25 * j + 3) (nI (vN S (16 + 25 * j + 3) + 1))
/-- the entry x of a row of n from place p goes to its end; i is its place -/
def rotS (S : Nat → Int32) (p i n : Nat) : Nat → Int32 := upd (va_cpy S S (p + i + 1) (p + i) (n - 1 - i)) (p + n - 1) (S (p + i))
/-- the place of x among f 0 .. f (n - 1), n if there is none -/
def posF (f : Nat → Int32) (x : Int32) : Nat → Nat
  | 0 => 0
  | n + 1 => if posF f x n < n then posF f x n else if f n = x then n else n + 1
def turnB (S : Nat → Int32) (j : Nat) (x : Int32) : Nat → Int32 := rotS S (16 + 25 * j + 4) (posF (fun i => S (16 + 25 * j + 4 + i)) x (vN S (16 + 25 * j + 3))) (vN S (16 + 25 * j + 3))
def turnW : List Nat → (Nat → Int32) → Int32 → (Nat → Int32)
  | [], S, _ => S
  | j :: w, S, x => turnW w (if S (16 + 25 * j + 1) = 1 then turnB S j x else S) (nI (100 + j))
def turnWS (S : Nat → Int32) (k : Nat) : Nat → Int32 := turnW (wayS S (vN S (166 + 13 * k))) S (nI k)
def goTake1 (S : Nat → Int32) (k : Nat) : Nat → Int32 :=
  if S (166 + 13 * k + 2) = 0 then upd (upd (upd (upd (upd (upd (upd S (11 + vN S 10) (nI k)) 10 (nI (vN S 10 + 1))) (166 + 13 * k + 4) 1) (166 + 13 * k + 8) (S (166 + 13 * k + 8) + 1)) (166 + 13 * k + 3) 0) (166 + 13 * k + 9) (if S (166 + 13 * k + 9) < S 0 - S (166 + 13 * k + 10) then S 0 - S (166 + 13 * k + 10) else S (166 + 13 * k + 9))) 7 (S 7 + 1)
  else upd (upd (upd (upd (upd S (11 + vN S 10) (nI k)) 10 (nI (vN S 10 + 1))) (166 + 13 * k + 4) 1) (166 + 13 * k + 8) (S (166 + 13 * k + 8) + 1)) 8 (S 8 + 1)
def goTakeS (S : Nat → Int32) (k : Nat) : Nat → Int32 := turnWS (goTake1 S k) k
def goDoneS (S : Nat → Int32) : Nat → Int32 :=
  let k := vN S (11 + (vN S 10 - 1))
  let S1 := upd (upd (upd (upd (upd S 10 (S 10 - 1)) (166 + 13 * k + 4) 2) (166 + 13 * k + 11) (S 0 + S 2)) (166 + 13 * k + 12) (S 15)) 15 (S 15 + 1)
  if S 2 = 0 then upd (upd S1 (166 + 13 * k + 4) 0) 9 (S 9 + 1) else S1
def goEdgeS (S : Nat → Int32) (k : Nat) : Nat → Int32 :=
  let S1 := upd (upd S 5 (S 5 + 1)) (166 + 13 * k + 6) (S (166 + 13 * k + 6) + 1)
  if S (166 + 13 * k + 3) = 1 then upd (upd S1 6 (S 6 + 1)) (166 + 13 * k + 7) (S (166 + 13 * k + 7) + 1) else upd (upd S1 (166 + 13 * k + 3) 1) (166 + 13 * k + 10) (S 0)
theorem posF_le {f : Nat → Int32} {x : Int32} : ∀ n, posF f x n ≤ n
  | 0 => Nat.le_refl _
  | n + 1 => by
    unfold posF
    split
    · omega
    · split <;> omega
theorem posF_no {f : Nat → Int32} {x : Int32} : ∀ n i, i < posF f x n → f i ≠ x
  | 0, i, h => absurd h (Nat.not_lt_zero i)
  | n + 1, i, h => by
    have ih := posF_no (f := f) (x := x) n
    have hle := posF_le (f := f) (x := x) n
    unfold posF at h
    split at h
    · exact ih i h
    · split at h
      · exact ih i (by omega)
      · rename_i h2
        by_cases e : i = n
        · subst e; exact h2
        · exact ih i (by omega)
theorem posF_yes {f : Nat → Int32} {x : Int32} : ∀ n, posF f x n < n → f (posF f x n) = x
  | 0, h => absurd h (Nat.not_lt_zero _)
  | n + 1, h => by
    have ih := posF_yes (f := f) (x := x) n
    have hle := posF_le (f := f) (x := x) n
    unfold posF at h ⊢
    split at h
    · rename_i h1
      rw [if_pos h1]
      exact ih h1
    · rename_i h1
      rw [if_neg h1]
      split at h
      · rename_i h2
        rw [if_pos h2]; exact h2
      · omega
theorem posF_lt {f : Nat → Int32} {x : Int32} : ∀ n i, i < n → f i = x → posF f x n ≤ i
  | 0, i, h, _ => absurd h (Nat.not_lt_zero i)
  | n + 1, i, h, e => by
    have ih := posF_lt (f := f) (x := x) n
    unfold posF
    split
    · rename_i h1
      by_cases q : i = n
      · omega
      · exact ih i (by omega) e
    · rename_i h1
      by_cases q : i = n
      · subst q
        rw [if_pos e]
        omega
      · have := ih i (by omega) e
        omega
/-- alike outside the nodes' inputs -/
def Agr (S S' : Nat → Int32) : Prop := ∀ k, (∀ j, j < 6 → k < 16 + 25 * j + 4 ∨ 16 + 25 * j + 25 ≤ k) → S' k = S k
theorem Agr.rf {S : Nat → Int32} : Agr S S := fun _ _ => rfl
theorem Agr.tr {S S1 S2 : Nat → Int32} (h1 : Agr S S1) (h2 : Agr S1 S2) : Agr S S2 := fun k hk => (h2 k hk).trans (h1 k hk)
theorem Agr.lo {S S' : Nat → Int32} (h : Agr S S') {k : Nat} (hk : k < 20) : S' k = S k := h k (fun j hj => by omega)
theorem Agr.nd {S S' : Nat → Int32} (h : Agr S S') {j c : Nat} (hc : c < 4) : S' (16 + 25 * j + c) = S (16 + 25 * j + c) := h _ (fun i hi => by omega)
theorem Agr.hi {S S' : Nat → Int32} (h : Agr S S') {k : Nat} (hk : 166 ≤ k) : S' k = S k := h k (fun j hj => by omega)
theorem Agr.on {S S' : Nat → Int32} (h : Agr S S') : onS S' = onS S := by
  funext j
  unfold onS vN
  rw [show S' (16 + 25 * j) = S (16 + 25 * j) from h.nd (c := 0) (by omega)]
theorem Agr.way {S S' : Nat → Int32} (h : Agr S S') (j : Nat) : wayS S' j = wayS S j := by
  unfold wayS
  rw [h.on]
theorem Agr.InvB {S S' : Nat → Int32} (h : Agr S S') (hI : InvB S) : InvB S' := by
  obtain ⟨a1, a2, a3, a4, a5, a6, a7, a8⟩ := hI
  have n0 : ∀ j, S' (16 + 25 * j) = S (16 + 25 * j) := fun j => h.nd (c := 0) (by omega)
  unfold CLampRanksLaw_law_r1443_3e4940.InvB vN
  rw [h.lo (k := 3) (by omega), h.lo (k := 4) (by omega), h.lo (k := 10) (by omega), h.lo (k := 0) (by omega), h.lo (k := 1) (by omega), h.lo (k := 2) (by omega), h.lo (k := 16) (by omega)]
  refine ⟨a1, a2, a3, fun j hj => ?_, ⟨a5.1, fun j h1 h2 => ?_⟩, fun k hk => ?_, fun i hi => ?_, a8⟩
  · rw [h.nd (c := 1) (by omega), h.nd (c := 2) (by omega), h.nd (c := 3) (by omega)]; exact a4 j hj
  · rw [n0]; exact a5.2 j h1 h2
  · rw [h.hi (k := 166 + 13 * k) (by omega), h.hi (k := 166 + 13 * k + 1) (by omega), h.hi (k := 166 + 13 * k + 2) (by omega), h.hi (k := 166 + 13 * k + 3) (by omega), h.hi (k := 166 + 13 * k + 4) (by omega), h.hi (k := 166 + 13 * k + 5) (by omega)]; exact a6 k hk
  · have : i < 4 := Nat.lt_of_lt_of_le hi a3.2
    rw [h.lo (k := 11 + i) (by omega)]; exact a7 i hi
theorem turnB_agr {S : Nat → Int32} {j : Nat} {x : Int32} (hj : j < 6) (hn : vN S (16 + 25 * j + 3) ≤ 21) (hp : posF (fun i => S (16 + 25 * j + 4 + i)) x (vN S (16 + 25 * j + 3)) < vN S (16 + 25 * j + 3)) : Agr S (turnB S j x) := by
  intro k hk
  have := hk j hj
  unfold turnB rotS
  rw [upd_n (by omega)]
  rcases this with h | h
  · rw [cpy_lo (by omega)]
  · rw [cpy_hi (by omega)]
/-- each turn finds its entry -/
def turnOK : List Nat → (Nat → Int32) → Int32 → Prop
  | [], _, _ => True
  | j :: w, S, x => (S (16 + 25 * j + 1) = 1 → posF (fun i => S (16 + 25 * j + 4 + i)) x (vN S (16 + 25 * j + 3)) < vN S (16 + 25 * j + 3)) ∧ turnOK w (if S (16 + 25 * j + 1) = 1 then turnB S j x else S) (nI (100 + j))
