/-! the reference's row of numbers: its places, and what is read off it -/
theorem cl_nI {k : Nat} (h : k < 2147483648) : (nI k).toNatClampNeg = k := nI_clamp h
theorem in_nI {k N : Nat} (h : k < N) (hN : N < 2147483648) : vp_in (nI k) N := vp_in_nI h hN
theorem ix_l (k : Nat) : (166 + 13 * nI k : Int32) = nI (166 + 13 * k) := by
  rw [show (166 : Int32) = nI 166 from rfl, show (13 : Int32) = nI 13 from rfl, pk_mul, nI_add]
theorem ix_n (k : Nat) : (16 + 25 * nI k : Int32) = nI (16 + 25 * k) := by
  rw [show (16 : Int32) = nI 16 from rfl, show (25 : Int32) = nI 25 from rfl, pk_mul, nI_add]
theorem ix_0 (k : Nat) : (nI k + 0 : Int32) = nI (k + 0) := nI_add k 0
theorem ix_1 (k : Nat) : (nI k + 1 : Int32) = nI (k + 1) := nI_add k 1
theorem ix_2 (k : Nat) : (nI k + 2 : Int32) = nI (k + 2) := nI_add k 2
theorem ix_3 (k : Nat) : (nI k + 3 : Int32) = nI (k + 3) := nI_add k 3
theorem ix_4 (k : Nat) : (nI k + 4 : Int32) = nI (k + 4) := nI_add k 4
theorem ix_5 (k : Nat) : (nI k + 5 : Int32) = nI (k + 5) := nI_add k 5
theorem ix_6 (k : Nat) : (nI k + 6 : Int32) = nI (k + 6) := nI_add k 6
theorem ix_7 (k : Nat) : (nI k + 7 : Int32) = nI (k + 7) := nI_add k 7
theorem ix_8 (k : Nat) : (nI k + 8 : Int32) = nI (k + 8) := nI_add k 8
theorem ix_9 (k : Nat) : (nI k + 9 : Int32) = nI (k + 9) := nI_add k 9
theorem ix_10 (k : Nat) : (nI k + 10 : Int32) = nI (k + 10) := nI_add k 10
theorem ix_11 (k : Nat) : (nI k + 11 : Int32) = nI (k + 11) := nI_add k 11
theorem ix_12 (k : Nat) : (nI k + 12 : Int32) = nI (k + 12) := nI_add k 12
theorem ix_13 (k : Nat) : (nI k + 13 : Int32) = nI (k + 13) := nI_add k 13
theorem ix_14 (k : Nat) : (nI k + 14 : Int32) = nI (k + 14) := nI_add k 14
theorem ix_15 (k : Nat) : (nI k + 15 : Int32) = nI (k + 15) := nI_add k 15
theorem ix_374 (k : Nat) : (nI k + 374 : Int32) = nI (k + 374) := nI_add k 374
theorem ix_100 (k : Nat) : (nI k + 100 : Int32) = nI (k + 100) := nI_add k 100
theorem ix_20 (k : Nat) : (nI k + 20 : Int32) = nI (k + 20) := nI_add k 20
theorem jx_100 (k : Nat) : (100 + nI k : Int32) = nI (100 + k) := nI_add 100 k
theorem jx_11 (k : Nat) : (11 + nI k : Int32) = nI (11 + k) := nI_add 11 k
theorem jx_374 (k : Nat) : (374 + nI k : Int32) = nI (374 + k) := nI_add 374 k
theorem kx_374 (k : Nat) : (374 * nI k : Int32) = nI (374 * k) := pk_mul 374 k
theorem tl_0 : Int32.toInt 0 = 0 := rfl
theorem cl_0 : Int32.toNatClampNeg 0 = 0 := rfl
theorem il_0 : vp_in 0 374 = True := eq_true (in_nI (k := 0) (by decide) (by decide))
theorem tl_1 : Int32.toInt 1 = 1 := rfl
theorem cl_1 : Int32.toNatClampNeg 1 = 1 := rfl
theorem il_1 : vp_in 1 374 = True := eq_true (in_nI (k := 1) (by decide) (by decide))
theorem tl_2 : Int32.toInt 2 = 2 := rfl
theorem cl_2 : Int32.toNatClampNeg 2 = 2 := rfl
theorem il_2 : vp_in 2 374 = True := eq_true (in_nI (k := 2) (by decide) (by decide))
theorem tl_3 : Int32.toInt 3 = 3 := rfl
theorem cl_3 : Int32.toNatClampNeg 3 = 3 := rfl
theorem il_3 : vp_in 3 374 = True := eq_true (in_nI (k := 3) (by decide) (by decide))
theorem tl_4 : Int32.toInt 4 = 4 := rfl
theorem cl_4 : Int32.toNatClampNeg 4 = 4 := rfl
theorem il_4 : vp_in 4 374 = True := eq_true (in_nI (k := 4) (by decide) (by decide))
theorem tl_5 : Int32.toInt 5 = 5 := rfl
theorem cl_5 : Int32.toNatClampNeg 5 = 5 := rfl
theorem il_5 : vp_in 5 374 = True := eq_true (in_nI (k := 5) (by decide) (by decide))
theorem tl_6 : Int32.toInt 6 = 6 := rfl
theorem cl_6 : Int32.toNatClampNeg 6 = 6 := rfl
theorem il_6 : vp_in 6 374 = True := eq_true (in_nI (k := 6) (by decide) (by decide))
theorem tl_7 : Int32.toInt 7 = 7 := rfl
theorem cl_7 : Int32.toNatClampNeg 7 = 7 := rfl
theorem il_7 : vp_in 7 374 = True := eq_true (in_nI (k := 7) (by decide) (by decide))
theorem tl_8 : Int32.toInt 8 = 8 := rfl
theorem cl_8 : Int32.toNatClampNeg 8 = 8 := rfl
theorem il_8 : vp_in 8 374 = True := eq_true (in_nI (k := 8) (by decide) (by decide))
theorem tl_9 : Int32.toInt 9 = 9 := rfl
theorem cl_9 : Int32.toNatClampNeg 9 = 9 := rfl
theorem il_9 : vp_in 9 374 = True := eq_true (in_nI (k := 9) (by decide) (by decide))
theorem tl_10 : Int32.toInt 10 = 10 := rfl
theorem cl_10 : Int32.toNatClampNeg 10 = 10 := rfl
theorem il_10 : vp_in 10 374 = True := eq_true (in_nI (k := 10) (by decide) (by decide))
theorem tl_11 : Int32.toInt 11 = 11 := rfl
theorem cl_11 : Int32.toNatClampNeg 11 = 11 := rfl
theorem il_11 : vp_in 11 374 = True := eq_true (in_nI (k := 11) (by decide) (by decide))
theorem tl_12 : Int32.toInt 12 = 12 := rfl
theorem cl_12 : Int32.toNatClampNeg 12 = 12 := rfl
theorem il_12 : vp_in 12 374 = True := eq_true (in_nI (k := 12) (by decide) (by decide))
theorem tl_13 : Int32.toInt 13 = 13 := rfl
theorem cl_13 : Int32.toNatClampNeg 13 = 13 := rfl
theorem il_13 : vp_in 13 374 = True := eq_true (in_nI (k := 13) (by decide) (by decide))
theorem tl_14 : Int32.toInt 14 = 14 := rfl
theorem cl_14 : Int32.toNatClampNeg 14 = 14 := rfl
theorem il_14 : vp_in 14 374 = True := eq_true (in_nI (k := 14) (by decide) (by decide))
theorem tl_15 : Int32.toInt 15 = 15 := rfl
theorem cl_15 : Int32.toNatClampNeg 15 = 15 := rfl
theorem il_15 : vp_in 15 374 = True := eq_true (in_nI (k := 15) (by decide) (by decide))
theorem tl_16 : Int32.toInt 16 = 16 := rfl
theorem cl_16 : Int32.toNatClampNeg 16 = 16 := rfl
theorem il_16 : vp_in 16 374 = True := eq_true (in_nI (k := 16) (by decide) (by decide))
theorem tl_20 : Int32.toInt 20 = 20 := rfl
theorem tl_21 : Int32.toInt 21 = 21 := rfl
theorem tl_25 : Int32.toInt 25 = 25 := rfl
theorem tl_32 : Int32.toInt 32 = 32 := rfl
theorem tl_48 : Int32.toInt 48 = 48 := rfl
theorem tl_50 : Int32.toInt 50 = 50 := rfl
theorem tl_57 : Int32.toInt 57 = 57 := rfl
theorem tl_58 : Int32.toInt 58 = 58 := rfl
theorem tl_59 : Int32.toInt 59 = 59 := rfl
theorem tl_60 : Int32.toInt 60 = 60 := rfl
theorem tl_99 : Int32.toInt 99 = 99 := rfl
theorem tl_100 : Int32.toInt 100 = 100 := rfl
theorem tl_101 : Int32.toInt 101 = 101 := rfl
theorem tl_108 : Int32.toInt 108 = 108 := rfl
theorem tl_109 : Int32.toInt 109 = 109 := rfl
theorem tl_116 : Int32.toInt 116 = 116 := rfl
theorem tl_120 : Int32.toInt 120 = 120 := rfl
theorem tl_126 : Int32.toInt 126 = 126 := rfl
theorem tl_374 : Int32.toInt 374 = 374 := rfl
theorem tl_1122 : Int32.toInt 1122 = 1122 := rfl
theorem tl_50000 : Int32.toInt 50000 = 50000 := rfl
theorem i10 : ((1 : Int32) = 0) = False := eq_false (by decide)
theorem i01 : ((0 : Int32) = 1) = False := eq_false (by decide)
theorem tl_m1 : Int32.toInt (-1) = -1 := rfl
theorem tl_m2 : Int32.toInt (-2) = -2 := rfl
theorem tl_m3 : Int32.toInt (-3) = -3 := rfl
theorem tl_m4 : Int32.toInt (-4) = -4 := rfl
theorem nI_inj {a b : Nat} (ha : a < 2147483648) (hb : b < 2147483648) : nI a = nI b ↔ a = b := nI_eq ha hb
theorem tn6 {x : Int32} (h : 0 ≤ x.toInt ∧ x.toInt < 6) : ∃ k : Nat, x = nI k ∧ k < 6 :=
  ⟨x.toNatClampNeg, ti_nat h.1, by have := (show x.toNatClampNeg = x.toInt.toNat from rfl); omega⟩
theorem tn16 {x : Int32} (h : 0 ≤ x.toInt ∧ x.toInt < 16) : ∃ k : Nat, x = nI k ∧ k < 16 :=
  ⟨x.toNatClampNeg, ti_nat h.1, by have := (show x.toNatClampNeg = x.toInt.toNat from rfl); omega⟩
/-- the numbers as naturals -/
abbrev vN (S : Nat → Int32) (k : Nat) : Nat := (S k).toNatClampNeg
def bit01 (x : Int32) : Prop := x = 0 ∨ x = 1
/-- the fixed part of what always holds of the row: numbers in their ranges, the tree's upward way -/
def InvB (S : Nat → Int32) : Prop :=
  (S 3 = nI (vN S 3) ∧ 1 ≤ vN S 3 ∧ vN S 3 ≤ 6) ∧ (S 4 = nI (vN S 4) ∧ vN S 4 ≤ 16) ∧ (S 10 = nI (vN S 10) ∧ vN S 10 ≤ 4) ∧
  (∀ j, j < 6 → bit01 (S (16 + 25 * j + 1)) ∧ bit01 (S (16 + 25 * j + 2)) ∧ S (16 + 25 * j + 3) = nI (vN S (16 + 25 * j + 3)) ∧ vN S (16 + 25 * j + 3) ≤ 21) ∧
  (S 16 = -1 ∧ ∀ j, 1 ≤ j → j < 6 → S (16 + 25 * j) = nI (vN S (16 + 25 * j)) ∧ vN S (16 + 25 * j) < j) ∧
  (∀ k, k < 16 → (S (166 + 13 * k) = nI (vN S (166 + 13 * k)) ∧ vN S (166 + 13 * k) < vN S 3) ∧ (0 ≤ (S (166 + 13 * k + 1)).toInt ∧ (S (166 + 13 * k + 1)).toInt ≤ 7) ∧ bit01 (S (166 + 13 * k + 2)) ∧ bit01 (S (166 + 13 * k + 3)) ∧
    (S (166 + 13 * k + 4) = 0 ∨ S (166 + 13 * k + 4) = 1 ∨ S (166 + 13 * k + 4) = 2) ∧ bit01 (S (166 + 13 * k + 5))) ∧
  (∀ i, i < vN S 10 → S (11 + i) = nI (vN S (11 + i)) ∧ vN S (11 + i) < vN S 4) ∧
  ((0 ≤ (S 0).toInt ∧ (S 0).toInt ≤ 50000) ∧ (0 ≤ (S 1).toInt ∧ (S 1).toInt ≤ 8) ∧ (0 ≤ (S 2).toInt ∧ (S 2).toInt ≤ 50))
/-- the nodes from j upward -/
def wayL (on : Nat → Nat) : Nat → Nat → List Nat
  | 0, _ => []
  | f + 1, j => j :: (if j = 0 then [] else wayL on f (on j))
def onS (S : Nat → Int32) (j : Nat) : Nat := vN S (16 + 25 * j)
def wayS (S : Nat → Int32) (j : Nat) : List Nat := wayL (onS S) (j + 1) j
theorem wayL_fuel {on : Nat → Nat} (h : ∀ j, 1 ≤ j → j < 6 → on j < j) : ∀ (f f' j : Nat), j < 6 → j < f → j < f' → wayL on f j = wayL on f' j
  | 0, _, _, _, h1, _ => absurd h1 (by omega)
  | _ + 1, 0, _, _, _, h2 => absurd h2 (by omega)
  | f + 1, f' + 1, j, hj, h1, h2 => by
    unfold wayL
    by_cases e : j = 0
    · rw [if_pos e, if_pos e]
    · rw [if_neg e, if_neg e]
      have := h j (by omega) hj
      rw [wayL_fuel h f f' (on j) (by omega) (by omega) (by omega)]
theorem InvB.on {S : Nat → Int32} (h : InvB S) : ∀ j, 1 ≤ j → j < 6 → onS S j < j := fun j h1 h2 => (h.2.2.2.2.1.2 j h1 h2).2
theorem wayS_0 (S : Nat → Int32) : wayS S 0 = [0] := rfl
theorem wayS_s {S : Nat → Int32} (h : InvB S) {j : Nat} (h1 : 1 ≤ j) (h2 : j < 6) : wayS S j = j :: wayS S (onS S j) := by
  have := h.on j h1 h2
  show wayL _ (j + 1) j = _
  unfold wayL
  rw [if_neg (by omega), wayL_fuel h.on j (onS S j + 1) (onS S j) (by omega) (by omega) (by omega)]
  rfl
def hidW (S : Nat → Int32) (w : List Nat) : Bool := w.any (fun j => S (16 + 25 * j + 2) == 1)
/-- line k is masked, itself or by a node on its way -/
def hidS (S : Nat → Int32) (k : Nat) : Bool := (S (166 + 13 * k + 5) == 1) || hidW S (wayS S (vN S (166 + 13 * k)))
/-- the rank that a line must be above -/
def leastS (S : Nat → Int32) : Int32 := if S 10 = 0 then -1 else S (166 + 13 * vN S (11 + (vN S 10 - 1)) + 1)
def readyS (S : Nat → Int32) (k : Nat) : Bool := (S (166 + 13 * k + 3) == 1) && ((S (166 + 13 * k + 4) == 0) && (!hidS S k && (decide (S 1 ≤ S (166 + 13 * k + 1)) && decide (leastS S < S (166 + 13 * k + 1)))))
/-- a sum, a set, along the first k numbers -/
def sumF (f : Nat → Int32) : Nat → Int32
  | 0 => 0
  | k + 1 => sumF f k + f k
def setF (p : Nat → Bool) : Nat → Int32
  | 0 => 0
  | k + 1 => setF p k ||| (if p k = true then (1 : Int32) <<< (nI k &&& 31) else 0)
def bitsS (x : Int32) : Int32 := sumF (fun k => (x >>> (nI k &&& 31)) &&& 1) 16
def onWay (S : Nat → Int32) (j : Nat) (k : Nat) : Bool := (wayS S (vN S (166 + 13 * k))).contains j
def linesByS (S : Nat → Int32) (j : Nat) : Int32 := setF (onWay S j) (vN S 4)
/-- line k is of the kind what -/
def isOfS (S : Nat → Int32) (what : Int32) (k : Nat) : Bool :=
  if what = 0 then S (166 + 13 * k + 3) == 1 else if what = 1 then readyS S k else if what = 2 then S (166 + 13 * k + 4) == 1 else if what = 3 then S (166 + 13 * k + 4) == 2 else if what = 4 then S (166 + 13 * k + 5) == 1 else hidS S k
def linesOfS (S : Nat → Int32) (what : Int32) : Int32 := setF (isOfS S what) (vN S 4)
def litEdgesS (S : Nat → Int32) : Int32 := sumF (fun k => if S (166 + 13 * k + 2) = 0 then S (166 + 13 * k + 3) else 0) (vN S 4)
/-- a whole row put in the place of another -/
def pw_set (I : pw_I) (a : Nat) (f : Nat → Int32) : pw_I := fun a' k => if a' = a then f k else I a' k
theorem set_s {I : pw_I} {a : Nat} {f : Nat → Int32} : pw_set I a f a = f := by
  funext k
  simp [pw_set]
theorem set_n {I : pw_I} {a a' : Nat} {f : Nat → Int32} (h : a' ≠ a) : pw_set I a f a' = I a' := by
  funext k
  simp [pw_set, h]
theorem set_set {I : pw_I} {a : Nat} {f h : Nat → Int32} : pw_set (pw_set I a f) a h = pw_set I a h := by
  funext a' k
  by_cases e : a' = a <;> simp [pw_set, e]
theorem up_set {I : pw_I} {a k : Nat} {v : Int32} : pw_up I a k v = pw_set I a (upd (I a) k v) := by
  funext a' k'
  by_cases e : a' = a
  · subst e
    by_cases e2 : k' = k <;> simp [pw_set, pw_up, upd, e2]
  · simp [pw_set, pw_up, e]
theorem set_id {I : pw_I} {a : Nat} : pw_set I a (I a) = I := by
  funext a' k
  by_cases e : a' = a
  · subst e; simp [pw_set]
  · simp [pw_set, e]
theorem upd_s {f : Nat → Int32} {k : Nat} {x : Int32} : upd f k x k = x := by simp [upd]
theorem upd_n {f : Nat → Int32} {k j : Nat} {x : Int32} (h : j ≠ k) : upd f k x j = f j := by simp [upd, h]
/-- the reference's objects -/
def pw_mod (sh : pw_Sh) (P : pw_P) (m : Nat) : Prop := sh m = (7, 0) ∧ (P m 0 = some (m + 1) ∧ sh (m + 1) = (8, 374)) ∧ (P m 1 = some (m + 2) ∧ sh (m + 2) = (8, 1496)) ∧ (P m 2 = some (m + 3) ∧ sh (m + 3) = (8, 374)) ∧
  (P m 3 = some (m + 4) ∧ sh (m + 4) = (8, 16)) ∧ (P m 4 = some (m + 5) ∧ sh (m + 5) = (8, 6)) ∧ (P m 5 = some (m + 6) ∧ sh (m + 6) = (8, 6)) ∧ P m 6 = some (m + 7) ∧ sh (m + 7) = (8, 60)

