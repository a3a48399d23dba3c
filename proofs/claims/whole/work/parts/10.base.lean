/-! the way into a body: its table, its callees (cc), where to stop (st) -/
def pw_no : pw_C := fun _ _ _ _ => False
abbrev pw_Wp : Type := List Value → pw_I → (Option Value → pw_I → Prop) → Prop
def cc : List (Nat × pw_Wp) → pw_C
  | [], _, _, _, _ => False
  | (k, w) :: r, a, Ag, I, K => bif k == a then w Ag I K else cc r a Ag I K
theorem cc_s {k a : Nat} {w : pw_Wp} {r : List (Nat × pw_Wp)} {Ag : List Value} {I : pw_I} {K : Option Value → pw_I → Prop} : cc ((k, w) :: r) a Ag I K = (bif k == a then w Ag I K else cc r a Ag I K) := rfl
theorem cc_0 {a : Nat} {Ag : List Value} {I : pw_I} {K : Option Value → pw_I → Prop} : cc [] a Ag I K = False := rfl
section CCO
variable {g : pw_g} {n : Nat} {sh : pw_Sh} {P : pw_P}
theorem cc_n : ∀ a Ag I K, cc [] a Ag I K → pw_cal g n sh P pw_Ms a Ag I K := fun _ _ _ _ h => h.elim
theorem cc_c {k : Nat} {w : pw_Wp} {r : List (Nat × pw_Wp)} (h1 : ∀ Ag I K, w Ag I K → pw_cal g n sh P pw_Ms k Ag I K) (h2 : ∀ a Ag I K, cc r a Ag I K → pw_cal g n sh P pw_Ms a Ag I K) : ∀ a Ag I K, cc ((k, w) :: r) a Ag I K → pw_cal g n sh P pw_Ms a Ag I K := by
  intro a Ag I K h
  rw [cc_s] at h
  cases e : k == a with
  | true =>
    rw [e] at h
    have : k = a := by simpa using e
    subst this
    exact h1 _ _ _ h
  | false => rw [e] at h; exact h2 _ _ _ _ h
end CCO
theorem pw_go {y : pm_I} {tb : Nat → pm_E} (ok : ∀ pc, (tb pc).1 = .nop ∨ pm_ok y pw_Ms pc (tb pc)) {d mc ms base n uc us pc : Nat} {X : pw_X} {sh : pw_Sh} {P : pw_P} {I : pw_I} {L : List (Option Value)} {st : List Value} {Q : pw_Q} (C : pw_C) (hu : uc ≤ mc ∧ us ≤ ms)
    (hC : ∀ a Ag I K, C a Ag I K → pw_cal (y, d, mc, ms, X, base) n sh P pw_Ms a Ag I K) (stop : Nat → Bool) (k : Nat) (h : vc (y, d, mc, ms, X, base) n sh P uc us tb C stop Q k pc L st I) : PW (y, d, mc, ms, X, base) n sh P I uc us pc L st Q :=
  pw_vcs (g := (y, d, mc, ms, X, base)) (Ms := pw_Ms) (C := C) (tb := tb) hu hC ok stop k h
def st0 : Nat → Bool := fun _ => false
theorem st0_s {k : Nat} : st0 k = false := rfl
def st1 (a : Nat) : Nat → Bool := fun k => k == a
theorem st1_s {a k : Nat} : st1 a k = (k == a) := rfl
def st2 (a b : Nat) : Nat → Bool := fun k => k == a || k == b
theorem st2_s {a b k : Nat} : st2 a b k = (k == a || k == b) := rfl
def st3 (a b c : Nat) : Nat → Bool := fun k => k == a || (k == b || k == c)
theorem st3_s {a b c k : Nat} : st3 a b c k = (k == a || (k == b || k == c)) := rfl
/-- a contract of a method that makes nothing and moves no reference -/
def pw_ok (y : pm_I) (d base n : Nat) (sh : pw_Sh) (P : pw_P) (Ag : List Value) (I : pw_I) (K : Option Value → pw_I → Prop) : Prop := PM y d 0 0 base Ag n sh P I (fun v n' sh' P' I' => n' = n ∧ sh' = sh ∧ P' = P ∧ K v I')
def pw_QK (n : Nat) (sh : pw_Sh) (P : pw_P) (K : Option Value → pw_I → Prop) : pw_Q := fun v n' sh' P' I' => n' = n ∧ sh' = sh ∧ P' = P ∧ K v I'
theorem pw_QK_s {n : Nat} {sh : pw_Sh} {P : pw_P} {K : Option Value → pw_I → Prop} {v : Option Value} {I : pw_I} : pw_QK n sh P K v n sh P I = K v I := by
  unfold pw_QK
  simp
theorem c_r {a : Nat} : ∀ v ∈ [Value.ref a], v.category = 1 := by
  intro v hv
  simp only [List.mem_cons, List.not_mem_nil, or_false] at hv
  subst hv; rfl
theorem c_i {x : Int32} : ∀ v ∈ [Value.int x], v.category = 1 := by
  intro v hv
  simp only [List.mem_cons, List.not_mem_nil, or_false] at hv
  subst hv; rfl
theorem c_rr {a b : Nat} : ∀ v ∈ [Value.ref a, .ref b], v.category = 1 := by
  intro v hv
  simp only [List.mem_cons, List.not_mem_nil, or_false] at hv
  rcases hv with rfl | rfl <;> rfl
theorem c_ri {a : Nat} {x : Int32} : ∀ v ∈ [Value.ref a, .int x], v.category = 1 := by
  intro v hv
  simp only [List.mem_cons, List.not_mem_nil, or_false] at hv
  rcases hv with rfl | rfl <;> rfl
theorem c_rii {a : Nat} {x y : Int32} : ∀ v ∈ [Value.ref a, .int x, .int y], v.category = 1 := by
  intro v hv
  simp only [List.mem_cons, List.not_mem_nil, or_false] at hv
  rcases hv with rfl | rfl | rfl <;> rfl
theorem c_riii {a : Nat} {x y z : Int32} : ∀ v ∈ [Value.ref a, .int x, .int y, .int z], v.category = 1 := by
  intro v hv
  simp only [List.mem_cons, List.not_mem_nil, or_false] at hv
  rcases hv with rfl | rfl | rfl | rfl <;> rfl
theorem c_ii {x y : Int32} : ∀ v ∈ [Value.int x, .int y], v.category = 1 := by
  intro v hv
  simp only [List.mem_cons, List.not_mem_nil, or_false] at hv
  rcases hv with rfl | rfl <;> rfl
theorem c_iii {x y z : Int32} : ∀ v ∈ [Value.int x, .int y, .int z], v.category = 1 := by
  intro v hv
  simp only [List.mem_cons, List.not_mem_nil, or_false] at hv
  rcases hv with rfl | rfl | rfl <;> rfl
theorem pl_X0 : plainName RX0 = true := by decide +kernel
theorem pl_X1 : plainName RX1 = true := by decide +kernel
theorem pl_X2 : plainName RX2 = true := by decide +kernel
theorem pl_X3 : plainName RX3 = true := by decide +kernel
theorem pl_X4 : plainName RX4 = true := by decide +kernel
theorem pl_X5 : plainName RX5 = true := by decide +kernel
theorem pl_X6 : plainName RX6 = true := by decide +kernel
theorem pl_X7 : plainName RX7 = true := by decide +kernel
theorem pl_J6 : plainName RJ6 = true := by decide +kernel
/-- from a body to its contract -/
theorem pw_bd {y : pm_I} {d base n : Nat} {sh : pw_Sh} {P : pw_P} {Ag : List Value} {I : pw_I} {K : Option Value → pw_I → Prop} (L : List (Option Value)) (hy : plainName y.1.cls = true) (hc : ∀ v ∈ Ag, v.category = 1) (hn : Nat.ble Ag.length y.2.2.1 = true) (hL : pl_in Ag y.2.2.1 = L)
    (h : PW (y, d, 0, 0, none, base) n sh P I 0 0 0 L [] (pw_QK n sh P K)) : pw_ok y d base n sh P Ag I K := by
  subst hL
  exact PM.of_PW hy hc (Nat.le_of_ble_eq_true hn) h
/-- numbers -/
theorem ti_lt (a b : Int32) : a < b ↔ a.toInt < b.toInt := Int32.lt_iff_toInt_lt
theorem ti_le (a b : Int32) : a ≤ b ↔ a.toInt ≤ b.toInt := Int32.le_iff_toInt_le
theorem ti_eq (a b : Int32) : a = b ↔ a.toInt = b.toInt := Int32.toInt_inj.symm
theorem ti_in {i : Int32} {n : Nat} (h0 : 0 ≤ i.toInt) (h1 : i.toInt < n) : vp_in i n := vp_in_iff.mpr ⟨h0, h1⟩
theorem ti_nI {n : Nat} (h : n < 2147483648) : (nI n).toInt = (n : Int) := nI_toInt h
theorem ti_nat {x : Int32} (h : 0 ≤ x.toInt) : x = nI x.toNatClampNeg := by
  have h1 : x.toNatClampNeg = x.toInt.toNat := rfl
  have h2 := int_range x
  refine Int32.toInt_inj.mp ?_
  rw [nI_toInt (by omega)]
  omega
theorem ti_add {x y : Int32} (h1 : -2147483648 ≤ x.toInt + y.toInt) (h2 : x.toInt + y.toInt < 2147483648) : (x + y).toInt = x.toInt + y.toInt := by
  rw [Int32.toInt_add]
  exact Int.bmod_eq_of_le (by omega) (by omega)
theorem ti_sub {x y : Int32} (h1 : -2147483648 ≤ x.toInt - y.toInt) (h2 : x.toInt - y.toInt < 2147483648) : (x - y).toInt = x.toInt - y.toInt := by
  rw [Int32.toInt_sub]
  exact Int.bmod_eq_of_le (by omega) (by omega)
theorem ti_mul {x y : Int32} (h1 : -2147483648 ≤ x.toInt * y.toInt) (h2 : x.toInt * y.toInt < 2147483648) : (x * y).toInt = x.toInt * y.toInt := by
  rw [Int32.toInt_mul]
  exact Int.bmod_eq_of_le (by omega) (by omega)
