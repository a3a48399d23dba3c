/-! a body's steps as a condition (sx), computed along the code (vc): what is left is plain mathematics of I -/
abbrev pm_E : Type := Instr × Nat × Nat × Nat × Nat × Int32 × List (Int32 × Nat)
abbrev pw_C : Type := Nat → List Value → pw_I → (Option Value → pw_I → Prop) → Prop
abbrev pw_Kt : Type := Nat → List (Option Value) → List Value → pw_I → Prop
def s_i (st : List Value) (k : Int32 → List Value → Prop) : Prop := match st with
  | .int x :: r => k x r
  | _ => False
def s_r (st : List Value) (k : Nat → List Value → Prop) : Prop := match st with
  | .ref x :: r => k x r
  | _ => False
def s_v (st : List Value) (k : Value → List Value → Prop) : Prop := match st with
  | .int x :: r => k (.int x) r
  | .ref x :: r => k (.ref x) r
  | _ => False
def s_l : List (Option Value) → Nat → (Value → Prop) → Prop
  | some v :: _, 0, k => k v
  | _ :: L, j + 1, k => s_l L j k
  | _, _, _ => False
def s_a : Nat → List Value → List Value → (List Value → List Value → Prop) → Prop
  | 0, st, acc, k => k acc st
  | n + 1, v :: st, acc, k => s_a n st (v :: acc) k
  | _, _, _, _ => False
def s_m : Nat → List Value → Prop
  | _, [] => True
  | n + 1, .int _ :: r => s_m n r
  | n + 1, .ref _ :: r => s_m n r
  | _, _ => False
def s_w : List (Int32 × Nat) → Int32 → Nat → (Nat → Prop) → Prop
  | [], _, d, k => k d
  | (c, t) :: r, x, d, k => (x = c → k t) ∧ (¬ x = c → s_w r x d k)
def s_c (c : ClassFile.Cond) (x y : Int32) : Prop := match c with
  | .eq => x = y
  | .ne => ¬ x = y
  | .lt => x < y
  | .ge => y ≤ x
  | .gt => y < x
  | .le => x ≤ y
def s_p (c : ClassFile.Cond) (x y : Int32) (A B : Prop) : Prop := match c with
  | .eq => (x = y → A) ∧ (¬ x = y → B)
  | .ne => (¬ x = y → A) ∧ (x = y → B)
  | .lt => (x < y → A) ∧ (¬ x < y → B)
  | .ge => (y ≤ x → A) ∧ (¬ y ≤ x → B)
  | .gt => (y < x → A) ∧ (¬ y < x → B)
  | .le => (x ≤ y → A) ∧ (¬ x ≤ y → B)
/-- one instruction: i, the next place, three numbers, a whole number, a switch's table -/
def sx (ret : Option FieldType) (n : Nat) (sh : pw_Sh) (P : pw_P) (C : pw_C) (Q : pw_Q) (i : Instr) (nx a b c : Nat) (v : Int32) (sw : List (Int32 × Nat)) (L : List (Option Value)) (st : List Value) (I : pw_I) (K : pw_Kt) : Prop := match i with
  | .iconst _ => K nx L (.int v :: st) I
  | .bipush _ => K nx L (.int v :: st) I
  | .sipush _ => K nx L (.int v :: st) I
  | .ldc _ => K nx L (.int v :: st) I
  | .ldc_w _ => K nx L (.int v :: st) I
  | .iload_n j => s_l L j.val fun w => s_i [w] fun x _ => K nx L (.int x :: st) I
  | .iload j => s_l L j fun w => s_i [w] fun x _ => K nx L (.int x :: st) I
  | .aload_n j => s_l L j.val fun w => s_r [w] fun x _ => K nx L (.ref x :: st) I
  | .aload j => s_l L j fun w => s_r [w] fun x _ => K nx L (.ref x :: st) I
  | .istore_n j => s_i st fun x r => j.val < L.length ∧ K nx (L.set j.val (some (.int x))) r I
  | .istore j => s_i st fun x r => j < L.length ∧ K nx (L.set j (some (.int x))) r I
  | .astore_n j => s_r st fun x r => j.val < L.length ∧ K nx (L.set j.val (some (.ref x))) r I
  | .astore j => s_r st fun x r => j < L.length ∧ K nx (L.set j (some (.ref x))) r I
  | .iinc j _ => s_l L j fun w => s_i [w] fun x _ => K nx (L.set j (some (.int (x + v)))) st I
  | .iadd => s_i st fun y r => s_i r fun x r => K nx L (.int (x + y) :: r) I
  | .isub => s_i st fun y r => s_i r fun x r => K nx L (.int (x - y) :: r) I
  | .imul => s_i st fun y r => s_i r fun x r => K nx L (.int (x * y) :: r) I
  | .iand => s_i st fun y r => s_i r fun x r => K nx L (.int (x &&& y) :: r) I
  | .ior => s_i st fun y r => s_i r fun x r => K nx L (.int (x ||| y) :: r) I
  | .ixor => s_i st fun y r => s_i r fun x r => K nx L (.int (x ^^^ y) :: r) I
  | .idiv => s_i st fun y r => s_i r fun x r => ¬ y = 0 ∧ K nx L (.int (x / y) :: r) I
  | .irem => s_i st fun y r => s_i r fun x r => ¬ y = 0 ∧ K nx L (.int (x - x / y * y) :: r) I
  | .ishl => s_i st fun y r => s_i r fun x r => K nx L (.int (x <<< (y &&& 31)) :: r) I
  | .ishr => s_i st fun y r => s_i r fun x r => K nx L (.int (x >>> (y &&& 31)) :: r) I
  | .iushr => s_i st fun y r => s_i r fun x r => K nx L (.int (x.toUInt32 >>> (y.toUInt32 &&& Int32.toUInt32 31)).toInt32 :: r) I
  | .i2c => s_i st fun x r => K nx L (.int (x.toUInt32 % 65536).toInt32 :: r) I
  | .dup => s_v st fun x r => K nx L (x :: x :: r) I
  | .dup2 => s_v st fun x r => s_v r fun y r => K nx L (x :: y :: x :: y :: r) I
  | .pop => s_v st fun _ r => K nx L r I
  | .goto _ => K a L st I
  | .ifCond cd _ => s_i st fun x r => s_p cd x 0 (K a L r I) (K nx L r I)
  | .if_icmp cd _ => s_i st fun y r => s_i r fun x r => s_p cd x y (K a L r I) (K nx L r I)
  | .tableswitch _ _ _ _ => s_i st fun x r => s_w sw x a (fun t => K t L r I)
  | .lookupswitch _ _ => s_i st fun x r => s_w sw x a (fun t => K t L r I)
  | .getfield _ => s_r st fun o r => (sh o).1 = a ∧ K nx L ((match sw with
    | [] => .int (I o b)
    | _ => va_rf (P o b)) :: r) I
  | .putfield _ => s_i st fun x r => s_r r fun o r => (sh o).1 = a ∧ (match sw with
    | [] => True
    | _ => x = 0 ∨ x = 1) ∧ K nx L r (pw_up I o b x)
  | .iaload => s_i st fun j r => s_r r fun o r => (sh o).1 = 8 ∧ vp_in j (sh o).2 ∧ K nx L (.int (I o j.toNatClampNeg) :: r) I
  | .caload => s_i st fun j r => s_r r fun o r => (sh o).1 = 9 ∧ vp_in j (sh o).2 ∧ K nx L (.int (I o j.toNatClampNeg) :: r) I
  | .aaload => s_i st fun j r => s_r r fun o r => (10 ≤ (sh o).1 ∧ (sh o).1 ≤ 12) ∧ vp_in j (sh o).2 ∧ K nx L (va_rf (P o j.toNatClampNeg) :: r) I
  | .iastore => s_i st fun x r => s_i r fun j r => s_r r fun o r => (sh o).1 = 8 ∧ vp_in j (sh o).2 ∧ K nx L r (pw_up I o j.toNatClampNeg x)
  | .castore => s_i st fun x r => s_i r fun j r => s_r r fun o r => (sh o).1 = 9 ∧ vp_in j (sh o).2 ∧ pw_nok (some .char) x ∧ K nx L r (pw_up I o j.toNatClampNeg x)
  | .arraylength => s_r st fun o r => (8 ≤ (sh o).1 ∧ (sh o).1 ≤ 12) ∧ K nx L (.int (nI (sh o).2) :: r) I
  | .invokestatic _ => s_a b st [] fun Ag r => s_m 8 r ∧ C a Ag I (fun w I' => K nx L (w.toList ++ r) I')
  | .invokevirtual _ => s_a b st [] fun Ag r => s_r r fun o r => (sh o).1 = c ∧ s_m 8 r ∧ C a (.ref o :: Ag) I (fun w I' => K nx L (w.toList ++ r) I')
  | .ireturn => s_i st fun x r => r = [] ∧ pw_nok ret x ∧ Q (some (.int x)) n sh P I
  | .return_ => st = [] ∧ ret = none ∧ Q none n sh P I
  | _ => False
/-- the table of a method's code: each entry as the bytes have it -/
def pm_tgt (pc : Nat) (off : Int) (t : Nat) : Bool := decide ((pc : Int) + off = (t : Int))
/-- how a call is linked -/
def pm_ln (own : String) (idx : Nat) (y : pm_I) (nargs : Nat) : Prop :=
  Cond.code y.1 y.2.1 y.2.2.1 y.2.2.2 ∈ pw_T ∧ Cond.initialized y.1.cls ∈ pw_T ∧ (Cond.methodLink own idx y.1 ∈ pw_T ∨ ∃ host, Cond.methodLinkNest own idx y.1 host ∈ pw_N) ∧
  (y.1.cls ≠ "java/lang/invoke/MethodHandle" ∧ y.1.cls ≠ "java/lang/invoke/VarHandle" ∧ (parseMethodDescriptor y.1.desc).map (fun d => d.parameters.length) = some nargs) ∧ y.2.2.1 ≤ 11
def pm_lnS (own : String) (idx : Nat) (y : pm_I) (nargs : Nat) : Prop := pm_ln own idx y nargs ∧ Cond.static y.1 ∈ pw_T
def pm_lnV (own : String) (idx : Nat) (y : pm_I) (nargs c : Nat) : Prop := pm_ln own idx y nargs ∧ Cond.instanceMethod y.1 ∈ pw_T ∧ Cond.selects y.1.cls y.1 y.1 ∈ pw_T ∧ c < 8 ∧ pw_R c = y.1.cls ∧ pw_clok c
/-- the field (class ci, slot k) of an entry -/
def pm_ok (y : pm_I) (Ms : Nat → pm_I) (pc : Nat) (q : pm_E) : Prop := match q with
  | (i, nx, a, b, c, v, sw) => decode y.2.1 pc = .ok (i, nx - pc) ∧ pc < nx ∧ match i with
    | .iconst x => nx = pc + 1 ∧ Int32.ofInt x = v
    | .bipush x => nx = pc + 2 ∧ (Int8.ofInt x).toInt32 = v
    | .sipush x => nx = pc + 3 ∧ (Int16.ofInt x).toInt32 = v
    | .ldc x => nx = pc + 2 ∧ Cond.constant y.1.cls x v ∈ pw_T
    | .ldc_w x => nx = pc + 3 ∧ Cond.constant y.1.cls x v ∈ pw_T
    | .iload _ => nx = pc + 2
    | .aload _ => nx = pc + 2
    | .istore _ => nx = pc + 2
    | .astore _ => nx = pc + 2
    | .iinc _ x => nx = pc + 3 ∧ Int32.ofInt x = v
    | .goto off => nx = pc + 3 ∧ (pc : Int) + off = (a : Int)
    | .ifCond _ off => nx = pc + 3 ∧ (pc : Int) + off = (a : Int)
    | .if_icmp _ off => nx = pc + 3 ∧ (pc : Int) + off = (a : Int)
    | .tableswitch d lo hi offs => (pc : Int) + d = (a : Int) ∧ -2147483648 ≤ lo ∧ hi < 2147483648 ∧ offs.size = (hi + 1 - lo).toNat ∧ sw = (List.range offs.size).map (fun (j : Nat) => (Int32.ofInt (lo + (j : Int)), ((pc : Int) + offs.getD j 0).toNat)) ∧ (List.range offs.size).all (fun (j : Nat) => decide (0 ≤ (pc : Int) + offs.getD j 0)) = true
    | .lookupswitch d ps => (pc : Int) + d = (a : Int) ∧ (ps.toList.zip (ps.toList.drop 1)).all (fun (a, next) => a.1 < next.1) = true ∧ sw = ps.toList.map (fun q => (Int32.ofInt q.1, ((pc : Int) + q.2).toNat)) ∧ ps.toList.all (fun q => decide (0 ≤ (pc : Int) + q.2 ∧ -2147483648 ≤ q.1 ∧ q.1 < 2147483648)) = true
    | .getfield x => nx = pc + 3 ∧ a < 8 ∧ pw_clok a ∧ b < pw_nf a ∧ pw_fl y.1.cls x a b ∧ pw_rf a b = (match sw with
      | [] => false
      | _ => true)
    | .putfield x => nx = pc + 3 ∧ a < 8 ∧ pw_clok a ∧ b < pw_nf a ∧ pw_fl y.1.cls x a b ∧ pw_rf a b = false ∧ (pw_tb a b).2.2.2 = false ∧ (match sw with
      | [] => pw_ty a b = .int
      | _ => pw_ty a b = .boolean)
    | .invokestatic x => nx = pc + 3 ∧ pm_lnS y.1.cls x (Ms a) b
    | .invokevirtual x => nx = pc + 3 ∧ pm_lnV y.1.cls x (Ms a) b c
    | _ => nx = pc + 1
theorem s_p_of {c : ClassFile.Cond} {x y : Int32} {A B : Prop} (h : s_p c x y A B) : (s_c c x y → A) ∧ (¬ s_c c x y → B) := by
  cases c <;> first | exact h | exact ⟨h.1, fun q => h.2 (Classical.not_not.mp q)⟩
theorem s_w_of {sw : List (Int32 × Nat)} {x : Int32} {d : Nat} {k : Nat → Prop} (h : s_w sw x d k) : (∃ t, (x, t) ∈ sw ∧ k t ∧ ∃ i : Nat, sw[i]? = some (x, t) ∧ ∀ j : Nat, j < i → ∀ q, sw[j]? = some q → q.1 ≠ x) ∨ ((∀ q ∈ sw, q.1 ≠ x) ∧ k d) := by
  induction sw with
  | nil => exact Or.inr ⟨fun q hq => (by cases hq), h⟩
  | cons q r ih =>
    obtain ⟨c, t⟩ := q
    by_cases e : x = c
    · subst e
      exact Or.inl ⟨t, List.mem_cons_self, h.1 rfl, 0, rfl, fun j hj => absurd hj (Nat.not_lt_zero j)⟩
    · rcases ih (h.2 e) with ⟨t', h1, h2, i, h3, h4⟩ | ⟨h1, h2⟩
      · refine Or.inl ⟨t', List.mem_cons_of_mem _ h1, h2, i + 1, by rw [List.getElem?_cons_succ]; exact h3, fun j hj q hq => ?_⟩
        cases j with
        | zero => rw [List.getElem?_cons_zero] at hq; cases hq; exact fun z => e z.symm
        | succ j => rw [List.getElem?_cons_succ] at hq; exact h4 j (by omega) q hq
      · refine Or.inr ⟨fun q hq => ?_, h2⟩
        rcases List.mem_cons.mp hq with rfl | hq
        · exact fun z => e z.symm
        · exact h1 q hq
theorem s_l_of {L : List (Option Value)} {j : Nat} {k : Value → Prop} (h : s_l L j k) : ∃ v, L[j]? = some (some v) ∧ k v := by
  induction L generalizing j with
  | nil => cases j <;> exact h.elim
  | cons o L ih =>
    cases j with
    | zero =>
      cases o with
      | none => exact h.elim
      | some v => exact ⟨v, rfl, h⟩
    | succ j =>
      have h' : s_l L j k := by cases o <;> exact h
      obtain ⟨v, h1, h2⟩ := ih h'
      exact ⟨v, by rw [List.getElem?_cons_succ]; exact h1, h2⟩
theorem s_i_of {st : List Value} {k : Int32 → List Value → Prop} (h : s_i st k) : ∃ x r, st = .int x :: r ∧ k x r := by
  unfold s_i at h
  split at h
  · exact ⟨_, _, rfl, h⟩
  · exact h.elim
theorem s_r_of {st : List Value} {k : Nat → List Value → Prop} (h : s_r st k) : ∃ x r, st = .ref x :: r ∧ k x r := by
  unfold s_r at h
  split at h
  · exact ⟨_, _, rfl, h⟩
  · exact h.elim
theorem s_v_of {st : List Value} {k : Value → List Value → Prop} (h : s_v st k) : ∃ x r, st = x :: r ∧ x.category = 1 ∧ k x r := by
  unfold s_v at h
  split at h
  · exact ⟨_, _, rfl, rfl, h⟩
  · exact ⟨_, _, rfl, rfl, h⟩
  · exact h.elim
theorem s_a_of : ∀ {n : Nat} {st acc : List Value} {k : List Value → List Value → Prop}, s_a n st acc k → ∃ As r, As.length = n ∧ st = As.reverse ++ r ∧ k (As ++ acc) r
  | 0, st, acc, k, h => ⟨[], st, rfl, rfl, h⟩
  | n + 1, [], acc, k, h => h.elim
  | n + 1, v :: st, acc, k, h => by
    obtain ⟨As, r, h1, h2, h3⟩ := s_a_of (n := n) (st := st) (acc := v :: acc) (k := k) h
    refine ⟨As ++ [v], r, by simp [h1], by simp [h2], by simpa using h3⟩
theorem s_m_of : ∀ {n : Nat} {st : List Value}, s_m n st → (st.map fun v => v.category).sum ≤ n
  | n, [], _ => by simp
  | 0, v :: r, h => by cases v <;> exact h.elim
  | n + 1, v :: r, h => by
    cases v with
    | int x =>
      have := s_m_of (n := n) (st := r) h
      rw [List.map_cons, List.sum_cons]
      show 1 + _ ≤ n + 1
      omega
    | ref x =>
      have := s_m_of (n := n) (st := r) h
      rw [List.map_cons, List.sum_cons]
      show 1 + _ ≤ n + 1
      omega
    | _ => exact h.elim
