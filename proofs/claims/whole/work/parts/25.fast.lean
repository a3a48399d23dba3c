/-! the steps' equations once more, not definitional; what lies behind is not looked at before its turn -/
section RUF
variable {ret : Option FieldType} {n : Nat} {sh : pw_Sh} {P : pw_P} {C : pw_C} {Q : pw_Q} {nx a b c : Nat} {v : Int32} {sw : List (Int32 × Nat)} {L : List (Option Value)} {st : List Value} {I : pw_I} {K : pw_Kt}
theorem f_e_iconst {z0 : Int} : sx ret n sh P C Q (.iconst z0) nx a b c v sw L st I K = (K nx L (.int v :: st) I) := propext ⟨fun h => h, fun h => h⟩
theorem f_e_bipush {z0 : Int} : sx ret n sh P C Q (.bipush z0) nx a b c v sw L st I K = (K nx L (.int v :: st) I) := propext ⟨fun h => h, fun h => h⟩
theorem f_e_sipush {z0 : Int} : sx ret n sh P C Q (.sipush z0) nx a b c v sw L st I K = (K nx L (.int v :: st) I) := propext ⟨fun h => h, fun h => h⟩
theorem f_e_ldc {z0 : Nat} : sx ret n sh P C Q (.ldc z0) nx a b c v sw L st I K = (K nx L (.int v :: st) I) := propext ⟨fun h => h, fun h => h⟩
theorem f_e_ldc_w {z0 : Nat} : sx ret n sh P C Q (.ldc_w z0) nx a b c v sw L st I K = (K nx L (.int v :: st) I) := propext ⟨fun h => h, fun h => h⟩
theorem f_e_iload_n {j : Fin 4} : sx ret n sh P C Q (.iload_n j) nx a b c v sw L st I K = (s_l L j.val fun w => s_i [w] fun x _ => K nx L (.int x :: st) I) := propext ⟨fun h => h, fun h => h⟩
theorem f_e_iload {j : Nat} : sx ret n sh P C Q (.iload j) nx a b c v sw L st I K = (s_l L j fun w => s_i [w] fun x _ => K nx L (.int x :: st) I) := propext ⟨fun h => h, fun h => h⟩
theorem f_e_aload_n {j : Fin 4} : sx ret n sh P C Q (.aload_n j) nx a b c v sw L st I K = (s_l L j.val fun w => s_r [w] fun x _ => K nx L (.ref x :: st) I) := propext ⟨fun h => h, fun h => h⟩
theorem f_e_aload {j : Nat} : sx ret n sh P C Q (.aload j) nx a b c v sw L st I K = (s_l L j fun w => s_r [w] fun x _ => K nx L (.ref x :: st) I) := propext ⟨fun h => h, fun h => h⟩
theorem f_e_istore_n {j : Fin 4} : sx ret n sh P C Q (.istore_n j) nx a b c v sw L st I K = (s_i st fun x r => j.val < L.length ∧ K nx (L.set j.val (some (.int x))) r I) := propext ⟨fun h => h, fun h => h⟩
theorem f_e_istore {j : Nat} : sx ret n sh P C Q (.istore j) nx a b c v sw L st I K = (s_i st fun x r => j < L.length ∧ K nx (L.set j (some (.int x))) r I) := propext ⟨fun h => h, fun h => h⟩
theorem f_e_astore_n {j : Fin 4} : sx ret n sh P C Q (.astore_n j) nx a b c v sw L st I K = (s_r st fun x r => j.val < L.length ∧ K nx (L.set j.val (some (.ref x))) r I) := propext ⟨fun h => h, fun h => h⟩
theorem f_e_astore {j : Nat} : sx ret n sh P C Q (.astore j) nx a b c v sw L st I K = (s_r st fun x r => j < L.length ∧ K nx (L.set j (some (.ref x))) r I) := propext ⟨fun h => h, fun h => h⟩
theorem f_e_iinc {j : Nat} {z1 : Int} : sx ret n sh P C Q (.iinc j z1) nx a b c v sw L st I K = (s_l L j fun w => s_i [w] fun x _ => K nx (L.set j (some (.int (x + v)))) st I) := propext ⟨fun h => h, fun h => h⟩
theorem f_e_iadd  : sx ret n sh P C Q .iadd nx a b c v sw L st I K = (s_i st fun y r => s_i r fun x r => K nx L (.int (x + y) :: r) I) := propext ⟨fun h => h, fun h => h⟩
theorem f_e_isub  : sx ret n sh P C Q .isub nx a b c v sw L st I K = (s_i st fun y r => s_i r fun x r => K nx L (.int (x - y) :: r) I) := propext ⟨fun h => h, fun h => h⟩
theorem f_e_imul  : sx ret n sh P C Q .imul nx a b c v sw L st I K = (s_i st fun y r => s_i r fun x r => K nx L (.int (x * y) :: r) I) := propext ⟨fun h => h, fun h => h⟩
theorem f_e_iand  : sx ret n sh P C Q .iand nx a b c v sw L st I K = (s_i st fun y r => s_i r fun x r => K nx L (.int (x &&& y) :: r) I) := propext ⟨fun h => h, fun h => h⟩
theorem f_e_ior  : sx ret n sh P C Q .ior nx a b c v sw L st I K = (s_i st fun y r => s_i r fun x r => K nx L (.int (x ||| y) :: r) I) := propext ⟨fun h => h, fun h => h⟩
theorem f_e_ixor  : sx ret n sh P C Q .ixor nx a b c v sw L st I K = (s_i st fun y r => s_i r fun x r => K nx L (.int (x ^^^ y) :: r) I) := propext ⟨fun h => h, fun h => h⟩
theorem f_e_idiv  : sx ret n sh P C Q .idiv nx a b c v sw L st I K = (s_i st fun y r => s_i r fun x r => ¬ y = 0 ∧ K nx L (.int (x / y) :: r) I) := propext ⟨fun h => h, fun h => h⟩
theorem f_e_irem  : sx ret n sh P C Q .irem nx a b c v sw L st I K = (s_i st fun y r => s_i r fun x r => ¬ y = 0 ∧ K nx L (.int (x - x / y * y) :: r) I) := propext ⟨fun h => h, fun h => h⟩
theorem f_e_ishl  : sx ret n sh P C Q .ishl nx a b c v sw L st I K = (s_i st fun y r => s_i r fun x r => K nx L (.int (x <<< (y &&& 31)) :: r) I) := propext ⟨fun h => h, fun h => h⟩
theorem f_e_ishr  : sx ret n sh P C Q .ishr nx a b c v sw L st I K = (s_i st fun y r => s_i r fun x r => K nx L (.int (x >>> (y &&& 31)) :: r) I) := propext ⟨fun h => h, fun h => h⟩
theorem f_e_iushr  : sx ret n sh P C Q .iushr nx a b c v sw L st I K = (s_i st fun y r => s_i r fun x r => K nx L (.int (x.toUInt32 >>> (y.toUInt32 &&& Int32.toUInt32 31)).toInt32 :: r) I) := propext ⟨fun h => h, fun h => h⟩
theorem f_e_i2c  : sx ret n sh P C Q .i2c nx a b c v sw L st I K = (s_i st fun x r => K nx L (.int (x.toUInt32 % 65536).toInt32 :: r) I) := propext ⟨fun h => h, fun h => h⟩
theorem f_e_dup  : sx ret n sh P C Q .dup nx a b c v sw L st I K = (s_v st fun x r => K nx L (x :: x :: r) I) := propext ⟨fun h => h, fun h => h⟩
theorem f_e_dup2  : sx ret n sh P C Q .dup2 nx a b c v sw L st I K = (s_v st fun x r => s_v r fun y r => K nx L (x :: y :: x :: y :: r) I) := propext ⟨fun h => h, fun h => h⟩
theorem f_e_pop  : sx ret n sh P C Q .pop nx a b c v sw L st I K = (s_v st fun _ r => K nx L r I) := propext ⟨fun h => h, fun h => h⟩
theorem f_e_goto {z0 : Int} : sx ret n sh P C Q (.goto z0) nx a b c v sw L st I K = (K a L st I) := propext ⟨fun h => h, fun h => h⟩
theorem f_e_ifCond {cd : ClassFile.Cond} {z1 : Int} : sx ret n sh P C Q (.ifCond cd z1) nx a b c v sw L st I K = (s_i st fun x r => s_p cd x 0 (K a L r I) (K nx L r I)) := propext ⟨fun h => h, fun h => h⟩
theorem f_e_if_icmp {cd : ClassFile.Cond} {z1 : Int} : sx ret n sh P C Q (.if_icmp cd z1) nx a b c v sw L st I K = (s_i st fun y r => s_i r fun x r => s_p cd x y (K a L r I) (K nx L r I)) := propext ⟨fun h => h, fun h => h⟩
theorem f_e_tableswitch {z0 : Int} {z1 : Int} {z2 : Int} {z3 : Array Int} : sx ret n sh P C Q (.tableswitch z0 z1 z2 z3) nx a b c v sw L st I K = (s_i st fun x r => s_w sw x a (fun t => K t L r I)) := propext ⟨fun h => h, fun h => h⟩
theorem f_e_lookupswitch {z0 : Int} {z1 : Array (Int × Int)} : sx ret n sh P C Q (.lookupswitch z0 z1) nx a b c v sw L st I K = (s_i st fun x r => s_w sw x a (fun t => K t L r I)) := propext ⟨fun h => h, fun h => h⟩
theorem f_e_getfield_i {z0 : Nat}  : sx ret n sh P C Q (.getfield z0) nx a b c v [] L st I K = (s_r st fun o r => (sh o).1 = a ∧ K nx L (.int (I o b) :: r) I) := propext ⟨fun h => h, fun h => h⟩
theorem f_e_getfield_r {z0 : Nat} {z1 : Int32 × Nat} {z2 : List (Int32 × Nat)} : sx ret n sh P C Q (.getfield z0) nx a b c v (z1 :: z2) L st I K = (s_r st fun o r => (sh o).1 = a ∧ K nx L (va_rf (P o b) :: r) I) := propext ⟨fun h => h, fun h => h⟩
theorem f_e_putfield_i {z0 : Nat}  : sx ret n sh P C Q (.putfield z0) nx a b c v [] L st I K = (s_i st fun x r => s_r r fun o r => (sh o).1 = a ∧ True ∧ K nx L r (pw_up I o b x)) := propext ⟨fun h => h, fun h => h⟩
theorem f_e_putfield_z {z0 : Nat} {z1 : Int32 × Nat} {z2 : List (Int32 × Nat)} : sx ret n sh P C Q (.putfield z0) nx a b c v (z1 :: z2) L st I K = (s_i st fun x r => s_r r fun o r => (sh o).1 = a ∧ (x = 0 ∨ x = 1) ∧ K nx L r (pw_up I o b x)) := propext ⟨fun h => h, fun h => h⟩
theorem f_e_iaload  : sx ret n sh P C Q .iaload nx a b c v sw L st I K = (s_i st fun j r => s_r r fun o r => (sh o).1 = 8 ∧ vp_in j (sh o).2 ∧ K nx L (.int (I o j.toNatClampNeg) :: r) I) := propext ⟨fun h => h, fun h => h⟩
theorem f_e_caload  : sx ret n sh P C Q .caload nx a b c v sw L st I K = (s_i st fun j r => s_r r fun o r => (sh o).1 = 9 ∧ vp_in j (sh o).2 ∧ K nx L (.int (I o j.toNatClampNeg) :: r) I) := propext ⟨fun h => h, fun h => h⟩
theorem f_e_aaload  : sx ret n sh P C Q .aaload nx a b c v sw L st I K = (s_i st fun j r => s_r r fun o r => (10 ≤ (sh o).1 ∧ (sh o).1 ≤ 12) ∧ vp_in j (sh o).2 ∧ K nx L (va_rf (P o j.toNatClampNeg) :: r) I) := propext ⟨fun h => h, fun h => h⟩
theorem f_e_iastore  : sx ret n sh P C Q .iastore nx a b c v sw L st I K = (s_i st fun x r => s_i r fun j r => s_r r fun o r => (sh o).1 = 8 ∧ vp_in j (sh o).2 ∧ K nx L r (pw_up I o j.toNatClampNeg x)) := propext ⟨fun h => h, fun h => h⟩
theorem f_e_castore  : sx ret n sh P C Q .castore nx a b c v sw L st I K = (s_i st fun x r => s_i r fun j r => s_r r fun o r => (sh o).1 = 9 ∧ vp_in j (sh o).2 ∧ pw_nok (some .char) x ∧ K nx L r (pw_up I o j.toNatClampNeg x)) := propext ⟨fun h => h, fun h => h⟩
theorem f_e_arraylength  : sx ret n sh P C Q .arraylength nx a b c v sw L st I K = (s_r st fun o r => (8 ≤ (sh o).1 ∧ (sh o).1 ≤ 12) ∧ K nx L (.int (nI (sh o).2) :: r) I) := propext ⟨fun h => h, fun h => h⟩
theorem f_e_invokestatic {z0 : Nat} : sx ret n sh P C Q (.invokestatic z0) nx a b c v sw L st I K = (s_a b st [] fun Ag r => s_m 8 r ∧ C a Ag I (fun w I' => K nx L (w.toList ++ r) I')) := propext ⟨fun h => h, fun h => h⟩
theorem f_e_invokevirtual {z0 : Nat} : sx ret n sh P C Q (.invokevirtual z0) nx a b c v sw L st I K = (s_a b st [] fun Ag r => s_r r fun o r => (sh o).1 = c ∧ s_m 8 r ∧ C a (.ref o :: Ag) I (fun w I' => K nx L (w.toList ++ r) I')) := propext ⟨fun h => h, fun h => h⟩
theorem f_e_ireturn  : sx ret n sh P C Q .ireturn nx a b c v sw L st I K = (s_i st fun x r => r = [] ∧ pw_nok ret x ∧ Q (some (.int x)) n sh P I) := propext ⟨fun h => h, fun h => h⟩
theorem f_e_return_  : sx ret n sh P C Q .return_ nx a b c v sw L st I K = (st = [] ∧ ret = none ∧ Q none n sh P I) := propext ⟨fun h => h, fun h => h⟩
end RUF
theorem f_s_i_c {x : Int32} {r : List Value} {k : Int32 → List Value → Prop} : s_i (.int x :: r) k = k x r := propext ⟨fun h => h, fun h => h⟩
theorem f_s_r_c {x : Nat} {r : List Value} {k : Nat → List Value → Prop} : s_r (.ref x :: r) k = k x r := propext ⟨fun h => h, fun h => h⟩
theorem f_s_v_i {x : Int32} {r : List Value} {k : Value → List Value → Prop} : s_v (.int x :: r) k = k (.int x) r := propext ⟨fun h => h, fun h => h⟩
theorem f_s_v_r {x : Nat} {r : List Value} {k : Value → List Value → Prop} : s_v (.ref x :: r) k = k (.ref x) r := propext ⟨fun h => h, fun h => h⟩
theorem f_s_l_0 {v : Value} {L : List (Option Value)} {k : Value → Prop} : s_l (some v :: L) 0 k = k v := propext ⟨fun h => h, fun h => h⟩
theorem f_s_m_i {x : Int32} {r : List Value} : s_m 8 (.int x :: r) = s_m 7 r := propext ⟨fun h => h, fun h => h⟩
theorem f_s_m_r {x : Nat} {r : List Value} : s_m 8 (.ref x :: r) = s_m 7 r := propext ⟨fun h => h, fun h => h⟩
theorem f_s_m_i7 {x : Int32} {r : List Value} : s_m 7 (.int x :: r) = s_m 6 r := propext ⟨fun h => h, fun h => h⟩
theorem f_s_m_r7 {x : Nat} {r : List Value} : s_m 7 (.ref x :: r) = s_m 6 r := propext ⟨fun h => h, fun h => h⟩
theorem f_s_m_i6 {x : Int32} {r : List Value} : s_m 6 (.int x :: r) = s_m 5 r := propext ⟨fun h => h, fun h => h⟩
theorem f_s_m_r6 {x : Nat} {r : List Value} : s_m 6 (.ref x :: r) = s_m 5 r := propext ⟨fun h => h, fun h => h⟩
theorem f_s_m_i5 {x : Int32} {r : List Value} : s_m 5 (.int x :: r) = s_m 4 r := propext ⟨fun h => h, fun h => h⟩
theorem f_s_m_r5 {x : Nat} {r : List Value} : s_m 5 (.ref x :: r) = s_m 4 r := propext ⟨fun h => h, fun h => h⟩
theorem f_s_m_i4 {x : Int32} {r : List Value} : s_m 4 (.int x :: r) = s_m 3 r := propext ⟨fun h => h, fun h => h⟩
theorem f_s_m_r4 {x : Nat} {r : List Value} : s_m 4 (.ref x :: r) = s_m 3 r := propext ⟨fun h => h, fun h => h⟩
theorem f_s_w_n {x : Int32} {d : Nat} {k : Nat → Prop} : s_w [] x d k = k d := propext ⟨fun h => h, fun h => h⟩
theorem f_s_w_c {c : Int32} {t : Nat} {r : List (Int32 × Nat)} {x : Int32} {d : Nat} {k : Nat → Prop} : s_w ((c, t) :: r) x d k = ((x = c → k t) ∧ (¬ x = c → s_w r x d k)) := propext ⟨fun h => h, fun h => h⟩
theorem f_s_p_eq {x y : Int32} {A B : Prop} : s_p .eq x y A B = ((x = y → A) ∧ (¬ x = y → B)) := propext ⟨fun h => h, fun h => h⟩
theorem f_s_p_ne {x y : Int32} {A B : Prop} : s_p .ne x y A B = ((¬ x = y → A) ∧ (x = y → B)) := propext ⟨fun h => h, fun h => h⟩
theorem f_s_p_lt {x y : Int32} {A B : Prop} : s_p .lt x y A B = ((x < y → A) ∧ (¬ x < y → B)) := propext ⟨fun h => h, fun h => h⟩
theorem f_s_p_ge {x y : Int32} {A B : Prop} : s_p .ge x y A B = ((y ≤ x → A) ∧ (¬ y ≤ x → B)) := propext ⟨fun h => h, fun h => h⟩
theorem f_s_p_gt {x y : Int32} {A B : Prop} : s_p .gt x y A B = ((y < x → A) ∧ (¬ y < x → B)) := propext ⟨fun h => h, fun h => h⟩
theorem f_s_p_le {x y : Int32} {A B : Prop} : s_p .le x y A B = ((x ≤ y → A) ∧ (¬ x ≤ y → B)) := propext ⟨fun h => h, fun h => h⟩
section VCF
variable {g : pw_g} {n : Nat} {sh : pw_Sh} {P : pw_P} {uc us : Nat} {tb : Nat → pm_E} {C : pw_C} {stop : Nat → Bool} {Q : pw_Q} {k pc : Nat} {L : List (Option Value)} {st : List Value} {I : pw_I}
theorem f_vc_s : vc g n sh P uc us tb C stop Q (k + 1) pc L st I = vq g n sh P C Q (tb pc) L st I (vk g n sh P uc us tb C stop Q k) := propext ⟨fun h => h, fun h => h⟩
theorem f_vq_s {K : pw_Kt} {i : Instr} {nx a b c : Nat} {v : Int32} {sw : List (Int32 × Nat)} : vq g n sh P C Q (i, nx, a, b, c, v, sw) L st I K = sx g.1.2.2.2 n sh P C Q i nx a b c v sw L st I K := propext ⟨fun h => h, fun h => h⟩
end VCF
section FST
variable {g : pw_g} {n : Nat} {sh : pw_Sh} {P : pw_P} {uc us : Nat} {tb : Nat → pm_E} {C : pw_C} {stop : Nat → Bool} {Q : pw_Q} {k pc : Nat} {L : List (Option Value)} {st : List Value} {I : pw_I}
theorem vk_i : vk g n sh P uc us tb C stop Q k pc L st I = if stop pc = true then PW g n sh P I uc us pc L st Q else vc g n sh P uc us tb C stop Q k pc L st I := by
  rw [vk_s]
  cases stop pc <;> rfl
end FST
theorem cc_i {k a : Nat} {w : pw_Wp} {r : List (Nat × pw_Wp)} {Ag : List Value} {I : pw_I} {K : Option Value → pw_I → Prop} : cc ((k, w) :: r) a Ag I K = if (k == a) = true then w Ag I K else cc r a Ag I K := by
  rw [cc_s]
  cases k == a <;> rfl
