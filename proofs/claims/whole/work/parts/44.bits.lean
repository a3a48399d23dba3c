/-! Integer.bitCount over sets of lines -/
def su (x k : Int32) : Int32 := (x.toUInt32 >>> (Int32.toUInt32 k &&& Int32.toUInt32 31)).toInt32
def bu1 (x : Int32) : Int32 := x - (su x 1 &&& 1431655765)
def bu2 (x : Int32) : Int32 := (x &&& 858993459) + (su x 2 &&& 858993459)
def bu3 (x : Int32) : Int32 := x + su x 4 &&& 252645135
def bu4 (x : Int32) : Int32 := x + su x 8
def bu5 (x : Int32) : Int32 := x + su x 16 &&& 63
def bcJ (x : Int32) : Int32 := bu5 (bu4 (bu3 (bu2 (bu1 x))))
section BITC
variable {n base : Nat} {sh : pw_Sh} {P : pw_P} {Ag : List Value} {I : pw_I} {K : Option Value → pw_I → Prop}
def w_bitC : pw_Wp := fun Ag I K => match Ag with
  | [.int x] => K (some (.int (bcJ x))) I
  | _ => False
set_option maxRecDepth 100000 in
set_option maxHeartbeats 4000000 in
theorem x_bitC (h : w_bitC Ag I K) : pw_ok mJ6_bitCount_0f7a4 0 base n sh P Ag I K := by
  unfold w_bitC at h
  split at h
  · refine pw_bd [_] pl_J6 c_i rfl rfl ?_
    refine pw_go okJ6_bitCount_0f7a4 (cc []) ⟨Nat.le_refl _, Nat.le_refl _⟩ cc_n (st0) 90 ?_
    simp only [↓f_vc_s, ↓vk_i, ↓cc_i, ↓reduceIte, f_vq_s, Bool.false_eq_true, ↓f_e_iconst, ↓f_e_bipush, ↓f_e_sipush, ↓f_e_ldc, ↓f_e_ldc_w, ↓f_e_iload_n, ↓f_e_iload, ↓f_e_aload_n, ↓f_e_aload, ↓f_e_istore_n, ↓f_e_istore, ↓f_e_astore_n, ↓f_e_astore, ↓f_e_iinc, ↓f_e_iadd, ↓f_e_isub, ↓f_e_imul, ↓f_e_iand, ↓f_e_ior, ↓f_e_ixor, ↓f_e_idiv, ↓f_e_irem, ↓f_e_ishl, ↓f_e_ishr, ↓f_e_iushr, ↓f_e_i2c, ↓f_e_dup, ↓f_e_dup2, ↓f_e_pop, ↓f_e_goto, ↓f_e_ifCond, ↓f_e_if_icmp, ↓f_e_tableswitch, ↓f_e_lookupswitch, ↓f_e_getfield_i, ↓f_e_getfield_r, ↓f_e_putfield_i, ↓f_e_putfield_z, ↓f_e_iaload, ↓f_e_caload, ↓f_e_aaload, ↓f_e_iastore, ↓f_e_castore, ↓f_e_arraylength, ↓f_e_invokestatic, ↓f_e_invokevirtual, ↓f_e_ireturn, ↓f_e_return_, ↓f_s_i_c, ↓f_s_r_c, ↓f_s_v_i, ↓f_s_v_r, ↓f_s_l_0, ↓s_l_1, ↓s_l_2, ↓s_l_3, ↓s_l_4, ↓s_l_5, ↓s_l_6, ↓s_a_0, ↓s_a_1, ↓s_a_2, ↓s_a_3, ↓s_m_0, ↓f_s_m_i, ↓f_s_m_r, ↓f_s_m_i7, ↓f_s_m_r7, ↓f_s_m_i6, ↓f_s_m_r6, ↓f_s_m_i5, ↓f_s_m_r5, ↓f_s_m_i4, ↓f_s_m_r4, ↓f_s_w_n, ↓f_s_w_c, ↓f_s_p_eq, ↓f_s_p_ne, ↓f_s_p_lt, ↓f_s_p_ge, ↓f_s_p_gt, ↓f_s_p_le, ↓nk_i, ↓nk_z, ↓nk_c, ↓rf_s, ↓ov_s, ↓ov_n, ↓fin0, ↓fin1, ↓fin2, ↓fin3, cond_true, cond_false, List.set_cons_zero, List.set_cons_succ, List.length_cons, List.length_nil, true_and, and_true, true_or, or_true, implies_true, forall_const, not_true_eq_false, not_false_eq_true, false_implies, Nat.reduceAdd, Nat.reduceLT, Nat.reduceBEq, Nat.reduceEqDiff, Bool.or_false, Bool.false_or, Bool.or_true, Bool.true_or, beq_self_eq_true, Nat.reduceLeDiff, Nat.reduceMul, Nat.reduceSub, eq_self, Nat.reduceBneDiff, st0_s, st1_s, st2_s, st3_s, reduceCtorEq, cc_0, tl_0, cl_0, il_0, tl_1, cl_1, il_1, tl_2, cl_2, il_2, tl_3, cl_3, il_3, tl_4, cl_4, il_4, tl_5, cl_5, il_5, tl_6, cl_6, il_6, tl_7, cl_7, il_7, tl_8, cl_8, il_8, tl_9, cl_9, il_9, tl_10, cl_10, il_10, tl_11, cl_11, il_11, tl_12, cl_12, il_12, tl_13, cl_13, il_13, tl_14, cl_14, il_14, tl_15, cl_15, il_15, tl_16, cl_16, il_16, tl_20, tl_21, tl_25, tl_32, tl_48, tl_50, tl_57, tl_58, tl_59, tl_60, tl_99, tl_100, tl_101, tl_108, tl_109, tl_116, tl_120, tl_126, tl_374, tl_1122, tl_50000, i10, i01, tl_m1, tl_m2, tl_m3, tl_m4, nr_J6_bitCount_0f7a4, tJ6_bitCount_0f7a4_0, tJ6_bitCount_0f7a4_1, tJ6_bitCount_0f7a4_2, tJ6_bitCount_0f7a4_3, tJ6_bitCount_0f7a4_4, tJ6_bitCount_0f7a4_7, tJ6_bitCount_0f7a4_8, tJ6_bitCount_0f7a4_9, tJ6_bitCount_0f7a4_10, tJ6_bitCount_0f7a4_11, tJ6_bitCount_0f7a4_14, tJ6_bitCount_0f7a4_15, tJ6_bitCount_0f7a4_16, tJ6_bitCount_0f7a4_17, tJ6_bitCount_0f7a4_18, tJ6_bitCount_0f7a4_21, tJ6_bitCount_0f7a4_22, tJ6_bitCount_0f7a4_23, tJ6_bitCount_0f7a4_24, tJ6_bitCount_0f7a4_25, tJ6_bitCount_0f7a4_26, tJ6_bitCount_0f7a4_27, tJ6_bitCount_0f7a4_28, tJ6_bitCount_0f7a4_29, tJ6_bitCount_0f7a4_32, tJ6_bitCount_0f7a4_33, tJ6_bitCount_0f7a4_34, tJ6_bitCount_0f7a4_35, tJ6_bitCount_0f7a4_36, tJ6_bitCount_0f7a4_38, tJ6_bitCount_0f7a4_39, tJ6_bitCount_0f7a4_40, tJ6_bitCount_0f7a4_41, tJ6_bitCount_0f7a4_42, tJ6_bitCount_0f7a4_43, tJ6_bitCount_0f7a4_45, tJ6_bitCount_0f7a4_46, tJ6_bitCount_0f7a4_47, tJ6_bitCount_0f7a4_48, tJ6_bitCount_0f7a4_49, tJ6_bitCount_0f7a4_51, tJ6_bitCount_0f7a4_52, pw_QK_s]
    exact h
  · exact h.elim
end BITC
def bcN (v : Nat) : Nat :=
  let a := v - ((v >>> 1) &&& 1431655765)
  let b := (a &&& 858993459) + ((a >>> 2) &&& 858993459)
  let c := (b + (b >>> 4)) &&& 252645135
  let d := c + (c >>> 8)
  (d + (d >>> 16)) &&& 63
def poN (v : Nat) : Nat → Nat
  | 0 => 0
  | k + 1 => poN v k + ((v >>> k) &&& 1)
theorem bn_0 : (List.range 2048).all (fun v => Nat.beq (bcN (0 + v)) (poN (0 + v) 16)) = true := by decide +kernel
theorem bn_1 : (List.range 2048).all (fun v => Nat.beq (bcN (2048 + v)) (poN (2048 + v) 16)) = true := by decide +kernel
theorem bn_2 : (List.range 2048).all (fun v => Nat.beq (bcN (4096 + v)) (poN (4096 + v) 16)) = true := by decide +kernel
theorem bn_3 : (List.range 2048).all (fun v => Nat.beq (bcN (6144 + v)) (poN (6144 + v) 16)) = true := by decide +kernel
theorem bn_4 : (List.range 2048).all (fun v => Nat.beq (bcN (8192 + v)) (poN (8192 + v) 16)) = true := by decide +kernel
theorem bn_5 : (List.range 2048).all (fun v => Nat.beq (bcN (10240 + v)) (poN (10240 + v) 16)) = true := by decide +kernel
theorem bn_6 : (List.range 2048).all (fun v => Nat.beq (bcN (12288 + v)) (poN (12288 + v) 16)) = true := by decide +kernel
theorem bn_7 : (List.range 2048).all (fun v => Nat.beq (bcN (14336 + v)) (poN (14336 + v) 16)) = true := by decide +kernel
theorem bn_8 : (List.range 2048).all (fun v => Nat.beq (bcN (16384 + v)) (poN (16384 + v) 16)) = true := by decide +kernel
theorem bn_9 : (List.range 2048).all (fun v => Nat.beq (bcN (18432 + v)) (poN (18432 + v) 16)) = true := by decide +kernel
theorem bn_10 : (List.range 2048).all (fun v => Nat.beq (bcN (20480 + v)) (poN (20480 + v) 16)) = true := by decide +kernel
theorem bn_11 : (List.range 2048).all (fun v => Nat.beq (bcN (22528 + v)) (poN (22528 + v) 16)) = true := by decide +kernel
theorem bn_12 : (List.range 2048).all (fun v => Nat.beq (bcN (24576 + v)) (poN (24576 + v) 16)) = true := by decide +kernel
theorem bn_13 : (List.range 2048).all (fun v => Nat.beq (bcN (26624 + v)) (poN (26624 + v) 16)) = true := by decide +kernel
theorem bn_14 : (List.range 2048).all (fun v => Nat.beq (bcN (28672 + v)) (poN (28672 + v) 16)) = true := by decide +kernel
theorem bn_15 : (List.range 2048).all (fun v => Nat.beq (bcN (30720 + v)) (poN (30720 + v) 16)) = true := by decide +kernel
theorem bn_16 : (List.range 2048).all (fun v => Nat.beq (bcN (32768 + v)) (poN (32768 + v) 16)) = true := by decide +kernel
theorem bn_17 : (List.range 2048).all (fun v => Nat.beq (bcN (34816 + v)) (poN (34816 + v) 16)) = true := by decide +kernel
theorem bn_18 : (List.range 2048).all (fun v => Nat.beq (bcN (36864 + v)) (poN (36864 + v) 16)) = true := by decide +kernel
theorem bn_19 : (List.range 2048).all (fun v => Nat.beq (bcN (38912 + v)) (poN (38912 + v) 16)) = true := by decide +kernel
theorem bn_20 : (List.range 2048).all (fun v => Nat.beq (bcN (40960 + v)) (poN (40960 + v) 16)) = true := by decide +kernel
theorem bn_21 : (List.range 2048).all (fun v => Nat.beq (bcN (43008 + v)) (poN (43008 + v) 16)) = true := by decide +kernel
theorem bn_22 : (List.range 2048).all (fun v => Nat.beq (bcN (45056 + v)) (poN (45056 + v) 16)) = true := by decide +kernel
theorem bn_23 : (List.range 2048).all (fun v => Nat.beq (bcN (47104 + v)) (poN (47104 + v) 16)) = true := by decide +kernel
theorem bn_24 : (List.range 2048).all (fun v => Nat.beq (bcN (49152 + v)) (poN (49152 + v) 16)) = true := by decide +kernel
theorem bn_25 : (List.range 2048).all (fun v => Nat.beq (bcN (51200 + v)) (poN (51200 + v) 16)) = true := by decide +kernel
theorem bn_26 : (List.range 2048).all (fun v => Nat.beq (bcN (53248 + v)) (poN (53248 + v) 16)) = true := by decide +kernel
theorem bn_27 : (List.range 2048).all (fun v => Nat.beq (bcN (55296 + v)) (poN (55296 + v) 16)) = true := by decide +kernel
theorem bn_28 : (List.range 2048).all (fun v => Nat.beq (bcN (57344 + v)) (poN (57344 + v) 16)) = true := by decide +kernel
theorem bn_29 : (List.range 2048).all (fun v => Nat.beq (bcN (59392 + v)) (poN (59392 + v) 16)) = true := by decide +kernel
theorem bn_30 : (List.range 2048).all (fun v => Nat.beq (bcN (61440 + v)) (poN (61440 + v) 16)) = true := by decide +kernel
theorem bn_31 : (List.range 2048).all (fun v => Nat.beq (bcN (63488 + v)) (poN (63488 + v) 16)) = true := by decide +kernel
theorem bn_all {v : Nat} (h : v < 65536) : bcN v = poN v 16 := by
  have key : ∀ c : Nat, c < 32 → ∀ v, v < 2048 → bcN (2048 * c + v) = poN (2048 * c + v) 16 := by
    intro c hc v hv
    have hm : v ∈ List.range 2048 := List.mem_range.mpr hv
    have : c = 0 ∨ c = 1 ∨ c = 2 ∨ c = 3 ∨ c = 4 ∨ c = 5 ∨ c = 6 ∨ c = 7 ∨ c = 8 ∨ c = 9 ∨ c = 10 ∨ c = 11 ∨ c = 12 ∨ c = 13 ∨ c = 14 ∨ c = 15 ∨ c = 16 ∨ c = 17 ∨ c = 18 ∨ c = 19 ∨ c = 20 ∨ c = 21 ∨ c = 22 ∨ c = 23 ∨ c = 24 ∨ c = 25 ∨ c = 26 ∨ c = 27 ∨ c = 28 ∨ c = 29 ∨ c = 30 ∨ c = 31 := by omega
    rcases this with rfl | rfl | rfl | rfl | rfl | rfl | rfl | rfl | rfl | rfl | rfl | rfl | rfl | rfl | rfl | rfl | rfl | rfl | rfl | rfl | rfl | rfl | rfl | rfl | rfl | rfl | rfl | rfl | rfl | rfl | rfl | rfl
    · exact Nat.eq_of_beq_eq_true (List.all_eq_true.mp bn_0 v hm)
    · exact Nat.eq_of_beq_eq_true (List.all_eq_true.mp bn_1 v hm)
    · exact Nat.eq_of_beq_eq_true (List.all_eq_true.mp bn_2 v hm)
    · exact Nat.eq_of_beq_eq_true (List.all_eq_true.mp bn_3 v hm)
    · exact Nat.eq_of_beq_eq_true (List.all_eq_true.mp bn_4 v hm)
    · exact Nat.eq_of_beq_eq_true (List.all_eq_true.mp bn_5 v hm)
    · exact Nat.eq_of_beq_eq_true (List.all_eq_true.mp bn_6 v hm)
    · exact Nat.eq_of_beq_eq_true (List.all_eq_true.mp bn_7 v hm)
    · exact Nat.eq_of_beq_eq_true (List.all_eq_true.mp bn_8 v hm)
    · exact Nat.eq_of_beq_eq_true (List.all_eq_true.mp bn_9 v hm)
    · exact Nat.eq_of_beq_eq_true (List.all_eq_true.mp bn_10 v hm)
    · exact Nat.eq_of_beq_eq_true (List.all_eq_true.mp bn_11 v hm)
    · exact Nat.eq_of_beq_eq_true (List.all_eq_true.mp bn_12 v hm)
    · exact Nat.eq_of_beq_eq_true (List.all_eq_true.mp bn_13 v hm)
    · exact Nat.eq_of_beq_eq_true (List.all_eq_true.mp bn_14 v hm)
    · exact Nat.eq_of_beq_eq_true (List.all_eq_true.mp bn_15 v hm)
    · exact Nat.eq_of_beq_eq_true (List.all_eq_true.mp bn_16 v hm)
    · exact Nat.eq_of_beq_eq_true (List.all_eq_true.mp bn_17 v hm)
    · exact Nat.eq_of_beq_eq_true (List.all_eq_true.mp bn_18 v hm)
    · exact Nat.eq_of_beq_eq_true (List.all_eq_true.mp bn_19 v hm)
    · exact Nat.eq_of_beq_eq_true (List.all_eq_true.mp bn_20 v hm)
    · exact Nat.eq_of_beq_eq_true (List.all_eq_true.mp bn_21 v hm)
    · exact Nat.eq_of_beq_eq_true (List.all_eq_true.mp bn_22 v hm)
    · exact Nat.eq_of_beq_eq_true (List.all_eq_true.mp bn_23 v hm)
    · exact Nat.eq_of_beq_eq_true (List.all_eq_true.mp bn_24 v hm)
    · exact Nat.eq_of_beq_eq_true (List.all_eq_true.mp bn_25 v hm)
    · exact Nat.eq_of_beq_eq_true (List.all_eq_true.mp bn_26 v hm)
    · exact Nat.eq_of_beq_eq_true (List.all_eq_true.mp bn_27 v hm)
    · exact Nat.eq_of_beq_eq_true (List.all_eq_true.mp bn_28 v hm)
    · exact Nat.eq_of_beq_eq_true (List.all_eq_true.mp bn_29 v hm)
    · exact Nat.eq_of_beq_eq_true (List.all_eq_true.mp bn_30 v hm)
    · exact Nat.eq_of_beq_eq_true (List.all_eq_true.mp bn_31 v hm)
  have := key (v / 2048) (by omega) (v % 2048) (by omega)
  rwa [show 2048 * (v / 2048) + v % 2048 = v by omega] at this
theorem tn_nI {a : Nat} (h : a < 2147483648) : (nI a).toBitVec.toNat = a := Nat.mod_eq_of_lt (show a < 2 ^ 32 by omega)
theorem bv31 {x : Int32} {a : Nat} (e : x.toBitVec.toNat = a) (h : a < 2147483648) : x = nI a := by
  refine Int32.toInt_inj.mp ?_
  rw [ti_nI (by omega), ← e]
  exact BitVec.toInt_eq_toNat_of_lt (by omega)
theorem and_nI {a c : Nat} (h : a < 2147483648) (hc : c < 2147483648) : nI a &&& nI c = nI (a &&& c) := by
  have h1 : ((nI a) &&& (nI c)).toBitVec.toNat = (nI a).toBitVec.toNat &&& (nI c).toBitVec.toNat := rfl
  rw [tn_nI h, tn_nI hc] at h1
  exact bv31 h1 (Nat.lt_of_le_of_lt Nat.and_le_left h)
theorem su_nI {a k : Nat} (h : a < 2147483648) (hk : k < 32) : su (nI a) (nI k) = nI (a >>> k) := by
  have hkk : ∀ k, k < 32 → ((Int32.toUInt32 (nI k) &&& Int32.toUInt32 31).toBitVec.toNat % 32) = k := by decide +kernel
  have h1 : (su (nI a) (nI k)).toBitVec.toNat = (nI a).toBitVec.toNat >>> ((Int32.toUInt32 (nI k) &&& Int32.toUInt32 31).toBitVec.toNat % 32) := rfl
  rw [tn_nI h, hkk k hk] at h1
  exact bv31 h1 (Nat.lt_of_le_of_lt (Nat.shiftRight_le a k) h)
theorem bcJ_N {v : Nat} (h : v < 65536) : bcJ (nI v) = nI (bcN v) := by
  have s1 : (v >>> 1) &&& 1431655765 ≤ v := Nat.le_trans Nat.and_le_left (Nat.shiftRight_le v 1)
  have e1 : bu1 (nI v) = nI (v - ((v >>> 1) &&& 1431655765)) := by
    have l := Nat.shiftRight_le v 1
    unfold bu1
    rw [show (1 : Int32) = nI 1 from rfl, su_nI (by omega) (by omega), show (1431655765 : Int32) = nI 1431655765 from rfl, and_nI (by omega) (by omega), pk_sub s1]
  have e2 : ∀ a, a < 65536 → bu2 (nI a) = nI ((a &&& 858993459) + ((a >>> 2) &&& 858993459)) := fun a ha => by
    have l := Nat.shiftRight_le a 2
    unfold bu2
    rw [show (2 : Int32) = nI 2 from rfl, su_nI (by omega) (by omega), show (858993459 : Int32) = nI 858993459 from rfl, and_nI (by omega) (by omega), and_nI (by omega) (by omega), nI_add]
  have e3 : ∀ a, a < 1000000 → bu3 (nI a) = nI ((a + (a >>> 4)) &&& 252645135) := fun a ha => by
    have l := Nat.shiftRight_le a 4
    unfold bu3
    rw [show (4 : Int32) = nI 4 from rfl, su_nI (by omega) (by omega), nI_add, show (252645135 : Int32) = nI 252645135 from rfl, and_nI (by omega) (by omega)]
  have e4 : ∀ a, a < 10000000 → bu4 (nI a) = nI (a + (a >>> 8)) := fun a ha => by
    unfold bu4
    rw [show (8 : Int32) = nI 8 from rfl, su_nI (by omega) (by omega), nI_add]
  have e5 : ∀ a, a < 100000000 → bu5 (nI a) = nI ((a + (a >>> 16)) &&& 63) := fun a ha => by
    have l := Nat.shiftRight_le a 16
    unfold bu5
    rw [show (16 : Int32) = nI 16 from rfl, su_nI (by omega) (by omega), nI_add, show (63 : Int32) = nI 63 from rfl, and_nI (by omega) (by omega)]
  unfold bcJ
  rw [e1, e2 _ (by omega)]
  generalize ha : v - ((v >>> 1) &&& 1431655765) = a
  have l1 : (a &&& 858993459) ≤ a := Nat.and_le_left
  have l2 : ((a >>> 2) &&& 858993459) ≤ a := Nat.le_trans Nat.and_le_left (Nat.shiftRight_le a 2)
  rw [e3 _ (by omega)]
  generalize hb : (a &&& 858993459) + ((a >>> 2) &&& 858993459) = b
  have l3 : ((b + (b >>> 4)) &&& 252645135) ≤ b + (b >>> 4) := Nat.and_le_left
  have l4 := Nat.shiftRight_le b 4
  rw [e4 _ (by omega)]
  generalize hc : (b + (b >>> 4)) &&& 252645135 = c
  have l5 := Nat.shiftRight_le c 8
  rw [e5 _ (by omega)]
  unfold bcN
  dsimp only
  rw [ha, hb, hc]
theorem bits_N {v : Nat} (h : v < 65536) : bitsS (nI v) = nI (poN v 16) := by
  have key : ∀ k, k < 16 → (nI v >>> (nI k &&& 31)) &&& 1 = nI ((v >>> k) &&& 1) := by
    intro k hk
    have hkk : ∀ k, k < 16 → ((nI k &&& 31).toBitVec.smod 32).toNat = k := by decide +kernel
    have h1 : (nI v >>> (nI k &&& 31)).toBitVec = (nI v).toBitVec.sshiftRight ((nI k &&& 31).toBitVec.smod 32).toNat := rfl
    have hm : (nI v).toBitVec.msb = false := by
      rw [BitVec.msb_eq_decide]
      exact decide_eq_false (by rw [tn_nI (by omega)]; omega)
    rw [hkk k hk, BitVec.sshiftRight_eq_of_msb_false hm] at h1
    have h2 : (nI v >>> (nI k &&& 31)).toBitVec.toNat = v >>> k := by
      rw [h1, BitVec.toNat_ushiftRight, tn_nI (by omega)]
    have l := Nat.shiftRight_le v k
    rw [bv31 h2 (by omega), show (1 : Int32) = nI 1 from rfl, and_nI (by omega) (by omega)]
  have sum : ∀ k, k ≤ 16 → sumF (fun k => (nI v >>> (nI k &&& 31)) &&& 1) k = nI (poN v k) := by
    intro k
    induction k with
    | zero => intro _; rfl
    | succ k ih =>
      intro hk
      rw [sumF, ih (by omega), key k (by omega), nI_add]
      rfl
  exact sum 16 (Nat.le_refl _)
theorem bc_all {v : Nat} (h : v < 65536) : bcJ (nI v) = bitsS (nI v) := by
  rw [bcJ_N h, bits_N h]
  congr 1
  exact bn_all h
