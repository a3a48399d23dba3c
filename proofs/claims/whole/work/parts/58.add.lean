/-! the class's board: a node, a line more -/
theorem set6o {p q : Nat → Bool} {j : Nat} (hj : j < 6) (h1 : ∀ i, i ≠ j → q i = p i) (h2 : q j = true) : setF q 6 = setF p 6 ||| (1 : Int32) <<< (nI j &&& 31) := by
  have key : ∀ a0 a1 a2 a3 a4 a5 : Bool, let s := fun (a0 a1 a2 a3 a4 a5 : Bool) => setF (fun i => match i with | 0 => a0 | 1 => a1 | 2 => a2 | 3 => a3 | 4 => a4 | _ => a5) 6
      s true a1 a2 a3 a4 a5 = s a0 a1 a2 a3 a4 a5 ||| (1 : Int32) <<< (nI 0 &&& 31) ∧ s a0 true a2 a3 a4 a5 = s a0 a1 a2 a3 a4 a5 ||| (1 : Int32) <<< (nI 1 &&& 31) ∧ s a0 a1 true a3 a4 a5 = s a0 a1 a2 a3 a4 a5 ||| (1 : Int32) <<< (nI 2 &&& 31) ∧
      s a0 a1 a2 true a4 a5 = s a0 a1 a2 a3 a4 a5 ||| (1 : Int32) <<< (nI 3 &&& 31) ∧ s a0 a1 a2 a3 true a5 = s a0 a1 a2 a3 a4 a5 ||| (1 : Int32) <<< (nI 4 &&& 31) ∧ s a0 a1 a2 a3 a4 true = s a0 a1 a2 a3 a4 a5 ||| (1 : Int32) <<< (nI 5 &&& 31) := by decide +kernel
  have h := key (p 0) (p 1) (p 2) (p 3) (p 4) (p 5)
  have hp : ∀ r : Nat → Bool, setF (fun i => match i with | 0 => r 0 | 1 => r 1 | 2 => r 2 | 3 => r 3 | 4 => r 4 | _ => r 5) 6 = setF r 6 := fun _ => rfl
  obtain ⟨g0, g1, g2, g3, g4, g5⟩ := h
  rw [← hp q, ← hp p]
  have : j = 0 ∨ j = 1 ∨ j = 2 ∨ j = 3 ∨ j = 4 ∨ j = 5 := by omega
  rcases this with rfl | rfl | rfl | rfl | rfl | rfl
  · rw [h2, h1 1 (by omega), h1 2 (by omega), h1 3 (by omega), h1 4 (by omega), h1 5 (by omega)]; exact g0
  · rw [h2, h1 0 (by omega), h1 2 (by omega), h1 3 (by omega), h1 4 (by omega), h1 5 (by omega)]; exact g1
  · rw [h2, h1 0 (by omega), h1 1 (by omega), h1 3 (by omega), h1 4 (by omega), h1 5 (by omega)]; exact g2
  · rw [h2, h1 0 (by omega), h1 1 (by omega), h1 2 (by omega), h1 4 (by omega), h1 5 (by omega)]; exact g3
  · rw [h2, h1 0 (by omega), h1 1 (by omega), h1 2 (by omega), h1 3 (by omega), h1 5 (by omega)]; exact g4
  · rw [h2, h1 0 (by omega), h1 1 (by omega), h1 2 (by omega), h1 3 (by omega), h1 4 (by omega)]; exact g5
theorem wayL_low {on on' : Nat → Nat} {N : Nat} (h : ∀ j, 1 ≤ j → j < 6 → on j < j) (e : ∀ j, j < N → on' j = on j) (hN : N ≤ 6) : ∀ (f j : Nat), j < N → wayL on' f j = wayL on f j
  | 0, _, _ => rfl
  | f + 1, j, hj => by
    unfold wayL
    by_cases z : j = 0
    · rw [if_pos z, if_pos z]
    · rw [if_neg z, if_neg z, e j hj, wayL_low h e hN f (on j) (by have := h j (by omega) (by omega); omega)]
theorem nodeS_eq {S : Nat → Int32} {j : Nat} {t : Int32} (hj : j < vN S 3) : nodeS S j t = upd (upd (upd (upd (upd S (16 + 25 * vN S 3) (nI j)) (16 + 25 * vN S 3 + 1) t) 3 (nI (vN S 3 + 1))) (16 + 25 * j + 4 + cntS S j) (nI (100 + vN S 3))) (16 + 25 * j + 3) (nI (cntS S j + 1)) := by
  have e : vN (upd (upd (upd S (16 + 25 * vN S 3) (nI j)) (16 + 25 * vN S 3 + 1) t) 3 (nI (vN S 3 + 1))) (16 + 25 * j + 3) = cntS S j := by
    show (upd (upd (upd S (16 + 25 * vN S 3) (nI j)) (16 + 25 * vN S 3 + 1) t) 3 (nI (vN S 3 + 1)) (16 + 25 * j + 3)).toNatClampNeg = _
    rw [upd_n (by omega), upd_n (by omega), upd_n (by omega)]
  unfold nodeS hangS
  rw [e]
theorem nodeS_n {S : Nat → Int32} {j p : Nat} {t : Int32} (hj : j < vN S 3) (h1 : p ≠ 3) (h2 : p ≠ 16 + 25 * vN S 3) (h3 : p ≠ 16 + 25 * vN S 3 + 1) (h4 : p ≠ 16 + 25 * j + 3) (h5 : p ≠ 16 + 25 * j + 4 + cntS S j) : nodeS S j t p = S p := by
  rw [nodeS_eq hj, upd_n h4, upd_n h5, upd_n h1, upd_n h3, upd_n h2]
theorem nodeS_v {S : Nat → Int32} {j : Nat} {t : Int32} (hj : j < vN S 3) (hc : cntS S j ≤ 20) : nodeS S j t 3 = nI (vN S 3 + 1) ∧ nodeS S j t (16 + 25 * vN S 3) = nI j ∧ nodeS S j t (16 + 25 * vN S 3 + 1) = t ∧ nodeS S j t (16 + 25 * j + 3) = nI (cntS S j + 1) ∧ nodeS S j t (16 + 25 * j + 4 + cntS S j) = nI (100 + vN S 3) := by
  have hc' : cntS S j ≤ 20 := hc
  rw [nodeS_eq hj]
  refine ⟨?_, ?_, ?_, upd_s, ?_⟩
  · rw [upd_n (by omega), upd_n (by omega), upd_s]
  · rw [upd_n (by omega), upd_n (by omega), upd_n (by omega), upd_n (by omega), upd_s]
  · rw [upd_n (by omega), upd_n (by omega), upd_n (by omega), upd_s]
  · rw [upd_n (by omega), upd_s]
theorem node_way {S T : Nat → Int32} {N : Nat} (hI : InvB S) (hN : N ≤ 6) (ho : ∀ i, i < N → T (16 + 25 * i) = S (16 + 25 * i)) {j : Nat} (hj : j < N) : wayS T j = wayS S j := by
  unfold wayS
  exact wayL_low hI.on (fun i hi => by unfold onS vN; rw [ho i hi]) hN (j + 1) j hj
theorem node_rel {I J : pw_I} {b j : Nat} {S : Nat → Int32} {t : Int32} (h : RelB I b S) (hI : InvB S) (h6 : vN S 3 < 6) (hj : j < vN S 3) (hc : cntS S j ≤ 20)
    (hJ : ∀ a, a ≠ b + 2 + 3 * vN S 3 → J a = I a) (m1 : J (b + 2 + 3 * vN S 3) 1 = nI j) (m2 : J (b + 2 + 3 * vN S 3) 2 = t) (m3 : J (b + 2 + 3 * vN S 3) 3 = wayF S j ||| (1 : Int32) <<< (nI (vN S 3) &&& 31)) :
    RelB (pw_up (pw_set (pw_set J (b + 4 + 3 * j) (insF (J (b + 4 + 3 * j)) (cntS S j) (cntS S j) (nI (100 + vN S 3)))) (b + 3 + 3 * j) (upd (J (b + 3 + 3 * j)) 1 (nI (cntS S j + 1)))) b 2 (nI (vN S 3 + 1))) b (nodeS S j t) := by
  obtain ⟨⟨f1, f2, f3, f4, f5, f6, f7⟩, hN, hL, hS, hY, hW⟩ := h
  have hc' : cntS S j ≤ 20 := hc
  obtain ⟨v3, vn0, vn1, vj3, vjc⟩ := nodeS_v (t := t) hj hc
  have vv3 : vN (nodeS S j t) 3 = vN S 3 + 1 := by
    show (nodeS S j t 3).toNatClampNeg = _
    rw [v3, cl_nI (by omega)]
  have hi : ∀ p, 166 ≤ p → nodeS S j t p = S p := fun p hp => nodeS_n hj (by omega) (by omega) (by omega) (by omega) (by omega)
  have lo : ∀ p, p < 16 → p ≠ 3 → nodeS S j t p = S p := fun p hp h3 => nodeS_n hj h3 (by omega) (by omega) (by omega) (by omega)
  have nd : ∀ i c, i ≠ vN S 3 → c < 3 → nodeS S j t (16 + 25 * i + c) = S (16 + 25 * i + c) := fun i c h1 h2 => nodeS_n hj (by omega) (by omega) (by omega) (by omega) (by omega)
  have n2 : ∀ i, nodeS S j t (16 + 25 * i + 2) = S (16 + 25 * i + 2) := fun i => nodeS_n hj (by omega) (by omega) (by omega) (by omega) (by omega)
  have n0 : ∀ i, i < vN S 3 → nodeS S j t (16 + 25 * i) = S (16 + 25 * i) := fun i h1 => nd i 0 (by omega) (by omega)
  have oth : ∀ i c, i ≠ j → 3 ≤ c → c < 25 → nodeS S j t (16 + 25 * i + c) = S (16 + 25 * i + c) := fun i c h1 h2 h3 => nodeS_n hj (by omega) (by omega) (by omega) (by omega) (by omega)
  have cnt : ∀ i, i ≠ j → cntS (nodeS S j t) i = cntS S i := fun i h1 => by
    show (nodeS S j t (16 + 25 * i + 3)).toNatClampNeg = (S (16 + 25 * i + 3)).toNatClampNeg
    rw [oth i 3 h1 (by omega) (by omega)]
  have cj : cntS (nodeS S j t) j = cntS S j + 1 := by
    show (nodeS S j t (16 + 25 * j + 3)).toNatClampNeg = _
    rw [vj3, cl_nI (by omega)]
  have mem : ∀ a, a ≠ b → a ≠ b + 4 + 3 * j → a ≠ b + 3 + 3 * j → pw_up (pw_set (pw_set J (b + 4 + 3 * j) (insF (J (b + 4 + 3 * j)) (cntS S j) (cntS S j) (nI (100 + vN S 3)))) (b + 3 + 3 * j) (upd (J (b + 3 + 3 * j)) 1 (nI (cntS S j + 1)))) b 2 (nI (vN S 3 + 1)) a = J a := fun a a1 a2 a3 => by
    rw [up_set, set_n a1, set_n a3, set_n a2]
  have mb : pw_up (pw_set (pw_set J (b + 4 + 3 * j) (insF (J (b + 4 + 3 * j)) (cntS S j) (cntS S j) (nI (100 + vN S 3)))) (b + 3 + 3 * j) (upd (J (b + 3 + 3 * j)) 1 (nI (cntS S j + 1)))) b 2 (nI (vN S 3 + 1)) b = upd (I b) 2 (nI (vN S 3 + 1)) := by
    rw [up_set, set_s, set_n (by omega), set_n (by omega), hJ b (by omega)]
  have m4 : pw_up (pw_set (pw_set J (b + 4 + 3 * j) (insF (J (b + 4 + 3 * j)) (cntS S j) (cntS S j) (nI (100 + vN S 3)))) (b + 3 + 3 * j) (upd (J (b + 3 + 3 * j)) 1 (nI (cntS S j + 1)))) b 2 (nI (vN S 3 + 1)) (b + 4 + 3 * j) = upd (I (b + 4 + 3 * j)) (cntS S j) (nI (100 + vN S 3)) := by
    rw [up_set, set_n (by omega), set_n (by omega), set_s, insF_n, hJ _ (by omega)]
  have m5 : pw_up (pw_set (pw_set J (b + 4 + 3 * j) (insF (J (b + 4 + 3 * j)) (cntS S j) (cntS S j) (nI (100 + vN S 3)))) (b + 3 + 3 * j) (upd (J (b + 3 + 3 * j)) 1 (nI (cntS S j + 1)))) b 2 (nI (vN S 3 + 1)) (b + 3 + 3 * j) 1 = nI (cntS S j + 1) := by
    rw [up_set, set_n (by omega), set_s, upd_s]
  generalize pw_up (pw_set (pw_set J (b + 4 + 3 * j) (insF (J (b + 4 + 3 * j)) (cntS S j) (cntS S j) (nI (100 + vN S 3)))) (b + 3 + 3 * j) (upd (J (b + 3 + 3 * j)) 1 (nI (cntS S j + 1)))) b 2 (nI (vN S 3 + 1)) = M at mem mb m4 m5 ⊢
  have memI : ∀ a, a ≠ b → a ≠ b + 4 + 3 * j → a ≠ b + 3 + 3 * j → a ≠ b + 2 + 3 * vN S 3 → M a = I a := fun a a1 a2 a3 a4 => (mem a a1 a2 a3).trans (hJ a a4)
  have wy : ∀ i, i < 6 → i ≠ vN S 3 → wayF (nodeS S j t) i = wayF S i := fun i h1 h2 => by
    unfold wayF
    rw [vv3]
    by_cases q : i < vN S 3
    · rw [if_pos q, if_pos (by omega), node_way hI (by omega) n0 q]
    · rw [if_neg q, if_neg (by omega)]
  have wyN : wayF (nodeS S j t) (vN S 3) = wayF S j ||| (1 : Int32) <<< (nI (vN S 3) &&& 31) := by
    have hw : wayS (nodeS S j t) (vN S 3) = vN S 3 :: wayS S j := by
      have hon : onS (nodeS S j t) (vN S 3) = j := by
        unfold onS
        show (nodeS S j t (16 + 25 * vN S 3)).toNatClampNeg = j
        rw [vn0, cl_nI (by omega)]
      show wayL _ (vN S 3 + 1) (vN S 3) = _
      unfold wayL
      rw [if_neg (by omega), hon]
      congr 1
      rw [wayL_low hI.on (fun i hi => by unfold onS vN; rw [n0 i hi]) (by omega) _ j hj, wayL_fuel hI.on (vN S 3) (j + 1) j (by omega) hj (by omega)]
      rfl
    unfold wayF
    rw [vv3, if_pos (by omega), if_pos hj, hw]
    refine set6o h6 (fun i hi => ?_) ?_
    · rw [List.contains_cons, show (i == vN S 3) = false from by simpa using hi, Bool.false_or]
    · rw [List.contains_cons, beq_self_eq_true, Bool.true_or]
  refine ⟨⟨?_, ?_, ?_, ?_, ?_, ?_, ?_⟩, fun i h1 => ?_, fun k hk => (hL k hk).to (memI _ (by omega) (by omega) (by omega) (by omega)) (fun c hc => hi _ (by omega)), hS.to (memI _ (by omega) (by omega) (by omega) (by omega)) (memI _ (by omega) (by omega) (by omega) (by omega)) hI.2.2.1.2 (fun i h1 h2 => lo i (by omega) (by omega)), fun k hk => ?_, hW.to (memI _ (by omega) (by omega) (by omega) (by omega)) (memI _ (by omega) (by omega) (by omega) (by omega)) hI.2.1.2 (lo 4 (by omega) (by omega)) (fun k hk => hi _ (by omega)) (fun k hk => hi _ (by omega)) (fun k hk => hi _ (by omega))⟩
  · rw [mb, upd_s, v3]
  · rw [mb, upd_n (by omega), lo 4 (by omega) (by omega)]; exact f2
  · rw [mb, upd_n (by omega), f3]
    unfold setF setF setF setF setF setF setF
    rw [n2 0, n2 1, n2 2, n2 3, n2 4, n2 5]
  · rw [mb, upd_n (by omega), lo 0 (by omega) (by omega)]; exact f4
  · rw [mb, upd_n (by omega), lo 1 (by omega) (by omega)]; exact f5
  · rw [mb, upd_n (by omega), lo 2 (by omega) (by omega)]; exact f6
  · rw [mb, upd_n (by omega), lo 9 (by omega) (by omega)]; exact f7
  · obtain ⟨a1, a2, a3, a4, a5⟩ := hN i h1
    by_cases e : i = vN S 3
    · subst e
      unfold relN
      rw [cnt _ (by omega), mem (b + 2 + 3 * vN S 3) (by omega) (by omega) (by omega), memI (b + 3 + 3 * vN S 3) (by omega) (by omega) (by omega) (by omega), memI (b + 4 + 3 * vN S 3) (by omega) (by omega) (by omega) (by omega), vn0, vn1, wyN, oth _ 3 (by omega) (by omega) (by omega)]
      refine ⟨m1, m2, m3, a4, fun c hc => ?_⟩
      have h21 : cntS S (vN S 3) ≤ 21 := (hI.2.2.2.1 _ h6).2.2.2
      rw [show 16 + 25 * vN S 3 + 4 + c = 16 + 25 * vN S 3 + (4 + c) by omega, oth _ (4 + c) (by omega) (by omega) (by omega), show 16 + 25 * vN S 3 + (4 + c) = 16 + 25 * vN S 3 + 4 + c by omega]
      exact a5 c hc
    · by_cases e2 : i = j
      · subst e2
        unfold relN
        rw [cj, memI (b + 2 + 3 * i) (by omega) (by omega) (by omega) (by omega), m5, m4, wy i h1 e, vj3, show nodeS S i t (16 + 25 * i) = S (16 + 25 * i) from nd i 0 e (by omega), nd i 1 e (by omega)]
        refine ⟨a1, a2, a3, rfl, fun c hc => ?_⟩
        by_cases z : c = cntS S i
        · subst z
          rw [upd_s, vjc]
        · rw [upd_n z, a5 c (by omega)]
          exact (nodeS_n hj (by omega) (by omega) (by omega) (by omega) (by omega)).symm
      · exact (hN i h1).to (memI _ (by omega) (by omega) (by omega) (by omega)) (memI _ (by omega) (by omega) (by omega) (by omega)) (memI _ (by omega) (by omega) (by omega) (by omega)) (nd i 0 e (by omega)) (nd i 1 e (by omega)) (oth i 3 e2 (by omega) (by omega)) (fun c hc => by rw [show 16 + 25 * i + 4 + c = 16 + 25 * i + (4 + c) by omega]; exact oth i (4 + c) e2 (by omega) (by omega)) (hI.2.2.2.1 i h1).2.2.2 (wy i h1 e)
  · have e4 : vN (nodeS S j t) 4 = vN S 4 := by unfold vN; rw [lo 4 (by omega) (by omega)]
    rw [e4] at hk
    obtain ⟨y1, y2, y3⟩ := hY k hk
    have ek : vN (nodeS S j t) (166 + 13 * k) = vN S (166 + 13 * k) := by unfold vN; rw [hi _ (by omega)]
    have hnd := (hI.2.2.2.2.2.1 k y1).1.2
    rw [ek, memI (b + 21 + k) (by omega) (by omega) (by omega) (by omega), memI (b + 2 + 3 * vN S (166 + 13 * k)) (by omega) (by omega) (by omega) (by omega)]
    exact ⟨y1, y2, y3⟩
section ADN
variable {n base b : Nat} {sh : pw_Sh} {P : pw_P} {Ag : List Value} {I : pw_I} {S : Nat → Int32} {K : Option Value → pw_I → Prop}
def w_addNode (b : Nat) (S : Nat → Int32) : pw_Wp := fun Ag I K => match Ag with
  | [.ref o, .int x, .int t] => o = b ∧ InvB S ∧ RelB I b S ∧ (vN S 3 < 6 → ∀ j, j < vN S 3 → cntS S j ≤ 20) ∧ (¬ (okNode S x ∧ bit01 t) → K (some (.int (-1))) I) ∧ (okNode S x ∧ bit01 t → vN S 3 = 6 → K (some (.int (-3))) I) ∧
    (okNode S x ∧ bit01 t → vN S 3 < 6 → ∀ J, brdOK b I J → RelB J b (nodeS S x.toNatClampNeg t) → K (some (.int (nI (vN S 3)))) J)
  | _ => False
set_option maxRecDepth 100000 in
set_option maxHeartbeats 4000000 in
theorem x_addNode (hM : pw_brd sh P b) (h : w_addNode b S Ag I K) : pw_ok mX0_addNode 1 base n sh P Ag I K := by
  unfold w_addNode at h
  split at h
  · rename_i o x t
    obtain ⟨rfl, hI, hR, hcn, hA, hB, hC⟩ := h
    obtain ⟨b0, ⟨b1, b2⟩, bN, -⟩ := id hM
    have h3 := hI.1
    have rF := hR.1
    have l3 : (S 3).toInt = (vN S 3 : Int) := (congrArg Int32.toInt h3.1).trans (ti_nI (by omega))
    have e2 : I o 2 = nI (vN S 3) := rF.1.trans h3.1
    refine pw_bd [_, _, _, _, _, _] pl_X0 c_rii rfl rfl ?_
    by_cases hx : okNode S x ∧ bit01 t
    · obtain ⟨hx1, hx2⟩ := id hx
      obtain ⟨j, rfl, hj⟩ := tn6 (x := x) ⟨hx1.1, by have := hx1.2; omega⟩
      have cj : (nI j).toNatClampNeg = j := cl_nI (by omega)
      have hj3 : j < vN S 3 := by have := hx1.2; rw [ti_nI (by omega), l3] at this; omega
      have hB := hB hx
      have hC := hC hx
      rw [cj] at hC
      by_cases h6 : vN S 3 = 6
      · have hB := hB h6
        rw [h6] at e2
        refine pw_go okX0_addNode (cc [(2, (w_hasNode o S)), (91, w_bit)]) ⟨Nat.le_refl _, Nat.le_refl _⟩ (cc_c (fun Ag I K h => ⟨0, Nat.le_of_ble_eq_true rfl, x_hasNode hM h⟩) (cc_c (fun Ag I K h => ⟨0, Nat.le_of_ble_eq_true rfl, x_isBit6 h⟩) cc_n)) (st1 29) 60 ?_
        simp only [↓f_vc_s, ↓vk_i, ↓cc_i, ↓reduceIte, f_vq_s, Bool.false_eq_true, ↓f_e_iconst, ↓f_e_bipush, ↓f_e_sipush, ↓f_e_ldc, ↓f_e_ldc_w, ↓f_e_iload_n, ↓f_e_iload, ↓f_e_aload_n, ↓f_e_aload, ↓f_e_istore_n, ↓f_e_istore, ↓f_e_astore_n, ↓f_e_astore, ↓f_e_iinc, ↓f_e_iadd, ↓f_e_isub, ↓f_e_imul, ↓f_e_iand, ↓f_e_ior, ↓f_e_ixor, ↓f_e_idiv, ↓f_e_irem, ↓f_e_ishl, ↓f_e_ishr, ↓f_e_iushr, ↓f_e_i2c, ↓f_e_dup, ↓f_e_dup2, ↓f_e_pop, ↓f_e_goto, ↓f_e_ifCond, ↓f_e_if_icmp, ↓f_e_tableswitch, ↓f_e_lookupswitch, ↓f_e_getfield_i, ↓f_e_getfield_r, ↓f_e_putfield_i, ↓f_e_putfield_z, ↓f_e_iaload, ↓f_e_caload, ↓f_e_aaload, ↓f_e_iastore, ↓f_e_castore, ↓f_e_arraylength, ↓f_e_invokestatic, ↓f_e_invokevirtual, ↓f_e_ireturn, ↓f_e_return_, ↓f_s_i_c, ↓f_s_r_c, ↓f_s_v_i, ↓f_s_v_r, ↓f_s_l_0, ↓s_l_1, ↓s_l_2, ↓s_l_3, ↓s_l_4, ↓s_l_5, ↓s_l_6, ↓s_a_0, ↓s_a_1, ↓s_a_2, ↓s_a_3, ↓s_m_0, ↓f_s_m_i, ↓f_s_m_r, ↓f_s_m_i7, ↓f_s_m_r7, ↓f_s_m_i6, ↓f_s_m_r6, ↓f_s_m_i5, ↓f_s_m_r5, ↓f_s_m_i4, ↓f_s_m_r4, ↓f_s_w_n, ↓f_s_w_c, ↓f_s_p_eq, ↓f_s_p_ne, ↓f_s_p_lt, ↓f_s_p_ge, ↓f_s_p_gt, ↓f_s_p_le, ↓nk_i, ↓nk_z, ↓nk_c, ↓rf_s, ↓ov_s, ↓ov_n, ↓fin0, ↓fin1, ↓fin2, ↓fin3, cond_true, cond_false, List.set_cons_zero, List.set_cons_succ, List.length_cons, List.length_nil, true_and, and_true, true_or, or_true, implies_true, forall_const, not_true_eq_false, not_false_eq_true, false_implies, Nat.reduceAdd, Nat.reduceLT, Nat.reduceBEq, Nat.reduceEqDiff, Bool.or_false, Bool.false_or, Bool.or_true, Bool.true_or, beq_self_eq_true, Nat.reduceLeDiff, Nat.reduceMul, Nat.reduceSub, eq_self, Nat.reduceBneDiff, st0_s, st1_s, st2_s, st3_s, reduceCtorEq, cc_0, tl_0, cl_0, il_0, tl_1, cl_1, il_1, tl_2, cl_2, il_2, tl_3, cl_3, il_3, tl_4, cl_4, il_4, tl_5, cl_5, il_5, tl_6, cl_6, il_6, tl_7, cl_7, il_7, tl_8, cl_8, il_8, tl_9, cl_9, il_9, tl_10, cl_10, il_10, tl_11, cl_11, il_11, tl_12, cl_12, il_12, tl_13, cl_13, il_13, tl_14, cl_14, il_14, tl_15, cl_15, il_15, tl_16, cl_16, il_16, tl_20, tl_21, tl_25, tl_32, tl_48, tl_50, tl_57, tl_58, tl_59, tl_60, tl_99, tl_100, tl_101, tl_108, tl_109, tl_116, tl_120, tl_126, tl_374, tl_1122, tl_50000, i10, i01, tl_m1, tl_m2, tl_m3, tl_m4, nr_X0_addNode, tX0_addNode_0, tX0_addNode_1, tX0_addNode_2, tX0_addNode_5, tX0_addNode_8, tX0_addNode_9, tX0_addNode_12, tX0_addNode_15, tX0_addNode_16, tX0_addNode_17, tX0_addNode_18, tX0_addNode_21, tX0_addNode_23, tX0_addNode_26, tX0_addNode_28, tX0_addNode_29, tX0_addNode_30, tX0_addNode_33, tX0_addNode_34, tX0_addNode_35, tX0_addNode_38, tX0_addNode_39, tX0_addNode_40, tX0_addNode_42, tX0_addNode_44, tX0_addNode_45, tX0_addNode_48, tX0_addNode_50, tX0_addNode_51, tX0_addNode_52, tX0_addNode_55, tX0_addNode_56, tX0_addNode_59, tX0_addNode_60, tX0_addNode_63, tX0_addNode_65, tX0_addNode_66, tX0_addNode_69, tX0_addNode_70, tX0_addNode_71, tX0_addNode_74, tX0_addNode_75, tX0_addNode_76, tX0_addNode_77, tX0_addNode_78, tX0_addNode_81, tX0_addNode_82, tX0_addNode_85, tX0_addNode_86, tX0_addNode_87, tX0_addNode_90, tX0_addNode_92, tX0_addNode_94, tX0_addNode_96, tX0_addNode_99, tX0_addNode_101, tX0_addNode_102, tX0_addNode_103, tX0_addNode_106, tX0_addNode_107, tX0_addNode_108, tX0_addNode_111, tX0_addNode_112, tX0_addNode_113, tX0_addNode_116, tX0_addNode_117, pw_QK_s, b0, e2, ↓w_hasNode, ↓w_bit]
        exact ⟨rF, fun _ => ⟨fun _ => ⟨fun q => absurd q (by decide), fun _ => hB⟩, fun q => absurd hx2 q⟩, fun q => absurd hx1 q⟩
      · have h6 : vN S 3 < 6 := by omega
        have hC := hC h6
        have hc := hcn h6 j hj3
        have cN : (nI (vN S 3)).toNatClampNeg = vN S 3 := cl_nI (by omega)
        obtain ⟨⟨n1, n2⟩, n4, n5⟩ := bN j hj
        obtain ⟨⟨q1, q2⟩, -, -⟩ := bN (vN S 3) h6
        obtain ⟨r1, r2, r3, r4, r5⟩ := hR.2.1 j hj
        have hcj := (hI.2.2.2.1 j hj).2.2.1
        have tail : ∀ (J : pw_I), (∀ a : Nat, a ≠ (o : Nat) + 2 + 3 * vN S 3 → J a = I a) → J (o + 2 + 3 * vN S 3) 1 = nI j → J (o + 2 + 3 * vN S 3) 2 = t → J (o + 2 + 3 * vN S 3) 3 = wayF S j ||| (1 : Int32) <<< (nI (vN S 3) &&& 31) →
            PW (mX0_addNode, 1, 0, 0, none, base) n sh P J 0 0 92 [some (.ref o), some (.int (nI j)), some (.int t), some (.int (nI (vN S 3))), some (.ref (o + 2 + 3 * vN S 3)), some (.ref (o + 3 + 3 * j))] [] (pw_QK n sh P K) := by
          intro J hJ m1 m2 m3
          have hfin := node_rel (t := t) hR hI h6 hj3 hc hJ m1 m2 m3
          have j4 : J (o + 3 + 3 * j) 1 = nI (cntS S j) := by rw [hJ _ (by omega)]; exact r4.trans hcj
          have jb : J o 2 = nI (vN S 3) := by rw [hJ _ (by omega)]; exact e2
          refine pw_go okX0_addNode (cc [(61, (w_insert (o + 3 + 3 * j) (o + 4 + 3 * j)))]) ⟨Nat.le_refl _, Nat.le_refl _⟩ (cc_c (fun Ag I K h => ⟨0, Nat.le_of_ble_eq_true rfl, x_insert n5 h⟩) cc_n) (st0) 60 ?_
          simp only [↓f_vc_s, ↓vk_i, ↓cc_i, ↓reduceIte, f_vq_s, Bool.false_eq_true, ↓f_e_iconst, ↓f_e_bipush, ↓f_e_sipush, ↓f_e_ldc, ↓f_e_ldc_w, ↓f_e_iload_n, ↓f_e_iload, ↓f_e_aload_n, ↓f_e_aload, ↓f_e_istore_n, ↓f_e_istore, ↓f_e_astore_n, ↓f_e_astore, ↓f_e_iinc, ↓f_e_iadd, ↓f_e_isub, ↓f_e_imul, ↓f_e_iand, ↓f_e_ior, ↓f_e_ixor, ↓f_e_idiv, ↓f_e_irem, ↓f_e_ishl, ↓f_e_ishr, ↓f_e_iushr, ↓f_e_i2c, ↓f_e_dup, ↓f_e_dup2, ↓f_e_pop, ↓f_e_goto, ↓f_e_ifCond, ↓f_e_if_icmp, ↓f_e_tableswitch, ↓f_e_lookupswitch, ↓f_e_getfield_i, ↓f_e_getfield_r, ↓f_e_putfield_i, ↓f_e_putfield_z, ↓f_e_iaload, ↓f_e_caload, ↓f_e_aaload, ↓f_e_iastore, ↓f_e_castore, ↓f_e_arraylength, ↓f_e_invokestatic, ↓f_e_invokevirtual, ↓f_e_ireturn, ↓f_e_return_, ↓f_s_i_c, ↓f_s_r_c, ↓f_s_v_i, ↓f_s_v_r, ↓f_s_l_0, ↓s_l_1, ↓s_l_2, ↓s_l_3, ↓s_l_4, ↓s_l_5, ↓s_l_6, ↓s_a_0, ↓s_a_1, ↓s_a_2, ↓s_a_3, ↓s_m_0, ↓f_s_m_i, ↓f_s_m_r, ↓f_s_m_i7, ↓f_s_m_r7, ↓f_s_m_i6, ↓f_s_m_r6, ↓f_s_m_i5, ↓f_s_m_r5, ↓f_s_m_i4, ↓f_s_m_r4, ↓f_s_w_n, ↓f_s_w_c, ↓f_s_p_eq, ↓f_s_p_ne, ↓f_s_p_lt, ↓f_s_p_ge, ↓f_s_p_gt, ↓f_s_p_le, ↓nk_i, ↓nk_z, ↓nk_c, ↓rf_s, ↓ov_s, ↓ov_n, ↓fin0, ↓fin1, ↓fin2, ↓fin3, cond_true, cond_false, List.set_cons_zero, List.set_cons_succ, List.length_cons, List.length_nil, true_and, and_true, true_or, or_true, implies_true, forall_const, not_true_eq_false, not_false_eq_true, false_implies, Nat.reduceAdd, Nat.reduceLT, Nat.reduceBEq, Nat.reduceEqDiff, Bool.or_false, Bool.false_or, Bool.or_true, Bool.true_or, beq_self_eq_true, Nat.reduceLeDiff, Nat.reduceMul, Nat.reduceSub, eq_self, Nat.reduceBneDiff, st0_s, st1_s, st2_s, st3_s, reduceCtorEq, cc_0, tl_0, cl_0, il_0, tl_1, cl_1, il_1, tl_2, cl_2, il_2, tl_3, cl_3, il_3, tl_4, cl_4, il_4, tl_5, cl_5, il_5, tl_6, cl_6, il_6, tl_7, cl_7, il_7, tl_8, cl_8, il_8, tl_9, cl_9, il_9, tl_10, cl_10, il_10, tl_11, cl_11, il_11, tl_12, cl_12, il_12, tl_13, cl_13, il_13, tl_14, cl_14, il_14, tl_15, cl_15, il_15, tl_16, cl_16, il_16, tl_20, tl_21, tl_25, tl_32, tl_48, tl_50, tl_57, tl_58, tl_59, tl_60, tl_99, tl_100, tl_101, tl_108, tl_109, tl_116, tl_120, tl_126, tl_374, tl_1122, tl_50000, i10, i01, tl_m1, tl_m2, tl_m3, tl_m4, nr_X0_addNode, tX0_addNode_0, tX0_addNode_1, tX0_addNode_2, tX0_addNode_5, tX0_addNode_8, tX0_addNode_9, tX0_addNode_12, tX0_addNode_15, tX0_addNode_16, tX0_addNode_17, tX0_addNode_18, tX0_addNode_21, tX0_addNode_23, tX0_addNode_26, tX0_addNode_28, tX0_addNode_29, tX0_addNode_30, tX0_addNode_33, tX0_addNode_34, tX0_addNode_35, tX0_addNode_38, tX0_addNode_39, tX0_addNode_40, tX0_addNode_42, tX0_addNode_44, tX0_addNode_45, tX0_addNode_48, tX0_addNode_50, tX0_addNode_51, tX0_addNode_52, tX0_addNode_55, tX0_addNode_56, tX0_addNode_59, tX0_addNode_60, tX0_addNode_63, tX0_addNode_65, tX0_addNode_66, tX0_addNode_69, tX0_addNode_70, tX0_addNode_71, tX0_addNode_74, tX0_addNode_75, tX0_addNode_76, tX0_addNode_77, tX0_addNode_78, tX0_addNode_81, tX0_addNode_82, tX0_addNode_85, tX0_addNode_86, tX0_addNode_87, tX0_addNode_90, tX0_addNode_92, tX0_addNode_94, tX0_addNode_96, tX0_addNode_99, tX0_addNode_101, tX0_addNode_102, tX0_addNode_103, tX0_addNode_106, tX0_addNode_107, tX0_addNode_108, tX0_addNode_111, tX0_addNode_112, tX0_addNode_113, tX0_addNode_116, tX0_addNode_117, pw_QK_s, b0, b1, b2, n4, n5.1, j4, ↓w_insert]
          rw [jx_100]
          refine ⟨cntS S j, cntS S j, rfl, hc, rfl, Nat.le_refl _, ?_⟩
          have eb : pw_set (pw_set J (o + 4 + 3 * j) (insF (J (o + 4 + 3 * j)) (cntS S j) (cntS S j) (nI (100 + vN S 3)))) (o + 3 + 3 * j) (upd (J (o + 3 + 3 * j)) 1 (nI (cntS S j + 1))) o 2 = nI (vN S 3) := by
            rw [set_n (by omega), set_n (by omega)]; exact jb
          rw [eb, ix_1]
          refine hC _ (fun a h => ?_) hfin
          rw [up_set, set_n (by omega), set_n (by omega), set_n (by omega)]
          exact hJ a (by omega)
        have fin : ∀ (y : Int32), y = t → PW (mX0_addNode, 1, 0, 0, none, base) n sh P (pw_up (pw_up (pw_up I (o + 2 + 3 * vN S 3) 1 (nI j)) (o + 2 + 3 * vN S 3) 2 y) (o + 2 + 3 * vN S 3) 3 (wayF S j ||| (1 : Int32) <<< (nI (vN S 3) &&& 31))) 0 0 92 [some (.ref o), some (.int (nI j)), some (.int t), some (.int (nI (vN S 3))), some (.ref (o + 2 + 3 * vN S 3)), some (.ref (o + 3 + 3 * j))] [] (pw_QK n sh P K) := fun y hy => by
          subst hy
          refine tail _ (fun a h => ?_) ?_ ?_ ?_
          · rw [up_set, set_n h, up_set, set_n h, up_set, set_n h]
          · rw [up_n (by omega), up_n (by omega), up_r]
          · rw [up_n (by omega), up_r]
          · rw [up_r]
        have w3 : ∀ y, pw_up (pw_up I (o + 2 + 3 * vN S 3) 1 (nI j)) (o + 2 + 3 * vN S 3) 2 y (o + 2 + 3 * j) 3 = wayF S j := fun y => by
          rw [up_set, set_n (by omega), up_set, set_n (by omega)]; exact r3
        refine pw_go okX0_addNode (cc [(2, (w_hasNode o S)), (91, w_bit)]) ⟨Nat.le_refl _, Nat.le_refl _⟩ (cc_c (fun Ag I K h => ⟨0, Nat.le_of_ble_eq_true rfl, x_hasNode hM h⟩) (cc_c (fun Ag I K h => ⟨0, Nat.le_of_ble_eq_true rfl, x_isBit6 h⟩) cc_n)) (st1 92) 60 ?_
        simp only [↓f_vc_s, ↓vk_i, ↓cc_i, ↓reduceIte, f_vq_s, Bool.false_eq_true, ↓f_e_iconst, ↓f_e_bipush, ↓f_e_sipush, ↓f_e_ldc, ↓f_e_ldc_w, ↓f_e_iload_n, ↓f_e_iload, ↓f_e_aload_n, ↓f_e_aload, ↓f_e_istore_n, ↓f_e_istore, ↓f_e_astore_n, ↓f_e_astore, ↓f_e_iinc, ↓f_e_iadd, ↓f_e_isub, ↓f_e_imul, ↓f_e_iand, ↓f_e_ior, ↓f_e_ixor, ↓f_e_idiv, ↓f_e_irem, ↓f_e_ishl, ↓f_e_ishr, ↓f_e_iushr, ↓f_e_i2c, ↓f_e_dup, ↓f_e_dup2, ↓f_e_pop, ↓f_e_goto, ↓f_e_ifCond, ↓f_e_if_icmp, ↓f_e_tableswitch, ↓f_e_lookupswitch, ↓f_e_getfield_i, ↓f_e_getfield_r, ↓f_e_putfield_i, ↓f_e_putfield_z, ↓f_e_iaload, ↓f_e_caload, ↓f_e_aaload, ↓f_e_iastore, ↓f_e_castore, ↓f_e_arraylength, ↓f_e_invokestatic, ↓f_e_invokevirtual, ↓f_e_ireturn, ↓f_e_return_, ↓f_s_i_c, ↓f_s_r_c, ↓f_s_v_i, ↓f_s_v_r, ↓f_s_l_0, ↓s_l_1, ↓s_l_2, ↓s_l_3, ↓s_l_4, ↓s_l_5, ↓s_l_6, ↓s_a_0, ↓s_a_1, ↓s_a_2, ↓s_a_3, ↓s_m_0, ↓f_s_m_i, ↓f_s_m_r, ↓f_s_m_i7, ↓f_s_m_r7, ↓f_s_m_i6, ↓f_s_m_r6, ↓f_s_m_i5, ↓f_s_m_r5, ↓f_s_m_i4, ↓f_s_m_r4, ↓f_s_w_n, ↓f_s_w_c, ↓f_s_p_eq, ↓f_s_p_ne, ↓f_s_p_lt, ↓f_s_p_ge, ↓f_s_p_gt, ↓f_s_p_le, ↓nk_i, ↓nk_z, ↓nk_c, ↓rf_s, ↓ov_s, ↓ov_n, ↓fin0, ↓fin1, ↓fin2, ↓fin3, cond_true, cond_false, List.set_cons_zero, List.set_cons_succ, List.length_cons, List.length_nil, true_and, and_true, true_or, or_true, implies_true, forall_const, not_true_eq_false, not_false_eq_true, false_implies, Nat.reduceAdd, Nat.reduceLT, Nat.reduceBEq, Nat.reduceEqDiff, Bool.or_false, Bool.false_or, Bool.or_true, Bool.true_or, beq_self_eq_true, Nat.reduceLeDiff, Nat.reduceMul, Nat.reduceSub, eq_self, Nat.reduceBneDiff, st0_s, st1_s, st2_s, st3_s, reduceCtorEq, cc_0, tl_0, cl_0, il_0, tl_1, cl_1, il_1, tl_2, cl_2, il_2, tl_3, cl_3, il_3, tl_4, cl_4, il_4, tl_5, cl_5, il_5, tl_6, cl_6, il_6, tl_7, cl_7, il_7, tl_8, cl_8, il_8, tl_9, cl_9, il_9, tl_10, cl_10, il_10, tl_11, cl_11, il_11, tl_12, cl_12, il_12, tl_13, cl_13, il_13, tl_14, cl_14, il_14, tl_15, cl_15, il_15, tl_16, cl_16, il_16, tl_20, tl_21, tl_25, tl_32, tl_48, tl_50, tl_57, tl_58, tl_59, tl_60, tl_99, tl_100, tl_101, tl_108, tl_109, tl_116, tl_120, tl_126, tl_374, tl_1122, tl_50000, i10, i01, tl_m1, tl_m2, tl_m3, tl_m4, nr_X0_addNode, tX0_addNode_0, tX0_addNode_1, tX0_addNode_2, tX0_addNode_5, tX0_addNode_8, tX0_addNode_9, tX0_addNode_12, tX0_addNode_15, tX0_addNode_16, tX0_addNode_17, tX0_addNode_18, tX0_addNode_21, tX0_addNode_23, tX0_addNode_26, tX0_addNode_28, tX0_addNode_29, tX0_addNode_30, tX0_addNode_33, tX0_addNode_34, tX0_addNode_35, tX0_addNode_38, tX0_addNode_39, tX0_addNode_40, tX0_addNode_42, tX0_addNode_44, tX0_addNode_45, tX0_addNode_48, tX0_addNode_50, tX0_addNode_51, tX0_addNode_52, tX0_addNode_55, tX0_addNode_56, tX0_addNode_59, tX0_addNode_60, tX0_addNode_63, tX0_addNode_65, tX0_addNode_66, tX0_addNode_69, tX0_addNode_70, tX0_addNode_71, tX0_addNode_74, tX0_addNode_75, tX0_addNode_76, tX0_addNode_77, tX0_addNode_78, tX0_addNode_81, tX0_addNode_82, tX0_addNode_85, tX0_addNode_86, tX0_addNode_87, tX0_addNode_90, tX0_addNode_92, tX0_addNode_94, tX0_addNode_96, tX0_addNode_99, tX0_addNode_101, tX0_addNode_102, tX0_addNode_103, tX0_addNode_106, tX0_addNode_107, tX0_addNode_108, tX0_addNode_111, tX0_addNode_112, tX0_addNode_113, tX0_addNode_116, tX0_addNode_117, pw_QK_s, b0, b1, b2, e2, cj, cN, n1, n2, n4, q1, q2, w3, ↓w_hasNode, ↓w_bit]
        refine ⟨rF, fun _ => ⟨fun _ => ⟨fun _ => ⟨in_nI h6 (by omega), fun q => ⟨in_nI hj (by omega), in_nI hj (by omega), fin 0 (hx2.elim (fun z => z.symm) (fun z => absurd z q))⟩, fun q => ⟨in_nI hj (by omega), in_nI hj (by omega), fin 1 q.symm⟩⟩, fun q => absurd (Int32.not_le.mp (nI_ge (a := vN S 3) (b := 6) h6 (by omega))) q⟩, fun q => absurd hx2 q⟩, fun q => absurd hx1 q⟩
    · have hA := hA hx
      refine pw_go okX0_addNode (cc [(2, (w_hasNode o S)), (91, w_bit)]) ⟨Nat.le_refl _, Nat.le_refl _⟩ (cc_c (fun Ag I K h => ⟨0, Nat.le_of_ble_eq_true rfl, x_hasNode hM h⟩) (cc_c (fun Ag I K h => ⟨0, Nat.le_of_ble_eq_true rfl, x_isBit6 h⟩) cc_n)) (st1 17) 60 ?_
      simp only [↓f_vc_s, ↓vk_i, ↓cc_i, ↓reduceIte, f_vq_s, Bool.false_eq_true, ↓f_e_iconst, ↓f_e_bipush, ↓f_e_sipush, ↓f_e_ldc, ↓f_e_ldc_w, ↓f_e_iload_n, ↓f_e_iload, ↓f_e_aload_n, ↓f_e_aload, ↓f_e_istore_n, ↓f_e_istore, ↓f_e_astore_n, ↓f_e_astore, ↓f_e_iinc, ↓f_e_iadd, ↓f_e_isub, ↓f_e_imul, ↓f_e_iand, ↓f_e_ior, ↓f_e_ixor, ↓f_e_idiv, ↓f_e_irem, ↓f_e_ishl, ↓f_e_ishr, ↓f_e_iushr, ↓f_e_i2c, ↓f_e_dup, ↓f_e_dup2, ↓f_e_pop, ↓f_e_goto, ↓f_e_ifCond, ↓f_e_if_icmp, ↓f_e_tableswitch, ↓f_e_lookupswitch, ↓f_e_getfield_i, ↓f_e_getfield_r, ↓f_e_putfield_i, ↓f_e_putfield_z, ↓f_e_iaload, ↓f_e_caload, ↓f_e_aaload, ↓f_e_iastore, ↓f_e_castore, ↓f_e_arraylength, ↓f_e_invokestatic, ↓f_e_invokevirtual, ↓f_e_ireturn, ↓f_e_return_, ↓f_s_i_c, ↓f_s_r_c, ↓f_s_v_i, ↓f_s_v_r, ↓f_s_l_0, ↓s_l_1, ↓s_l_2, ↓s_l_3, ↓s_l_4, ↓s_l_5, ↓s_l_6, ↓s_a_0, ↓s_a_1, ↓s_a_2, ↓s_a_3, ↓s_m_0, ↓f_s_m_i, ↓f_s_m_r, ↓f_s_m_i7, ↓f_s_m_r7, ↓f_s_m_i6, ↓f_s_m_r6, ↓f_s_m_i5, ↓f_s_m_r5, ↓f_s_m_i4, ↓f_s_m_r4, ↓f_s_w_n, ↓f_s_w_c, ↓f_s_p_eq, ↓f_s_p_ne, ↓f_s_p_lt, ↓f_s_p_ge, ↓f_s_p_gt, ↓f_s_p_le, ↓nk_i, ↓nk_z, ↓nk_c, ↓rf_s, ↓ov_s, ↓ov_n, ↓fin0, ↓fin1, ↓fin2, ↓fin3, cond_true, cond_false, List.set_cons_zero, List.set_cons_succ, List.length_cons, List.length_nil, true_and, and_true, true_or, or_true, implies_true, forall_const, not_true_eq_false, not_false_eq_true, false_implies, Nat.reduceAdd, Nat.reduceLT, Nat.reduceBEq, Nat.reduceEqDiff, Bool.or_false, Bool.false_or, Bool.or_true, Bool.true_or, beq_self_eq_true, Nat.reduceLeDiff, Nat.reduceMul, Nat.reduceSub, eq_self, Nat.reduceBneDiff, st0_s, st1_s, st2_s, st3_s, reduceCtorEq, cc_0, tl_0, cl_0, il_0, tl_1, cl_1, il_1, tl_2, cl_2, il_2, tl_3, cl_3, il_3, tl_4, cl_4, il_4, tl_5, cl_5, il_5, tl_6, cl_6, il_6, tl_7, cl_7, il_7, tl_8, cl_8, il_8, tl_9, cl_9, il_9, tl_10, cl_10, il_10, tl_11, cl_11, il_11, tl_12, cl_12, il_12, tl_13, cl_13, il_13, tl_14, cl_14, il_14, tl_15, cl_15, il_15, tl_16, cl_16, il_16, tl_20, tl_21, tl_25, tl_32, tl_48, tl_50, tl_57, tl_58, tl_59, tl_60, tl_99, tl_100, tl_101, tl_108, tl_109, tl_116, tl_120, tl_126, tl_374, tl_1122, tl_50000, i10, i01, tl_m1, tl_m2, tl_m3, tl_m4, nr_X0_addNode, tX0_addNode_0, tX0_addNode_1, tX0_addNode_2, tX0_addNode_5, tX0_addNode_8, tX0_addNode_9, tX0_addNode_12, tX0_addNode_15, tX0_addNode_16, tX0_addNode_17, tX0_addNode_18, tX0_addNode_21, tX0_addNode_23, tX0_addNode_26, tX0_addNode_28, tX0_addNode_29, tX0_addNode_30, tX0_addNode_33, tX0_addNode_34, tX0_addNode_35, tX0_addNode_38, tX0_addNode_39, tX0_addNode_40, tX0_addNode_42, tX0_addNode_44, tX0_addNode_45, tX0_addNode_48, tX0_addNode_50, tX0_addNode_51, tX0_addNode_52, tX0_addNode_55, tX0_addNode_56, tX0_addNode_59, tX0_addNode_60, tX0_addNode_63, tX0_addNode_65, tX0_addNode_66, tX0_addNode_69, tX0_addNode_70, tX0_addNode_71, tX0_addNode_74, tX0_addNode_75, tX0_addNode_76, tX0_addNode_77, tX0_addNode_78, tX0_addNode_81, tX0_addNode_82, tX0_addNode_85, tX0_addNode_86, tX0_addNode_87, tX0_addNode_90, tX0_addNode_92, tX0_addNode_94, tX0_addNode_96, tX0_addNode_99, tX0_addNode_101, tX0_addNode_102, tX0_addNode_103, tX0_addNode_106, tX0_addNode_107, tX0_addNode_108, tX0_addNode_111, tX0_addNode_112, tX0_addNode_113, tX0_addNode_116, tX0_addNode_117, pw_QK_s, b0, ↓w_hasNode, ↓w_bit]
      exact ⟨rF, fun q => ⟨fun q2 => absurd ⟨q, q2⟩ hx, fun _ => hA⟩, fun _ => hA⟩
  · exact h.elim
end ADN
