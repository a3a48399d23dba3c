/-! what always holds of the row: a node, a line more -/
theorem inp_le {S : Nat → Int32} (hI : InvB S) (hT : InvT S) {j : Nat} (hj : j < vN S 3) : cntS S j ≤ vN S 4 + (vN S 3 - 1) := by
  have h3 := hI.1.2
  have h4 := hI.2.1.2
  have hnd : (entL S j).Nodup := by
    unfold entL
    refine List.pairwise_map.mpr (List.Pairwise.imp_of_mem (R := fun a b => a < b) (fun {a b} ha hb hab => ?_) List.pairwise_lt_range)
    exact (hT.1 j hj).2 a b hab (List.mem_range.mp hb)
  have := List.Nodup.length_le_of_subset hnd (l₂ := List.range (vN S 4) ++ (List.range (vN S 3 - 1)).map (fun i => i + 101)) (fun x hx => by
    unfold entL at hx
    obtain ⟨i, hi, rfl⟩ := List.mem_map.mp hx
    rcases ((hT.1 j hj).1 i (List.mem_range.mp hi)).2 with z | z
    · exact List.mem_append_left _ (List.mem_range.mpr z.1)
    · exact List.mem_append_right _ (List.mem_map.mpr ⟨entS S j i - 101, List.mem_range.mpr (by omega), by omega⟩))
  rw [List.length_append, List.length_range, List.length_map, List.length_range] at this
  unfold entL at this
  rw [List.length_map, List.length_range] at this
  exact this
theorem inp_n {S : Nat → Int32} (hI : InvB S) (hT : InvT S) (h6 : vN S 3 < 6) : ∀ j, j < vN S 3 → cntS S j ≤ 20 := fun j hj => by
  have := inp_le hI hT hj
  have h4 := hI.2.1.2
  omega
theorem inp_l {S : Nat → Int32} (hI : InvB S) (hT : InvT S) (h16 : vN S 4 < 16) : ∀ j, j < vN S 3 → cntS S j ≤ 20 := fun j hj => by
  have := inp_le hI hT hj
  have h3 := hI.1.2
  omega
/-- one more input hangs on node j: a line, or a node -/
theorem InvT.add {S S' : Nat → Int32} {j x : Nat} (hT : InvT S) (hI : InvB S) (hj : j < vN S 3) (ec : ∀ i, i < 6 → i ≠ j → cntS S' i = cntS S i) (ecj : cntS S' j = cntS S j + 1)
    (ee : ∀ i c, i < 6 → c < cntS S i → S' (16 + 25 * i + 4 + c) = S (16 + 25 * i + 4 + c)) (ex : S' (16 + 25 * j + 4 + cntS S j) = nI x) (on : ∀ i, i < vN S 3 → onS S' i = onS S i) (at_ : ∀ k, k < vN S 4 → vN S' (166 + 13 * k) = vN S (166 + 13 * k))
    (hx : (x = vN S 4 ∧ vN S' 4 = vN S 4 + 1 ∧ vN S' 3 = vN S 3 ∧ vN S' (166 + 13 * x) = j ∧ vN S 4 < 16) ∨ (x = 100 + vN S 3 ∧ vN S' 3 = vN S 3 + 1 ∧ vN S' 4 = vN S 4 ∧ onS S' (vN S 3) = j ∧ vN S 3 < 6)) : InvT S' := by
  obtain ⟨t1, t2, t3, t4⟩ := id hT
  have h3 := hI.1.2
  have h4 := hI.2.1.2
  have xb : x < 200 := by omega
  have exj : entS S' j (cntS S j) = x := by
    show (S' (16 + 25 * j + 4 + cntS S j)).toNatClampNeg = x
    rw [ex, cl_nI (by omega)]
  have eo : ∀ i c, i < 6 → c < cntS S i → entS S' i c = entS S i c := fun i c h1 h2 => by
    show (S' (16 + 25 * i + 4 + c)).toNatClampNeg = (S (16 + 25 * i + 4 + c)).toNatClampNeg
    rw [ee i c h1 h2]
  have up3 : vN S 3 ≤ vN S' 3 := by omega
  have up4 : vN S 4 ≤ vN S' 4 := by omega
  have cm : ∀ i, i < 6 → cntS S i ≤ cntS S' i := fun i hi => by
    by_cases e : i = j
    · rw [e, ecj]; omega
    · rw [ec i hi e]; exact Nat.le_refl _
  -- an entry is an old one, or the new one
  have old : ∀ i c, i < vN S' 3 → c < cntS S' i → (i < vN S 3 ∧ c < cntS S i) ∨ (i = j ∧ c = cntS S j) := fun i c hi hc => by
    by_cases e : i = j
    · subst e
      rw [ecj] at hc
      by_cases z : c = cntS S i
      · exact Or.inr ⟨rfl, z⟩
      · exact Or.inl ⟨hj, by omega⟩
    · have hi6 : i < 6 := by omega
      rw [ec i hi6 e] at hc
      rcases Nat.lt_or_ge i (vN S 3) with z | z
      · exact Or.inl ⟨z, hc⟩
      · rw [t4 i z hi6] at hc; omega
  have val : ∀ i c, i < vN S 3 → c < cntS S i → entS S i c ≠ x := fun i c hi hc => by
    have := ((t1 i hi).1 c hc).2
    omega
  refine ⟨fun i hi => ⟨fun c hc => ?_, fun c c' h1 h2 => ?_⟩, fun k hk => ?_, fun c h1 h2 => ?_, fun i h1 h2 => ?_⟩
  · rcases old i c hi hc with ⟨y1, y2⟩ | ⟨y1, y2⟩
    · have := (t1 i y1).1 c y2
      rw [ee i c (by omega) y2, eo i c (by omega) y2]
      refine ⟨this.1, this.2.imp (fun z => ⟨by omega, ?_⟩) (fun z => ⟨z.1, by omega, ?_⟩)⟩
      · rw [at_ _ z.1]; exact z.2
      · rw [on _ z.2.1]; exact z.2.2
    · subst y1 y2
      rw [ex, exj]
      refine ⟨rfl, ?_⟩
      rcases hx with z | z
      · exact Or.inl ⟨by omega, z.2.2.2.1⟩
      · refine Or.inr ⟨by omega, by omega, ?_⟩
        rw [show x - 100 = vN S 3 by omega]
        exact z.2.2.2.1
  · have hlt : c < cntS S' i := by omega
    rcases old i c hi hlt with ⟨y1, y2⟩ | ⟨y1, y2⟩
    · rw [eo i c (by omega) y2]
      rcases old i c' hi h2 with ⟨w1, w2⟩ | ⟨w1, w2⟩
      · rw [eo i c' (by omega) w2]
        exact (t1 i y1).2 c c' h1 w2
      · rw [w1, w2, exj, ← w1]
        exact val i c y1 y2
    · rcases old i c' hi h2 with ⟨w1, w2⟩ | ⟨w1, w2⟩
      · rw [y1] at w2; omega
      · omega
  · rcases Nat.lt_or_ge k (vN S 4) with z | z
    · have hat := (hI.2.2.2.2.2.1 k (by omega)).1.2
      obtain ⟨i, i1, i2⟩ := t2 k z
      rw [at_ k z]
      exact ⟨i, Nat.lt_of_lt_of_le i1 (cm _ (by omega)), by rw [eo _ i (by omega) i1]; exact i2⟩
    · have : k = x ∧ vN S' (166 + 13 * x) = j := by omega
      rw [this.1, this.2]
      exact ⟨cntS S j, by omega, exj⟩
  · rcases Nat.lt_or_ge c (vN S 3) with z | z
    · have hon := hI.on c h1 (by omega)
      obtain ⟨i, i1, i2⟩ := t3 c h1 z
      rw [on c z]
      exact ⟨i, Nat.lt_of_lt_of_le i1 (cm _ (by omega)), by rw [eo _ i (by omega) i1]; exact i2⟩
    · have : c = vN S 3 ∧ x = 100 + vN S 3 ∧ onS S' (vN S 3) = j := by omega
      rw [this.1, this.2.2, ← this.2.1]
      exact ⟨cntS S j, by omega, exj⟩
  · have hne : i ≠ j := by omega
    rw [ec i h2 hne]
    exact t4 i (by omega) h2
theorem IV.node {B j : Nat} {S : Nat → Int32} {t : Int32} (h : IV B S) (hj : j < vN S 3) (h6 : vN S 3 < 6) (ht : bit01 t) : IV B (nodeS S j t) := by
  obtain ⟨hI, hT, hX⟩ := id h
  have hc := inp_n hI hT h6 j hj
  have hc' : cntS S j ≤ 20 := hc
  obtain ⟨a1, a2, a3, a4, a5, a6, a7, a8⟩ := id hI
  have v1 : 1 ≤ vN S 3 := a1.2.1
  have h6v : (S 3).toNatClampNeg < 6 := h6
  obtain ⟨v3, vn0, vn1, vj3, vjc⟩ := nodeS_v (t := t) hj hc
  have vv3 : vN (nodeS S j t) 3 = vN S 3 + 1 := by
    show (nodeS S j t 3).toNatClampNeg = _
    rw [v3, cl_nI (by omega)]
  have hi : ∀ p, 166 ≤ p → nodeS S j t p = S p := fun p hp => nodeS_n hj (by omega) (by omega) (by omega) (by omega) (by omega)
  have lo : ∀ p, p < 16 → p ≠ 3 → nodeS S j t p = S p := fun p hp h3 => nodeS_n hj h3 (by omega) (by omega) (by omega) (by omega)
  have nd : ∀ i c, i ≠ vN S 3 → c < 3 → nodeS S j t (16 + 25 * i + c) = S (16 + 25 * i + c) := fun i c h1 h2 => nodeS_n hj (by omega) (by omega) (by omega) (by omega) (by omega)
  have n0 : ∀ i, i ≠ vN S 3 → nodeS S j t (16 + 25 * i) = S (16 + 25 * i) := fun i h1 => nd i 0 h1 (by omega)
  have n2 : ∀ i, nodeS S j t (16 + 25 * i + 2) = S (16 + 25 * i + 2) := fun i => nodeS_n hj (by omega) (by omega) (by omega) (by omega) (by omega)
  have oth : ∀ i c, i ≠ j → 3 ≤ c → c < 25 → nodeS S j t (16 + 25 * i + c) = S (16 + 25 * i + c) := fun i c h1 h2 h3 => nodeS_n hj (by omega) (by omega) (by omega) (by omega) (by omega)
  have ent : ∀ i c, c < cntS S i → i < 6 → nodeS S j t (16 + 25 * i + 4 + c) = S (16 + 25 * i + 4 + c) := fun i c h1 h2 => by
    have hci : cntS S i ≤ 21 := (a4 i h2).2.2.2
    by_cases e : i = j
    · subst e
      exact nodeS_n hj (by omega) (by omega) (by omega) (by omega) (by omega)
    · rw [show 16 + 25 * i + 4 + c = 16 + 25 * i + (4 + c) by omega]
      exact oth i (4 + c) e (by omega) (by omega)
  have l0 : ∀ k, nodeS S j t (166 + 13 * k) = S (166 + 13 * k) := fun k => hi _ (by omega)
  have v4 : vN (nodeS S j t) 4 = vN S 4 := by unfold vN; rw [lo 4 (by omega) (by omega)]
  have cj : cntS (nodeS S j t) j = cntS S j + 1 := by
    show (nodeS S j t (16 + 25 * j + 3)).toNatClampNeg = _
    rw [vj3, cl_nI (by omega)]
  refine ⟨?_, ?_, ?_⟩
  · unfold CLampRanksLaw_law_r1443_3e4940.InvB
    rw [vv3]
    unfold vN
    rw [v3, lo 4 (by omega) (by omega), lo 10 (by omega) (by omega), lo 0 (by omega) (by omega), lo 1 (by omega) (by omega), lo 2 (by omega) (by omega)]
    refine ⟨⟨rfl, by omega, by omega⟩, a2, a3, fun i h1 => ?_, ⟨?_, fun i h1 h2 => ?_⟩, fun k hk => ?_, fun i h1 => ?_, a8⟩
    · refine ⟨?_, ?_, ?_⟩
      · by_cases e : i = vN S 3
        · rw [e, vn1]; exact ht
        · rw [nd i 1 e (by omega)]; exact (a4 i h1).1
      · rw [n2 i]; exact (a4 i h1).2.1
      · by_cases e : i = j
        · rw [e, vj3, cl_nI (by omega)]
          exact ⟨rfl, by omega⟩
        · rw [oth i 3 e (by omega) (by omega)]; exact (a4 i h1).2.2
    · rw [show (16 : Nat) = 16 + 25 * 0 from rfl, n0 0 (by omega)]; exact a5.1
    · by_cases e : i = vN S 3
      · rw [e, vn0, cl_nI (by omega)]
        exact ⟨rfl, hj⟩
      · rw [n0 i e]; exact a5.2 i h1 h2
    · obtain ⟨b1, b2⟩ := a6 k hk
      rw [l0 k, hi _ (by omega), hi _ (by omega), hi _ (by omega), hi _ (by omega), hi _ (by omega)]
      refine ⟨⟨b1.1, ?_⟩, b2⟩
      have := b1.2
      unfold vN at this
      omega
    · have : i < 4 := Nat.lt_of_lt_of_le h1 a3.2
      rw [lo (11 + i) (by omega) (by omega)]; exact a7 i h1
  · refine hT.add hI hj (x := 100 + vN S 3) (fun i h1 h2 => ?_) cj (fun i c h1 h2 => ent i c h2 h1) vjc (fun i h1 => ?_) (fun k h1 => ?_) (Or.inr ⟨rfl, vv3, v4, ?_, h6⟩)
    · show (nodeS S j t (16 + 25 * i + 3)).toNatClampNeg = _
      rw [oth i 3 h2 (by omega) (by omega)]
    · show (nodeS S j t (16 + 25 * i)).toNatClampNeg = _
      rw [n0 i (by omega)]; rfl
    · unfold vN; rw [l0 k]
    · show (nodeS S j t (16 + 25 * vN S 3)).toNatClampNeg = _
      rw [vn0, cl_nI (by omega)]
  · exact hX.to hI (lo 0 (by omega) (by omega)) (fun i h1 h2 => lo i (by omega) (by omega)) (fun i h1 h2 => lo i (by omega) (by omega)) (fun k hk c hcc => hi _ (by omega)) (fun k hk => hi k (by omega))
theorem IV.line {B j : Nat} {S : Nat → Int32} {r t : Int32} (h : IV B S) (hj : j < vN S 3) (h16 : vN S 4 < 16) (hr : 0 ≤ r.toInt ∧ r.toInt ≤ 7) (ht : bit01 t) : IV B (lineS S j r t) := by
  obtain ⟨hI, hT, x1, x2, x3, ⟨x4, x5⟩, ⟨x6, x7, x8, x9⟩, x10⟩ := id h
  have hc := inp_l hI hT h16 j hj
  have hc' : cntS S j ≤ 20 := hc
  obtain ⟨a1, a2, a3, a4, a5, a6, a7, a8⟩ := id hI
  have hj6 : j < 6 := by have := a1.2.2; omega
  have h16v : (S 4).toNatClampNeg < 16 := h16
  obtain ⟨v4, vl0, vl1, vl2, vj3, vjc⟩ := lineS_v (r := r) (t := t) hj6 hc
  have vv4 : vN (lineS S j r t) 4 = vN S 4 + 1 := by
    show (lineS S j r t 4).toNatClampNeg = _
    rw [v4, cl_nI (by omega)]
  have hi : ∀ k c, k ≠ vN S 4 ∨ 3 ≤ c → c < 13 → lineS S j r t (166 + 13 * k + c) = S (166 + 13 * k + c) := fun k c hp h13 => lineS_n hj6 (by omega) (by omega) (by omega) (by omega) (by omega) (by omega)
  have lo : ∀ p, p < 16 → p ≠ 4 → lineS S j r t p = S p := fun p hp h3 => lineS_n hj6 h3 (by omega) (by omega) (by omega) (by omega) (by omega)
  have nd : ∀ i c, i < 6 → c < 3 → lineS S j r t (16 + 25 * i + c) = S (16 + 25 * i + c) := fun i c h1 h2 => lineS_n hj6 (by omega) (by omega) (by omega) (by omega) (by omega) (by omega)
  have n0 : ∀ i, i < 6 → lineS S j r t (16 + 25 * i) = S (16 + 25 * i) := fun i h1 => nd i 0 h1 (by omega)
  have oth : ∀ i c, i < 6 → i ≠ j → 3 ≤ c → c < 25 → lineS S j r t (16 + 25 * i + c) = S (16 + 25 * i + c) := fun i c h0 h1 h2 h3 => lineS_n hj6 (by omega) (by omega) (by omega) (by omega) (by omega) (by omega)
  have ent : ∀ i c, c < cntS S i → i < 6 → lineS S j r t (16 + 25 * i + 4 + c) = S (16 + 25 * i + 4 + c) := fun i c h1 h2 => by
    have hci : cntS S i ≤ 21 := (a4 i h2).2.2.2
    by_cases e : i = j
    · subst e
      exact lineS_n hj6 (by omega) (by omega) (by omega) (by omega) (by omega) (by omega)
    · rw [show 16 + 25 * i + 4 + c = 16 + 25 * i + (4 + c) by omega]
      exact oth i (4 + c) h2 e (by omega) (by omega)
  have cj : cntS (lineS S j r t) j = cntS S j + 1 := by
    show (lineS S j r t (16 + 25 * j + 3)).toNatClampNeg = _
    rw [vj3, cl_nI (by omega)]
  have v3 : vN (lineS S j r t) 3 = vN S 3 := by unfold vN; rw [lo 3 (by omega) (by omega)]
  have v10 : vN (lineS S j r t) 10 = vN S 10 := by unfold vN; rw [lo 10 (by omega) (by omega)]
  have vs : ∀ i, i < 4 → vN (lineS S j r t) (11 + i) = vN S (11 + i) := fun i hi4 => by unfold vN; rw [lo (11 + i) (by omega) (by omega)]
  have z1 := x1 (vN S 4) (Nat.le_refl _) h16
  refine ⟨?_, ?_, fun i h1 h2 => ?_, fun i h1 h2 => ?_, ?_, ⟨fun i h1 => ?_, fun i i' h1 h2 => ?_⟩, ⟨?_, ?_, ?_, ?_⟩, fun i h1 => ?_⟩
  · unfold CLampRanksLaw_law_r1443_3e4940.InvB
    rw [vv4, v3]
    unfold vN
    rw [v4, lo 3 (by omega) (by omega), lo 10 (by omega) (by omega), lo 0 (by omega) (by omega), lo 1 (by omega) (by omega), lo 2 (by omega) (by omega)]
    refine ⟨a1, ⟨rfl, by omega⟩, a3, fun i h1 => ?_, ⟨?_, fun i h1 h2 => ?_⟩, fun k hk => ?_, fun i h1 => ?_, a8⟩
    · rw [nd i 1 h1 (by omega), nd i 2 h1 (by omega)]
      refine ⟨(a4 i h1).1, (a4 i h1).2.1, ?_⟩
      by_cases e : i = j
      · rw [e, vj3, cl_nI (by omega)]
        exact ⟨rfl, by omega⟩
      · rw [oth i 3 h1 e (by omega) (by omega)]; exact (a4 i h1).2.2
    · rw [show (16 : Nat) = 16 + 25 * 0 from rfl, n0 0 (by omega)]; exact a5.1
    · rw [n0 i h2]; exact a5.2 i h1 h2
    · obtain ⟨b1, b2, b3, b4⟩ := a6 k hk
      rw [hi k 3 (Or.inr (by omega)) (by omega), hi k 4 (Or.inr (by omega)) (by omega), hi k 5 (Or.inr (by omega)) (by omega)]
      by_cases e : k = vN S 4
      · rw [e, vl0, vl1, vl2, cl_nI (by omega)]
        rw [e] at b4
        exact ⟨⟨rfl, hj⟩, hr, ht, b4⟩
      · have e0 : lineS S j r t (166 + 13 * k) = S (166 + 13 * k) := hi k 0 (Or.inl e) (by omega)
        rw [e0, hi k 1 (Or.inl e) (by omega), hi k 2 (Or.inl e) (by omega)]
        exact ⟨b1, b2, b3, b4⟩
    · have : i < 4 := Nat.lt_of_lt_of_le h1 a3.2
      rw [lo (11 + i) (by omega) (by omega)]
      have y := a7 i h1
      exact ⟨y.1, Nat.lt_succ_of_lt y.2⟩
  · refine hT.add hI hj (x := vN S 4) (fun i h1 h2 => ?_) cj (fun i c h1 h2 => ent i c h2 h1) vjc (fun i h1 => ?_) (fun k h1 => ?_) (Or.inl ⟨rfl, vv4, v3, ?_, h16⟩)
    · show (lineS S j r t (16 + 25 * i + 3)).toNatClampNeg = _
      rw [oth i 3 h1 h2 (by omega) (by omega)]
    · show (lineS S j r t (16 + 25 * i)).toNatClampNeg = _
      rw [n0 i (by have := a1.2.2; omega)]; rfl
    · show (lineS S j r t (166 + 13 * k)).toNatClampNeg = _
      have e0 : lineS S j r t (166 + 13 * k) = S (166 + 13 * k) := hi k 0 (Or.inl (by omega)) (by omega)
      rw [e0]
    · show (lineS S j r t (166 + 13 * vN S 4)).toNatClampNeg = _
      rw [vl0, cl_nI (by omega)]
  · rw [vv4] at h1
    rw [hi i 4 (Or.inr (by omega)) (by omega), hi i 6 (Or.inr (by omega)) (by omega), hi i 7 (Or.inr (by omega)) (by omega), hi i 8 (Or.inr (by omega)) (by omega)]
    exact x1 i (by omega) h2
  · rw [hi i 4 (Or.inr (by omega)) (by omega)] at h2
    rw [hi i 11 (Or.inr (by omega)) (by omega), hi i 12 (Or.inr (by omega)) (by omega), lo 0 (by omega) (by omega), lo 15 (by omega) (by omega)]
    exact x2 i h1 h2
  · rw [lo 15 (by omega) (by omega)]; exact x3
  · rw [v10] at h1
    have := a3.2
    rw [vs i (by omega), hi _ 4 (Or.inr (by omega)) (by omega)]
    exact x4 i h1
  · rw [v10] at h2
    have := a3.2
    rw [vs i (by omega), vs i' (by omega)]
    exact x5 i i' h1 h2
  · rw [vv4, lo 5 (by omega) (by omega), sumF, hi _ 6 (Or.inr (by omega)) (by omega), z1.2.1, Int32.add_zero, x6]
    exact (sumF_congr _ (fun i _ => hi i 6 (Or.inr (by omega)) (by omega))).symm
  · rw [vv4, lo 6 (by omega) (by omega), sumF, hi _ 7 (Or.inr (by omega)) (by omega), z1.2.2.1, Int32.add_zero, x7]
    exact (sumF_congr _ (fun i _ => hi i 7 (Or.inr (by omega)) (by omega))).symm
  · rw [vv4, lo 7 (by omega) (by omega), sumF, hi _ 8 (Or.inr (by omega)) (by omega), z1.2.2.2, show (if lineS S j r t (166 + 13 * vN S 4 + 2) = 0 then (0 : Int32) else 0) = 0 by split <;> rfl, Int32.add_zero, x8]
    exact (sumF_congr _ (fun i h1 => by rw [hi i 2 (Or.inl (by omega)) (by omega), hi i 8 (Or.inr (by omega)) (by omega)])).symm
  · rw [vv4, lo 8 (by omega) (by omega), sumF, hi _ 8 (Or.inr (by omega)) (by omega), z1.2.2.2, show (if lineS S j r t (166 + 13 * vN S 4 + 2) = 1 then (0 : Int32) else 0) = 0 by split <;> rfl, Int32.add_zero, x9]
    exact (sumF_congr _ (fun i h1 => by rw [hi i 2 (Or.inl (by omega)) (by omega), hi i 8 (Or.inr (by omega)) (by omega)])).symm
  · rw [lineS_n hj6 (by omega) (by omega) (by omega) (by omega) (by omega) (by omega)]
    exact x10 i h1
