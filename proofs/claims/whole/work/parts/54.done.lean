/-! the class's board: the line that was taken last is done -/
def done1 (S : Nat → Int32) (k : Nat) : Nat → Int32 := upd (upd (upd (upd (upd S 10 (S 10 - 1)) (166 + 13 * k + 4) 2) (166 + 13 * k + 11) (S 0 + S 2)) (166 + 13 * k + 12) (S 15)) 15 (S 15 + 1)
/-- lines in service, lines that wait -/
def InvD (S : Nat → Int32) : Prop := (∀ i, i < vN S 10 → S (166 + 13 * vN S (11 + i) + 4) = 1) ∧ ∀ k, k < 16 → S (166 + 13 * k + 4) = 2 → S 0 < S (166 + 13 * k + 11) ∧ S (166 + 13 * k + 12) < S 15
theorem ins_get {W : List Nat} {p k : Nat} (hp : p ≤ W.length) (i : Nat) : (W.take p ++ k :: W.drop p)[i]? = if i < p then W[i]? else if i = p then some k else W[i - 1]? := by
  have hl : (W.take p).length = p := by rw [List.length_take]; omega
  by_cases h : i < p
  · rw [if_pos h, List.getElem?_append_left (by omega), List.getElem?_take, if_pos h]
  · rw [if_neg h, List.getElem?_append_right (by omega), hl]
    by_cases e : i = p
    · subst e
      rw [if_pos rfl, Nat.sub_self, List.getElem?_cons_zero]
    · rw [if_neg e, show i - p = (i - 1 - p) + 1 by omega, List.getElem?_cons_succ, List.getElem?_drop]
      congr 1; omega
theorem ins_mem {W : List Nat} {p k x : Nat} : x ∈ W.take p ++ k :: W.drop p ↔ x = k ∨ x ∈ W := by
  rw [List.mem_append, List.mem_cons]
  constructor
  · rintro (h | h | h)
    · exact Or.inr (List.mem_of_mem_take h)
    · exact Or.inl h
    · exact Or.inr (List.mem_of_mem_drop h)
  · rintro (h | h)
    · exact Or.inr (Or.inl h)
    · rw [← List.take_append_drop p W, List.mem_append] at h
      rcases h with h | h
      · exact Or.inl h
      · exact Or.inr (Or.inr h)
theorem ins_nodup {W : List Nat} {p k : Nat} (h : W.Nodup) (hk : k ∉ W) : (W.take p ++ k :: W.drop p).Nodup := by
  have h2 : (k :: W).Nodup := List.nodup_cons.mpr ⟨hk, h⟩
  have hp : (W.take p ++ k :: W.drop p).Perm (k :: W) := by
    have := List.perm_middle (a := k) (l₁ := W.take p) (l₂ := W.drop p)
    rwa [List.take_append_drop] at this
  exact hp.nodup_iff.mpr h2
theorem done_wait {S T : Nat → Int32} {W : List Nat} {k p : Nat} (hW : waitOK S W) (hk4 : k < vN S 4) (hks : ¬ S (166 + 13 * k + 4) = 2) (v4 : vN T 4 = vN S 4) (hT : T (166 + 13 * k + 4) = 2) (hTs : ∀ i, i ≠ k → T (166 + 13 * i + 4) = S (166 + 13 * i + 4) ∧ T (166 + 13 * i + 11) = S (166 + 13 * i + 11) ∧ T (166 + 13 * i + 12) = S (166 + 13 * i + 12))
    (hd : ∀ i, i ∈ W → S (166 + 13 * i + 12) < T (166 + 13 * k + 12)) (hp : p ≤ W.length) (h1 : ∀ i x, i < p → W[i]? = some x → S (166 + 13 * x + 11) ≤ T (166 + 13 * k + 11)) (h2 : ∀ x, W[p]? = some x → T (166 + 13 * k + 11) < S (166 + 13 * x + 11)) : waitOK T (W.take p ++ k :: W.drop p) := by
  obtain ⟨w3, w4, w5⟩ := hW
  have hkW : k ∉ W := fun z => hks ((w4 k).mp z).2
  have ne : ∀ i, i ∈ W → i ≠ k := fun i hi e => hkW (e ▸ hi)
  have keep : ∀ {a c}, a ∈ W → c ∈ W → earlS S a c → earlS T a c := fun {a c} ha hc q => by
    unfold earlS
    obtain ⟨-, a1, a2⟩ := hTs a (ne a ha)
    obtain ⟨-, c1, c2⟩ := hTs c (ne c hc)
    rw [a1, a2, c1, c2]; exact q
  have w5' := w5
  rw [← List.take_append_drop p W] at w5'
  obtain ⟨p1, p2, p3⟩ := List.pairwise_append.mp w5'
  refine ⟨ins_nodup w3 hkW, fun i => ?_, List.pairwise_append.mpr ⟨p1.imp_of_mem fun {a c} ha hc q => keep (List.mem_of_mem_take ha) (List.mem_of_mem_take hc) q, List.pairwise_cons.mpr ⟨fun x hx => ?_, p2.imp_of_mem fun {a c} ha hc q => keep (List.mem_of_mem_drop ha) (List.mem_of_mem_drop hc) q⟩, fun a ha c hc => ?_⟩⟩
  · rw [ins_mem, v4]
    by_cases e : i = k
    · subst e
      exact ⟨fun _ => ⟨hk4, hT⟩, fun _ => Or.inl rfl⟩
    · rw [(hTs i e).1, ← w4 i]
      exact ⟨fun z => z.resolve_left e, Or.inr⟩
  · have hxW := List.mem_of_mem_drop hx
    refine Or.inl ?_
    rw [(hTs x (ne x hxW)).2.1]
    have hpl : p < W.length := by
      rcases Nat.lt_or_ge p W.length with z | z
      · exact z
      · rw [List.drop_of_length_le z] at hx; cases hx
    have hg := h2 W[p] (List.getElem?_eq_getElem hpl)
    rw [List.drop_eq_getElem_cons hpl, List.mem_cons] at hx
    rcases hx with z | z
    · rw [z]; exact hg
    · rw [List.drop_eq_getElem_cons hpl] at p2
      have := (List.pairwise_cons.mp p2).1 x z
      unfold earlS at this
      simp only [ti_lt, ti_eq] at this hg ⊢
      omega
  · have haW := List.mem_of_mem_take ha
    rcases List.mem_cons.mp hc with z | z
    · subst z
      obtain ⟨i, hi⟩ := List.getElem?_of_mem ha
      have hip : i < p := by
        have := (List.getElem?_eq_some_iff.mp hi).1
        rw [List.length_take] at this
        omega
      rw [List.getElem?_take, if_pos hip] at hi
      have e1 := h1 i a hip hi
      have e2 := hd a haW
      obtain ⟨-, a1, a2⟩ := hTs a (ne a haW)
      unfold earlS
      rw [a1, a2]
      simp only [ti_lt, ti_eq, ti_le] at e1 e2 ⊢
      omega
    · exact keep haW (List.mem_of_mem_drop z) (p3 a ha c z)
/-- done, then what is due comes: the reference's way -/
theorem done_ack {S : Nat → Int32} (hI : InvB S) (hD : InvD S) (h10 : 1 ≤ vN S 10) : ackB (done1 S (vN S (11 + (vN S 10 - 1)))) = goDoneS S := by
  have hk := (hI.2.2.2.2.2.2.1 (vN S 10 - 1) (by omega)).2
  have hst := hD.1 (vN S 10 - 1) (by omega)
  have h4 := hI.2.1.2
  unfold goDoneS
  generalize vN S (11 + (vN S 10 - 1)) = k at hk hst
  show ackB (done1 S k) = if S 2 = 0 then upd (upd (done1 S k) (166 + 13 * k + 4) 0) 9 (S 9 + 1) else done1 S k
  have hk16 : k < 16 := by omega
  have v4 : vN (done1 S k) 4 = vN S 4 := by
    unfold vN done1
    rw [upd_n (by omega), upd_n (by omega), upd_n (by omega), upd_n (by omega), upd_n (by omega)]
  have d9 : done1 S k 9 = S 9 := by
    unfold done1
    rw [upd_n (by omega), upd_n (by omega), upd_n (by omega), upd_n (by omega), upd_n (by omega)]
  have d0 : done1 S k 0 = S 0 := by
    unfold done1
    rw [upd_n (by omega), upd_n (by omega), upd_n (by omega), upd_n (by omega), upd_n (by omega)]
  have dk4 : done1 S k (166 + 13 * k + 4) = 2 := by
    unfold done1
    rw [upd_n (by omega), upd_n (by omega), upd_n (by omega), upd_s]
  have dk11 : done1 S k (166 + 13 * k + 11) = S 0 + S 2 := by
    unfold done1
    rw [upd_n (by omega), upd_n (by omega), upd_s]
  have nd : ∀ i, i ≠ k → i < vN S 4 → dueS (done1 S k) i = false := fun i hi hi4 => by
    unfold dueS
    rw [d0]
    have e4 : done1 S k (166 + 13 * i + 4) = S (166 + 13 * i + 4) := by
      unfold done1
      rw [upd_n (by omega), upd_n (by omega), upd_n (by omega), upd_n (by omega), upd_n (by omega)]
    have e11 : done1 S k (166 + 13 * i + 11) = S (166 + 13 * i + 11) := by
      unfold done1
      rw [upd_n (by omega), upd_n (by omega), upd_n (by omega), upd_n (by omega), upd_n (by omega)]
    rw [e4, e11]
    by_cases e : S (166 + 13 * i + 4) = 2
    · have := (hD.2 i (by omega) e).1
      rw [decide_eq_false (Int32.not_le.mpr this), Bool.and_false]
    · rw [beq_f e, Bool.false_and]
  have t0 := hI.2.2.2.2.2.2.2
  have ts : (S 0 + S 2).toInt = (S 0).toInt + (S 2).toInt := ti_add (by omega) (by omega)
  unfold ackB
  rw [v4, d9]
  by_cases e2 : S 2 = 0
  · rw [if_pos e2]
    have hd : dueS (done1 S k) k = true := by
      unfold dueS
      rw [dk4, dk11, d0, decide_eq_true (by rw [e2, Int32.add_zero]; exact Int32.le_refl _)]; rfl
    rw [← ackL_one hd _ hk, ackC_one hd hk]
    have nd2 : ∀ i, i < vN S 4 → dueS (upd (done1 S k) (166 + 13 * k + 4) 0) i = false := fun i hi => by
      rw [due_upd]
      by_cases z : i = k
      · rw [z]; simp
      · rw [nd i z hi, Bool.false_and]
    rw [ackL_none _ nd2, ackC_none nd2, Int32.add_zero]
  · rw [if_neg e2]
    have nd2 : ∀ i, i < vN S 4 → dueS (done1 S k) i = false := fun i hi => by
      by_cases z : i = k
      · subst z
        unfold dueS
        rw [dk4, dk11, d0, decide_eq_false, Bool.and_false]
        simp only [ti_le, ti_eq, ts, show (0 : Int32).toInt = 0 from rfl] at e2 ⊢
        omega
      · exact nd i z hi
    rw [ackL_none _ nd2, ackC_none nd2, Int32.add_zero]
    funext p
    by_cases z : p = 9
    · rw [z, upd_s, d9]
    · rw [upd_n z]
theorem done_inv {S : Nat → Int32} {k : Nat} (hI : InvB S) (h10 : 1 ≤ vN S 10) : InvB (done1 S k) := by
  obtain ⟨a1, a2, a3, a4, a5, a6, a7, a8⟩ := hI
  have lo : ∀ i, i < 166 → i ≠ 10 → i ≠ 15 → done1 S k i = S i := fun i h1 h2 h3 => by
    unfold done1
    rw [upd_n h3, upd_n (by omega), upd_n (by omega), upd_n (by omega), upd_n h2]
  have hi : ∀ i c, c < 11 → c ≠ 4 → done1 S k (166 + 13 * i + c) = S (166 + 13 * i + c) := fun i c h1 h2 => by
    unfold done1
    rw [upd_n (by omega), upd_n (by omega), upd_n (by omega), upd_n (by omega), upd_n (by omega)]
  have e10 : done1 S k 10 = nI (vN S 10 - 1) := by
    unfold done1
    rw [upd_n (by omega), upd_n (by omega), upd_n (by omega), upd_n (by omega), upd_s]
    have : S 10 - 1 = nI (vN S 10) - 1 := by rw [← a3.1]
    rw [this]
    exact pk_sub (b := 1) (by omega)
  have v10 : vN (done1 S k) 10 = vN S 10 - 1 := by unfold vN; rw [e10, cl_nI (by have := a3.2; omega)]
  unfold CLampRanksLaw_law_r1443_3e4940.InvB
  rw [v10, e10]
  unfold vN
  rw [lo 3 (by omega) (by omega) (by omega), lo 4 (by omega) (by omega) (by omega), lo 0 (by omega) (by omega) (by omega), lo 1 (by omega) (by omega) (by omega), lo 2 (by omega) (by omega) (by omega), lo 16 (by omega) (by omega) (by omega)]
  refine ⟨a1, a2, ⟨rfl, by have := a3.2; unfold vN at this; omega⟩, fun j hj => ?_, ⟨a5.1, fun j h1 h2 => ?_⟩, fun i hi6 => ?_, fun i hi7 => ?_, a8⟩
  · rw [lo (16 + 25 * j + 1) (by omega) (by omega) (by omega), lo (16 + 25 * j + 2) (by omega) (by omega) (by omega), lo (16 + 25 * j + 3) (by omega) (by omega) (by omega)]; exact a4 j hj
  · rw [lo (16 + 25 * j) (by omega) (by omega) (by omega)]; exact a5.2 j h1 h2
  · have e0 : done1 S k (166 + 13 * i) = S (166 + 13 * i) := hi i 0 (by omega) (by omega)
    obtain ⟨b1, b2, b3, b4, b5, b6⟩ := a6 i hi6
    rw [e0, hi i 1 (by omega) (by omega), hi i 2 (by omega) (by omega), hi i 3 (by omega) (by omega), hi i 5 (by omega) (by omega)]
    refine ⟨b1, b2, b3, b4, ?_, b6⟩
    by_cases e : i = k
    · refine Or.inr (Or.inr ?_)
      subst e
      unfold done1
      rw [upd_n (by omega), upd_n (by omega), upd_n (by omega), upd_s]
    · have : done1 S k (166 + 13 * i + 4) = S (166 + 13 * i + 4) := by
        unfold done1
        rw [upd_n (by omega), upd_n (by omega), upd_n (by omega), upd_n (by omega), upd_n (by omega)]
      rw [this]; exact b5
  · have h4 := a3.2
    unfold vN at h4
    rw [lo (11 + i) (by omega) (by omega) (by omega)]; exact a7 i (by unfold vN; omega)
section DON
variable {n base b : Nat} {sh : pw_Sh} {P : pw_P} {Ag : List Value} {I : pw_I} {S : Nat → Int32} {K : Option Value → pw_I → Prop}
/-- the memory as a line goes out of service -/
def outM (J I : pw_I) (b k u : Nat) (d : Int32) : Prop := (∀ a, a ≠ b + 37 → a ≠ b + 21 + k → J a = I a) ∧ J (b + 37) = upd (I (b + 37)) 1 (nI u) ∧ J (b + 21 + k) = upd (upd (I (b + 21 + k)) 5 2) 11 d
theorem out_rel {I J : pw_I} {b k u p : Nat} {S : Nat → Int32} {W : List Nat} (hV : relBW I b S W) (hI : InvB S) (hD : InvD S) (hu : vN S 10 = u + 1) (hk : vN S (11 + u) = k) (hJ : outM J I b k u (S 0 + S 2)) (hp : p ≤ W.length)
    (h1 : ∀ i x, i < p → W[i]? = some x → J (b + 21 + x) 11 ≤ J (b + 21 + k) 11) (h2 : ∀ x, W[p]? = some x → J (b + 21 + k) 11 < J (b + 21 + x) 11) :
    RelB (pw_set (pw_set J (b + 40) (insF (J (b + 40)) p W.length (nI k))) (b + 39) (upd (J (b + 39)) 1 (nI (W.length + 1)))) b (done1 S k) := by
  obtain ⟨⟨f1, f2, f3, f4, f5, f6, f7⟩, hN, hL, ⟨hS, hY⟩, w1, w2, w3⟩ := hV
  obtain ⟨j1, j2, j3⟩ := hJ
  have hlt := (hI.2.2.2.2.2.2.1 u (by omega)).2
  have hst := hD.1 u (by omega)
  rw [hk] at hlt hst
  have h4 := hI.2.1.2
  have h10 := hI.2.2.1
  have hk16 : k < 16 := by omega
  have hks : ¬ S (166 + 13 * k + 4) = 2 := by rw [hst]; decide
  have hWk : ∀ i x, W[i]? = some x → x < 16 ∧ x ≠ k := fun i x hx => by
    have := (w3.2.1 x).mp (List.mem_of_getElem? hx)
    exact ⟨by omega, fun e => hks (e ▸ this.2)⟩
  have mem : ∀ a, a ≠ b + 37 → a ≠ b + 39 → a ≠ b + 40 → a ≠ b + 21 + k → pw_set (pw_set J (b + 40) (insF (J (b + 40)) p W.length (nI k))) (b + 39) (upd (J (b + 39)) 1 (nI (W.length + 1))) a = I a := fun a a1 a2 a3 a4 => by
    rw [set_n a2, set_n a3]; exact j1 a a1 a4
  have m37 : pw_set (pw_set J (b + 40) (insF (J (b + 40)) p W.length (nI k))) (b + 39) (upd (J (b + 39)) 1 (nI (W.length + 1))) (b + 37) = upd (I (b + 37)) 1 (nI u) := by
    rw [set_n (by omega), set_n (by omega), j2]
  have mk : pw_set (pw_set J (b + 40) (insF (J (b + 40)) p W.length (nI k))) (b + 39) (upd (J (b + 39)) 1 (nI (W.length + 1))) (b + 21 + k) = upd (upd (I (b + 21 + k)) 5 2) 11 (S 0 + S 2) := by
    rw [set_n (by omega), set_n (by omega), j3]
  have m39 : pw_set (pw_set J (b + 40) (insF (J (b + 40)) p W.length (nI k))) (b + 39) (upd (J (b + 39)) 1 (nI (W.length + 1))) (b + 39) 1 = nI (W.length + 1) := by
    rw [set_s, upd_s]
  have m40 : pw_set (pw_set J (b + 40) (insF (J (b + 40)) p W.length (nI k))) (b + 39) (upd (J (b + 39)) 1 (nI (W.length + 1))) (b + 40) = insF (I (b + 40)) p W.length (nI k) := by
    rw [set_n (by omega), set_s, j1 _ (by omega) (by omega)]
  generalize pw_set (pw_set J (b + 40) (insF (J (b + 40)) p W.length (nI k))) (b + 39) (upd (J (b + 39)) 1 (nI (W.length + 1))) = J2 at mem m37 mk m39 m40 ⊢
  have mb : J2 b = I b := mem b (by omega) (by omega) (by omega) (by omega)
  have lo : ∀ i, i < 166 → i ≠ 10 → i ≠ 15 → done1 S k i = S i := fun i h1 h2 h3 => by
    unfold done1
    rw [upd_n h3, upd_n (by omega), upd_n (by omega), upd_n (by omega), upd_n h2]
  have hi : ∀ i c, i ≠ k → c < 13 → done1 S k (166 + 13 * i + c) = S (166 + 13 * i + c) := fun i c h1 h2 => by
    unfold done1
    rw [upd_n (by omega), upd_n (by omega), upd_n (by omega), upd_n (by omega), upd_n (by omega)]
  have e10 : done1 S k 10 = nI u := by
    unfold done1
    rw [upd_n (by omega), upd_n (by omega), upd_n (by omega), upd_n (by omega), upd_s, h10.1, hu]
    exact pk_sub (a := u + 1) (b := 1) (by omega)
  have v10 : vN (done1 S k) 10 = u := by unfold vN; rw [e10, cl_nI (by omega)]
  have v4 : vN (done1 S k) 4 = vN S 4 := by unfold vN; rw [lo 4 (by omega) (by omega) (by omega)]
  refine ⟨⟨?_, ?_, ?_, ?_, ?_, ?_, ?_⟩, fun i h => (hN i h).to (mem _ (by omega) (by omega) (by omega) (by omega)) (mem _ (by omega) (by omega) (by omega) (by omega)) (mem _ (by omega) (by omega) (by omega) (by omega)) (lo _ (by omega) (by omega) (by omega)) (lo _ (by omega) (by omega) (by omega)) (lo _ (by omega) (by omega) (by omega)) (fun c hc => lo _ (by omega) (by omega) (by omega)) (hI.2.2.2.1 i h).2.2.2 (wayF_to hI (lo _ (by omega) (by omega) (by omega)) (fun c hc => lo _ (by omega) (by omega) (by omega)) h), fun i h => ?_, ⟨?_, fun i h => ?_⟩, hY.to (fun i _ => ?_) (fun i _ => by rw [mem _ (by omega) (by omega) (by omega) (by omega)]) (lo 4 (by omega) (by omega) (by omega)) (fun i _ => ?_), W.take p ++ k :: W.drop p, ?_, ?_, ?_⟩
  · rw [mb, lo 3 (by omega) (by omega) (by omega)]; exact f1
  · rw [mb, lo 4 (by omega) (by omega) (by omega)]; exact f2
  · rw [mb, f3]
    unfold setF setF setF setF setF setF setF
    rw [lo (16 + 25 * 0 + 2) (by omega) (by omega) (by omega), lo (16 + 25 * 1 + 2) (by omega) (by omega) (by omega), lo (16 + 25 * 2 + 2) (by omega) (by omega) (by omega), lo (16 + 25 * 3 + 2) (by omega) (by omega) (by omega), lo (16 + 25 * 4 + 2) (by omega) (by omega) (by omega), lo (16 + 25 * 5 + 2) (by omega) (by omega) (by omega)]
  · rw [mb, lo 0 (by omega) (by omega) (by omega)]; exact f4
  · rw [mb, lo 1 (by omega) (by omega) (by omega)]; exact f5
  · rw [mb, lo 2 (by omega) (by omega) (by omega)]; exact f6
  · rw [mb, lo 9 (by omega) (by omega) (by omega)]; exact f7
  · have r := hL i h
    by_cases e : i = k
    · subst e
      unfold relL done1
      rw [mk]
      refine ⟨?_, ?_, ?_, ?_, ?_, ?_, ?_, ?_, ?_, ?_, ?_, ?_⟩ <;> simp (disch := omega) only [upd_n, upd_s, r.1, r.2.1, r.2.2.1, r.2.2.2.1, r.2.2.2.2.1, r.2.2.2.2.2.1, r.2.2.2.2.2.2.1, r.2.2.2.2.2.2.2.1, r.2.2.2.2.2.2.2.2.1, r.2.2.2.2.2.2.2.2.2.1, r.2.2.2.2.2.2.2.2.2.2.1, r.2.2.2.2.2.2.2.2.2.2.2]
    · exact r.to (mem _ (by omega) (by omega) (by omega) (by omega)) (fun c hc => hi i c e (by omega))
  · rw [m37, upd_s, e10]
  · rw [v10] at h
    rw [mem _ (by omega) (by omega) (by omega) (by omega), lo (11 + i) (by omega) (by omega) (by omega)]
    exact hS.2 i (by omega)
  · by_cases e : i = k
    · rw [e, mk, upd_n (by omega), upd_n (by omega)]
    · rw [mem _ (by omega) (by omega) (by omega) (by omega)]
  · unfold done1
    rw [upd_n (by omega), upd_n (by omega), upd_n (by omega), upd_n (by omega), upd_n (by omega)]
  · rw [m39, List.length_append, List.length_cons, List.length_take, List.length_drop]
    congr 1; omega
  · intro i x hx
    rw [ins_get hp] at hx
    rw [m40]
    unfold insF
    by_cases c1 : i < p
    · rw [if_pos c1] at hx
      rw [upd_n (by omega), shR, if_neg (by omega)]
      exact w2 i x hx
    · rw [if_neg c1] at hx
      by_cases c2 : i = p
      · rw [if_pos c2] at hx
        cases hx
        rw [c2, upd_s]
      · rw [if_neg c2] at hx
        have := (List.getElem?_eq_some_iff.mp hx).1
        rw [upd_n c2, shR, if_pos (by omega)]
        exact w2 (i - 1) x hx
  · have dk11 : done1 S k (166 + 13 * k + 11) = S 0 + S 2 := by
      unfold done1
      rw [upd_n (by omega), upd_n (by omega), upd_s]
    have dk12 : done1 S k (166 + 13 * k + 12) = S 15 := by
      unfold done1
      rw [upd_n (by omega), upd_s]
    have jk : J (b + 21 + k) 11 = S 0 + S 2 := by rw [j3, upd_s]
    have jx : ∀ i x, W[i]? = some x → J (b + 21 + x) 11 = S (166 + 13 * x + 11) := fun i x hx => by
      have := hWk i x hx
      rw [j1 _ (by omega) (by omega)]
      exact (hL x this.1).2.2.2.2.2.2.2.2.2.2.2
    refine done_wait w3 hlt hks v4 ?_ (fun i hik => ⟨hi i 4 hik (by omega), hi i 11 hik (by omega), hi i 12 hik (by omega)⟩) (fun i hiW => ?_) hp (fun i x hip hx => ?_) (fun x hx => ?_)
    · unfold done1
      rw [upd_n (by omega), upd_n (by omega), upd_n (by omega), upd_s]
    · have := (w3.2.1 i).mp hiW
      rw [dk12]
      exact (hD.2 i (by omega) this.2).2
    · have := h1 i x hip hx
      rw [jk, jx i x hx] at this
      rw [dk11]; exact this
    · have := h2 x hx
      rw [jk, jx p x hx] at this
      rw [dk11]; exact this
def w_endService (b : Nat) (S : Nat → Int32) : pw_Wp := fun Ag I K => match Ag with
  | [.ref o] => o = b ∧ InvB S ∧ InvD S ∧ RelB I b S ∧ (vN S 10 = 0 → K (some (.int (-2))) I) ∧ (1 ≤ vN S 10 → ∀ J, brdOK b I J → RelB J b (goDoneS S) → K (some (.int (nI (vN S (11 + (vN S 10 - 1)))))) J)
  | _ => False
set_option maxRecDepth 100000 in
set_option maxHeartbeats 4000000 in
theorem x_endService (hM : pw_brd sh P b) (h : w_endService b S Ag I K) : pw_ok mX0_endService 2 base n sh P Ag I K := by
  unfold w_endService at h
  split at h
  · rename_i o
    obtain ⟨rfl, hI, hD, hR, hA, hB⟩ := h
    obtain ⟨b0, ⟨b1, b2⟩, bN, ⟨b3, b4⟩, bL, ⟨b5, b6⟩, ⟨b7, b8⟩, -⟩ := id hM
    obtain ⟨W, hV⟩ := hR.bw
    obtain ⟨⟨f1, f2, f3, f4, f5, f6, f7⟩, hN, hL, ⟨⟨s1, s2⟩, -⟩, w1, w2, w3⟩ := id hV
    have h10 := hI.2.2.1
    have h4 := hI.2.1
    refine pw_bd [_, _] pl_X0 c_r rfl rfl ?_
    rcases Nat.eq_zero_or_pos (vN S 10) with e | e
    · have e10 : I (o + 37) 1 = 0 := by rw [s1, h10.1, e]; rfl
      have hA := hA e
      refine pw_go okX0_endService (cc [(60, (w_get (o + 37) (o + 38))), (3, (w_hasLine o S))]) ⟨Nat.le_refl _, Nat.le_refl _⟩ (cc_c (fun Ag I K h => ⟨0, Nat.le_of_ble_eq_true rfl, x_get b6 h⟩) (cc_c (fun Ag I K h => ⟨0, Nat.le_of_ble_eq_true rfl, x_hasLine hM h⟩) cc_n)) (st1 28) 60 ?_
      simp only [↓f_vc_s, ↓vk_i, ↓cc_i, ↓reduceIte, f_vq_s, Bool.false_eq_true, ↓f_e_iconst, ↓f_e_bipush, ↓f_e_sipush, ↓f_e_ldc, ↓f_e_ldc_w, ↓f_e_iload_n, ↓f_e_iload, ↓f_e_aload_n, ↓f_e_aload, ↓f_e_istore_n, ↓f_e_istore, ↓f_e_astore_n, ↓f_e_astore, ↓f_e_iinc, ↓f_e_iadd, ↓f_e_isub, ↓f_e_imul, ↓f_e_iand, ↓f_e_ior, ↓f_e_ixor, ↓f_e_idiv, ↓f_e_irem, ↓f_e_ishl, ↓f_e_ishr, ↓f_e_iushr, ↓f_e_i2c, ↓f_e_dup, ↓f_e_dup2, ↓f_e_pop, ↓f_e_goto, ↓f_e_ifCond, ↓f_e_if_icmp, ↓f_e_tableswitch, ↓f_e_lookupswitch, ↓f_e_getfield_i, ↓f_e_getfield_r, ↓f_e_putfield_i, ↓f_e_putfield_z, ↓f_e_iaload, ↓f_e_caload, ↓f_e_aaload, ↓f_e_iastore, ↓f_e_castore, ↓f_e_arraylength, ↓f_e_invokestatic, ↓f_e_invokevirtual, ↓f_e_ireturn, ↓f_e_return_, ↓f_s_i_c, ↓f_s_r_c, ↓f_s_v_i, ↓f_s_v_r, ↓f_s_l_0, ↓s_l_1, ↓s_l_2, ↓s_l_3, ↓s_l_4, ↓s_l_5, ↓s_l_6, ↓s_a_0, ↓s_a_1, ↓s_a_2, ↓s_a_3, ↓s_m_0, ↓f_s_m_i, ↓f_s_m_r, ↓f_s_m_i7, ↓f_s_m_r7, ↓f_s_m_i6, ↓f_s_m_r6, ↓f_s_m_i5, ↓f_s_m_r5, ↓f_s_m_i4, ↓f_s_m_r4, ↓f_s_w_n, ↓f_s_w_c, ↓f_s_p_eq, ↓f_s_p_ne, ↓f_s_p_lt, ↓f_s_p_ge, ↓f_s_p_gt, ↓f_s_p_le, ↓nk_i, ↓nk_z, ↓nk_c, ↓rf_s, ↓ov_s, ↓ov_n, ↓fin0, ↓fin1, ↓fin2, ↓fin3, cond_true, cond_false, List.set_cons_zero, List.set_cons_succ, List.length_cons, List.length_nil, true_and, and_true, true_or, or_true, implies_true, forall_const, not_true_eq_false, not_false_eq_true, false_implies, Nat.reduceAdd, Nat.reduceLT, Nat.reduceBEq, Nat.reduceEqDiff, Bool.or_false, Bool.false_or, Bool.or_true, Bool.true_or, beq_self_eq_true, Nat.reduceLeDiff, Nat.reduceMul, Nat.reduceSub, eq_self, Nat.reduceBneDiff, st0_s, st1_s, st2_s, st3_s, reduceCtorEq, cc_0, tl_0, cl_0, il_0, tl_1, cl_1, il_1, tl_2, cl_2, il_2, tl_3, cl_3, il_3, tl_4, cl_4, il_4, tl_5, cl_5, il_5, tl_6, cl_6, il_6, tl_7, cl_7, il_7, tl_8, cl_8, il_8, tl_9, cl_9, il_9, tl_10, cl_10, il_10, tl_11, cl_11, il_11, tl_12, cl_12, il_12, tl_13, cl_13, il_13, tl_14, cl_14, il_14, tl_15, cl_15, il_15, tl_16, cl_16, il_16, tl_20, tl_21, tl_25, tl_32, tl_48, tl_50, tl_57, tl_58, tl_59, tl_60, tl_99, tl_100, tl_101, tl_108, tl_109, tl_116, tl_120, tl_126, tl_374, tl_1122, tl_50000, i10, i01, tl_m1, tl_m2, tl_m3, tl_m4, nr_X0_endService, tX0_endService_0, tX0_endService_1, tX0_endService_4, tX0_endService_5, tX0_endService_8, tX0_endService_11, tX0_endService_12, tX0_endService_13, tX0_endService_16, tX0_endService_17, tX0_endService_18, tX0_endService_19, tX0_endService_22, tX0_endService_25, tX0_endService_27, tX0_endService_28, tX0_endService_29, tX0_endService_32, tX0_endService_33, tX0_endService_36, tX0_endService_39, tX0_endService_40, tX0_endService_41, tX0_endService_44, tX0_endService_45, tX0_endService_48, tX0_endService_49, tX0_endService_50, tX0_endService_51, tX0_endService_54, tX0_endService_55, tX0_endService_58, tX0_endService_59, tX0_endService_60, tX0_endService_61, tX0_endService_64, tX0_endService_65, tX0_endService_68, tX0_endService_69, tX0_endService_72, tX0_endService_73, tX0_endService_74, tX0_endService_77, tX0_endService_78, tX0_endService_81, tX0_endService_82, tX0_endService_83, pw_QK_s, b0, b5, b6.1, e10, f2, ↓w_get, ↓w_hasLine]
      refine ⟨by decide, fun q => absurd q (by decide), fun _ => ⟨fun q => absurd q.1 (by decide), fun _ => hA⟩⟩
    · obtain ⟨u, hu⟩ : ∃ u, vN S 10 = u + 1 := ⟨vN S 10 - 1, by omega⟩
      have hB := hB e
      have dA := done_ack hI hD e
      rw [hu, Nat.add_sub_cancel] at hB dA
      have e10 : I (o + 37) 1 = nI (u + 1) := by rw [s1, h10.1, hu]
      have m1 : nI (u + 1) - 1 = nI u := pk_sub (b := 1) (by omega)
      have cu : (nI u).toNatClampNeg = u := cl_nI (by omega)
      have ht := hI.2.2.2.2.2.2.1 u (by omega)
      have eu : I (o + 38) u = nI (vN S (11 + u)) := (s2 u (by omega)).trans ht.1
      have l4 : (S 4).toInt = (vN S 4 : Int) := (congrArg Int32.toInt h4.1).trans (ti_nI (by omega))
      have hst := hD.1 u (by omega)
      have hor := fun J p => out_rel (J := J) (p := p) hV hI hD hu rfl
      have hdi := done_inv (k := vN S (11 + u)) hI e
      generalize vN S (11 + u) = k at ht eu hB dA hst hor hdi
      have hk16 : k < 16 := by omega
      obtain ⟨l1, l2⟩ := bL k hk16
      have ck : (nI k).toNatClampNeg = k := cl_nI (by omega)
      have tk : (nI k).toInt = (k : Int) := ti_nI (by omega)
      have tu : (nI u).toInt = (u : Int) := ti_nI (by omega)
      have tu1 : (nI (u + 1)).toInt = ((u + 1 : Nat) : Int) := ti_nI (by omega)
      have v4 : vN (done1 S k) 4 = vN S 4 := by
        unfold vN done1
        rw [upd_n (by omega), upd_n (by omega), upd_n (by omega), upd_n (by omega), upd_n (by omega)]
      have hWl : W.length ≤ 15 := by
        have := nodup_len (l := k :: W) (List.nodup_cons.mpr ⟨fun z => by have := ((w3.2.1 k).mp z).2; rw [hst] at this; exact absurd this (by decide), w3.1⟩) 16 (fun x hx => by
          rcases List.mem_cons.mp hx with z | z
          · omega
          · have := ((w3.2.1 x).mp z).1; omega)
        rw [List.length_cons] at this
        omega
      have tail : ∀ J, outM J I o k u (S 0 + S 2) → PW (mX0_endService, 2, 0, 0, none, base) n sh P J 0 0 72 [some (.ref o), some (.int (nI k))] [] (pw_QK n sh P K) := by
        intro J hJ
        obtain ⟨j1, j2, j3⟩ := id hJ
        refine pw_go okX0_endService (cc [(15, (w_queueAcknowledge o)), (16, (w_acknowledgeDue o (done1 S k)))]) ⟨Nat.le_refl _, Nat.le_refl _⟩ (cc_c (fun Ag I K h => ⟨1, Nat.le_of_ble_eq_true rfl, x_queueAcknowledge hM h⟩) (cc_c (fun Ag I K h => ⟨1, Nat.le_of_ble_eq_true rfl, x_acknowledgeDue hM h⟩) cc_n)) (st0) 60 ?_
        simp only [↓f_vc_s, ↓vk_i, ↓cc_i, ↓reduceIte, f_vq_s, Bool.false_eq_true, ↓f_e_iconst, ↓f_e_bipush, ↓f_e_sipush, ↓f_e_ldc, ↓f_e_ldc_w, ↓f_e_iload_n, ↓f_e_iload, ↓f_e_aload_n, ↓f_e_aload, ↓f_e_istore_n, ↓f_e_istore, ↓f_e_astore_n, ↓f_e_astore, ↓f_e_iinc, ↓f_e_iadd, ↓f_e_isub, ↓f_e_imul, ↓f_e_iand, ↓f_e_ior, ↓f_e_ixor, ↓f_e_idiv, ↓f_e_irem, ↓f_e_ishl, ↓f_e_ishr, ↓f_e_iushr, ↓f_e_i2c, ↓f_e_dup, ↓f_e_dup2, ↓f_e_pop, ↓f_e_goto, ↓f_e_ifCond, ↓f_e_if_icmp, ↓f_e_tableswitch, ↓f_e_lookupswitch, ↓f_e_getfield_i, ↓f_e_getfield_r, ↓f_e_putfield_i, ↓f_e_putfield_z, ↓f_e_iaload, ↓f_e_caload, ↓f_e_aaload, ↓f_e_iastore, ↓f_e_castore, ↓f_e_arraylength, ↓f_e_invokestatic, ↓f_e_invokevirtual, ↓f_e_ireturn, ↓f_e_return_, ↓f_s_i_c, ↓f_s_r_c, ↓f_s_v_i, ↓f_s_v_r, ↓f_s_l_0, ↓s_l_1, ↓s_l_2, ↓s_l_3, ↓s_l_4, ↓s_l_5, ↓s_l_6, ↓s_a_0, ↓s_a_1, ↓s_a_2, ↓s_a_3, ↓s_m_0, ↓f_s_m_i, ↓f_s_m_r, ↓f_s_m_i7, ↓f_s_m_r7, ↓f_s_m_i6, ↓f_s_m_r6, ↓f_s_m_i5, ↓f_s_m_r5, ↓f_s_m_i4, ↓f_s_m_r4, ↓f_s_w_n, ↓f_s_w_c, ↓f_s_p_eq, ↓f_s_p_ne, ↓f_s_p_lt, ↓f_s_p_ge, ↓f_s_p_gt, ↓f_s_p_le, ↓nk_i, ↓nk_z, ↓nk_c, ↓rf_s, ↓ov_s, ↓ov_n, ↓fin0, ↓fin1, ↓fin2, ↓fin3, cond_true, cond_false, List.set_cons_zero, List.set_cons_succ, List.length_cons, List.length_nil, true_and, and_true, true_or, or_true, implies_true, forall_const, not_true_eq_false, not_false_eq_true, false_implies, Nat.reduceAdd, Nat.reduceLT, Nat.reduceBEq, Nat.reduceEqDiff, Bool.or_false, Bool.false_or, Bool.or_true, Bool.true_or, beq_self_eq_true, Nat.reduceLeDiff, Nat.reduceMul, Nat.reduceSub, eq_self, Nat.reduceBneDiff, st0_s, st1_s, st2_s, st3_s, reduceCtorEq, cc_0, tl_0, cl_0, il_0, tl_1, cl_1, il_1, tl_2, cl_2, il_2, tl_3, cl_3, il_3, tl_4, cl_4, il_4, tl_5, cl_5, il_5, tl_6, cl_6, il_6, tl_7, cl_7, il_7, tl_8, cl_8, il_8, tl_9, cl_9, il_9, tl_10, cl_10, il_10, tl_11, cl_11, il_11, tl_12, cl_12, il_12, tl_13, cl_13, il_13, tl_14, cl_14, il_14, tl_15, cl_15, il_15, tl_16, cl_16, il_16, tl_20, tl_21, tl_25, tl_32, tl_48, tl_50, tl_57, tl_58, tl_59, tl_60, tl_99, tl_100, tl_101, tl_108, tl_109, tl_116, tl_120, tl_126, tl_374, tl_1122, tl_50000, i10, i01, tl_m1, tl_m2, tl_m3, tl_m4, nr_X0_endService, tX0_endService_0, tX0_endService_1, tX0_endService_4, tX0_endService_5, tX0_endService_8, tX0_endService_11, tX0_endService_12, tX0_endService_13, tX0_endService_16, tX0_endService_17, tX0_endService_18, tX0_endService_19, tX0_endService_22, tX0_endService_25, tX0_endService_27, tX0_endService_28, tX0_endService_29, tX0_endService_32, tX0_endService_33, tX0_endService_36, tX0_endService_39, tX0_endService_40, tX0_endService_41, tX0_endService_44, tX0_endService_45, tX0_endService_48, tX0_endService_49, tX0_endService_50, tX0_endService_51, tX0_endService_54, tX0_endService_55, tX0_endService_58, tX0_endService_59, tX0_endService_60, tX0_endService_61, tX0_endService_64, tX0_endService_65, tX0_endService_68, tX0_endService_69, tX0_endService_72, tX0_endService_73, tX0_endService_74, tX0_endService_77, tX0_endService_78, tX0_endService_81, tX0_endService_82, tX0_endService_83, pw_QK_s, b0, ↓w_queueAcknowledge, ↓w_acknowledgeDue]
        refine ⟨k, W, vN S 4, rfl, hk16, hWl, fun i hi => ((w3.2.1 i).mp hi).1, h4.2, ?_, ?_, ?_, fun p hp q1 q2 => ⟨hdi, hor J p hJ hp q1 q2, fun J2 hJ2 hR2 => ?_⟩⟩
        · rw [j1 _ (by omega) (by omega), f2]; exact h4.1
        · rw [j1 _ (by omega) (by omega)]; exact w1
        · rw [j1 _ (by omega) (by omega)]; exact w2
        · rw [dA] at hR2
          refine hB J2 (fun a h => ?_) hR2
          rw [hJ2 a h, set_n (by omega), set_n (by omega)]
          exact j1 a (by omega) (by omega)
      refine pw_go okX0_endService (cc [(60, (w_get (o + 37) (o + 38))), (3, (w_hasLine o S)), (62, (w_remove (o + 37) (o + 38)))]) ⟨Nat.le_refl _, Nat.le_refl _⟩ (cc_c (fun Ag I K h => ⟨0, Nat.le_of_ble_eq_true rfl, x_get b6 h⟩) (cc_c (fun Ag I K h => ⟨0, Nat.le_of_ble_eq_true rfl, x_hasLine hM h⟩) (cc_c (fun Ag I K h => ⟨0, Nat.le_of_ble_eq_true rfl, x_remove b6 h⟩) cc_n))) (st1 72) 60 ?_
      simp only [↓f_vc_s, ↓vk_i, ↓cc_i, ↓reduceIte, f_vq_s, Bool.false_eq_true, ↓f_e_iconst, ↓f_e_bipush, ↓f_e_sipush, ↓f_e_ldc, ↓f_e_ldc_w, ↓f_e_iload_n, ↓f_e_iload, ↓f_e_aload_n, ↓f_e_aload, ↓f_e_istore_n, ↓f_e_istore, ↓f_e_astore_n, ↓f_e_astore, ↓f_e_iinc, ↓f_e_iadd, ↓f_e_isub, ↓f_e_imul, ↓f_e_iand, ↓f_e_ior, ↓f_e_ixor, ↓f_e_idiv, ↓f_e_irem, ↓f_e_ishl, ↓f_e_ishr, ↓f_e_iushr, ↓f_e_i2c, ↓f_e_dup, ↓f_e_dup2, ↓f_e_pop, ↓f_e_goto, ↓f_e_ifCond, ↓f_e_if_icmp, ↓f_e_tableswitch, ↓f_e_lookupswitch, ↓f_e_getfield_i, ↓f_e_getfield_r, ↓f_e_putfield_i, ↓f_e_putfield_z, ↓f_e_iaload, ↓f_e_caload, ↓f_e_aaload, ↓f_e_iastore, ↓f_e_castore, ↓f_e_arraylength, ↓f_e_invokestatic, ↓f_e_invokevirtual, ↓f_e_ireturn, ↓f_e_return_, ↓f_s_i_c, ↓f_s_r_c, ↓f_s_v_i, ↓f_s_v_r, ↓f_s_l_0, ↓s_l_1, ↓s_l_2, ↓s_l_3, ↓s_l_4, ↓s_l_5, ↓s_l_6, ↓s_a_0, ↓s_a_1, ↓s_a_2, ↓s_a_3, ↓s_m_0, ↓f_s_m_i, ↓f_s_m_r, ↓f_s_m_i7, ↓f_s_m_r7, ↓f_s_m_i6, ↓f_s_m_r6, ↓f_s_m_i5, ↓f_s_m_r5, ↓f_s_m_i4, ↓f_s_m_r4, ↓f_s_w_n, ↓f_s_w_c, ↓f_s_p_eq, ↓f_s_p_ne, ↓f_s_p_lt, ↓f_s_p_ge, ↓f_s_p_gt, ↓f_s_p_le, ↓nk_i, ↓nk_z, ↓nk_c, ↓rf_s, ↓ov_s, ↓ov_n, ↓fin0, ↓fin1, ↓fin2, ↓fin3, cond_true, cond_false, List.set_cons_zero, List.set_cons_succ, List.length_cons, List.length_nil, true_and, and_true, true_or, or_true, implies_true, forall_const, not_true_eq_false, not_false_eq_true, false_implies, Nat.reduceAdd, Nat.reduceLT, Nat.reduceBEq, Nat.reduceEqDiff, Bool.or_false, Bool.false_or, Bool.or_true, Bool.true_or, beq_self_eq_true, Nat.reduceLeDiff, Nat.reduceMul, Nat.reduceSub, eq_self, Nat.reduceBneDiff, st0_s, st1_s, st2_s, st3_s, reduceCtorEq, cc_0, tl_0, cl_0, il_0, tl_1, cl_1, il_1, tl_2, cl_2, il_2, tl_3, cl_3, il_3, tl_4, cl_4, il_4, tl_5, cl_5, il_5, tl_6, cl_6, il_6, tl_7, cl_7, il_7, tl_8, cl_8, il_8, tl_9, cl_9, il_9, tl_10, cl_10, il_10, tl_11, cl_11, il_11, tl_12, cl_12, il_12, tl_13, cl_13, il_13, tl_14, cl_14, il_14, tl_15, cl_15, il_15, tl_16, cl_16, il_16, tl_20, tl_21, tl_25, tl_32, tl_48, tl_50, tl_57, tl_58, tl_59, tl_60, tl_99, tl_100, tl_101, tl_108, tl_109, tl_116, tl_120, tl_126, tl_374, tl_1122, tl_50000, i10, i01, tl_m1, tl_m2, tl_m3, tl_m4, nr_X0_endService, tX0_endService_0, tX0_endService_1, tX0_endService_4, tX0_endService_5, tX0_endService_8, tX0_endService_11, tX0_endService_12, tX0_endService_13, tX0_endService_16, tX0_endService_17, tX0_endService_18, tX0_endService_19, tX0_endService_22, tX0_endService_25, tX0_endService_27, tX0_endService_28, tX0_endService_29, tX0_endService_32, tX0_endService_33, tX0_endService_36, tX0_endService_39, tX0_endService_40, tX0_endService_41, tX0_endService_44, tX0_endService_45, tX0_endService_48, tX0_endService_49, tX0_endService_50, tX0_endService_51, tX0_endService_54, tX0_endService_55, tX0_endService_58, tX0_endService_59, tX0_endService_60, tX0_endService_61, tX0_endService_64, tX0_endService_65, tX0_endService_68, tX0_endService_69, tX0_endService_72, tX0_endService_73, tX0_endService_74, tX0_endService_77, tX0_endService_78, tX0_endService_81, tX0_endService_82, tX0_endService_83, pw_QK_s, b0, b3, b4, b5, b6.1, e10, m1, cu, eu, ck, l1, l2, f2, ↓w_get, ↓w_hasLine, ↓w_remove]
      rw [tk, l4, tu, tu1]
      refine ⟨by omega, fun _ => ⟨fun _ => ⟨u + 1, u, rfl, by omega, rfl, by omega, in_nI hk16 (by omega), in_nI hk16 (by omega), tail _ ⟨fun a h1 h2 => ?_, ?_, ?_⟩⟩, fun q => absurd (by omega) q⟩, fun q => absurd (by omega) q⟩
      · have e38 : remF (I (o + 38)) u (u + 1) = I (o + 38) := by
          unfold remF
          rw [show u + 1 - 1 - u = 0 by omega, cpy_0]
        rw [up_set, set_n h2, up_set, set_n h2, set_n h1, e38, set_id]
      · rw [up_set, set_n (by omega), up_set, set_n (by omega), set_s]; rfl
      · rw [up_set, set_s, up_set, set_s, set_n (by omega), set_n (by omega), set_n (by omega), set_n (by omega), set_n (by omega), f4, f6]
  · exact h.elim
end DON
