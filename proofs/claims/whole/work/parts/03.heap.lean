/-! reads and writes of the memory, one instruction each -/
def pw_up (I : pw_I) (a k : Nat) (v : Int32) : pw_I := fun a' k' => if a' = a ∧ k' = k then v else I a' k'
def pw_upP (P : pw_P) (a k : Nat) (v : Option Nat) : pw_P := fun a' k' => if a' = a ∧ k' = k then v else P a' k'
theorem pw_up_s {I : pw_I} {a k : Nat} {v : Int32} : pw_up I a k v a k = v := by simp [pw_up]
theorem pw_up_k {I : pw_I} {a a' k k' : Nat} {v : Int32} (h : k' ≠ k) : pw_up I a k v a' k' = I a' k' := by simp [pw_up, h]
theorem pw_up_a {I : pw_I} {a a' k k' : Nat} {v : Int32} (h : a' ≠ a) : pw_up I a k v a' k' = I a' k' := by simp [pw_up, h]
theorem pw_upP_s {P : pw_P} {a k : Nat} {v : Option Nat} : pw_upP P a k v a k = v := by simp [pw_upP]
theorem pw_upP_k {P : pw_P} {a a' k k' : Nat} {v : Option Nat} (h : k' ≠ k) : pw_upP P a k v a' k' = P a' k' := by simp [pw_upP, h]
theorem pw_upP_a {P : pw_P} {a a' k k' : Nat} {v : Option Nat} (h : a' ≠ a) : pw_upP P a k v a' k' = P a' k' := by simp [pw_upP, h]
theorem pw_val_cong {ci : Nat} {P P' : pw_P} {I I' : pw_I} {a : Nat} (hP : ∀ k, P' a k = P a k) (hI : ∀ k, I' a k = I a k) : pw_val ci P' I' a = pw_val ci P I a := by
  funext k
  unfold pw_val
  rw [hP, hI]
theorem pw_cell.kept {D : va_G} {dA : Nat → ClassId} {sh : pw_Sh} {P P' : pw_P} {I I' : pw_I} {H H' : Heap} {a : Nat} (h : pw_cell D dA sh P I H a) (hH : H'[a]? = H[a]?) (hP : ∀ k, P' a k = P a k) (hI : ∀ k, I' a k = I a k) : pw_cell D dA sh P' I' H' a := by
  have e1 : (fun j => Value.int (I' a j)) = (fun j => Value.int (I a j)) := by funext j; rw [hI]
  have e2 : (fun j => va_rf (P' a j)) = (fun j => va_rf (P a j)) := by funext j; rw [hP]
  unfold pw_cell at h ⊢
  rw [pw_val_cong hP hI, e1, e2, hH]
  exact ⟨fun hc => (h.1 hc).kept hH, h.2⟩
theorem pw_Wd.put {D : va_G} {dA : Nat → ClassId} {base n : Nat} {sh : pw_Sh} {P P' : pw_P} {I I' : pw_I} {H H' : Heap} {a : Nat} (h : pw_Wd D dA base n sh P I H) (z : H'.size = H.size) (oq : ∀ q, q ≠ a → H'[q]? = H[q]?)
    (hP : ∀ q, q ≠ a → ∀ k, P' q k = P q k) (hI : ∀ q, q ≠ a → ∀ k, I' q k = I q k) (hc : pw_cell D dA sh P' I' H' a) : pw_Wd D dA base n sh P' I' H' := by
  refine ⟨by rw [z]; exact h.1, fun q hq => ⟨(h.2 q hq).1, ?_⟩⟩
  by_cases e : q = a
  · rw [e]; exact hc
  · exact (h.2 q hq).2.kept (oq q e) (hP q e) (hI q e)
section PWH
variable {p : Program} {l : Launch} {e : Env} {R : Room} {s : State} {m : MethodId} {args : Array Value} {below : List Frame} {meth : Method} {c : Code} {H : Heap} {locs : List Loc} {cells slots : Nat} {Q : State → Prop}
variable {g : pw_g} {D : va_G} {dA : Nat → ClassId} {base n : Nat} {sh : pw_Sh} {P : pw_P} {I : pw_I} {pc : Nat} {ls : Array Slot} {rest : List Value} {cc : ByteArray}
/-- a field's link in the tables -/
def pw_fl (own : String) (idx ci k : Nat) : Prop := Cond.fieldLink own idx (pw_tb ci k).1 (pw_tb ci k).2.1 (pw_tb ci k).2.2.1 ∈ pw_T ∨ ∃ host, Cond.fieldLinkNest own idx (pw_tb ci k).1 (pw_tb ci k).2.1 (pw_tb ci k).2.2.1 host ∈ pw_N
theorem pw_getf (C : pw_ctx p s m args meth c R g D dA) (hW : pw_Wd D dA base n sh P I H) {a ci k idx : Nat} (hci : ci < 8) (hcl : pw_clok ci) (hk : k < pw_nf ci) (hsh : (sh a).1 = ci) (hfl : pw_fl g.1.1.cls idx ci k) (hdg : decode g.1.2.1 pc = .ok (.getfield idx, 3))
    (kk : W p l e R s m args below meth c H locs cells slots Q (F0 m (pc + 3) ls (pw_val ci P I a k :: rest))) : W p l e R s m args below meth c H locs cells slots Q (F0 m pc ls (.ref a :: rest)) := by
  obtain ⟨hx, hb, -, -, hown, hts, -, ⟨hK, hN, -⟩, -⟩ := C
  have hcell := (hW.2 a (by omega)).2.1 (by omega)
  rw [hsh] at hcell
  obtain ⟨cell, q1, q2, q3, q4⟩ := hcell
  obtain ⟨hcl1, hcl2, hcl3, hcl4⟩ := hcl
  obtain ⟨hS, hfc, kC, hkC, hkind⟩ := hK.1 ci _ hcl1
  obtain ⟨cf, kf, fi, f, hi, hsl⟩ := hS k hk
  have hst := (u_facts hfc hkC (u_lays hts hcl2 hk) hi).1
  rcases hfl with hfl | ⟨host, hfl⟩
  · exact W.getf hx hb hown (hts _ hfl) hi hst q1 (by rw [q3]; exact fun h => by cases h) (by rw [hsl, q4 k hk]) rfl rfl hdg kk
  · exact va_Wgetf hx hb hown (va_Nw.use rfl (hN _ hfl)) hi hst q1 (by rw [q3]; exact fun h => by cases h) (by rw [hsl, q4 k hk]) rfl rfl hdg kk
/-- a field is written: a whole number (v) or a reference (r) -/
theorem pw_putf (C : pw_ctx p s m args meth c R g D dA) (hW : pw_Wd D dA base n sh P I H) {A : Nat → Prop} (hS0 : va_S A s.heap H locs) {a ci k idx : Nat} {v : Value} {P' : pw_P} {I' : pw_I} (hA : A a) (hci : ci < 8) (hcl : pw_clok ci) (hk : k < pw_nf ci) (hsh : (sh a).1 = ci) (hfl : pw_fl g.1.1.cls idx ci k)
    (hfin : (pw_tb ci k).2.2.2 = false ∨ ((pw_tb ci k).2.2.2 = true ∧ meth.name = "<init>" ∧ (pw_tb ci k).1 = g.1.1.cls ∧ Cond.fieldLink g.1.1.cls idx (pw_tb ci k).1 (pw_tb ci k).2.1 (pw_tb ci k).2.2.1 ∈ pw_T)) (hn : narrow (pw_ty ci k) v = v) (hfit : fits (pw_ty ci k) v = true)
    (hP : ∀ q, q ≠ a → ∀ k, P' q k = P q k) (hI : ∀ q, q ≠ a → ∀ k, I' q k = I q k) (hnew : ∀ j, j < pw_nf ci → pw_val ci P' I' a j = if j = k then v else pw_val ci P I a j)
    (hdg : decode g.1.2.1 pc = .ok (.putfield idx, 3))
    (kk : ∀ (H1 : Heap) (locs1 : List Loc), pw_Wd D dA base n sh P' I' H1 → va_S A s.heap H1 locs1 → W p l e R s m args below meth c H1 locs1 cells slots Q (F0 m (pc + 3) ls rest)) : W p l e R s m args below meth c H locs cells slots Q (F0 m pc ls (v :: .ref a :: rest)) := by
  obtain ⟨hx, hb, -, -, hown, hts, -, ⟨hK, hN, -⟩, -⟩ := C
  have hcell := (hW.2 a (by omega)).2.1 (by omega)
  rw [hsh] at hcell
  obtain ⟨cell, q1, q2, q3, q4⟩ := hcell
  obtain ⟨hcl1, hcl2, hcl3, hcl4⟩ := hcl
  have hap := va_apart (own := g.1.1.cls) hts hcl2 (pw_ty ci) hcl3 hcl4 hK hcl1
  obtain ⟨hS, hfc, kC, hkC, hkind⟩ := hK.1 ci _ hcl1
  obtain ⟨cf, kf, fi, f, hi, hsl⟩ := hS k hk
  have hst := (u_facts hfc hkC (u_lays hts hcl2 hk) hi).1
  have hend : ∀ H1 : Heap, H1[a]? = some (cell.setSlot f.slot v) → H1.size = H.size → (∀ q, q ≠ a → H1[q]? = H[q]?) → W p l e R s m args below meth c H1 (locs ++ [⟨a, f.slot⟩]) cells slots Q (F0 m (pc + 3) ls rest) := by
    intro H1 e1 e2 e3
    refine kk H1 _ (hW.put e2 e3 hP hI ⟨fun _ => ?_, fun h => absurd h (by omega), fun h => absurd h (by omega)⟩) (hS0.put e2 e3 hA)
    rw [hsh]
    rw [hsl] at e1
    refine t_OB.to (V := updV (pw_val ci P I a) k v) ⟨_, e1, q2, q3, t_set q4 hap hk v⟩ (fun j hj => ?_)
    rw [hnew j hj]
    rfl
  have hlt : f.slot < cell.slots.size := by rw [hsl]; exact k2_hasslot (q4 k hk)
  rcases hfin with hfin | ⟨hfin, hin, hdecl, hflT⟩
  · have hlay := hts _ (hcl2 _ (u_in_lay hk))
    unfold u_lay at hlay
    rw [if_neg (by rw [hfin]; decide)] at hlay
    have h6 := u_store hfc hkC hkind hlay hi (hcl3 k hk) hn hfit
    rcases hfl with hfl | ⟨host, hfl⟩
    · exact W.putK hx hb (f := f) ⟨hown, hts _ hfl, ⟨_, _, _, hi⟩, hst⟩ (by rw [q2]; exact h6) q1 q3 hlt rfl rfl hdg hend
    · exact va_WputK hx hb (f := f) hown (va_Nw.use rfl (hN _ hfl)) hi hst (by rw [q2]; exact h6) q1 q3 hlt rfl rfl hdg hend
  · have h6 := u_fits hfc hkC hkind (u_lays hts hcl2 hk) hi (hcl3 k hk) hn hfit
    have hlay := hts _ (hcl2 _ (u_in_lay hk))
    unfold u_lay at hlay
    rw [if_pos hfin] at hlay
    have hcf : m.cls = cf := by
      obtain ⟨_, _, c', _, _, _, -, -, hf', -, -, -, hown2, -⟩ := Cond.laysFinal_spec hlay
      have e1 : c' = cf := by have := hi.symm.trans hf'; simp at this; exact this.1.symm
      rw [hdecl] at hown2
      rw [← e1]; exact Option.some.inj (hown.symm.trans hown2)
    exact W.putFinK hx hb hown (hts _ hflT) hi hst hcf hin (by rw [q2]; exact h6) q1 q3 hlt rfl rfl hdg hend
theorem pw_cell8 (hW : pw_Wd D dA base n sh P I H) {a : Nat} (h : (sh a).1 = 8 ∨ (sh a).1 = 9) : H[a]? = some (arrV (dA (sh a).1) (sh a).2 (fun j => .int (I a j))) := (hW.2 a (by omega)).2.2.1 h
theorem pw_cell10 (hW : pw_Wd D dA base n sh P I H) {a : Nat} (h : 10 ≤ (sh a).1 ∧ (sh a).1 ≤ 12) : H[a]? = some (arrV (dA (sh a).1) (sh a).2 (fun j => va_rf (P a j))) := (hW.2 a (by omega)).2.2.2 h
theorem pw_iald (C : pw_ctx p s m args meth c R g D dA) (hW : pw_Wd D dA base n sh P I H) {a : Nat} {i : Int32} (hsh : (sh a).1 = 8) (hin : vp_in i (sh a).2) (hdg : decode g.1.2.1 pc = .ok (.iaload, 1))
    (kk : W p l e R s m args below meth c H locs cells slots Q (F0 m (pc + 1) ls (.int (I a i.toNatClampNeg) :: rest))) : W p l e R s m args below meth c H locs cells slots Q (F0 m pc ls (.int i :: .ref a :: rest)) := by
  obtain ⟨hx, hb, -, -, hown, hts, -, ⟨hK, -⟩, -⟩ := C
  have h := pw_cell8 hW (Or.inl hsh)
  rw [hsh] at h
  have hlt : i.toNatClampNeg < (sh a).2 := Nat.not_le.mp fun q => hin (Or.inr q)
  exact W.iald (v := .int (I a i.toNatClampNeg)) hx hb h ((hK.2 0 _ rfl).1 (sh a).2 (fun j => .int (I a j))) (fun q => by cases q) (by rw [arrV_size]; exact hin) (arrV_read _ _ hlt) rfl rfl hdg kk
theorem pw_cald (C : pw_ctx p s m args meth c R g D dA) (hW : pw_Wd D dA base n sh P I H) {a : Nat} {i : Int32} (hsh : (sh a).1 = 9) (hin : vp_in i (sh a).2) (hdg : decode g.1.2.1 pc = .ok (.caload, 1))
    (kk : W p l e R s m args below meth c H locs cells slots Q (F0 m (pc + 1) ls (.int (I a i.toNatClampNeg) :: rest))) : W p l e R s m args below meth c H locs cells slots Q (F0 m pc ls (.int i :: .ref a :: rest)) := by
  obtain ⟨hx, hb, -, -, hown, hts, -, ⟨hK, -⟩, -⟩ := C
  have h := pw_cell8 hW (Or.inr hsh)
  rw [hsh] at h
  have hlt : i.toNatClampNeg < (sh a).2 := Nat.not_le.mp fun q => hin (Or.inr q)
  exact W.cald (v := .int (I a i.toNatClampNeg)) hx hb h ((hK.2 1 _ rfl).1 (sh a).2 (fun j => .int (I a j))) (fun q => by cases q) (by rw [arrV_size]; exact hin) (arrV_read _ _ hlt) rfl rfl hdg kk
theorem pw_updV {I : pw_I} {a k : Nat} {x : Int32} : updV (fun j => Value.int (I a j)) k (.int x) = fun j => Value.int (pw_up I a k x a j) := by
  funext j
  by_cases h : j = k
  · subst h; simp [updV, pw_up]
  · simp [updV, pw_up, h]
theorem pw_updP {P : pw_P} {a k : Nat} {x : Option Nat} : updV (fun j => va_rf (P a j)) k (va_rf x) = fun j => va_rf (pw_upP P a k x a j) := by
  funext j
  by_cases h : j = k
  · subst h; simp [updV, pw_upP]
  · simp [updV, pw_upP, h]
theorem pw_iast (C : pw_ctx p s m args meth c R g D dA) (hW : pw_Wd D dA base n sh P I H) {A : Nat → Prop} (hS0 : va_S A s.heap H locs) {a : Nat} {i x : Int32} (hA : A a) (hsh : (sh a).1 = 8) (hin : vp_in i (sh a).2) (hdg : decode g.1.2.1 pc = .ok (.iastore, 1))
    (kk : ∀ (H1 : Heap) (locs1 : List Loc), pw_Wd D dA base n sh P (pw_up I a i.toNatClampNeg x) H1 → va_S A s.heap H1 locs1 → W p l e R s m args below meth c H1 locs1 cells slots Q (F0 m (pc + 1) ls rest)) : W p l e R s m args below meth c H locs cells slots Q (F0 m pc ls (.int x :: .int i :: .ref a :: rest)) := by
  obtain ⟨hx, hb, -, -, hown, hts, -, ⟨hK, -⟩, -⟩ := C
  have h := pw_cell8 hW (Or.inl hsh)
  rw [hsh] at h
  refine W.iast hx hb h ((hK.2 0 _ rfl).1 (sh a).2 (fun j => .int (I a j))) (fun q => by cases q) (by rw [arrV_size]; exact hin) rfl rfl hdg fun H1 e z oq => ?_
  refine kk H1 _ (hW.put z oq (fun _ _ _ => rfl) (fun q hq k => pw_up_a hq) ⟨fun h => absurd h (by omega), fun _ => ?_, fun h => absurd h (by omega)⟩) (hS0.put z oq hA)
  rw [e, arrV_store, pw_updV, hsh]
theorem pw_cast (C : pw_ctx p s m args meth c R g D dA) (hW : pw_Wd D dA base n sh P I H) {A : Nat → Prop} (hS0 : va_S A s.heap H locs) {a : Nat} {i x : Int32} (hA : A a) (hsh : (sh a).1 = 9) (hin : vp_in i (sh a).2) (hx0 : narrow .char (.int x) = .int x) (hdg : decode g.1.2.1 pc = .ok (.castore, 1))
    (kk : ∀ (H1 : Heap) (locs1 : List Loc), pw_Wd D dA base n sh P (pw_up I a i.toNatClampNeg x) H1 → va_S A s.heap H1 locs1 → W p l e R s m args below meth c H1 locs1 cells slots Q (F0 m (pc + 1) ls rest)) : W p l e R s m args below meth c H locs cells slots Q (F0 m pc ls (.int x :: .int i :: .ref a :: rest)) := by
  obtain ⟨hx, hb, -, -, hown, hts, -, ⟨hK, -⟩, -⟩ := C
  have h := pw_cell8 hW (Or.inr hsh)
  rw [hsh] at h
  refine W.cast hx hb h ((hK.2 1 _ rfl).1 (sh a).2 (fun j => .int (I a j))) (fun q => by cases q) (by rw [arrV_size]; exact hin) rfl rfl hdg fun H1 e z oq => ?_
  refine kk H1 _ (hW.put z oq (fun _ _ _ => rfl) (fun q hq k => pw_up_a hq) ⟨fun h => absurd h (by omega), fun _ => ?_, fun h => absurd h (by omega)⟩) (hS0.put z oq hA)
  rw [e, hx0, arrV_store, pw_updV, hsh]
/-- the class of what an array of references holds -/
def pw_el : Nat → Nat
  | 10 => 4
  | 11 => 3
  | _ => 0
theorem pw_tysk {dA : Nat → ClassId} {k : Nat} (h : 10 ≤ k ∧ k ≤ 12) : (pw_tys dA)[k - 8]? = some (dA k, .object (pw_R (pw_el k))) := by
  have : k = 10 ∨ k = 11 ∨ k = 12 := by omega
  rcases this with rfl | rfl | rfl <;> rfl
theorem pw_aald (C : pw_ctx p s m args meth c R g D dA) (hW : pw_Wd D dA base n sh P I H) {a : Nat} {i : Int32} (hsh : 10 ≤ (sh a).1 ∧ (sh a).1 ≤ 12) (hin : vp_in i (sh a).2) (hdg : decode g.1.2.1 pc = .ok (.aaload, 1))
    (kk : W p l e R s m args below meth c H locs cells slots Q (F0 m (pc + 1) ls (va_rf (P a i.toNatClampNeg) :: rest))) : W p l e R s m args below meth c H locs cells slots Q (F0 m pc ls (.int i :: .ref a :: rest)) := by
  obtain ⟨hx, hb, -, -, hown, hts, -, ⟨hK, -⟩, -⟩ := C
  have hlt : i.toNatClampNeg < (sh a).2 := Nat.not_le.mp fun q => hin (Or.inr q)
  exact W.aald (v := va_rf (P a i.toNatClampNeg)) (ty := .object (pw_R (pw_el (sh a).1))) hx hb (pw_cell10 hW hsh) ((hK.2 _ _ (pw_tysk hsh)).1 (sh a).2 (fun j => va_rf (P a j))) rfl (fun q => by cases q) (by rw [arrV_size]; exact hin) (arrV_read _ _ hlt) rfl rfl hdg kk
theorem pw_alen (C : pw_ctx p s m args meth c R g D dA) (hW : pw_Wd D dA base n sh P I H) {a : Nat} (hsh : 8 ≤ (sh a).1 ∧ (sh a).1 ≤ 12) (hdg : decode g.1.2.1 pc = .ok (.arraylength, 1))
    (kk : W p l e R s m args below meth c H locs cells slots Q (F0 m (pc + 1) ls (.int (nI (sh a).2) :: rest))) : W p l e R s m args below meth c H locs cells slots Q (F0 m pc ls (.ref a :: rest)) := by
  obtain ⟨hx, hb, -, -, hown, hts, -, ⟨hK, -⟩, -⟩ := C
  by_cases h8 : (sh a).1 = 8 ∨ (sh a).1 = 9
  · have h := pw_cell8 hW h8
    rcases h8 with h8 | h8
    · rw [h8] at h
      exact W.alen (n := nI (sh a).2) hx hb h ((hK.2 0 _ rfl).1 (sh a).2 (fun j => .int (I a j))) (by rw [arrV_size]; rfl) rfl rfl hdg kk
    · rw [h8] at h
      exact W.alen (n := nI (sh a).2) hx hb h ((hK.2 1 _ rfl).1 (sh a).2 (fun j => .int (I a j))) (by rw [arrV_size]; rfl) rfl rfl hdg kk
  · have h10 : 10 ≤ (sh a).1 ∧ (sh a).1 ≤ 12 := by omega
    exact W.alen (n := nI (sh a).2) hx hb (pw_cell10 hW h10) ((hK.2 _ _ (pw_tysk h10)).1 (sh a).2 (fun j => va_rf (P a j))) (by rw [arrV_size]; rfl) rfl rfl hdg kk
/-- a reference is stored into an array of its class -/
theorem pw_aast (C : pw_ctx p s m args meth c R g D dA) (hW : pw_Wd D dA base n sh P I H) {A : Nat → Prop} (hS0 : va_S A s.heap H locs) {a v : Nat} {i : Int32} (hA : A a) (hsh : 10 ≤ (sh a).1 ∧ (sh a).1 ≤ 12) (hcl : pw_clok (pw_el (sh a).1)) (hv : (sh v).1 = pw_el (sh a).1) (hin : vp_in i (sh a).2) (hdg : decode g.1.2.1 pc = .ok (.aastore, 1))
    (kk : ∀ (H1 : Heap) (locs1 : List Loc), pw_Wd D dA base n sh (pw_upP P a i.toNatClampNeg (some v)) I H1 → va_S A s.heap H1 locs1 → W p l e R s m args below meth c H1 locs1 cells slots Q (F0 m (pc + 1) ls rest)) : W p l e R s m args below meth c H locs cells slots Q (F0 m pc ls (.ref v :: .int i :: .ref a :: rest)) := by
  obtain ⟨hx, hb, -, -, hown, hts, -, ⟨hK, -⟩, -⟩ := C
  have hel : pw_el (sh a).1 < 8 := by
    have : (sh a).1 = 10 ∨ (sh a).1 = 11 ∨ (sh a).1 = 12 := by omega
    rcases this with h | h | h <;> rw [h] <;> decide
  have hlt : i.toNatClampNeg < (sh a).2 := Nat.not_le.mp fun q => hin (Or.inr q)
  have h0 : ¬ i < 0 := fun q => hin (Or.inl q)
  obtain ⟨cellV, g1, g2, g3, -⟩ := (hW.2 v (by omega)).2.1 (by omega)
  rw [hv] at g2
  have hcls := (hK.1 _ _ hcl.1).2
  obtain ⟨kA, comp, k1, k2, k3, -⟩ := (hK.2 _ _ (pw_tysk hsh)).2
  have hcomp : comp = D.1 (pw_el (sh a).1) := Option.some.inj (k3.symm.trans hcls.1)
  subst hcomp
  obtain ⟨kC, hkC, -⟩ := hcls.2
  refine W.aast hx hb (pw_cell10 hW hsh) (fun q h => by cases h) (fun h => by cases h) k1 k2 rfl hkC ⟨h0, by rw [arrV_size]; exact hlt⟩ g1 (fun q h => by rw [g3] at h; cases h) (by rw [g2]; exact hkC) (by rw [g2]; exact va_assign hcls) rfl rfl hdg fun H1 e z oq => ?_
  refine kk H1 _ (hW.put z oq (fun q hq k => pw_upP_a hq) (fun _ _ _ => rfl) ⟨fun h => absurd h (by omega), fun h => absurd h (by omega), fun _ => ?_⟩) (hS0.put z oq hA)
  rw [e, arrV_store, show (Value.ref v) = va_rf (some v) from rfl, pw_updP]
end PWH
