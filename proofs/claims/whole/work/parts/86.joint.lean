/-! the class and the reference side by side -/
def modR (I : pw_I) (m : Nat) (S : Nat → Int32) (st : Nat → Nat → Int32) (u : Nat) (T : Nat → Int32) (len : Nat) : Prop := I (m + 1) = S ∧ I m 8 = nI u ∧ (∀ i, i < u → ∀ k, k < 374 → I (m + 2) (374 * i + k) = st i k) ∧ I m 7 = nI len ∧ I (m + 7) = T
/-- nothing is changed that is looked at -/
def modKeep (m : Nat) (J J' : pw_I) : Prop := (∀ a, a < m → J' a = J a) ∧ J' (m + 1) = J (m + 1) ∧ J' (m + 2) = J (m + 2) ∧ J' m 7 = J m 7 ∧ J' m 8 = J m 8 ∧ J' (m + 7) = J (m + 7)
/-- the row is kept, and is another then -/
def modRec (m : Nat) (J : pw_I) (S' : Nat → Int32) (J' : pw_I) : Prop := (∀ a, a < m → J' a = J a) ∧ J' (m + 1) = S' ∧ J' (m + 2) = recI m J (m + 2) ∧ J' m 7 = J m 7 ∧ J' m 8 = recI m J m 8 ∧ J' (m + 7) = J (m + 7)
def modN (m : Nat) (J : pw_I) (o : pw_O) (J' : pw_I) : Prop := match o.2 with
  | none => modKeep m J J'
  | some S' => modRec m J S' J'
theorem modKeep.rf {m : Nat} {J : pw_I} : modKeep m J J := ⟨fun _ _ => rfl, rfl, rfl, rfl, rfl, rfl⟩
theorem modKeep.scr {m : Nat} {J J' : pw_I} (h : scrOK m J J') : modKeep m J J' := ⟨fun a ha => h a (by omega) (by omega) (by omega), h _ (by omega) (by omega) (by omega), h _ (by omega) (by omega) (by omega), by rw [h m (by omega) (by omega) (by omega)], by rw [h m (by omega) (by omega) (by omega)], h _ (by omega) (by omega) (by omega)⟩
theorem modKeep.scr5 {m : Nat} {J J' : pw_I} (h : scr5 m J J') (h1 : J' (m + 1) = J (m + 1)) : modKeep m J J' := ⟨fun a ha => h a (by omega) (by omega) (by omega) (by omega) (by omega), h1, h _ (by omega) (by omega) (by omega) (by omega) (by omega), by rw [h m (by omega) (by omega) (by omega) (by omega) (by omega)], by rw [h m (by omega) (by omega) (by omega) (by omega) (by omega)], h _ (by omega) (by omega) (by omega) (by omega) (by omega)⟩
theorem modKeep.pl {m : Nat} {J J' : pw_I} (h : plOK m J J') (h1 : J' (m + 1) = J (m + 1)) : modKeep m J J' := ⟨fun a ha => h.1 a (by omega) (by omega) (by omega) (by omega) (by omega) (by omega), h1, h.1 _ (by omega) (by omega) (by omega) (by omega) (by omega) (by omega), h.2 7 (by omega) (by omega) (by omega) (by omega), h.2 8 (by omega) (by omega) (by omega) (by omega), h.1 _ (by omega) (by omega) (by omega) (by omega) (by omega) (by omega)⟩
theorem modRec.of {m : Nat} {J J1 : pw_I} {S' : Nat → Int32} (h : modKeep m J J1) : modRec m J S' (pw_set (recI m J1) (m + 1) S') := by
  obtain ⟨h0, h1, h2, h7, h8, hT⟩ := h
  refine ⟨fun a ha => ?_, set_s, ?_, ?_, ?_, ?_⟩
  · rw [set_n (by omega)]
    unfold recI
    rw [set_n (by omega), set_n (by omega)]
    exact h0 a ha
  · rw [set_n (by omega)]
    unfold recI
    rw [set_n (by omega), set_s, set_n (by omega), set_s, h1, h2]
    unfold vN
    rw [h8]
  · rw [set_n (by omega)]
    unfold recI
    rw [set_s, upd_n (by omega)]
    exact h7
  · rw [set_n (by omega)]
    unfold recI vN
    rw [set_s, set_s, upd_s, upd_s, h8]
  · rw [set_n (by omega)]
    unfold recI
    rw [set_n (by omega), set_n (by omega)]
    exact hT
theorem modRec.pl {m : Nat} {J J' : pw_I} {S' : Nat → Int32} (h : plOK m (recI m J) J') (h1 : J' (m + 1) = S') : modRec m J S' J' := by
  refine ⟨fun a ha => ?_, h1, h.1 _ (by omega) (by omega) (by omega) (by omega) (by omega) (by omega), ?_, h.2 8 (by omega) (by omega) (by omega) (by omega), ?_⟩
  · rw [h.1 a (by omega) (by omega) (by omega) (by omega) (by omega) (by omega)]
    unfold recI
    rw [set_n (by omega), set_n (by omega)]
  · rw [h.2 7 (by omega) (by omega) (by omega) (by omega)]
    unfold recI
    rw [set_s, upd_n (by omega)]
  · rw [h.1 _ (by omega) (by omega) (by omega) (by omega) (by omega) (by omega)]
    unfold recI
    rw [set_n (by omega), set_n (by omega)]
theorem modR.keep {m u len : Nat} {J J' : pw_I} {S T : Nat → Int32} {st : Nat → Nat → Int32} (h : modR J m S st u T len) (hk : modKeep m J J') : modR J' m S st u T len := by
  obtain ⟨a1, a2, a3, a4, a5⟩ := h
  obtain ⟨-, h1, h2, h7, h8, hT⟩ := hk
  exact ⟨h1.trans a1, h8.trans a2, fun i hi k hk => by rw [h2]; exact a3 i hi k hk, h7.trans a4, hT.trans a5⟩
theorem modR.rec {m u len : Nat} {J J' : pw_I} {S S' T : Nat → Int32} {st : Nat → Nat → Int32} (h : modR J m S st u T len) (hu : u ≤ 4) (hk : modRec m J S' J') : modR J' m S' (pushS st u S) (pushU u) T len := by
  obtain ⟨a1, a2, a3, a4, a5⟩ := h
  obtain ⟨-, h1, h2, h7, h8, hT⟩ := hk
  have hv : vN (J m) 8 = u := by unfold vN; rw [a2, cl_nI (by omega)]
  have e8 : recI m J m 8 = nI (recU u + 1) := by
    unfold recI
    rw [set_s, upd_s, hv]
  have e2 : recI m J (m + 2) = recB S (J (m + 2)) u := by
    unfold recI
    rw [set_n (by omega), set_s, hv, a1]
  refine ⟨h1, ?_, fun i hi k hk => ?_, h7.trans a4, hT.trans a5⟩
  · rw [h8, e8]
    unfold recU pushU
    by_cases e : u = 4
    · rw [if_pos e, if_pos e]
    · rw [if_neg e, if_neg e]
  · rw [h2, e2]
    unfold recB
    by_cases e : u = 4
    · subst e
      unfold pushU at hi
      rw [if_pos rfl] at hi
      unfold pushS
      rw [if_pos rfl, if_pos rfl, show recU 4 = 3 from rfl]
      by_cases z : i < 3
      · rw [if_pos z, cpy_lo (by omega), cpy_in (by omega) (by omega), show 374 + (374 * i + k - 0) = 374 * (i + 1) + k by omega]
        exact a3 (i + 1) (by omega) k hk
      · obtain rfl : i = 3 := by omega
        rw [if_neg z, cpy_in (by omega) (by omega), show 0 + (374 * 3 + k - 374 * 3) = k by omega]
    · unfold pushU at hi
      rw [if_neg e] at hi
      unfold pushS
      rw [if_neg e, if_neg e, show recU u = u from if_neg e]
      by_cases z : i = u
      · subst z
        rw [if_pos rfl, cpy_in (by omega) (by omega), show 0 + (374 * i + k - 374 * i) = k by omega]
      · rw [if_neg z, cpy_lo (by omega)]
        exact a3 i (by omega) k hk
theorem modR.next {m u len : Nat} {J J' : pw_I} {S T : Nat → Int32} {st : Nat → Nat → Int32} {o : pw_O} (h : modR J m S st u T len) (hu : u ≤ 4) (hk : modN m J o J') : modR J' m (o.2.getD S) (nxtH st u S o.2) (nxtU u o.2) T len := by
  obtain ⟨r, w⟩ := o
  cases w with
  | none => exact h.keep hk
  | some S' => exact h.rec hu hk
theorem modN.lo {m : Nat} {J J' : pw_I} {o : pw_O} (hk : modN m J o J') : ∀ a, a < m → J' a = J a := by
  obtain ⟨r, w⟩ := o
  cases w with
  | none => exact hk.1
  | some S' => exact hk.1
theorem kN {m : Nat} {J J' : pw_I} {o : pw_O} {r : Int32} (e : o = (r, none)) (h : modKeep m J J') : some (Value.int r) = some (.int o.1) ∧ modN m J o J' := by
  subst e; exact ⟨rfl, h⟩
theorem kS {m : Nat} {J J' : pw_I} {o : pw_O} {r : Int32} {S' : Nat → Int32} (e : o = (r, some S')) (h : modRec m J S' J') : some (Value.int r) = some (.int o.1) ∧ modN m J o J' := by
  subst e; exact ⟨rfl, h⟩
theorem modR.undo {m u len : Nat} {J : pw_I} {S T : Nat → Int32} {st : Nat → Nat → Int32} (h : modR J m S st u T len) (hu : u ≤ 4) : UndoOK m J := by
  have hv : vN (J m) 8 = u := by unfold vN; rw [h.2.1, cl_nI (by omega)]
  exact ⟨by rw [hv]; exact h.2.1, by omega⟩
/-- the states that are kept, under what always holds -/
theorem push_iv {B u : Nat} {S : Nat → Int32} {st : Nat → Nat → Int32} (h : IV B S) (hs : ∀ i, i < u → IV B (st i)) (hu : u ≤ 4) : ∀ i, i < pushU u → IV B (pushS st u S i) := fun i hi => by
  unfold pushU at hi
  unfold pushS
  by_cases e : u = 4
  · rw [if_pos e] at hi ⊢
    by_cases z : i < 3
    · rw [if_pos z]; exact hs _ (by omega)
    · rw [if_neg z]; exact h
  · rw [if_neg e] at hi ⊢
    by_cases z : i = u
    · rw [if_pos z]; exact h
    · rw [if_neg z]; exact hs _ (by omega)
theorem nxt_iv {B u : Nat} {S : Nat → Int32} {st : Nat → Nat → Int32} {o : pw_O} (h : IV B S) (hs : ∀ i, i < u → IV B (st i)) (hu : u ≤ 4) (ho : ∀ S', o.2 = some S' → IV (B + 61) S') : IV (B + 61) (o.2.getD S) ∧ ∀ i, i < nxtU u o.2 → IV (B + 61) (nxtH st u S o.2 i) := by
  obtain ⟨r, w⟩ := o
  cases w with
  | none => exact ⟨h.mono (by omega), fun i hi => (hs i hi).mono (by omega)⟩
  | some S' => exact ⟨ho S' rfl, fun i hi => (push_iv h hs hu i hi).mono (by omega)⟩
theorem pw_mod.P {sh : pw_Sh} {P P' : pw_P} {m : Nat} (h : pw_mod sh P m) (e : P' m = P m) : pw_mod sh P' m := by
  unfold pw_mod at h ⊢
  rw [e]; exact h
