/-! what always holds of the row, along a run over the text -/
theorem IV.doE {B : Nat} {S : Nat → Int32} {x : Int32} {a b : Nat} (h : IV B S) (hB : B < 1000000) (hs : isSgn x) (ha : a ≤ 99) (hr : rngS S x a b = true) (hp : posS S x a b = true) : IV (B + 1) (doS S x a b) := by
  have hI := h.1
  have h4 := hI.2.1.2
  have up : ∀ {S'}, IV B S' → IV (B + 1) S' := fun h => h.mono (Nat.le_succ B)
  unfold isSgn at hs
  unfold rngS at hr
  unfold posS at hp
  unfold doS
  rcases hs with rfl | rfl | rfl | rfl | rfl | rfl
  · rw [if_pos rfl] at hr hp ⊢
    exact up (h.edge (of_decide_eq_true hr) (beq_iff_eq.mp hp))
  · rw [if_neg (by decide), if_pos (Or.inl rfl), Bool.and_eq_true] at hr
    rw [if_neg (by decide), if_pos rfl]
    have h1 := of_decide_eq_true hr.1
    have h2 := of_decide_eq_true hr.2
    refine up (h.bit (Or.inl rfl) (by omega) ?_)
    have : b = 0 ∨ b = 1 := by omega
    rcases this with rfl | rfl
    · exact Or.inl rfl
    · exact Or.inr rfl
  · rw [if_neg (by decide), if_pos (Or.inr rfl), Bool.and_eq_true] at hr
    rw [if_neg (by decide), if_neg (by decide), if_pos rfl]
    have h1 := of_decide_eq_true hr.1
    have h2 := of_decide_eq_true hr.2
    refine up (h.bit (Or.inr rfl) (by omega) ?_)
    have : b = 0 ∨ b = 1 := by omega
    rcases this with rfl | rfl
    · exact Or.inl rfl
    · exact Or.inr rfl
  · rw [if_neg (by decide), if_neg (by decide), if_neg (by decide), if_pos rfl, Bool.and_eq_true] at hp
    rw [if_neg (by decide), if_neg (by decide), if_neg (by decide), if_pos rfl]
    have h10 := of_decide_eq_true hp.1
    cases e : nextS S with
    | none => exact up h
    | some k => exact up (h.take e h10)
  · rw [if_neg (by decide), if_neg (by decide), if_neg (by decide), if_neg (by decide), if_pos rfl] at hp
    rw [if_neg (by decide), if_neg (by decide), if_neg (by decide), if_neg (by decide), if_pos rfl]
    exact h.done (of_decide_eq_true hp) hB
  · rw [if_neg (by decide), if_neg (by decide), if_pos rfl] at hr
    rw [if_neg (by decide), if_neg (by decide), if_neg (by decide), if_neg (by decide), if_neg (by decide)] at hp
    rw [if_neg (by decide), if_neg (by decide), if_neg (by decide), if_neg (by decide), if_neg (by decide)]
    have h1 := of_decide_eq_true hr
    have h2 := of_decide_eq_true hp
    exact up (h.ticks h1 ha (by omega))
def runI (B : Nat) : Nat → (Nat → Int32) → Prop := fun c S => c ≤ 60 ∧ IV (B + c) S
theorem runI_1 {B : Nat} (hB : B < 900000) : RunInv (runI B) := fun e S h => by
  obtain ⟨h1, h2, h3, h4, -, -⟩ := h.2.ok
  exact ⟨⟨h1, h2, h3, h4⟩, fun he x a b hs ha _ hr hp => ⟨by omega, h.2.doE (by omega) hs ha hr hp⟩⟩
theorem runI_2 {B : Nat} (hB : B < 900000) : RunInv2 (runI B) := fun e S h => ⟨h.2.ok, fun he x a b hs ha _ hr hp => ⟨by omega, h.2.doE (by omega) hs ha hr hp⟩⟩
theorem runI_0 {B : Nat} {S : Nat → Int32} (h : IV B S) : runI B 0 S := ⟨by omega, h⟩
theorem runI_run {B len : Nat} {T S : Nat → Int32} (hB : B < 900000) (hl : len ≤ 60) (h : IV B S) : IV (B + 60) (runS T len len S 0 0).1 := by
  obtain ⟨c', k1, k2, k3⟩ := run_ok (runI_2 hB) (T := T) hl len S 0 0 (runI_0 h) (Nat.le_refl _)
  exact k1.2.mono (by omega)
