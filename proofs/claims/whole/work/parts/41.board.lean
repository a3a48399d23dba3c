/-! Math.max; the class's board, and what of the row it holds -/
theorem mx_w : Cond.static Lib.Math.max.name ∈ pw_T ∧ Cond.initialized "java/lang/Math" ∈ pw_T ∧ Cond.code Lib.Math.max.name Lib.Math.max.code 2 (some .int) ∈ pw_T := ⟨pw_inT (by decide +kernel), pw_inT (by decide +kernel), pw_inT (by decide +kernel)⟩
theorem PW.mmax {g : pw_g} {n : Nat} {sh : pw_Sh} {P : pw_P} {I : pw_I} {uc us pc idx : Nat} {L : List (Option Value)} {x y : Int32} {r : List Value} {Q : pw_Q} (hk : Cond.methodLink g.1.1.cls idx Lib.Math.max.name ∈ pw_T) (hf : 1 ≤ g.2.1) (hu : uc ≤ g.2.2.1 ∧ us ≤ g.2.2.2.1) (hm : s_m 8 r)
    (hdg : decode g.1.2.1 pc = .ok (.invokestatic idx, 3)) (kk : PW g n sh P I uc us (pc + 3) L (.int (if x < y then y else x) :: r) Q) : PW g n sh P I uc us pc L (.int y :: .int x :: r) Q := by
  intro p l e R s m args below meth c H locs cells slots D dA ls Qf C hW hS hls hc hs hr
  obtain ⟨hx, hb, hrt, hml, hown, hts, hlk, hK, hin, ⟨r1, r2, r3, r4⟩, hbs, hX⟩ := id C
  have h8 := s_m_of hm
  exact va_mmax hx hb (hml.trans hls.1.symm) hown (hts _ hk) (hts _ mx_w.1) (hts _ mx_w.2.1) (hts _ mx_w.2.2) (by omega) (by omega) (by omega) (by omega) hdg
    (kk p l e R s m args below meth c H locs cells slots D dA ls Qf C hW hS hls hc hs hr)
theorem mx_lowest : Cond.methodLink RX0 153 Lib.Math.max.name ∈ pw_T := pw_inT (by decide +kernel)
