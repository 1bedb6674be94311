/-! the start: what holds between calls holds of it -/
theorem h0_lo (c : Nat) (i : Int) (hc : c < 77) : h0 c i = 0 := if_pos hc
theorem h0_u : h0 86 4 = 12 := by decide +kernel
theorem h0_g : h0 86 5 = 0 := by decide +kernel
theorem h0_kk (o c : Nat) (s : Int) (ho : h0 o 7 = 0) : iv_k h0 o c s := by
  have e : h0 67 s = 0 := h0_lo _ _ (by decide)
  refine ⟨⟨by rw [ho, e], Or.inl e⟩, fun z => ?_⟩
  rw [e] at z
  exact absurd z (by decide)
theorem iv_start : iv h0 ((0 : Nat) : Int) := by
  have eU : sg_U (sg_of h0) = 12 := h0_u
  have eG : sg_G (sg_of h0) = 0 := h0_g
  refine ⟨⟨?_, ?_, ?_, ?_⟩, ⟨?_, ?_, ?_⟩, ?_, ⟨?_, ?_, ?_⟩, ⟨?_, ?_, ?_⟩, ?_, ?_, ⟨?_, ?_⟩, ⟨?_, ?_⟩⟩
  · rw [eU]; decide
  · rw [eG]; decide
  · intro g g1 g2
    rw [eG] at g2
    omega
  · intro r _ _
    have e1 : sg_pc (sg_of h0) r = 0 := h0_lo 55 r (by decide)
    have e2 : sg_fr (sg_of h0) r = 0 := h0_lo 56 r (by decide)
    have e3 : sg_la (sg_of h0) r = 0 := h0_lo 57 r (by decide)
    rw [e1, e2, e3]
    decide
  · decide +kernel
  · decide +kernel
  · intro g g1 g2
    rw [h0_g] at g2
    omega
  · intro r _ _
    rw [h0_lo 11 r (by decide), h0_lo 55 r (by decide), h0_lo 12 r (by decide), h0_lo 56 r (by decide), h0_lo 13 r (by decide), h0_lo 57 r (by decide)]
    decide
  · decide +kernel
  · decide +kernel
  · intro i i1 i2
    rw [show h0 86 2 = 0 by decide +kernel] at i2
    omega
  · decide +kernel
  · decide +kernel
  · intro i _ _
    refine ⟨?_, ?_, ?_, fun z => ?_⟩
    · rw [h0_lo 14 i (by decide), h0_lo 63 i (by decide)]
    · rw [h0_lo 15 i (by decide), h0_lo 64 i (by decide)]
    · rw [h0_lo 16 i (by decide), h0_lo 65 i (by decide)]
    · rw [show h0 86 21 = 0 by decide +kernel] at z
      omega
  · exact h0_kk _ _ _ (by decide +kernel)
  · exact h0_kk _ _ _ (by decide +kernel)
  · decide +kernel
  · intro a b a1 a2
    rw [h0_g] at a2
    omega
  · decide +kernel
  · intro i _ _
    rw [h0_lo 42 i (by decide), show h0 83 10 = 0 by decide +kernel]
    decide
