/-! the class: firstFault -/
theorem cA_76 {h : am_H} {s : rd_S} {i v : Int} (hA : cA h s) (h3 : i ≠ 3) (h4 : i ≠ 4) : cA (am_up h 76 i v) s := by
  obtain ⟨⟨a1, a2, a3, a4⟩, a5, a6⟩ := hA
  refine ⟨⟨?_, ?_, ?_, ?_⟩, fun g g0 g1 => ?_, fun r r0 r1 => ?_⟩
  · rw [am_up_ne (by omega)]; exact a1
  · rw [am_up_ne (by omega)]; exact a2
  · rw [am_up_at, if_neg (by omega)]; exact a3
  · rw [am_up_at, if_neg (by omega)]; exact a4
  · rw [am_up_ne (by omega), am_up_ne (by omega), am_up_ne (by omega), am_up_ne (by omega)]; exact a5 g g0 g1
  · rw [am_up_ne (by omega)]; exact a6 r r0 r1
theorem u76 {h : am_H} {i j v : Int} : (am_up h 76 i v) 76 j = if j = i then v else h 76 j := by rw [am_up_at]; simp only [true_and]
theorem cA_p {h : am_H} {s : rd_S} {r v : Int} (hA : cA h s) : cA (am_up (am_up (am_up (am_up h 76 2 2) 5 r v) 76 4 (rR s + pw r)) 76 1 0) (rd_p s r v) := by
  obtain ⟨⟨a1, a2, a3, a4⟩, a5, a6⟩ := hA
  refine ⟨⟨?_, ?_, ?_, ?_⟩, fun g g0 g1 => ?_, fun q r0 r1 => ?_⟩
  · simp only [eq_self, and_self, am_up_at, am_up_ne, ne_eq, Nat.reduceEqDiff, Int.reduceEq, Int.reduceNeg, not_false_eq_true, false_and, and_false, true_and, and_true, ↓reduceIte, if_false, if_true, Int.reduceAdd, Int.reduceMul, Nat.reduceAdd]; exact a1
  · simp only [eq_self, and_self, am_up_at, am_up_ne, ne_eq, Nat.reduceEqDiff, Int.reduceEq, Int.reduceNeg, not_false_eq_true, false_and, and_false, true_and, and_true, ↓reduceIte, if_false, if_true, Int.reduceAdd, Int.reduceMul, Nat.reduceAdd]; exact a2
  · simp only [eq_self, and_self, am_up_at, am_up_ne, ne_eq, Nat.reduceEqDiff, Int.reduceEq, Int.reduceNeg, not_false_eq_true, false_and, and_false, true_and, and_true, ↓reduceIte, if_false, if_true, Int.reduceAdd, Int.reduceMul, Nat.reduceAdd]; rfl
  · simp only [eq_self, and_self, am_up_at, am_up_ne, ne_eq, Nat.reduceEqDiff, Int.reduceEq, Int.reduceNeg, not_false_eq_true, false_and, and_false, true_and, and_true, ↓reduceIte, if_false, if_true, Int.reduceAdd, Int.reduceMul, Nat.reduceAdd]; exact a4
  · simp only [eq_self, and_self, am_up_at, am_up_ne, ne_eq, Nat.reduceEqDiff, Int.reduceEq, Int.reduceNeg, not_false_eq_true, false_and, and_false, true_and, and_true, ↓reduceIte, if_false, if_true, Int.reduceAdd, Int.reduceMul, Nat.reduceAdd]; exact a5 g g0 g1
  · show _ = if q = r then v else rpc s q
    simp only [eq_self, and_self, am_up_at, am_up_ne, ne_eq, Nat.reduceEqDiff, Int.reduceEq, Int.reduceNeg, not_false_eq_true, false_and, and_false, true_and, and_true, ↓reduceIte, if_false, if_true, Int.reduceAdd, Int.reduceMul, Nat.reduceAdd]
    split
    · rfl
    · exact a6 q r0 r1
theorem cA_g {h : am_H} {s : rd_S} {r m p k : Int} (hA : cA h s) : cA (am_up (am_up (am_up (am_up (am_up (am_up (am_up h 76 2 5) 76 1 0) 1 (rG s) r) 2 (rG s) m) 3 (rG s) p) 4 (rG s) k) 77 1 (rG s + 1)) (rd_g s r m p k) := by
  obtain ⟨⟨a1, a2, a3, a4⟩, a5, a6⟩ := hA
  refine ⟨⟨?_, ?_, ?_, ?_⟩, fun g g0 g1 => ?_, fun q r0 r1 => ?_⟩
  · simp only [eq_self, and_self, am_up_at, am_up_ne, ne_eq, Nat.reduceEqDiff, Int.reduceEq, Int.reduceNeg, not_false_eq_true, false_and, and_false, true_and, and_true, ↓reduceIte, if_false, if_true, Int.reduceAdd, Int.reduceMul, Nat.reduceAdd]; exact a1
  · simp only [eq_self, and_self, am_up_at, am_up_ne, ne_eq, Nat.reduceEqDiff, Int.reduceEq, Int.reduceNeg, not_false_eq_true, false_and, and_false, true_and, and_true, ↓reduceIte, if_false, if_true, Int.reduceAdd, Int.reduceMul, Nat.reduceAdd]; rfl
  · simp only [eq_self, and_self, am_up_at, am_up_ne, ne_eq, Nat.reduceEqDiff, Int.reduceEq, Int.reduceNeg, not_false_eq_true, false_and, and_false, true_and, and_true, ↓reduceIte, if_false, if_true, Int.reduceAdd, Int.reduceMul, Nat.reduceAdd]; exact a3
  · simp only [eq_self, and_self, am_up_at, am_up_ne, ne_eq, Nat.reduceEqDiff, Int.reduceEq, Int.reduceNeg, not_false_eq_true, false_and, and_false, true_and, and_true, ↓reduceIte, if_false, if_true, Int.reduceAdd, Int.reduceMul, Nat.reduceAdd]; exact a4
  · have g1' : g < rG s + 1 := g1
    show _ = (if g = rG s then r else rri s g) ∧ _ = (if g = rG s then m else rrm s g) ∧ _ = (if g = rG s then p else rpl s g) ∧ _ = (if g = rG s then k else rkd s g)
    simp only [eq_self, and_self, am_up_at, am_up_ne, ne_eq, Nat.reduceEqDiff, Int.reduceEq, Int.reduceNeg, not_false_eq_true, false_and, and_false, true_and, and_true, ↓reduceIte, if_false, if_true, Int.reduceAdd, Int.reduceMul, Nat.reduceAdd]
    by_cases c : g = rG s
    · refine ⟨?_, ?_, ?_, ?_⟩ <;> rw [if_pos c, if_pos c]
    · have a := a5 g g0 (by omega)
      refine ⟨?_, ?_, ?_, ?_⟩ <;> rw [if_neg c, if_neg c]
      · exact a.1
      · exact a.2.1
      · exact a.2.2.1
      · exact a.2.2.2
  · simp only [eq_self, and_self, am_up_at, am_up_ne, ne_eq, Nat.reduceEqDiff, Int.reduceEq, Int.reduceNeg, not_false_eq_true, false_and, and_false, true_and, and_true, ↓reduceIte, if_false, if_true, Int.reduceAdd, Int.reduceMul, Nat.reduceAdd]; exact a6 q r0 r1
theorem ff_go {n i L : Int} {h : am_H} {Q : am_P} (hi : 0 ≤ i ∧ i ≤ n ∧ n ≤ 60) (hL : h 76 1 = L) (hL2 : 1 ≤ L ∧ L ≤ 255) (h3 : h 76 3 = 1) (E : i = n → Q (some (.inl i)) h) (St : i < n → am_Ex 18 14 [some (.inr (.inr (some 76))), some (.inr (.inr (some 0))), some (.inl n), some (.inl i)] [] h Q) : am_Ex 18 14 [some (.inr (.inr (some 76))), some (.inr (.inr (some 0))), some (.inl n), some (.inl i)] [] h Q := by
  by_cases c : i < n
  · exact St c
  · have e : i = n := by omega
    subst e
    exact ff_end ⟨rfl, by omega, by omega⟩ (Or.inr h3) (by omega) (fun _ z => by omega) (fun _ => E rfl)
/-- what the text is -/
def txt (h0 : am_H) (tx : Int → Int) (n : Int) : Prop := n ≤ 60 ∧ ∀ i, 0 ≤ i → i < n → h0 0 i = tx i ∧ 0 ≤ tx i ∧ tx i ≤ 255
set_option maxHeartbeats 400000 in
set_option maxRecDepth 100000 in
theorem pc_R {tx : Int → Int} {n p : Int} {s : rd_S} {h0 h : am_H} {Q : am_P} (hs : rs_ok s) (ht : txt h0 tx n) (hp : 0 ≤ p ∧ p < n) (hf : fr_c h0 h) (hA : cA h s) (hc : cR tx s p) (hL : h 76 1 = tx p) (hj : h 76 2 = 0)
    (Y : ∀ h1 q s', rdY tx n s p q s' → fr_c h0 h1 → cA h1 s' → h1 76 1 = 0 → am_Ex 18 14 [some (.inr (.inr (some 76))), some (.inr (.inr (some 0))), some (.inl n), some (.inl q)] [] h1 Q) (N : ∀ h1 q, rdN tx n s p q → fr_c h0 h1 → Q (some (.inl q)) h1) :
    am_Ex 18 14 [some (.inr (.inr (some 76))), some (.inr (.inr (some 0))), some (.inl n), some (.inl (p + 1))] [] h Q := by
  have hc' := hc
  unfold cR at hc'
  have n60 := ht.1
  refine ff_go (by omega) hL (by omega) hA.1.2.2.2 (fun e => N h (p + 1) (Or.inr (Or.inl ⟨hc, fun z => by unfold kR1 at z; omega, rfl⟩)) hf) (fun l1 => ?_)
  have t1 := ht.2 (p + 1) (by omega) l1
  refine ff_step (by omega) (by rw [hf 0 (by omega) (by omega) (by omega)]; exact t1.1) (fun Q' => tkR1 hA hs hL hc'.1 hj t1.2 Q') (fun h1 ⟨q1, e1⟩ => ?_) (fun h1 ⟨q1, f1⟩ => N h1 (p + 1) (Or.inr (Or.inl ⟨hc, fun z => q1 ⟨z.2.1, z.2.2⟩, rfl⟩)) (fc_t hf f1))
  have k1 : kR1 tx n s p := ⟨l1, q1.1, q1.2⟩
  have hf1 : fr_c h0 h1 := by rw [e1]; exact fc_up (fc_up hf (by omega)) (by omega)
  have hA1 : cA h1 s := by rw [e1]; exact cA_76 (cA_76 hA (by omega) (by omega)) (by omega) (by omega)
  have hL1 : h1 76 1 = tx p := by rw [e1, u76, if_neg (by omega), u76, if_neg (by omega)]; exact hL
  have hj1 : h1 76 2 = 1 := by rw [e1, u76, if_neg (by omega), u76, if_pos rfl]
  have hr1 : h1 76 5 = tx (p + 1) - 48 := by rw [e1, u76, if_pos rfl]
  rw [show p + 1 + 1 = p + 2 by omega]
  refine ff_go (by omega) hL1 (by omega) hA1.1.2.2.2 (fun e => N h1 (p + 2) (Or.inr (Or.inr (Or.inl ⟨hc, k1, fun z => by unfold kR2 at z; omega, rfl⟩))) hf1) (fun l2 => ?_)
  have t2 := ht.2 (p + 2) (by omega) l2
  refine ff_step (by omega) (by rw [hf1 0 (by omega) (by omega) (by omega)]; exact t2.1) (fun Q' => tkR2 hA1 hs hL1 hc'.1 hj1 hr1 q1.1 q1.2 t2.2 Q') (fun h2 ⟨q2, e2⟩ => ?_) (fun h2 ⟨q2, f2⟩ => N h2 (p + 2) (Or.inr (Or.inr (Or.inl ⟨hc, k1, fun z => q2 z.2, rfl⟩))) (fc_t hf1 f2))
  rw [show p + 2 + 1 = p + 3 by omega]
  refine Y h2 (p + 3) _ (Or.inl ⟨hc, k1, ⟨l2, q2⟩, rfl, rfl⟩) ?_ ?_ ?_
  · rw [e2]; exact fc_up (fc_up (fc_up (fc_up hf1 (by omega)) (by omega)) (by omega)) (by omega)
  · rw [e2]; exact cA_p hA1
  · rw [e2, u76, if_pos rfl]
set_option maxHeartbeats 400000 in
set_option maxRecDepth 100000 in
theorem pc_G {tx : Int → Int} {n p : Int} {s : rd_S} {h0 h : am_H} {Q : am_P} (hs : rs_ok s) (ht : txt h0 tx n) (hp : 0 ≤ p ∧ p < n) (hf : fr_c h0 h) (hA : cA h s) (hc : cG tx s p) (hL : h 76 1 = tx p) (hj : h 76 2 = 0)
    (Y : ∀ h1 q s', rdY tx n s p q s' → fr_c h0 h1 → cA h1 s' → h1 76 1 = 0 → am_Ex 18 14 [some (.inr (.inr (some 76))), some (.inr (.inr (some 0))), some (.inl n), some (.inl q)] [] h1 Q) (N : ∀ h1 q, rdN tx n s p q → fr_c h0 h1 → Q (some (.inl q)) h1) :
    am_Ex 18 14 [some (.inr (.inr (some 76))), some (.inr (.inr (some 0))), some (.inl n), some (.inl (p + 1))] [] h Q := by
  have hc' := hc
  unfold cG at hc'
  have n60 := ht.1
  have uR := hs.1
  have gR := hs.2.1
  rw [hc'.1] at hL
  refine ff_go (by omega) hL (by omega) hA.1.2.2.2 (fun e => N h (p + 1) (Or.inr (Or.inr (Or.inr (Or.inl ⟨hc, fun z => by unfold kG1 at z; omega, rfl⟩)))) hf) (fun l1 => ?_)
  have t1 := ht.2 (p + 1) (by omega) l1
  refine ff_step (by omega) (by rw [hf 0 (by omega) (by omega) (by omega)]; exact t1.1) (fun Q' => tkG1 hL hj t1.2 Q') (fun h1 ⟨q1, e1⟩ => ?_) (fun h1 ⟨q1, f1⟩ => N h1 (p + 1) (Or.inr (Or.inr (Or.inr (Or.inl ⟨hc, fun z => q1 z.2, rfl⟩)))) (fc_t hf f1))
  have k1 : kG1 tx n p := ⟨l1, q1⟩
  have hf1 : fr_c h0 h1 := by rw [e1]; exact fc_up (fc_up hf (by omega)) (by omega)
  have hA1 : cA h1 s := by rw [e1]; exact cA_76 (cA_76 hA (by omega) (by omega)) (by omega) (by omega)
  have hL1 : h1 76 1 = 71 := by rw [e1, u76, if_neg (by omega), u76, if_neg (by omega)]; exact hL
  have hj1 : h1 76 2 = 1 := by rw [e1, u76, if_neg (by omega), u76, if_pos rfl]
  have hr1 : h1 76 5 = tx (p + 1) - 48 := by rw [e1, u76, if_pos rfl]
  rw [show p + 1 + 1 = p + 2 by omega]
  refine ff_go (by omega) hL1 (by omega) hA1.1.2.2.2 (fun e => N h1 (p + 2) (Or.inr (Or.inr (Or.inr (Or.inr (Or.inl ⟨hc, k1, fun z => by unfold kG2 at z; omega, rfl⟩))))) hf1) (fun l2 => ?_)
  have t2 := ht.2 (p + 2) (by omega) l2
  refine ff_step (by omega) (by rw [hf1 0 (by omega) (by omega) (by omega)]; exact t2.1) (fun Q' => tkG2 hL1 hj1 hr1 q1 t2.2 Q') (fun h2 ⟨q2, e2⟩ => ?_) (fun h2 ⟨q2, f2⟩ => N h2 (p + 2) (Or.inr (Or.inr (Or.inr (Or.inr (Or.inl ⟨hc, k1, fun z => q2 z.2, rfl⟩))))) (fc_t hf1 f2))
  have k2 : kG2 tx n p := ⟨l2, q2⟩
  have hf2 : fr_c h0 h2 := by rw [e2]; exact fc_up (fc_up hf1 (by omega)) (by omega)
  have hA2 : cA h2 s := by rw [e2]; exact cA_76 (cA_76 hA1 (by omega) (by omega)) (by omega) (by omega)
  have hL2 : h2 76 1 = 71 := by rw [e2, u76, if_neg (by omega), u76, if_neg (by omega)]; exact hL1
  have hj2 : h2 76 2 = 2 := by rw [e2, u76, if_neg (by omega), u76, if_pos rfl]
  have hr2 : h2 76 5 = tx (p + 1) - 48 := by rw [e2, u76, if_neg (by omega), u76, if_neg (by omega)]; exact hr1
  have hm2 : h2 76 6 = tx (p + 2) - 48 := by rw [e2, u76, if_pos rfl]
  rw [show p + 2 + 1 = p + 3 by omega]
  refine ff_go (by omega) hL2 (by omega) hA2.1.2.2.2 (fun e => N h2 (p + 3) (Or.inr (Or.inr (Or.inr (Or.inr (Or.inr (Or.inl ⟨hc, k1, k2, fun z => by unfold kG3 at z; omega, rfl⟩)))))) hf2) (fun l3 => ?_)
  have t3 := ht.2 (p + 3) (by omega) l3
  refine ff_step (by omega) (by rw [hf2 0 (by omega) (by omega) (by omega)]; exact t3.1) (fun Q' => tkG3 hL2 hj2 hA2.1.1 (by omega) t3.2 Q') (fun h3 ⟨q3, e3⟩ => ?_) (fun h3 ⟨q3, f3⟩ => N h3 (p + 3) (Or.inr (Or.inr (Or.inr (Or.inr (Or.inr (Or.inl ⟨hc, k1, k2, fun z => q3 z.2, rfl⟩)))))) (fc_t hf2 f3))
  have k3 : kG3 tx n s p := ⟨l3, q3⟩
  have hf3 : fr_c h0 h3 := by rw [e3]; exact fc_up (fc_up hf2 (by omega)) (by omega)
  have hA3 : cA h3 s := by rw [e3]; exact cA_76 (cA_76 hA2 (by omega) (by omega)) (by omega) (by omega)
  have hL3 : h3 76 1 = 71 := by rw [e3, u76, if_neg (by omega), u76, if_neg (by omega)]; exact hL2
  have hj3 : h3 76 2 = 3 := by rw [e3, u76, if_neg (by omega), u76, if_pos rfl]
  have hr3 : h3 76 5 = tx (p + 1) - 48 := by rw [e3, u76, if_neg (by omega), u76, if_neg (by omega)]; exact hr2
  have hm3 : h3 76 6 = tx (p + 2) - 48 := by rw [e3, u76, if_neg (by omega), u76, if_neg (by omega)]; exact hm2
  have hp3 : h3 76 7 = 10 * (tx (p + 3) - 48) := by rw [e3, u76, if_pos rfl]
  rw [show p + 3 + 1 = p + 4 by omega]
  refine ff_go (by omega) hL3 (by omega) hA3.1.2.2.2 (fun e => N h3 (p + 4) (Or.inr (Or.inr (Or.inr (Or.inr (Or.inr (Or.inr (Or.inl ⟨hc, k1, k2, k3, fun z => by unfold kG4 at z; omega, rfl⟩))))))) hf3) (fun l4 => ?_)
  have t4 := ht.2 (p + 4) (by omega) l4
  refine ff_step (by omega) (by rw [hf3 0 (by omega) (by omega) (by omega)]; exact t4.1) (fun Q' => tkG4 hL3 hj3 hA3.1.1 (by omega) hp3 (by omega) t4.2 Q') (fun h4 ⟨q4, e4⟩ => ?_) (fun h4 ⟨q4, f4⟩ => N h4 (p + 4) (Or.inr (Or.inr (Or.inr (Or.inr (Or.inr (Or.inr (Or.inl ⟨hc, k1, k2, k3, fun z => q4 z.2, rfl⟩))))))) (fc_t hf3 f4))
  have k4 : kG4 tx n s p := ⟨l4, q4⟩
  have hf4 : fr_c h0 h4 := by rw [e4]; exact fc_up (fc_up hf3 (by omega)) (by omega)
  have hA4 : cA h4 s := by rw [e4]; exact cA_76 (cA_76 hA3 (by omega) (by omega)) (by omega) (by omega)
  have hL4 : h4 76 1 = 71 := by rw [e4, u76, if_neg (by omega), u76, if_neg (by omega)]; exact hL3
  have hj4 : h4 76 2 = 4 := by rw [e4, u76, if_neg (by omega), u76, if_pos rfl]
  have hr4 : h4 76 5 = tx (p + 1) - 48 := by rw [e4, u76, if_neg (by omega), u76, if_neg (by omega)]; exact hr3
  have hm4 : h4 76 6 = tx (p + 2) - 48 := by rw [e4, u76, if_neg (by omega), u76, if_neg (by omega)]; exact hm3
  have hp4 : h4 76 7 = 10 * (tx (p + 3) - 48) + (tx (p + 4) - 48) := by rw [e4, u76, if_pos rfl]
  rw [show p + 4 + 1 = p + 5 by omega]
  refine ff_go (by omega) hL4 (by omega) hA4.1.2.2.2 (fun e => N h4 (p + 5) (Or.inr (Or.inr (Or.inr (Or.inr (Or.inr (Or.inr (Or.inr ⟨hc, k1, k2, k3, k4, fun z => by unfold kG5 at z; omega, rfl⟩))))))) hf4) (fun l5 => ?_)
  have t5 := ht.2 (p + 5) (by omega) l5
  refine ff_step (by omega) (by rw [hf4 0 (by omega) (by omega) (by omega)]; exact t5.1) (fun Q' => tkG5 hL4 hj4 hA4.1.2.1 (by omega) hr4 hm4 hp4 t5.2 Q') (fun h5 ⟨q5, e5⟩ => ?_) (fun h5 ⟨q5, f5⟩ => N h5 (p + 5) (Or.inr (Or.inr (Or.inr (Or.inr (Or.inr (Or.inr (Or.inr ⟨hc, k1, k2, k3, k4, fun z => q5 z.2, rfl⟩))))))) (fc_t hf4 f5))
  rw [show p + 5 + 1 = p + 6 by omega]
  refine Y h5 (p + 6) _ (Or.inr ⟨hc, k1, k2, k3, k4, ⟨l5, q5⟩, rfl, rfl⟩) ?_ ?_ ?_
  · rw [e5]; exact fc_up (fc_up (fc_up (fc_up (fc_up (fc_up (fc_up hf4 (by omega)) (by omega)) (by omega)) (by omega)) (by omega)) (by omega)) (by omega)
  · rw [e5]; exact cA_g hA4
  · rw [e5]; simp only [eq_self, and_self, am_up_at, am_up_ne, ne_eq, Nat.reduceEqDiff, Int.reduceEq, Int.reduceNeg, not_false_eq_true, false_and, and_false, true_and, and_true, ↓reduceIte, if_false, if_true, Int.reduceAdd, Int.reduceMul, Nat.reduceAdd]
set_option maxHeartbeats 400000 in
set_option maxRecDepth 100000 in
theorem pc_part {tx : Int → Int} {n p : Int} {s : rd_S} {h0 h : am_H} {Q : am_P} (hs : rs_ok s) (ht : txt h0 tx n) (hp : 0 ≤ p ∧ p < n) (hf : fr_c h0 h) (hA : cA h s) (hL : h 76 1 = 0)
    (Y : ∀ h1 q s', rdY tx n s p q s' → fr_c h0 h1 → cA h1 s' → h1 76 1 = 0 → am_Ex 18 14 [some (.inr (.inr (some 76))), some (.inr (.inr (some 0))), some (.inl n), some (.inl q)] [] h1 Q) (N : ∀ h1 q, rdN tx n s p q → fr_c h0 h1 → Q (some (.inl q)) h1) :
    am_Ex 18 14 [some (.inr (.inr (some 76))), some (.inr (.inr (some 0))), some (.inl n), some (.inl p)] [] h Q := by
  have n60 := ht.1
  have t0 := ht.2 p hp.1 hp.2
  refine ff_step (by omega) (by rw [hf 0 (by omega) (by omega) (by omega)]; exact t0.1) (fun Q' => tkL hA hs hL t0.2 Q') (fun h1 ⟨q1, e1⟩ => ?_) (fun h1 ⟨q1, f1⟩ => N h1 p (Or.inl ⟨fun z => q1 (Or.inl z), fun z => q1 (Or.inr z), rfl⟩) (fc_t hf f1))
  have hf1 : fr_c h0 h1 := by rw [e1]; exact fc_up (fc_up hf (by omega)) (by omega)
  have hA1 : cA h1 s := by rw [e1]; exact cA_76 (cA_76 hA (by omega) (by omega)) (by omega) (by omega)
  have hL1 : h1 76 1 = tx p := by rw [e1, u76, if_neg (by omega), u76, if_pos rfl]
  have hj1 : h1 76 2 = 0 := by rw [e1, u76, if_pos rfl]
  rcases q1 with c | c
  · exact pc_R hs ht hp hf1 hA1 c hL1 hj1 Y N
  · exact pc_G hs ht hp hf1 hA1 c hL1 hj1 Y N
/-! the whole text -/
def rdRun (tx : Int → Int) (n : Int) : Nat → rd_S → Int → Int → rd_S → Prop
  | 0, s, p, r, s' => (p = n ∧ r = -9 ∧ s' = s) ∨ (p < n ∧ rdN tx n s p r ∧ s' = s)
  | k + 1, s, p, r, s' => p < n ∧ ∃ q s1, rdY tx n s p q s1 ∧ rdRun tx n k s1 q r s'
theorem rdRun_one {tx : Int → Int} {n : Int} : ∀ (k k' : Nat) (s : rd_S) (p r r' : Int) (s' s'' : rd_S), rdRun tx n k s p r s' → rdRun tx n k' s p r' s'' → r = r' ∧ s' = s'' := by
  intro k
  induction k with
  | zero =>
    intro k' s p r r' s' s'' h1 h2
    cases k' with
    | zero =>
      rcases h1 with ⟨a1, a2, a3⟩ | ⟨a1, a2, a3⟩ <;> rcases h2 with ⟨b1, b2, b3⟩ | ⟨b1, b2, b3⟩
      · exact ⟨by omega, by rw [a3, b3]⟩
      · omega
      · omega
      · exact ⟨rd_NN a2 b2, by rw [a3, b3]⟩
    | succ k' =>
      obtain ⟨b1, q, s1, b2, _⟩ := h2
      rcases h1 with ⟨a1, a2, a3⟩ | ⟨a1, a2, a3⟩
      · omega
      · exact (rd_NY a2 b2).elim
  | succ k ih =>
    intro k' s p r r' s' s'' h1 h2
    obtain ⟨a1, q, s1, a2, a3⟩ := h1
    cases k' with
    | zero =>
      rcases h2 with ⟨b1, b2, b3⟩ | ⟨b1, b2, b3⟩
      · omega
      · exact (rd_NY b2 a2).elim
    | succ k' =>
      obtain ⟨b1, q', s1', b2, b3⟩ := h2
      obtain ⟨e1, e2⟩ := rd_YY a2 b2
      subst e1
      subst e2
      exact ih k' s1 q r r' s' s'' a3 b3
def rs0 (v : Int) : rd_S := (6 * v, 0, 0, fun _ => 0, fun _ => 0, fun _ => 0, fun _ => 0, fun _ => 0)
theorem rs0_ok {v : Int} (hv : 2 ≤ v ∧ v ≤ 9) : rs_ok (rs0 v) := by
  refine ⟨?_, ?_, ?_, fun g g0 g1 => ?_, fun r r0 r1 => ?_⟩
  · show 12 ≤ 6 * v ∧ 6 * v ≤ 54 ∧ 6 * v % 6 = 0
    omega
  · show (0 : Int) ≤ 0 ∧ (0 : Int) ≤ 8
    omega
  · show (0 : Int) ≤ 0 ∧ (0 : Int) ≤ 7
    omega
  · have : g < 0 := g1
    omega
  · show (-9 : Int) ≤ 0 ∧ (0 : Int) ≤ 9
    omega
def rdAll (tx : Int → Int) (n r : Int) (s' : rd_S) : Prop := (¬ (0 < n ∧ tx 0 = 85) ∧ r = 0 ∧ s' = rs0 2) ∨ ((0 < n ∧ tx 0 = 85) ∧ ¬ (1 < n ∧ 2 ≤ tx 1 - 48 ∧ tx 1 - 48 ≤ 9) ∧ r = 1 ∧ s' = rs0 2) ∨ ((0 < n ∧ tx 0 = 85) ∧ (1 < n ∧ 2 ≤ tx 1 - 48 ∧ tx 1 - 48 ≤ 9) ∧ ∃ k, rdRun tx n k (rs0 (tx 1 - 48)) 2 r s')
theorem rdAll_one {tx : Int → Int} {n r r' : Int} {s s' : rd_S} (h1 : rdAll tx n r s) (h2 : rdAll tx n r' s') : r = r' ∧ s = s' := by
  rcases h1 with ⟨a1, a2, a3⟩ | ⟨a0, a1, a2, a3⟩ | ⟨a0, a1, k, a2⟩ <;> rcases h2 with ⟨b1, b2, b3⟩ | ⟨b0, b1, b2, b3⟩ | ⟨b0, b1, k', b2⟩
  · exact ⟨by omega, by rw [a3, b3]⟩
  · exact absurd b0 a1
  · exact absurd b0 a1
  · exact absurd a0 b1
  · exact ⟨by omega, by rw [a3, b3]⟩
  · exact absurd b1 a1
  · exact absurd a0 b1
  · exact absurd a1 b1
  · exact rdRun_one k k' _ _ _ _ _ _ a2 b2
theorem lp_ff {tx : Int → Int} {n : Int} {h0 : am_H} {Q : am_P} (ht : txt h0 tx n) :
    ∀ (m : Nat) (p : Int) (s : rd_S) (h : am_H), (n - p).toNat ≤ m → 0 ≤ p → p ≤ n → rs_ok s → fr_c h0 h → cA h s → h 76 1 = 0 → (∀ h1 r s', fr_c h0 h1 → (r = -9 → cA h1 s' ∧ rs_ok s') → (∃ k, rdRun tx n k s p r s') → Q (some (.inl r)) h1) → am_Ex 18 14 [some (.inr (.inr (some 76))), some (.inr (.inr (some 0))), some (.inl n), some (.inl p)] [] h Q := by
  intro m
  induction m with
  | zero =>
    intro p s h hm p0 p1 hs hf hA hL K
    have e : p = n := by omega
    subst e
    exact ff_end ⟨rfl, by omega, ht.1⟩ (Or.inr hA.1.2.2.2) (by omega) (fun _ _ => K h (-9) s hf (fun _ => ⟨hA, hs⟩) ⟨0, Or.inl ⟨rfl, rfl, rfl⟩⟩) (fun z => absurd ⟨hA.1.2.2.2, hL⟩ z)
  | succ m ih =>
    intro p s h hm p0 p1 hs hf hA hL K
    by_cases c : p = n
    · subst c
      exact ff_end ⟨rfl, by omega, ht.1⟩ (Or.inr hA.1.2.2.2) (by omega) (fun _ _ => K h (-9) s hf (fun _ => ⟨hA, hs⟩) ⟨0, Or.inl ⟨rfl, rfl, rfl⟩⟩) (fun z => absurd ⟨hA.1.2.2.2, hL⟩ z)
    · refine pc_part hs ht (by omega) hf hA hL (fun h1 q s1 y f1 A1 L1 => ?_) (fun h1 q y f1 => ?_)
      · have ok := rdY_ok hs y
        exact ih q s1 h1 (by omega) (by omega) ok.2.2 ok.1 f1 A1 L1 (fun h2 r s' f2 z ⟨k, hk⟩ => K h2 r s' f2 z ⟨k + 1, by omega, q, s1, y, hk⟩)
      · exact K h1 q s f1 (fun e => by
          exfalso
          unfold rdN at y
          omega) ⟨0, Or.inr ⟨by omega, y, rfl⟩⟩
set_option maxHeartbeats 400000 in
set_option maxRecDepth 100000 in
theorem tkU {x : Int} {h : am_H} (h3 : h 76 3 = 0) (hL : h 76 1 = 0) (hx : 0 ≤ x ∧ x ≤ 255) (Q : am_P) (Y : ∀ h1, x = 85 ∧ h1 = am_up (am_up h 76 1 x) 76 2 0 → Q (some (.inl 1)) h1) (N : ∀ h1, ¬ x = 85 ∧ fr_c h h1 → Q (some (.inl 0)) h1) : am_Call 19 [.inr (.inr (some 76)), .inl x] h Q := by
  simp only [eq_self, and_self, am_up_at, Int.cast_ofNat_Int, Int.reduceNatCast, true_or, or_true, or_false, false_or, Classical.not_not, false_and, and_false, am_bk, am_step, am_ldI, am_ldL, am_ldA, am_nth, am_sto, am_stw_0, am_stw_i, am_stw_n, am_stw_a, am_stw_l, am_br, am_cmp, am_tk, am_cat, am_sw, am_copy, am_R, am_nc0, am_nc1, am_f0, am_f1, am_f2, am_f3, Int.reduceNeg, Int.reduceEq, Int.reduceLE, Int.reduceLT, Nat.reduceLeDiff, Nat.reduceAdd, Nat.reduceEqDiff, true_and, and_true, ↓reduceIte, if_false, if_true, forall_const, not_true_eq_false, not_false_eq_true, false_implies, true_implies, implies_true, Int.reduceAdd, Int.reduceMul, Int.reduceSub, ne_eq, ca_19_76, bl_19_0, bl_19_6, ca_20_76, bl_20_0, bl_20_12, bl_20_14, bl_20_15, gf_76_0, gf_76_1, pf_76_1, gf_76_2, pf_76_2, gf_76_3, pf_76_3, gf_76_4, pf_76_4, gf_76_5, pf_76_5, gf_76_6, pf_76_6, gf_76_7, pf_76_7, gf_77_0, pf_77_0, gf_77_1, pf_77_1, gf_77_2, ar_1, al_1, gf_77_3, ar_2, al_2, gf_77_4, ar_3, al_3, gf_77_5, ar_4, al_4, gf_77_6, ar_5, al_5, hL, h3]
  (repeat' (first | with_reducible apply And.intro | with_reducible intro _)) <;> first | omega | exact Y _ ⟨by omega, rfl⟩ | exact N _ ⟨by omega, fc_up (fc_up (fc_r h) (by omega)) (by omega)⟩
set_option maxHeartbeats 400000 in
set_option maxRecDepth 100000 in
theorem tkV {x : Int} {h : am_H} (hL : h 76 1 = 85) (hj : h 76 2 = 0) (hx : 0 ≤ x ∧ x ≤ 255) (Q : am_P) (Y : ∀ h1, (2 ≤ x - 48 ∧ x - 48 ≤ 9) ∧ h1 = am_up (am_up (am_up (am_up h 76 2 1) 77 0 (6 * (x - 48))) 76 3 1) 76 1 0 → Q (some (.inl 1)) h1) (N : ∀ h1, ¬ (2 ≤ x - 48 ∧ x - 48 ≤ 9) ∧ fr_c h h1 → Q (some (.inl 0)) h1) : am_Call 19 [.inr (.inr (some 76)), .inl x] h Q := by
  simp only [eq_self, and_self, am_up_at, Int.cast_ofNat_Int, Int.reduceNatCast, true_or, or_true, or_false, false_or, Classical.not_not, false_and, and_false, am_bk, am_step, am_ldI, am_ldL, am_ldA, am_nth, am_sto, am_stw_0, am_stw_i, am_stw_n, am_stw_a, am_stw_l, am_br, am_cmp, am_tk, am_cat, am_sw, am_copy, am_R, am_nc0, am_nc1, am_f0, am_f1, am_f2, am_f3, Int.reduceNeg, Int.reduceEq, Int.reduceLE, Int.reduceLT, Nat.reduceLeDiff, Nat.reduceAdd, Nat.reduceEqDiff, true_and, and_true, ↓reduceIte, if_false, if_true, forall_const, not_true_eq_false, not_false_eq_true, false_implies, true_implies, implies_true, Int.reduceAdd, Int.reduceMul, Int.reduceSub, ne_eq, ca_19_76, bl_19_0, bl_19_7, bl_19_16, bl_19_18, bl_19_30, bl_19_31, ca_21_76, bl_21_0, bl_21_12, bl_21_17, bl_21_18, gf_76_0, gf_76_1, pf_76_1, gf_76_2, pf_76_2, gf_76_3, pf_76_3, gf_76_4, pf_76_4, gf_76_5, pf_76_5, gf_76_6, pf_76_6, gf_76_7, pf_76_7, gf_77_0, pf_77_0, gf_77_1, pf_77_1, gf_77_2, ar_1, al_1, gf_77_3, ar_2, al_2, gf_77_4, ar_3, al_3, gf_77_5, ar_4, al_4, gf_77_6, ar_5, al_5, hL, hj]
  (repeat' (first | with_reducible apply And.intro | with_reducible intro _)) <;> first | omega | exact Y _ ⟨by omega, rfl⟩ | exact N _ ⟨by omega, fc_r h⟩ | exact N _ ⟨by omega, fc_up (fc_up (fc_up (fc_up (fc_r h) (by omega)) (by omega)) (by omega)) (by omega)⟩
set_option maxHeartbeats 400000 in
set_option maxRecDepth 100000 in
theorem sp_ff {tx : Int → Int} {n : Int} {h : am_H} {Q : am_P} (ht : txt h tx n) (hn : 0 ≤ n) (H : ∀ h1 r s', rdAll tx n r s' → fr_c h h1 → (r = -9 → cA h1 s' ∧ rs_ok s') → Q (some (.inl r)) h1) : am_Call 18 [.inr (.inr (some 76)), .inr (.inr (some 0)), .inl n] h Q := by
  have n60 := ht.1
  have body : ∀ h1, fr_c h h1 → h1 76 1 = 0 → h1 76 3 = 0 → h1 76 4 = 0 → h1 77 1 = 0 → (∀ r, 0 ≤ r → r ≤ 2 → h1 5 r = 0) → am_Ex 18 14 [some (.inr (.inr (some 76))), some (.inr (.inr (some 0))), some (.inl n), some (.inl 0)] [] h1 Q := by
    intro h1 f1 b1 b3 b4 b7 b5
    by_cases c0 : n = 0
    · exact ff_end (by omega) (Or.inl b3) (by omega) (fun z _ => by omega) (fun _ => by rw [c0]; exact H h1 0 _ (Or.inl ⟨by omega, rfl, rfl⟩) f1 (fun z => by omega))
    have t0 := ht.2 0 (by omega) (by omega)
    refine ff_step (by omega) (by rw [f1 0 (by omega) (by omega) (by omega)]; exact t0.1) (fun Q' => tkU b3 b1 t0.2 Q') (fun h2 ⟨q2, e2⟩ => ?_) (fun h2 ⟨q2, f2⟩ => H h2 0 _ (Or.inl ⟨fun z => q2 z.2, rfl, rfl⟩) (fc_t f1 f2) (fun z => by omega))
    have f2 : fr_c h h2 := by rw [e2]; exact fc_up (fc_up f1 (by omega)) (by omega)
    have c1 : h2 76 1 = 85 := by rw [e2, u76, if_neg (by omega), u76, if_pos rfl]; exact q2
    have c2 : h2 76 2 = 0 := by rw [e2, u76, if_pos rfl]
    have c3 : h2 76 3 = 0 := by rw [e2, u76, if_neg (by omega), u76, if_neg (by omega)]; exact b3
    rw [show (0 : Int) + 1 = 1 by omega]
    by_cases c11 : n = 1
    · exact ff_end (by omega) (Or.inl c3) (by omega) (fun z _ => by omega) (fun _ => by rw [c11]; exact H h2 1 _ (Or.inr (Or.inl ⟨⟨by omega, q2⟩, by omega, rfl, rfl⟩)) f2 (fun z => by omega))
    have t1 := ht.2 1 (by omega) (by omega)
    refine ff_step (by omega) (by rw [f2 0 (by omega) (by omega) (by omega)]; exact t1.1) (fun Q' => tkV c1 c2 t1.2 Q') (fun h3 ⟨q3, e3⟩ => ?_) (fun h3 ⟨q3, f3⟩ => H h3 1 _ (Or.inr (Or.inl ⟨⟨by omega, q2⟩, fun z => q3 z.2, rfl, rfl⟩)) (fc_t f2 f3) (fun z => by omega))
    have f3 : fr_c h h3 := by rw [e3]; exact fc_up (fc_up (fc_up (fc_up f2 (by omega)) (by omega)) (by omega)) (by omega)
    rw [show (1 : Int) + 1 = 2 by omega]
    have e77 : h2 77 = h1 77 := by rw [e2, am_up_ne (by omega), am_up_ne (by omega)]
    have e5 : h2 5 = h1 5 := by rw [e2, am_up_ne (by omega), am_up_ne (by omega)]
    have e764 : h2 76 4 = 0 := by rw [e2, u76, if_neg (by omega), u76, if_neg (by omega)]; exact b4
    refine lp_ff (tx := tx) (h0 := h) ht (n - 2).toNat 2 (rs0 (tx 1 - 48)) h3 (by omega) (by omega) (by omega) (rs0_ok q3) f3 ?_ ?_ (fun h4 r s' f4 z ⟨k, hk⟩ => H h4 r s' (Or.inr (Or.inr ⟨⟨by omega, q2⟩, ⟨by omega, q3⟩, k, hk⟩)) f4 z)
    · refine ⟨⟨?_, ?_, ?_, ?_⟩, fun g g0 g1 => ?_, fun r r0 r1 => ?_⟩
      · rw [e3]; simp only [eq_self, and_self, am_up_at, am_up_ne, ne_eq, Nat.reduceEqDiff, Int.reduceEq, Int.reduceNeg, not_false_eq_true, false_and, and_false, true_and, and_true, ↓reduceIte, if_false, if_true, Int.reduceAdd, Int.reduceMul, Nat.reduceAdd]; rfl
      · rw [e3]; simp only [eq_self, and_self, am_up_at, am_up_ne, ne_eq, Nat.reduceEqDiff, Int.reduceEq, Int.reduceNeg, not_false_eq_true, false_and, and_false, true_and, and_true, ↓reduceIte, if_false, if_true, Int.reduceAdd, Int.reduceMul, Nat.reduceAdd]; rw [e77]; exact b7
      · rw [e3]; simp only [eq_self, and_self, am_up_at, am_up_ne, ne_eq, Nat.reduceEqDiff, Int.reduceEq, Int.reduceNeg, not_false_eq_true, false_and, and_false, true_and, and_true, ↓reduceIte, if_false, if_true, Int.reduceAdd, Int.reduceMul, Nat.reduceAdd]; exact e764
      · rw [e3]; simp only [eq_self, and_self, am_up_at, am_up_ne, ne_eq, Nat.reduceEqDiff, Int.reduceEq, Int.reduceNeg, not_false_eq_true, false_and, and_false, true_and, and_true, ↓reduceIte, if_false, if_true, Int.reduceAdd, Int.reduceMul, Nat.reduceAdd]
      · have : g < 0 := g1
        omega
      · rw [e3]; simp only [eq_self, and_self, am_up_at, am_up_ne, ne_eq, Nat.reduceEqDiff, Int.reduceEq, Int.reduceNeg, not_false_eq_true, false_and, and_false, true_and, and_true, ↓reduceIte, if_false, if_true, Int.reduceAdd, Int.reduceMul, Nat.reduceAdd]; rw [e5]; exact b5 r r0 r1
    · rw [e3]; simp only [eq_self, and_self, am_up_at, am_up_ne, ne_eq, Nat.reduceEqDiff, Int.reduceEq, Int.reduceNeg, not_false_eq_true, false_and, and_false, true_and, and_true, ↓reduceIte, if_false, if_true, Int.reduceAdd, Int.reduceMul, Nat.reduceAdd]
  simp only [eq_self, and_self, am_up_at, Int.cast_ofNat_Int, Int.reduceNatCast, true_or, or_true, or_false, false_or, Classical.not_not, false_and, and_false, am_bk, am_step, am_ldI, am_ldL, am_ldA, am_nth, am_sto, am_stw_0, am_stw_i, am_stw_n, am_stw_a, am_stw_l, am_br, am_cmp, am_tk, am_cat, am_sw, am_copy, am_R, am_nc0, am_nc1, am_f0, am_f1, am_f2, am_f3, Int.reduceNeg, Int.reduceEq, Int.reduceLE, Int.reduceLT, Nat.reduceLeDiff, Nat.reduceAdd, Nat.reduceEqDiff, true_and, and_true, ↓reduceIte, if_false, if_true, forall_const, not_true_eq_false, not_false_eq_true, false_implies, true_implies, implies_true, Int.reduceAdd, Int.reduceMul, Int.reduceSub, ne_eq, ca_18_76, bl_18_0, ca_12_77, bl_12_0, gf_76_0, gf_76_1, pf_76_1, gf_76_2, pf_76_2, gf_76_3, pf_76_3, gf_76_4, pf_76_4, gf_76_5, pf_76_5, gf_76_6, pf_76_6, gf_76_7, pf_76_7, gf_77_0, pf_77_0, gf_77_1, pf_77_1, gf_77_2, ar_1, al_1, gf_77_3, ar_2, al_2, gf_77_4, ar_3, al_3, gf_77_5, ar_4, al_4, gf_77_6, ar_5, al_5]
  refine sp_fill (n := 3) al_5 ar_5 rfl (by omega) (fun h1 a1 a2 => ?_)
  simp only [eq_self, and_self, am_up_at, Int.cast_ofNat_Int, Int.reduceNatCast, true_or, or_true, or_false, false_or, Classical.not_not, false_and, and_false, am_bk, am_step, am_ldI, am_ldL, am_ldA, am_nth, am_sto, am_stw_0, am_stw_i, am_stw_n, am_stw_a, am_stw_l, am_br, am_cmp, am_tk, am_cat, am_sw, am_copy, am_R, am_nc0, am_nc1, am_f0, am_f1, am_f2, am_f3, Int.reduceNeg, Int.reduceEq, Int.reduceLE, Int.reduceLT, Nat.reduceLeDiff, Nat.reduceAdd, Nat.reduceEqDiff, true_and, and_true, ↓reduceIte, if_false, if_true, forall_const, not_true_eq_false, not_false_eq_true, false_implies, true_implies, implies_true, Int.reduceAdd, Int.reduceMul, Int.reduceSub, ne_eq, ca_12_77, bl_12_10, ca_18_76, bl_18_3, gf_76_0, gf_76_1, pf_76_1, gf_76_2, pf_76_2, gf_76_3, pf_76_3, gf_76_4, pf_76_4, gf_76_5, pf_76_5, gf_76_6, pf_76_6, gf_76_7, pf_76_7, gf_77_0, pf_77_0, gf_77_1, pf_77_1, gf_77_2, ar_1, al_1, gf_77_3, ar_2, al_2, gf_77_4, ar_3, al_3, gf_77_5, ar_4, al_4, gf_77_6, ar_5, al_5]
  refine body _ ?_ ?_ ?_ ?_ ?_ (fun r r0 r1 => ?_)
  · refine fc_up (fc_up (fc_up (fun c c1 c2 c3 => ?_) (by omega)) (by omega)) (by omega)
    rw [a1 c (by omega), am_up_ne c3, am_up_ne c3]
  · simp only [eq_self, and_self, am_up_at, am_up_ne, ne_eq, Nat.reduceEqDiff, Int.reduceEq, Int.reduceNeg, not_false_eq_true, false_and, and_false, true_and, and_true, ↓reduceIte, if_false, if_true, Int.reduceAdd, Int.reduceMul, Nat.reduceAdd]
  · simp only [eq_self, and_self, am_up_at, am_up_ne, ne_eq, Nat.reduceEqDiff, Int.reduceEq, Int.reduceNeg, not_false_eq_true, false_and, and_false, true_and, and_true, ↓reduceIte, if_false, if_true, Int.reduceAdd, Int.reduceMul, Nat.reduceAdd]
  · simp only [eq_self, and_self, am_up_at, am_up_ne, ne_eq, Nat.reduceEqDiff, Int.reduceEq, Int.reduceNeg, not_false_eq_true, false_and, and_false, true_and, and_true, ↓reduceIte, if_false, if_true, Int.reduceAdd, Int.reduceMul, Nat.reduceAdd]
  · simp only [eq_self, and_self, am_up_at, am_up_ne, ne_eq, Nat.reduceEqDiff, Int.reduceEq, Int.reduceNeg, not_false_eq_true, false_and, and_false, true_and, and_true, ↓reduceIte, if_false, if_true, Int.reduceAdd, Int.reduceMul, Nat.reduceAdd]
    rw [a1 77 (by omega)]
    simp only [eq_self, and_self, am_up_at, am_up_ne, ne_eq, Nat.reduceEqDiff, Int.reduceEq, Int.reduceNeg, not_false_eq_true, false_and, and_false, true_and, and_true, ↓reduceIte, if_false, if_true, Int.reduceAdd, Int.reduceMul, Nat.reduceAdd]
  · simp only [eq_self, and_self, am_up_at, am_up_ne, ne_eq, Nat.reduceEqDiff, Int.reduceEq, Int.reduceNeg, not_false_eq_true, false_and, and_false, true_and, and_true, ↓reduceIte, if_false, if_true, Int.reduceAdd, Int.reduceMul, Nat.reduceAdd]
    rw [a2 r, if_pos (by omega)]
