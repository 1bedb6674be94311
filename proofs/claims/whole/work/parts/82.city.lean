/-! city -/
set_option maxHeartbeats 400000 in
set_option maxRecDepth 100000 in
theorem sp_planTake {h : am_H} {Q : am_P} (H : ∀ h1, (∀ c, ¬ (6 ≤ c ∧ c ≤ 10) → c ≠ 78 → h1 c = h c) → h1 78 0 = h 77 0 → h1 78 1 = h 77 1 → (∀ g, 0 ≤ g → g < 8 → h1 6 g = h 1 g ∧ h1 7 g = h 2 g ∧ h1 8 g = h 3 g ∧ h1 9 g = h 4 g) → (∀ r, 0 ≤ r → r ≤ 2 → h1 10 r = h 5 r) → Q none h1) : am_Call 13 [.inr (.inr (some 78)), .inr (.inr (some 77))] h Q := by
  simp only [eq_self, and_self, am_up_at, Int.cast_ofNat_Int, Int.reduceNatCast, true_or, or_true, or_false, false_or, Classical.not_not, false_and, and_false, am_bk, am_step, am_ldI, am_ldL, am_ldA, am_nth, am_sto, am_stw_0, am_stw_i, am_stw_n, am_stw_a, am_stw_l, am_br, am_cmp, am_tk, am_cat, am_sw, am_copy, am_R, am_nc0, am_nc1, am_f0, am_f1, am_f2, am_f3, Int.reduceNeg, Int.reduceEq, Int.reduceLE, Int.reduceLT, Nat.reduceLeDiff, Nat.reduceAdd, Nat.reduceEqDiff, true_and, and_true, ↓reduceIte, if_false, if_true, forall_const, not_true_eq_false, not_false_eq_true, false_implies, true_implies, implies_true, Int.reduceAdd, Int.reduceMul, Int.reduceSub, ne_eq, ca_13_77, ca_13_78, bl_13_0, bl_13_12, bl_13_16, bl_13_24, bl_13_32, bl_13_40, bl_13_48, gf_78_0, pf_78_0, gf_78_1, pf_78_1, gf_78_2, ar_6, al_6, gf_78_3, ar_7, al_7, gf_78_4, ar_8, al_8, gf_78_5, ar_9, al_9, gf_78_6, ar_10, al_10, gf_77_0, pf_77_0, gf_77_1, pf_77_1, gf_77_2, ar_1, al_1, gf_77_3, ar_2, al_2, gf_77_4, ar_3, al_3, gf_77_5, ar_4, al_4, gf_77_6, ar_5, al_5, Int.zero_add, Int.le_refl]
  refine H _ (fun c hc hr => ?_) ?_ ?_ (fun g g0 g1 => ?_) (fun r r0 r1 => ?_)
  · funext i
    simp only [am_up, am_cp]
    (repeat' rw [if_neg (by omega)])
  · simp only [am_cp_at, eq_self, and_self, am_up_at, am_up_ne, ne_eq, Nat.reduceEqDiff, Int.reduceEq, Int.reduceNeg, not_false_eq_true, false_and, and_false, true_and, and_true, ↓reduceIte, if_false, if_true, Int.reduceAdd, Int.reduceMul, Nat.reduceAdd]
  · simp only [am_cp_at, eq_self, and_self, am_up_at, am_up_ne, ne_eq, Nat.reduceEqDiff, Int.reduceEq, Int.reduceNeg, not_false_eq_true, false_and, and_false, true_and, and_true, ↓reduceIte, if_false, if_true, Int.reduceAdd, Int.reduceMul, Nat.reduceAdd]
  · simp only [am_cp_at, eq_self, and_self, am_up_at, am_up_ne, ne_eq, Nat.reduceEqDiff, Int.reduceEq, Int.reduceNeg, not_false_eq_true, false_and, and_false, true_and, and_true, ↓reduceIte, if_false, if_true, Int.reduceAdd, Int.reduceMul, Nat.reduceAdd, g0, g1, Int.sub_zero, Int.zero_add]
  · simp only [am_cp_at, eq_self, and_self, am_up_at, am_up_ne, ne_eq, Nat.reduceEqDiff, Int.reduceEq, Int.reduceNeg, not_false_eq_true, false_and, and_false, true_and, and_true, ↓reduceIte, if_false, if_true, Int.reduceAdd, Int.reduceMul, Nat.reduceAdd, r0, show r < 3 by omega, Int.sub_zero, Int.zero_add]
set_option maxHeartbeats 400000 in
set_option maxRecDepth 100000 in
theorem lp_sw {h0 : am_H} {Q : am_P} (H : ∀ h1, (∀ c, c ≠ 11 → h1 c = h0 c) → (∀ r, 0 ≤ r → r ≤ 2 → h1 11 r = h0 10 r) → am_Ex 5 18 [some (.inr (.inr (some 79))), some (.inr (.inr (some 10))), some (.inl 3)] [] h1 Q) :
    ∀ (m : Nat) (r : Int) (h : am_H), 0 ≤ r → r + m = 3 → (∀ c, c ≠ 11 → h c = h0 c) → (∀ q, 0 ≤ q → q < r → h 11 q = h0 10 q) → am_Ex 5 2 [some (.inr (.inr (some 79))), some (.inr (.inr (some 10))), some (.inl r)] [] h Q := by
  intro m
  induction m with
  | zero =>
    intro r h r0 r1 hf I
    have er : r = 3 := by omega
    subst er
    have K := H h hf (fun q q0 q1 => I q q0 (by omega))
    rw [bl_5_2]
    simp only [eq_self, and_self, am_up_at, Int.cast_ofNat_Int, Int.reduceNatCast, true_or, or_true, or_false, false_or, Classical.not_not, false_and, and_false, am_bk, am_step, am_ldI, am_ldL, am_ldA, am_nth, am_sto, am_stw_0, am_stw_i, am_stw_n, am_stw_a, am_stw_l, am_br, am_cmp, am_tk, am_cat, am_sw, am_copy, am_R, am_nc0, am_nc1, am_f0, am_f1, am_f2, am_f3, Int.reduceNeg, Int.reduceEq, Int.reduceLE, Int.reduceLT, Nat.reduceLeDiff, Nat.reduceAdd, Nat.reduceEqDiff, true_and, and_true, ↓reduceIte, if_false, if_true, forall_const, not_true_eq_false, not_false_eq_true, false_implies, true_implies, implies_true, Int.reduceAdd, Int.reduceMul, Int.reduceSub, ne_eq, gf_79_0, ar_11, al_11, gf_79_1, ar_12, al_12, gf_79_2, ar_13, al_13, gf_79_3, ar_14, al_14, gf_79_4, ar_15, al_15, gf_79_5, ar_16, al_16, gf_79_6, pf_79_6, gf_79_7, pf_79_7, gf_78_0, pf_78_0, gf_78_1, pf_78_1, gf_78_2, ar_6, al_6, gf_78_3, ar_7, al_7, gf_78_4, ar_8, al_8, gf_78_5, ar_9, al_9, gf_78_6, ar_10, al_10]
    (repeat' (first | with_reducible apply And.intro | with_reducible intro _)) <;> first | omega | exact K
  | succ m ih =>
    intro r h r0 r1 hf I
    have e10 := hf 10 (by omega)
    have K := ih (r + 1) (am_up h 11 r (h0 10 r)) (by omega) (by omega) (fun c hc => by rw [am_up_ne hc, hf c hc]) (fun q q0 q1 => by
      simp only [eq_self, and_self, am_up_at, am_up_ne, ne_eq, Nat.reduceEqDiff, Int.reduceEq, Int.reduceNeg, not_false_eq_true, false_and, and_false, true_and, and_true, ↓reduceIte, if_false, if_true, Int.reduceAdd, Int.reduceMul, Nat.reduceAdd]
      split
      · rw [show q = r by omega]
      · exact I q q0 (by omega))
    rw [bl_5_2]
    simp only [eq_self, and_self, am_up_at, Int.cast_ofNat_Int, Int.reduceNatCast, true_or, or_true, or_false, false_or, Classical.not_not, false_and, and_false, am_bk, am_step, am_ldI, am_ldL, am_ldA, am_nth, am_sto, am_stw_0, am_stw_i, am_stw_n, am_stw_a, am_stw_l, am_br, am_cmp, am_tk, am_cat, am_sw, am_copy, am_R, am_nc0, am_nc1, am_f0, am_f1, am_f2, am_f3, Int.reduceNeg, Int.reduceEq, Int.reduceLE, Int.reduceLT, Nat.reduceLeDiff, Nat.reduceAdd, Nat.reduceEqDiff, true_and, and_true, ↓reduceIte, if_false, if_true, forall_const, not_true_eq_false, not_false_eq_true, false_implies, true_implies, implies_true, Int.reduceAdd, Int.reduceMul, Int.reduceSub, ne_eq, ca_5_79, bl_5_5, bl_5_17, gf_79_0, ar_11, al_11, gf_79_1, ar_12, al_12, gf_79_2, ar_13, al_13, gf_79_3, ar_14, al_14, gf_79_4, ar_15, al_15, gf_79_5, ar_16, al_16, gf_79_6, pf_79_6, gf_79_7, pf_79_7, gf_78_0, pf_78_0, gf_78_1, pf_78_1, gf_78_2, ar_6, al_6, gf_78_3, ar_7, al_7, gf_78_4, ar_8, al_8, gf_78_5, ar_9, al_9, gf_78_6, ar_10, al_10, e10]
    (repeat' (first | with_reducible apply And.intro | with_reducible intro _)) <;> first | omega | exact K
set_option maxHeartbeats 400000 in
set_option maxRecDepth 100000 in
theorem sp_startWith {h : am_H} {Q : am_P} (H : ∀ h1, (∀ c, c ≠ 11 → c ≠ 12 → c ≠ 13 → c ≠ 79 → h1 c = h c) → (∀ r, 0 ≤ r → r ≤ 2 → h1 11 r = h 10 r ∧ h1 12 r = 0 ∧ h1 13 r = 0) → h1 79 6 = 0 → Q none h1) : am_Call 5 [.inr (.inr (some 79)), .inr (.inr (some 10))] h Q := by
  simp only [eq_self, and_self, am_up_at, Int.cast_ofNat_Int, Int.reduceNatCast, true_or, or_true, or_false, false_or, Classical.not_not, false_and, and_false, am_bk, am_step, am_ldI, am_ldL, am_ldA, am_nth, am_sto, am_stw_0, am_stw_i, am_stw_n, am_stw_a, am_stw_l, am_br, am_cmp, am_tk, am_cat, am_sw, am_copy, am_R, am_nc0, am_nc1, am_f0, am_f1, am_f2, am_f3, Int.reduceNeg, Int.reduceEq, Int.reduceLE, Int.reduceLT, Nat.reduceLeDiff, Nat.reduceAdd, Nat.reduceEqDiff, true_and, and_true, ↓reduceIte, if_false, if_true, forall_const, not_true_eq_false, not_false_eq_true, false_implies, true_implies, implies_true, Int.reduceAdd, Int.reduceMul, Int.reduceSub, ne_eq, ca_5_79, bl_5_0, gf_79_0, ar_11, al_11, gf_79_1, ar_12, al_12, gf_79_2, ar_13, al_13, gf_79_3, ar_14, al_14, gf_79_4, ar_15, al_15, gf_79_5, ar_16, al_16, gf_79_6, pf_79_6, gf_79_7, pf_79_7]
  refine lp_sw (fun h1 a1 a2 => ?_) 3 0 h (by omega) (by omega) (fun _ _ => rfl) (fun q q0 q1 => by omega)
  simp only [eq_self, and_self, am_up_at, Int.cast_ofNat_Int, Int.reduceNatCast, true_or, or_true, or_false, false_or, Classical.not_not, false_and, and_false, am_bk, am_step, am_ldI, am_ldL, am_ldA, am_nth, am_sto, am_stw_0, am_stw_i, am_stw_n, am_stw_a, am_stw_l, am_br, am_cmp, am_tk, am_cat, am_sw, am_copy, am_R, am_nc0, am_nc1, am_f0, am_f1, am_f2, am_f3, Int.reduceNeg, Int.reduceEq, Int.reduceLE, Int.reduceLT, Nat.reduceLeDiff, Nat.reduceAdd, Nat.reduceEqDiff, true_and, and_true, ↓reduceIte, if_false, if_true, forall_const, not_true_eq_false, not_false_eq_true, false_implies, true_implies, implies_true, Int.reduceAdd, Int.reduceMul, Int.reduceSub, ne_eq, ca_5_79, bl_5_18, ca_7_79, bl_7_0, gf_79_0, ar_11, al_11, gf_79_1, ar_12, al_12, gf_79_2, ar_13, al_13, gf_79_3, ar_14, al_14, gf_79_4, ar_15, al_15, gf_79_5, ar_16, al_16, gf_79_6, pf_79_6, gf_79_7, pf_79_7]
  refine sp_fill (n := 3) al_12 ar_12 rfl (by omega) (fun h2 b1 b2 => ?_)
  simp only [eq_self, and_self, am_up_at, Int.cast_ofNat_Int, Int.reduceNatCast, true_or, or_true, or_false, false_or, Classical.not_not, false_and, and_false, am_bk, am_step, am_ldI, am_ldL, am_ldA, am_nth, am_sto, am_stw_0, am_stw_i, am_stw_n, am_stw_a, am_stw_l, am_br, am_cmp, am_tk, am_cat, am_sw, am_copy, am_R, am_nc0, am_nc1, am_f0, am_f1, am_f2, am_f3, Int.reduceNeg, Int.reduceEq, Int.reduceLE, Int.reduceLT, Nat.reduceLeDiff, Nat.reduceAdd, Nat.reduceEqDiff, true_and, and_true, ↓reduceIte, if_false, if_true, forall_const, not_true_eq_false, not_false_eq_true, false_implies, true_implies, implies_true, Int.reduceAdd, Int.reduceMul, Int.reduceSub, ne_eq, ca_7_79, bl_7_4, gf_79_0, ar_11, al_11, gf_79_1, ar_12, al_12, gf_79_2, ar_13, al_13, gf_79_3, ar_14, al_14, gf_79_4, ar_15, al_15, gf_79_5, ar_16, al_16, gf_79_6, pf_79_6, gf_79_7, pf_79_7]
  refine sp_fill (n := 3) al_13 ar_13 rfl (by omega) (fun h3 c1 c2 => ?_)
  simp only [eq_self, and_self, am_up_at, Int.cast_ofNat_Int, Int.reduceNatCast, true_or, or_true, or_false, false_or, Classical.not_not, false_and, and_false, am_bk, am_step, am_ldI, am_ldL, am_ldA, am_nth, am_sto, am_stw_0, am_stw_i, am_stw_n, am_stw_a, am_stw_l, am_br, am_cmp, am_tk, am_cat, am_sw, am_copy, am_R, am_nc0, am_nc1, am_f0, am_f1, am_f2, am_f3, Int.reduceNeg, Int.reduceEq, Int.reduceLE, Int.reduceLT, Nat.reduceLeDiff, Nat.reduceAdd, Nat.reduceEqDiff, true_and, and_true, ↓reduceIte, if_false, if_true, forall_const, not_true_eq_false, not_false_eq_true, false_implies, true_implies, implies_true, Int.reduceAdd, Int.reduceMul, Int.reduceSub, ne_eq, ca_7_79, bl_7_8, ca_5_79, bl_5_20, gf_79_0, ar_11, al_11, gf_79_1, ar_12, al_12, gf_79_2, ar_13, al_13, gf_79_3, ar_14, al_14, gf_79_4, ar_15, al_15, gf_79_5, ar_16, al_16, gf_79_6, pf_79_6, gf_79_7, pf_79_7]
  refine H _ (fun c d1 d2 d3 d4 => ?_) (fun r r0 r1 => ?_) ?_
  · rw [am_up_ne d4, c1 c d3, b1 c d2, a1 c d1]
  · refine ⟨?_, ?_, ?_⟩
    · rw [am_up_ne (by omega), c1 11 (by omega), b1 11 (by omega)]; exact a2 r r0 r1
    · rw [am_up_ne (by omega), c1 12 (by omega), b2 r, if_pos (by omega)]
    · rw [am_up_ne (by omega), c2 r, if_pos (by omega)]
  · simp only [eq_self, and_self, am_up_at, am_up_ne, ne_eq, Nat.reduceEqDiff, Int.reduceEq, Int.reduceNeg, not_false_eq_true, false_and, and_false, true_and, and_true, ↓reduceIte, if_false, if_true, Int.reduceAdd, Int.reduceMul, Nat.reduceAdd]
/-- what the class's city leaves -/
def cc (h h1 : am_H) (s : rd_S) : Prop := (∀ c, ¬ (1 ≤ c ∧ c ≤ 13) → ¬ (36 ≤ c ∧ c ≤ 41) → ¬ (76 ≤ c ∧ c ≤ 79) → ¬ (81 ≤ c ∧ c ≤ 83) → h1 c = h c) ∧ apF h1 s ∧ (∀ r, 0 ≤ r → r ≤ 2 → h1 11 r = rpc s r ∧ h1 12 r = 0 ∧ h1 13 r = 0) ∧ h1 79 6 = 0 ∧ h1 81 7 = 0 ∧ h1 82 7 = 0 ∧ (0 ≤ h1 83 9 ∧ h1 83 9 ≤ 16) ∧ (∀ i, i ≠ 9 → h1 83 i = h 83 i) ∧ pI s (rG s) 0 h1
/-- what the reference's city leaves -/
def cm (h h1 : am_H) (s : rd_S) : Prop := (∀ c, ¬ (51 ≤ c ∧ c ≤ 62) → c ≠ 67 → c ≠ 86 → h1 c = h c) ∧ (h1 86 2 = h 86 2 ∧ h1 86 4 = rU s ∧ h1 86 5 = rG s ∧ h1 86 21 = 0) ∧ (∀ g, 0 ≤ g → g < rG s → h1 51 g = rri s g ∧ h1 52 g = rrm s g ∧ h1 53 g = rpl s g ∧ h1 54 g = rkd s g) ∧ (∀ r, 0 ≤ r → r ≤ 2 → h1 55 r = rpc s r ∧ h1 56 r = 0 ∧ h1 57 r = 0) ∧ h1 67 0 = 0 ∧ h1 67 1 = 0
set_option maxHeartbeats 400000 in
set_option maxRecDepth 100000 in
theorem iv_city {h h1 h2 : am_H} {k : Int} {s : rd_S} (hi : iv h k) (hs : rs_ok s) (hc : cc h h1 s) (hm : cm h1 h2 s) : iv h2 (k + 1) := by
  obtain ⟨c1, c2, c3, c4, c5, c6, c7, c8, c9⟩ := hc
  obtain ⟨m1, m2, m3, m4, m5, m6⟩ := hm
  obtain ⟨r1, r2, r3, r4, r5⟩ := id hs
  have G : h2 86 5 = rG s := m2.2.2.1
  have U : h2 86 4 = rU s := m2.2.1
  have b := fun (c : Nat) (h' : ¬ (51 ≤ c ∧ c ≤ 62)) (h'' : c ≠ 67) (h3 : c ≠ 86) => m1 c h' h'' h3
  refine ⟨?_, ?_, ?_, ?_, ?_, ?_, ?_, ?_, ?_⟩
  · refine ⟨by show 12 ≤ h2 86 4 ∧ h2 86 4 ≤ 54 ∧ h2 86 4 % 6 = 0; rw [U]; exact r1, by show 0 ≤ h2 86 5 ∧ h2 86 5 ≤ 8; rw [G]; exact r2, fun g g0 g1 => ?_, fun r q0 q1 => ?_⟩
    · have g1' : g < rG s := by have : g < h2 86 5 := g1; omega
      show (0 ≤ h2 51 g ∧ h2 51 g ≤ 2) ∧ (h2 52 g = 0 ∨ h2 52 g = 1) ∧ (0 ≤ h2 53 g ∧ h2 53 g < h2 86 4) ∧ (0 ≤ h2 54 g ∧ h2 54 g ≤ 4)
      have e := m3 g g0 g1'
      rw [e.1, e.2.1, e.2.2.1, e.2.2.2, U]
      exact r4 g g0 g1'
    · show (-9 ≤ h2 55 r ∧ h2 55 r ≤ 9) ∧ (0 ≤ h2 56 r ∧ h2 56 r ≤ 400) ∧ (0 ≤ h2 57 r ∧ h2 57 r ≤ 99)
      have e := m4 r q0 q1
      rw [e.1, e.2.1, e.2.2]
      exact ⟨r5 r q0 q1, by omega, by omega⟩
  · refine ⟨?_, ?_, fun g g0 g1 => ?_⟩
    · rw [b 78 (by omega) (by omega) (by omega), U]; exact c2.1
    · rw [b 78 (by omega) (by omega) (by omega), G]; exact c2.2.1
    · have g1' : g < rG s := by omega
      have e := m3 g g0 g1'
      rw [b 6 (by omega) (by omega) (by omega), b 7 (by omega) (by omega) (by omega), b 8 (by omega) (by omega) (by omega), b 9 (by omega) (by omega) (by omega), e.1, e.2.1, e.2.2.1, e.2.2.2]
      exact c2.2.2 g g0 g1'
  · intro r q0 q1
    have e := m4 r q0 q1
    have f := c3 r q0 q1
    rw [b 11 (by omega) (by omega) (by omega), b 12 (by omega) (by omega) (by omega), b 13 (by omega) (by omega) (by omega), e.1, e.2.1, e.2.2]
    exact ⟨f.1, f.2.1, f.2.2, by omega⟩
  · obtain ⟨t1, t2, t3⟩ := hi.2.2.2.1
    have e86 : h2 86 2 = h 86 2 := by rw [m2.1, c1 86 (by omega) (by omega) (by omega) (by omega)]
    have e75 : h2 75 = h 75 := by rw [b 75 (by omega) (by omega) (by omega), c1 75 (by omega) (by omega) (by omega) (by omega)]
    have e0 : h2 0 = h 0 := by rw [b 0 (by omega) (by omega) (by omega), c1 0 (by omega) (by omega) (by omega) (by omega)]
    have e50 : h2 50 = h 50 := by rw [b 50 (by omega) (by omega) (by omega), c1 50 (by omega) (by omega) (by omega) (by omega)]
    unfold iv_t
    rw [e86, e75, e0, e50]
    exact ⟨t1, t2, t3⟩
  · obtain ⟨t1, t2, t3⟩ := hi.2.2.2.2.1
    have e : ∀ c, (14 ≤ c ∧ c ≤ 16) ∨ (63 ≤ c ∧ c ≤ 65) → h2 c = h c := fun c hc => by rw [b c (by omega) (by omega) (by omega), c1 c (by omega) (by omega) (by omega) (by omega)]
    refine ⟨?_, ?_, fun i i0 i1 => ?_⟩
    · rw [b 79 (by omega) (by omega) (by omega), m2.2.2.2]; exact c4
    · rw [m2.2.2.2]; omega
    · have q := t3 i i0 i1
      rw [e 14 (by omega), e 15 (by omega), e 16 (by omega), e 63 (by omega), e 64 (by omega), e 65 (by omega), m2.2.2.2]
      exact ⟨q.1, q.2.1, q.2.2.1, fun z => by omega⟩
  · refine ⟨⟨?_, ?_⟩, fun z => ?_⟩
    · rw [b 81 (by omega) (by omega) (by omega), m5]; exact c5
    · rw [m5]; exact Or.inl rfl
    · rw [m5] at z; omega
  · refine ⟨⟨?_, ?_⟩, fun z => ?_⟩
    · rw [b 82 (by omega) (by omega) (by omega), m6]; exact c6
    · rw [m6]; exact Or.inl rfl
    · rw [m6] at z; omega
  · have e83 := b 83 (by omega) (by omega) (by omega)
    have e : ∀ c, 36 ≤ c ∧ c ≤ 41 → h2 c = h1 c := fun c hc => b c (by omega) (by omega) (by omega)
    refine ⟨by rw [e83]; exact c7, fun x y x0 x1 y0 y1 => ?_⟩
    rw [G] at x1 y1
    obtain ⟨i1, i2, i3, i4⟩ := c9 x y ⟨x0, x1⟩ ⟨y0, y1⟩
    have ex := m3 x x0 x1
    have ey := m3 y y0 y1
    have d : ∀ x y, x < rG s → (dn2 s (rG s) 0 x y ↔ fac s x y) := fun x y hx => ⟨fun z => z.1, fun z => ⟨z, Or.inl hx⟩⟩
    rw [d x y x1, d y x y1] at i3
    rw [e83, e 36 (by omega), e 37 (by omega), e 38 (by omega), e 39 (by omega), e 40 (by omega), e 41 (by omega), ex.1, ex.2.1, ex.2.2.1, ex.2.2.2, ey.1, ey.2.1, ey.2.2.1, ey.2.2.2, U]
    refine ⟨i1, i2, i3, fun z w => ?_⟩
    have f : fac s x y := by
      rcases i3.mp w with q | q
      · exact q
      · unfold fac at q; omega
    exact i4 ((d x y x1).mpr f)
  · have w := iv_w_up hi.2.2.2.2.2.2.2.2
    unfold iv_w at w ⊢
    rw [b 83 (by omega) (by omega) (by omega), b 42 (by omega) (by omega) (by omega), c8 10 (by omega), c1 42 (by omega) (by omega) (by omega) (by omega)]
    exact w
