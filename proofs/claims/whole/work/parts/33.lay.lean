/-! the class's table: wrap, layRing, lay -/
theorem am_xorn {x y : Int} (hx : -2147483648 ≤ x ∧ x ≤ 2147483647) (hy : 0 ≤ y ∧ y ≤ 2147483647) : (am_xor x y < 0 ↔ x < 0) ∧ -2147483648 ≤ am_xor x y ∧ am_xor x y ≤ 2147483647 := by
  rw [am_xor_eq]
  have neg : ∀ z : Int32, z.toInt < 0 ↔ z.toBitVec.msb = true := by
    intro z
    show z.toBitVec.toInt < 0 ↔ _
    rw [BitVec.msb_eq_toInt, decide_eq_true_iff]
  have e1 : (Int32.ofInt x).toInt = x := am_toI hx
  have e2 : (Int32.ofInt y).toInt = y := am_toI ⟨by omega, by omega⟩
  have m1 := neg (Int32.ofInt x)
  have m2 := neg (Int32.ofInt y)
  rw [e1] at m1
  rw [e2] at m2
  have m2' : (Int32.ofInt y).toBitVec.msb = false := by
    cases h : (Int32.ofInt y).toBitVec.msb with
    | false => rfl
    | true => exact absurd (m2.mpr h) (by omega)
  refine ⟨?_, ?_⟩
  · rw [neg, Int32.toBitVec_xor, BitVec.msb_xor, m2', Bool.xor_false, ← m1]
  · have a := Int32.le_toInt (Int32.ofInt x ^^^ Int32.ofInt y)
    have b := Int32.toInt_lt (Int32.ofInt x ^^^ Int32.ofInt y)
    omega
set_option maxHeartbeats 400000 in
set_option maxRecDepth 100000 in
theorem sp_floorMod {x y : Int} {h : am_H} {Q : am_P} (hx : -2147483648 ≤ x ∧ x ≤ 2147483647) (hy : 0 < y ∧ y ≤ 1000000) (H : Q (some (.inl (x % y))) h) : am_Call 157 [.inl x, .inl y] h Q := by
  have z := am_xorn hx (show 0 ≤ y ∧ y ≤ 2147483647 by omega)
  have t1 := am_tm (x := x) hy.1
  have t2 := am_tmr (x := x) hy.1
  have s1 : 0 ≤ x → 0 ≤ x.tmod y := fun q => Int.tmod_nonneg y q
  have s2 : x < 0 → x.tmod y ≤ 0 := fun q => by
    have := Int.tmod_nonneg y (show 0 ≤ -x by omega)
    rw [Int.neg_tmod] at this
    omega
  rw [ca_157, bl_157_0]
  refine And.intro ⟨hx, hy.1, by omega⟩ ?_
  refine And.intro z.2 ?_
  have e14 : Q (some (.inl (x.tmod y))) h → am_Ex 157 14 [some (.inl x), some (.inl y), some (.inl (x.tmod y))] [] h Q := fun q => by
    rw [bl_157_14]
    exact And.intro (fun w => absurd w (by decide)) q
  refine And.intro (fun q => ?_) (fun q => ?_)
  · refine e14 (am_leaf H ?_)
    have q : 0 ≤ am_xor x y := q
    generalize am_xor x y = w at z q
    generalize x.tmod y = m at t1 t2 s1 s2 ⊢
    generalize x % y = e at t1 H ⊢
    omega
  · have q : ¬ 0 ≤ am_xor x y := q
    refine And.intro (show am_R (x.tmod y) from ⟨by omega, by omega⟩) ?_
    refine And.intro (fun q2 => ?_) (fun q2 => ?_)
    · refine e14 (am_leaf H ?_)
      have q2 : x.tmod y = 0 := q2
      generalize x.tmod y = m at t1 t2 s1 s2 q2 ⊢
      generalize x % y = e at t1 H ⊢
      omega
    · have q2 : ¬ x.tmod y = 0 := q2
      show am_Ex 157 12 [some (.inl x), some (.inl y), some (.inl (x.tmod y))] [.inl y, .inl (x.tmod y)] h Q
      rw [bl_157_12]
      refine And.intro (fun w => absurd w (by decide)) (show Q (some (.inl (x.tmod y + y))) h from am_leaf H ?_)
      generalize am_xor x y = w at z q
      generalize x.tmod y = m at t1 t2 s1 s2 q2 ⊢
      generalize x % y = e at t1 H ⊢
      omega
set_option maxHeartbeats 400000 in
set_option maxRecDepth 100000 in
theorem sp_wrap {x : Int} {h : am_H} {Q : am_P} (hx : -2147483648 ≤ x ∧ x ≤ 2147483647) (hu : 12 ≤ h 78 0 ∧ h 78 0 ≤ 54) (H : Q (some (.inl (x % h 78 0))) h) : am_Call 16 [.inr (.inr (some 78)), .inl x] h Q := by
  simp only [eq_self, and_self, am_up_at, Int.cast_ofNat_Int, Int.reduceNatCast, true_or, or_true, or_false, false_or, Classical.not_not, false_and, and_false, am_bk, am_step, am_ldI, am_ldL, am_ldA, am_nth, am_sto, am_stw_0, am_stw_i, am_stw_n, am_stw_a, am_stw_l, am_br, am_cmp, am_tk, am_cat, am_sw, am_copy, am_R, am_nc0, am_nc1, am_f0, am_f1, am_f2, am_f3, Int.reduceNeg, Int.reduceEq, Int.reduceLE, Int.reduceLT, Nat.reduceLeDiff, Nat.reduceAdd, Nat.reduceEqDiff, true_and, and_true, ↓reduceIte, if_false, if_true, forall_const, not_true_eq_false, not_false_eq_true, false_implies, true_implies, implies_true, Int.reduceAdd, Int.reduceMul, Int.reduceSub, ne_eq, ca_16_78, bl_16_0, bl_16_6, gf_78_0, pf_78_0, gf_78_1, pf_78_1, gf_78_2, ar_6, al_6, gf_78_3, ar_7, al_7, gf_78_4, ar_8, al_8, gf_78_5, ar_9, al_9, gf_78_6, ar_10, al_10]
  (repeat' (first | with_reducible apply And.intro | with_reducible intro _)) <;> first | omega | skip
  refine sp_floorMod hx (by omega) ?_
  simp only [eq_self, and_self, am_up_at, Int.cast_ofNat_Int, Int.reduceNatCast, true_or, or_true, or_false, false_or, Classical.not_not, false_and, and_false, am_bk, am_step, am_ldI, am_ldL, am_ldA, am_nth, am_sto, am_stw_0, am_stw_i, am_stw_n, am_stw_a, am_stw_l, am_br, am_cmp, am_tk, am_cat, am_sw, am_copy, am_R, am_nc0, am_nc1, am_f0, am_f1, am_f2, am_f3, Int.reduceNeg, Int.reduceEq, Int.reduceLE, Int.reduceLT, Nat.reduceLeDiff, Nat.reduceAdd, Nat.reduceEqDiff, true_and, and_true, ↓reduceIte, if_false, if_true, forall_const, not_true_eq_false, not_false_eq_true, false_implies, true_implies, implies_true, Int.reduceAdd, Int.reduceMul, Int.reduceSub, ne_eq, ca_16_78, bl_16_10, gf_78_0, pf_78_0, gf_78_1, pf_78_1, gf_78_2, ar_6, al_6, gf_78_3, ar_7, al_7, gf_78_4, ar_8, al_8, gf_78_5, ar_9, al_9, gf_78_6, ar_10, al_10]
  exact H
theorem sg_tn_s {f l t : Int} (ht : 0 ≤ t) (hf : 0 ≤ f) (hl : 0 ≤ l) : sg_tn f l (t + 1) = sg_tn f l t + (if t < f ∨ f + l ≤ t then 1 else 0) := by
  unfold sg_tn
  (repeat' split) <;> omega
theorem sg_tn_0 {f l : Int} (hf : 0 ≤ f) : sg_tn f l 0 = 0 := by
  unfold sg_tn
  rw [if_pos hf]; omega
theorem am_mstep {p n U : Int} (hU : 0 < U) : (p * (n + 1)) % U = (if (p * n) % U + p % U < U then (p * n) % U + p % U else (p * n) % U + p % U - U) := by
  have h1 := Int.emod_nonneg (p * n) (show U ≠ 0 by omega)
  have h2 := Int.emod_lt_of_pos (p * n) hU
  have h3 := Int.emod_nonneg p (show U ≠ 0 by omega)
  have h4 := Int.emod_lt_of_pos p hU
  rw [Int.mul_add, Int.mul_one, Int.add_emod]
  split
  · exact Int.emod_eq_of_lt (by omega) (by omega)
  · rename_i q
    rw [← Int.sub_emod_right]
    exact Int.emod_eq_of_lt (by omega) (by omega)
set_option maxHeartbeats 400000 in
set_option maxRecDepth 100000 in
theorem it_layRing {r p f d a t : Int} {h : am_H} {Q : am_P} (hr : 0 ≤ r ∧ r ≤ 2) (hu : 12 ≤ h 78 0 ∧ h 78 0 ≤ 54) (hp : 0 ≤ p ∧ p < h 78 0) (hf : 0 ≤ f ∧ f ≤ 400) (hd : 0 ≤ d ∧ d ≤ 99) (ha : 0 ≤ a ∧ a < h 78 0) (ht : 0 ≤ t ∧ t < h 83 12) (hs : h 83 12 ≤ 505)
    (H : ∀ a', a' = (if t < f ∨ f + d ≤ t then (if a + p < h 78 0 then a + p else a + p - h 78 0) else a) → am_Ex 28 4 [some (.inr (.inr (some 83))), some (.inl r), some (.inl p), some (.inl f), some (.inl d), some (.inl a'), some (.inl (t + 1))] [] (am_up h 35 (505 * r + t) a) Q) :
    am_Ex 28 4 [some (.inr (.inr (some 83))), some (.inl r), some (.inl p), some (.inl f), some (.inl d), some (.inl a), some (.inl t)] [] h Q := by
  rw [bl_28_4]
  simp only [eq_self, and_self, am_up_at, Int.cast_ofNat_Int, Int.reduceNatCast, true_or, or_true, or_false, false_or, Classical.not_not, false_and, and_false, am_bk, am_step, am_ldI, am_ldL, am_ldA, am_nth, am_sto, am_stw_0, am_stw_i, am_stw_n, am_stw_a, am_stw_l, am_br, am_cmp, am_tk, am_cat, am_sw, am_copy, am_R, am_nc0, am_nc1, am_f0, am_f1, am_f2, am_f3, Int.reduceNeg, Int.reduceEq, Int.reduceLE, Int.reduceLT, Nat.reduceLeDiff, Nat.reduceAdd, Nat.reduceEqDiff, true_and, and_true, ↓reduceIte, if_false, if_true, forall_const, not_true_eq_false, not_false_eq_true, false_implies, true_implies, implies_true, Int.reduceAdd, Int.reduceMul, Int.reduceSub, ne_eq, ca_28_83, bl_28_8, bl_28_20, bl_28_25, bl_28_37, bl_28_40, gf_83_0, gf_83_1, ar_35, al_35, gf_83_2, ar_36, al_36, gf_83_3, ar_37, al_37, gf_83_4, ar_38, al_38, gf_83_5, ar_39, al_39, gf_83_6, ar_40, al_40, gf_83_7, ar_41, al_41, gf_83_8, ar_42, al_42, gf_83_9, pf_83_9, gf_83_10, pf_83_10, gf_83_11, pf_83_11, gf_83_12, pf_83_12, gf_78_0, pf_78_0, gf_78_1, pf_78_1, gf_78_2, ar_6, al_6, gf_78_3, ar_7, al_7, gf_78_4, ar_8, al_8, gf_78_5, ar_9, al_9, gf_78_6, ar_10, al_10]
  (repeat' (first | with_reducible apply And.intro | with_reducible intro _)) <;> first | omega | (refine H _ ?_; (repeat' split) <;> omega)
/-- from h to h1 the row r of the table is laid, n seconds of it -/
def tb_row (h h1 : am_H) (r n : Int) (v : Int → Int) : Prop := (∀ t, 0 ≤ t → t < n → h1 35 (505 * r + t) = v t) ∧ (∀ i, (i < 505 * r ∨ 505 * r + n ≤ i) → h1 35 i = h 35 i) ∧ ∀ c, c ≠ 35 → h1 c = h c
set_option maxHeartbeats 400000 in
set_option maxRecDepth 100000 in
theorem lp_layRing {r p f d U s pc : Int} {Q : am_P} (hr : 0 ≤ r ∧ r ≤ 2) (hu : 12 ≤ U ∧ U ≤ 54) (hp : p = pc % U) (hf : 0 ≤ f ∧ f ≤ 400) (hd : 0 ≤ d ∧ d ≤ 99) (hs : 0 ≤ s ∧ s ≤ 505) (h0 : am_H) (HQ : ∀ h1, tb_row h0 h1 r s (fun t => (pc * sg_tn f d t) % U) → Q none h1) :
    ∀ (n : Nat) (t : Int) (h : am_H), 0 ≤ t → t + n = s → h 78 0 = U → h 83 12 = s → tb_row h0 h r t (fun t => (pc * sg_tn f d t) % U) → am_Ex 28 4 [some (.inr (.inr (some 83))), some (.inl r), some (.inl p), some (.inl f), some (.inl d), some (.inl ((pc * sg_tn f d t) % U)), some (.inl t)] [] h Q := by
  intro n
  induction n with
  | zero =>
    intro t h h1 h2 h3 h4 hrow
    rw [bl_28_4]
    simp only [eq_self, and_self, am_up_at, Int.cast_ofNat_Int, Int.reduceNatCast, true_or, or_true, or_false, false_or, Classical.not_not, false_and, and_false, am_bk, am_step, am_ldI, am_ldL, am_ldA, am_nth, am_sto, am_stw_0, am_stw_i, am_stw_n, am_stw_a, am_stw_l, am_br, am_cmp, am_tk, am_cat, am_sw, am_copy, am_R, am_nc0, am_nc1, am_f0, am_f1, am_f2, am_f3, Int.reduceNeg, Int.reduceEq, Int.reduceLE, Int.reduceLT, Nat.reduceLeDiff, Nat.reduceAdd, Nat.reduceEqDiff, true_and, and_true, ↓reduceIte, if_false, if_true, forall_const, not_true_eq_false, not_false_eq_true, false_implies, true_implies, implies_true, Int.reduceAdd, Int.reduceMul, Int.reduceSub, ne_eq, ca_28_83, bl_28_42, gf_83_0, gf_83_1, ar_35, al_35, gf_83_2, ar_36, al_36, gf_83_3, ar_37, al_37, gf_83_4, ar_38, al_38, gf_83_5, ar_39, al_39, gf_83_6, ar_40, al_40, gf_83_7, ar_41, al_41, gf_83_8, ar_42, al_42, gf_83_9, pf_83_9, gf_83_10, pf_83_10, gf_83_11, pf_83_11, gf_83_12, pf_83_12, gf_78_0, pf_78_0, gf_78_1, pf_78_1, gf_78_2, ar_6, al_6, gf_78_3, ar_7, al_7, gf_78_4, ar_8, al_8, gf_78_5, ar_9, al_9, gf_78_6, ar_10, al_10]
    have : t = s := by omega
    subst this
    (repeat' (first | with_reducible apply And.intro | with_reducible intro _)) <;> first | omega | exact HQ h hrow
  | succ n ih =>
    intro t h h1 h2 h3 h4 hrow
    have a1 := Int.emod_nonneg (pc * sg_tn f d t) (show U ≠ 0 by omega)
    have a2 := Int.emod_lt_of_pos (pc * sg_tn f d t) (show 0 < U by omega)
    have b1 := Int.emod_nonneg pc (show U ≠ 0 by omega)
    have b2 := Int.emod_lt_of_pos pc (show 0 < U by omega)
    refine it_layRing hr (by omega) (by omega) hf hd (by omega) (by omega) (by omega) (fun a' ea => ?_)
    have key : a' = (pc * sg_tn f d (t + 1)) % U := by
      rw [ea, sg_tn_s h1 hf.1 hd.1, h3]
      by_cases hc : t < f ∨ f + d ≤ t
      · rw [if_pos hc, if_pos hc, am_mstep (by omega), hp]
      · rw [if_neg hc, if_neg hc, Int.add_zero]
    subst key
    refine ih (t + 1) _ (by omega) (by omega) (by simp only [eq_self, and_self, am_up_at, am_up_ne, ne_eq, Nat.reduceEqDiff, Int.reduceEq, Int.reduceNeg, not_false_eq_true, false_and, and_false, true_and, and_true, ↓reduceIte, if_false, if_true, Int.reduceAdd, Int.reduceMul, Nat.reduceAdd]; exact h3) (by simp only [eq_self, and_self, am_up_at, am_up_ne, ne_eq, Nat.reduceEqDiff, Int.reduceEq, Int.reduceNeg, not_false_eq_true, false_and, and_false, true_and, and_true, ↓reduceIte, if_false, if_true, Int.reduceAdd, Int.reduceMul, Nat.reduceAdd]; exact h4) ⟨fun q q1 q2 => ?_, fun i q => ?_, fun c hc => ?_⟩
    · by_cases e : q = t
      · subst e; exact if_pos ⟨rfl, rfl⟩
      · rw [show am_up h 35 (505 * r + t) _ 35 (505 * r + q) = h 35 (505 * r + q) from if_neg (by omega)]
        exact hrow.1 q q1 (by omega)
    · rw [show am_up h 35 (505 * r + t) _ 35 i = h 35 i from if_neg (by omega)]
      exact hrow.2.1 i (by omega)
    · rw [am_up_ne hc]; exact hrow.2.2 c hc
set_option maxHeartbeats 400000 in
set_option maxRecDepth 100000 in
theorem sp_layRing {r p f d pc : Int} {h : am_H} {Q : am_P} (hr : 0 ≤ r ∧ r ≤ 2) (hu : 12 ≤ h 78 0 ∧ h 78 0 ≤ 54) (hp : p = pc % h 78 0) (hf : 0 ≤ f ∧ f ≤ 400) (hd : 0 ≤ d ∧ d ≤ 99) (hs : 0 ≤ h 83 12 ∧ h 83 12 ≤ 505) (H : ∀ h1, tb_row h h1 r (h 83 12) (fun t => (pc * sg_tn f d t) % h 78 0) → Q none h1) : am_Call 28 [.inr (.inr (some 83)), .inl r, .inl p, .inl f, .inl d] h Q := by
  simp only [eq_self, and_self, am_up_at, Int.cast_ofNat_Int, Int.reduceNatCast, true_or, or_true, or_false, false_or, Classical.not_not, false_and, and_false, am_bk, am_step, am_ldI, am_ldL, am_ldA, am_nth, am_sto, am_stw_0, am_stw_i, am_stw_n, am_stw_a, am_stw_l, am_br, am_cmp, am_tk, am_cat, am_sw, am_copy, am_R, am_nc0, am_nc1, am_f0, am_f1, am_f2, am_f3, Int.reduceNeg, Int.reduceEq, Int.reduceLE, Int.reduceLT, Nat.reduceLeDiff, Nat.reduceAdd, Nat.reduceEqDiff, true_and, and_true, ↓reduceIte, if_false, if_true, forall_const, not_true_eq_false, not_false_eq_true, false_implies, true_implies, implies_true, Int.reduceAdd, Int.reduceMul, Int.reduceSub, ne_eq, ca_28_83, bl_28_0, gf_83_0, gf_83_1, ar_35, al_35, gf_83_2, ar_36, al_36, gf_83_3, ar_37, al_37, gf_83_4, ar_38, al_38, gf_83_5, ar_39, al_39, gf_83_6, ar_40, al_40, gf_83_7, ar_41, al_41, gf_83_8, ar_42, al_42, gf_83_9, pf_83_9, gf_83_10, pf_83_10, gf_83_11, pf_83_11, gf_83_12, pf_83_12, gf_78_0, pf_78_0, gf_78_1, pf_78_1, gf_78_2, ar_6, al_6, gf_78_3, ar_7, al_7, gf_78_4, ar_8, al_8, gf_78_5, ar_9, al_9, gf_78_6, ar_10, al_10]
  have := lp_layRing (Q := Q) hr hu hp hf hd hs h H (h 83 12).toNat 0 h (by omega) (by omega) rfl rfl ⟨fun q q1 q2 => by omega, fun _ _ => rfl, fun _ _ => rfl⟩
  rw [sg_tn_0 hf.1, Int.mul_zero, Int.zero_emod] at this
  exact this
