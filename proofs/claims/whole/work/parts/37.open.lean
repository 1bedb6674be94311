/-! open -/
/-- the pairs of the table are those of the city of S -/
def pr_ok (h : am_H) (S : sg_S) : Prop := (0 ≤ h 83 9 ∧ h 83 9 ≤ 16) ∧
  (∀ a b, 0 ≤ a → a < sg_G S → 0 ≤ b → b < sg_G S → (h 36 (8 * a + b) = -1 ∨ (0 ≤ h 36 (8 * a + b) ∧ h 36 (8 * a + b) < h 83 9)) ∧ h 36 (8 * a + b) = h 36 (8 * b + a) ∧
    (h 36 (8 * a + b) ≠ -1 ↔ sg_bes S a b) ∧
    (sg_ri S a + 1 = sg_ri S b → h 36 (8 * a + b) ≠ -1 →
      h 37 (h 36 (8 * a + b)) = (if sg_kd S a = 1 ∨ sg_kd S b = 1 then 1 else 0) ∧
      h 38 (h 36 (8 * a + b)) = (sg_pl S a - sg_pl S b + (if sg_kd S a = 1 ∨ sg_kd S b = 1 then 1 else 0)) % sg_U S ∧
      h 39 (h 36 (8 * a + b)) = (if sg_kd S a = 3 then 1 else 0) - (if sg_kd S b = 3 then 1 else 0) ∧
      h 40 (h 36 (8 * a + b)) = (if sg_kd S a = 4 ∨ sg_kd S b = 4 then 1 else 0) ∧
      h 41 (h 36 (8 * a + b)) = sg_ri S a))
theorem pr_ok_of {h : am_H} {k : Int} (hi : iv h k) : pr_ok h (sg_of h) := hi.2.2.2.2.2.2.2.1
def tb_adj (U x : Int) : Int := if x < 0 then x + U else if U ≤ x then x - U else x
theorem far_eq {U a b T1 T2 sl f1 f2 : Int} (hU : 12 ≤ U ∧ U ≤ 54 ∧ U % 6 = 0) (ha : 0 ≤ a ∧ a < U) (hb : 0 ≤ b ∧ b < U) (h1 : 0 ≤ T1 ∧ T1 < U) (h2 : 0 ≤ T2 ∧ T2 < U) (hs : sl = 0 ∨ sl = 1) (hf1 : f1 = 0 ∨ f1 = 1) (hf2 : f2 = 0 ∨ f2 = 1) :
    tb_adj U ((a - b + sl) % U + T1 - T2 + (f1 - f2)) ≤ 2 * sl ↔ ((a + f1 + T1) % U = (b + f2 + T2) % U ∨ (sl = 1 ∧ ((a + f1 + T1) % U - (b + f2 + T2) % U = 1 ∨ (b + f2 + T2) % U - (a + f1 + T1) % U = 1 ∨ (a + f1 + T1) % U - (b + f2 + T2) % U = U - 1 ∨ (b + f2 + T2) % U - (a + f1 + T1) % U = U - 1))) := by
  have : U = 12 ∨ U = 18 ∨ U = 24 ∨ U = 30 ∨ U = 36 ∨ U = 42 ∨ U = 48 ∨ U = 54 := by omega
  unfold tb_adj
  rcases this with rfl | rfl | rfl | rfl | rfl | rfl | rfl | rfl <;> rcases hs with rfl | rfl <;> (split <;> (try split) <;> omega)
set_option maxHeartbeats 400000 in
set_option maxRecDepth 100000 in
theorem sp_openAt {S : sg_S} {p i : Int} {h : am_H} {Q : am_P} (hu : h 78 0 = sg_U S ∧ 12 ≤ sg_U S ∧ sg_U S ≤ 54) (hp : 0 ≤ p ∧ p < 16) (hi : 0 ≤ i ∧ i < 505) (ho : 0 ≤ h 41 p ∧ h 41 p ≤ 1) (hsl : h 37 p = 0 ∨ h 37 p = 1) (hah : 0 ≤ h 38 p ∧ h 38 p < sg_U S) (hod : -1 ≤ h 39 p ∧ h 39 p ≤ 1) (hth : h 40 p = 0 ∨ h 40 p = 1) (hT1 : 0 ≤ h 35 (505 * h 41 p + i) ∧ h 35 (505 * h 41 p + i) < sg_U S) (hT2 : 0 ≤ h 35 (505 * h 41 p + i + 505) ∧ h 35 (505 * h 41 p + i + 505) < sg_U S)
    (H1 : ¬ (h 40 p = 1 ∧ i % 3 ≠ 0) ∧ tb_adj (sg_U S) (h 38 p + h 35 (505 * h 41 p + i) - h 35 (505 * h 41 p + i + 505) + (if i % 2 = 1 then h 39 p else 0)) ≤ 2 * h 37 p → Q (some (.inl 1)) h)
    (H0 : ¬ (¬ (h 40 p = 1 ∧ i % 3 ≠ 0) ∧ tb_adj (sg_U S) (h 38 p + h 35 (505 * h 41 p + i) - h 35 (505 * h 41 p + i + 505) + (if i % 2 = 1 then h 39 p else 0)) ≤ 2 * h 37 p) → Q (some (.inl 0)) h) : am_Call 36 [.inr (.inr (some 83)), .inl p, .inl i] h Q := by
  have and1 := am_and1 (i := i) (by omega)
  simp (disch := omega) only [eq_self, and_self, am_up_at, Int.cast_ofNat_Int, Int.reduceNatCast, true_or, or_true, or_false, false_or, Classical.not_not, false_and, and_false, am_bk, am_step, am_ldI, am_ldL, am_ldA, am_nth, am_sto, am_stw_0, am_stw_i, am_stw_n, am_stw_a, am_stw_l, am_br, am_cmp, am_tk, am_cat, am_sw, am_copy, am_R, am_nc0, am_nc1, am_f0, am_f1, am_f2, am_f3, Int.reduceNeg, Int.reduceEq, Int.reduceLE, Int.reduceLT, Nat.reduceLeDiff, Nat.reduceAdd, Nat.reduceEqDiff, true_and, and_true, ↓reduceIte, if_false, if_true, forall_const, not_true_eq_false, not_false_eq_true, false_implies, true_implies, implies_true, Int.reduceAdd, Int.reduceMul, Int.reduceSub, ne_eq, ca_36_83, bl_36_0, bl_36_11, bl_36_23, bl_36_35, bl_36_47, bl_36_48, bl_36_57, bl_36_68, bl_36_78, bl_36_79, gf_83_0, gf_83_1, ar_35, al_35, gf_83_2, ar_36, al_36, gf_83_3, ar_37, al_37, gf_83_4, ar_38, al_38, gf_83_5, ar_39, al_39, gf_83_6, ar_40, al_40, gf_83_7, ar_41, al_41, gf_83_8, ar_42, al_42, gf_83_9, pf_83_9, gf_83_10, pf_83_10, gf_83_11, pf_83_11, gf_83_12, pf_83_12, gf_78_0, pf_78_0, gf_78_1, pf_78_1, gf_78_2, ar_6, al_6, gf_78_3, ar_7, al_7, gf_78_4, ar_8, al_8, gf_78_5, ar_9, al_9, gf_78_6, ar_10, al_10, and1, hu.1, Int.tmod_eq_emod_of_nonneg]
  (repeat' (first | with_reducible apply And.intro | with_reducible intro _)) <;> first | omega | (refine H1 ?_; unfold tb_adj; (repeat' split) <;> omega) | (refine H0 ?_; unfold tb_adj; (repeat' split) <;> omega)
set_option maxHeartbeats 400000 in
set_option maxRecDepth 100000 in
theorem sp_joinOf {S : sg_S} {a b : Int} {h : am_H} {Q : am_P} (hS : sg_ok S) (hP : pl_ok h S) (ha : 0 ≤ a ∧ a < sg_G S) (hb : 0 ≤ b ∧ b < sg_G S) (H1 : sg_wo S a b → Q (some (.inl (-1))) h) (H0 : ¬ sg_wo S a b → Q (some (.inl (h 36 (8 * a + b)))) h) : am_Call 33 [.inr (.inr (some 83)), .inl a, .inl b] h Q := by
  have g := hS.2.1
  have p1 := hP.2.1
  have pa := hP.2.2 a ha.1 ha.2
  have pb := hP.2.2 b hb.1 hb.2
  have ra := hS.2.2.1 a ha.1 ha.2
  have rb := hS.2.2.1 b hb.1 hb.2
  simp (disch := omega) only [eq_self, and_self, am_up_at, Int.cast_ofNat_Int, Int.reduceNatCast, true_or, or_true, or_false, false_or, Classical.not_not, false_and, and_false, am_bk, am_step, am_ldI, am_ldL, am_ldA, am_nth, am_sto, am_stw_0, am_stw_i, am_stw_n, am_stw_a, am_stw_l, am_br, am_cmp, am_tk, am_cat, am_sw, am_copy, am_R, am_nc0, am_nc1, am_f0, am_f1, am_f2, am_f3, Int.reduceNeg, Int.reduceEq, Int.reduceLE, Int.reduceLT, Nat.reduceLeDiff, Nat.reduceAdd, Nat.reduceEqDiff, true_and, and_true, ↓reduceIte, if_false, if_true, forall_const, not_true_eq_false, not_false_eq_true, false_implies, true_implies, implies_true, Int.reduceAdd, Int.reduceMul, Int.reduceSub, ne_eq, ca_33_83, bl_33_0, bl_33_4, bl_33_9, bl_33_10, bl_33_12, bl_33_24, bl_33_25, bl_33_26, bl_33_38, bl_33_43, bl_33_45, gf_83_0, gf_83_1, ar_35, al_35, gf_83_2, ar_36, al_36, gf_83_3, ar_37, al_37, gf_83_4, ar_38, al_38, gf_83_5, ar_39, al_39, gf_83_6, ar_40, al_40, gf_83_7, ar_41, al_41, gf_83_8, ar_42, al_42, gf_83_9, pf_83_9, gf_83_10, pf_83_10, gf_83_11, pf_83_11, gf_83_12, pf_83_12, gf_78_0, pf_78_0, gf_78_1, pf_78_1, gf_78_2, ar_6, al_6, gf_78_3, ar_7, al_7, gf_78_4, ar_8, al_8, gf_78_5, ar_9, al_9, gf_78_6, ar_10, al_10, eq_hasGate, p1, pa.1, pb.1, pa.2.2.2, pb.2.2.2]
  (repeat' (first | with_reducible apply And.intro | with_reducible intro _)) <;> first | omega | (refine H1 ?_; unfold sg_wo; omega) | (refine H0 ?_; unfold sg_wo; omega)
theorem sg_near_sy {S : sg_S} {a b x y : Int} : sg_near S a b x y ↔ sg_near S b a y x := by
  unfold sg_near
  omega
theorem sg_lt_sy {S : sg_S} {a b t : Int} : sg_lt S a b t ↔ sg_lt S b a t := by
  unfold sg_lt
  omega
theorem sg_lt_f {S : sg_S} (hS : sg_ok S) (hF : tb_fit S) {a b t : Int} (ht : 0 ≤ t) : sg_lt S a b (tb_fo S t) ↔ sg_lt S a b t := by
  unfold sg_lt
  rcases tb_fo_c hS hF ht with e | ⟨h1, m, e⟩
  · rw [e]
  · have := (sg_par hS (tb_fo S t) m).2
    rw [← e] at this
    rw [this]
theorem sg_at_e {S : sg_S} {g i : Int} : sg_at S g i = (sg_pl S g + sg_fu (sg_kd S g) i + (sg_pc S (sg_ri S g) * sg_tn (sg_fr S (sg_ri S g)) (sg_la S (sg_ri S g)) i) % sg_U S) % sg_U S := by
  unfold sg_at sg_by
  rw [Int.add_emod_emod]
/-- the pair of an outer gate o and an inner one n, at the second i of the table -/
theorem tb_oa {S : sg_S} {h : am_H} {o n i : Int} (hS : sg_ok S) (hF : tb_fit S) (hT : tb_ok h S) (hR : pr_ok h S) (ho : 0 ≤ o ∧ o < sg_G S) (hn : 0 ≤ n ∧ n < sg_G S) (hi : 0 ≤ i ∧ i < tb_st S + sg_U S) (hon : sg_ri S o + 1 = sg_ri S n) (hp : h 36 (8 * o + n) ≠ -1) {Q : am_P} (hu : h 78 0 = sg_U S)
    (H1 : sg_near S o n (sg_at S o i) (sg_at S n i) ∧ ¬ sg_lt S o n i → Q (some (.inl 1)) h) (H0 : ¬ (sg_near S o n (sg_at S o i) (sg_at S n i) ∧ ¬ sg_lt S o n i) → Q (some (.inl 0)) h) : am_Call 36 [.inr (.inr (some 83)), .inl (h 36 (8 * o + n)), .inl i] h Q := by
  have a := (tb_st_r hS hF).1
  have b := hS.1
  have R := hR.2 o n ho.1 ho.2 hn.1 hn.2
  have R0 := hR.1
  obtain ⟨r1, r2, r3, r4, r5⟩ := R.2.2.2 hon hp
  have ro := hS.2.2.1 o ho.1 ho.2
  have rn := hS.2.2.1 n hn.1 hn.2
  have row1 := hT.2.2 (sg_ri S o) i ro.1.1 ro.1.2 hi.1 hi.2
  have row2 := hT.2.2 (sg_ri S n) i rn.1.1 rn.1.2 hi.1 hi.2
  have fo := sg_fu_c (sg_kd S o) i
  have fn := sg_fu_c (sg_kd S n) i
  have eo := sg_at_e (S := S) (g := o) (i := i)
  have en := sg_at_e (S := S) (g := n) (i := i)
  have q1 := Int.emod_nonneg (sg_pc S (sg_ri S o) * sg_tn (sg_fr S (sg_ri S o)) (sg_la S (sg_ri S o)) i) (show sg_U S ≠ 0 by omega)
  have q2 := Int.emod_lt_of_pos (sg_pc S (sg_ri S o) * sg_tn (sg_fr S (sg_ri S o)) (sg_la S (sg_ri S o)) i) (show 0 < sg_U S by omega)
  have q3 := Int.emod_nonneg (sg_pc S (sg_ri S n) * sg_tn (sg_fr S (sg_ri S n)) (sg_la S (sg_ri S n)) i) (show sg_U S ≠ 0 by omega)
  have q4 := Int.emod_lt_of_pos (sg_pc S (sg_ri S n) * sg_tn (sg_fr S (sg_ri S n)) (sg_la S (sg_ri S n)) i) (show 0 < sg_U S by omega)
  generalize (sg_pc S (sg_ri S o) * sg_tn (sg_fr S (sg_ri S o)) (sg_la S (sg_ri S o)) i) % sg_U S = T1 at row1 eo q1 q2
  generalize (sg_pc S (sg_ri S n) * sg_tn (sg_fr S (sg_ri S n)) (sg_la S (sg_ri S n)) i) % sg_U S = T2 at row2 en q3 q4
  have hT1 : h 35 (505 * h 41 (h 36 (8 * o + n)) + i) = T1 := by rw [r5]; exact row1
  have hT2 : h 35 (505 * h 41 (h 36 (8 * o + n)) + i + 505) = T2 := by
    rw [r5, show 505 * sg_ri S o + i + 505 = 505 * sg_ri S n + i by omega]; exact row2
  have m1 := Int.emod_nonneg (sg_pl S o - sg_pl S n + (if sg_kd S o = 1 ∨ sg_kd S n = 1 then 1 else 0)) (show sg_U S ≠ 0 by omega)
  have m2 := Int.emod_lt_of_pos (sg_pl S o - sg_pl S n + (if sg_kd S o = 1 ∨ sg_kd S n = 1 then 1 else 0)) (show 0 < sg_U S by omega)
  have key : (¬ (h 40 (h 36 (8 * o + n)) = 1 ∧ i % 3 ≠ 0) ∧ tb_adj (sg_U S) (h 38 (h 36 (8 * o + n)) + h 35 (505 * h 41 (h 36 (8 * o + n)) + i) - h 35 (505 * h 41 (h 36 (8 * o + n)) + i + 505) + (if i % 2 = 1 then h 39 (h 36 (8 * o + n)) else 0)) ≤ 2 * h 37 (h 36 (8 * o + n))) ↔ (sg_near S o n (sg_at S o i) (sg_at S n i) ∧ ¬ sg_lt S o n i) := by
    rw [hT1, hT2, r1, r2, r3, r4, eo, en]
    generalize hsl : (if sg_kd S o = 1 ∨ sg_kd S n = 1 then (1 : Int) else 0) = sl
    have hs : (sl = 1 ∧ (sg_kd S o = 1 ∨ sg_kd S n = 1)) ∨ (sl = 0 ∧ ¬ (sg_kd S o = 1 ∨ sg_kd S n = 1)) := by
      rw [← hsl]
      split
      · rename_i q; exact Or.inl ⟨rfl, q⟩
      · rename_i q; exact Or.inr ⟨rfl, q⟩
    have hod : (if i % 2 = 1 then ((if sg_kd S o = 3 then 1 else 0) - (if sg_kd S n = 3 then 1 else 0)) else 0) = sg_fu (sg_kd S o) i - sg_fu (sg_kd S n) i := by
      (repeat' split) <;> omega
    rw [hod]
    have fe := far_eq (U := sg_U S) (a := sg_pl S o) (b := sg_pl S n) (T1 := T1) (T2 := T2) (sl := sl) (f1 := sg_fu (sg_kd S o) i) (f2 := sg_fu (sg_kd S n) i) b ro.2.2.1 rn.2.2.1 ⟨q1, q2⟩ ⟨q3, q4⟩ (by omega) (by omega) (by omega)
    rw [fe]
    unfold sg_near sg_lt
    have h4 : ((if sg_kd S o = 4 ∨ sg_kd S n = 4 then (1 : Int) else 0) = 1) ↔ (sg_kd S o = 4 ∨ sg_kd S n = 4) := by
      split <;> omega
    rw [h4]
    constructor
    · rintro ⟨x1, x2⟩
      refine ⟨?_, x1⟩
      rcases x2 with x2 | ⟨x2, x3⟩
      · exact Or.inl x2
      · exact Or.inr ⟨by omega, x3⟩
    · rintro ⟨x1, x2⟩
      refine ⟨x2, ?_⟩
      rcases x1 with x1 | ⟨x1, x3⟩
      · exact Or.inl x1
      · exact Or.inr ⟨by omega, x3⟩
  refine sp_openAt (S := S) ⟨hu, b.1, b.2.1⟩ (by omega) (by omega) (by omega) (by rw [r1]; split <;> omega) (by rw [r2]; omega) (by rw [r3]; (repeat' split) <;> omega) (by rw [r4]; split <;> omega) (by omega) (by omega) (fun q => H1 (key.mp q)) (fun q => H0 (fun z => q (key.mpr z)))
set_option maxHeartbeats 400000 in
set_option maxRecDepth 100000 in
theorem sp_isOpenN {t : Int} {h : am_H} {Q : am_P} (H : Q (some (.inl 0)) h) : am_Call 34 [.inr (.inr (some 83)), .inl (-1), .inl t] h Q := by
  simp only [eq_self, and_self, am_up_at, Int.cast_ofNat_Int, Int.reduceNatCast, true_or, or_true, or_false, false_or, Classical.not_not, false_and, and_false, am_bk, am_step, am_ldI, am_ldL, am_ldA, am_nth, am_sto, am_stw_0, am_stw_i, am_stw_n, am_stw_a, am_stw_l, am_br, am_cmp, am_tk, am_cat, am_sw, am_copy, am_R, am_nc0, am_nc1, am_f0, am_f1, am_f2, am_f3, Int.reduceNeg, Int.reduceEq, Int.reduceLE, Int.reduceLT, Nat.reduceLeDiff, Nat.reduceAdd, Nat.reduceEqDiff, true_and, and_true, ↓reduceIte, if_false, if_true, forall_const, not_true_eq_false, not_false_eq_true, false_implies, true_implies, implies_true, Int.reduceAdd, Int.reduceMul, Int.reduceSub, ne_eq, ca_34_83, bl_34_0, bl_34_3, bl_34_13, bl_34_14, ca_35_83, bl_35_0, bl_35_8, bl_35_9, gf_83_0, gf_83_1, ar_35, al_35, gf_83_2, ar_36, al_36, gf_83_3, ar_37, al_37, gf_83_4, ar_38, al_38, gf_83_5, ar_39, al_39, gf_83_6, ar_40, al_40, gf_83_7, ar_41, al_41, gf_83_8, ar_42, al_42, gf_83_9, pf_83_9, gf_83_10, pf_83_10, gf_83_11, pf_83_11, gf_83_12, pf_83_12]
  (repeat' (first | with_reducible apply And.intro | with_reducible intro _)) <;> first | omega | exact H
set_option maxHeartbeats 400000 in
set_option maxRecDepth 100000 in
theorem sp_isOpenX {S : sg_S} {a b t : Int} {h : am_H} {Q : am_P} (hS : sg_ok S) (hF : tb_fit S) (hT : tb_ok h S) (hP : pl_ok h S) (hR : pr_ok h S) (ha : 0 ≤ a ∧ a < sg_G S) (hb : 0 ≤ b ∧ b < sg_G S) (ht : 0 ≤ t ∧ t ≤ 100000) (hw : ¬ sg_wo S a b)
    (H1 : sg_opn S a b t → Q (some (.inl 1)) h) (H0 : ¬ sg_opn S a b t → Q (some (.inl 0)) h) : am_Call 34 [.inr (.inr (some 83)), .inl (h 36 (8 * a + b)), .inl t] h Q := by
  have R := hR.2 a b ha.1 ha.2 hb.1 hb.2
  have R0 := hR.1
  by_cases hj : h 36 (8 * a + b) = -1
  · rw [hj]
    exact sp_isOpenN (H0 (fun q => (R.2.2.1.mpr q.1) hj))
  · have fr := tb_fo_r hS hF ht.1
    have hbes := R.2.2.1.mp hj
    have fa := sg_at_f hS hF ha ht.1
    have fb := sg_at_f hS hF hb ht.1
    have fl := sg_lt_f hS hF (a := a) (b := b) ht.1
    have out : ∀ q : Int, (q = 1 ∧ sg_opn S a b t) ∨ (q = 0 ∧ ¬ sg_opn S a b t) → am_Ex 34 10 [some (.inr (.inr (some 83))), some (.inl (h 36 (8 * a + b))), some (.inl t)] [.inl q] h Q := by
      intro q hq
      rcases hq with ⟨rfl, hq⟩ | ⟨rfl, hq⟩
      · simp only [eq_self, and_self, am_up_at, Int.cast_ofNat_Int, Int.reduceNatCast, true_or, or_true, or_false, false_or, Classical.not_not, false_and, and_false, am_bk, am_step, am_ldI, am_ldL, am_ldA, am_nth, am_sto, am_stw_0, am_stw_i, am_stw_n, am_stw_a, am_stw_l, am_br, am_cmp, am_tk, am_cat, am_sw, am_copy, am_R, am_nc0, am_nc1, am_f0, am_f1, am_f2, am_f3, Int.reduceNeg, Int.reduceEq, Int.reduceLE, Int.reduceLT, Nat.reduceLeDiff, Nat.reduceAdd, Nat.reduceEqDiff, true_and, and_true, ↓reduceIte, if_false, if_true, forall_const, not_true_eq_false, not_false_eq_true, false_implies, true_implies, implies_true, Int.reduceAdd, Int.reduceMul, Int.reduceSub, ne_eq, ca_34_83, bl_34_10, bl_34_13, bl_34_14, gf_83_0, gf_83_1, ar_35, al_35, gf_83_2, ar_36, al_36, gf_83_3, ar_37, al_37, gf_83_4, ar_38, al_38, gf_83_5, ar_39, al_39, gf_83_6, ar_40, al_40, gf_83_7, ar_41, al_41, gf_83_8, ar_42, al_42, gf_83_9, pf_83_9, gf_83_10, pf_83_10, gf_83_11, pf_83_11, gf_83_12, pf_83_12]
        exact H1 hq
      · simp only [eq_self, and_self, am_up_at, Int.cast_ofNat_Int, Int.reduceNatCast, true_or, or_true, or_false, false_or, Classical.not_not, false_and, and_false, am_bk, am_step, am_ldI, am_ldL, am_ldA, am_nth, am_sto, am_stw_0, am_stw_i, am_stw_n, am_stw_a, am_stw_l, am_br, am_cmp, am_tk, am_cat, am_sw, am_copy, am_R, am_nc0, am_nc1, am_f0, am_f1, am_f2, am_f3, Int.reduceNeg, Int.reduceEq, Int.reduceLE, Int.reduceLT, Nat.reduceLeDiff, Nat.reduceAdd, Nat.reduceEqDiff, true_and, and_true, ↓reduceIte, if_false, if_true, forall_const, not_true_eq_false, not_false_eq_true, false_implies, true_implies, implies_true, Int.reduceAdd, Int.reduceMul, Int.reduceSub, ne_eq, ca_34_83, bl_34_10, bl_34_13, bl_34_14, gf_83_0, gf_83_1, ar_35, al_35, gf_83_2, ar_36, al_36, gf_83_3, ar_37, al_37, gf_83_4, ar_38, al_38, gf_83_5, ar_39, al_39, gf_83_6, ar_40, al_40, gf_83_7, ar_41, al_41, gf_83_8, ar_42, al_42, gf_83_9, pf_83_9, gf_83_10, pf_83_10, gf_83_11, pf_83_11, gf_83_12, pf_83_12]
        exact H0 hq
    simp only [eq_self, and_self, am_up_at, Int.cast_ofNat_Int, Int.reduceNatCast, true_or, or_true, or_false, false_or, Classical.not_not, false_and, and_false, am_bk, am_step, am_ldI, am_ldL, am_ldA, am_nth, am_sto, am_stw_0, am_stw_i, am_stw_n, am_stw_a, am_stw_l, am_br, am_cmp, am_tk, am_cat, am_sw, am_copy, am_R, am_nc0, am_nc1, am_f0, am_f1, am_f2, am_f3, Int.reduceNeg, Int.reduceEq, Int.reduceLE, Int.reduceLT, Nat.reduceLeDiff, Nat.reduceAdd, Nat.reduceEqDiff, true_and, and_true, ↓reduceIte, if_false, if_true, forall_const, not_true_eq_false, not_false_eq_true, false_implies, true_implies, implies_true, Int.reduceAdd, Int.reduceMul, Int.reduceSub, ne_eq, ca_34_83, bl_34_0, bl_34_3, ca_35_83, bl_35_0, bl_35_8, bl_35_9, gf_83_0, gf_83_1, ar_35, al_35, gf_83_2, ar_36, al_36, gf_83_3, ar_37, al_37, gf_83_4, ar_38, al_38, gf_83_5, ar_39, al_39, gf_83_6, ar_40, al_40, gf_83_7, ar_41, al_41, gf_83_8, ar_42, al_42, gf_83_9, pf_83_9, gf_83_10, pf_83_10, gf_83_11, pf_83_11, gf_83_12, pf_83_12]
    (repeat' (first | with_reducible apply And.intro | with_reducible intro _)) <;> first | omega | skip
    all_goals (
      refine sp_fold hS hF hT ht ?_
      simp only [eq_self, and_self, am_up_at, Int.cast_ofNat_Int, Int.reduceNatCast, true_or, or_true, or_false, false_or, Classical.not_not, false_and, and_false, am_bk, am_step, am_ldI, am_ldL, am_ldA, am_nth, am_sto, am_stw_0, am_stw_i, am_stw_n, am_stw_a, am_stw_l, am_br, am_cmp, am_tk, am_cat, am_sw, am_copy, am_R, am_nc0, am_nc1, am_f0, am_f1, am_f2, am_f3, Int.reduceNeg, Int.reduceEq, Int.reduceLE, Int.reduceLT, Nat.reduceLeDiff, Nat.reduceAdd, Nat.reduceEqDiff, true_and, and_true, ↓reduceIte, if_false, if_true, forall_const, not_true_eq_false, not_false_eq_true, false_implies, true_implies, implies_true, Int.reduceAdd, Int.reduceMul, Int.reduceSub, ne_eq, ca_34_83, bl_34_9, gf_83_0, gf_83_1, ar_35, al_35, gf_83_2, ar_36, al_36, gf_83_3, ar_37, al_37, gf_83_4, ar_38, al_38, gf_83_5, ar_39, al_39, gf_83_6, ar_40, al_40, gf_83_7, ar_41, al_41, gf_83_8, ar_42, al_42, gf_83_9, pf_83_9, gf_83_10, pf_83_10, gf_83_11, pf_83_11, gf_83_12, pf_83_12]
      rcases hbes with hb1 | hb1
      · refine tb_oa hS hF hT hR ha hb fr hb1.1 hj hP.1 (fun q => out 1 (Or.inl ⟨rfl, Or.inl hb1, ?_⟩)) (fun q => out 0 (Or.inr ⟨rfl, fun z => q ?_⟩))
        · rw [fa, fb, fl] at q; exact ⟨q.1, hw, q.2⟩
        · rw [fa, fb, fl]; exact ⟨z.2.1, z.2.2.2⟩
      · rw [R.2.1] at hj ⊢
        refine tb_oa hS hF hT hR hb ha fr hb1.1 hj hP.1 (fun q => ?_) (fun q => ?_)
        · have o := out 1 (Or.inl ⟨rfl, Or.inr hb1, by rw [fa, fb, sg_lt_sy, fl, sg_near_sy] at q; exact ⟨q.1, hw, q.2⟩⟩)
          rw [R.2.1] at o
          exact o
        · have o := out 0 (Or.inr ⟨rfl, fun z => q (by rw [fa, fb, sg_lt_sy, fl, sg_near_sy]; exact ⟨z.2.1, z.2.2.2⟩)⟩)
          rw [R.2.1] at o
          exact o)
