theorem sg_near_sy {S : sg_S} {a b x y : Int} : sg_near S a b x y ↔ sg_near S b a y x := by
  unfold sg_near
  omega
theorem sg_lt_sy {S : sg_S} {a b t : Int} : sg_lt S a b t ↔ sg_lt S b a t := by
  unfold sg_lt
  omega
theorem sg_lt_f {S : sg_S} (hS : sg_ok S) (hF : tb_fit S) {a b t : Int} (ht : 0 ≤ t) : sg_lt S a b (tb_fo S t) ↔ sg_lt S a b t := by
  unfold sg_lt
  rcases tb_fo_c hS hF ht with e | ⟨h1, m, e⟩
  · rw [e]
  · have := (sg_par hS (tb_fo S t) m).2
    rw [← e] at this
    rw [this]
theorem sg_at_e {S : sg_S} {g i : Int} : sg_at S g i = (sg_pl S g + sg_fu (sg_kd S g) i + (sg_pc S (sg_ri S g) * sg_tn (sg_fr S (sg_ri S g)) (sg_la S (sg_ri S g)) i) % sg_U S) % sg_U S := by
  unfold sg_at sg_by
  rw [Int.add_emod_emod]
theorem tb_od (k1 k2 i : Int) : (if i % 2 = 1 then ((if k1 = 3 then (1 : Int) else 0) - (if k2 = 3 then 1 else 0)) else 0) = sg_fu k1 i - sg_fu k2 i := by
  unfold sg_fu
  by_cases c1 : i % 2 = 1 <;> by_cases c2 : k1 = 3 <;> by_cases c3 : k2 = 3 <;> simp [c1, c2, c3]
theorem tb_key {U a b T1 T2 k1 k2 i sl ah od th : Int} (hU : 12 ≤ U ∧ U ≤ 54 ∧ U % 6 = 0) (ha : 0 ≤ a ∧ a < U) (hb : 0 ≤ b ∧ b < U) (h1 : 0 ≤ T1 ∧ T1 < U) (h2 : 0 ≤ T2 ∧ T2 < U) (r1 : sl = if k1 = 1 ∨ k2 = 1 then 1 else 0) (r2 : ah = (a - b + (if k1 = 1 ∨ k2 = 1 then 1 else 0)) % U) (r3 : od = (if k1 = 3 then 1 else 0) - (if k2 = 3 then 1 else 0)) (r4 : th = if k1 = 4 ∨ k2 = 4 then 1 else 0) :
    (¬ (th = 1 ∧ i % 3 ≠ 0) ∧ tb_adj U (ah + T1 - T2 + (if i % 2 = 1 then od else 0)) ≤ 2 * sl) ↔ (((a + sg_fu k1 i + T1) % U = (b + sg_fu k2 i + T2) % U ∨ ((k1 = 1 ∨ k2 = 1) ∧ ((a + sg_fu k1 i + T1) % U - (b + sg_fu k2 i + T2) % U = 1 ∨ (b + sg_fu k2 i + T2) % U - (a + sg_fu k1 i + T1) % U = 1 ∨ (a + sg_fu k1 i + T1) % U - (b + sg_fu k2 i + T2) % U = U - 1 ∨ (b + sg_fu k2 i + T2) % U - (a + sg_fu k1 i + T1) % U = U - 1))) ∧ ¬ ((k1 = 4 ∨ k2 = 4) ∧ i % 3 ≠ 0)) := by
  rw [r3, tb_od, r2, ← r1]
  have f1 : sg_fu k1 i = 0 ∨ sg_fu k1 i = 1 := by rcases sg_fu_c k1 i with ⟨e, _⟩ | ⟨e, _⟩ <;> simp [e]
  have f2 : sg_fu k2 i = 0 ∨ sg_fu k2 i = 1 := by rcases sg_fu_c k2 i with ⟨e, _⟩ | ⟨e, _⟩ <;> simp [e]
  have hs : sl = 0 ∨ sl = 1 := by rw [r1]; split <;> simp
  have hs1 : sl = 1 ↔ (k1 = 1 ∨ k2 = 1) := by rw [r1]; split <;> simp [*]
  have ht1 : th = 1 ↔ (k1 = 4 ∨ k2 = 4) := by rw [r4]; split <;> simp [*]
  rw [far_eq hU ha hb h1 h2 hs f1 f2, hs1, ht1]
  exact And.comm
/-- the pair of an outer gate o and an inner one n, at the second i of the table -/
theorem tb_oa {S : sg_S} {h : am_H} {o n i : Int} (hS : sg_ok S) (hF : tb_fit S) (hT : tb_ok h S) (hR : pr_ok h S) (ho : 0 ≤ o ∧ o < sg_G S) (hn : 0 ≤ n ∧ n < sg_G S) (hi : 0 ≤ i ∧ i < tb_st S + sg_U S) (hon : sg_ri S o + 1 = sg_ri S n) (hp : h 36 (8 * o + n) ≠ -1) {Q : am_P} (hu : h 78 0 = sg_U S)
    (H1 : sg_near S o n (sg_at S o i) (sg_at S n i) ∧ ¬ sg_lt S o n i → Q (some (.inl 1)) h) (H0 : ¬ (sg_near S o n (sg_at S o i) (sg_at S n i) ∧ ¬ sg_lt S o n i) → Q (some (.inl 0)) h) : am_Call 36 [.inr (.inr (some 83)), .inl (h 36 (8 * o + n)), .inl i] h Q := by
  obtain ⟨R1, R2, R3, R4⟩ := hR.2 o n ho.1 ho.2 hn.1 hn.2
  obtain ⟨r1, r2, r3, r4, r5⟩ := R4 hon hp
  have ro := hS.2.2.1 o ho.1 ho.2
  have rn := hS.2.2.1 n hn.1 hn.2
  have row1 := hT.2.2 (sg_ri S o) i ro.1.1 ro.1.2 hi.1 hi.2
  have row2 := hT.2.2 (sg_ri S n) i rn.1.1 rn.1.2 hi.1 hi.2
  have a := (tb_st_r hS hF).1
  have b := hS.1
  have hp2 : 0 ≤ h 36 (8 * o + n) ∧ h 36 (8 * o + n) < 16 := by
    have := hR.1
    rcases R1 with q | q
    · exact absurd q hp
    · exact ⟨q.1, by omega⟩
  have hi5 : 0 ≤ i ∧ i < 505 := ⟨hi.1, by omega⟩
  have hU0 : sg_U S ≠ 0 := by omega
  have hUp : 0 < sg_U S := by omega
  have q12 := And.intro (Int.emod_nonneg (sg_pc S (sg_ri S o) * sg_tn (sg_fr S (sg_ri S o)) (sg_la S (sg_ri S o)) i) hU0) (Int.emod_lt_of_pos (sg_pc S (sg_ri S o) * sg_tn (sg_fr S (sg_ri S o)) (sg_la S (sg_ri S o)) i) hUp)
  have q34 := And.intro (Int.emod_nonneg (sg_pc S (sg_ri S n) * sg_tn (sg_fr S (sg_ri S n)) (sg_la S (sg_ri S n)) i) hU0) (Int.emod_lt_of_pos (sg_pc S (sg_ri S n) * sg_tn (sg_fr S (sg_ri S n)) (sg_la S (sg_ri S n)) i) hUp)
  rw [← row1] at q12
  rw [← row2] at q34
  have e2 : 505 * h 41 (h 36 (8 * o + n)) + i + 505 = 505 * sg_ri S n + i := by rw [r5]; omega
  have e1 : 505 * h 41 (h 36 (8 * o + n)) + i = 505 * sg_ri S o + i := by rw [r5]
  have key := tb_key (i := i) b ro.2.2.1 rn.2.2.1 q12 q34 r1 r2 r3 r4
  rw [row1, row2, ← sg_at_e (S := S) (g := o) (i := i), ← sg_at_e (S := S) (g := n) (i := i)] at key
  rw [← row1, ← row2, ← e1, ← e2] at key
  have hah : 0 ≤ h 38 (h 36 (8 * o + n)) ∧ h 38 (h 36 (8 * o + n)) < sg_U S := by
    rw [r2]
    exact ⟨Int.emod_nonneg _ hU0, Int.emod_lt_of_pos _ hUp⟩
  refine sp_openAt (S := S) ⟨hu, b.1, b.2.1⟩ hp2 hi5 (by rw [r5]; exact ⟨ro.1.1, by have := rn.1.2; omega⟩) (by rw [r1]; split <;> simp) hah (by rw [r3]; (repeat' split) <;> decide) (by rw [r4]; split <;> simp) (by rw [e1]; exact q12) (by rw [e2]; exact q34) (fun q => H1 (key.mp q)) (fun q => H0 (fun z => q (key.mpr z)))
set_option maxHeartbeats 400000 in
set_option maxRecDepth 100000 in
theorem sp_isOpenN {t : Int} {h : am_H} {Q : am_P} (H : Q (some (.inl 0)) h) : am_Call 34 [.inr (.inr (some 83)), .inl (-1), .inl t] h Q := by
  simp only [eq_self, and_self, am_up_at, Int.cast_ofNat_Int, Int.reduceNatCast, true_or, or_true, or_false, false_or, Classical.not_not, false_and, and_false, am_bk, am_step, am_ldI, am_ldL, am_ldA, am_nth, am_sto, am_stw_0, am_stw_i, am_stw_n, am_stw_a, am_stw_l, am_br, am_cmp, am_tk, am_cat, am_sw, am_copy, am_R, am_nc0, am_nc1, am_f0, am_f1, am_f2, am_f3, Int.reduceNeg, Int.reduceEq, Int.reduceLE, Int.reduceLT, Nat.reduceLeDiff, Nat.reduceAdd, Nat.reduceEqDiff, true_and, and_true, ↓reduceIte, if_false, if_true, forall_const, not_true_eq_false, not_false_eq_true, false_implies, true_implies, implies_true, Int.reduceAdd, Int.reduceMul, Int.reduceSub, ne_eq, ca_34_83, bl_34_0, bl_34_3, bl_34_13, bl_34_14, ca_35_83, bl_35_0, bl_35_8, bl_35_9, gf_83_0, gf_83_1, ar_35, al_35, gf_83_2, ar_36, al_36, gf_83_3, ar_37, al_37, gf_83_4, ar_38, al_38, gf_83_5, ar_39, al_39, gf_83_6, ar_40, al_40, gf_83_7, ar_41, al_41, gf_83_8, ar_42, al_42, gf_83_9, pf_83_9, gf_83_10, pf_83_10, gf_83_11, pf_83_11, gf_83_12, pf_83_12]
  (repeat' (first | with_reducible apply And.intro | with_reducible intro _)) <;> first | omega | exact H
set_option maxHeartbeats 400000 in
set_option maxRecDepth 100000 in
theorem sp_isOpenX {S : sg_S} {a b t : Int} {h : am_H} {Q : am_P} (hS : sg_ok S) (hF : tb_fit S) (hT : tb_ok h S) (hP : pl_ok h S) (hR : pr_ok h S) (ha : 0 ≤ a ∧ a < sg_G S) (hb : 0 ≤ b ∧ b < sg_G S) (ht : 0 ≤ t ∧ t ≤ 100000) (hw : ¬ sg_wo S a b)
    (H1 : sg_opn S a b t → Q (some (.inl 1)) h) (H0 : ¬ sg_opn S a b t → Q (some (.inl 0)) h) : am_Call 34 [.inr (.inr (some 83)), .inl (h 36 (8 * a + b)), .inl t] h Q := by
  have R := hR.2 a b ha.1 ha.2 hb.1 hb.2
  have R0 := hR.1
  by_cases hj : h 36 (8 * a + b) = -1
  · rw [hj]
    exact sp_isOpenN (H0 (fun q => (R.2.2.1.mpr q.1) hj))
  · have fr := tb_fo_r hS hF ht.1
    have hbes := R.2.2.1.mp hj
    have fa := sg_at_f hS hF ha ht.1
    have fb := sg_at_f hS hF hb ht.1
    have fl := sg_lt_f hS hF (a := a) (b := b) ht.1
    have out : ∀ q : Int, (q = 1 ∧ sg_opn S a b t) ∨ (q = 0 ∧ ¬ sg_opn S a b t) → am_Ex 34 10 [some (.inr (.inr (some 83))), some (.inl (h 36 (8 * a + b))), some (.inl t)] [.inl q] h Q := by
      intro q hq
      rcases hq with ⟨rfl, hq⟩ | ⟨rfl, hq⟩
      · simp only [eq_self, and_self, am_up_at, Int.cast_ofNat_Int, Int.reduceNatCast, true_or, or_true, or_false, false_or, Classical.not_not, false_and, and_false, am_bk, am_step, am_ldI, am_ldL, am_ldA, am_nth, am_sto, am_stw_0, am_stw_i, am_stw_n, am_stw_a, am_stw_l, am_br, am_cmp, am_tk, am_cat, am_sw, am_copy, am_R, am_nc0, am_nc1, am_f0, am_f1, am_f2, am_f3, Int.reduceNeg, Int.reduceEq, Int.reduceLE, Int.reduceLT, Nat.reduceLeDiff, Nat.reduceAdd, Nat.reduceEqDiff, true_and, and_true, ↓reduceIte, if_false, if_true, forall_const, not_true_eq_false, not_false_eq_true, false_implies, true_implies, implies_true, Int.reduceAdd, Int.reduceMul, Int.reduceSub, ne_eq, ca_34_83, bl_34_10, bl_34_13, bl_34_14, gf_83_0, gf_83_1, ar_35, al_35, gf_83_2, ar_36, al_36, gf_83_3, ar_37, al_37, gf_83_4, ar_38, al_38, gf_83_5, ar_39, al_39, gf_83_6, ar_40, al_40, gf_83_7, ar_41, al_41, gf_83_8, ar_42, al_42, gf_83_9, pf_83_9, gf_83_10, pf_83_10, gf_83_11, pf_83_11, gf_83_12, pf_83_12]
        exact H1 hq
      · simp only [eq_self, and_self, am_up_at, Int.cast_ofNat_Int, Int.reduceNatCast, true_or, or_true, or_false, false_or, Classical.not_not, false_and, and_false, am_bk, am_step, am_ldI, am_ldL, am_ldA, am_nth, am_sto, am_stw_0, am_stw_i, am_stw_n, am_stw_a, am_stw_l, am_br, am_cmp, am_tk, am_cat, am_sw, am_copy, am_R, am_nc0, am_nc1, am_f0, am_f1, am_f2, am_f3, Int.reduceNeg, Int.reduceEq, Int.reduceLE, Int.reduceLT, Nat.reduceLeDiff, Nat.reduceAdd, Nat.reduceEqDiff, true_and, and_true, ↓reduceIte, if_false, if_true, forall_const, not_true_eq_false, not_false_eq_true, false_implies, true_implies, implies_true, Int.reduceAdd, Int.reduceMul, Int.reduceSub, ne_eq, ca_34_83, bl_34_10, bl_34_13, bl_34_14, gf_83_0, gf_83_1, ar_35, al_35, gf_83_2, ar_36, al_36, gf_83_3, ar_37, al_37, gf_83_4, ar_38, al_38, gf_83_5, ar_39, al_39, gf_83_6, ar_40, al_40, gf_83_7, ar_41, al_41, gf_83_8, ar_42, al_42, gf_83_9, pf_83_9, gf_83_10, pf_83_10, gf_83_11, pf_83_11, gf_83_12, pf_83_12]
        exact H0 hq
    simp only [eq_self, and_self, am_up_at, Int.cast_ofNat_Int, Int.reduceNatCast, true_or, or_true, or_false, false_or, Classical.not_not, false_and, and_false, am_bk, am_step, am_ldI, am_ldL, am_ldA, am_nth, am_sto, am_stw_0, am_stw_i, am_stw_n, am_stw_a, am_stw_l, am_br, am_cmp, am_tk, am_cat, am_sw, am_copy, am_R, am_nc0, am_nc1, am_f0, am_f1, am_f2, am_f3, Int.reduceNeg, Int.reduceEq, Int.reduceLE, Int.reduceLT, Nat.reduceLeDiff, Nat.reduceAdd, Nat.reduceEqDiff, true_and, and_true, ↓reduceIte, if_false, if_true, forall_const, not_true_eq_false, not_false_eq_true, false_implies, true_implies, implies_true, Int.reduceAdd, Int.reduceMul, Int.reduceSub, ne_eq, ca_34_83, bl_34_0, bl_34_3, ca_35_83, bl_35_0, bl_35_8, bl_35_9, gf_83_0, gf_83_1, ar_35, al_35, gf_83_2, ar_36, al_36, gf_83_3, ar_37, al_37, gf_83_4, ar_38, al_38, gf_83_5, ar_39, al_39, gf_83_6, ar_40, al_40, gf_83_7, ar_41, al_41, gf_83_8, ar_42, al_42, gf_83_9, pf_83_9, gf_83_10, pf_83_10, gf_83_11, pf_83_11, gf_83_12, pf_83_12]
    (repeat' (first | with_reducible apply And.intro | with_reducible intro _)) <;> first | omega | skip
    all_goals (
      refine sp_fold hS hF hT ht ?_
      simp only [eq_self, and_self, am_up_at, Int.cast_ofNat_Int, Int.reduceNatCast, true_or, or_true, or_false, false_or, Classical.not_not, false_and, and_false, am_bk, am_step, am_ldI, am_ldL, am_ldA, am_nth, am_sto, am_stw_0, am_stw_i, am_stw_n, am_stw_a, am_stw_l, am_br, am_cmp, am_tk, am_cat, am_sw, am_copy, am_R, am_nc0, am_nc1, am_f0, am_f1, am_f2, am_f3, Int.reduceNeg, Int.reduceEq, Int.reduceLE, Int.reduceLT, Nat.reduceLeDiff, Nat.reduceAdd, Nat.reduceEqDiff, true_and, and_true, ↓reduceIte, if_false, if_true, forall_const, not_true_eq_false, not_false_eq_true, false_implies, true_implies, implies_true, Int.reduceAdd, Int.reduceMul, Int.reduceSub, ne_eq, ca_34_83, bl_34_9, gf_83_0, gf_83_1, ar_35, al_35, gf_83_2, ar_36, al_36, gf_83_3, ar_37, al_37, gf_83_4, ar_38, al_38, gf_83_5, ar_39, al_39, gf_83_6, ar_40, al_40, gf_83_7, ar_41, al_41, gf_83_8, ar_42, al_42, gf_83_9, pf_83_9, gf_83_10, pf_83_10, gf_83_11, pf_83_11, gf_83_12, pf_83_12]
      rcases hbes with hb1 | hb1
      · refine tb_oa hS hF hT hR ha hb fr hb1.1 hj hP.1 (fun q => out 1 (Or.inl ⟨rfl, Or.inl hb1, ?_⟩)) (fun q => out 0 (Or.inr ⟨rfl, fun z => q ?_⟩))
        · rw [fa, fb, fl] at q; exact ⟨q.1, hw, q.2⟩
        · rw [fa, fb, fl]; exact ⟨z.2.1, z.2.2.2⟩
      · rw [R.2.1] at hj ⊢
        refine tb_oa hS hF hT hR hb ha fr hb1.1 hj hP.1 (fun q => ?_) (fun q => ?_)
        · have o := out 1 (Or.inl ⟨rfl, Or.inr hb1, by rw [fa, fb, sg_lt_sy, fl, sg_near_sy] at q; exact ⟨q.1, hw, q.2⟩⟩)
          rw [R.2.1] at o
          exact o
        · have o := out 0 (Or.inr ⟨rfl, fun z => q (by rw [fa, fb, sg_lt_sy, fl, sg_near_sy]; exact ⟨z.2.1, z.2.2.2⟩)⟩)
          rw [R.2.1] at o
          exact o)
