/-! rows, likely -/
set_option maxHeartbeats 400000 in
set_option maxRecDepth 100000 in
theorem sp_tryAll {S : sg_S} {n : Int} {A B T : Int → Int} {h : am_H} {Q : am_P} (hS : sg_ok S) (hP : pl_ok h S) (hs : se_ok S n A B T) (hn : h 79 6 = n) (hm : ∀ i, 0 ≤ i → i < n → h 14 i = A i ∧ h 15 i = B i ∧ h 16 i = T i) (H : ∀ h1, (∀ c, c ≠ 47 → c ≠ 48 → c ≠ 49 → c ≠ 85 → h1 c = h c) → cst (fun k => ftp S n A B T (pO k)) 6859 h1 → Q none h1) : am_Call 0 [.inr (.inr (some 85)), .inr (.inr (some 79))] h Q := by
  have nr := hs.1
  have K : ∀ h1, (∀ c', c' ≠ 47 → h1 c' = h c') → (∀ j, 0 ≤ j → j < 9 → h1 47 j = (Int64.ofInt (-1)).toInt) → am_Ex 0 4 [some (.inr (.inr (some 85))), some (.inr (.inr (some 79))), none, none] [] h1 Q := by
    intro h1 a1 a2
    simp only [eq_self, and_self, am_up_at, Int.cast_ofNat_Int, Int.reduceNatCast, true_or, or_true, or_false, false_or, Classical.not_not, false_and, and_false, am_bk, am_step, am_ldI, am_ldL, am_ldA, am_nth, am_sto, am_stw_0, am_stw_i, am_stw_n, am_stw_a, am_stw_l, am_br, am_cmp, am_tk, am_cat, am_sw, am_copy, am_R, am_nc0, am_nc1, am_f0, am_f1, am_f2, am_f3, Int.reduceNeg, Int.reduceEq, Int.reduceLE, Int.reduceLT, Nat.reduceLeDiff, Nat.reduceAdd, Nat.reduceEqDiff, true_and, and_true, ↓reduceIte, if_false, if_true, forall_const, not_true_eq_false, not_false_eq_true, false_implies, true_implies, implies_true, Int.reduceAdd, Int.reduceMul, Int.reduceSub, ne_eq, bl_0_4]
    refine lp_ta0 hS (pl_ok_mv hP (fun c hc => a1 c (by omega))) hs (by rw [a1 79 (by omega)]; exact hn) (fun i i0 i1 => by rw [a1 14 (by omega), a1 15 (by omega), a1 16 (by omega)]; exact hm i i0 i1) (fun h2 i b1 b2 => ?_) n.toNat 0 h1 (by omega) (by omega) (fun _ _ => rfl) (fun c e c0 c1 e0 e1 => ?_)
    · have W : ∀ h3, (∀ c', c' ≠ 48 → h3 c' = (am_up h2 85 4 0) c') → (∀ j, h3 48 j = if 0 ≤ j ∧ j < 3 then 9 else (am_up h2 85 4 0) 48 j) → am_Ex 0 36 [some (.inr (.inr (some 85))), some (.inr (.inr (some 79))), some (.inl i), none] [] h3 Q := by
        intro h3 c1 c2
        simp only [eq_self, and_self, am_up_at, Int.cast_ofNat_Int, Int.reduceNatCast, true_or, or_true, or_false, false_or, Classical.not_not, false_and, and_false, am_bk, am_step, am_ldI, am_ldL, am_ldA, am_nth, am_sto, am_stw_0, am_stw_i, am_stw_n, am_stw_a, am_stw_l, am_br, am_cmp, am_tk, am_cat, am_sw, am_copy, am_R, am_nc0, am_nc1, am_f0, am_f1, am_f2, am_f3, Int.reduceNeg, Int.reduceEq, Int.reduceLE, Int.reduceLT, Nat.reduceLeDiff, Nat.reduceAdd, Nat.reduceEqDiff, true_and, and_true, ↓reduceIte, if_false, if_true, forall_const, not_true_eq_false, not_false_eq_true, false_implies, true_implies, implies_true, Int.reduceAdd, Int.reduceMul, Int.reduceSub, ne_eq, ca_0_85, bl_0_36, gf_85_0, gf_85_1, ar_47, al_47, gf_85_2, ar_48, al_48, gf_85_3, ar_49, al_49, gf_85_4, pf_85_4]
        refine sp_fill (n := 3) al_49 ar_49 rfl (by omega) (fun h4 d1 d2 => ?_)
        simp only [eq_self, and_self, am_up_at, Int.cast_ofNat_Int, Int.reduceNatCast, true_or, or_true, or_false, false_or, Classical.not_not, false_and, and_false, am_bk, am_step, am_ldI, am_ldL, am_ldA, am_nth, am_sto, am_stw_0, am_stw_i, am_stw_n, am_stw_a, am_stw_l, am_br, am_cmp, am_tk, am_cat, am_sw, am_copy, am_R, am_nc0, am_nc1, am_f0, am_f1, am_f2, am_f3, Int.reduceNeg, Int.reduceEq, Int.reduceLE, Int.reduceLT, Nat.reduceLeDiff, Nat.reduceAdd, Nat.reduceEqDiff, true_and, and_true, ↓reduceIte, if_false, if_true, forall_const, not_true_eq_false, not_false_eq_true, false_implies, true_implies, implies_true, Int.reduceAdd, Int.reduceMul, Int.reduceSub, ne_eq, ca_0_85, bl_0_40, gf_85_0, gf_85_1, ar_47, al_47, gf_85_2, ar_48, al_48, gf_85_3, ar_49, al_49, gf_85_4, pf_85_4]
        have e47 : h4 47 = h2 47 := by rw [d1 47 (by omega), c1 47 (by omega), am_up_ne (by omega)]
        refine lp_ta1 (F := fun k => ftp S n A B T (pO k)) (fun p q s p0 p1 q0 q1 s0 s1 => ?_) (fun h5 f5 I5 => H h5 (fun c x1 x2 x3 x4 => by rw [f5 c x2 x3 x4, d1 c x3, c1 c x2, am_up_ne x4, b1 c x1, a1 c x1]) I5) 19 (-9) h4 (by omega) (by omega) (fun _ _ _ _ => rfl) ⟨?_, fun r r0 r1 => ⟨⟨?_, fun k k0 k1 => by omega, Or.inl ?_⟩, ⟨?_, fun k k0 k1 => by omega, Or.inl ?_⟩⟩⟩
        · have ix := pO_ix (p := p) (q := q) (s := s) ⟨p0, p1⟩ ⟨q0, q1⟩ ⟨s0, s1⟩
          have f := ftp_dI (P := pO (361 * (p + 9) + 19 * (q + 9) + (s + 9))) hS hs (fun r _ _ => pO_r (by omega)) b2
          rw [ix.1, ix.2.1, ix.2.2] at f
          rw [dv_mv e47, dv_mv e47, dv_mv e47]
          exact f
        · show cn _ 0 _
          show h4 85 4 = 0
          rw [d1 85 (by omega), c1 85 (by omega)]
          simp only [eq_self, and_self, am_up_at, am_up_ne, ne_eq, Nat.reduceEqDiff, Int.reduceEq, Int.reduceNeg, not_false_eq_true, false_and, and_false, true_and, and_true, ↓reduceIte, if_false, if_true, Int.reduceAdd, Int.reduceMul, Nat.reduceAdd]
        · rw [d1 48 (by omega), c2 r, if_pos (by omega)]; omega
        · rw [d1 48 (by omega), c2 r, if_pos (by omega)]
        · rw [d2 r, if_pos (by omega)]; omega
        · rw [d2 r, if_pos (by omega)]
      simp only [eq_self, and_self, am_up_at, Int.cast_ofNat_Int, Int.reduceNatCast, true_or, or_true, or_false, false_or, Classical.not_not, false_and, and_false, am_bk, am_step, am_ldI, am_ldL, am_ldA, am_nth, am_sto, am_stw_0, am_stw_i, am_stw_n, am_stw_a, am_stw_l, am_br, am_cmp, am_tk, am_cat, am_sw, am_copy, am_R, am_nc0, am_nc1, am_f0, am_f1, am_f2, am_f3, Int.reduceNeg, Int.reduceEq, Int.reduceLE, Int.reduceLT, Nat.reduceLeDiff, Nat.reduceAdd, Nat.reduceEqDiff, true_and, and_true, ↓reduceIte, if_false, if_true, forall_const, not_true_eq_false, not_false_eq_true, false_implies, true_implies, implies_true, Int.reduceAdd, Int.reduceMul, Int.reduceSub, ne_eq, ca_0_85, bl_0_29, gf_85_0, gf_85_1, ar_47, al_47, gf_85_2, ar_48, al_48, gf_85_3, ar_49, al_49, gf_85_4, pf_85_4]
      (repeat' (first | with_reducible apply And.intro | with_reducible intro _)) <;> first | omega | exact sp_fill (n := 3) al_48 ar_48 rfl (by omega) W
    · unfold dv
      rw [a2 c c0 c1, Int64.ofInt_toInt]
      exact ⟨fun _ j j0 j1 => by omega, fun _ => lb_all (by omega)⟩
  simp only [eq_self, and_self, am_up_at, Int.cast_ofNat_Int, Int.reduceNatCast, true_or, or_true, or_false, false_or, Classical.not_not, false_and, and_false, am_bk, am_step, am_ldI, am_ldL, am_ldA, am_nth, am_sto, am_stw_0, am_stw_i, am_stw_n, am_stw_a, am_stw_l, am_br, am_cmp, am_tk, am_cat, am_sw, am_copy, am_R, am_nc0, am_nc1, am_f0, am_f1, am_f2, am_f3, Int.reduceNeg, Int.reduceEq, Int.reduceLE, Int.reduceLT, Nat.reduceLeDiff, Nat.reduceAdd, Nat.reduceEqDiff, true_and, and_true, ↓reduceIte, if_false, if_true, forall_const, not_true_eq_false, not_false_eq_true, false_implies, true_implies, implies_true, Int.reduceAdd, Int.reduceMul, Int.reduceSub, ne_eq, ca_0_85, bl_0_0, ca_161, bl_161_0, gf_85_0, gf_85_1, ar_47, al_47, gf_85_2, ar_48, al_48, gf_85_3, ar_49, al_49, gf_85_4, pf_85_4]
  exact lp_fillL rfl K 9 0 h (by omega) (by omega) (fun _ _ => rfl) (fun j j1 j2 => by omega)
/-! the reference -/
set_option maxHeartbeats 400000 in
set_option maxRecDepth 100000 in
theorem sp_paceOf {k r : Int} {h : am_H} {Q : am_P} (hk : 0 ≤ k ∧ k < 6859) (hr : 0 ≤ r ∧ r ≤ 2) (H : Q (some (.inl (pO k r))) h) : am_Call 148 [.inl k, .inl r] h Q := by
  have e1 : k.tdiv 361 = k / 361 := Int.tdiv_eq_ediv_of_nonneg hk.1
  have e2 : k.tdiv 19 = k / 19 := Int.tdiv_eq_ediv_of_nonneg hk.1
  have e3 : (k / 19).tmod 19 = k / 19 % 19 := Int.tmod_eq_emod_of_nonneg (by omega)
  have e4 : k.tmod 19 = k % 19 := Int.tmod_eq_emod_of_nonneg hk.1
  simp only [eq_self, and_self, am_up_at, Int.cast_ofNat_Int, Int.reduceNatCast, true_or, or_true, or_false, false_or, Classical.not_not, false_and, and_false, am_bk, am_step, am_ldI, am_ldL, am_ldA, am_nth, am_sto, am_stw_0, am_stw_i, am_stw_n, am_stw_a, am_stw_l, am_br, am_cmp, am_tk, am_cat, am_sw, am_copy, am_R, am_nc0, am_nc1, am_f0, am_f1, am_f2, am_f3, Int.reduceNeg, Int.reduceEq, Int.reduceLE, Int.reduceLT, Nat.reduceLeDiff, Nat.reduceAdd, Nat.reduceEqDiff, true_and, and_true, ↓reduceIte, if_false, if_true, forall_const, not_true_eq_false, not_false_eq_true, false_implies, true_implies, implies_true, Int.reduceAdd, Int.reduceMul, Int.reduceSub, ne_eq, ca_148, bl_148_0, bl_148_6, bl_148_15, bl_148_18, e1, e2, e3, e4]
  (repeat' (first | with_reducible apply And.intro | with_reducible intro _)) <;> first | omega | (refine am_leaf H ?_; unfold pO; (repeat' split) <;> omega)
def fr_l (h h1 : am_H) : Prop := ∀ c, c ≠ 73 → c ≠ 74 → h1 c = h c
set_option maxHeartbeats 400000 in
set_option maxRecDepth 100000 in
theorem lp_fa {S : sg_S} {n k : Int} {A B T : Int → Int} {h : am_H} {Q : am_P} (hm : sg_of h = S) (hS : sg_ok S) (hs : se_ok S n A B T) (hn : h 86 21 = n) (hse : ∀ i, 0 ≤ i → i < n → h 63 i = A i ∧ h 64 i = B i ∧ h 65 i = T i) (hk : 0 ≤ k ∧ k < 6859) (Y : ftp S n A B T (pO k) → Q (some (.inl 1)) h) (N : ¬ ftp S n A B T (pO k) → Q (some (.inl 0)) h) :
    ∀ (m : Nat) (j i : Int), 0 ≤ j → j + m = n → ((i = 1 ∧ ∀ q, 0 ≤ q → q < j → (sg_pl S (A q) - sg_pl S (B q) + (pO k (sg_ri S (A q)) - pO k (sg_ri S (B q))) * T q) % sg_U S = 0) ∨ (i = 0 ∧ ¬ ftp S n A B T (pO k))) → am_Ex 149 4 [some (.inr (.inr (some 86))), some (.inl k), some (.inl i), some (.inl j), none] [] h Q := by
  intro m
  have hU := hS.1
  have hG := hS.2.1
  have nr := hs.1
  have e51 : h 51 = sg_ri S := by rw [← hm]; rfl
  have e53 : h 53 = sg_pl S := by rw [← hm]; rfl
  have e4 : h 86 4 = sg_U S := by rw [← hm]; rfl
  induction m with
  | zero =>
    intro j i j0 j1 I
    have K : Q (some (.inl i)) h := by
      rcases I with ⟨a, b⟩ | ⟨a, b⟩
      · rw [a]; exact Y (fun q q0 q1 => b q q0 (by omega))
      · rw [a]; exact N b
    have ir : i = 0 ∨ i = 1 := by omega
    rw [bl_149_4]
    simp only [eq_self, and_self, am_up_at, Int.cast_ofNat_Int, Int.reduceNatCast, true_or, or_true, or_false, false_or, Classical.not_not, false_and, and_false, am_bk, am_step, am_ldI, am_ldL, am_ldA, am_nth, am_sto, am_stw_0, am_stw_i, am_stw_n, am_stw_a, am_stw_l, am_br, am_cmp, am_tk, am_cat, am_sw, am_copy, am_R, am_nc0, am_nc1, am_f0, am_f1, am_f2, am_f3, Int.reduceNeg, Int.reduceEq, Int.reduceLE, Int.reduceLT, Nat.reduceLeDiff, Nat.reduceAdd, Nat.reduceEqDiff, true_and, and_true, ↓reduceIte, if_false, if_true, forall_const, not_true_eq_false, not_false_eq_true, false_implies, true_implies, implies_true, Int.reduceAdd, Int.reduceMul, Int.reduceSub, ne_eq, ca_149_86, bl_149_62, gf_86_0, pf_86_0, gf_86_1, ar_50, al_50, gf_86_2, pf_86_2, gf_86_3, pf_86_3, gf_86_4, pf_86_4, gf_86_5, pf_86_5, gf_86_6, ar_51, al_51, gf_86_7, ar_52, al_52, gf_86_8, ar_53, al_53, gf_86_9, ar_54, al_54, gf_86_10, ar_55, al_55, gf_86_11, ar_56, al_56, gf_86_12, ar_57, al_57, gf_86_13, pf_86_13, gf_86_14, pf_86_14, gf_86_15, ar_58, al_58, gf_86_16, ar_59, al_59, gf_86_17, ar_60, al_60, gf_86_18, ar_61, al_61, gf_86_19, ar_62, al_62, gf_86_20, pf_86_20, gf_86_21, pf_86_21, gf_86_22, ar_63, al_63, gf_86_23, ar_64, al_64, gf_86_24, ar_65, al_65, gf_86_25, ar_66, al_66, gf_86_26, ar_67, al_67, gf_86_27, ar_68, al_68, gf_86_28, ar_69, al_69, gf_86_29, ar_70, al_70, gf_86_30, ar_71, al_71, gf_86_31, ar_72, al_72, gf_86_32, ar_73, al_73, gf_86_33, ar_74, al_74, gf_86_34, pf_86_34, hn]
    (repeat' (first | with_reducible apply And.intro | with_reducible intro _)) <;> first | omega | exact K
  | succ m ih =>
    intro j i j0 j1 I
    have s := hs.2 j j0 (by omega)
    have e := hse j j0 (by omega)
    have pa := hS.2.2.1 (A j) s.1.1 s.1.2
    have pb := hS.2.2.1 (B j) s.2.1.1 s.2.1.2
    have qa := pO_r (k := k) (r := sg_ri S (A j)) hk
    have qb := pO_r (k := k) (r := sg_ri S (B j)) hk
    have ir : i = 0 ∨ i = 1 := by omega
    have Ka : i = 1 → (sg_pl S (A j) - sg_pl S (B j) + (pO k (sg_ri S (A j)) - pO k (sg_ri S (B j))) * T j) % sg_U S = 0 → am_Ex 149 4 [some (.inr (.inr (some 86))), some (.inl k), some (.inl 1), some (.inl (j + 1)), none] [] h Q := fun z y => ih (j + 1) 1 (by omega) (by omega) (Or.inl ⟨rfl, fun q q0 q1 => by
      by_cases c : q = j
      · rw [c]; exact y
      · rcases I with x | x
        · exact x.2 q q0 (by omega)
        · omega⟩)
    have Kb : i = 0 ∨ ¬ (sg_pl S (A j) - sg_pl S (B j) + (pO k (sg_ri S (A j)) - pO k (sg_ri S (B j))) * T j) % sg_U S = 0 → am_Ex 149 4 [some (.inr (.inr (some 86))), some (.inl k), some (.inl 0), some (.inl (j + 1)), none] [] h Q := fun z => ih (j + 1) 0 (by omega) (by omega) (Or.inr ⟨rfl, fun f => by
      rcases z with z | z
      · rcases I with x | x
        · omega
        · exact x.2 f
      · exact z (f j j0 (by omega))⟩)
    have tm := am_tm (x := sg_pl S (A j) - sg_pl S (B j) + (pO k (sg_ri S (A j)) - pO k (sg_ri S (B j))) * T j) (u := sg_U S) (by omega)
    have tr := am_tmr (x := sg_pl S (A j) - sg_pl S (B j) + (pO k (sg_ri S (A j)) - pO k (sg_ri S (B j))) * T j) (u := sg_U S) (by omega)
    have mb := am_mb2 (a := pO k (sg_ri S (A j)) - pO k (sg_ri S (B j))) (n := T j) (N := 299) (by omega) (by omega)
    have K26 : am_Ex 149 26 [some (.inr (.inr (some 86))), some (.inl k), some (.inl i), some (.inl j), none] [.inl (pO k (sg_ri S (B j))), .inl (pO k (sg_ri S (A j)))] h Q := by
      simp only [eq_self, and_self, am_up_at, Int.cast_ofNat_Int, Int.reduceNatCast, true_or, or_true, or_false, false_or, Classical.not_not, false_and, and_false, am_bk, am_step, am_ldI, am_ldL, am_ldA, am_nth, am_sto, am_stw_0, am_stw_i, am_stw_n, am_stw_a, am_stw_l, am_br, am_cmp, am_tk, am_cat, am_sw, am_copy, am_R, am_nc0, am_nc1, am_f0, am_f1, am_f2, am_f3, Int.reduceNeg, Int.reduceEq, Int.reduceLE, Int.reduceLT, Nat.reduceLeDiff, Nat.reduceAdd, Nat.reduceEqDiff, true_and, and_true, ↓reduceIte, if_false, if_true, forall_const, not_true_eq_false, not_false_eq_true, false_implies, true_implies, implies_true, Int.reduceAdd, Int.reduceMul, Int.reduceSub, ne_eq, ca_149_86, bl_149_26, bl_149_38, bl_149_50, bl_149_58, bl_149_59, gf_86_0, pf_86_0, gf_86_1, ar_50, al_50, gf_86_2, pf_86_2, gf_86_3, pf_86_3, gf_86_4, pf_86_4, gf_86_5, pf_86_5, gf_86_6, ar_51, al_51, gf_86_7, ar_52, al_52, gf_86_8, ar_53, al_53, gf_86_9, ar_54, al_54, gf_86_10, ar_55, al_55, gf_86_11, ar_56, al_56, gf_86_12, ar_57, al_57, gf_86_13, pf_86_13, gf_86_14, pf_86_14, gf_86_15, ar_58, al_58, gf_86_16, ar_59, al_59, gf_86_17, ar_60, al_60, gf_86_18, ar_61, al_61, gf_86_19, ar_62, al_62, gf_86_20, pf_86_20, gf_86_21, pf_86_21, gf_86_22, ar_63, al_63, gf_86_23, ar_64, al_64, gf_86_24, ar_65, al_65, gf_86_25, ar_66, al_66, gf_86_26, ar_67, al_67, gf_86_27, ar_68, al_68, gf_86_28, ar_69, al_69, gf_86_29, ar_70, al_70, gf_86_30, ar_71, al_71, gf_86_31, ar_72, al_72, gf_86_32, ar_73, al_73, gf_86_33, ar_74, al_74, gf_86_34, pf_86_34, e.1, e.2.1, e.2.2, e53, e4]
      generalize (pO k (sg_ri S (A j)) - pO k (sg_ri S (B j))) * T j = w at *
      (repeat' (first | with_reducible apply And.intro | with_reducible intro _)) <;> first | omega | exact am_forget (Ka (by omega) (by omega)) (by simp [am_lq]) | exact am_forget (Kb (by omega)) (by simp [am_lq])
    have K17 : am_Ex 149 17 [some (.inr (.inr (some 86))), some (.inl k), some (.inl i), some (.inl j), none] [.inl (pO k (sg_ri S (A j)))] h Q := by
      simp only [eq_self, and_self, am_up_at, Int.cast_ofNat_Int, Int.reduceNatCast, true_or, or_true, or_false, false_or, Classical.not_not, false_and, and_false, am_bk, am_step, am_ldI, am_ldL, am_ldA, am_nth, am_sto, am_stw_0, am_stw_i, am_stw_n, am_stw_a, am_stw_l, am_br, am_cmp, am_tk, am_cat, am_sw, am_copy, am_R, am_nc0, am_nc1, am_f0, am_f1, am_f2, am_f3, Int.reduceNeg, Int.reduceEq, Int.reduceLE, Int.reduceLT, Nat.reduceLeDiff, Nat.reduceAdd, Nat.reduceEqDiff, true_and, and_true, ↓reduceIte, if_false, if_true, forall_const, not_true_eq_false, not_false_eq_true, false_implies, true_implies, implies_true, Int.reduceAdd, Int.reduceMul, Int.reduceSub, ne_eq, ca_149_86, bl_149_17, gf_86_0, pf_86_0, gf_86_1, ar_50, al_50, gf_86_2, pf_86_2, gf_86_3, pf_86_3, gf_86_4, pf_86_4, gf_86_5, pf_86_5, gf_86_6, ar_51, al_51, gf_86_7, ar_52, al_52, gf_86_8, ar_53, al_53, gf_86_9, ar_54, al_54, gf_86_10, ar_55, al_55, gf_86_11, ar_56, al_56, gf_86_12, ar_57, al_57, gf_86_13, pf_86_13, gf_86_14, pf_86_14, gf_86_15, ar_58, al_58, gf_86_16, ar_59, al_59, gf_86_17, ar_60, al_60, gf_86_18, ar_61, al_61, gf_86_19, ar_62, al_62, gf_86_20, pf_86_20, gf_86_21, pf_86_21, gf_86_22, ar_63, al_63, gf_86_23, ar_64, al_64, gf_86_24, ar_65, al_65, gf_86_25, ar_66, al_66, gf_86_26, ar_67, al_67, gf_86_27, ar_68, al_68, gf_86_28, ar_69, al_69, gf_86_29, ar_70, al_70, gf_86_30, ar_71, al_71, gf_86_31, ar_72, al_72, gf_86_32, ar_73, al_73, gf_86_33, ar_74, al_74, gf_86_34, pf_86_34, e.1, e.2.1, e.2.2, e51]
      (repeat' (first | with_reducible apply And.intro | with_reducible intro _)) <;> first | omega | exact sp_paceOf hk (by omega) K26
    rw [bl_149_4]
    simp only [eq_self, and_self, am_up_at, Int.cast_ofNat_Int, Int.reduceNatCast, true_or, or_true, or_false, false_or, Classical.not_not, false_and, and_false, am_bk, am_step, am_ldI, am_ldL, am_ldA, am_nth, am_sto, am_stw_0, am_stw_i, am_stw_n, am_stw_a, am_stw_l, am_br, am_cmp, am_tk, am_cat, am_sw, am_copy, am_R, am_nc0, am_nc1, am_f0, am_f1, am_f2, am_f3, Int.reduceNeg, Int.reduceEq, Int.reduceLE, Int.reduceLT, Nat.reduceLeDiff, Nat.reduceAdd, Nat.reduceEqDiff, true_and, and_true, ↓reduceIte, if_false, if_true, forall_const, not_true_eq_false, not_false_eq_true, false_implies, true_implies, implies_true, Int.reduceAdd, Int.reduceMul, Int.reduceSub, ne_eq, ca_149_86, bl_149_8, gf_86_0, pf_86_0, gf_86_1, ar_50, al_50, gf_86_2, pf_86_2, gf_86_3, pf_86_3, gf_86_4, pf_86_4, gf_86_5, pf_86_5, gf_86_6, ar_51, al_51, gf_86_7, ar_52, al_52, gf_86_8, ar_53, al_53, gf_86_9, ar_54, al_54, gf_86_10, ar_55, al_55, gf_86_11, ar_56, al_56, gf_86_12, ar_57, al_57, gf_86_13, pf_86_13, gf_86_14, pf_86_14, gf_86_15, ar_58, al_58, gf_86_16, ar_59, al_59, gf_86_17, ar_60, al_60, gf_86_18, ar_61, al_61, gf_86_19, ar_62, al_62, gf_86_20, pf_86_20, gf_86_21, pf_86_21, gf_86_22, ar_63, al_63, gf_86_23, ar_64, al_64, gf_86_24, ar_65, al_65, gf_86_25, ar_66, al_66, gf_86_26, ar_67, al_67, gf_86_27, ar_68, al_68, gf_86_28, ar_69, al_69, gf_86_29, ar_70, al_70, gf_86_30, ar_71, al_71, gf_86_31, ar_72, al_72, gf_86_32, ar_73, al_73, gf_86_33, ar_74, al_74, gf_86_34, pf_86_34, hn, e.1, e.2.1, e.2.2, e51]
    (repeat' (first | with_reducible apply And.intro | with_reducible intro _)) <;> first | omega | exact sp_paceOf hk (by omega) K17
set_option maxHeartbeats 400000 in
set_option maxRecDepth 100000 in
theorem sp_fa {S : sg_S} {n k : Int} {A B T : Int → Int} {h : am_H} {Q : am_P} (hm : sg_of h = S) (hS : sg_ok S) (hs : se_ok S n A B T) (hn : h 86 21 = n) (hse : ∀ i, 0 ≤ i → i < n → h 63 i = A i ∧ h 64 i = B i ∧ h 65 i = T i) (hk : 0 ≤ k ∧ k < 6859) (Y : ftp S n A B T (pO k) → Q (some (.inl 1)) h) (N : ¬ ftp S n A B T (pO k) → Q (some (.inl 0)) h) : am_Call 149 [.inr (.inr (some 86)), .inl k] h Q := by
  have nr := hs.1
  simp only [eq_self, and_self, am_up_at, Int.cast_ofNat_Int, Int.reduceNatCast, true_or, or_true, or_false, false_or, Classical.not_not, false_and, and_false, am_bk, am_step, am_ldI, am_ldL, am_ldA, am_nth, am_sto, am_stw_0, am_stw_i, am_stw_n, am_stw_a, am_stw_l, am_br, am_cmp, am_tk, am_cat, am_sw, am_copy, am_R, am_nc0, am_nc1, am_f0, am_f1, am_f2, am_f3, Int.reduceNeg, Int.reduceEq, Int.reduceLE, Int.reduceLT, Nat.reduceLeDiff, Nat.reduceAdd, Nat.reduceEqDiff, true_and, and_true, ↓reduceIte, if_false, if_true, forall_const, not_true_eq_false, not_false_eq_true, false_implies, true_implies, implies_true, Int.reduceAdd, Int.reduceMul, Int.reduceSub, ne_eq, ca_149_86, bl_149_0, gf_86_0, pf_86_0, gf_86_1, ar_50, al_50, gf_86_2, pf_86_2, gf_86_3, pf_86_3, gf_86_4, pf_86_4, gf_86_5, pf_86_5, gf_86_6, ar_51, al_51, gf_86_7, ar_52, al_52, gf_86_8, ar_53, al_53, gf_86_9, ar_54, al_54, gf_86_10, ar_55, al_55, gf_86_11, ar_56, al_56, gf_86_12, ar_57, al_57, gf_86_13, pf_86_13, gf_86_14, pf_86_14, gf_86_15, ar_58, al_58, gf_86_16, ar_59, al_59, gf_86_17, ar_60, al_60, gf_86_18, ar_61, al_61, gf_86_19, ar_62, al_62, gf_86_20, pf_86_20, gf_86_21, pf_86_21, gf_86_22, ar_63, al_63, gf_86_23, ar_64, al_64, gf_86_24, ar_65, al_65, gf_86_25, ar_66, al_66, gf_86_26, ar_67, al_67, gf_86_27, ar_68, al_68, gf_86_28, ar_69, al_69, gf_86_29, ar_70, al_70, gf_86_30, ar_71, al_71, gf_86_31, ar_72, al_72, gf_86_32, ar_73, al_73, gf_86_33, ar_74, al_74, gf_86_34, pf_86_34]
  exact lp_fa hm hS hs hn hse hk Y N n.toNat 0 1 (by omega) (by omega) (Or.inl ⟨rfl, fun q q0 q1 => by omega⟩)
def mst (F : Int → Prop) (i r : Int) (h : am_H) : Prop := ∀ q, 0 ≤ q → q ≤ 2 → (q < r → lo F (i + 1) 10 q (h 73 q) ∧ hi' F (i + 1) (-10) q (h 74 q)) ∧ (¬ q < r → lo F i 10 q (h 73 q) ∧ hi' F i (-10) q (h 74 q))
set_option maxHeartbeats 400000 in
set_option maxRecDepth 100000 in
theorem lp_lr1 {F : Int → Prop} {n i : Int} {h0 : am_H} {Q : am_P} (hi : 0 ≤ i ∧ i < 6859) (hF : F i) (H : ∀ h1, fr_l h0 h1 → mst F i 3 h1 → am_Ex 150 72 [some (.inr (.inr (some 86))), some (.inl n), some (.inl i), some (.inl 3), none] [] h1 Q) :
    ∀ (m : Nat) (r : Int) (h : am_H), 0 ≤ r → r + m = 3 → fr_l h0 h → mst F i r h → am_Ex 150 31 [some (.inr (.inr (some 86))), some (.inl n), some (.inl i), some (.inl r), none] [] h Q := by
  intro m
  induction m with
  | zero =>
    intro r h r0 r1 hf I
    have er : r = 3 := by omega
    subst er
    have K := H h hf I
    rw [bl_150_31]
    simp only [eq_self, and_self, am_up_at, Int.cast_ofNat_Int, Int.reduceNatCast, true_or, or_true, or_false, false_or, Classical.not_not, false_and, and_false, am_bk, am_step, am_ldI, am_ldL, am_ldA, am_nth, am_sto, am_stw_0, am_stw_i, am_stw_n, am_stw_a, am_stw_l, am_br, am_cmp, am_tk, am_cat, am_sw, am_copy, am_R, am_nc0, am_nc1, am_f0, am_f1, am_f2, am_f3, Int.reduceNeg, Int.reduceEq, Int.reduceLE, Int.reduceLT, Nat.reduceLeDiff, Nat.reduceAdd, Nat.reduceEqDiff, true_and, and_true, ↓reduceIte, if_false, if_true, forall_const, not_true_eq_false, not_false_eq_true, false_implies, true_implies, implies_true, Int.reduceAdd, Int.reduceMul, Int.reduceSub, ne_eq, gf_86_0, pf_86_0, gf_86_1, ar_50, al_50, gf_86_2, pf_86_2, gf_86_3, pf_86_3, gf_86_4, pf_86_4, gf_86_5, pf_86_5, gf_86_6, ar_51, al_51, gf_86_7, ar_52, al_52, gf_86_8, ar_53, al_53, gf_86_9, ar_54, al_54, gf_86_10, ar_55, al_55, gf_86_11, ar_56, al_56, gf_86_12, ar_57, al_57, gf_86_13, pf_86_13, gf_86_14, pf_86_14, gf_86_15, ar_58, al_58, gf_86_16, ar_59, al_59, gf_86_17, ar_60, al_60, gf_86_18, ar_61, al_61, gf_86_19, ar_62, al_62, gf_86_20, pf_86_20, gf_86_21, pf_86_21, gf_86_22, ar_63, al_63, gf_86_23, ar_64, al_64, gf_86_24, ar_65, al_65, gf_86_25, ar_66, al_66, gf_86_26, ar_67, al_67, gf_86_27, ar_68, al_68, gf_86_28, ar_69, al_69, gf_86_29, ar_70, al_70, gf_86_30, ar_71, al_71, gf_86_31, ar_72, al_72, gf_86_32, ar_73, al_73, gf_86_33, ar_74, al_74, gf_86_34, pf_86_34]
    (repeat' (first | with_reducible apply And.intro | with_reducible intro _)) <;> first | omega | exact K
  | succ m ih =>
    intro r h r0 r1 hf I
    have pr := pO_r (r := r) hi
    have l := (I r r0 (by omega)).2 (by omega)
    have lr := l.1.1
    have hr := l.2.1
    have go : ∀ v w, v = (if pO i r < h 73 r then pO i r else h 73 r) → w = (if h 74 r < pO i r then pO i r else h 74 r) → am_Ex 150 31 [some (.inr (.inr (some 86))), some (.inl n), some (.inl i), some (.inl (r + 1)), none] [] (am_up (am_up h 73 r v) 74 r w) Q := by
      intro v w hv hw
      refine ih (r + 1) _ (by omega) (by omega) (fun c c1 c2 => by rw [am_up_ne c2, am_up_ne c1, hf c c1 c2]) (fun q q0 q1 => ?_)
      have e73 : (am_up (am_up h 73 r v) 74 r w) 73 q = if q = r then v else h 73 q := by
        rw [am_up_ne (by omega), am_up_at]; simp only [true_and]
      have e74 : (am_up (am_up h 73 r v) 74 r w) 74 q = if q = r then w else h 74 q := by
        rw [am_up_at]; simp only [true_and]; rw [am_up_ne (by omega)]
      rw [e73, e74]
      by_cases c : q = r
      · rw [if_pos c, if_pos c, hv, hw, c]
        exact ⟨fun _ => ⟨(lo_s hi l.1).1 hF, (hi_s hi l.2).1 hF⟩, fun z => by omega⟩
      · rw [if_neg c, if_neg c]
        exact ⟨fun z => (I q q0 q1).1 (by omega), fun z => (I q q0 q1).2 (by omega)⟩
    have K : am_Ex 150 37 [some (.inr (.inr (some 86))), some (.inl n), some (.inl i), some (.inl r), none] [.inl (pO i r)] h Q := by
      generalize pO i r = p at *
      by_cases c1 : p < h 73 r
      · by_cases c2 : h 74 r < p
        · have K := go p p (by rw [if_pos c1]) (by rw [if_pos c2])
          simp only [eq_self, and_self, am_up_at, Int.cast_ofNat_Int, Int.reduceNatCast, true_or, or_true, or_false, false_or, Classical.not_not, false_and, and_false, am_bk, am_step, am_ldI, am_ldL, am_ldA, am_nth, am_sto, am_stw_0, am_stw_i, am_stw_n, am_stw_a, am_stw_l, am_br, am_cmp, am_tk, am_cat, am_sw, am_copy, am_R, am_nc0, am_nc1, am_f0, am_f1, am_f2, am_f3, Int.reduceNeg, Int.reduceEq, Int.reduceLE, Int.reduceLT, Nat.reduceLeDiff, Nat.reduceAdd, Nat.reduceEqDiff, true_and, and_true, ↓reduceIte, if_false, if_true, forall_const, not_true_eq_false, not_false_eq_true, false_implies, true_implies, implies_true, Int.reduceAdd, Int.reduceMul, Int.reduceSub, ne_eq, ca_150_86, bl_150_37, bl_150_49, bl_150_53, bl_150_65, bl_150_69, gf_86_0, pf_86_0, gf_86_1, ar_50, al_50, gf_86_2, pf_86_2, gf_86_3, pf_86_3, gf_86_4, pf_86_4, gf_86_5, pf_86_5, gf_86_6, ar_51, al_51, gf_86_7, ar_52, al_52, gf_86_8, ar_53, al_53, gf_86_9, ar_54, al_54, gf_86_10, ar_55, al_55, gf_86_11, ar_56, al_56, gf_86_12, ar_57, al_57, gf_86_13, pf_86_13, gf_86_14, pf_86_14, gf_86_15, ar_58, al_58, gf_86_16, ar_59, al_59, gf_86_17, ar_60, al_60, gf_86_18, ar_61, al_61, gf_86_19, ar_62, al_62, gf_86_20, pf_86_20, gf_86_21, pf_86_21, gf_86_22, ar_63, al_63, gf_86_23, ar_64, al_64, gf_86_24, ar_65, al_65, gf_86_25, ar_66, al_66, gf_86_26, ar_67, al_67, gf_86_27, ar_68, al_68, gf_86_28, ar_69, al_69, gf_86_29, ar_70, al_70, gf_86_30, ar_71, al_71, gf_86_31, ar_72, al_72, gf_86_32, ar_73, al_73, gf_86_33, ar_74, al_74, gf_86_34, pf_86_34]
          (repeat' (first | with_reducible apply And.intro | with_reducible intro _)) <;> first | omega | exact am_forget K (by simp [am_lq])
        · have K := go p (h 74 r) (by rw [if_pos c1]) (by rw [if_neg c2])
          simp only [eq_self, and_self, am_up_at, Int.cast_ofNat_Int, Int.reduceNatCast, true_or, or_true, or_false, false_or, Classical.not_not, false_and, and_false, am_bk, am_step, am_ldI, am_ldL, am_ldA, am_nth, am_sto, am_stw_0, am_stw_i, am_stw_n, am_stw_a, am_stw_l, am_br, am_cmp, am_tk, am_cat, am_sw, am_copy, am_R, am_nc0, am_nc1, am_f0, am_f1, am_f2, am_f3, Int.reduceNeg, Int.reduceEq, Int.reduceLE, Int.reduceLT, Nat.reduceLeDiff, Nat.reduceAdd, Nat.reduceEqDiff, true_and, and_true, ↓reduceIte, if_false, if_true, forall_const, not_true_eq_false, not_false_eq_true, false_implies, true_implies, implies_true, Int.reduceAdd, Int.reduceMul, Int.reduceSub, ne_eq, ca_150_86, bl_150_37, bl_150_49, bl_150_53, bl_150_65, bl_150_69, gf_86_0, pf_86_0, gf_86_1, ar_50, al_50, gf_86_2, pf_86_2, gf_86_3, pf_86_3, gf_86_4, pf_86_4, gf_86_5, pf_86_5, gf_86_6, ar_51, al_51, gf_86_7, ar_52, al_52, gf_86_8, ar_53, al_53, gf_86_9, ar_54, al_54, gf_86_10, ar_55, al_55, gf_86_11, ar_56, al_56, gf_86_12, ar_57, al_57, gf_86_13, pf_86_13, gf_86_14, pf_86_14, gf_86_15, ar_58, al_58, gf_86_16, ar_59, al_59, gf_86_17, ar_60, al_60, gf_86_18, ar_61, al_61, gf_86_19, ar_62, al_62, gf_86_20, pf_86_20, gf_86_21, pf_86_21, gf_86_22, ar_63, al_63, gf_86_23, ar_64, al_64, gf_86_24, ar_65, al_65, gf_86_25, ar_66, al_66, gf_86_26, ar_67, al_67, gf_86_27, ar_68, al_68, gf_86_28, ar_69, al_69, gf_86_29, ar_70, al_70, gf_86_30, ar_71, al_71, gf_86_31, ar_72, al_72, gf_86_32, ar_73, al_73, gf_86_33, ar_74, al_74, gf_86_34, pf_86_34]
          (repeat' (first | with_reducible apply And.intro | with_reducible intro _)) <;> first | omega | exact am_forget K (by simp [am_lq])
      · by_cases c2 : h 74 r < p
        · have K := go (h 73 r) p (by rw [if_neg c1]) (by rw [if_pos c2])
          simp only [eq_self, and_self, am_up_at, Int.cast_ofNat_Int, Int.reduceNatCast, true_or, or_true, or_false, false_or, Classical.not_not, false_and, and_false, am_bk, am_step, am_ldI, am_ldL, am_ldA, am_nth, am_sto, am_stw_0, am_stw_i, am_stw_n, am_stw_a, am_stw_l, am_br, am_cmp, am_tk, am_cat, am_sw, am_copy, am_R, am_nc0, am_nc1, am_f0, am_f1, am_f2, am_f3, Int.reduceNeg, Int.reduceEq, Int.reduceLE, Int.reduceLT, Nat.reduceLeDiff, Nat.reduceAdd, Nat.reduceEqDiff, true_and, and_true, ↓reduceIte, if_false, if_true, forall_const, not_true_eq_false, not_false_eq_true, false_implies, true_implies, implies_true, Int.reduceAdd, Int.reduceMul, Int.reduceSub, ne_eq, ca_150_86, bl_150_37, bl_150_49, bl_150_53, bl_150_65, bl_150_69, gf_86_0, pf_86_0, gf_86_1, ar_50, al_50, gf_86_2, pf_86_2, gf_86_3, pf_86_3, gf_86_4, pf_86_4, gf_86_5, pf_86_5, gf_86_6, ar_51, al_51, gf_86_7, ar_52, al_52, gf_86_8, ar_53, al_53, gf_86_9, ar_54, al_54, gf_86_10, ar_55, al_55, gf_86_11, ar_56, al_56, gf_86_12, ar_57, al_57, gf_86_13, pf_86_13, gf_86_14, pf_86_14, gf_86_15, ar_58, al_58, gf_86_16, ar_59, al_59, gf_86_17, ar_60, al_60, gf_86_18, ar_61, al_61, gf_86_19, ar_62, al_62, gf_86_20, pf_86_20, gf_86_21, pf_86_21, gf_86_22, ar_63, al_63, gf_86_23, ar_64, al_64, gf_86_24, ar_65, al_65, gf_86_25, ar_66, al_66, gf_86_26, ar_67, al_67, gf_86_27, ar_68, al_68, gf_86_28, ar_69, al_69, gf_86_29, ar_70, al_70, gf_86_30, ar_71, al_71, gf_86_31, ar_72, al_72, gf_86_32, ar_73, al_73, gf_86_33, ar_74, al_74, gf_86_34, pf_86_34]
          (repeat' (first | with_reducible apply And.intro | with_reducible intro _)) <;> first | omega | exact am_forget K (by simp [am_lq])
        · have K := go (h 73 r) (h 74 r) (by rw [if_neg c1]) (by rw [if_neg c2])
          simp only [eq_self, and_self, am_up_at, Int.cast_ofNat_Int, Int.reduceNatCast, true_or, or_true, or_false, false_or, Classical.not_not, false_and, and_false, am_bk, am_step, am_ldI, am_ldL, am_ldA, am_nth, am_sto, am_stw_0, am_stw_i, am_stw_n, am_stw_a, am_stw_l, am_br, am_cmp, am_tk, am_cat, am_sw, am_copy, am_R, am_nc0, am_nc1, am_f0, am_f1, am_f2, am_f3, Int.reduceNeg, Int.reduceEq, Int.reduceLE, Int.reduceLT, Nat.reduceLeDiff, Nat.reduceAdd, Nat.reduceEqDiff, true_and, and_true, ↓reduceIte, if_false, if_true, forall_const, not_true_eq_false, not_false_eq_true, false_implies, true_implies, implies_true, Int.reduceAdd, Int.reduceMul, Int.reduceSub, ne_eq, ca_150_86, bl_150_37, bl_150_49, bl_150_53, bl_150_65, bl_150_69, gf_86_0, pf_86_0, gf_86_1, ar_50, al_50, gf_86_2, pf_86_2, gf_86_3, pf_86_3, gf_86_4, pf_86_4, gf_86_5, pf_86_5, gf_86_6, ar_51, al_51, gf_86_7, ar_52, al_52, gf_86_8, ar_53, al_53, gf_86_9, ar_54, al_54, gf_86_10, ar_55, al_55, gf_86_11, ar_56, al_56, gf_86_12, ar_57, al_57, gf_86_13, pf_86_13, gf_86_14, pf_86_14, gf_86_15, ar_58, al_58, gf_86_16, ar_59, al_59, gf_86_17, ar_60, al_60, gf_86_18, ar_61, al_61, gf_86_19, ar_62, al_62, gf_86_20, pf_86_20, gf_86_21, pf_86_21, gf_86_22, ar_63, al_63, gf_86_23, ar_64, al_64, gf_86_24, ar_65, al_65, gf_86_25, ar_66, al_66, gf_86_26, ar_67, al_67, gf_86_27, ar_68, al_68, gf_86_28, ar_69, al_69, gf_86_29, ar_70, al_70, gf_86_30, ar_71, al_71, gf_86_31, ar_72, al_72, gf_86_32, ar_73, al_73, gf_86_33, ar_74, al_74, gf_86_34, pf_86_34]
          (repeat' (first | with_reducible apply And.intro | with_reducible intro _)) <;> first | omega | exact am_forget K (by simp [am_lq])
    rw [bl_150_31]
    simp only [eq_self, and_self, am_up_at, Int.cast_ofNat_Int, Int.reduceNatCast, true_or, or_true, or_false, false_or, Classical.not_not, false_and, and_false, am_bk, am_step, am_ldI, am_ldL, am_ldA, am_nth, am_sto, am_stw_0, am_stw_i, am_stw_n, am_stw_a, am_stw_l, am_br, am_cmp, am_tk, am_cat, am_sw, am_copy, am_R, am_nc0, am_nc1, am_f0, am_f1, am_f2, am_f3, Int.reduceNeg, Int.reduceEq, Int.reduceLE, Int.reduceLT, Nat.reduceLeDiff, Nat.reduceAdd, Nat.reduceEqDiff, true_and, and_true, ↓reduceIte, if_false, if_true, forall_const, not_true_eq_false, not_false_eq_true, false_implies, true_implies, implies_true, Int.reduceAdd, Int.reduceMul, Int.reduceSub, ne_eq, ca_150_86, bl_150_34, gf_86_0, pf_86_0, gf_86_1, ar_50, al_50, gf_86_2, pf_86_2, gf_86_3, pf_86_3, gf_86_4, pf_86_4, gf_86_5, pf_86_5, gf_86_6, ar_51, al_51, gf_86_7, ar_52, al_52, gf_86_8, ar_53, al_53, gf_86_9, ar_54, al_54, gf_86_10, ar_55, al_55, gf_86_11, ar_56, al_56, gf_86_12, ar_57, al_57, gf_86_13, pf_86_13, gf_86_14, pf_86_14, gf_86_15, ar_58, al_58, gf_86_16, ar_59, al_59, gf_86_17, ar_60, al_60, gf_86_18, ar_61, al_61, gf_86_19, ar_62, al_62, gf_86_20, pf_86_20, gf_86_21, pf_86_21, gf_86_22, ar_63, al_63, gf_86_23, ar_64, al_64, gf_86_24, ar_65, al_65, gf_86_25, ar_66, al_66, gf_86_26, ar_67, al_67, gf_86_27, ar_68, al_68, gf_86_28, ar_69, al_69, gf_86_29, ar_70, al_70, gf_86_30, ar_71, al_71, gf_86_31, ar_72, al_72, gf_86_32, ar_73, al_73, gf_86_33, ar_74, al_74, gf_86_34, pf_86_34]
    (repeat' (first | with_reducible apply And.intro | with_reducible intro _)) <;> first | omega | exact sp_paceOf hi (by omega) K
theorem fl_sg {h h1 : am_H} (f : fr_l h h1) : mx h h1 := ⟨fun c hc => f c (by omega) (by omega), fun i hi => by rw [f 86 (by omega) (by omega)]⟩
set_option maxHeartbeats 400000 in
set_option maxRecDepth 100000 in
theorem lp_lr2 {S : sg_S} {N : Int} {A B T : Int → Int} {h0 : am_H} {Q : am_P} (hm : sg_of h0 = S) (hS : sg_ok S) (hs : se_ok S N A B T) (hn : h0 86 21 = N) (hse : ∀ i, 0 ≤ i → i < N → h0 63 i = A i ∧ h0 64 i = B i ∧ h0 65 i = T i) (H : ∀ h1 n, fr_l h0 h1 → cn (fun k => ftp S N A B T (pO k)) 6859 n → mst (fun k => ftp S N A B T (pO k)) 6859 0 h1 → Q (some (.inl n)) h1) :
    ∀ (m : Nat) (i n : Int) (h : am_H), 0 ≤ i → i + m = 6859 → fr_l h0 h → cn (fun k => ftp S N A B T (pO k)) i.toNat n → mst (fun k => ftp S N A B T (pO k)) i 0 h → am_Ex 150 21 [some (.inr (.inr (some 86))), some (.inl n), some (.inl i), none, none] [] h Q := by
  intro m
  induction m with
  | zero =>
    intro i n h i0 i1 hf C I
    have ei : i = 6859 := by omega
    subst ei
    have cr := cn_r _ _ C
    have K := H h n hf C I
    rw [bl_150_21]
    simp only [eq_self, and_self, am_up_at, Int.cast_ofNat_Int, Int.reduceNatCast, true_or, or_true, or_false, false_or, Classical.not_not, false_and, and_false, am_bk, am_step, am_ldI, am_ldL, am_ldA, am_nth, am_sto, am_stw_0, am_stw_i, am_stw_n, am_stw_a, am_stw_l, am_br, am_cmp, am_tk, am_cat, am_sw, am_copy, am_R, am_nc0, am_nc1, am_f0, am_f1, am_f2, am_f3, Int.reduceNeg, Int.reduceEq, Int.reduceLE, Int.reduceLT, Nat.reduceLeDiff, Nat.reduceAdd, Nat.reduceEqDiff, true_and, and_true, ↓reduceIte, if_false, if_true, forall_const, not_true_eq_false, not_false_eq_true, false_implies, true_implies, implies_true, Int.reduceAdd, Int.reduceMul, Int.reduceSub, ne_eq, ca_150_86, bl_150_74, gf_86_0, pf_86_0, gf_86_1, ar_50, al_50, gf_86_2, pf_86_2, gf_86_3, pf_86_3, gf_86_4, pf_86_4, gf_86_5, pf_86_5, gf_86_6, ar_51, al_51, gf_86_7, ar_52, al_52, gf_86_8, ar_53, al_53, gf_86_9, ar_54, al_54, gf_86_10, ar_55, al_55, gf_86_11, ar_56, al_56, gf_86_12, ar_57, al_57, gf_86_13, pf_86_13, gf_86_14, pf_86_14, gf_86_15, ar_58, al_58, gf_86_16, ar_59, al_59, gf_86_17, ar_60, al_60, gf_86_18, ar_61, al_61, gf_86_19, ar_62, al_62, gf_86_20, pf_86_20, gf_86_21, pf_86_21, gf_86_22, ar_63, al_63, gf_86_23, ar_64, al_64, gf_86_24, ar_65, al_65, gf_86_25, ar_66, al_66, gf_86_26, ar_67, al_67, gf_86_27, ar_68, al_68, gf_86_28, ar_69, al_69, gf_86_29, ar_70, al_70, gf_86_30, ar_71, al_71, gf_86_31, ar_72, al_72, gf_86_32, ar_73, al_73, gf_86_33, ar_74, al_74, gf_86_34, pf_86_34]
    (repeat' (first | with_reducible apply And.intro | with_reducible intro _)) <;> first | omega | exact K
  | succ m ih =>
    intro i n h i0 i1 hf C I
    have cr := cn_r _ _ C
    have cs := cn_s i0 C
    have ir : 0 ≤ i ∧ i < 6859 := by omega
    have Kn : ¬ ftp S N A B T (pO i) → am_Ex 150 27 [some (.inr (.inr (some 86))), some (.inl n), some (.inl i), none, none] [.inl 0] h Q := by
      intro z
      have K := ih (i + 1) n h (by omega) (by omega) hf (cs.2 z) (fun q q0 q1 => ⟨fun y => by omega, fun _ => by
        have := (I q q0 q1).2 (by omega)
        exact ⟨(lo_s ir this.1).2 z, (hi_s ir this.2).2 z⟩⟩)
      simp only [eq_self, and_self, am_up_at, Int.cast_ofNat_Int, Int.reduceNatCast, true_or, or_true, or_false, false_or, Classical.not_not, false_and, and_false, am_bk, am_step, am_ldI, am_ldL, am_ldA, am_nth, am_sto, am_stw_0, am_stw_i, am_stw_n, am_stw_a, am_stw_l, am_br, am_cmp, am_tk, am_cat, am_sw, am_copy, am_R, am_nc0, am_nc1, am_f0, am_f1, am_f2, am_f3, Int.reduceNeg, Int.reduceEq, Int.reduceLE, Int.reduceLT, Nat.reduceLeDiff, Nat.reduceAdd, Nat.reduceEqDiff, true_and, and_true, ↓reduceIte, if_false, if_true, forall_const, not_true_eq_false, not_false_eq_true, false_implies, true_implies, implies_true, Int.reduceAdd, Int.reduceMul, Int.reduceSub, ne_eq, ca_150_86, bl_150_27, bl_150_72, gf_86_0, pf_86_0, gf_86_1, ar_50, al_50, gf_86_2, pf_86_2, gf_86_3, pf_86_3, gf_86_4, pf_86_4, gf_86_5, pf_86_5, gf_86_6, ar_51, al_51, gf_86_7, ar_52, al_52, gf_86_8, ar_53, al_53, gf_86_9, ar_54, al_54, gf_86_10, ar_55, al_55, gf_86_11, ar_56, al_56, gf_86_12, ar_57, al_57, gf_86_13, pf_86_13, gf_86_14, pf_86_14, gf_86_15, ar_58, al_58, gf_86_16, ar_59, al_59, gf_86_17, ar_60, al_60, gf_86_18, ar_61, al_61, gf_86_19, ar_62, al_62, gf_86_20, pf_86_20, gf_86_21, pf_86_21, gf_86_22, ar_63, al_63, gf_86_23, ar_64, al_64, gf_86_24, ar_65, al_65, gf_86_25, ar_66, al_66, gf_86_26, ar_67, al_67, gf_86_27, ar_68, al_68, gf_86_28, ar_69, al_69, gf_86_29, ar_70, al_70, gf_86_30, ar_71, al_71, gf_86_31, ar_72, al_72, gf_86_32, ar_73, al_73, gf_86_33, ar_74, al_74, gf_86_34, pf_86_34]
      (repeat' (first | with_reducible apply And.intro | with_reducible intro _)) <;> first | omega | exact K
    have Ky : ftp S N A B T (pO i) → am_Ex 150 27 [some (.inr (.inr (some 86))), some (.inl n), some (.inl i), none, none] [.inl 1] h Q := by
      intro z
      have K := lp_lr1 (F := fun k => ftp S N A B T (pO k)) (n := n + 1) (h0 := h) (Q := Q) ir z (fun h1 f1 I1 => by
        have K := ih (i + 1) (n + 1) h1 (by omega) (by omega) (fun c a b => (f1 c a b).trans (hf c a b)) (cs.1 z) (fun q q0 q1 => ⟨fun y => by omega, fun _ => (I1 q q0 q1).1 (by omega)⟩)
        simp only [eq_self, and_self, am_up_at, Int.cast_ofNat_Int, Int.reduceNatCast, true_or, or_true, or_false, false_or, Classical.not_not, false_and, and_false, am_bk, am_step, am_ldI, am_ldL, am_ldA, am_nth, am_sto, am_stw_0, am_stw_i, am_stw_n, am_stw_a, am_stw_l, am_br, am_cmp, am_tk, am_cat, am_sw, am_copy, am_R, am_nc0, am_nc1, am_f0, am_f1, am_f2, am_f3, Int.reduceNeg, Int.reduceEq, Int.reduceLE, Int.reduceLT, Nat.reduceLeDiff, Nat.reduceAdd, Nat.reduceEqDiff, true_and, and_true, ↓reduceIte, if_false, if_true, forall_const, not_true_eq_false, not_false_eq_true, false_implies, true_implies, implies_true, Int.reduceAdd, Int.reduceMul, Int.reduceSub, ne_eq, ca_150_86, bl_150_72, gf_86_0, pf_86_0, gf_86_1, ar_50, al_50, gf_86_2, pf_86_2, gf_86_3, pf_86_3, gf_86_4, pf_86_4, gf_86_5, pf_86_5, gf_86_6, ar_51, al_51, gf_86_7, ar_52, al_52, gf_86_8, ar_53, al_53, gf_86_9, ar_54, al_54, gf_86_10, ar_55, al_55, gf_86_11, ar_56, al_56, gf_86_12, ar_57, al_57, gf_86_13, pf_86_13, gf_86_14, pf_86_14, gf_86_15, ar_58, al_58, gf_86_16, ar_59, al_59, gf_86_17, ar_60, al_60, gf_86_18, ar_61, al_61, gf_86_19, ar_62, al_62, gf_86_20, pf_86_20, gf_86_21, pf_86_21, gf_86_22, ar_63, al_63, gf_86_23, ar_64, al_64, gf_86_24, ar_65, al_65, gf_86_25, ar_66, al_66, gf_86_26, ar_67, al_67, gf_86_27, ar_68, al_68, gf_86_28, ar_69, al_69, gf_86_29, ar_70, al_70, gf_86_30, ar_71, al_71, gf_86_31, ar_72, al_72, gf_86_32, ar_73, al_73, gf_86_33, ar_74, al_74, gf_86_34, pf_86_34]
        (repeat' (first | with_reducible apply And.intro | with_reducible intro _)) <;> first | omega | exact am_forget K (by simp [am_lq])) 3 0 h (by omega) (by omega) (fun _ _ _ => rfl) I
      simp only [eq_self, and_self, am_up_at, Int.cast_ofNat_Int, Int.reduceNatCast, true_or, or_true, or_false, false_or, Classical.not_not, false_and, and_false, am_bk, am_step, am_ldI, am_ldL, am_ldA, am_nth, am_sto, am_stw_0, am_stw_i, am_stw_n, am_stw_a, am_stw_l, am_br, am_cmp, am_tk, am_cat, am_sw, am_copy, am_R, am_nc0, am_nc1, am_f0, am_f1, am_f2, am_f3, Int.reduceNeg, Int.reduceEq, Int.reduceLE, Int.reduceLT, Nat.reduceLeDiff, Nat.reduceAdd, Nat.reduceEqDiff, true_and, and_true, ↓reduceIte, if_false, if_true, forall_const, not_true_eq_false, not_false_eq_true, false_implies, true_implies, implies_true, Int.reduceAdd, Int.reduceMul, Int.reduceSub, ne_eq, ca_150_86, bl_150_27, gf_86_0, pf_86_0, gf_86_1, ar_50, al_50, gf_86_2, pf_86_2, gf_86_3, pf_86_3, gf_86_4, pf_86_4, gf_86_5, pf_86_5, gf_86_6, ar_51, al_51, gf_86_7, ar_52, al_52, gf_86_8, ar_53, al_53, gf_86_9, ar_54, al_54, gf_86_10, ar_55, al_55, gf_86_11, ar_56, al_56, gf_86_12, ar_57, al_57, gf_86_13, pf_86_13, gf_86_14, pf_86_14, gf_86_15, ar_58, al_58, gf_86_16, ar_59, al_59, gf_86_17, ar_60, al_60, gf_86_18, ar_61, al_61, gf_86_19, ar_62, al_62, gf_86_20, pf_86_20, gf_86_21, pf_86_21, gf_86_22, ar_63, al_63, gf_86_23, ar_64, al_64, gf_86_24, ar_65, al_65, gf_86_25, ar_66, al_66, gf_86_26, ar_67, al_67, gf_86_27, ar_68, al_68, gf_86_28, ar_69, al_69, gf_86_29, ar_70, al_70, gf_86_30, ar_71, al_71, gf_86_31, ar_72, al_72, gf_86_32, ar_73, al_73, gf_86_33, ar_74, al_74, gf_86_34, pf_86_34]
      (repeat' (first | with_reducible apply And.intro | with_reducible intro _)) <;> first | omega | exact K
    rw [bl_150_21]
    simp only [eq_self, and_self, am_up_at, Int.cast_ofNat_Int, Int.reduceNatCast, true_or, or_true, or_false, false_or, Classical.not_not, false_and, and_false, am_bk, am_step, am_ldI, am_ldL, am_ldA, am_nth, am_sto, am_stw_0, am_stw_i, am_stw_n, am_stw_a, am_stw_l, am_br, am_cmp, am_tk, am_cat, am_sw, am_copy, am_R, am_nc0, am_nc1, am_f0, am_f1, am_f2, am_f3, Int.reduceNeg, Int.reduceEq, Int.reduceLE, Int.reduceLT, Nat.reduceLeDiff, Nat.reduceAdd, Nat.reduceEqDiff, true_and, and_true, ↓reduceIte, if_false, if_true, forall_const, not_true_eq_false, not_false_eq_true, false_implies, true_implies, implies_true, Int.reduceAdd, Int.reduceMul, Int.reduceSub, ne_eq, ca_150_86, bl_150_24, gf_86_0, pf_86_0, gf_86_1, ar_50, al_50, gf_86_2, pf_86_2, gf_86_3, pf_86_3, gf_86_4, pf_86_4, gf_86_5, pf_86_5, gf_86_6, ar_51, al_51, gf_86_7, ar_52, al_52, gf_86_8, ar_53, al_53, gf_86_9, ar_54, al_54, gf_86_10, ar_55, al_55, gf_86_11, ar_56, al_56, gf_86_12, ar_57, al_57, gf_86_13, pf_86_13, gf_86_14, pf_86_14, gf_86_15, ar_58, al_58, gf_86_16, ar_59, al_59, gf_86_17, ar_60, al_60, gf_86_18, ar_61, al_61, gf_86_19, ar_62, al_62, gf_86_20, pf_86_20, gf_86_21, pf_86_21, gf_86_22, ar_63, al_63, gf_86_23, ar_64, al_64, gf_86_24, ar_65, al_65, gf_86_25, ar_66, al_66, gf_86_26, ar_67, al_67, gf_86_27, ar_68, al_68, gf_86_28, ar_69, al_69, gf_86_29, ar_70, al_70, gf_86_30, ar_71, al_71, gf_86_31, ar_72, al_72, gf_86_32, ar_73, al_73, gf_86_33, ar_74, al_74, gf_86_34, pf_86_34]
    (repeat' (first | with_reducible apply And.intro | with_reducible intro _)) <;> first | omega | exact sp_fa (by rw [← hm]; exact mx_sg (fl_sg hf)) hS hs (by rw [hf 86 (by omega) (by omega)]; exact hn) (fun i i0 i1 => by rw [hf 63 (by omega) (by omega), hf 64 (by omega) (by omega), hf 65 (by omega) (by omega)]; exact hse i i0 i1) ir Ky Kn
set_option maxHeartbeats 400000 in
set_option maxRecDepth 100000 in
theorem lp_lr0 {F : Int → Prop} {h0 : am_H} {Q : am_P} (H : ∀ h1, fr_l h0 h1 → mst F 0 0 h1 → am_Ex 150 21 [some (.inr (.inr (some 86))), some (.inl 0), some (.inl 0), none, none] [] h1 Q) :
    ∀ (m : Nat) (r : Int) (h : am_H), 0 ≤ r → r + m = 3 → fr_l h0 h → (∀ q, 0 ≤ q → q < r → h 73 q = 10 ∧ h 74 q = -10) → am_Ex 150 4 [some (.inr (.inr (some 86))), some (.inl 0), some (.inl r), none, none] [] h Q := by
  intro m
  induction m with
  | zero =>
    intro r h r0 r1 hf I
    have K := H h hf (fun q q0 q1 => ⟨fun y => by omega, fun _ => by
      have := I q q0 (by omega)
      rw [this.1, this.2]
      exact ⟨⟨by omega, fun k k0 k1 => by omega, Or.inl rfl⟩, ⟨by omega, fun k k0 k1 => by omega, Or.inl rfl⟩⟩⟩)
    rw [bl_150_4]
    simp only [eq_self, and_self, am_up_at, Int.cast_ofNat_Int, Int.reduceNatCast, true_or, or_true, or_false, false_or, Classical.not_not, false_and, and_false, am_bk, am_step, am_ldI, am_ldL, am_ldA, am_nth, am_sto, am_stw_0, am_stw_i, am_stw_n, am_stw_a, am_stw_l, am_br, am_cmp, am_tk, am_cat, am_sw, am_copy, am_R, am_nc0, am_nc1, am_f0, am_f1, am_f2, am_f3, Int.reduceNeg, Int.reduceEq, Int.reduceLE, Int.reduceLT, Nat.reduceLeDiff, Nat.reduceAdd, Nat.reduceEqDiff, true_and, and_true, ↓reduceIte, if_false, if_true, forall_const, not_true_eq_false, not_false_eq_true, false_implies, true_implies, implies_true, Int.reduceAdd, Int.reduceMul, Int.reduceSub, ne_eq, ca_150_86, bl_150_19, gf_86_0, pf_86_0, gf_86_1, ar_50, al_50, gf_86_2, pf_86_2, gf_86_3, pf_86_3, gf_86_4, pf_86_4, gf_86_5, pf_86_5, gf_86_6, ar_51, al_51, gf_86_7, ar_52, al_52, gf_86_8, ar_53, al_53, gf_86_9, ar_54, al_54, gf_86_10, ar_55, al_55, gf_86_11, ar_56, al_56, gf_86_12, ar_57, al_57, gf_86_13, pf_86_13, gf_86_14, pf_86_14, gf_86_15, ar_58, al_58, gf_86_16, ar_59, al_59, gf_86_17, ar_60, al_60, gf_86_18, ar_61, al_61, gf_86_19, ar_62, al_62, gf_86_20, pf_86_20, gf_86_21, pf_86_21, gf_86_22, ar_63, al_63, gf_86_23, ar_64, al_64, gf_86_24, ar_65, al_65, gf_86_25, ar_66, al_66, gf_86_26, ar_67, al_67, gf_86_27, ar_68, al_68, gf_86_28, ar_69, al_69, gf_86_29, ar_70, al_70, gf_86_30, ar_71, al_71, gf_86_31, ar_72, al_72, gf_86_32, ar_73, al_73, gf_86_33, ar_74, al_74, gf_86_34, pf_86_34]
    (repeat' (first | with_reducible apply And.intro | with_reducible intro _)) <;> first | omega | exact K
  | succ m ih =>
    intro r h r0 r1 hf I
    have K := ih (r + 1) (am_up (am_up h 73 r 10) 74 r (-10)) (by omega) (by omega) (fun c c1 c2 => by rw [am_up_ne c2, am_up_ne c1, hf c c1 c2]) (fun q q0 q1 => by
      simp only [eq_self, and_self, am_up_at, am_up_ne, ne_eq, Nat.reduceEqDiff, Int.reduceEq, Int.reduceNeg, not_false_eq_true, false_and, and_false, true_and, and_true, ↓reduceIte, if_false, if_true, Int.reduceAdd, Int.reduceMul, Nat.reduceAdd]
      by_cases c : q = r
      · rw [if_pos c, if_pos c]; exact ⟨rfl, rfl⟩
      · rw [if_neg c, if_neg c]; exact I q q0 (by omega))
    rw [bl_150_4]
    simp only [eq_self, and_self, am_up_at, Int.cast_ofNat_Int, Int.reduceNatCast, true_or, or_true, or_false, false_or, Classical.not_not, false_and, and_false, am_bk, am_step, am_ldI, am_ldL, am_ldA, am_nth, am_sto, am_stw_0, am_stw_i, am_stw_n, am_stw_a, am_stw_l, am_br, am_cmp, am_tk, am_cat, am_sw, am_copy, am_R, am_nc0, am_nc1, am_f0, am_f1, am_f2, am_f3, Int.reduceNeg, Int.reduceEq, Int.reduceLE, Int.reduceLT, Nat.reduceLeDiff, Nat.reduceAdd, Nat.reduceEqDiff, true_and, and_true, ↓reduceIte, if_false, if_true, forall_const, not_true_eq_false, not_false_eq_true, false_implies, true_implies, implies_true, Int.reduceAdd, Int.reduceMul, Int.reduceSub, ne_eq, ca_150_86, bl_150_7, gf_86_0, pf_86_0, gf_86_1, ar_50, al_50, gf_86_2, pf_86_2, gf_86_3, pf_86_3, gf_86_4, pf_86_4, gf_86_5, pf_86_5, gf_86_6, ar_51, al_51, gf_86_7, ar_52, al_52, gf_86_8, ar_53, al_53, gf_86_9, ar_54, al_54, gf_86_10, ar_55, al_55, gf_86_11, ar_56, al_56, gf_86_12, ar_57, al_57, gf_86_13, pf_86_13, gf_86_14, pf_86_14, gf_86_15, ar_58, al_58, gf_86_16, ar_59, al_59, gf_86_17, ar_60, al_60, gf_86_18, ar_61, al_61, gf_86_19, ar_62, al_62, gf_86_20, pf_86_20, gf_86_21, pf_86_21, gf_86_22, ar_63, al_63, gf_86_23, ar_64, al_64, gf_86_24, ar_65, al_65, gf_86_25, ar_66, al_66, gf_86_26, ar_67, al_67, gf_86_27, ar_68, al_68, gf_86_28, ar_69, al_69, gf_86_29, ar_70, al_70, gf_86_30, ar_71, al_71, gf_86_31, ar_72, al_72, gf_86_32, ar_73, al_73, gf_86_33, ar_74, al_74, gf_86_34, pf_86_34]
    (repeat' (first | with_reducible apply And.intro | with_reducible intro _)) <;> first | omega | exact K
set_option maxHeartbeats 400000 in
set_option maxRecDepth 100000 in
theorem sp_lr {S : sg_S} {N : Int} {A B T : Int → Int} {h : am_H} {Q : am_P} (hm : sg_of h = S) (hS : sg_ok S) (hs : se_ok S N A B T) (hn : h 86 21 = N) (hse : ∀ i, 0 ≤ i → i < N → h 63 i = A i ∧ h 64 i = B i ∧ h 65 i = T i) (H : ∀ h1 n, fr_l h h1 → cn (fun k => ftp S N A B T (pO k)) 6859 n → mst (fun k => ftp S N A B T (pO k)) 6859 0 h1 → Q (some (.inl n)) h1) : am_Call 150 [.inr (.inr (some 86))] h Q := by
  simp only [eq_self, and_self, am_up_at, Int.cast_ofNat_Int, Int.reduceNatCast, true_or, or_true, or_false, false_or, Classical.not_not, false_and, and_false, am_bk, am_step, am_ldI, am_ldL, am_ldA, am_nth, am_sto, am_stw_0, am_stw_i, am_stw_n, am_stw_a, am_stw_l, am_br, am_cmp, am_tk, am_cat, am_sw, am_copy, am_R, am_nc0, am_nc1, am_f0, am_f1, am_f2, am_f3, Int.reduceNeg, Int.reduceEq, Int.reduceLE, Int.reduceLT, Nat.reduceLeDiff, Nat.reduceAdd, Nat.reduceEqDiff, true_and, and_true, ↓reduceIte, if_false, if_true, forall_const, not_true_eq_false, not_false_eq_true, false_implies, true_implies, implies_true, Int.reduceAdd, Int.reduceMul, Int.reduceSub, ne_eq, ca_150_86, bl_150_0, gf_86_0, pf_86_0, gf_86_1, ar_50, al_50, gf_86_2, pf_86_2, gf_86_3, pf_86_3, gf_86_4, pf_86_4, gf_86_5, pf_86_5, gf_86_6, ar_51, al_51, gf_86_7, ar_52, al_52, gf_86_8, ar_53, al_53, gf_86_9, ar_54, al_54, gf_86_10, ar_55, al_55, gf_86_11, ar_56, al_56, gf_86_12, ar_57, al_57, gf_86_13, pf_86_13, gf_86_14, pf_86_14, gf_86_15, ar_58, al_58, gf_86_16, ar_59, al_59, gf_86_17, ar_60, al_60, gf_86_18, ar_61, al_61, gf_86_19, ar_62, al_62, gf_86_20, pf_86_20, gf_86_21, pf_86_21, gf_86_22, ar_63, al_63, gf_86_23, ar_64, al_64, gf_86_24, ar_65, al_65, gf_86_25, ar_66, al_66, gf_86_26, ar_67, al_67, gf_86_27, ar_68, al_68, gf_86_28, ar_69, al_69, gf_86_29, ar_70, al_70, gf_86_30, ar_71, al_71, gf_86_31, ar_72, al_72, gf_86_32, ar_73, al_73, gf_86_33, ar_74, al_74, gf_86_34, pf_86_34]
  refine lp_lr0 (F := fun k => ftp S N A B T (pO k)) (fun h1 f1 I1 => ?_) 3 0 h (by omega) (by omega) (fun _ _ _ => rfl) (fun q q0 q1 => by omega)
  exact lp_lr2 hm hS hs hn hse H 6859 0 0 h1 (by omega) (by omega) f1 rfl I1
theorem cn_pos {P : Int → Prop} : ∀ (n : Nat) (k : Int), cn P n k → k ≠ 0 → ∃ i : Int, (0 ≤ i ∧ i < n) ∧ P i := by
  intro n
  induction n with
  | zero => intro k h h0; exact absurd h h0
  | succ n ih =>
    intro k ⟨j, j1, j2⟩ h0
    rcases j2 with ⟨p, e⟩ | ⟨p, e⟩
    · exact ⟨n, by omega, p⟩
    · obtain ⟨i, i1, i2⟩ := ih j j1 (by omega)
      exact ⟨i, by omega, i2⟩
theorem lo_two {F : Int → Prop} {r v w k : Int} (hk : 0 ≤ k ∧ k < 6859) (hF : F k) (h1 : lo F 6859 9 r v) (h2 : lo F 6859 10 r w) : v = w := by
  have p := pO_r (r := r) hk
  have a := h1.2.1 k hk.1 hk.2 hF
  have b := h2.2.1 k hk.1 hk.2 hF
  have wv : w ≤ v := by
    rcases h1.2.2 with z | ⟨q, q1, q2, q3⟩
    · omega
    · have := h2.2.1 q q1.1 q1.2 q2; omega
  have vw : v ≤ w := by
    rcases h2.2.2 with z | ⟨q, q1, q2, q3⟩
    · omega
    · have := h1.2.1 q q1.1 q1.2 q2; omega
  omega
theorem hi_two {F : Int → Prop} {r v w k : Int} (hk : 0 ≤ k ∧ k < 6859) (hF : F k) (h1 : hi' F 6859 (-9) r v) (h2 : hi' F 6859 (-10) r w) : v = w := by
  have p := pO_r (r := r) hk
  have a := h1.2.1 k hk.1 hk.2 hF
  have b := h2.2.1 k hk.1 hk.2 hF
  have wv : v ≤ w := by
    rcases h1.2.2 with z | ⟨q, q1, q2, q3⟩
    · omega
    · have := h2.2.1 q q1.1 q1.2 q2; omega
  have vw : w ≤ v := by
    rcases h2.2.2 with z | ⟨q, q1, q2, q3⟩
    · omega
    · have := h1.2.1 q q1.1 q1.2 q2; omega
  omega
