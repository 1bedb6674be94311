/-! -/
set_option maxHeartbeats 400000 in
set_option maxRecDepth 100000 in
theorem cu_0a {x a b v : Int} {r : List am_E} {h : am_H} {Q : am_P} (s1 : am_ushr x 1 = a) (s2 : am_and a 1431655765 = b) (s3 : x - b = v) (H : am_bk 156 Q 12 r [some (.inl v)] [] h) : am_bk 156 Q 12 ((0, 1, .iload_n 0, 0, 0, 0, 0, []) :: (1, 1, .iload_n 0, 0, 0, 0, 0, []) :: (2, 1, .iconst 1, 0, 0, 1, 0, []) :: (3, 1, .iushr, 0, 0, 0, 0, []) :: (4, 3, .ldc_w 265, 0, 0, 1431655765, 3035, []) :: (7, 1, .iand, 0, 0, 0, 0, []) :: (8, 1, .isub, 0, 0, 0, 0, []) :: (9, 1, .istore_n 0, 0, 0, 0, 0, []) :: r) [some (.inl x)] [] h := by
  simp only [eq_self, and_self, am_up_at, Int.cast_ofNat_Int, Int.reduceNatCast, true_or, or_true, or_false, false_or, Classical.not_not, false_and, and_false, am_bk, am_step, am_ldI, am_ldL, am_ldA, am_nth, am_sto, am_stw_0, am_stw_i, am_stw_n, am_stw_a, am_stw_l, am_br, am_cmp, am_tk, am_cat, am_sw, am_copy, am_R, am_nc0, am_nc1, am_f0, am_f1, am_f2, am_f3, Int.reduceNeg, Int.reduceEq, Int.reduceLE, Int.reduceLT, Nat.reduceLeDiff, Nat.reduceAdd, Nat.reduceEqDiff, true_and, and_true, ↓reduceIte, if_false, if_true, forall_const, not_true_eq_false, not_false_eq_true, false_implies, true_implies, implies_true, Int.reduceAdd, Int.reduceMul, Int.reduceSub, ne_eq, s1, s2, s3]
  exact H
set_option maxHeartbeats 400000 in
set_option maxRecDepth 100000 in
theorem cu_0b {v c : Int} {h : am_H} {Q : am_P} (s4 : am_and v 858993459 = c) (H : am_Ex 156 12 [some (.inl v)] [.inl v, .inl c] h Q) : am_bk 156 Q 12 [(10, 1, .iload_n 0, 0, 0, 0, 0, []), (11, 3, .ldc_w 266, 0, 0, 858993459, 3036, []), (14, 1, .iand, 0, 0, 0, 0, []), (15, 1, .iload_n 0, 0, 0, 0, 0, [])] [some (.inl v)] [] h := by
  simp only [eq_self, and_self, am_up_at, Int.cast_ofNat_Int, Int.reduceNatCast, true_or, or_true, or_false, false_or, Classical.not_not, false_and, and_false, am_bk, am_step, am_ldI, am_ldL, am_ldA, am_nth, am_sto, am_stw_0, am_stw_i, am_stw_n, am_stw_a, am_stw_l, am_br, am_cmp, am_tk, am_cat, am_sw, am_copy, am_R, am_nc0, am_nc1, am_f0, am_f1, am_f2, am_f3, Int.reduceNeg, Int.reduceEq, Int.reduceLE, Int.reduceLT, Nat.reduceLeDiff, Nat.reduceAdd, Nat.reduceEqDiff, true_and, and_true, ↓reduceIte, if_false, if_true, forall_const, not_true_eq_false, not_false_eq_true, false_implies, true_implies, implies_true, Int.reduceAdd, Int.reduceMul, Int.reduceSub, ne_eq, s4]
  exact H
theorem bk_0 {x a b v c : Int} {h : am_H} {Q : am_P} (s1 : am_ushr x 1 = a) (s2 : am_and a 1431655765 = b) (s3 : x - b = v) (s4 : am_and v 858993459 = c) (H : am_Ex 156 12 [some (.inl v)] [.inl v, .inl c] h Q) : am_Ex 156 0 [some (.inl x)] [] h Q := by
  rw [bl_156_0]
  exact cu_0a s1 s2 s3 (cu_0b s4 H)
set_option maxHeartbeats 400000 in
set_option maxRecDepth 100000 in
theorem cu_12a {v c a d w : Int} {r : List am_E} {h : am_H} {Q : am_P} (s1 : am_ushr v 2 = a) (s2 : am_and a 858993459 = d) (s3 : c + d = w) (H : am_bk 156 Q 24 r [some (.inl w)] [] h) : am_bk 156 Q 24 ((16, 1, .iconst 2, 0, 0, 2, 0, []) :: (17, 1, .iushr, 0, 0, 0, 0, []) :: (18, 3, .ldc_w 266, 0, 0, 858993459, 3036, []) :: (21, 1, .iand, 0, 0, 0, 0, []) :: (22, 1, .iadd, 0, 0, 0, 0, []) :: (23, 1, .istore_n 0, 0, 0, 0, 0, []) :: r) [some (.inl v)] [.inl v, .inl c] h := by
  simp only [eq_self, and_self, am_up_at, Int.cast_ofNat_Int, Int.reduceNatCast, true_or, or_true, or_false, false_or, Classical.not_not, false_and, and_false, am_bk, am_step, am_ldI, am_ldL, am_ldA, am_nth, am_sto, am_stw_0, am_stw_i, am_stw_n, am_stw_a, am_stw_l, am_br, am_cmp, am_tk, am_cat, am_sw, am_copy, am_R, am_nc0, am_nc1, am_f0, am_f1, am_f2, am_f3, Int.reduceNeg, Int.reduceEq, Int.reduceLE, Int.reduceLT, Nat.reduceLeDiff, Nat.reduceAdd, Nat.reduceEqDiff, true_and, and_true, ↓reduceIte, if_false, if_true, forall_const, not_true_eq_false, not_false_eq_true, false_implies, true_implies, implies_true, Int.reduceAdd, Int.reduceMul, Int.reduceSub, ne_eq, s1, s2, s3]
  exact H
set_option maxHeartbeats 400000 in
set_option maxRecDepth 100000 in
theorem cu_12b {w f g : Int} {h : am_H} {Q : am_P} (s4 : am_ushr w 4 = f) (s5 : w + f = g) (H : am_Ex 156 24 [some (.inl w)] [.inl 252645135, .inl g] h Q) : am_bk 156 Q 24 [(24, 1, .iload_n 0, 0, 0, 0, 0, []), (25, 1, .iload_n 0, 0, 0, 0, 0, []), (26, 1, .iconst 4, 0, 0, 4, 0, []), (27, 1, .iushr, 0, 0, 0, 0, []), (28, 1, .iadd, 0, 0, 0, 0, []), (29, 3, .ldc_w 267, 0, 0, 252645135, 3037, [])] [some (.inl w)] [] h := by
  simp only [eq_self, and_self, am_up_at, Int.cast_ofNat_Int, Int.reduceNatCast, true_or, or_true, or_false, false_or, Classical.not_not, false_and, and_false, am_bk, am_step, am_ldI, am_ldL, am_ldA, am_nth, am_sto, am_stw_0, am_stw_i, am_stw_n, am_stw_a, am_stw_l, am_br, am_cmp, am_tk, am_cat, am_sw, am_copy, am_R, am_nc0, am_nc1, am_f0, am_f1, am_f2, am_f3, Int.reduceNeg, Int.reduceEq, Int.reduceLE, Int.reduceLT, Nat.reduceLeDiff, Nat.reduceAdd, Nat.reduceEqDiff, true_and, and_true, ↓reduceIte, if_false, if_true, forall_const, not_true_eq_false, not_false_eq_true, false_implies, true_implies, implies_true, Int.reduceAdd, Int.reduceMul, Int.reduceSub, ne_eq, s4, s5]
  exact H
theorem bk_12 {v c a d w f g : Int} {h : am_H} {Q : am_P} (s1 : am_ushr v 2 = a) (s2 : am_and a 858993459 = d) (s3 : c + d = w) (s4 : am_ushr w 4 = f) (s5 : w + f = g) (H : am_Ex 156 24 [some (.inl w)] [.inl 252645135, .inl g] h Q) : am_Ex 156 12 [some (.inl v)] [.inl v, .inl c] h Q := by
  rw [bl_156_12]
  exact cu_12a s1 s2 s3 (cu_12b s4 s5 H)
set_option maxHeartbeats 400000 in
set_option maxRecDepth 100000 in
theorem cu_24a {w g y : Int} {r : List am_E} {h : am_H} {Q : am_P} (s1 : am_and g 252645135 = y) (H : am_bk 156 Q 36 r [some (.inl y)] [] h) : am_bk 156 Q 36 ((32, 1, .iand, 0, 0, 0, 0, []) :: (33, 1, .istore_n 0, 0, 0, 0, 0, []) :: r) [some (.inl w)] [.inl 252645135, .inl g] h := by
  simp only [eq_self, and_self, am_up_at, Int.cast_ofNat_Int, Int.reduceNatCast, true_or, or_true, or_false, false_or, Classical.not_not, false_and, and_false, am_bk, am_step, am_ldI, am_ldL, am_ldA, am_nth, am_sto, am_stw_0, am_stw_i, am_stw_n, am_stw_a, am_stw_l, am_br, am_cmp, am_tk, am_cat, am_sw, am_copy, am_R, am_nc0, am_nc1, am_f0, am_f1, am_f2, am_f3, Int.reduceNeg, Int.reduceEq, Int.reduceLE, Int.reduceLT, Nat.reduceLeDiff, Nat.reduceAdd, Nat.reduceEqDiff, true_and, and_true, ↓reduceIte, if_false, if_true, forall_const, not_true_eq_false, not_false_eq_true, false_implies, true_implies, implies_true, Int.reduceAdd, Int.reduceMul, Int.reduceSub, ne_eq, s1]
  exact H
set_option maxHeartbeats 400000 in
set_option maxRecDepth 100000 in
theorem cu_24c {y a z : Int} {r : List am_E} {h : am_H} {Q : am_P} (s2 : am_ushr y 8 = a) (s3 : y + a = z) (H : am_bk 156 Q 36 r [some (.inl z)] [] h) : am_bk 156 Q 36 ((34, 1, .iload_n 0, 0, 0, 0, 0, []) :: (35, 1, .iload_n 0, 0, 0, 0, 0, []) :: (36, 2, .bipush 8, 0, 0, 8, 0, []) :: (38, 1, .iushr, 0, 0, 0, 0, []) :: (39, 1, .iadd, 0, 0, 0, 0, []) :: (40, 1, .istore_n 0, 0, 0, 0, 0, []) :: r) [some (.inl y)] [] h := by
  simp only [eq_self, and_self, am_up_at, Int.cast_ofNat_Int, Int.reduceNatCast, true_or, or_true, or_false, false_or, Classical.not_not, false_and, and_false, am_bk, am_step, am_ldI, am_ldL, am_ldA, am_nth, am_sto, am_stw_0, am_stw_i, am_stw_n, am_stw_a, am_stw_l, am_br, am_cmp, am_tk, am_cat, am_sw, am_copy, am_R, am_nc0, am_nc1, am_f0, am_f1, am_f2, am_f3, Int.reduceNeg, Int.reduceEq, Int.reduceLE, Int.reduceLT, Nat.reduceLeDiff, Nat.reduceAdd, Nat.reduceEqDiff, true_and, and_true, ↓reduceIte, if_false, if_true, forall_const, not_true_eq_false, not_false_eq_true, false_implies, true_implies, implies_true, Int.reduceAdd, Int.reduceMul, Int.reduceSub, ne_eq, s2, s3]
  exact H
set_option maxHeartbeats 400000 in
set_option maxRecDepth 100000 in
theorem cu_24b {z b : Int} {h : am_H} {Q : am_P} (s4 : am_ushr z 16 = b) (H : am_Ex 156 36 [some (.inl z)] [.inl b, .inl z] h Q) : am_bk 156 Q 36 [(41, 1, .iload_n 0, 0, 0, 0, 0, []), (42, 1, .iload_n 0, 0, 0, 0, 0, []), (43, 2, .bipush 16, 0, 0, 16, 0, []), (45, 1, .iushr, 0, 0, 0, 0, [])] [some (.inl z)] [] h := by
  simp only [eq_self, and_self, am_up_at, Int.cast_ofNat_Int, Int.reduceNatCast, true_or, or_true, or_false, false_or, Classical.not_not, false_and, and_false, am_bk, am_step, am_ldI, am_ldL, am_ldA, am_nth, am_sto, am_stw_0, am_stw_i, am_stw_n, am_stw_a, am_stw_l, am_br, am_cmp, am_tk, am_cat, am_sw, am_copy, am_R, am_nc0, am_nc1, am_f0, am_f1, am_f2, am_f3, Int.reduceNeg, Int.reduceEq, Int.reduceLE, Int.reduceLT, Nat.reduceLeDiff, Nat.reduceAdd, Nat.reduceEqDiff, true_and, and_true, ↓reduceIte, if_false, if_true, forall_const, not_true_eq_false, not_false_eq_true, false_implies, true_implies, implies_true, Int.reduceAdd, Int.reduceMul, Int.reduceSub, ne_eq, s4]
  exact H
theorem bk_24 {w g y a z b : Int} {h : am_H} {Q : am_P} (s1 : am_and g 252645135 = y) (s2 : am_ushr y 8 = a) (s3 : y + a = z) (s4 : am_ushr z 16 = b) (H : am_Ex 156 36 [some (.inl z)] [.inl b, .inl z] h Q) : am_Ex 156 24 [some (.inl w)] [.inl 252645135, .inl g] h Q := by
  rw [bl_156_24]
  exact cu_24a s1 (cu_24c s2 s3 (cu_24b s4 H))
set_option maxHeartbeats 400000 in
set_option maxRecDepth 100000 in
theorem bk_36 {z b c d : Int} {h : am_H} {Q : am_P} (s1 : z + b = c) (s2 : am_and c 63 = d) (H : Q (some (.inl d)) h) : am_Ex 156 36 [some (.inl z)] [.inl b, .inl z] h Q := by
  rw [bl_156_36]
  simp only [eq_self, and_self, am_up_at, Int.cast_ofNat_Int, Int.reduceNatCast, true_or, or_true, or_false, false_or, Classical.not_not, false_and, and_false, am_bk, am_step, am_ldI, am_ldL, am_ldA, am_nth, am_sto, am_stw_0, am_stw_i, am_stw_n, am_stw_a, am_stw_l, am_br, am_cmp, am_tk, am_cat, am_sw, am_copy, am_R, am_nc0, am_nc1, am_f0, am_f1, am_f2, am_f3, Int.reduceNeg, Int.reduceEq, Int.reduceLE, Int.reduceLT, Nat.reduceLeDiff, Nat.reduceAdd, Nat.reduceEqDiff, true_and, and_true, ↓reduceIte, if_false, if_true, forall_const, not_true_eq_false, not_false_eq_true, false_implies, true_implies, implies_true, Int.reduceAdd, Int.reduceMul, Int.reduceSub, ne_eq, s1, s2]
  exact H
theorem sp_bitCount {x : Int} {h : am_H} {Q : am_P} (hx : 0 ≤ x ∧ x ≤ 255) (H : Q (some (.inl (pc x))) h) : am_Call 156 [.inl x] h Q := by
  obtain ⟨n, rfl⟩ : ∃ n : Nat, x = (n : Int) := ⟨x.toNat, by omega⟩
  have D := bc_D ⟨n, by omega⟩
  have s1 : am_ushr (n : Int) 1 = ((n / 2 : Nat) : Int) := by rw [am_ushr_eq]; exact am_us1 ⟨n, by omega⟩
  obtain ⟨s2, l2⟩ := bcm1_eq (n := n / 2) (by omega)
  have l3 : bc1 n < 256 := by unfold bc1; omega
  have s3 : (n : Int) - ((bcm1 (n / 2) : Nat) : Int) = ((bc1 n : Nat) : Int) := by unfold bc1; omega
  obtain ⟨s4, l4⟩ := bcm2_eq (n := bc1 n) (by omega)
  have s5 : am_ushr (bc1 n : Int) 2 = ((bc1 n / 4 : Nat) : Int) := by rw [am_ushr_eq]; exact am_us2 ⟨bc1 n, by omega⟩
  obtain ⟨s6, l6⟩ := bcm2_eq (n := bc1 n / 4) (by omega)
  have s7 : ((bcm2 (bc1 n) : Nat) : Int) + ((bcm2 (bc1 n / 4) : Nat) : Int) = ((bc2 (bc1 n) : Nat) : Int) := by unfold bc2; omega
  have l7 : bc2 (bc1 n) < 330 := by unfold bc2; omega
  have s8 : am_ushr (bc2 (bc1 n) : Int) 4 = ((bc2 (bc1 n) / 16 : Nat) : Int) := by rw [am_ushr_eq]; exact am_us4 ⟨bc2 (bc1 n), by omega⟩
  have s9 : (bc2 (bc1 n) : Int) + ((bc2 (bc1 n) / 16 : Nat) : Int) = ((bc2 (bc1 n) + bc2 (bc1 n) / 16 : Nat) : Int) := by omega
  obtain ⟨s10, l10⟩ := bcm3_eq (n := bc2 (bc1 n) + bc2 (bc1 n) / 16) (by omega)
  have e10 : bcm3 (bc2 (bc1 n) + bc2 (bc1 n) / 16) = bc3 (bc2 (bc1 n)) := rfl
  rw [e10] at s10 l10
  have s11 : am_ushr (bc3 (bc2 (bc1 n)) : Int) 8 = ((bc3 (bc2 (bc1 n)) / 256 : Nat) : Int) := by rw [am_ushr_eq]; exact am_us8 ⟨bc3 (bc2 (bc1 n)), by omega⟩
  have s12 : (bc3 (bc2 (bc1 n)) : Int) + ((bc3 (bc2 (bc1 n)) / 256 : Nat) : Int) = ((bc4 (bc3 (bc2 (bc1 n))) : Nat) : Int) := by unfold bc4; omega
  have l12 : bc4 (bc3 (bc2 (bc1 n))) < 400 := by unfold bc4; omega
  have s13 : am_ushr (bc4 (bc3 (bc2 (bc1 n))) : Int) 16 = 0 := by rw [am_ushr_eq]; exact am_us16 ⟨bc4 (bc3 (bc2 (bc1 n))), by omega⟩
  obtain ⟨s14, l14⟩ := bcm4_eq (n := bc4 (bc3 (bc2 (bc1 n)))) (by omega)
  rw [ca_156]
  exact bk_0 s1 s2 s3 s4 (bk_12 s5 s6 s7 s8 s9 (bk_24 s10 s11 s12 s13 (bk_36 (Int.add_zero _) s14 (by rw [D]; exact H))))
set_option maxHeartbeats 400000 in
set_option maxRecDepth 100000 in
theorem lp_many {x : Int} {h : am_H} {Q : am_P} (hx : 0 ≤ x ∧ x ≤ 255) (H : Q (some (.inl (pc x))) h) :
    ∀ (m : Nat) (i : Nat), i + m = 8 → am_Ex 97 4 [some (.inl x), some (.inl (pcn x i)), some (.inl (i : Int))] [] h Q := by
  intro m
  induction m with
  | zero =>
    intro i i1
    have ei : i = 8 := by omega
    subst ei
    have r := pcn_r x 8
    rw [bl_97_4]
    simp only [eq_self, and_self, am_up_at, Int.cast_ofNat_Int, Int.reduceNatCast, true_or, or_true, or_false, false_or, Classical.not_not, false_and, and_false, am_bk, am_step, am_ldI, am_ldL, am_ldA, am_nth, am_sto, am_stw_0, am_stw_i, am_stw_n, am_stw_a, am_stw_l, am_br, am_cmp, am_tk, am_cat, am_sw, am_copy, am_R, am_nc0, am_nc1, am_f0, am_f1, am_f2, am_f3, Int.reduceNeg, Int.reduceEq, Int.reduceLE, Int.reduceLT, Nat.reduceLeDiff, Nat.reduceAdd, Nat.reduceEqDiff, true_and, and_true, ↓reduceIte, if_false, if_true, forall_const, not_true_eq_false, not_false_eq_true, false_implies, true_implies, implies_true, Int.reduceAdd, Int.reduceMul, Int.reduceSub, ne_eq, ca_97, bl_97_17]
    (repeat' (first | with_reducible apply And.intro | with_reducible intro _)) <;> first | omega | exact H
  | succ m ih =>
    intro i i1
    have b := bt_shr (x := x) (g := (i : Int)) hx (by omega)
    have b01 := bt_01 x (i : Int)
    have r := pcn_r x i
    have K := ih (i + 1) (by omega)
    rw [pcn, show ((i + 1 : Nat) : Int) = (i : Int) + 1 by omega] at K
    rw [bl_97_4]
    simp only [eq_self, and_self, am_up_at, Int.cast_ofNat_Int, Int.reduceNatCast, true_or, or_true, or_false, false_or, Classical.not_not, false_and, and_false, am_bk, am_step, am_ldI, am_ldL, am_ldA, am_nth, am_sto, am_stw_0, am_stw_i, am_stw_n, am_stw_a, am_stw_l, am_br, am_cmp, am_tk, am_cat, am_sw, am_copy, am_R, am_nc0, am_nc1, am_f0, am_f1, am_f2, am_f3, Int.reduceNeg, Int.reduceEq, Int.reduceLE, Int.reduceLT, Nat.reduceLeDiff, Nat.reduceAdd, Nat.reduceEqDiff, true_and, and_true, ↓reduceIte, if_false, if_true, forall_const, not_true_eq_false, not_false_eq_true, false_implies, true_implies, implies_true, Int.reduceAdd, Int.reduceMul, Int.reduceSub, ne_eq, ca_97, bl_97_7, b]
    (repeat' (first | with_reducible apply And.intro | with_reducible intro _)) <;> first | omega | exact K
set_option maxHeartbeats 400000 in
set_option maxRecDepth 100000 in
theorem sp_many {x : Int} {h : am_H} {Q : am_P} (hx : 0 ≤ x ∧ x ≤ 255) (H : Q (some (.inl (pc x))) h) : am_Call 97 [.inl x] h Q := by
  simp only [eq_self, and_self, am_up_at, Int.cast_ofNat_Int, Int.reduceNatCast, true_or, or_true, or_false, false_or, Classical.not_not, false_and, and_false, am_bk, am_step, am_ldI, am_ldL, am_ldA, am_nth, am_sto, am_stw_0, am_stw_i, am_stw_n, am_stw_a, am_stw_l, am_br, am_cmp, am_tk, am_cat, am_sw, am_copy, am_R, am_nc0, am_nc1, am_f0, am_f1, am_f2, am_f3, Int.reduceNeg, Int.reduceEq, Int.reduceLE, Int.reduceLT, Nat.reduceLeDiff, Nat.reduceAdd, Nat.reduceEqDiff, true_and, and_true, ↓reduceIte, if_false, if_true, forall_const, not_true_eq_false, not_false_eq_true, false_implies, true_implies, implies_true, Int.reduceAdd, Int.reduceMul, Int.reduceSub, ne_eq, ca_97, bl_97_0]
  exact lp_many hx H 8 0 (by omega)
theorem pc_r (x : Int) : 0 ≤ pc x ∧ pc x ≤ 8 := pcn_r x 8
set_option maxHeartbeats 400000 in
set_option maxRecDepth 100000 in
theorem sp_has {x g : Int} {h : am_H} {Q : am_P} (hx : 0 ≤ x ∧ x ≤ 255) (hg : 0 ≤ g ∧ g ≤ 7) (H : Q (some (.inl (bt x g))) h) : am_Call 96 [.inl x, .inl g] h Q := by
  have b := bt_shr (x := x) (g := g) hx hg
  have b01 := bt_01 x g
  simp only [eq_self, and_self, am_up_at, Int.cast_ofNat_Int, Int.reduceNatCast, true_or, or_true, or_false, false_or, Classical.not_not, false_and, and_false, am_bk, am_step, am_ldI, am_ldL, am_ldA, am_nth, am_sto, am_stw_0, am_stw_i, am_stw_n, am_stw_a, am_stw_l, am_br, am_cmp, am_tk, am_cat, am_sw, am_copy, am_R, am_nc0, am_nc1, am_f0, am_f1, am_f2, am_f3, Int.reduceNeg, Int.reduceEq, Int.reduceLE, Int.reduceLT, Nat.reduceLeDiff, Nat.reduceAdd, Nat.reduceEqDiff, true_and, and_true, ↓reduceIte, if_false, if_true, forall_const, not_true_eq_false, not_false_eq_true, false_implies, true_implies, implies_true, Int.reduceAdd, Int.reduceMul, Int.reduceSub, ne_eq, ca_96, bl_96_0, bl_96_9, bl_96_10, b]
  (repeat' (first | with_reducible apply And.intro | with_reducible intro _)) <;> first | omega | exact am_leaf H (by omega)
