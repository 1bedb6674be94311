/-! share -/
def s0 (S : sg_S) : sg_S := (sg_U S, sg_G S, sg_ri S, sg_rm S, sg_pl S, sg_kd S, sg_pc S, fun _ => 0, fun _ => 0)
theorem s0_ok {S : sg_S} (hS : sg_ok S) : sg_ok (s0 S) :=
  ⟨hS.1, hS.2.1, hS.2.2.1, fun q q1 q2 => ⟨(hS.2.2.2 q q1 q2).1, by show (0 : Int) ≤ 0 ∧ (0 : Int) ≤ 400; omega, by show (0 : Int) ≤ 0 ∧ (0 : Int) ≤ 99; omega⟩⟩
theorem s0_fit (S : sg_S) : tb_fit (s0 S) := fun q q1 q2 => by show (0 : Int) + 0 ≤ 451; omega
theorem s0_opn {S : sg_S} {a b t : Int} (ht : 0 ≤ t) : sg_opn (s0 S) a b t ↔ (sg_bes S a b ∧ sg_opt S a b (sg_by S a t t) (sg_by S b t t) t) := by
  have e : sg_tn 0 0 t = t := by
    unfold sg_tn
    (repeat' split) <;> omega
  show (sg_bes S a b ∧ sg_opt S a b (sg_by S a (sg_tn 0 0 t) t) (sg_by S b (sg_tn 0 0 t) t) t) ↔ _
  rw [e]
/-! the greatest common divisor -/
set_option maxHeartbeats 400000 in
set_option maxRecDepth 100000 in
theorem lp_told {u a b : Nat} {x : Int} {h : am_H} {Q : am_P} (ha : a ≤ 54) (hb : 0 < b ∧ b ≤ 54) (hx : am_R x) (H1 : ¬ x = 0 → Q (some (.inl ((a : Int).tdiv (Nat.gcd a b : Int)))) h) (H0 : x = 0 → Q (some (.inl ((b : Int).tdiv (Nat.gcd a b : Int)))) h) :
    ∀ (n q p : Nat) (y : Option am_V), q ≤ n → p ≤ 54 → q ≤ 54 → Nat.gcd p q = Nat.gcd a b → am_Ex 128 4 [some (.inl (a : Int)), some (.inl (b : Int)), some (.inl x), some (.inl (p : Int)), some (.inl (q : Int)), none] [] h Q := by
  obtain ⟨x1, x2⟩ := id hx
  have g0 : 0 < Nat.gcd a b := Nat.gcd_pos_of_pos_right a hb.1
  intro n
  induction n with
  | zero =>
    intro q p y hn hp hq e
    have eq : q = 0 := by omega
    subst eq
    rw [Nat.gcd_zero_right] at e
    subst e
    rw [bl_128_4]
    simp only [eq_self, and_self, am_up_at, Int.cast_ofNat_Int, Int.reduceNatCast, true_or, or_true, or_false, false_or, Classical.not_not, false_and, and_false, am_bk, am_step, am_ldI, am_ldL, am_ldA, am_nth, am_sto, am_stw_0, am_stw_i, am_stw_n, am_stw_a, am_stw_l, am_br, am_cmp, am_tk, am_cat, am_sw, am_copy, am_R, am_nc0, am_nc1, am_f0, am_f1, am_f2, am_f3, Int.reduceNeg, Int.reduceEq, Int.reduceLE, Int.reduceLT, Nat.reduceLeDiff, Nat.reduceAdd, Nat.reduceEqDiff, true_and, and_true, ↓reduceIte, if_false, if_true, forall_const, not_true_eq_false, not_false_eq_true, false_implies, true_implies, implies_true, Int.reduceAdd, Int.reduceMul, Int.reduceSub, ne_eq, ca_128, bl_128_15, bl_128_21, bl_128_24]
    (repeat' (first | with_reducible apply And.intro | with_reducible intro _)) <;> first | omega | exact H1 (by assumption) | exact H0 (by assumption)
  | succ n ih =>
    intro q p y hn hp hq e
    by_cases c : q = 0
    · subst c
      rw [Nat.gcd_zero_right] at e
      subst e
      rw [bl_128_4]
      simp only [eq_self, and_self, am_up_at, Int.cast_ofNat_Int, Int.reduceNatCast, true_or, or_true, or_false, false_or, Classical.not_not, false_and, and_false, am_bk, am_step, am_ldI, am_ldL, am_ldA, am_nth, am_sto, am_stw_0, am_stw_i, am_stw_n, am_stw_a, am_stw_l, am_br, am_cmp, am_tk, am_cat, am_sw, am_copy, am_R, am_nc0, am_nc1, am_f0, am_f1, am_f2, am_f3, Int.reduceNeg, Int.reduceEq, Int.reduceLE, Int.reduceLT, Nat.reduceLeDiff, Nat.reduceAdd, Nat.reduceEqDiff, true_and, and_true, ↓reduceIte, if_false, if_true, forall_const, not_true_eq_false, not_false_eq_true, false_implies, true_implies, implies_true, Int.reduceAdd, Int.reduceMul, Int.reduceSub, ne_eq, ca_128, bl_128_15, bl_128_21, bl_128_24]
      (repeat' (first | with_reducible apply And.intro | with_reducible intro _)) <;> first | omega | exact H1 (by assumption) | exact H0 (by assumption)
    · have lt : p % q < q := Nat.mod_lt p (by omega)
      have em : (p : Int).tmod (q : Int) = ((p % q : Nat) : Int) := by
        rw [Int.tmod_eq_emod_of_nonneg (by omega)]; rfl
      have K := ih (p % q) q none (by omega) (by omega) (by omega) (by rw [← e, Nat.gcd_comm p q, Nat.gcd_rec q p, Nat.gcd_comm])
      rw [bl_128_4]
      simp only [eq_self, and_self, am_up_at, Int.cast_ofNat_Int, Int.reduceNatCast, true_or, or_true, or_false, false_or, Classical.not_not, false_and, and_false, am_bk, am_step, am_ldI, am_ldL, am_ldA, am_nth, am_sto, am_stw_0, am_stw_i, am_stw_n, am_stw_a, am_stw_l, am_br, am_cmp, am_tk, am_cat, am_sw, am_copy, am_R, am_nc0, am_nc1, am_f0, am_f1, am_f2, am_f3, Int.reduceNeg, Int.reduceEq, Int.reduceLE, Int.reduceLT, Nat.reduceLeDiff, Nat.reduceAdd, Nat.reduceEqDiff, true_and, and_true, ↓reduceIte, if_false, if_true, forall_const, not_true_eq_false, not_false_eq_true, false_implies, true_implies, implies_true, Int.reduceAdd, Int.reduceMul, Int.reduceSub, ne_eq, ca_128, bl_128_6, em]
      (repeat' (first | with_reducible apply And.intro | with_reducible intro _)) <;> first | omega | exact am_forget K (by simp [am_lq])
set_option maxHeartbeats 400000 in
set_option maxRecDepth 100000 in
theorem sp_told {a b : Nat} {x : Int} {h : am_H} {Q : am_P} (ha : a ≤ 54) (hb : 0 < b ∧ b ≤ 54) (hx : am_R x) (H1 : ¬ x = 0 → Q (some (.inl ((a : Int).tdiv (Nat.gcd a b : Int)))) h) (H0 : x = 0 → Q (some (.inl ((b : Int).tdiv (Nat.gcd a b : Int)))) h) : am_Call 128 [.inl (a : Int), .inl (b : Int), .inl x] h Q := by
  simp only [eq_self, and_self, am_up_at, Int.cast_ofNat_Int, Int.reduceNatCast, true_or, or_true, or_false, false_or, Classical.not_not, false_and, and_false, am_bk, am_step, am_ldI, am_ldL, am_ldA, am_nth, am_sto, am_stw_0, am_stw_i, am_stw_n, am_stw_a, am_stw_l, am_br, am_cmp, am_tk, am_cat, am_sw, am_copy, am_R, am_nc0, am_nc1, am_f0, am_f1, am_f2, am_f3, Int.reduceNeg, Int.reduceEq, Int.reduceLE, Int.reduceLT, Nat.reduceLeDiff, Nat.reduceAdd, Nat.reduceEqDiff, true_and, and_true, ↓reduceIte, if_false, if_true, forall_const, not_true_eq_false, not_false_eq_true, false_implies, true_implies, implies_true, Int.reduceAdd, Int.reduceMul, Int.reduceSub, ne_eq, ca_128, bl_128_0]
  exact lp_told (u := 0) ha hb hx H1 H0 b b a none (by omega) (by omega) (by omega) rfl
set_option maxHeartbeats 400000 in
set_option maxRecDepth 100000 in
theorem lp_cdiv {a b : Nat} {h : am_H} {Q : am_P} (ha : a ≤ b) (hb : 0 < b ∧ b ≤ 54) (H : Q (some (.inl (Nat.gcd a b : Int))) h) :
    ∀ (d : Nat), 1 ≤ d → d ≤ b → (∀ k : Nat, d < k → k ≤ b → ¬ (k ∣ a ∧ k ∣ b)) → am_Ex 91 4 [some (.inl (a : Int)), some (.inl (b : Int)), some (.inl (d : Int))] [] h Q := by
  have g0 : 0 < Nat.gcd a b := Nat.gcd_pos_of_pos_right a hb.1
  have gl : Nat.gcd a b ≤ b := Nat.gcd_le_right a hb.1
  have gd' : Nat.gcd a b ∣ a ∧ Nat.gcd a b ∣ b := ⟨Nat.gcd_dvd_left a b, Nat.gcd_dvd_right a b⟩
  intro d
  induction d with
  | zero => intro h1; omega
  | succ d ih =>
    intro h1 h2 I
    have ge : Nat.gcd a b ≤ d + 1 := by
      by_cases c : Nat.gcd a b ≤ d + 1
      · exact c
      · exact absurd gd' (I _ (by omega) gl)
    have em : ∀ z : Nat, (z : Int).tmod ((d + 1 : Nat) : Int) = ((z % (d + 1) : Nat) : Int) := fun z => by
      rw [Int.tmod_eq_emod_of_nonneg (by omega)]; rfl
    have ea := em a
    have eb := em b
    have la : a % (d + 1) < d + 1 := Nat.mod_lt _ (by omega)
    have lb : b % (d + 1) < d + 1 := Nat.mod_lt _ (by omega)
    by_cases c1 : d = 0
    · subst c1
      have K : Q (some (.inl 1)) h := am_leaf H (by omega)
      rw [bl_91_4]
      simp only [eq_self, and_self, am_up_at, Int.cast_ofNat_Int, Int.reduceNatCast, true_or, or_true, or_false, false_or, Classical.not_not, false_and, and_false, am_bk, am_step, am_ldI, am_ldL, am_ldA, am_nth, am_sto, am_stw_0, am_stw_i, am_stw_n, am_stw_a, am_stw_l, am_br, am_cmp, am_tk, am_cat, am_sw, am_copy, am_R, am_nc0, am_nc1, am_f0, am_f1, am_f2, am_f3, Int.reduceNeg, Int.reduceEq, Int.reduceLE, Int.reduceLT, Nat.reduceLeDiff, Nat.reduceAdd, Nat.reduceEqDiff, true_and, and_true, ↓reduceIte, if_false, if_true, forall_const, not_true_eq_false, not_false_eq_true, false_implies, true_implies, implies_true, Int.reduceAdd, Int.reduceMul, Int.reduceSub, ne_eq, ca_91, bl_91_19]
      (repeat' (first | with_reducible apply And.intro | with_reducible intro _)) <;> first | omega | exact K
    · have K1 : a % (d + 1) = 0 ∧ b % (d + 1) = 0 → Q (some (.inl ((d + 1 : Nat) : Int))) h := fun q => am_leaf H (by
        have dv : (d + 1) ∣ Nat.gcd a b := Nat.dvd_gcd (Nat.dvd_of_mod_eq_zero q.1) (Nat.dvd_of_mod_eq_zero q.2)
        have := Nat.le_of_dvd g0 dv
        omega)
      have K2 : ¬ (a % (d + 1) = 0 ∧ b % (d + 1) = 0) → am_Ex 91 4 [some (.inl (a : Int)), some (.inl (b : Int)), some (.inl (d : Int))] [] h Q := fun q => ih (by omega) (by omega) (fun k k1 k2 => by
        by_cases ck : k = d + 1
        · rw [ck]; exact fun z => q ⟨Nat.mod_eq_zero_of_dvd z.1, Nat.mod_eq_zero_of_dvd z.2⟩
        · exact I k (by omega) k2)
      rw [show (d : Int) = ((d + 1 : Nat) : Int) + -1 by omega] at K2
      rw [bl_91_4]
      generalize hD : ((d + 1 : Nat) : Int) = D at ea eb K1 K2 ⊢
      simp only [eq_self, and_self, am_up_at, Int.cast_ofNat_Int, Int.reduceNatCast, true_or, or_true, or_false, false_or, Classical.not_not, false_and, and_false, am_bk, am_step, am_ldI, am_ldL, am_ldA, am_nth, am_sto, am_stw_0, am_stw_i, am_stw_n, am_stw_a, am_stw_l, am_br, am_cmp, am_tk, am_cat, am_sw, am_copy, am_R, am_nc0, am_nc1, am_f0, am_f1, am_f2, am_f3, Int.reduceNeg, Int.reduceEq, Int.reduceLE, Int.reduceLT, Nat.reduceLeDiff, Nat.reduceAdd, Nat.reduceEqDiff, true_and, and_true, ↓reduceIte, if_false, if_true, forall_const, not_true_eq_false, not_false_eq_true, false_implies, true_implies, implies_true, Int.reduceAdd, Int.reduceMul, Int.reduceSub, ne_eq, ca_91, bl_91_7, bl_91_17, ea, eb]
      (repeat' (first | with_reducible apply And.intro | with_reducible intro _)) <;> first | omega | exact K1 (by omega) | exact K2 (by omega)
set_option maxHeartbeats 400000 in
set_option maxRecDepth 100000 in
theorem sp_cdiv {a b : Nat} {h : am_H} {Q : am_P} (ha : a ≤ b) (hb : 0 < b ∧ b ≤ 54) (H : Q (some (.inl (Nat.gcd a b : Int))) h) : am_Call 91 [.inl (a : Int), .inl (b : Int)] h Q := by
  have K := lp_cdiv ha hb H b (by omega) (by omega) (fun k k1 k2 => by omega)
  have K2 : a = b → am_Ex 91 4 [some (.inl (a : Int)), some (.inl (b : Int)), some (.inl (a : Int))] [] h Q := fun e => by subst e; exact K
  simp only [eq_self, and_self, am_up_at, Int.cast_ofNat_Int, Int.reduceNatCast, true_or, or_true, or_false, false_or, Classical.not_not, false_and, and_false, am_bk, am_step, am_ldI, am_ldL, am_ldA, am_nth, am_sto, am_stw_0, am_stw_i, am_stw_n, am_stw_a, am_stw_l, am_br, am_cmp, am_tk, am_cat, am_sw, am_copy, am_R, am_nc0, am_nc1, am_f0, am_f1, am_f2, am_f3, Int.reduceNeg, Int.reduceEq, Int.reduceLE, Int.reduceLT, Nat.reduceLeDiff, Nat.reduceAdd, Nat.reduceEqDiff, true_and, and_true, ↓reduceIte, if_false, if_true, forall_const, not_true_eq_false, not_false_eq_true, false_implies, true_implies, implies_true, Int.reduceAdd, Int.reduceMul, Int.reduceSub, ne_eq, ca_91, bl_91_0, bl_91_3, ca_159, bl_159_0, bl_159_5, bl_159_6]
  (repeat' (first | with_reducible apply And.intro | with_reducible intro _)) <;> first | omega | exact K | exact K2 (by omega)
/-! the class -/
set_option maxHeartbeats 400000 in
set_option maxRecDepth 100000 in
theorem sp_clearT {h : am_H} {Q : am_P} (H : ∀ h1, (∀ c, c ≠ 18 → c ≠ 19 → h1 c = h c) → (∀ r, 0 ≤ r → r ≤ 2 → h1 18 r = 0 ∧ h1 19 r = 0) → Q none h1) : am_Call 7 [.inr (.inr (some 80))] h Q := by
  simp only [eq_self, and_self, am_up_at, Int.cast_ofNat_Int, Int.reduceNatCast, true_or, or_true, or_false, false_or, Classical.not_not, false_and, and_false, am_bk, am_step, am_ldI, am_ldL, am_ldA, am_nth, am_sto, am_stw_0, am_stw_i, am_stw_n, am_stw_a, am_stw_l, am_br, am_cmp, am_tk, am_cat, am_sw, am_copy, am_R, am_nc0, am_nc1, am_f0, am_f1, am_f2, am_f3, Int.reduceNeg, Int.reduceEq, Int.reduceLE, Int.reduceLT, Nat.reduceLeDiff, Nat.reduceAdd, Nat.reduceEqDiff, true_and, and_true, ↓reduceIte, if_false, if_true, forall_const, not_true_eq_false, not_false_eq_true, false_implies, true_implies, implies_true, Int.reduceAdd, Int.reduceMul, Int.reduceSub, ne_eq, ca_7_80, bl_7_0, gf_80_0, ar_17, al_17, gf_80_1, ar_18, al_18, gf_80_2, ar_19, al_19, gf_80_3, ar_20, al_20, gf_80_4, ar_21, al_21, gf_80_5, ar_22, al_22, gf_80_6, pf_80_6, gf_80_7, pf_80_7]
  refine sp_fill (n := 3) al_18 ar_18 rfl (by omega) (fun h1 a1 a2 => ?_)
  simp only [eq_self, and_self, am_up_at, Int.cast_ofNat_Int, Int.reduceNatCast, true_or, or_true, or_false, false_or, Classical.not_not, false_and, and_false, am_bk, am_step, am_ldI, am_ldL, am_ldA, am_nth, am_sto, am_stw_0, am_stw_i, am_stw_n, am_stw_a, am_stw_l, am_br, am_cmp, am_tk, am_cat, am_sw, am_copy, am_R, am_nc0, am_nc1, am_f0, am_f1, am_f2, am_f3, Int.reduceNeg, Int.reduceEq, Int.reduceLE, Int.reduceLT, Nat.reduceLeDiff, Nat.reduceAdd, Nat.reduceEqDiff, true_and, and_true, ↓reduceIte, if_false, if_true, forall_const, not_true_eq_false, not_false_eq_true, false_implies, true_implies, implies_true, Int.reduceAdd, Int.reduceMul, Int.reduceSub, ne_eq, ca_7_80, bl_7_4, gf_80_0, ar_17, al_17, gf_80_1, ar_18, al_18, gf_80_2, ar_19, al_19, gf_80_3, ar_20, al_20, gf_80_4, ar_21, al_21, gf_80_5, ar_22, al_22, gf_80_6, pf_80_6, gf_80_7, pf_80_7]
  refine sp_fill (n := 3) al_19 ar_19 rfl (by omega) (fun h2 b1 b2 => ?_)
  simp only [eq_self, and_self, am_up_at, Int.cast_ofNat_Int, Int.reduceNatCast, true_or, or_true, or_false, false_or, Classical.not_not, false_and, and_false, am_bk, am_step, am_ldI, am_ldL, am_ldA, am_nth, am_sto, am_stw_0, am_stw_i, am_stw_n, am_stw_a, am_stw_l, am_br, am_cmp, am_tk, am_cat, am_sw, am_copy, am_R, am_nc0, am_nc1, am_f0, am_f1, am_f2, am_f3, Int.reduceNeg, Int.reduceEq, Int.reduceLE, Int.reduceLT, Nat.reduceLeDiff, Nat.reduceAdd, Nat.reduceEqDiff, true_and, and_true, ↓reduceIte, if_false, if_true, forall_const, not_true_eq_false, not_false_eq_true, false_implies, true_implies, implies_true, Int.reduceAdd, Int.reduceMul, Int.reduceSub, ne_eq, ca_7_80, bl_7_8, gf_80_0, ar_17, al_17, gf_80_1, ar_18, al_18, gf_80_2, ar_19, al_19, gf_80_3, ar_20, al_20, gf_80_4, ar_21, al_21, gf_80_5, ar_22, al_22, gf_80_6, pf_80_6, gf_80_7, pf_80_7]
  refine H h2 (fun c c1 c2 => (b1 c c2).trans (a1 c c1)) (fun r r1 r2 => ⟨?_, ?_⟩)
  · rw [b1 18 (by omega), a2 r, if_pos (by omega)]
  · rw [b2 r, if_pos (by omega)]
set_option maxHeartbeats 400000 in
set_option maxRecDepth 100000 in
theorem lp_shX {S : sg_S} {a b x j : Int} {h : am_H} {Q : am_P} (hy : ty_ok h S) (ha : 0 ≤ a ∧ a < sg_G S) (hb : 0 ≤ b ∧ b < sg_G S) (hj : jn_ok h S a b j) (H : ∀ n, cn (fun t => sg_opn S a b t) (sg_U S).toNat n → am_Ex 70 44 [some (.inr (.inr (some 75))), some (.inl a), some (.inl b), some (.inl x), some (.inl j), some (.inl n), some (.inl (sg_U S))] [] h Q) :
    ∀ (m : Nat) (t n : Int), 0 ≤ t → t + m = sg_U S → cn (fun t => sg_opn S a b t) t.toNat n → am_Ex 70 30 [some (.inr (.inr (some 75))), some (.inl a), some (.inl b), some (.inl x), some (.inl j), some (.inl n), some (.inl t)] [] h Q := by
  intro m
  obtain ⟨hS, hF, hT, hP, hR, hL, hok, hrg⟩ := id hy
  have hU := hS.1
  have p0 := hP.1
  have jr := jn_ok_r hR ha hb hj
  induction m with
  | zero =>
    intro t n t0 t1 I
    have et : t = sg_U S := by omega
    subst et
    have K := H n I
    rw [bl_70_30]
    simp only [eq_self, and_self, am_up_at, Int.cast_ofNat_Int, Int.reduceNatCast, true_or, or_true, or_false, false_or, Classical.not_not, false_and, and_false, am_bk, am_step, am_ldI, am_ldL, am_ldA, am_nth, am_sto, am_stw_0, am_stw_i, am_stw_n, am_stw_a, am_stw_l, am_br, am_cmp, am_tk, am_cat, am_sw, am_copy, am_R, am_nc0, am_nc1, am_f0, am_f1, am_f2, am_f3, Int.reduceNeg, Int.reduceEq, Int.reduceLE, Int.reduceLT, Nat.reduceLeDiff, Nat.reduceAdd, Nat.reduceEqDiff, true_and, and_true, ↓reduceIte, if_false, if_true, forall_const, not_true_eq_false, not_false_eq_true, false_implies, true_implies, implies_true, Int.reduceAdd, Int.reduceMul, Int.reduceSub, ne_eq, gf_75_0, ar_0, al_0, gf_75_1, pf_75_1, gf_75_2, gf_75_3, gf_75_4, gf_75_5, gf_75_6, gf_75_7, gf_75_8, gf_75_9, gf_75_10, gf_78_0, pf_78_0, gf_78_1, pf_78_1, gf_78_2, ar_6, al_6, gf_78_3, ar_7, al_7, gf_78_4, ar_8, al_8, gf_78_5, ar_9, al_9, gf_78_6, ar_10, al_10, p0]
    (repeat' (first | with_reducible apply And.intro | with_reducible intro _)) <;> first | omega | exact K
  | succ m ih =>
    intro t n t0 t1 I
    have nr := cn_r _ _ I
    have st := cn_s t0 I
    have Ka : sg_opn S a b t → am_Ex 70 40 [some (.inr (.inr (some 75))), some (.inl a), some (.inl b), some (.inl x), some (.inl j), some (.inl n), some (.inl t)] [.inl 1] h Q := by
      intro q
      have K := ih (t + 1) (n + 1) (by omega) (by omega) (st.1 q)
      simp only [eq_self, and_self, am_up_at, Int.cast_ofNat_Int, Int.reduceNatCast, true_or, or_true, or_false, false_or, Classical.not_not, false_and, and_false, am_bk, am_step, am_ldI, am_ldL, am_ldA, am_nth, am_sto, am_stw_0, am_stw_i, am_stw_n, am_stw_a, am_stw_l, am_br, am_cmp, am_tk, am_cat, am_sw, am_copy, am_R, am_nc0, am_nc1, am_f0, am_f1, am_f2, am_f3, Int.reduceNeg, Int.reduceEq, Int.reduceLE, Int.reduceLT, Nat.reduceLeDiff, Nat.reduceAdd, Nat.reduceEqDiff, true_and, and_true, ↓reduceIte, if_false, if_true, forall_const, not_true_eq_false, not_false_eq_true, false_implies, true_implies, implies_true, Int.reduceAdd, Int.reduceMul, Int.reduceSub, ne_eq, ca_70_75, bl_70_40, bl_70_42, gf_75_0, ar_0, al_0, gf_75_1, pf_75_1, gf_75_2, gf_75_3, gf_75_4, gf_75_5, gf_75_6, gf_75_7, gf_75_8, gf_75_9, gf_75_10]
      (repeat' (first | with_reducible apply And.intro | with_reducible intro _)) <;> first | omega | exact K
    have Kb : ¬ sg_opn S a b t → am_Ex 70 40 [some (.inr (.inr (some 75))), some (.inl a), some (.inl b), some (.inl x), some (.inl j), some (.inl n), some (.inl t)] [.inl 0] h Q := by
      intro q
      have K := ih (t + 1) n (by omega) (by omega) (st.2 q)
      simp only [eq_self, and_self, am_up_at, Int.cast_ofNat_Int, Int.reduceNatCast, true_or, or_true, or_false, false_or, Classical.not_not, false_and, and_false, am_bk, am_step, am_ldI, am_ldL, am_ldA, am_nth, am_sto, am_stw_0, am_stw_i, am_stw_n, am_stw_a, am_stw_l, am_br, am_cmp, am_tk, am_cat, am_sw, am_copy, am_R, am_nc0, am_nc1, am_f0, am_f1, am_f2, am_f3, Int.reduceNeg, Int.reduceEq, Int.reduceLE, Int.reduceLT, Nat.reduceLeDiff, Nat.reduceAdd, Nat.reduceEqDiff, true_and, and_true, ↓reduceIte, if_false, if_true, forall_const, not_true_eq_false, not_false_eq_true, false_implies, true_implies, implies_true, Int.reduceAdd, Int.reduceMul, Int.reduceSub, ne_eq, ca_70_75, bl_70_40, bl_70_42, gf_75_0, ar_0, al_0, gf_75_1, pf_75_1, gf_75_2, gf_75_3, gf_75_4, gf_75_5, gf_75_6, gf_75_7, gf_75_8, gf_75_9, gf_75_10]
      (repeat' (first | with_reducible apply And.intro | with_reducible intro _)) <;> first | omega | exact K
    rw [bl_70_30]
    simp only [eq_self, and_self, am_up_at, Int.cast_ofNat_Int, Int.reduceNatCast, true_or, or_true, or_false, false_or, Classical.not_not, false_and, and_false, am_bk, am_step, am_ldI, am_ldL, am_ldA, am_nth, am_sto, am_stw_0, am_stw_i, am_stw_n, am_stw_a, am_stw_l, am_br, am_cmp, am_tk, am_cat, am_sw, am_copy, am_R, am_nc0, am_nc1, am_f0, am_f1, am_f2, am_f3, Int.reduceNeg, Int.reduceEq, Int.reduceLE, Int.reduceLT, Nat.reduceLeDiff, Nat.reduceAdd, Nat.reduceEqDiff, true_and, and_true, ↓reduceIte, if_false, if_true, forall_const, not_true_eq_false, not_false_eq_true, false_implies, true_implies, implies_true, Int.reduceAdd, Int.reduceMul, Int.reduceSub, ne_eq, ca_70_75, bl_70_35, gf_75_0, ar_0, al_0, gf_75_1, pf_75_1, gf_75_2, gf_75_3, gf_75_4, gf_75_5, gf_75_6, gf_75_7, gf_75_8, gf_75_9, gf_75_10, gf_78_0, pf_78_0, gf_78_1, pf_78_1, gf_78_2, ar_6, al_6, gf_78_3, ar_7, al_7, gf_78_4, ar_8, al_8, gf_78_5, ar_9, al_9, gf_78_6, ar_10, al_10, p0]
    (repeat' (first | with_reducible apply And.intro | with_reducible intro _)) <;> first | omega | exact sp_isOpenJ hS hF hT hP hR ha hb (by omega) hj Ka Kb
set_option maxHeartbeats 400000 in
set_option maxRecDepth 100000 in
theorem lp_shM {S : sg_S} {a b x : Int} {h : am_H} {Q : am_P} (hm : sg_of h = S) (hS : sg_ok S) (ha : 0 ≤ a ∧ a < sg_G S) (hb : 0 ≤ b ∧ b < sg_G S) (H : ∀ n, cn (fun t => sg_opn (s0 S) a b t) (sg_U S).toNat n → am_Ex 129 50 [some (.inr (.inr (some 86))), some (.inl a), some (.inl b), some (.inl x), some (.inl n), some (.inl (sg_U S))] [] h Q) :
    ∀ (m : Nat) (t n : Int), 0 ≤ t → t + m = sg_U S → cn (fun t => sg_opn (s0 S) a b t) t.toNat n → am_Ex 129 17 [some (.inr (.inr (some 86))), some (.inl a), some (.inl b), some (.inl x), some (.inl n), some (.inl t)] [] h Q := by
  intro m
  subst hm
  have hU := hS.1
  have e4 : h 86 4 = sg_U (sg_of h) := rfl
  induction m with
  | zero =>
    intro t n t0 t1 I
    have et : t = sg_U (sg_of h) := by omega
    subst et
    have K := H n I
    rw [bl_129_17]
    simp only [eq_self, and_self, am_up_at, Int.cast_ofNat_Int, Int.reduceNatCast, true_or, or_true, or_false, false_or, Classical.not_not, false_and, and_false, am_bk, am_step, am_ldI, am_ldL, am_ldA, am_nth, am_sto, am_stw_0, am_stw_i, am_stw_n, am_stw_a, am_stw_l, am_br, am_cmp, am_tk, am_cat, am_sw, am_copy, am_R, am_nc0, am_nc1, am_f0, am_f1, am_f2, am_f3, Int.reduceNeg, Int.reduceEq, Int.reduceLE, Int.reduceLT, Nat.reduceLeDiff, Nat.reduceAdd, Nat.reduceEqDiff, true_and, and_true, ↓reduceIte, if_false, if_true, forall_const, not_true_eq_false, not_false_eq_true, false_implies, true_implies, implies_true, Int.reduceAdd, Int.reduceMul, Int.reduceSub, ne_eq, gf_86_0, pf_86_0, gf_86_1, ar_50, al_50, gf_86_2, pf_86_2, gf_86_3, pf_86_3, gf_86_4, pf_86_4, gf_86_5, pf_86_5, gf_86_6, ar_51, al_51, gf_86_7, ar_52, al_52, gf_86_8, ar_53, al_53, gf_86_9, ar_54, al_54, gf_86_10, ar_55, al_55, gf_86_11, ar_56, al_56, gf_86_12, ar_57, al_57, gf_86_13, pf_86_13, gf_86_14, pf_86_14, gf_86_15, ar_58, al_58, gf_86_16, ar_59, al_59, gf_86_17, ar_60, al_60, gf_86_18, ar_61, al_61, gf_86_19, ar_62, al_62, gf_86_20, pf_86_20, gf_86_21, pf_86_21, gf_86_22, ar_63, al_63, gf_86_23, ar_64, al_64, gf_86_24, ar_65, al_65, gf_86_25, ar_66, al_66, gf_86_26, ar_67, al_67, gf_86_27, ar_68, al_68, gf_86_28, ar_69, al_69, gf_86_29, ar_70, al_70, gf_86_30, ar_71, al_71, gf_86_31, ar_72, al_72, gf_86_32, ar_73, al_73, gf_86_33, ar_74, al_74, gf_86_34, pf_86_34, e4]
    (repeat' (first | with_reducible apply And.intro | with_reducible intro _)) <;> first | omega | exact K
  | succ m ih =>
    intro t n t0 t1 I
    have nr := cn_r _ _ I
    have st := cn_s t0 I
    have o := s0_opn (S := sg_of h) (a := a) (b := b) t0
    have by_r : ∀ g, 0 ≤ sg_by (sg_of h) g t t ∧ sg_by (sg_of h) g t t < h 86 4 := fun g => by
      unfold sg_by
      exact ⟨Int.emod_nonneg _ (by omega), Int.emod_lt_of_pos _ (by omega)⟩
    have Kn : ¬ sg_opn (s0 (sg_of h)) a b t → am_Ex 129 45 [some (.inr (.inr (some 86))), some (.inl a), some (.inl b), some (.inl x), some (.inl n), some (.inl t)] [.inl n] h Q := by
      intro q
      have K := ih (t + 1) n (by omega) (by omega) (st.2 q)
      simp only [eq_self, and_self, am_up_at, Int.cast_ofNat_Int, Int.reduceNatCast, true_or, or_true, or_false, false_or, Classical.not_not, false_and, and_false, am_bk, am_step, am_ldI, am_ldL, am_ldA, am_nth, am_sto, am_stw_0, am_stw_i, am_stw_n, am_stw_a, am_stw_l, am_br, am_cmp, am_tk, am_cat, am_sw, am_copy, am_R, am_nc0, am_nc1, am_f0, am_f1, am_f2, am_f3, Int.reduceNeg, Int.reduceEq, Int.reduceLE, Int.reduceLT, Nat.reduceLeDiff, Nat.reduceAdd, Nat.reduceEqDiff, true_and, and_true, ↓reduceIte, if_false, if_true, forall_const, not_true_eq_false, not_false_eq_true, false_implies, true_implies, implies_true, Int.reduceAdd, Int.reduceMul, Int.reduceSub, ne_eq, ca_129_86, bl_129_45, bl_129_46, gf_86_0, pf_86_0, gf_86_1, ar_50, al_50, gf_86_2, pf_86_2, gf_86_3, pf_86_3, gf_86_4, pf_86_4, gf_86_5, pf_86_5, gf_86_6, ar_51, al_51, gf_86_7, ar_52, al_52, gf_86_8, ar_53, al_53, gf_86_9, ar_54, al_54, gf_86_10, ar_55, al_55, gf_86_11, ar_56, al_56, gf_86_12, ar_57, al_57, gf_86_13, pf_86_13, gf_86_14, pf_86_14, gf_86_15, ar_58, al_58, gf_86_16, ar_59, al_59, gf_86_17, ar_60, al_60, gf_86_18, ar_61, al_61, gf_86_19, ar_62, al_62, gf_86_20, pf_86_20, gf_86_21, pf_86_21, gf_86_22, ar_63, al_63, gf_86_23, ar_64, al_64, gf_86_24, ar_65, al_65, gf_86_25, ar_66, al_66, gf_86_26, ar_67, al_67, gf_86_27, ar_68, al_68, gf_86_28, ar_69, al_69, gf_86_29, ar_70, al_70, gf_86_30, ar_71, al_71, gf_86_31, ar_72, al_72, gf_86_32, ar_73, al_73, gf_86_33, ar_74, al_74, gf_86_34, pf_86_34, Int.add_zero]
      (repeat' (first | with_reducible apply And.intro | with_reducible intro _)) <;> first | omega | exact K
    have Ky : sg_opn (s0 (sg_of h)) a b t → am_Ex 129 42 [some (.inr (.inr (some 86))), some (.inl a), some (.inl b), some (.inl x), some (.inl n), some (.inl t)] [.inl 1, .inl n] h Q := by
      intro q
      have K := ih (t + 1) (n + 1) (by omega) (by omega) (st.1 q)
      simp only [eq_self, and_self, am_up_at, Int.cast_ofNat_Int, Int.reduceNatCast, true_or, or_true, or_false, false_or, Classical.not_not, false_and, and_false, am_bk, am_step, am_ldI, am_ldL, am_ldA, am_nth, am_sto, am_stw_0, am_stw_i, am_stw_n, am_stw_a, am_stw_l, am_br, am_cmp, am_tk, am_cat, am_sw, am_copy, am_R, am_nc0, am_nc1, am_f0, am_f1, am_f2, am_f3, Int.reduceNeg, Int.reduceEq, Int.reduceLE, Int.reduceLT, Nat.reduceLeDiff, Nat.reduceAdd, Nat.reduceEqDiff, true_and, and_true, ↓reduceIte, if_false, if_true, forall_const, not_true_eq_false, not_false_eq_true, false_implies, true_implies, implies_true, Int.reduceAdd, Int.reduceMul, Int.reduceSub, ne_eq, ca_129_86, bl_129_42, bl_129_46, gf_86_0, pf_86_0, gf_86_1, ar_50, al_50, gf_86_2, pf_86_2, gf_86_3, pf_86_3, gf_86_4, pf_86_4, gf_86_5, pf_86_5, gf_86_6, ar_51, al_51, gf_86_7, ar_52, al_52, gf_86_8, ar_53, al_53, gf_86_9, ar_54, al_54, gf_86_10, ar_55, al_55, gf_86_11, ar_56, al_56, gf_86_12, ar_57, al_57, gf_86_13, pf_86_13, gf_86_14, pf_86_14, gf_86_15, ar_58, al_58, gf_86_16, ar_59, al_59, gf_86_17, ar_60, al_60, gf_86_18, ar_61, al_61, gf_86_19, ar_62, al_62, gf_86_20, pf_86_20, gf_86_21, pf_86_21, gf_86_22, ar_63, al_63, gf_86_23, ar_64, al_64, gf_86_24, ar_65, al_65, gf_86_25, ar_66, al_66, gf_86_26, ar_67, al_67, gf_86_27, ar_68, al_68, gf_86_28, ar_69, al_69, gf_86_29, ar_70, al_70, gf_86_30, ar_71, al_71, gf_86_31, ar_72, al_72, gf_86_32, ar_73, al_73, gf_86_33, ar_74, al_74, gf_86_34, pf_86_34]
      (repeat' (first | with_reducible apply And.intro | with_reducible intro _)) <;> first | omega | exact K
    have Kz : ¬ sg_opn (s0 (sg_of h)) a b t → am_Ex 129 42 [some (.inr (.inr (some 86))), some (.inl a), some (.inl b), some (.inl x), some (.inl n), some (.inl t)] [.inl 0, .inl n] h Q := by
      intro q
      have K := Kn q
      simp only [eq_self, and_self, am_up_at, Int.cast_ofNat_Int, Int.reduceNatCast, true_or, or_true, or_false, false_or, Classical.not_not, false_and, and_false, am_bk, am_step, am_ldI, am_ldL, am_ldA, am_nth, am_sto, am_stw_0, am_stw_i, am_stw_n, am_stw_a, am_stw_l, am_br, am_cmp, am_tk, am_cat, am_sw, am_copy, am_R, am_nc0, am_nc1, am_f0, am_f1, am_f2, am_f3, Int.reduceNeg, Int.reduceEq, Int.reduceLE, Int.reduceLT, Nat.reduceLeDiff, Nat.reduceAdd, Nat.reduceEqDiff, true_and, and_true, ↓reduceIte, if_false, if_true, forall_const, not_true_eq_false, not_false_eq_true, false_implies, true_implies, implies_true, Int.reduceAdd, Int.reduceMul, Int.reduceSub, ne_eq, ca_129_86, bl_129_42, gf_86_0, pf_86_0, gf_86_1, ar_50, al_50, gf_86_2, pf_86_2, gf_86_3, pf_86_3, gf_86_4, pf_86_4, gf_86_5, pf_86_5, gf_86_6, ar_51, al_51, gf_86_7, ar_52, al_52, gf_86_8, ar_53, al_53, gf_86_9, ar_54, al_54, gf_86_10, ar_55, al_55, gf_86_11, ar_56, al_56, gf_86_12, ar_57, al_57, gf_86_13, pf_86_13, gf_86_14, pf_86_14, gf_86_15, ar_58, al_58, gf_86_16, ar_59, al_59, gf_86_17, ar_60, al_60, gf_86_18, ar_61, al_61, gf_86_19, ar_62, al_62, gf_86_20, pf_86_20, gf_86_21, pf_86_21, gf_86_22, ar_63, al_63, gf_86_23, ar_64, al_64, gf_86_24, ar_65, al_65, gf_86_25, ar_66, al_66, gf_86_26, ar_67, al_67, gf_86_27, ar_68, al_68, gf_86_28, ar_69, al_69, gf_86_29, ar_70, al_70, gf_86_30, ar_71, al_71, gf_86_31, ar_72, al_72, gf_86_32, ar_73, al_73, gf_86_33, ar_74, al_74, gf_86_34, pf_86_34]
      (repeat' (first | with_reducible apply And.intro | with_reducible intro _)) <;> first | omega | exact K
    have Kb : ¬ sg_bes (sg_of h) a b → am_Ex 129 26 [some (.inr (.inr (some 86))), some (.inl a), some (.inl b), some (.inl x), some (.inl n), some (.inl t)] [.inl 0, .inl n] h Q := by
      intro q
      have K := Kn (fun z => q (o.mp z).1)
      simp only [eq_self, and_self, am_up_at, Int.cast_ofNat_Int, Int.reduceNatCast, true_or, or_true, or_false, false_or, Classical.not_not, false_and, and_false, am_bk, am_step, am_ldI, am_ldL, am_ldA, am_nth, am_sto, am_stw_0, am_stw_i, am_stw_n, am_stw_a, am_stw_l, am_br, am_cmp, am_tk, am_cat, am_sw, am_copy, am_R, am_nc0, am_nc1, am_f0, am_f1, am_f2, am_f3, Int.reduceNeg, Int.reduceEq, Int.reduceLE, Int.reduceLT, Nat.reduceLeDiff, Nat.reduceAdd, Nat.reduceEqDiff, true_and, and_true, ↓reduceIte, if_false, if_true, forall_const, not_true_eq_false, not_false_eq_true, false_implies, true_implies, implies_true, Int.reduceAdd, Int.reduceMul, Int.reduceSub, ne_eq, ca_129_86, bl_129_26, gf_86_0, pf_86_0, gf_86_1, ar_50, al_50, gf_86_2, pf_86_2, gf_86_3, pf_86_3, gf_86_4, pf_86_4, gf_86_5, pf_86_5, gf_86_6, ar_51, al_51, gf_86_7, ar_52, al_52, gf_86_8, ar_53, al_53, gf_86_9, ar_54, al_54, gf_86_10, ar_55, al_55, gf_86_11, ar_56, al_56, gf_86_12, ar_57, al_57, gf_86_13, pf_86_13, gf_86_14, pf_86_14, gf_86_15, ar_58, al_58, gf_86_16, ar_59, al_59, gf_86_17, ar_60, al_60, gf_86_18, ar_61, al_61, gf_86_19, ar_62, al_62, gf_86_20, pf_86_20, gf_86_21, pf_86_21, gf_86_22, ar_63, al_63, gf_86_23, ar_64, al_64, gf_86_24, ar_65, al_65, gf_86_25, ar_66, al_66, gf_86_26, ar_67, al_67, gf_86_27, ar_68, al_68, gf_86_28, ar_69, al_69, gf_86_29, ar_70, al_70, gf_86_30, ar_71, al_71, gf_86_31, ar_72, al_72, gf_86_32, ar_73, al_73, gf_86_33, ar_74, al_74, gf_86_34, pf_86_34]
      (repeat' (first | with_reducible apply And.intro | with_reducible intro _)) <;> first | omega | exact K
    have Kc : sg_bes (sg_of h) a b → am_Ex 129 26 [some (.inr (.inr (some 86))), some (.inl a), some (.inl b), some (.inl x), some (.inl n), some (.inl t)] [.inl 1, .inl n] h Q := by
      intro q
      have K3 : am_Ex 129 40 [some (.inr (.inr (some 86))), some (.inl a), some (.inl b), some (.inl x), some (.inl n), some (.inl t)] [.inl (sg_by (sg_of h) b t t), .inl (sg_by (sg_of h) a t t), .inl b, .inl a, .inr (.inr (some 86)), .inl n] h Q := by
        simp only [eq_self, and_self, am_up_at, Int.cast_ofNat_Int, Int.reduceNatCast, true_or, or_true, or_false, false_or, Classical.not_not, false_and, and_false, am_bk, am_step, am_ldI, am_ldL, am_ldA, am_nth, am_sto, am_stw_0, am_stw_i, am_stw_n, am_stw_a, am_stw_l, am_br, am_cmp, am_tk, am_cat, am_sw, am_copy, am_R, am_nc0, am_nc1, am_f0, am_f1, am_f2, am_f3, Int.reduceNeg, Int.reduceEq, Int.reduceLE, Int.reduceLT, Nat.reduceLeDiff, Nat.reduceAdd, Nat.reduceEqDiff, true_and, and_true, ↓reduceIte, if_false, if_true, forall_const, not_true_eq_false, not_false_eq_true, false_implies, true_implies, implies_true, Int.reduceAdd, Int.reduceMul, Int.reduceSub, ne_eq, ca_129_86, bl_129_40, gf_86_0, pf_86_0, gf_86_1, ar_50, al_50, gf_86_2, pf_86_2, gf_86_3, pf_86_3, gf_86_4, pf_86_4, gf_86_5, pf_86_5, gf_86_6, ar_51, al_51, gf_86_7, ar_52, al_52, gf_86_8, ar_53, al_53, gf_86_9, ar_54, al_54, gf_86_10, ar_55, al_55, gf_86_11, ar_56, al_56, gf_86_12, ar_57, al_57, gf_86_13, pf_86_13, gf_86_14, pf_86_14, gf_86_15, ar_58, al_58, gf_86_16, ar_59, al_59, gf_86_17, ar_60, al_60, gf_86_18, ar_61, al_61, gf_86_19, ar_62, al_62, gf_86_20, pf_86_20, gf_86_21, pf_86_21, gf_86_22, ar_63, al_63, gf_86_23, ar_64, al_64, gf_86_24, ar_65, al_65, gf_86_25, ar_66, al_66, gf_86_26, ar_67, al_67, gf_86_27, ar_68, al_68, gf_86_28, ar_69, al_69, gf_86_29, ar_70, al_70, gf_86_30, ar_71, al_71, gf_86_31, ar_72, al_72, gf_86_32, ar_73, al_73, gf_86_33, ar_74, al_74, gf_86_34, pf_86_34]
        exact sp_isOpenAt hS ha hb (by_r a) (by_r b) (by omega) (fun z => Ky (o.mpr ⟨q, z⟩)) (fun z => Kz (fun w => z (o.mp w).2))
      have K2 : am_Ex 129 35 [some (.inr (.inr (some 86))), some (.inl a), some (.inl b), some (.inl x), some (.inl n), some (.inl t)] [.inl (sg_by (sg_of h) a t t), .inl b, .inl a, .inr (.inr (some 86)), .inl n] h Q := by
        simp only [eq_self, and_self, am_up_at, Int.cast_ofNat_Int, Int.reduceNatCast, true_or, or_true, or_false, false_or, Classical.not_not, false_and, and_false, am_bk, am_step, am_ldI, am_ldL, am_ldA, am_nth, am_sto, am_stw_0, am_stw_i, am_stw_n, am_stw_a, am_stw_l, am_br, am_cmp, am_tk, am_cat, am_sw, am_copy, am_R, am_nc0, am_nc1, am_f0, am_f1, am_f2, am_f3, Int.reduceNeg, Int.reduceEq, Int.reduceLE, Int.reduceLT, Nat.reduceLeDiff, Nat.reduceAdd, Nat.reduceEqDiff, true_and, and_true, ↓reduceIte, if_false, if_true, forall_const, not_true_eq_false, not_false_eq_true, false_implies, true_implies, implies_true, Int.reduceAdd, Int.reduceMul, Int.reduceSub, ne_eq, ca_129_86, bl_129_35, gf_86_0, pf_86_0, gf_86_1, ar_50, al_50, gf_86_2, pf_86_2, gf_86_3, pf_86_3, gf_86_4, pf_86_4, gf_86_5, pf_86_5, gf_86_6, ar_51, al_51, gf_86_7, ar_52, al_52, gf_86_8, ar_53, al_53, gf_86_9, ar_54, al_54, gf_86_10, ar_55, al_55, gf_86_11, ar_56, al_56, gf_86_12, ar_57, al_57, gf_86_13, pf_86_13, gf_86_14, pf_86_14, gf_86_15, ar_58, al_58, gf_86_16, ar_59, al_59, gf_86_17, ar_60, al_60, gf_86_18, ar_61, al_61, gf_86_19, ar_62, al_62, gf_86_20, pf_86_20, gf_86_21, pf_86_21, gf_86_22, ar_63, al_63, gf_86_23, ar_64, al_64, gf_86_24, ar_65, al_65, gf_86_25, ar_66, al_66, gf_86_26, ar_67, al_67, gf_86_27, ar_68, al_68, gf_86_28, ar_69, al_69, gf_86_29, ar_70, al_70, gf_86_30, ar_71, al_71, gf_86_31, ar_72, al_72, gf_86_32, ar_73, al_73, gf_86_33, ar_74, al_74, gf_86_34, pf_86_34]
        exact sp_spotBy hS hb (by omega) (by omega) K3
      simp only [eq_self, and_self, am_up_at, Int.cast_ofNat_Int, Int.reduceNatCast, true_or, or_true, or_false, false_or, Classical.not_not, false_and, and_false, am_bk, am_step, am_ldI, am_ldL, am_ldA, am_nth, am_sto, am_stw_0, am_stw_i, am_stw_n, am_stw_a, am_stw_l, am_br, am_cmp, am_tk, am_cat, am_sw, am_copy, am_R, am_nc0, am_nc1, am_f0, am_f1, am_f2, am_f3, Int.reduceNeg, Int.reduceEq, Int.reduceLE, Int.reduceLT, Nat.reduceLeDiff, Nat.reduceAdd, Nat.reduceEqDiff, true_and, and_true, ↓reduceIte, if_false, if_true, forall_const, not_true_eq_false, not_false_eq_true, false_implies, true_implies, implies_true, Int.reduceAdd, Int.reduceMul, Int.reduceSub, ne_eq, ca_129_86, bl_129_26, gf_86_0, pf_86_0, gf_86_1, ar_50, al_50, gf_86_2, pf_86_2, gf_86_3, pf_86_3, gf_86_4, pf_86_4, gf_86_5, pf_86_5, gf_86_6, ar_51, al_51, gf_86_7, ar_52, al_52, gf_86_8, ar_53, al_53, gf_86_9, ar_54, al_54, gf_86_10, ar_55, al_55, gf_86_11, ar_56, al_56, gf_86_12, ar_57, al_57, gf_86_13, pf_86_13, gf_86_14, pf_86_14, gf_86_15, ar_58, al_58, gf_86_16, ar_59, al_59, gf_86_17, ar_60, al_60, gf_86_18, ar_61, al_61, gf_86_19, ar_62, al_62, gf_86_20, pf_86_20, gf_86_21, pf_86_21, gf_86_22, ar_63, al_63, gf_86_23, ar_64, al_64, gf_86_24, ar_65, al_65, gf_86_25, ar_66, al_66, gf_86_26, ar_67, al_67, gf_86_27, ar_68, al_68, gf_86_28, ar_69, al_69, gf_86_29, ar_70, al_70, gf_86_30, ar_71, al_71, gf_86_31, ar_72, al_72, gf_86_32, ar_73, al_73, gf_86_33, ar_74, al_74, gf_86_34, pf_86_34]
      (repeat' (first | with_reducible apply And.intro | with_reducible intro _)) <;> first | omega | exact sp_spotBy hS ha (by omega) (by omega) K2
    rw [bl_129_17]
    simp only [eq_self, and_self, am_up_at, Int.cast_ofNat_Int, Int.reduceNatCast, true_or, or_true, or_false, false_or, Classical.not_not, false_and, and_false, am_bk, am_step, am_ldI, am_ldL, am_ldA, am_nth, am_sto, am_stw_0, am_stw_i, am_stw_n, am_stw_a, am_stw_l, am_br, am_cmp, am_tk, am_cat, am_sw, am_copy, am_R, am_nc0, am_nc1, am_f0, am_f1, am_f2, am_f3, Int.reduceNeg, Int.reduceEq, Int.reduceLE, Int.reduceLT, Nat.reduceLeDiff, Nat.reduceAdd, Nat.reduceEqDiff, true_and, and_true, ↓reduceIte, if_false, if_true, forall_const, not_true_eq_false, not_false_eq_true, false_implies, true_implies, implies_true, Int.reduceAdd, Int.reduceMul, Int.reduceSub, ne_eq, ca_129_86, bl_129_21, gf_86_0, pf_86_0, gf_86_1, ar_50, al_50, gf_86_2, pf_86_2, gf_86_3, pf_86_3, gf_86_4, pf_86_4, gf_86_5, pf_86_5, gf_86_6, ar_51, al_51, gf_86_7, ar_52, al_52, gf_86_8, ar_53, al_53, gf_86_9, ar_54, al_54, gf_86_10, ar_55, al_55, gf_86_11, ar_56, al_56, gf_86_12, ar_57, al_57, gf_86_13, pf_86_13, gf_86_14, pf_86_14, gf_86_15, ar_58, al_58, gf_86_16, ar_59, al_59, gf_86_17, ar_60, al_60, gf_86_18, ar_61, al_61, gf_86_19, ar_62, al_62, gf_86_20, pf_86_20, gf_86_21, pf_86_21, gf_86_22, ar_63, al_63, gf_86_23, ar_64, al_64, gf_86_24, ar_65, al_65, gf_86_25, ar_66, al_66, gf_86_26, ar_67, al_67, gf_86_27, ar_68, al_68, gf_86_28, ar_69, al_69, gf_86_29, ar_70, al_70, gf_86_30, ar_71, al_71, gf_86_31, ar_72, al_72, gf_86_32, ar_73, al_73, gf_86_33, ar_74, al_74, gf_86_34, pf_86_34, e4]
    (repeat' (first | with_reducible apply And.intro | with_reducible intro _)) <;> first | omega | exact sp_areBeside hS ha hb Kc Kb
set_option maxHeartbeats 400000 in
set_option maxRecDepth 100000 in
theorem pr_share {h : am_H} {k x y u : Int} (hx : am_R x) (hy : am_R y) (hu : am_R u) (hi : iv h k) (hk : k ≤ 600) : rg_pair 70 129 [.inl x, .inl y, .inl u] h k := by
  unfold rg_pair
  have hthr := iv_thr hi
  have hS := hi.1
  have hF := tb_fit_of hi
  have e1 := hS.2.1
  have hU := hS.1
  have c2 := hi.2.1.2.1
  have eG : sg_G (sg_of h) = h 86 5 := rfl
  have hz := bz_of hi hk
  have rgk := iv_rg hi hk
  obtain ⟨u1, u2⟩ := id hu
  refine gx_share hx hy hu (by omega) (fun V => ?_) (fun V => ?_)
  · exact gm_share hx hy hu (by omega) (fun _ => rg_leaf rfl (by omega) hthr) (fun V' => absurd V' (by omega))
  have hg : 0 ≤ x ∧ x < sg_G (sg_of h) := by omega
  have hg2 : 0 ≤ y ∧ y < sg_G (sg_of h) := by omega
  obtain ⟨U, hUe⟩ : ∃ U : Nat, sg_U (sg_of h) = (U : Int) := ⟨(sg_U (sg_of h)).toNat, by omega⟩
  have mod : ∀ (n : Nat) (h1 : am_H), xd h h1 k → cn (fun t => sg_opn (s0 (sg_of h)) x y t) (sg_U (sg_of h)).toNat n → ∀ q, (¬ u = 0 → (n : Int).tdiv (Nat.gcd n U : Int) = q) → (u = 0 → (U : Int).tdiv (Nat.gcd n U : Int) = q) → 0 ≤ q ∧ q ≤ 54 → am_Call 129 [.inr (.inr (some 86)), .inl x, .inl y, .inl u] h1 (rg_post k (some (.inl q))) := by
    intro n h1 X C q q1 q2 qr
    have f86 := X.1 86 (by omega)
    have em : sg_of (am_up h1 86 0 0) = sg_of h := (mx_sg (mx_thr h1)).trans (cx_sg X.1)
    refine gm_share hx hy hu (by rw [f86]; omega) (fun V' => absurd V (by rw [f86] at V'; omega)) (fun V' => ?_)
    have K := lp_shM (x := u) (Q := rg_post k (some (.inl q))) em hS hg hg2 (fun n' C' => by
      have en := cn_one _ _ _ C' C
      subst en
      have nr := cn_r _ _ C
      have e4 : (am_up h1 86 0 0) 86 4 = (U : Int) := by rw [← hUe, ← em]; rfl
      simp only [eq_self, and_self, am_up_at, Int.cast_ofNat_Int, Int.reduceNatCast, true_or, or_true, or_false, false_or, Classical.not_not, false_and, and_false, am_bk, am_step, am_ldI, am_ldL, am_ldA, am_nth, am_sto, am_stw_0, am_stw_i, am_stw_n, am_stw_a, am_stw_l, am_br, am_cmp, am_tk, am_cat, am_sw, am_copy, am_R, am_nc0, am_nc1, am_f0, am_f1, am_f2, am_f3, Int.reduceNeg, Int.reduceEq, Int.reduceLE, Int.reduceLT, Nat.reduceLeDiff, Nat.reduceAdd, Nat.reduceEqDiff, true_and, and_true, ↓reduceIte, if_false, if_true, forall_const, not_true_eq_false, not_false_eq_true, false_implies, true_implies, implies_true, Int.reduceAdd, Int.reduceMul, Int.reduceSub, ne_eq, ca_129_86, bl_129_50, gf_86_0, pf_86_0, gf_86_1, ar_50, al_50, gf_86_2, pf_86_2, gf_86_3, pf_86_3, gf_86_4, pf_86_4, gf_86_5, pf_86_5, gf_86_6, ar_51, al_51, gf_86_7, ar_52, al_52, gf_86_8, ar_53, al_53, gf_86_9, ar_54, al_54, gf_86_10, ar_55, al_55, gf_86_11, ar_56, al_56, gf_86_12, ar_57, al_57, gf_86_13, pf_86_13, gf_86_14, pf_86_14, gf_86_15, ar_58, al_58, gf_86_16, ar_59, al_59, gf_86_17, ar_60, al_60, gf_86_18, ar_61, al_61, gf_86_19, ar_62, al_62, gf_86_20, pf_86_20, gf_86_21, pf_86_21, gf_86_22, ar_63, al_63, gf_86_23, ar_64, al_64, gf_86_24, ar_65, al_65, gf_86_25, ar_66, al_66, gf_86_26, ar_67, al_67, gf_86_27, ar_68, al_68, gf_86_28, ar_69, al_69, gf_86_29, ar_70, al_70, gf_86_30, ar_71, al_71, gf_86_31, ar_72, al_72, gf_86_32, ar_73, al_73, gf_86_33, ar_74, al_74, gf_86_34, pf_86_34]
      have e4' : h1 86 4 = (U : Int) := by
        have := e4
        simp only [eq_self, and_self, am_up_at, am_up_ne, ne_eq, Nat.reduceEqDiff, Int.reduceEq, Int.reduceNeg, not_false_eq_true, false_and, and_false, true_and, and_true, ↓reduceIte, if_false, if_true, Int.reduceAdd, Int.reduceMul, Nat.reduceAdd] at this
        exact this
      rw [e4']
      refine sp_told (by omega) (by omega) hu (fun z => ?_) (fun z => ?_)
      · simp only [eq_self, and_self, am_up_at, Int.cast_ofNat_Int, Int.reduceNatCast, true_or, or_true, or_false, false_or, Classical.not_not, false_and, and_false, am_bk, am_step, am_ldI, am_ldL, am_ldA, am_nth, am_sto, am_stw_0, am_stw_i, am_stw_n, am_stw_a, am_stw_l, am_br, am_cmp, am_tk, am_cat, am_sw, am_copy, am_R, am_nc0, am_nc1, am_f0, am_f1, am_f2, am_f3, Int.reduceNeg, Int.reduceEq, Int.reduceLE, Int.reduceLT, Nat.reduceLeDiff, Nat.reduceAdd, Nat.reduceEqDiff, true_and, and_true, ↓reduceIte, if_false, if_true, forall_const, not_true_eq_false, not_false_eq_true, false_implies, true_implies, implies_true, Int.reduceAdd, Int.reduceMul, Int.reduceSub, ne_eq, ca_129_86, bl_129_55, gf_86_0, pf_86_0, gf_86_1, ar_50, al_50, gf_86_2, pf_86_2, gf_86_3, pf_86_3, gf_86_4, pf_86_4, gf_86_5, pf_86_5, gf_86_6, ar_51, al_51, gf_86_7, ar_52, al_52, gf_86_8, ar_53, al_53, gf_86_9, ar_54, al_54, gf_86_10, ar_55, al_55, gf_86_11, ar_56, al_56, gf_86_12, ar_57, al_57, gf_86_13, pf_86_13, gf_86_14, pf_86_14, gf_86_15, ar_58, al_58, gf_86_16, ar_59, al_59, gf_86_17, ar_60, al_60, gf_86_18, ar_61, al_61, gf_86_19, ar_62, al_62, gf_86_20, pf_86_20, gf_86_21, pf_86_21, gf_86_22, ar_63, al_63, gf_86_23, ar_64, al_64, gf_86_24, ar_65, al_65, gf_86_25, ar_66, al_66, gf_86_26, ar_67, al_67, gf_86_27, ar_68, al_68, gf_86_28, ar_69, al_69, gf_86_29, ar_70, al_70, gf_86_30, ar_71, al_71, gf_86_31, ar_72, al_72, gf_86_32, ar_73, al_73, gf_86_33, ar_74, al_74, gf_86_34, pf_86_34]
        exact rg_leaf (q1 z) (by omega) (ed hi X (mx_thr h1))
      · simp only [eq_self, and_self, am_up_at, Int.cast_ofNat_Int, Int.reduceNatCast, true_or, or_true, or_false, false_or, Classical.not_not, false_and, and_false, am_bk, am_step, am_ldI, am_ldL, am_ldA, am_nth, am_sto, am_stw_0, am_stw_i, am_stw_n, am_stw_a, am_stw_l, am_br, am_cmp, am_tk, am_cat, am_sw, am_copy, am_R, am_nc0, am_nc1, am_f0, am_f1, am_f2, am_f3, Int.reduceNeg, Int.reduceEq, Int.reduceLE, Int.reduceLT, Nat.reduceLeDiff, Nat.reduceAdd, Nat.reduceEqDiff, true_and, and_true, ↓reduceIte, if_false, if_true, forall_const, not_true_eq_false, not_false_eq_true, false_implies, true_implies, implies_true, Int.reduceAdd, Int.reduceMul, Int.reduceSub, ne_eq, ca_129_86, bl_129_55, gf_86_0, pf_86_0, gf_86_1, ar_50, al_50, gf_86_2, pf_86_2, gf_86_3, pf_86_3, gf_86_4, pf_86_4, gf_86_5, pf_86_5, gf_86_6, ar_51, al_51, gf_86_7, ar_52, al_52, gf_86_8, ar_53, al_53, gf_86_9, ar_54, al_54, gf_86_10, ar_55, al_55, gf_86_11, ar_56, al_56, gf_86_12, ar_57, al_57, gf_86_13, pf_86_13, gf_86_14, pf_86_14, gf_86_15, ar_58, al_58, gf_86_16, ar_59, al_59, gf_86_17, ar_60, al_60, gf_86_18, ar_61, al_61, gf_86_19, ar_62, al_62, gf_86_20, pf_86_20, gf_86_21, pf_86_21, gf_86_22, ar_63, al_63, gf_86_23, ar_64, al_64, gf_86_24, ar_65, al_65, gf_86_25, ar_66, al_66, gf_86_26, ar_67, al_67, gf_86_27, ar_68, al_68, gf_86_28, ar_69, al_69, gf_86_29, ar_70, al_70, gf_86_30, ar_71, al_71, gf_86_31, ar_72, al_72, gf_86_32, ar_73, al_73, gf_86_33, ar_74, al_74, gf_86_34, pf_86_34]
        exact rg_leaf (q2 z) (by omega) (ed hi X (mx_thr h1))) (sg_U (sg_of h)).toNat 0 0 (by omega) (by omega) rfl
    simp only [eq_self, and_self, am_up_at, Int.cast_ofNat_Int, Int.reduceNatCast, true_or, or_true, or_false, false_or, Classical.not_not, false_and, and_false, am_bk, am_step, am_ldI, am_ldL, am_ldA, am_nth, am_sto, am_stw_0, am_stw_i, am_stw_n, am_stw_a, am_stw_l, am_br, am_cmp, am_tk, am_cat, am_sw, am_copy, am_R, am_nc0, am_nc1, am_f0, am_f1, am_f2, am_f3, Int.reduceNeg, Int.reduceEq, Int.reduceLE, Int.reduceLT, Nat.reduceLeDiff, Nat.reduceAdd, Nat.reduceEqDiff, true_and, and_true, ↓reduceIte, if_false, if_true, forall_const, not_true_eq_false, not_false_eq_true, false_implies, true_implies, implies_true, Int.reduceAdd, Int.reduceMul, Int.reduceSub, ne_eq, ca_129_86, bl_129_13, gf_86_0, pf_86_0, gf_86_1, ar_50, al_50, gf_86_2, pf_86_2, gf_86_3, pf_86_3, gf_86_4, pf_86_4, gf_86_5, pf_86_5, gf_86_6, ar_51, al_51, gf_86_7, ar_52, al_52, gf_86_8, ar_53, al_53, gf_86_9, ar_54, al_54, gf_86_10, ar_55, al_55, gf_86_11, ar_56, al_56, gf_86_12, ar_57, al_57, gf_86_13, pf_86_13, gf_86_14, pf_86_14, gf_86_15, ar_58, al_58, gf_86_16, ar_59, al_59, gf_86_17, ar_60, al_60, gf_86_18, ar_61, al_61, gf_86_19, ar_62, al_62, gf_86_20, pf_86_20, gf_86_21, pf_86_21, gf_86_22, ar_63, al_63, gf_86_23, ar_64, al_64, gf_86_24, ar_65, al_65, gf_86_25, ar_66, al_66, gf_86_26, ar_67, al_67, gf_86_27, ar_68, al_68, gf_86_28, ar_69, al_69, gf_86_29, ar_70, al_70, gf_86_30, ar_71, al_71, gf_86_31, ar_72, al_72, gf_86_32, ar_73, al_73, gf_86_33, ar_74, al_74, gf_86_34, pf_86_34]
    exact K
  simp only [eq_self, and_self, am_up_at, Int.cast_ofNat_Int, Int.reduceNatCast, true_or, or_true, or_false, false_or, Classical.not_not, false_and, and_false, am_bk, am_step, am_ldI, am_ldL, am_ldA, am_nth, am_sto, am_stw_0, am_stw_i, am_stw_n, am_stw_a, am_stw_l, am_br, am_cmp, am_tk, am_cat, am_sw, am_copy, am_R, am_nc0, am_nc1, am_f0, am_f1, am_f2, am_f3, Int.reduceNeg, Int.reduceEq, Int.reduceLE, Int.reduceLT, Nat.reduceLeDiff, Nat.reduceAdd, Nat.reduceEqDiff, true_and, and_true, ↓reduceIte, if_false, if_true, forall_const, not_true_eq_false, not_false_eq_true, false_implies, true_implies, implies_true, Int.reduceAdd, Int.reduceMul, Int.reduceSub, ne_eq, ca_70_75, bl_70_7, gf_75_0, ar_0, al_0, gf_75_1, pf_75_1, gf_75_2, gf_75_3, gf_75_4, gf_75_5, gf_75_6, gf_75_7, gf_75_8, gf_75_9, gf_75_10]
  refine sp_tk_trial_now (fun h1 ⟨t1, t2, t3, t4, t5⟩ => ?_)
  simp only [eq_self, and_self, am_up_at, Int.cast_ofNat_Int, Int.reduceNatCast, true_or, or_true, or_false, false_or, Classical.not_not, false_and, and_false, am_bk, am_step, am_ldI, am_ldL, am_ldA, am_nth, am_sto, am_stw_0, am_stw_i, am_stw_n, am_stw_a, am_stw_l, am_br, am_cmp, am_tk, am_cat, am_sw, am_copy, am_R, am_nc0, am_nc1, am_f0, am_f1, am_f2, am_f3, Int.reduceNeg, Int.reduceEq, Int.reduceLE, Int.reduceLT, Nat.reduceLeDiff, Nat.reduceAdd, Nat.reduceEqDiff, true_and, and_true, ↓reduceIte, if_false, if_true, forall_const, not_true_eq_false, not_false_eq_true, false_implies, true_implies, implies_true, Int.reduceAdd, Int.reduceMul, Int.reduceSub, ne_eq, ca_70_75, bl_70_12, gf_75_0, ar_0, al_0, gf_75_1, pf_75_1, gf_75_2, gf_75_3, gf_75_4, gf_75_5, gf_75_6, gf_75_7, gf_75_8, gf_75_9, gf_75_10]
  refine sp_clearT (fun h2 c1 cz => ?_)
  have fx : ∀ c, (c < 17 ∨ 22 < c) → c ≠ 80 → h2 c = h c := fun c q1 q2 => (c1 c (by omega) (by omega)).trans (t5 c q2 (by omega))
  have e83 := fx 83 (by omega) (by omega)
  simp only [eq_self, and_self, am_up_at, Int.cast_ofNat_Int, Int.reduceNatCast, true_or, or_true, or_false, false_or, Classical.not_not, false_and, and_false, am_bk, am_step, am_ldI, am_ldL, am_ldA, am_nth, am_sto, am_stw_0, am_stw_i, am_stw_n, am_stw_a, am_stw_l, am_br, am_cmp, am_tk, am_cat, am_sw, am_copy, am_R, am_nc0, am_nc1, am_f0, am_f1, am_f2, am_f3, Int.reduceNeg, Int.reduceEq, Int.reduceLE, Int.reduceLT, Nat.reduceLeDiff, Nat.reduceAdd, Nat.reduceEqDiff, true_and, and_true, ↓reduceIte, if_false, if_true, forall_const, not_true_eq_false, not_false_eq_true, false_implies, true_implies, implies_true, Int.reduceAdd, Int.reduceMul, Int.reduceSub, ne_eq, ca_70_75, bl_70_15, gf_75_0, ar_0, al_0, gf_75_1, pf_75_1, gf_75_2, gf_75_3, gf_75_4, gf_75_5, gf_75_6, gf_75_7, gf_75_8, gf_75_9, gf_75_10]
  refine sp_layT (S := s0 (sg_of h)) (s0_ok hS) (s0_fit _) (pl_ok_mv hz.2.2.1 (fun c hc => fx c (by omega) (by omega))) (pr_ok_mv hz.2.2.2.1 (fun c hc => fx c (by omega) (by omega)) (by rw [e83])) (fun q q1 q2 => ?_) (by rw [e83]; omega) (by
      have b4 := rgk.2
      unfold wt_rg at b4 ⊢
      rw [e83, fx 42 (by omega) (by omega)]
      exact b4) (fun h3 y3 l10 l9 lc => ?_)
  · have tq := t1 q q1 q2
    have zq := hz.2.2.2.2.1 q q1 q2
    exact ⟨by rw [c1 17 (by omega) (by omega), tq.1]; exact zq.1, (cz q q1 q2).1, (cz q q1 q2).2⟩
  have X : xd h h3 k := xd_of hi y3 (by rw [l10, e83]; omega) (by rw [l9, e83]) (fun c hc => by
    unfold iv_rel at hc
    rw [lc c (by omega) (by omega), fx c (by omega) (by omega)])
  obtain ⟨hS3, hF3, hT3, hP3, hR3, _⟩ := id y3
  have p0 : h3 78 0 = (U : Int) := by rw [← hUe]; exact hP3.1
  simp only [eq_self, and_self, am_up_at, Int.cast_ofNat_Int, Int.reduceNatCast, true_or, or_true, or_false, false_or, Classical.not_not, false_and, and_false, am_bk, am_step, am_ldI, am_ldL, am_ldA, am_nth, am_sto, am_stw_0, am_stw_i, am_stw_n, am_stw_a, am_stw_l, am_br, am_cmp, am_tk, am_cat, am_sw, am_copy, am_R, am_nc0, am_nc1, am_f0, am_f1, am_f2, am_f3, Int.reduceNeg, Int.reduceEq, Int.reduceLE, Int.reduceLT, Nat.reduceLeDiff, Nat.reduceAdd, Nat.reduceEqDiff, true_and, and_true, ↓reduceIte, if_false, if_true, forall_const, not_true_eq_false, not_false_eq_true, false_implies, true_implies, implies_true, Int.reduceAdd, Int.reduceMul, Int.reduceSub, ne_eq, ca_70_75, bl_70_20, gf_75_0, ar_0, al_0, gf_75_1, pf_75_1, gf_75_2, gf_75_3, gf_75_4, gf_75_5, gf_75_6, gf_75_7, gf_75_8, gf_75_9, gf_75_10]
  have out : ∀ j, jn_ok h3 (s0 (sg_of h)) x y j → am_Ex 70 25 [some (.inr (.inr (some 75))), some (.inl x), some (.inl y), some (.inl u), none, none, none] [.inl j] h3 (fun o h1 => am_Call 129 [.inr (.inr (some 86)), .inl x, .inl y, .inl u] h1 (rg_post k o)) := by
    intro j hj
    simp only [eq_self, and_self, am_up_at, Int.cast_ofNat_Int, Int.reduceNatCast, true_or, or_true, or_false, false_or, Classical.not_not, false_and, and_false, am_bk, am_step, am_ldI, am_ldL, am_ldA, am_nth, am_sto, am_stw_0, am_stw_i, am_stw_n, am_stw_a, am_stw_l, am_br, am_cmp, am_tk, am_cat, am_sw, am_copy, am_R, am_nc0, am_nc1, am_f0, am_f1, am_f2, am_f3, Int.reduceNeg, Int.reduceEq, Int.reduceLE, Int.reduceLT, Nat.reduceLeDiff, Nat.reduceAdd, Nat.reduceEqDiff, true_and, and_true, ↓reduceIte, if_false, if_true, forall_const, not_true_eq_false, not_false_eq_true, false_implies, true_implies, implies_true, Int.reduceAdd, Int.reduceMul, Int.reduceSub, ne_eq, ca_70_75, bl_70_25, gf_75_0, ar_0, al_0, gf_75_1, pf_75_1, gf_75_2, gf_75_3, gf_75_4, gf_75_5, gf_75_6, gf_75_7, gf_75_8, gf_75_9, gf_75_10]
    refine lp_shX y3 hg hg2 hj (fun n C => ?_) (sg_U (sg_of h)).toNat 0 0 (by omega) (by show 0 + _ = sg_U (sg_of h); omega) rfl
    have nr := cn_r _ _ C
    have eU : sg_U (s0 (sg_of h)) = sg_U (sg_of h) := rfl
    rw [eU] at nr
    obtain ⟨N, rfl⟩ : ∃ N : Nat, n = (N : Int) := ⟨n.toNat, by omega⟩
    have g0 : 0 < Nat.gcd N U := Nat.gcd_pos_of_pos_right N (by omega)
    have gl : Nat.gcd N U ≤ U := Nat.gcd_le_right N (by omega)
    have dr : ∀ z : Nat, z ≤ 54 → 0 ≤ (z : Int).tdiv (Nat.gcd N U : Int) ∧ (z : Int).tdiv (Nat.gcd N U : Int) ≤ 54 := fun z hz => by
      rw [Int.tdiv_eq_ediv_of_nonneg (by omega)]
      exact ⟨Int.ediv_nonneg (by omega) (by omega), Int.le_trans (Int.ediv_le_self _ (by omega)) (by omega)⟩
    have Ka := fun z => mod N h3 X C ((N : Int).tdiv (Nat.gcd N U : Int)) (fun _ => rfl) (fun w => absurd w z) (dr N (by omega))
    have Kb := fun z => mod N h3 X C ((U : Int).tdiv (Nat.gcd N U : Int)) (fun w => absurd z w) (fun _ => rfl) (dr U (by omega))
    have K : am_Ex 70 49 [some (.inr (.inr (some 75))), some (.inl x), some (.inl y), some (.inl u), some (.inl j), some (.inl (N : Int)), some (.inl (sg_U (s0 (sg_of h))))] [.inl (Nat.gcd N U : Int)] h3 (fun o h1 => am_Call 129 [.inr (.inr (some 86)), .inl x, .inl y, .inl u] h1 (rg_post k o)) := by
      simp only [eq_self, and_self, am_up_at, Int.cast_ofNat_Int, Int.reduceNatCast, true_or, or_true, or_false, false_or, Classical.not_not, false_and, and_false, am_bk, am_step, am_ldI, am_ldL, am_ldA, am_nth, am_sto, am_stw_0, am_stw_i, am_stw_n, am_stw_a, am_stw_l, am_br, am_cmp, am_tk, am_cat, am_sw, am_copy, am_R, am_nc0, am_nc1, am_f0, am_f1, am_f2, am_f3, Int.reduceNeg, Int.reduceEq, Int.reduceLE, Int.reduceLT, Nat.reduceLeDiff, Nat.reduceAdd, Nat.reduceEqDiff, true_and, and_true, ↓reduceIte, if_false, if_true, forall_const, not_true_eq_false, not_false_eq_true, false_implies, true_implies, implies_true, Int.reduceAdd, Int.reduceMul, Int.reduceSub, ne_eq, ca_70_75, bl_70_49, bl_70_54, bl_70_57, gf_75_0, ar_0, al_0, gf_75_1, pf_75_1, gf_75_2, gf_75_3, gf_75_4, gf_75_5, gf_75_6, gf_75_7, gf_75_8, gf_75_9, gf_75_10, gf_78_0, pf_78_0, gf_78_1, pf_78_1, gf_78_2, ar_6, al_6, gf_78_3, ar_7, al_7, gf_78_4, ar_8, al_8, gf_78_5, ar_9, al_9, gf_78_6, ar_10, al_10, p0]
      (repeat' (first | with_reducible apply And.intro | with_reducible intro _)) <;> first | omega | exact Ka (by assumption) | exact Kb (by assumption)
    simp only [eq_self, and_self, am_up_at, Int.cast_ofNat_Int, Int.reduceNatCast, true_or, or_true, or_false, false_or, Classical.not_not, false_and, and_false, am_bk, am_step, am_ldI, am_ldL, am_ldA, am_nth, am_sto, am_stw_0, am_stw_i, am_stw_n, am_stw_a, am_stw_l, am_br, am_cmp, am_tk, am_cat, am_sw, am_copy, am_R, am_nc0, am_nc1, am_f0, am_f1, am_f2, am_f3, Int.reduceNeg, Int.reduceEq, Int.reduceLE, Int.reduceLT, Nat.reduceLeDiff, Nat.reduceAdd, Nat.reduceEqDiff, true_and, and_true, ↓reduceIte, if_false, if_true, forall_const, not_true_eq_false, not_false_eq_true, false_implies, true_implies, implies_true, Int.reduceAdd, Int.reduceMul, Int.reduceSub, ne_eq, ca_70_75, bl_70_44, gf_75_0, ar_0, al_0, gf_75_1, pf_75_1, gf_75_2, gf_75_3, gf_75_4, gf_75_5, gf_75_6, gf_75_7, gf_75_8, gf_75_9, gf_75_10, gf_78_0, pf_78_0, gf_78_1, pf_78_1, gf_78_2, ar_6, al_6, gf_78_3, ar_7, al_7, gf_78_4, ar_8, al_8, gf_78_5, ar_9, al_9, gf_78_6, ar_10, al_10, p0]
    exact sp_cdiv (by omega) (by omega) K
  exact sp_joinOf hS3 hP3 hg hg2 (fun z => out _ (Or.inl ⟨rfl, z⟩)) (fun z => out _ (Or.inr ⟨rfl, z⟩))
