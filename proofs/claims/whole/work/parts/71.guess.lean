/-! the class: guess -/
theorem am_mb2 {a n : Int} {N : Int} (h1 : -18 ≤ a ∧ a ≤ 18) (h2 : 0 ≤ n ∧ n ≤ N) : -(18 * N) ≤ a * n ∧ a * n ≤ 18 * N := by
  have e : a * n = (a - a / 2) * n + (a / 2) * n := by rw [← Int.add_mul]; congr 1; omega
  have x := am_mb (a := a - a / 2) (n := n) (N := N) (by omega) h2
  have y := am_mb (a := a / 2) (n := n) (N := N) (by omega) h2
  omega
def zr (S : sg_S) (a b d t : Int) : Prop := (sg_pl S a - sg_pl S b + d * t) % sg_U S = 0
def dv (h : am_H) (c d : Int) : Prop := lb (Int64.ofInt (h 47 c)) (18 + d) = true
theorem dv_up {h : am_H} {C d c e : Int} (hd : -18 ≤ d ∧ d ≤ 18) (he : -18 ≤ e ∧ e ≤ 18) : dv (am_up h 47 C (Int64.ofInt (h 47 C) &&& (am_lshl (Int64.ofInt 1) (18 + d) ^^^ Int64.ofInt (-1))).toInt) c e ↔ (dv h c e ∧ ¬ (c = C ∧ e = d)) := by
  unfold dv
  rw [am_up_at]
  by_cases q : c = C
  · rw [if_pos ⟨rfl, q⟩, Int64.ofInt_toInt, lb_clr (by omega) (by omega), q]
    exact ⟨fun z => ⟨z.1, fun y => z.2 (by omega)⟩, fun z => ⟨z.1, fun y => z.2 ⟨rfl, by omega⟩⟩⟩
  · rw [if_neg (fun z => q z.2)]
    exact ⟨fun z => ⟨z, fun y => q y.1⟩, fun z => z.1⟩
set_option maxHeartbeats 400000 in
set_option maxRecDepth 100000 in
theorem it_ro {S : sg_S} {x y t i a b d : Int} {h : am_H} {Q : am_P} (hS : sg_ok S) (hP : pl_ok h S) (ha : 0 ≤ a ∧ a < sg_G S) (hb : 0 ≤ b ∧ b < sg_G S) (hd : -18 ≤ d ∧ d ≤ 18) (K1 : (sg_pl S a - sg_pl S b + d * t) % sg_U S = 0 → am_Ex 4 29 [some (.inr (.inr (some 85))), some (.inl x), some (.inl y), some (.inl t), some (.inl i), some (.inl a), some (.inl b), some (.inl (d + 1))] [] h Q) (K2 : ¬ (sg_pl S a - sg_pl S b + d * t) % sg_U S = 0 → am_Ex 4 29 [some (.inr (.inr (some 85))), some (.inl x), some (.inl y), some (.inl t), some (.inl i), some (.inl a), some (.inl b), some (.inl (d + 1))] [] (am_up h 47 (3 * sg_ri S a + sg_ri S b) (Int64.ofInt (h 47 (3 * sg_ri S a + sg_ri S b)) &&& (am_lshl (Int64.ofInt 1) (18 + d) ^^^ Int64.ofInt (-1))).toInt) Q) : am_Ex 4 50 [some (.inr (.inr (some 85))), some (.inl x), some (.inl y), some (.inl t), some (.inl i), some (.inl a), some (.inl b), some (.inl d)] [.inl ((sg_pl S a - sg_pl S b + d * t) % sg_U S)] h Q := by
  have U := hS.1
  have G := hS.2.1
  have pa := hS.2.2.1 a ha.1 ha.2
  have pb := hS.2.2.1 b hb.1 hb.2
  have ea := (hP.2.2 a ha.1 ha.2).1
  have eb := (hP.2.2 b hb.1 hb.2).1
  have m0 := Int.emod_nonneg (sg_pl S a - sg_pl S b + d * t) (show sg_U S ≠ 0 by omega)
  have m1 := Int.emod_lt_of_pos (sg_pl S a - sg_pl S b + d * t) (show 0 < sg_U S by omega)
  generalize (sg_pl S a - sg_pl S b + d * t) % sg_U S = w at *
  simp only [eq_self, and_self, am_up_at, Int.cast_ofNat_Int, Int.reduceNatCast, true_or, or_true, or_false, false_or, Classical.not_not, false_and, and_false, am_bk, am_step, am_ldI, am_ldL, am_ldA, am_nth, am_sto, am_stw_0, am_stw_i, am_stw_n, am_stw_a, am_stw_l, am_br, am_cmp, am_tk, am_cat, am_sw, am_copy, am_R, am_nc0, am_nc1, am_f0, am_f1, am_f2, am_f3, Int.reduceNeg, Int.reduceEq, Int.reduceLE, Int.reduceLT, Nat.reduceLeDiff, Nat.reduceAdd, Nat.reduceEqDiff, true_and, and_true, ↓reduceIte, if_false, if_true, forall_const, not_true_eq_false, not_false_eq_true, false_implies, true_implies, implies_true, Int.reduceAdd, Int.reduceMul, Int.reduceSub, ne_eq, ca_4_85, bl_4_50, bl_4_62, bl_4_74, bl_4_77, gf_85_0, gf_85_1, ar_47, al_47, gf_85_2, ar_48, al_48, gf_85_3, ar_49, al_49, gf_85_4, pf_85_4, gf_78_0, pf_78_0, gf_78_1, pf_78_1, gf_78_2, ar_6, al_6, gf_78_3, ar_7, al_7, gf_78_4, ar_8, al_8, gf_78_5, ar_9, al_9, gf_78_6, ar_10, al_10, ea, eb]
  (repeat' (first | with_reducible apply And.intro | with_reducible intro _)) <;> first | omega | exact K1 (by omega) | exact K2 (by omega)
set_option maxHeartbeats 400000 in
set_option maxRecDepth 100000 in
theorem lp_ro {S : sg_S} {x y t i a b : Int} {h0 : am_H} {Q : am_P} (hS : sg_ok S) (hP : pl_ok h0 S) (ha : 0 ≤ a ∧ a < sg_G S) (hb : 0 ≤ b ∧ b < sg_G S) (ht : 0 ≤ t ∧ t < 300) (H : ∀ h1, (∀ c, c ≠ 47 → h1 c = h0 c) → (∀ c e, -18 ≤ e → e ≤ 18 → (dv h1 c e ↔ (dv h0 c e ∧ (c = 3 * sg_ri S a + sg_ri S b → zr S a b e t)))) → Q none h1) :
    ∀ (m : Nat) (d : Int) (h : am_H), -18 ≤ d → d + m = 19 → (∀ c, c ≠ 47 → h c = h0 c) → (∀ c e, -18 ≤ e → e ≤ 18 → (dv h c e ↔ (dv h0 c e ∧ (c = 3 * sg_ri S a + sg_ri S b → e < d → zr S a b e t)))) → am_Ex 4 29 [some (.inr (.inr (some 85))), some (.inl x), some (.inl y), some (.inl t), some (.inl i), some (.inl a), some (.inl b), some (.inl d)] [] h Q := by
  intro m
  have U := hS.1
  have G := hS.2.1
  have pa := hS.2.2.1 a ha.1 ha.2
  have pb := hS.2.2.1 b hb.1 hb.2
  induction m with
  | zero =>
    intro d h d0 d1 hf I
    have K := H h hf (fun c e e1 e2 => by
      rw [I c e e1 e2]
      exact ⟨fun z => ⟨z.1, fun q => z.2 q (by omega)⟩, fun z => ⟨z.1, fun q _ => z.2 q⟩⟩)
    rw [bl_4_29]
    simp only [eq_self, and_self, am_up_at, Int.cast_ofNat_Int, Int.reduceNatCast, true_or, or_true, or_false, false_or, Classical.not_not, false_and, and_false, am_bk, am_step, am_ldI, am_ldL, am_ldA, am_nth, am_sto, am_stw_0, am_stw_i, am_stw_n, am_stw_a, am_stw_l, am_br, am_cmp, am_tk, am_cat, am_sw, am_copy, am_R, am_nc0, am_nc1, am_f0, am_f1, am_f2, am_f3, Int.reduceNeg, Int.reduceEq, Int.reduceLE, Int.reduceLT, Nat.reduceLeDiff, Nat.reduceAdd, Nat.reduceEqDiff, true_and, and_true, ↓reduceIte, if_false, if_true, forall_const, not_true_eq_false, not_false_eq_true, false_implies, true_implies, implies_true, Int.reduceAdd, Int.reduceMul, Int.reduceSub, ne_eq, bl_4_79]
    (repeat' (first | with_reducible apply And.intro | with_reducible intro _)) <;> first | omega | exact K
  | succ m ih =>
    intro d h d0 d1 hf I
    have hP1 := pl_ok_mv hP (fun c hc => hf c (by omega))
    have ea := (hP1.2.2 a ha.1 ha.2).2.2.1
    have eb := (hP1.2.2 b hb.1 hb.2).2.2.1
    have e0 := hP1.1
    have mb := am_mb2 (a := d) (n := t) (N := 299) (by omega) (by omega)
    have K := it_ro (x := x) (y := y) (t := t) (i := i) (Q := Q) hS hP1 ha hb (show -18 ≤ d ∧ d ≤ 18 by omega) (fun q => ih (d + 1) h (by omega) (by omega) hf (fun c e e1 e2 => by
        rw [I c e e1 e2]
        refine ⟨fun z => ⟨z.1, fun y1 y2 => ?_⟩, fun z => ⟨z.1, fun y1 y2 => z.2 y1 (by omega)⟩⟩
        by_cases ce : e = d
        · rw [ce]; exact q
        · exact z.2 y1 (by omega))) (fun q => ih (d + 1) _ (by omega) (by omega) (fun c hc => by rw [am_up_ne hc, hf c hc]) (fun c e e1 e2 => by
        rw [dv_up (by omega) (by omega), I c e e1 e2]
        refine ⟨fun z => ⟨z.1.1, fun y1 y2 => ?_⟩, fun z => ⟨⟨z.1, fun y1 y2 => z.2 y1 (by omega)⟩, fun y => ?_⟩⟩
        · by_cases ce : e = d
          · exact absurd ⟨y1, ce⟩ z.2
          · exact z.1.2 y1 (by omega)
        · have := z.2 y.1 (by omega)
          rw [y.2] at this
          exact q this))
    rw [bl_4_29]
    simp only [eq_self, and_self, am_up_at, Int.cast_ofNat_Int, Int.reduceNatCast, true_or, or_true, or_false, false_or, Classical.not_not, false_and, and_false, am_bk, am_step, am_ldI, am_ldL, am_ldA, am_nth, am_sto, am_stw_0, am_stw_i, am_stw_n, am_stw_a, am_stw_l, am_br, am_cmp, am_tk, am_cat, am_sw, am_copy, am_R, am_nc0, am_nc1, am_f0, am_f1, am_f2, am_f3, Int.reduceNeg, Int.reduceEq, Int.reduceLE, Int.reduceLT, Nat.reduceLeDiff, Nat.reduceAdd, Nat.reduceEqDiff, true_and, and_true, ↓reduceIte, if_false, if_true, forall_const, not_true_eq_false, not_false_eq_true, false_implies, true_implies, implies_true, Int.reduceAdd, Int.reduceMul, Int.reduceSub, ne_eq, ca_4_85, bl_4_32, bl_4_44, gf_85_0, gf_85_1, ar_47, al_47, gf_85_2, ar_48, al_48, gf_85_3, ar_49, al_49, gf_85_4, pf_85_4, gf_78_0, pf_78_0, gf_78_1, pf_78_1, gf_78_2, ar_6, al_6, gf_78_3, ar_7, al_7, gf_78_4, ar_8, al_8, gf_78_5, ar_9, al_9, gf_78_6, ar_10, al_10, ea, eb]
    generalize d * t = w at *
    (repeat' (first | with_reducible apply And.intro | with_reducible intro _)) <;> first | omega | exact sp_wrap (by omega) (by omega) (by rw [e0]; exact K)
def oa (S : sg_S) (a b : Int) : Int := if sg_ri S a < sg_ri S b then a else b
def ob (S : sg_S) (a b : Int) : Int := if sg_ri S a < sg_ri S b then b else a
set_option maxHeartbeats 400000 in
set_option maxRecDepth 100000 in
theorem sp_ro {S : sg_S} {x y t : Int} {h : am_H} {Q : am_P} (hS : sg_ok S) (hP : pl_ok h S) (hx : 0 ≤ x ∧ x < sg_G S) (hy : 0 ≤ y ∧ y < sg_G S) (ht : 0 ≤ t ∧ t < 300) (H : ∀ h1, (∀ c, c ≠ 47 → h1 c = h c) → (∀ c e, -18 ≤ e → e ≤ 18 → (dv h1 c e ↔ (dv h c e ∧ (c = 3 * sg_ri S (oa S x y) + sg_ri S (ob S x y) → zr S (oa S x y) (ob S x y) e t)))) → Q none h1) : am_Call 4 [.inr (.inr (some 85)), .inl x, .inl y, .inl t] h Q := by
  have U := hS.1
  have G := hS.2.1
  have px := hS.2.2.1 x hx.1 hx.2
  have py := hS.2.2.1 y hy.1 hy.2
  have ex := (hP.2.2 x hx.1 hx.2).1
  have ey := (hP.2.2 y hy.1 hy.2).1
  have go : ∀ a b i, 0 ≤ a ∧ a < sg_G S → 0 ≤ b ∧ b < sg_G S → a = oa S x y → b = ob S x y → am_Ex 4 29 [some (.inr (.inr (some 85))), some (.inl x), some (.inl y), some (.inl t), some (.inl i), some (.inl a), some (.inl b), some (.inl (-18))] [] h Q := by
    intro a b i ha hb ea eb
    refine lp_ro hS hP ha hb ht (fun h1 f1 I1 => H h1 f1 (by rw [← ea, ← eb]; exact I1)) 37 (-18) h (by omega) (by omega) (fun _ _ => rfl) (fun c e e1 e2 => ⟨fun z => ⟨z, fun _ q => by omega⟩, fun z => z.1⟩)
  have K1 : sg_ri S x < sg_ri S y → _ := fun q => go x y 1 hx hy (by unfold oa; rw [if_pos q]) (by unfold ob; rw [if_pos q])
  have K2 : ¬ sg_ri S x < sg_ri S y → _ := fun q => go y x 0 hy hx (by unfold oa; rw [if_neg q]) (by unfold ob; rw [if_neg q])
  simp only [eq_self, and_self, am_up_at, Int.cast_ofNat_Int, Int.reduceNatCast, true_or, or_true, or_false, false_or, Classical.not_not, false_and, and_false, am_bk, am_step, am_ldI, am_ldL, am_ldA, am_nth, am_sto, am_stw_0, am_stw_i, am_stw_n, am_stw_a, am_stw_l, am_br, am_cmp, am_tk, am_cat, am_sw, am_copy, am_R, am_nc0, am_nc1, am_f0, am_f1, am_f2, am_f3, Int.reduceNeg, Int.reduceEq, Int.reduceLE, Int.reduceLT, Nat.reduceLeDiff, Nat.reduceAdd, Nat.reduceEqDiff, true_and, and_true, ↓reduceIte, if_false, if_true, forall_const, not_true_eq_false, not_false_eq_true, false_implies, true_implies, implies_true, Int.reduceAdd, Int.reduceMul, Int.reduceSub, ne_eq, ca_4_85, bl_4_0, bl_4_12, bl_4_13, bl_4_14, bl_4_19, bl_4_20, bl_4_25, bl_4_26, gf_85_0, gf_85_1, ar_47, al_47, gf_85_2, ar_48, al_48, gf_85_3, ar_49, al_49, gf_85_4, pf_85_4, gf_78_0, pf_78_0, gf_78_1, pf_78_1, gf_78_2, ar_6, al_6, gf_78_3, ar_7, al_7, gf_78_4, ar_8, al_8, gf_78_5, ar_9, al_9, gf_78_6, ar_10, al_10, ex, ey]
  (repeat' (first | with_reducible apply And.intro | with_reducible intro _)) <;> first | omega | exact K1 (by omega) | exact K2 (by omega)
def se_ok (S : sg_S) (n : Int) (A B T : Int → Int) : Prop := (0 ≤ n ∧ n ≤ 8) ∧ ∀ i, 0 ≤ i → i < n → (0 ≤ A i ∧ A i < sg_G S) ∧ (0 ≤ B i ∧ B i < sg_G S) ∧ (0 ≤ T i ∧ T i < 300) ∧ sg_ri S (A i) ≠ sg_ri S (B i)
/-- the differences that are left when i are seen -/
def dI (S : sg_S) (A B T : Int → Int) (i : Int) (h : am_H) : Prop := ∀ c e, 0 ≤ c → c < 9 → -18 ≤ e → e ≤ 18 → (dv h c e ↔ ∀ j, 0 ≤ j → j < i → c = 3 * sg_ri S (oa S (A j) (B j)) + sg_ri S (ob S (A j) (B j)) → zr S (oa S (A j) (B j)) (ob S (A j) (B j)) e (T j))
def ftp (S : sg_S) (n : Int) (A B T : Int → Int) (P : Int → Int) : Prop := ∀ i, 0 ≤ i → i < n → (sg_pl S (A i) - sg_pl S (B i) + (P (sg_ri S (A i)) - P (sg_ri S (B i))) * T i) % sg_U S = 0
theorem em_neg {x u : Int} : (-x) % u = 0 ↔ x % u = 0 := by
  constructor
  · intro h; exact Int.emod_eq_zero_of_dvd (Int.dvd_neg.mp (Int.dvd_of_emod_eq_zero h))
  · intro h; exact Int.emod_eq_zero_of_dvd (Int.dvd_neg.mpr (Int.dvd_of_emod_eq_zero h))
theorem ftp_one {S : sg_S} {a b t : Int} {P : Int → Int} (h : sg_ri S a ≠ sg_ri S b) : (sg_pl S a - sg_pl S b + (P (sg_ri S a) - P (sg_ri S b)) * t) % sg_U S = 0 ↔ zr S (oa S a b) (ob S a b) (P (sg_ri S (oa S a b)) - P (sg_ri S (ob S a b))) t := by
  unfold zr oa ob
  by_cases c : sg_ri S a < sg_ri S b
  · rw [if_pos c, if_pos c]
  · rw [if_neg c, if_neg c, ← em_neg]
    have e : -(sg_pl S a - sg_pl S b + (P (sg_ri S a) - P (sg_ri S b)) * t) = sg_pl S b - sg_pl S a + (P (sg_ri S b) - P (sg_ri S a)) * t := by
      have : (P (sg_ri S b) - P (sg_ri S a)) * t = -((P (sg_ri S a) - P (sg_ri S b)) * t) := by rw [← Int.neg_mul]; congr 1; omega
      omega
    rw [e]
theorem ftp_dI {S : sg_S} {n : Int} {A B T P : Int → Int} {h : am_H} (hS : sg_ok S) (hs : se_ok S n A B T) (hP : ∀ r, 0 ≤ r → r ≤ 2 → -9 ≤ P r ∧ P r ≤ 9) (hd : dI S A B T n h) : ftp S n A B T P ↔ (dv h 1 (P 0 - P 1) ∧ dv h 2 (P 0 - P 2) ∧ dv h 5 (P 1 - P 2)) := by
  have p0 := hP 0 (by omega) (by omega)
  have p1 := hP 1 (by omega) (by omega)
  have p2 := hP 2 (by omega) (by omega)
  have key : ∀ j, 0 ≤ j → j < n → ∃ r1 r2, (r1 = 0 ∧ r2 = 1 ∨ r1 = 0 ∧ r2 = 2 ∨ r1 = 1 ∧ r2 = 2) ∧ sg_ri S (oa S (A j) (B j)) = r1 ∧ sg_ri S (ob S (A j) (B j)) = r2 := by
    intro j j1 j2
    have s := hs.2 j j1 j2
    have ra := (hS.2.2.1 (A j) s.1.1 s.1.2).1
    have rb := (hS.2.2.1 (B j) s.2.1.1 s.2.1.2).1
    have ne := s.2.2.2
    unfold oa ob
    by_cases c : sg_ri S (A j) < sg_ri S (B j)
    · rw [if_pos c, if_pos c]; exact ⟨_, _, by omega, rfl, rfl⟩
    · rw [if_neg c, if_neg c]; exact ⟨_, _, by omega, rfl, rfl⟩
  constructor
  · intro f
    refine ⟨(hd 1 _ (by omega) (by omega) (by omega) (by omega)).mpr ?_, (hd 2 _ (by omega) (by omega) (by omega) (by omega)).mpr ?_, (hd 5 _ (by omega) (by omega) (by omega) (by omega)).mpr ?_⟩ <;>
    · intro j j1 j2 q
      obtain ⟨r1, r2, o, e1, e2⟩ := key j j1 j2
      have z := (ftp_one (P := P) (t := T j) (hs.2 j j1 j2).2.2.2).mp (f j j1 j2)
      rw [e1, e2] at z q
      rcases o with ⟨o1, o2⟩ | ⟨o1, o2⟩ | ⟨o1, o2⟩ <;> subst o1 <;> subst o2 <;> first | exact z | omega
  · intro ⟨d1, d2, d3⟩ j j1 j2
    obtain ⟨r1, r2, o, e1, e2⟩ := key j j1 j2
    rw [ftp_one (P := P) (t := T j) (hs.2 j j1 j2).2.2.2, e1, e2]
    rcases o with ⟨o1, o2⟩ | ⟨o1, o2⟩ | ⟨o1, o2⟩ <;> subst o1 <;> subst o2
    · exact (hd 1 _ (by omega) (by omega) (by omega) (by omega)).mp d1 j j1 j2 (by rw [e1, e2]; omega)
    · exact (hd 2 _ (by omega) (by omega) (by omega) (by omega)).mp d2 j j1 j2 (by rw [e1, e2]; omega)
    · exact (hd 5 _ (by omega) (by omega) (by omega) (by omega)).mp d3 j j1 j2 (by rw [e1, e2]; omega)
set_option maxHeartbeats 400000 in
set_option maxRecDepth 100000 in
theorem sp_fits {c1 c2 d : Int} {h : am_H} {Q : am_P} (h1 : 0 ≤ c1 ∧ c1 ≤ 2) (h2 : 0 ≤ c2 ∧ c2 ≤ 2) (hd : -18 ≤ d ∧ d ≤ 18) (Y : dv h (3 * c1 + c2) d → Q (some (.inl 1)) h) (N : ¬ dv h (3 * c1 + c2) d → Q (some (.inl 0)) h) : am_Call 3 [.inr (.inr (some 85)), .inl c1, .inl c2, .inl d] h Q := by
  have e := lb_cmp (x := Int64.ofInt (h 47 (3 * c1 + c2))) (k := 18 + d) (by omega)
  unfold dv at Y N
  simp only [eq_self, and_self, am_up_at, Int.cast_ofNat_Int, Int.reduceNatCast, true_or, or_true, or_false, false_or, Classical.not_not, false_and, and_false, am_bk, am_step, am_ldI, am_ldL, am_ldA, am_nth, am_sto, am_stw_0, am_stw_i, am_stw_n, am_stw_a, am_stw_l, am_br, am_cmp, am_tk, am_cat, am_sw, am_copy, am_R, am_nc0, am_nc1, am_f0, am_f1, am_f2, am_f3, Int.reduceNeg, Int.reduceEq, Int.reduceLE, Int.reduceLT, Nat.reduceLeDiff, Nat.reduceAdd, Nat.reduceEqDiff, true_and, and_true, ↓reduceIte, if_false, if_true, forall_const, not_true_eq_false, not_false_eq_true, false_implies, true_implies, implies_true, Int.reduceAdd, Int.reduceMul, Int.reduceSub, ne_eq, ca_3_85, bl_3_0, bl_3_12, bl_3_19, bl_3_20, gf_85_0, gf_85_1, ar_47, al_47, gf_85_2, ar_48, al_48, gf_85_3, ar_49, al_49, gf_85_4, pf_85_4, e]
  by_cases q : lb (Int64.ofInt (h 47 (3 * c1 + c2))) (18 + d) = true
  · rw [if_pos q]
    have K := Y q
    (repeat' (first | with_reducible apply And.intro | with_reducible intro _)) <;> first | omega | exact K
  · rw [if_neg q]
    have K := N q
    (repeat' (first | with_reducible apply And.intro | with_reducible intro _)) <;> first | omega | exact K
