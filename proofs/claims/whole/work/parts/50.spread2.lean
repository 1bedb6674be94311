/-! the class: soonestOf, spread -/
def sf (A : Int → Int) (L g f be : Int) : Prop := (f = -1 ∧ be = 1000000 ∧ ∀ b, 0 ≤ b → b < g → bt L b = 1 → 1000000 ≤ A b) ∨ ((0 ≤ f ∧ f < g) ∧ bt L f = 1 ∧ A f = be ∧ be < 1000000 ∧ ∀ b, 0 ≤ b → b < g → bt L b = 1 → be ≤ A b)
theorem sf_s {A : Int → Int} {L g f be : Int} (hg : 0 ≤ g) (h : sf A L g f be) : (bt L g = 1 ∧ A g < be → sf A L (g + 1) g (A g)) ∧ (¬ (bt L g = 1 ∧ A g < be) → sf A L (g + 1) f be) := by
  have lift : ∀ x, (∀ b, 0 ≤ b → b < g → bt L b = 1 → x ≤ A b) → (bt L g = 1 → x ≤ A g) → ∀ b, 0 ≤ b → b < g + 1 → bt L b = 1 → x ≤ A b := by
    intro x h1 h2 b b1 b2 b3
    by_cases e : b = g
    · rw [e] at b3 ⊢; exact h2 b3
    · exact h1 b b1 (by omega) b3
  refine ⟨fun q => ?_, fun q => ?_⟩
  · right
    rcases h with ⟨a1, a2, a3⟩ | ⟨a1, a2, a3, a4, a5⟩
    · exact ⟨by omega, q.1, rfl, by omega, lift _ (fun b b1 b2 b3 => by have := a3 b b1 b2 b3; omega) (fun _ => by omega)⟩
    · exact ⟨by omega, q.1, rfl, by omega, lift _ (fun b b1 b2 b3 => by have := a5 b b1 b2 b3; omega) (fun _ => by omega)⟩
  · rcases h with ⟨a1, a2, a3⟩ | ⟨a1, a2, a3, a4, a5⟩
    · exact Or.inl ⟨a1, a2, lift _ a3 (fun z => by omega)⟩
    · exact Or.inr ⟨by omega, a2, a3, a4, lift _ a5 (fun z => by omega)⟩
set_option maxHeartbeats 400000 in
set_option maxRecDepth 100000 in
theorem lp_snf {S : sg_S} {L : Int} {h : am_H} {Q : am_P} (hG : 0 ≤ sg_G S ∧ sg_G S ≤ 8) (hA : ∀ b, 0 ≤ b → b < sg_G S → 0 ≤ h 43 b ∧ h 43 b ≤ 1000000) (hP : pl_ok h S) (hL : 0 ≤ L ∧ L ≤ 255) (H : ∀ f be, sf (h 43) L (sg_G S) f be → Q (some (.inl f)) h) :
    ∀ (m : Nat) (g f be : Int), 0 ≤ g → g + m = sg_G S → sf (h 43) L g f be → am_Ex 40 6 [some (.inr (.inr (some 84))), some (.inl L), some (.inl f), some (.inl be), some (.inl g)] [] h Q := by
  intro m
  have p1 := hP.2.1
  induction m with
  | zero =>
    intro g f be g0 g1 I
    have K := H f be (by rw [show sg_G S = g by omega]; exact I)
    rw [bl_40_6]
    simp only [eq_self, and_self, am_up_at, Int.cast_ofNat_Int, Int.reduceNatCast, true_or, or_true, or_false, false_or, Classical.not_not, false_and, and_false, am_bk, am_step, am_ldI, am_ldL, am_ldA, am_nth, am_sto, am_stw_0, am_stw_i, am_stw_n, am_stw_a, am_stw_l, am_br, am_cmp, am_tk, am_cat, am_sw, am_copy, am_R, am_nc0, am_nc1, am_f0, am_f1, am_f2, am_f3, Int.reduceNeg, Int.reduceEq, Int.reduceLE, Int.reduceLT, Nat.reduceLeDiff, Nat.reduceAdd, Nat.reduceEqDiff, true_and, and_true, ↓reduceIte, if_false, if_true, forall_const, not_true_eq_false, not_false_eq_true, false_implies, true_implies, implies_true, Int.reduceAdd, Int.reduceMul, Int.reduceSub, ne_eq, ca_40_84, bl_40_32, gf_84_0, gf_84_1, gf_84_2, ar_43, al_43, gf_84_3, ar_44, al_44, gf_84_4, ar_45, al_45, gf_84_5, ar_46, al_46, gf_84_6, pf_84_6, gf_78_0, pf_78_0, gf_78_1, pf_78_1, gf_78_2, ar_6, al_6, gf_78_3, ar_7, al_7, gf_78_4, ar_8, al_8, gf_78_5, ar_9, al_9, gf_78_6, ar_10, al_10, p1]
    (repeat' (first | with_reducible apply And.intro | with_reducible intro _)) <;> first | omega | exact K
  | succ m ih =>
    intro g f be g0 g1 I
    have s := sf_s g0 I
    have rg := hA g (by omega) (by omega)
    have rb : 0 ≤ be ∧ be ≤ 1000000 := by
      rcases I with q | q
      · omega
      · have := hA f (by omega) (by omega); omega
    have b := bt_shr (x := L) (g := g) hL (by omega)
    have b01 := bt_01 L g
    rw [bl_40_6]
    simp only [eq_self, and_self, am_up_at, Int.cast_ofNat_Int, Int.reduceNatCast, true_or, or_true, or_false, false_or, Classical.not_not, false_and, and_false, am_bk, am_step, am_ldI, am_ldL, am_ldA, am_nth, am_sto, am_stw_0, am_stw_i, am_stw_n, am_stw_a, am_stw_l, am_br, am_cmp, am_tk, am_cat, am_sw, am_copy, am_R, am_nc0, am_nc1, am_f0, am_f1, am_f2, am_f3, Int.reduceNeg, Int.reduceEq, Int.reduceLE, Int.reduceLT, Nat.reduceLeDiff, Nat.reduceAdd, Nat.reduceEqDiff, true_and, and_true, ↓reduceIte, if_false, if_true, forall_const, not_true_eq_false, not_false_eq_true, false_implies, true_implies, implies_true, Int.reduceAdd, Int.reduceMul, Int.reduceSub, ne_eq, ca_40_84, bl_40_11, bl_40_23, bl_40_30, gf_84_0, gf_84_1, gf_84_2, ar_43, al_43, gf_84_3, ar_44, al_44, gf_84_4, ar_45, al_45, gf_84_5, ar_46, al_46, gf_84_6, pf_84_6, gf_78_0, pf_78_0, gf_78_1, pf_78_1, gf_78_2, ar_6, al_6, gf_78_3, ar_7, al_7, gf_78_4, ar_8, al_8, gf_78_5, ar_9, al_9, gf_78_6, ar_10, al_10, p1, b]
    have K1 := fun q => ih (g + 1) g (h 43 g) (by omega) (by omega) (s.1 q)
    have K2 := fun q => ih (g + 1) f be (by omega) (by omega) (s.2 q)
    (repeat' (first | with_reducible apply And.intro | with_reducible intro _)) <;> first | omega | exact K1 (by omega) | exact K2 (by omega)
set_option maxHeartbeats 400000 in
set_option maxRecDepth 100000 in
theorem sp_snf {S : sg_S} {L : Int} {h : am_H} {Q : am_P} (hG : 0 ≤ sg_G S ∧ sg_G S ≤ 8) (hA : ∀ b, 0 ≤ b → b < sg_G S → 0 ≤ h 43 b ∧ h 43 b ≤ 1000000) (hP : pl_ok h S) (hL : 0 ≤ L ∧ L ≤ 255) (H : ∀ f be, sf (h 43) L (sg_G S) f be → Q (some (.inl f)) h) : am_Call 40 [.inr (.inr (some 84)), .inl L] h Q := by
  simp only [eq_self, and_self, am_up_at, Int.cast_ofNat_Int, Int.reduceNatCast, true_or, or_true, or_false, false_or, Classical.not_not, false_and, and_false, am_bk, am_step, am_ldI, am_ldL, am_ldA, am_nth, am_sto, am_stw_0, am_stw_i, am_stw_n, am_stw_a, am_stw_l, am_br, am_cmp, am_tk, am_cat, am_sw, am_copy, am_R, am_nc0, am_nc1, am_f0, am_f1, am_f2, am_f3, Int.reduceNeg, Int.reduceEq, Int.reduceLE, Int.reduceLT, Nat.reduceLeDiff, Nat.reduceAdd, Nat.reduceEqDiff, true_and, and_true, ↓reduceIte, if_false, if_true, forall_const, not_true_eq_false, not_false_eq_true, false_implies, true_implies, implies_true, Int.reduceAdd, Int.reduceMul, Int.reduceSub, ne_eq, ca_40_84, bl_40_0, gf_84_0, gf_84_1, gf_84_2, ar_43, al_43, gf_84_3, ar_44, al_44, gf_84_4, ar_45, al_45, gf_84_5, ar_46, al_46, gf_84_6, pf_84_6]
  exact lp_snf hG hA hP hL H (sg_G S).toNat 0 (-1) 1000000 (by omega) (by omega) (Or.inl ⟨rfl, rfl, fun b b1 b2 => by omega⟩)
/-- the gates before x are gone through -/
def rl (S : sg_S) (A B : Int → Int) (L g x : Int) : Prop := ∀ b, 0 ≤ b → b < sg_G S → (b < x ∧ bt L b = 1 ∧ ∃ r, rc 1000000 S g (A g) b r ∧ B b = if r < A b then r else A b) ∨ (¬ (b < x ∧ bt L b = 1) ∧ B b = A b)
set_option maxHeartbeats 400000 in
set_option maxRecDepth 100000 in
theorem lp_rlx {S : sg_S} {a t L n g : Int} {h0 : am_H} {Q : am_P} (hy0 : ty_ok h0 S) (hL : 0 ≤ L ∧ L ≤ 255) (hg : 0 ≤ g ∧ g < sg_G S) (hgb : bt L g ≠ 1) (hA : ∀ b, 0 ≤ b → b < sg_G S → 0 ≤ h0 43 b ∧ h0 43 b ≤ 1000000) (hA2 : h0 43 g ≤ 90000) (H : ∀ h1, ty_ok h1 S → fr_x h0 h1 → rl S (h0 43) (h1 43) L g (sg_G S) → am_Ex 39 71 [some (.inr (.inr (some 84))), some (.inl a), some (.inl t), some (.inl L), some (.inl n), some (.inl g), some (.inl (sg_G S))] [] h1 Q) :
    ∀ (m : Nat) (x : Int) (h : am_H), 0 ≤ x → x + m = sg_G S → ty_ok h S → fr_x h0 h → rl S (h0 43) (h 43) L g x → am_Ex 39 41 [some (.inr (.inr (some 84))), some (.inl a), some (.inl t), some (.inl L), some (.inl n), some (.inl g), some (.inl x)] [] h Q := by
  intro m
  have hG := hy0.1.2.1
  induction m with
  | zero =>
    intro x h x0 x1 hy hf I
    have p1 := hy.2.2.2.1.2.1
    have ex : x = sg_G S := by omega
    subst ex
    have K := H h hy hf I
    rw [bl_39_41]
    simp only [eq_self, and_self, am_up_at, Int.cast_ofNat_Int, Int.reduceNatCast, true_or, or_true, or_false, false_or, Classical.not_not, false_and, and_false, am_bk, am_step, am_ldI, am_ldL, am_ldA, am_nth, am_sto, am_stw_0, am_stw_i, am_stw_n, am_stw_a, am_stw_l, am_br, am_cmp, am_tk, am_cat, am_sw, am_copy, am_R, am_nc0, am_nc1, am_f0, am_f1, am_f2, am_f3, Int.reduceNeg, Int.reduceEq, Int.reduceLE, Int.reduceLT, Nat.reduceLeDiff, Nat.reduceAdd, Nat.reduceEqDiff, true_and, and_true, ↓reduceIte, if_false, if_true, forall_const, not_true_eq_false, not_false_eq_true, false_implies, true_implies, implies_true, Int.reduceAdd, Int.reduceMul, Int.reduceSub, ne_eq, gf_84_0, gf_84_1, gf_84_2, ar_43, al_43, gf_84_3, ar_44, al_44, gf_84_4, ar_45, al_45, gf_84_5, ar_46, al_46, gf_84_6, pf_84_6, gf_78_0, pf_78_0, gf_78_1, pf_78_1, gf_78_2, ar_6, al_6, gf_78_3, ar_7, al_7, gf_78_4, ar_8, al_8, gf_78_5, ar_9, al_9, gf_78_6, ar_10, al_10, p1]
    (repeat' (first | with_reducible apply And.intro | with_reducible intro _)) <;> first | omega | exact K
  | succ m ih =>
    intro x h x0 x1 hy hf I
    have p1 := hy.2.2.2.1.2.1
    have b := bt_shr (x := L) (g := x) hL (by omega)
    have b01 := bt_01 L x
    have Ix : h 43 x = h0 43 x := by
      rcases I x (by omega) (by omega) with q | q
      · omega
      · exact q.2
    have Ig : h 43 g = h0 43 g := by
      rcases I g hg.1 hg.2 with q | q
      · exact absurd q.2.1 hgb
      · exact q.2
    have rx := hA x (by omega) (by omega)
    have rg := hA g hg.1 hg.2
    rw [bl_39_41]
    simp only [eq_self, and_self, am_up_at, Int.cast_ofNat_Int, Int.reduceNatCast, true_or, or_true, or_false, false_or, Classical.not_not, false_and, and_false, am_bk, am_step, am_ldI, am_ldL, am_ldA, am_nth, am_sto, am_stw_0, am_stw_i, am_stw_n, am_stw_a, am_stw_l, am_br, am_cmp, am_tk, am_cat, am_sw, am_copy, am_R, am_nc0, am_nc1, am_f0, am_f1, am_f2, am_f3, Int.reduceNeg, Int.reduceEq, Int.reduceLE, Int.reduceLT, Nat.reduceLeDiff, Nat.reduceAdd, Nat.reduceEqDiff, true_and, and_true, ↓reduceIte, if_false, if_true, forall_const, not_true_eq_false, not_false_eq_true, false_implies, true_implies, implies_true, Int.reduceAdd, Int.reduceMul, Int.reduceSub, ne_eq, ca_39_84, bl_39_46, bl_39_58, bl_39_69, gf_84_0, gf_84_1, gf_84_2, ar_43, al_43, gf_84_3, ar_44, al_44, gf_84_4, ar_45, al_45, gf_84_5, ar_46, al_46, gf_84_6, pf_84_6, gf_78_0, pf_78_0, gf_78_1, pf_78_1, gf_78_2, ar_6, al_6, gf_78_3, ar_7, al_7, gf_78_4, ar_8, al_8, gf_78_5, ar_9, al_9, gf_78_6, ar_10, al_10, p1, b, Ix, Ig]
    refine ⟨by omega, fun q => by omega, fun _ => ⟨by omega, fun q => ?_, fun q => ?_⟩⟩
    · refine ih (x + 1) h (by omega) (by omega) hy hf (fun b b1 b2 => ?_)
      rcases I b b1 b2 with z | z
      · exact Or.inl ⟨by omega, z.2⟩
      · refine Or.inr ⟨fun w => z.1 ⟨?_, w.2⟩, z.2⟩
        rcases Int.lt_or_eq_of_le (show b ≤ x by omega) with e | e
        · exact e
        · rw [e] at w; omega
    · refine ⟨by omega, by omega, ?_⟩
      refine sp_reach hy hg (by omega) (by omega) (fun h1 r y1 f1 hr r0 r1 => ?_)
      have e43 : h1 43 = h 43 := f1 43 (by omega)
      have out : ∀ v, v = (if r < h0 43 x then r else h0 43 x) → am_Ex 39 68 [some (.inr (.inr (some 84))), some (.inl a), some (.inl t), some (.inl L), some (.inl n), some (.inl g), some (.inl x)] [.inl v, .inl x, .inr (.inr (some 43))] h1 Q := by
        intro v hv
        simp only [eq_self, and_self, am_up_at, Int.cast_ofNat_Int, Int.reduceNatCast, true_or, or_true, or_false, false_or, Classical.not_not, false_and, and_false, am_bk, am_step, am_ldI, am_ldL, am_ldA, am_nth, am_sto, am_stw_0, am_stw_i, am_stw_n, am_stw_a, am_stw_l, am_br, am_cmp, am_tk, am_cat, am_sw, am_copy, am_R, am_nc0, am_nc1, am_f0, am_f1, am_f2, am_f3, Int.reduceNeg, Int.reduceEq, Int.reduceLE, Int.reduceLT, Nat.reduceLeDiff, Nat.reduceAdd, Nat.reduceEqDiff, true_and, and_true, ↓reduceIte, if_false, if_true, forall_const, not_true_eq_false, not_false_eq_true, false_implies, true_implies, implies_true, Int.reduceAdd, Int.reduceMul, Int.reduceSub, ne_eq, ca_39_84, bl_39_68, bl_39_69, gf_84_0, gf_84_1, gf_84_2, ar_43, al_43, gf_84_3, ar_44, al_44, gf_84_4, ar_45, al_45, gf_84_5, ar_46, al_46, gf_84_6, pf_84_6, gf_78_0, pf_78_0, gf_78_1, pf_78_1, gf_78_2, ar_6, al_6, gf_78_3, ar_7, al_7, gf_78_4, ar_8, al_8, gf_78_5, ar_9, al_9, gf_78_6, ar_10, al_10]
        refine ⟨by omega, ih (x + 1) (am_up h1 43 x v) (by omega) (by omega) (ty_fr y1 (fun c hc => by rw [am_up_ne (show c ≠ 43 by omega)])) (fun c c1 c2 => by rw [am_up_ne c2, f1 c c1, hf c c1 c2]) (fun b b1 b2 => ?_)⟩
        simp only [am_up_at, true_and, e43]
        by_cases e : b = x
        · rw [if_pos e]
          left
          subst e
          exact ⟨by omega, by omega, r, by rw [← Ig]; rw [Ig]; exact hr, hv⟩
        · rw [if_neg e]
          rcases I b b1 b2 with z | z
          · exact Or.inl ⟨by omega, z.2⟩
          · exact Or.inr ⟨fun w => z.1 ⟨by omega, w.2⟩, z.2⟩
      simp only [eq_self, and_self, am_up_at, Int.cast_ofNat_Int, Int.reduceNatCast, true_or, or_true, or_false, false_or, Classical.not_not, false_and, and_false, am_bk, am_step, am_ldI, am_ldL, am_ldA, am_nth, am_sto, am_stw_0, am_stw_i, am_stw_n, am_stw_a, am_stw_l, am_br, am_cmp, am_tk, am_cat, am_sw, am_copy, am_R, am_nc0, am_nc1, am_f0, am_f1, am_f2, am_f3, Int.reduceNeg, Int.reduceEq, Int.reduceLE, Int.reduceLT, Nat.reduceLeDiff, Nat.reduceAdd, Nat.reduceEqDiff, true_and, and_true, ↓reduceIte, if_false, if_true, forall_const, not_true_eq_false, not_false_eq_true, false_implies, true_implies, implies_true, Int.reduceAdd, Int.reduceMul, Int.reduceSub, ne_eq, ca_39_84, bl_39_67, ca_160, bl_160_0, bl_160_5, bl_160_6, gf_84_0, gf_84_1, gf_84_2, ar_43, al_43, gf_84_3, ar_44, al_44, gf_84_4, ar_45, al_45, gf_84_5, ar_46, al_46, gf_84_6, pf_84_6, gf_78_0, pf_78_0, gf_78_1, pf_78_1, gf_78_2, ar_6, al_6, gf_78_3, ar_7, al_7, gf_78_4, ar_8, al_8, gf_78_5, ar_9, al_9, gf_78_6, ar_10, al_10]
      (repeat' (first | with_reducible apply And.intro | with_reducible intro _)) <;> first | omega | exact out _ (by split <;> omega)
theorem dj_r {N : Int} {S : sg_S} {a t n : Int} {A D : Int → Int} (hN : 90000 ≤ N) (ht : 0 ≤ t ∧ t ≤ 50000) (hn : 0 ≤ n ∧ n ≤ 8) (hd : dj N S a t n A D) : ∀ b, 0 ≤ b → b < sg_G S → 0 ≤ A b ∧ A b ≤ N ∧ (A b = N ∨ A b ≤ 90000) := by
  intro b b1 b2
  rcases hd.2.1 b b1 b2 with q | q <;> omega
set_option maxHeartbeats 400000 in
set_option maxRecDepth 100000 in
theorem lp_spread {S : sg_S} {a t : Int} {h0 : am_H} {Q : am_P} (ha : 0 ≤ a ∧ a < sg_G S) (ht : 0 ≤ t ∧ t ≤ 50000) (H : ∀ h1, ty_ok h1 S → fr_x h0 h1 → (∀ b, 0 ≤ b → b < sg_G S → ar_is 1000000 S a t b (h1 43 b)) → Q none h1) :
    ∀ (m : Nat) (n L : Int) (h : am_H), 0 ≤ n → n + m = sg_G S → 0 ≤ L ∧ L ≤ 255 → ty_ok h S → fr_x h0 h → dj 1000000 S a t n (h 43) (fun g => 1 - bt L g) → am_Ex 39 19 [some (.inr (.inr (some 84))), some (.inl a), some (.inl t), some (.inl L), some (.inl n), none, none] [] h Q := by
  intro m
  induction m with
  | zero =>
    intro n L h n0 n1 hL hy hf hd
    have hG := hy.1.2.1
    have p1 := hy.2.2.2.1.2.1
    have en : n = sg_G S := by omega
    subst en
    have all := dj_all hG.1 hd
    have K := H h hy hf (dj_end hy.1 hy.2.1 (by omega) ht (by omega) ha hd (fun b b1 b2 z => absurd (all b b1 b2) z))
    rw [bl_39_19]
    simp only [eq_self, and_self, am_up_at, Int.cast_ofNat_Int, Int.reduceNatCast, true_or, or_true, or_false, false_or, Classical.not_not, false_and, and_false, am_bk, am_step, am_ldI, am_ldL, am_ldA, am_nth, am_sto, am_stw_0, am_stw_i, am_stw_n, am_stw_a, am_stw_l, am_br, am_cmp, am_tk, am_cat, am_sw, am_copy, am_R, am_nc0, am_nc1, am_f0, am_f1, am_f2, am_f3, Int.reduceNeg, Int.reduceEq, Int.reduceLE, Int.reduceLT, Nat.reduceLeDiff, Nat.reduceAdd, Nat.reduceEqDiff, true_and, and_true, ↓reduceIte, if_false, if_true, forall_const, not_true_eq_false, not_false_eq_true, false_implies, true_implies, implies_true, Int.reduceAdd, Int.reduceMul, Int.reduceSub, ne_eq, ca_39_84, bl_39_73, gf_84_0, gf_84_1, gf_84_2, ar_43, al_43, gf_84_3, ar_44, al_44, gf_84_4, ar_45, al_45, gf_84_5, ar_46, al_46, gf_84_6, pf_84_6, gf_78_0, pf_78_0, gf_78_1, pf_78_1, gf_78_2, ar_6, al_6, gf_78_3, ar_7, al_7, gf_78_4, ar_8, al_8, gf_78_5, ar_9, al_9, gf_78_6, ar_10, al_10, p1]
    (repeat' (first | with_reducible apply And.intro | with_reducible intro _)) <;> first | omega | exact K
  | succ m ih =>
    intro n L h n0 n1 hL hy hf hd
    have hG := hy.1.2.1
    have p1 := hy.2.2.2.1.2.1
    have r := dj_r (by omega) ht (by omega) hd
    have b01 := bt_01 L
    rw [bl_39_19]
    simp only [eq_self, and_self, am_up_at, Int.cast_ofNat_Int, Int.reduceNatCast, true_or, or_true, or_false, false_or, Classical.not_not, false_and, and_false, am_bk, am_step, am_ldI, am_ldL, am_ldA, am_nth, am_sto, am_stw_0, am_stw_i, am_stw_n, am_stw_a, am_stw_l, am_br, am_cmp, am_tk, am_cat, am_sw, am_copy, am_R, am_nc0, am_nc1, am_f0, am_f1, am_f2, am_f3, Int.reduceNeg, Int.reduceEq, Int.reduceLE, Int.reduceLT, Nat.reduceLeDiff, Nat.reduceAdd, Nat.reduceEqDiff, true_and, and_true, ↓reduceIte, if_false, if_true, forall_const, not_true_eq_false, not_false_eq_true, false_implies, true_implies, implies_true, Int.reduceAdd, Int.reduceMul, Int.reduceSub, ne_eq, ca_39_84, bl_39_24, gf_84_0, gf_84_1, gf_84_2, ar_43, al_43, gf_84_3, ar_44, al_44, gf_84_4, ar_45, al_45, gf_84_5, ar_46, al_46, gf_84_6, pf_84_6, gf_78_0, pf_78_0, gf_78_1, pf_78_1, gf_78_2, ar_6, al_6, gf_78_3, ar_7, al_7, gf_78_4, ar_8, al_8, gf_78_5, ar_9, al_9, gf_78_6, ar_10, al_10, p1]
    refine ⟨by omega, fun q => by omega, fun _ => ?_⟩
    refine sp_snf hG (fun b b1 b2 => by have := r b b1 b2; omega) hy.2.2.2.1 hL (fun f be hsf => ?_)
    rcases hsf with ⟨a1, a2, a3⟩ | ⟨a1, a2, a3, a4, a5⟩
    · have K := H h hy hf (dj_end hy.1 hy.2.1 (by omega) ht (by omega) ha hd (fun b b1 b2 z => by have := a3 b b1 b2 (by have := b01 b; omega); have := r b b1 b2; omega))
      simp only [eq_self, and_self, am_up_at, Int.cast_ofNat_Int, Int.reduceNatCast, true_or, or_true, or_false, false_or, Classical.not_not, false_and, and_false, am_bk, am_step, am_ldI, am_ldL, am_ldA, am_nth, am_sto, am_stw_0, am_stw_i, am_stw_n, am_stw_a, am_stw_l, am_br, am_cmp, am_tk, am_cat, am_sw, am_copy, am_R, am_nc0, am_nc1, am_f0, am_f1, am_f2, am_f3, Int.reduceNeg, Int.reduceEq, Int.reduceLE, Int.reduceLT, Nat.reduceLeDiff, Nat.reduceAdd, Nat.reduceEqDiff, true_and, and_true, ↓reduceIte, if_false, if_true, forall_const, not_true_eq_false, not_false_eq_true, false_implies, true_implies, implies_true, Int.reduceAdd, Int.reduceMul, Int.reduceSub, ne_eq, ca_39_84, bl_39_27, gf_84_0, gf_84_1, gf_84_2, ar_43, al_43, gf_84_3, ar_44, al_44, gf_84_4, ar_45, al_45, gf_84_5, ar_46, al_46, gf_84_6, pf_84_6, gf_78_0, pf_78_0, gf_78_1, pf_78_1, gf_78_2, ar_6, al_6, gf_78_3, ar_7, al_7, gf_78_4, ar_8, al_8, gf_78_5, ar_9, al_9, gf_78_6, ar_10, al_10]
      (repeat' (first | with_reducible apply And.intro | with_reducible intro _)) <;> first | omega | exact K
    · have c := bt_clr (x := L) (g := f) hL (by omega)
      have cg := c.2 f (by omega) (by omega)
      rw [if_pos rfl] at cg
      have rf := r f a1.1 a1.2
      simp only [eq_self, and_self, am_up_at, Int.cast_ofNat_Int, Int.reduceNatCast, true_or, or_true, or_false, false_or, Classical.not_not, false_and, and_false, am_bk, am_step, am_ldI, am_ldL, am_ldA, am_nth, am_sto, am_stw_0, am_stw_i, am_stw_n, am_stw_a, am_stw_l, am_br, am_cmp, am_tk, am_cat, am_sw, am_copy, am_R, am_nc0, am_nc1, am_f0, am_f1, am_f2, am_f3, Int.reduceNeg, Int.reduceEq, Int.reduceLE, Int.reduceLT, Nat.reduceLeDiff, Nat.reduceAdd, Nat.reduceEqDiff, true_and, and_true, ↓reduceIte, if_false, if_true, forall_const, not_true_eq_false, not_false_eq_true, false_implies, true_implies, implies_true, Int.reduceAdd, Int.reduceMul, Int.reduceSub, ne_eq, ca_39_84, bl_39_27, bl_39_31, gf_84_0, gf_84_1, gf_84_2, ar_43, al_43, gf_84_3, ar_44, al_44, gf_84_4, ar_45, al_45, gf_84_5, ar_46, al_46, gf_84_6, pf_84_6, gf_78_0, pf_78_0, gf_78_1, pf_78_1, gf_78_2, ar_6, al_6, gf_78_3, ar_7, al_7, gf_78_4, ar_8, al_8, gf_78_5, ar_9, al_9, gf_78_6, ar_10, al_10]
      generalize am_and L (am_xor (am_shl 1 f) (-1)) = L' at c cg ⊢
      have D : ∀ h1, ty_ok h1 S → fr_x h h1 → rl S (h 43) (h1 43) L' f (sg_G S) → am_Ex 39 71 [some (.inr (.inr (some 84))), some (.inl a), some (.inl t), some (.inl L'), some (.inl n), some (.inl f), some (.inl (sg_G S))] [] h1 Q := by
        intro h1 y1 f1 I
        simp only [eq_self, and_self, am_up_at, Int.cast_ofNat_Int, Int.reduceNatCast, true_or, or_true, or_false, false_or, Classical.not_not, false_and, and_false, am_bk, am_step, am_ldI, am_ldL, am_ldA, am_nth, am_sto, am_stw_0, am_stw_i, am_stw_n, am_stw_a, am_stw_l, am_br, am_cmp, am_tk, am_cat, am_sw, am_copy, am_R, am_nc0, am_nc1, am_f0, am_f1, am_f2, am_f3, Int.reduceNeg, Int.reduceEq, Int.reduceLE, Int.reduceLT, Nat.reduceLeDiff, Nat.reduceAdd, Nat.reduceEqDiff, true_and, and_true, ↓reduceIte, if_false, if_true, forall_const, not_true_eq_false, not_false_eq_true, false_implies, true_implies, implies_true, Int.reduceAdd, Int.reduceMul, Int.reduceSub, ne_eq, ca_39_84, bl_39_71, gf_84_0, gf_84_1, gf_84_2, ar_43, al_43, gf_84_3, ar_44, al_44, gf_84_4, ar_45, al_45, gf_84_5, ar_46, al_46, gf_84_6, pf_84_6, gf_78_0, pf_78_0, gf_78_1, pf_78_1, gf_78_2, ar_6, al_6, gf_78_3, ar_7, al_7, gf_78_4, ar_8, al_8, gf_78_5, ar_9, al_9, gf_78_6, ar_10, al_10]
        refine am_forget (ih (n + 1) L' h1 (by omega) (by omega) c.1 y1 (fun c c1 c2 => by rw [f1 c c1 c2, hf c c1 c2]) ?_) (by simp [am_lq])
        refine dj_step hy.1 (by omega) ht (by omega) hd a1 (by omega) (by omega) (fun b b1 b2 b3 => ?_) (fun b b1 b2 => ?_) (fun b b1 b2 b3 => ?_) (fun b b1 b2 b3 => ?_) ha
        · have := b01 b
          have := a5 b b1 b2 (by omega)
          omega
        · have := c.2 b b1 (by omega)
          rw [this]
          split <;> omega
        · rcases I b b1 b2 with z | z
          · omega
          · exact z.2
        · rcases I b b1 b2 with z | z
          · obtain ⟨_, _, r, r1, r2⟩ := z
            exact ⟨r, r1, r2⟩
          · exact absurd ⟨b2, by have := bt_01 L' b; omega⟩ z.1
      have K := lp_rlx (a := a) (t := t) (n := n) hy c.1 a1 (by omega) (fun b b1 b2 => by have := r b b1 b2; omega) (by omega) D (sg_G S).toNat 0 h (by omega) (by omega) hy (fun _ _ _ => rfl) (fun b b1 b2 => Or.inr ⟨by omega, rfl⟩)
      (repeat' (first | with_reducible apply And.intro | with_reducible intro _)) <;> first | omega | exact K
set_option maxHeartbeats 400000 in
set_option maxRecDepth 100000 in
theorem sp_spread {S : sg_S} {a t : Int} {h : am_H} {Q : am_P} (hy : ty_ok h S) (ha : 0 ≤ a ∧ a < sg_G S) (ht : 0 ≤ t ∧ t ≤ 50000) (H : ∀ h1, ty_ok h1 S → fr_x h h1 → (∀ b, 0 ≤ b → b < sg_G S → ar_is 1000000 S a t b (h1 43 b)) → Q none h1) : am_Call 39 [.inr (.inr (some 84)), .inl a, .inl t] h Q := by
  have hG := hy.1.2.1
  simp only [eq_self, and_self, am_up_at, Int.cast_ofNat_Int, Int.reduceNatCast, true_or, or_true, or_false, false_or, Classical.not_not, false_and, and_false, am_bk, am_step, am_ldI, am_ldL, am_ldA, am_nth, am_sto, am_stw_0, am_stw_i, am_stw_n, am_stw_a, am_stw_l, am_br, am_cmp, am_tk, am_cat, am_sw, am_copy, am_R, am_nc0, am_nc1, am_f0, am_f1, am_f2, am_f3, Int.reduceNeg, Int.reduceEq, Int.reduceLE, Int.reduceLT, Nat.reduceLeDiff, Nat.reduceAdd, Nat.reduceEqDiff, true_and, and_true, ↓reduceIte, if_false, if_true, forall_const, not_true_eq_false, not_false_eq_true, false_implies, true_implies, implies_true, Int.reduceAdd, Int.reduceMul, Int.reduceSub, ne_eq, ca_39_84, bl_39_0, gf_84_0, gf_84_1, gf_84_2, ar_43, al_43, gf_84_3, ar_44, al_44, gf_84_4, ar_45, al_45, gf_84_5, ar_46, al_46, gf_84_6, pf_84_6]
  refine sp_fill (n := 8) al_43 ar_43 rfl (by omega) (fun h1 e1 e2 => ?_)
  have y1 : ty_ok h1 S := ty_fr hy (fun c hc => e1 c (by omega))
  have p1 := y1.2.2.2.1.2.1
  have bf := bt_full hG
  simp only [eq_self, and_self, am_up_at, Int.cast_ofNat_Int, Int.reduceNatCast, true_or, or_true, or_false, false_or, Classical.not_not, false_and, and_false, am_bk, am_step, am_ldI, am_ldL, am_ldA, am_nth, am_sto, am_stw_0, am_stw_i, am_stw_n, am_stw_a, am_stw_l, am_br, am_cmp, am_tk, am_cat, am_sw, am_copy, am_R, am_nc0, am_nc1, am_f0, am_f1, am_f2, am_f3, Int.reduceNeg, Int.reduceEq, Int.reduceLE, Int.reduceLT, Nat.reduceLeDiff, Nat.reduceAdd, Nat.reduceEqDiff, true_and, and_true, ↓reduceIte, if_false, if_true, forall_const, not_true_eq_false, not_false_eq_true, false_implies, true_implies, implies_true, Int.reduceAdd, Int.reduceMul, Int.reduceSub, ne_eq, ca_39_84, bl_39_4, bl_39_16, gf_84_0, gf_84_1, gf_84_2, ar_43, al_43, gf_84_3, ar_44, al_44, gf_84_4, ar_45, al_45, gf_84_5, ar_46, al_46, gf_84_6, pf_84_6, gf_78_0, pf_78_0, gf_78_1, pf_78_1, gf_78_2, ar_6, al_6, gf_78_3, ar_7, al_7, gf_78_4, ar_8, al_8, gf_78_5, ar_9, al_9, gf_78_6, ar_10, al_10, p1]
  have K := lp_spread (h0 := h) (Q := Q) ha ht H (sg_G S).toNat 0 (am_shl 1 (sg_G S) - 1) (am_up h1 43 a t) (by omega) (by omega) (by omega) (ty_fr y1 (fun c hc => by rw [am_up_ne (show c ≠ 43 by omega)])) (fun c c1 c2 => by rw [am_up_ne c2, e1 c c2])
    (dj_0 (fun b b1 b2 => by
      simp only [am_up_at, true_and]
      split
      · rfl
      · rw [e2 b, if_pos (by omega)]) (fun b b1 b2 => by have := bf.2 b b1 (by omega); rw [if_pos b2] at this; omega) hG.1 ha)
  (repeat' (first | with_reducible apply And.intro | with_reducible intro _)) <;> first | omega | exact K
