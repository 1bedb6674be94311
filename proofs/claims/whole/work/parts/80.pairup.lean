/-! the class: pairUp -/
def fac (s : rd_S) (a b : Int) : Prop := rri s a + 1 = rri s b ∧ rrm s a = 0 ∧ rrm s b = 1
def fcn (s : rd_S) (a : Int) : Nat → Int
  | 0 => 0
  | n + 1 => fcn s a n + (if rri s a + 1 = rri s n ∧ rrm s a = 0 ∧ rrm s n = 1 then 1 else 0)
def ftn (s : rd_S) (G : Nat) : Nat → Int
  | 0 => 0
  | n + 1 => ftn s G n + fcn s n G
def xn (s : rd_S) (r m : Int) : Nat → Int
  | 0 => 0
  | n + 1 => xn s r m n + (if rri s n = r ∧ rrm s n = m then 1 else 0)
theorem fcn_m {s : rd_S} {a : Int} : ∀ (n k : Nat), 0 ≤ fcn s a n ∧ fcn s a n ≤ fcn s a (n + k) := by
  intro n k
  have nn : ∀ n, 0 ≤ fcn s a n := by
    intro n
    induction n with
    | zero => simp [fcn]
    | succ n ih => rw [fcn]; split <;> omega
  refine ⟨nn n, ?_⟩
  induction k with
  | zero => simp
  | succ k ih => rw [← Nat.add_assoc, fcn]; split <;> omega
theorem fcn_x {s : rd_S} {a : Int} : ∀ n : Nat, fcn s a n = if rrm s a = 0 then xn s (rri s a + 1) 1 n else 0 := by
  intro n
  induction n with
  | zero => simp [fcn, xn]
  | succ n ih =>
    rw [fcn, ih, xn]
    by_cases c : rrm s a = 0
    · rw [if_pos c, if_pos c]
      by_cases d : rri s n = rri s a + 1 ∧ rrm s n = 1
      · rw [if_pos d, if_pos (by omega)]
      · rw [if_neg d, if_neg (by omega)]
    · rw [if_neg c, if_neg c, if_neg (by omega)]; rfl
theorem xn_s {s : rd_S} : ∀ n : Nat, 0 ≤ xn s 0 0 n ∧ 0 ≤ xn s 1 0 n ∧ 0 ≤ xn s 1 1 n ∧ 0 ≤ xn s 2 1 n ∧ xn s 0 0 n + xn s 1 0 n + xn s 1 1 n + xn s 2 1 n ≤ n := by
  intro n
  induction n with
  | zero => simp [xn]
  | succ n ih =>
    rw [xn, xn, xn, xn]
    by_cases c1 : rri s n = 0 ∧ rrm s n = 0
    · rw [if_pos c1, if_neg (by omega), if_neg (by omega), if_neg (by omega)]; omega
    · rw [if_neg c1]
      by_cases c2 : rri s n = 1 ∧ rrm s n = 0
      · rw [if_pos c2, if_neg (by omega), if_neg (by omega)]; omega
      · rw [if_neg c2]
        by_cases c3 : rri s n = 1 ∧ rrm s n = 1
        · rw [if_pos c3, if_neg (by omega)]; omega
        · rw [if_neg c3]
          split <;> omega
theorem xn_3 {s : rd_S} : ∀ n : Nat, (∀ g : Int, 0 ≤ g → g < n → 0 ≤ rri s g ∧ rri s g ≤ 2) → xn s 3 1 n = 0 := by
  intro n
  induction n with
  | zero => intro _; rfl
  | succ n ih =>
    intro h
    rw [xn, ih (fun g g0 g1 => h g g0 (by omega))]
    have := h n (by omega) (by omega)
    rw [if_neg (by omega)]; rfl
theorem ftn_x {s : rd_S} {G : Nat} (hr : ∀ g : Int, 0 ≤ g → g < G → 0 ≤ rri s g ∧ rri s g ≤ 2) : ∀ n : Nat, n ≤ G → ftn s G n = xn s 0 0 n * xn s 1 1 G + xn s 1 0 n * xn s 2 1 G := by
  intro n
  induction n with
  | zero => intro _; simp [ftn, xn]
  | succ n ih =>
    intro hn
    have r := hr n (by omega) (by omega)
    rw [ftn, ih (by omega), fcn_x, xn, xn]
    by_cases c : rrm s n = 0
    · rw [if_pos c]
      have : rri s n = 0 ∨ rri s n = 1 ∨ rri s n = 2 := by omega
      rcases this with e | e | e
      · rw [e, if_pos ⟨rfl, c⟩, if_neg (by omega)]
        simp only [Int.add_mul, Int.zero_mul, Int.zero_add, Int.one_mul, Int.add_zero]
        omega
      · rw [e, if_neg (by omega), if_pos ⟨rfl, c⟩]
        simp only [Int.add_mul, Int.zero_mul, Int.one_mul, Int.add_zero, show (1 : Int) + 1 = 2 by omega]
        omega
      · rw [e, if_neg (by omega), if_neg (by omega), show (2 : Int) + 1 = 3 by omega, xn_3 G hr]
        simp only [Int.add_zero]
    · rw [if_neg c, if_neg (by omega), if_neg (by omega)]
      simp only [Int.add_zero]
theorem ftn_16 {s : rd_S} {G : Nat} (hG : G ≤ 8) (hr : ∀ g : Int, 0 ≤ g → g < G → 0 ≤ rri s g ∧ rri s g ≤ 2) : ftn s G G ≤ 16 := by
  rw [ftn_x hr G (by omega)]
  have h := xn_s (s := s) G
  generalize xn s 0 0 G = x at *
  generalize xn s 1 0 G = y at *
  generalize xn s 1 1 G = z at *
  generalize xn s 2 1 G = w at *
  have a : x * z ≤ x * (z + w) := Int.mul_le_mul_of_nonneg_left (by omega) h.1
  have b : y * w ≤ y * (z + w) := Int.mul_le_mul_of_nonneg_left (by omega) h.2.1
  have c : (x + y) * (z + w) ≤ 16 := by
    have hx : x + y = 0 ∨ x + y = 1 ∨ x + y = 2 ∨ x + y = 3 ∨ x + y = 4 ∨ x + y = 5 ∨ x + y = 6 ∨ x + y = 7 ∨ x + y = 8 := by omega
    rcases hx with e | e | e | e | e | e | e | e | e <;> rw [e] <;> omega
  rw [Int.add_mul] at c
  omega
theorem ftn_m {s : rd_S} {G : Nat} : ∀ (n k : Nat), ftn s G n ≤ ftn s G (n + k) := by
  intro n k
  induction k with
  | zero => simp
  | succ k ih =>
    rw [← Nat.add_assoc, ftn]
    have := (fcn_m (s := s) (a := ((n + k : Nat) : Int)) G 0).1
    omega
theorem ftn_lt {s : rd_S} {G a b : Int} (hG : 0 ≤ G ∧ G ≤ 8) (hr : ∀ g : Int, 0 ≤ g → g < G → 0 ≤ rri s g ∧ rri s g ≤ 2) (ha : 0 ≤ a ∧ a < G) (hb : 0 ≤ b ∧ b ≤ G) : 0 ≤ ftn s G.toNat a.toNat + fcn s a b.toNat ∧ ftn s G.toNat a.toNat + fcn s a b.toNat ≤ 16 ∧ (b < G → fac s a b → ftn s G.toNat a.toNat + fcn s a b.toNat < 16) := by
  have t := ftn_16 (s := s) (G := G.toNat) (by omega) (fun g g0 g1 => hr g g0 (by omega))
  have m := ftn_m (s := s) (G := G.toNat) (a.toNat + 1) (G.toNat - (a.toNat + 1))
  rw [show a.toNat + 1 + (G.toNat - (a.toNat + 1)) = G.toNat by omega, ftn, show ((a.toNat : Nat) : Int) = a by omega] at m
  have z := ftn_m (s := s) (G := G.toNat) 0 a.toNat
  rw [show 0 + a.toNat = a.toNat by omega] at z
  have z0 : ftn s G.toNat 0 = 0 := rfl
  have f0 := fcn_m (s := s) (a := a) b.toNat (G.toNat - b.toNat)
  rw [show b.toNat + (G.toNat - b.toNat) = G.toNat by omega] at f0
  refine ⟨by omega, by omega, fun hb2 hf => ?_⟩
  have f1 := fcn_m (s := s) (a := a) (b.toNat + 1) (G.toNat - (b.toNat + 1))
  rw [show b.toNat + 1 + (G.toNat - (b.toNat + 1)) = G.toNat by omega, fcn, show ((b.toNat : Nat) : Int) = b by omega, if_pos (show rri s a + 1 = rri s b ∧ rrm s a = 0 ∧ rrm s b = 1 from hf)] at f1
  omega
/-! addPair -/
def apF (h : am_H) (s : rd_S) : Prop := h 78 0 = rU s ∧ h 78 1 = rG s ∧ ∀ g, 0 ≤ g → g < rG s → h 6 g = rri s g ∧ h 7 g = rrm s g ∧ h 8 g = rpl s g ∧ h 9 g = rkd s g
set_option maxHeartbeats 400000 in
set_option maxRecDepth 100000 in
theorem ap_114 {s : rd_S} {a b N th : Int} {h : am_H} {Q : am_P} (hs : rs_ok s) (hF : apF h s) (ha : 0 ≤ a ∧ a < rG s) (hb : 0 ≤ b ∧ b < rG s) (hN : h 83 9 = N) (hN2 : 0 ≤ N ∧ N < 16) (ht : th = 0 ∨ th = 1) (H : Q none (am_up (am_up (am_up h 40 N th) 41 N (rri s a)) 83 9 (N + 1))) : am_Ex 26 114 [some (.inr (.inr (some 83))), some (.inl a), some (.inl b)] [.inl th, .inl N, .inr (.inr (some 40))] h Q := by
  have g := hs.2.1
  have ea := (hF.2.2 a ha.1 ha.2).1
  have ra := (hs.2.2.2.1 a ha.1 ha.2).1
  simp only [eq_self, and_self, am_up_at, Int.cast_ofNat_Int, Int.reduceNatCast, true_or, or_true, or_false, false_or, Classical.not_not, false_and, and_false, am_bk, am_step, am_ldI, am_ldL, am_ldA, am_nth, am_sto, am_stw_0, am_stw_i, am_stw_n, am_stw_a, am_stw_l, am_br, am_cmp, am_tk, am_cat, am_sw, am_copy, am_R, am_nc0, am_nc1, am_f0, am_f1, am_f2, am_f3, Int.reduceNeg, Int.reduceEq, Int.reduceLE, Int.reduceLT, Nat.reduceLeDiff, Nat.reduceAdd, Nat.reduceEqDiff, true_and, and_true, ↓reduceIte, if_false, if_true, forall_const, not_true_eq_false, not_false_eq_true, false_implies, true_implies, implies_true, Int.reduceAdd, Int.reduceMul, Int.reduceSub, ne_eq, ca_26_83, bl_26_114, bl_26_126, gf_83_0, gf_83_1, ar_35, al_35, gf_83_2, ar_36, al_36, gf_83_3, ar_37, al_37, gf_83_4, ar_38, al_38, gf_83_5, ar_39, al_39, gf_83_6, ar_40, al_40, gf_83_7, ar_41, al_41, gf_83_8, ar_42, al_42, gf_83_9, pf_83_9, gf_83_10, pf_83_10, gf_83_11, pf_83_11, gf_83_12, pf_83_12, gf_78_0, pf_78_0, gf_78_1, pf_78_1, gf_78_2, ar_6, al_6, gf_78_3, ar_7, al_7, gf_78_4, ar_8, al_8, gf_78_5, ar_9, al_9, gf_78_6, ar_10, al_10, hN, ea]
  (repeat' (first | with_reducible apply And.intro | with_reducible intro _)) <;> first | omega | exact H
set_option maxHeartbeats 400000 in
set_option maxRecDepth 100000 in
theorem ap_91 {s : rd_S} {a b N x y : Int} {h : am_H} {Q : am_P} (hs : rs_ok s) (hF : apF h s) (ha : 0 ≤ a ∧ a < rG s) (hb : 0 ≤ b ∧ b < rG s) (hN : h 83 9 = N) (hN2 : 0 ≤ N ∧ N < 16) (hx : (x = 0 ∨ x = 1) ∧ (y = 0 ∨ y = 1)) (H : Q none (am_up (am_up (am_up (am_up h 39 N (x - y)) 40 N (if rkd s a = 4 ∨ rkd s b = 4 then 1 else 0)) 41 N (rri s a)) 83 9 (N + 1))) : am_Ex 26 91 [some (.inr (.inr (some 83))), some (.inl a), some (.inl b)] [.inl y, .inl x, .inl N, .inr (.inr (some 39))] h Q := by
  have g := hs.2.1
  have ea := (hF.2.2 a ha.1 ha.2).2.2.2
  have eb := (hF.2.2 b hb.1 hb.2).2.2.2
  have ra := (hs.2.2.2.1 a ha.1 ha.2).2.2.2
  have rb := (hs.2.2.2.1 b hb.1 hb.2).2.2.2
  have hF1 : apF (am_up h 39 N (x - y)) s := ⟨by rw [am_up_ne (by omega)]; exact hF.1, by rw [am_up_ne (by omega)]; exact hF.2.1, fun g g0 g1 => by rw [am_up_ne (by omega), am_up_ne (by omega), am_up_ne (by omega), am_up_ne (by omega)]; exact hF.2.2 g g0 g1⟩
  have K := fun th (e : th = (if rkd s a = 4 ∨ rkd s b = 4 then 1 else 0)) => ap_114 (Q := Q) hs hF1 ha hb (show (am_up h 39 N (x - y)) 83 9 = N by rw [am_up_ne (by omega)]; exact hN) hN2 (show th = 0 ∨ th = 1 by rw [e]; split <;> simp) (by rw [e]; exact H)
  have K1 := fun (z : rkd s a = 4 ∨ rkd s b = 4) => K 1 (by rw [if_pos z])
  have K0 := fun (z : ¬ (rkd s a = 4 ∨ rkd s b = 4)) => K 0 (by rw [if_neg z])
  generalize rkd s a = ka at *
  generalize rkd s b = kb at *
  simp only [eq_self, and_self, am_up_at, Int.cast_ofNat_Int, Int.reduceNatCast, true_or, or_true, or_false, false_or, Classical.not_not, false_and, and_false, am_bk, am_step, am_ldI, am_ldL, am_ldA, am_nth, am_sto, am_stw_0, am_stw_i, am_stw_n, am_stw_a, am_stw_l, am_br, am_cmp, am_tk, am_cat, am_sw, am_copy, am_R, am_nc0, am_nc1, am_f0, am_f1, am_f2, am_f3, Int.reduceNeg, Int.reduceEq, Int.reduceLE, Int.reduceLT, Nat.reduceLeDiff, Nat.reduceAdd, Nat.reduceEqDiff, true_and, and_true, ↓reduceIte, if_false, if_true, forall_const, not_true_eq_false, not_false_eq_true, false_implies, true_implies, implies_true, Int.reduceAdd, Int.reduceMul, Int.reduceSub, ne_eq, ca_26_83, bl_26_91, bl_26_103, bl_26_111, bl_26_113, gf_83_0, gf_83_1, ar_35, al_35, gf_83_2, ar_36, al_36, gf_83_3, ar_37, al_37, gf_83_4, ar_38, al_38, gf_83_5, ar_39, al_39, gf_83_6, ar_40, al_40, gf_83_7, ar_41, al_41, gf_83_8, ar_42, al_42, gf_83_9, pf_83_9, gf_83_10, pf_83_10, gf_83_11, pf_83_11, gf_83_12, pf_83_12, gf_78_0, pf_78_0, gf_78_1, pf_78_1, gf_78_2, ar_6, al_6, gf_78_3, ar_7, al_7, gf_78_4, ar_8, al_8, gf_78_5, ar_9, al_9, gf_78_6, ar_10, al_10, hN, ea, eb]
  (repeat' (first | with_reducible apply And.intro | with_reducible intro _)) <;> first | omega | exact K1 (by omega) | exact K0 (by omega)
set_option maxHeartbeats 400000 in
set_option maxRecDepth 100000 in
theorem ap_66 {s : rd_S} {a b N w : Int} {h : am_H} {Q : am_P} (hs : rs_ok s) (hF : apF h s) (ha : 0 ≤ a ∧ a < rG s) (hb : 0 ≤ b ∧ b < rG s) (hN : h 83 9 = N) (hN2 : 0 ≤ N ∧ N < 16) (H : Q none (am_up (am_up (am_up (am_up (am_up h 38 N w) 39 N ((if rkd s a = 3 then 1 else 0) - (if rkd s b = 3 then 1 else 0))) 40 N (if rkd s a = 4 ∨ rkd s b = 4 then 1 else 0)) 41 N (rri s a)) 83 9 (N + 1))) (hw : 0 ≤ w ∧ w ≤ 54) : am_Ex 26 66 [some (.inr (.inr (some 83))), some (.inl a), some (.inl b)] [.inl w, .inl N, .inr (.inr (some 38))] h Q := by
  have g := hs.2.1
  have ea := (hF.2.2 a ha.1 ha.2).2.2.2
  have eb := (hF.2.2 b hb.1 hb.2).2.2.2
  have ra := (hs.2.2.2.1 a ha.1 ha.2).2.2.2
  have rb := (hs.2.2.2.1 b hb.1 hb.2).2.2.2
  have hF1 : apF (am_up h 38 N w) s := ⟨by rw [am_up_ne (by omega)]; exact hF.1, by rw [am_up_ne (by omega)]; exact hF.2.1, fun g g0 g1 => by rw [am_up_ne (by omega), am_up_ne (by omega), am_up_ne (by omega), am_up_ne (by omega)]; exact hF.2.2 g g0 g1⟩
  have K := fun x y (e : x = (if rkd s a = 3 then 1 else 0)) (e2 : y = (if rkd s b = 3 then 1 else 0)) => ap_91 (Q := Q) (x := x) (y := y) hs hF1 ha hb (show (am_up h 38 N w) 83 9 = N by rw [am_up_ne (by omega)]; exact hN) hN2 ⟨by rw [e]; split <;> simp, by rw [e2]; split <;> simp⟩ (by rw [e, e2]; exact H)
  have Kx : ∀ x, x = (if rkd s a = 3 then 1 else 0) → am_Ex 26 81 [some (.inr (.inr (some 83))), some (.inl a), some (.inl b)] [.inl x, .inl N, .inr (.inr (some 39))] (am_up h 38 N w) Q := by
    intro x e
    have K1 := fun (z : rkd s b = 3) => K x 1 e (by rw [if_pos z])
    have K0 := fun (z : ¬ rkd s b = 3) => K x 0 e (by rw [if_neg z])
    generalize rkd s b = kb at *
    simp only [eq_self, and_self, am_up_at, Int.cast_ofNat_Int, Int.reduceNatCast, true_or, or_true, or_false, false_or, Classical.not_not, false_and, and_false, am_bk, am_step, am_ldI, am_ldL, am_ldA, am_nth, am_sto, am_stw_0, am_stw_i, am_stw_n, am_stw_a, am_stw_l, am_br, am_cmp, am_tk, am_cat, am_sw, am_copy, am_R, am_nc0, am_nc1, am_f0, am_f1, am_f2, am_f3, Int.reduceNeg, Int.reduceEq, Int.reduceLE, Int.reduceLT, Nat.reduceLeDiff, Nat.reduceAdd, Nat.reduceEqDiff, true_and, and_true, ↓reduceIte, if_false, if_true, forall_const, not_true_eq_false, not_false_eq_true, false_implies, true_implies, implies_true, Int.reduceAdd, Int.reduceMul, Int.reduceSub, ne_eq, ca_26_83, bl_26_81, bl_26_90, gf_83_0, gf_83_1, ar_35, al_35, gf_83_2, ar_36, al_36, gf_83_3, ar_37, al_37, gf_83_4, ar_38, al_38, gf_83_5, ar_39, al_39, gf_83_6, ar_40, al_40, gf_83_7, ar_41, al_41, gf_83_8, ar_42, al_42, gf_83_9, pf_83_9, gf_83_10, pf_83_10, gf_83_11, pf_83_11, gf_83_12, pf_83_12, gf_78_0, pf_78_0, gf_78_1, pf_78_1, gf_78_2, ar_6, al_6, gf_78_3, ar_7, al_7, gf_78_4, ar_8, al_8, gf_78_5, ar_9, al_9, gf_78_6, ar_10, al_10, eb]
    (repeat' (first | with_reducible apply And.intro | with_reducible intro _)) <;> first | omega | exact K1 (by omega) | exact K0 (by omega)
  have K1 := fun (z : rkd s a = 3) => Kx 1 (by rw [if_pos z])
  have K0 := fun (z : ¬ rkd s a = 3) => Kx 0 (by rw [if_neg z])
  generalize rkd s a = ka at *
  simp only [eq_self, and_self, am_up_at, Int.cast_ofNat_Int, Int.reduceNatCast, true_or, or_true, or_false, false_or, Classical.not_not, false_and, and_false, am_bk, am_step, am_ldI, am_ldL, am_ldA, am_nth, am_sto, am_stw_0, am_stw_i, am_stw_n, am_stw_a, am_stw_l, am_br, am_cmp, am_tk, am_cat, am_sw, am_copy, am_R, am_nc0, am_nc1, am_f0, am_f1, am_f2, am_f3, Int.reduceNeg, Int.reduceEq, Int.reduceLE, Int.reduceLT, Nat.reduceLeDiff, Nat.reduceAdd, Nat.reduceEqDiff, true_and, and_true, ↓reduceIte, if_false, if_true, forall_const, not_true_eq_false, not_false_eq_true, false_implies, true_implies, implies_true, Int.reduceAdd, Int.reduceMul, Int.reduceSub, ne_eq, ca_26_83, bl_26_66, bl_26_78, bl_26_80, gf_83_0, gf_83_1, ar_35, al_35, gf_83_2, ar_36, al_36, gf_83_3, ar_37, al_37, gf_83_4, ar_38, al_38, gf_83_5, ar_39, al_39, gf_83_6, ar_40, al_40, gf_83_7, ar_41, al_41, gf_83_8, ar_42, al_42, gf_83_9, pf_83_9, gf_83_10, pf_83_10, gf_83_11, pf_83_11, gf_83_12, pf_83_12, gf_78_0, pf_78_0, gf_78_1, pf_78_1, gf_78_2, ar_6, al_6, gf_78_3, ar_7, al_7, gf_78_4, ar_8, al_8, gf_78_5, ar_9, al_9, gf_78_6, ar_10, al_10, hN, ea]
  (repeat' (first | with_reducible apply And.intro | with_reducible intro _)) <;> first | omega | exact K1 (by omega) | exact K0 (by omega)
def apH (s : rd_S) (a b N : Int) (h : am_H) : am_H := am_up (am_up (am_up (am_up (am_up (am_up (am_up (am_up h 36 (8 * a + b) N) 36 (8 * b + a) N) 37 N (if rkd s a = 1 ∨ rkd s b = 1 then 1 else 0)) 38 N ((rpl s a - rpl s b + (if rkd s a = 1 ∨ rkd s b = 1 then 1 else 0)) % rU s)) 39 N ((if rkd s a = 3 then 1 else 0) - (if rkd s b = 3 then 1 else 0))) 40 N (if rkd s a = 4 ∨ rkd s b = 4 then 1 else 0)) 41 N (rri s a)) 83 9 (N + 1)
set_option maxHeartbeats 400000 in
set_option maxRecDepth 100000 in
theorem sp_addPair {s : rd_S} {a b N : Int} {h : am_H} {Q : am_P} (hs : rs_ok s) (hF : apF h s) (ha : 0 ≤ a ∧ a < rG s) (hb : 0 ≤ b ∧ b < rG s) (hN : h 83 9 = N) (hN2 : 0 ≤ N ∧ N < 16) (H : Q none (apH s a b N h)) : am_Call 26 [.inr (.inr (some 83)), .inl a, .inl b] h Q := by
  have g := hs.2.1
  have u := hs.1
  have ea := (hF.2.2 a ha.1 ha.2).2.2
  have eb := (hF.2.2 b hb.1 hb.2).2.2
  have ra := (hs.2.2.2.1 a ha.1 ha.2).2.2
  have rb := (hs.2.2.2.1 b hb.1 hb.2).2.2
  have hF1 : ∀ (c : Nat) (i v : Int) (h' : am_H), 36 ≤ c ∧ c ≤ 41 → apF h' s → apF (am_up h' c i v) s := fun c i v h' hc hF => ⟨by rw [am_up_ne (by omega)]; exact hF.1, by rw [am_up_ne (by omega)]; exact hF.2.1, fun g g0 g1 => by rw [am_up_ne (by omega), am_up_ne (by omega), am_up_ne (by omega), am_up_ne (by omega)]; exact hF.2.2 g g0 g1⟩
  have K41 : ∀ sl, sl = (if rkd s a = 1 ∨ rkd s b = 1 then 1 else 0) → am_Ex 26 41 [some (.inr (.inr (some 83))), some (.inl a), some (.inl b)] [.inl sl, .inl N, .inr (.inr (some 37))] (am_up (am_up h 36 (8 * a + b) N) 36 (8 * b + a) N) Q := by
    intro sl e
    have slr : sl = 0 ∨ sl = 1 := by rw [e]; split <;> simp
    have F3 := hF1 37 N sl _ (by omega) (hF1 36 (8 * b + a) N _ (by omega) (hF1 36 (8 * a + b) N h (by omega) hF))
    have N3 : (am_up (am_up (am_up h 36 (8 * a + b) N) 36 (8 * b + a) N) 37 N sl) 83 9 = N := by rw [am_up_ne (by omega), am_up_ne (by omega), am_up_ne (by omega)]; exact hN
    have m0 := Int.emod_nonneg (rpl s a - rpl s b + sl) (show rU s ≠ 0 by omega)
    have m1 := Int.emod_lt_of_pos (rpl s a - rpl s b + sl) (show 0 < rU s by omega)
    have K := ap_66 (Q := Q) (w := (rpl s a - rpl s b + sl) % rU s) hs F3 ha hb N3 hN2 (by rw [e]; exact H) (by omega)
    have W : ∀ Q' : am_P, Q' (some (.inl ((rpl s a - rpl s b + sl) % rU s))) (am_up (am_up (am_up h 36 (8 * a + b) N) 36 (8 * b + a) N) 37 N sl) → am_Call 16 [.inr (.inr (some 78)), .inl (rpl s a - rpl s b + sl)] (am_up (am_up (am_up h 36 (8 * a + b) N) 36 (8 * b + a) N) 37 N sl) Q' := fun Q' q => sp_wrap (by omega) (by rw [F3.1]; omega) (by rw [F3.1]; exact q)
    simp only [eq_self, and_self, am_up_at, Int.cast_ofNat_Int, Int.reduceNatCast, true_or, or_true, or_false, false_or, Classical.not_not, false_and, and_false, am_bk, am_step, am_ldI, am_ldL, am_ldA, am_nth, am_sto, am_stw_0, am_stw_i, am_stw_n, am_stw_a, am_stw_l, am_br, am_cmp, am_tk, am_cat, am_sw, am_copy, am_R, am_nc0, am_nc1, am_f0, am_f1, am_f2, am_f3, Int.reduceNeg, Int.reduceEq, Int.reduceLE, Int.reduceLT, Nat.reduceLeDiff, Nat.reduceAdd, Nat.reduceEqDiff, true_and, and_true, ↓reduceIte, if_false, if_true, forall_const, not_true_eq_false, not_false_eq_true, false_implies, true_implies, implies_true, Int.reduceAdd, Int.reduceMul, Int.reduceSub, ne_eq, ca_26_83, bl_26_41, bl_26_53, bl_26_65, gf_83_0, gf_83_1, ar_35, al_35, gf_83_2, ar_36, al_36, gf_83_3, ar_37, al_37, gf_83_4, ar_38, al_38, gf_83_5, ar_39, al_39, gf_83_6, ar_40, al_40, gf_83_7, ar_41, al_41, gf_83_8, ar_42, al_42, gf_83_9, pf_83_9, gf_83_10, pf_83_10, gf_83_11, pf_83_11, gf_83_12, pf_83_12, gf_78_0, pf_78_0, gf_78_1, pf_78_1, gf_78_2, ar_6, al_6, gf_78_3, ar_7, al_7, gf_78_4, ar_8, al_8, gf_78_5, ar_9, al_9, gf_78_6, ar_10, al_10, hN, ea.1, eb.1]
    (repeat' (first | with_reducible apply And.intro | with_reducible intro _)) <;> first | omega | exact W _ K
  have K1 := fun (z : rkd s a = 1 ∨ rkd s b = 1) => K41 1 (by rw [if_pos z])
  have K0 := fun (z : ¬ (rkd s a = 1 ∨ rkd s b = 1)) => K41 0 (by rw [if_neg z])
  have ea2 := ea.2
  have eb2 := eb.2
  have ra2 := ra.2
  have rb2 := rb.2
  generalize rkd s a = ka at *
  generalize rkd s b = kb at *
  simp only [eq_self, and_self, am_up_at, Int.cast_ofNat_Int, Int.reduceNatCast, true_or, or_true, or_false, false_or, Classical.not_not, false_and, and_false, am_bk, am_step, am_ldI, am_ldL, am_ldA, am_nth, am_sto, am_stw_0, am_stw_i, am_stw_n, am_stw_a, am_stw_l, am_br, am_cmp, am_tk, am_cat, am_sw, am_copy, am_R, am_nc0, am_nc1, am_f0, am_f1, am_f2, am_f3, Int.reduceNeg, Int.reduceEq, Int.reduceLE, Int.reduceLT, Nat.reduceLeDiff, Nat.reduceAdd, Nat.reduceEqDiff, true_and, and_true, ↓reduceIte, if_false, if_true, forall_const, not_true_eq_false, not_false_eq_true, false_implies, true_implies, implies_true, Int.reduceAdd, Int.reduceMul, Int.reduceSub, ne_eq, ca_26_83, bl_26_0, bl_26_12, bl_26_24, bl_26_36, bl_26_38, bl_26_40, gf_83_0, gf_83_1, ar_35, al_35, gf_83_2, ar_36, al_36, gf_83_3, ar_37, al_37, gf_83_4, ar_38, al_38, gf_83_5, ar_39, al_39, gf_83_6, ar_40, al_40, gf_83_7, ar_41, al_41, gf_83_8, ar_42, al_42, gf_83_9, pf_83_9, gf_83_10, pf_83_10, gf_83_11, pf_83_11, gf_83_12, pf_83_12, gf_78_0, pf_78_0, gf_78_1, pf_78_1, gf_78_2, ar_6, al_6, gf_78_3, ar_7, al_7, gf_78_4, ar_8, al_8, gf_78_5, ar_9, al_9, gf_78_6, ar_10, al_10, hN, ea2, eb2]
  (repeat' (first | with_reducible apply And.intro | with_reducible intro _)) <;> first | omega | exact K1 (by omega) | exact K0 (by omega)
