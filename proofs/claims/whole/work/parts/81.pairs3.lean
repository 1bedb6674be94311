/-! the class: pairUp, the loops -/
def dn2 (s : rd_S) (a b x y : Int) : Prop := fac s x y ∧ (x < a ∨ (x = a ∧ y < b))
def tbl (s : rd_S) (x y v : Int) (h : am_H) : Prop := h 37 v = (if rkd s x = 1 ∨ rkd s y = 1 then 1 else 0) ∧ h 38 v = (rpl s x - rpl s y + (if rkd s x = 1 ∨ rkd s y = 1 then 1 else 0)) % rU s ∧ h 39 v = (if rkd s x = 3 then 1 else 0) - (if rkd s y = 3 then 1 else 0) ∧ h 40 v = (if rkd s x = 4 ∨ rkd s y = 4 then 1 else 0) ∧ h 41 v = rri s x
def pI (s : rd_S) (a b : Int) (h : am_H) : Prop := ∀ x y, (0 ≤ x ∧ x < rG s) → (0 ≤ y ∧ y < rG s) → (h 36 (8 * x + y) = -1 ∨ (0 ≤ h 36 (8 * x + y) ∧ h 36 (8 * x + y) < h 83 9)) ∧ h 36 (8 * x + y) = h 36 (8 * y + x) ∧ (h 36 (8 * x + y) ≠ -1 ↔ (dn2 s a b x y ∨ dn2 s a b y x)) ∧ (dn2 s a b x y → tbl s x y (h 36 (8 * x + y)) h)
def fr_u (h h1 : am_H) : Prop := (∀ c, ¬ (36 ≤ c ∧ c ≤ 41) → c ≠ 83 → h1 c = h c) ∧ ∀ i, i ≠ 9 → h1 83 i = h 83 i
theorem pI_no {s : rd_S} {a b : Int} {h : am_H} (hf : ¬ fac s a b) (I : pI s a b h) : pI s a (b + 1) h := by
  have e : ∀ x y, dn2 s a (b + 1) x y ↔ dn2 s a b x y := by
    intro x y
    unfold dn2
    constructor
    · intro ⟨f, o⟩
      refine ⟨f, ?_⟩
      rcases o with o | ⟨o1, o2⟩
      · exact Or.inl o
      · by_cases c : y = b
        · rw [o1, c] at f; exact absurd f hf
        · exact Or.inr ⟨o1, by omega⟩
    · intro ⟨f, o⟩
      exact ⟨f, by omega⟩
  intro x y hx hy
  obtain ⟨i1, i2, i3, i4⟩ := I x y hx hy
  exact ⟨i1, i2, by rw [e, e]; exact i3, fun z => i4 ((e x y).mp z)⟩
theorem pI_row {s : rd_S} {a : Int} {h : am_H} (I : pI s a (rG s) h) : pI s (a + 1) 0 h := by
  intro x y hx hy
  have e : ∀ x y, 0 ≤ y → y < rG s → (dn2 s (a + 1) 0 x y ↔ dn2 s a (rG s) x y) := by
    intro x y y0 y1
    unfold dn2
    constructor
    · intro ⟨f, o⟩; exact ⟨f, by omega⟩
    · intro ⟨f, o⟩; exact ⟨f, by omega⟩
  obtain ⟨i1, i2, i3, i4⟩ := I x y hx hy
  exact ⟨i1, i2, by rw [e x y hy.1 hy.2, e y x hx.1 hx.2]; exact i3, fun z => i4 ((e x y hy.1 hy.2).mp z)⟩
theorem pI_yes {s : rd_S} {a b N : Int} {h : am_H} (hs : rs_ok s) (ha : 0 ≤ a ∧ a < rG s) (hb : 0 ≤ b ∧ b < rG s) (hf : fac s a b) (hN : h 83 9 = N) (hN0 : 0 ≤ N) (I : pI s a b h) : pI s a (b + 1) (apH s a b N h) := by
  have G := hs.2.1
  have hf' := hf
  unfold fac at hf'
  have nab : a ≠ b := fun z => by rw [z] at hf'; omega
  have e83 : (apH s a b N h) 83 9 = N + 1 := by unfold apH; rw [am_up_at, if_pos ⟨rfl, rfl⟩]
  have e36 : ∀ i, (apH s a b N h) 36 i = if i = 8 * b + a then N else if i = 8 * a + b then N else h 36 i := by
    intro i
    unfold apH
    simp only [eq_self, and_self, am_up_at, am_up_ne, ne_eq, Nat.reduceEqDiff, Int.reduceEq, Int.reduceNeg, not_false_eq_true, false_and, and_false, true_and, and_true, ↓reduceIte, if_false, if_true, Int.reduceAdd, Int.reduceMul, Nat.reduceAdd]
  have et : ∀ v, v ≠ N → (apH s a b N h) 37 v = h 37 v ∧ (apH s a b N h) 38 v = h 38 v ∧ (apH s a b N h) 39 v = h 39 v ∧ (apH s a b N h) 40 v = h 40 v ∧ (apH s a b N h) 41 v = h 41 v := by
    intro v hv
    unfold apH
    simp only [eq_self, and_self, am_up_at, am_up_ne, ne_eq, Nat.reduceEqDiff, Int.reduceEq, Int.reduceNeg, not_false_eq_true, false_and, and_false, true_and, and_true, ↓reduceIte, if_false, if_true, Int.reduceAdd, Int.reduceMul, Nat.reduceAdd, if_neg hv]
  have eN : tbl s a b N (apH s a b N h) := by
    unfold tbl apH
    simp only [eq_self, and_self, am_up_at, am_up_ne, ne_eq, Nat.reduceEqDiff, Int.reduceEq, Int.reduceNeg, not_false_eq_true, false_and, and_false, true_and, and_true, ↓reduceIte, if_false, if_true, Int.reduceAdd, Int.reduceMul, Nat.reduceAdd]
  intro x y hx hy
  obtain ⟨i1, i2, i3, i4⟩ := I x y hx hy
  have d : ∀ x y, dn2 s a (b + 1) x y ↔ (dn2 s a b x y ∨ (x = a ∧ y = b)) := by
    intro x y
    unfold dn2
    constructor
    · intro ⟨f, o⟩
      by_cases c : x = a ∧ y = b
      · exact Or.inr c
      · exact Or.inl ⟨f, by omega⟩
    · intro q
      rcases q with ⟨f, o⟩ | ⟨q1, q2⟩
      · exact ⟨f, by omega⟩
      · rw [q1, q2]; exact ⟨hf, by omega⟩
  rw [e36, e36, e83, d, d]
  by_cases c1 : x = a ∧ y = b
  · rw [c1.1, c1.2, if_neg (by omega), if_pos rfl, if_pos rfl]
    exact ⟨by omega, rfl, ⟨fun _ => Or.inl (Or.inr ⟨rfl, rfl⟩), fun _ => by omega⟩, fun _ => eN⟩
  · by_cases c2 : x = b ∧ y = a
    · rw [c2.1, c2.2, if_pos rfl, if_neg (by omega), if_pos rfl]
      refine ⟨by omega, rfl, ⟨fun _ => Or.inr (Or.inr ⟨rfl, rfl⟩), fun _ => by omega⟩, fun z => ?_⟩
      exfalso
      rcases z with z | z
      · have := z.1
        unfold fac at this
        omega
      · omega
    · rw [if_neg (by omega), if_neg (by omega), if_neg (by omega), if_neg (by omega)]
      refine ⟨by omega, i2, ?_, fun z => ?_⟩
      · rw [i3]
        exact ⟨fun z => by rcases z with z | z; exact Or.inl (Or.inl z); exact Or.inr (Or.inl z), fun z => by
          rcases z with (z | z) | (z | z)
          · exact Or.inl z
          · exact absurd z c1
          · exact Or.inr z
          · exact absurd ⟨z.2, z.1⟩ c2⟩
      · rcases z with z | z
        · have t := i4 z
          have ne := i3.mpr (Or.inl z)
          have vn : h 36 (8 * x + y) ≠ N := by omega
          have q := et _ vn
          unfold tbl at t ⊢
          rw [q.1, q.2.1, q.2.2.1, q.2.2.2.1, q.2.2.2.2]
          exact t
        · exact absurd z c1
theorem fu_ap {s : rd_S} {a b N : Int} {h0 h : am_H} (f : fr_u h0 h) : fr_u h0 (apH s a b N h) := by
  refine ⟨fun c c1 c2 => ?_, fun i hi => ?_⟩
  · unfold apH
    rw [am_up_ne c2, am_up_ne (by omega), am_up_ne (by omega), am_up_ne (by omega), am_up_ne (by omega), am_up_ne (by omega), am_up_ne (by omega), am_up_ne (by omega)]
    exact f.1 c c1 c2
  · unfold apH
    rw [am_up_at, if_neg (fun z => hi z.2), am_up_ne (by omega), am_up_ne (by omega), am_up_ne (by omega), am_up_ne (by omega), am_up_ne (by omega), am_up_ne (by omega), am_up_ne (by omega)]
    exact f.2 i hi
theorem ap_u {s : rd_S} {h h1 : am_H} (hF : apF h s) (f : fr_u h h1) : apF h1 s := by
  refine ⟨?_, ?_, fun g g0 g1 => ?_⟩
  · rw [f.1 78 (by omega) (by omega)]; exact hF.1
  · rw [f.1 78 (by omega) (by omega)]; exact hF.2.1
  · rw [f.1 6 (by omega) (by omega), f.1 7 (by omega) (by omega), f.1 8 (by omega) (by omega), f.1 9 (by omega) (by omega)]; exact hF.2.2 g g0 g1
set_option maxHeartbeats 400000 in
set_option maxRecDepth 100000 in
theorem lp_pu1 {s : rd_S} {a : Int} {h0 : am_H} {Q : am_P} (hs : rs_ok s) (hF0 : apF h0 s) (ha : 0 ≤ a ∧ a < rG s) (H : ∀ h1, fr_u h0 h1 → h1 83 9 = ftn s (rG s).toNat a.toNat + fcn s a (rG s).toNat → pI s a (rG s) h1 → am_Ex 25 63 [some (.inr (.inr (some 83))), some (.inl a), some (.inl (rG s)), none] [] h1 Q) :
    ∀ (m : Nat) (b : Int) (i : Option am_V) (h : am_H), (i = none ∨ ∃ z : Int, i = some (.inl z)) → 0 ≤ b → b + m = rG s → fr_u h0 h → h 83 9 = ftn s (rG s).toNat a.toNat + fcn s a b.toNat → pI s a b h → am_Ex 25 16 [some (.inr (.inr (some 83))), some (.inl a), some (.inl b), none] [] h Q := by
  intro m
  have G := hs.2.1
  have hr := fun g g0 g1 => (hs.2.2.2.1 g g0 g1).1
  induction m with
  | zero =>
    intro b i h hi b0 b1 hf hN I
    have eb : b = rG s := by omega
    subst eb
    have hF := ap_u hF0 hf
    have p1 := hF.2.1
    have K := H h hf hN I
    rw [bl_25_16]
    simp only [eq_self, and_self, am_up_at, Int.cast_ofNat_Int, Int.reduceNatCast, true_or, or_true, or_false, false_or, Classical.not_not, false_and, and_false, am_bk, am_step, am_ldI, am_ldL, am_ldA, am_nth, am_sto, am_stw_0, am_stw_i, am_stw_n, am_stw_a, am_stw_l, am_br, am_cmp, am_tk, am_cat, am_sw, am_copy, am_R, am_nc0, am_nc1, am_f0, am_f1, am_f2, am_f3, Int.reduceNeg, Int.reduceEq, Int.reduceLE, Int.reduceLT, Nat.reduceLeDiff, Nat.reduceAdd, Nat.reduceEqDiff, true_and, and_true, ↓reduceIte, if_false, if_true, forall_const, not_true_eq_false, not_false_eq_true, false_implies, true_implies, implies_true, Int.reduceAdd, Int.reduceMul, Int.reduceSub, ne_eq, gf_83_0, gf_83_1, ar_35, al_35, gf_83_2, ar_36, al_36, gf_83_3, ar_37, al_37, gf_83_4, ar_38, al_38, gf_83_5, ar_39, al_39, gf_83_6, ar_40, al_40, gf_83_7, ar_41, al_41, gf_83_8, ar_42, al_42, gf_83_9, pf_83_9, gf_83_10, pf_83_10, gf_83_11, pf_83_11, gf_83_12, pf_83_12, gf_78_0, pf_78_0, gf_78_1, pf_78_1, gf_78_2, ar_6, al_6, gf_78_3, ar_7, al_7, gf_78_4, ar_8, al_8, gf_78_5, ar_9, al_9, gf_78_6, ar_10, al_10, p1]
    (repeat' (first | with_reducible apply And.intro | with_reducible intro _)) <;> first | omega | exact K
  | succ m ih =>
    intro b i h hi b0 b1 hf hN I
    have hF := ap_u hF0 hf
    have p1 := hF.2.1
    have fa := hF.2.2 a ha.1 ha.2
    have fb := hF.2.2 b b0 (by omega)
    have ra := hs.2.2.2.1 a ha.1 ha.2
    have rb := hs.2.2.2.1 b b0 (by omega)
    have lt := ftn_lt (s := s) (a := a) (b := b) G hr ha (by omega)
    have st : fcn s a (b + 1).toNat = fcn s a b.toNat + (if rri s a + 1 = rri s b ∧ rrm s a = 0 ∧ rrm s b = 1 then 1 else 0) := by
      rw [show (b + 1).toNat = b.toNat + 1 by omega, fcn, show ((b.toNat : Nat) : Int) = b by omega]
    obtain ⟨N, eN⟩ : ∃ N, ftn s (rG s).toNat a.toNat + fcn s a b.toNat = N := ⟨_, rfl⟩
    rw [eN] at hN lt
    have Kn : ¬ fac s a b → am_Ex 25 16 [some (.inr (.inr (some 83))), some (.inl a), some (.inl (b + 1)), none] [] h Q := fun z => ih (b + 1) none h (Or.inl rfl) (by omega) (by omega) hf (by rw [st, if_neg (show ¬ (rri s a + 1 = rri s b ∧ rrm s a = 0 ∧ rrm s b = 1) from z), hN]; omega) (pI_no z I)
    have Ky : fac s a b → am_Ex 25 16 [some (.inr (.inr (some 83))), some (.inl a), some (.inl (b + 1)), none] [] (apH s a b N h) Q := fun z => ih (b + 1) none _ (Or.inl rfl) (by omega) (by omega) (fu_ap hf) (by
      rw [st, if_pos (show rri s a + 1 = rri s b ∧ rrm s a = 0 ∧ rrm s b = 1 from z)]
      unfold apH
      rw [am_up_at, if_pos ⟨rfl, rfl⟩]
      omega) (pI_yes hs ha ⟨b0, by omega⟩ z hN lt.1 I)
    have K61 : ∀ h1 x, am_Ex 25 16 [some (.inr (.inr (some 83))), some (.inl a), some (.inl (b + 1)), none] [] h1 Q → am_Ex 25 61 [some (.inr (.inr (some 83))), some (.inl a), some (.inl b), some (.inl x)] [] h1 Q := by
      intro h1 x K
      simp only [eq_self, and_self, am_up_at, Int.cast_ofNat_Int, Int.reduceNatCast, true_or, or_true, or_false, false_or, Classical.not_not, false_and, and_false, am_bk, am_step, am_ldI, am_ldL, am_ldA, am_nth, am_sto, am_stw_0, am_stw_i, am_stw_n, am_stw_a, am_stw_l, am_br, am_cmp, am_tk, am_cat, am_sw, am_copy, am_R, am_nc0, am_nc1, am_f0, am_f1, am_f2, am_f3, Int.reduceNeg, Int.reduceEq, Int.reduceLE, Int.reduceLT, Nat.reduceLeDiff, Nat.reduceAdd, Nat.reduceEqDiff, true_and, and_true, ↓reduceIte, if_false, if_true, forall_const, not_true_eq_false, not_false_eq_true, false_implies, true_implies, implies_true, Int.reduceAdd, Int.reduceMul, Int.reduceSub, ne_eq, ca_25_83, bl_25_61, gf_83_0, gf_83_1, ar_35, al_35, gf_83_2, ar_36, al_36, gf_83_3, ar_37, al_37, gf_83_4, ar_38, al_38, gf_83_5, ar_39, al_39, gf_83_6, ar_40, al_40, gf_83_7, ar_41, al_41, gf_83_8, ar_42, al_42, gf_83_9, pf_83_9, gf_83_10, pf_83_10, gf_83_11, pf_83_11, gf_83_12, pf_83_12]
      (repeat' (first | with_reducible apply And.intro | with_reducible intro _)) <;> first | omega | exact am_forget K (by simp [am_lq])
    have K50y : fac s a b → am_Ex 25 50 [some (.inr (.inr (some 83))), some (.inl a), some (.inl b), none] [.inl 1] h Q := by
      intro z
      have l16 := lt.2.2 (by omega) z
      have C : ∀ Q' : am_P, Q' none (apH s a b N h) → am_Call 26 [.inr (.inr (some 83)), .inl a, .inl b] h Q' := fun Q' q => sp_addPair hs hF ha ⟨b0, by omega⟩ hN (by omega) q
      simp only [eq_self, and_self, am_up_at, Int.cast_ofNat_Int, Int.reduceNatCast, true_or, or_true, or_false, false_or, Classical.not_not, false_and, and_false, am_bk, am_step, am_ldI, am_ldL, am_ldA, am_nth, am_sto, am_stw_0, am_stw_i, am_stw_n, am_stw_a, am_stw_l, am_br, am_cmp, am_tk, am_cat, am_sw, am_copy, am_R, am_nc0, am_nc1, am_f0, am_f1, am_f2, am_f3, Int.reduceNeg, Int.reduceEq, Int.reduceLE, Int.reduceLT, Nat.reduceLeDiff, Nat.reduceAdd, Nat.reduceEqDiff, true_and, and_true, ↓reduceIte, if_false, if_true, forall_const, not_true_eq_false, not_false_eq_true, false_implies, true_implies, implies_true, Int.reduceAdd, Int.reduceMul, Int.reduceSub, ne_eq, ca_25_83, bl_25_50, gf_83_0, gf_83_1, ar_35, al_35, gf_83_2, ar_36, al_36, gf_83_3, ar_37, al_37, gf_83_4, ar_38, al_38, gf_83_5, ar_39, al_39, gf_83_6, ar_40, al_40, gf_83_7, ar_41, al_41, gf_83_8, ar_42, al_42, gf_83_9, pf_83_9, gf_83_10, pf_83_10, gf_83_11, pf_83_11, gf_83_12, pf_83_12, hN]
      (repeat' (first | with_reducible apply And.intro | with_reducible intro _)) <;> first | omega | exact C _ (K61 _ 1 (Ky z))
    have K50n : ¬ fac s a b → am_Ex 25 50 [some (.inr (.inr (some 83))), some (.inl a), some (.inl b), none] [.inl 0] h Q := by
      intro z
      have K := K61 h 0 (Kn z)
      simp only [eq_self, and_self, am_up_at, Int.cast_ofNat_Int, Int.reduceNatCast, true_or, or_true, or_false, false_or, Classical.not_not, false_and, and_false, am_bk, am_step, am_ldI, am_ldL, am_ldA, am_nth, am_sto, am_stw_0, am_stw_i, am_stw_n, am_stw_a, am_stw_l, am_br, am_cmp, am_tk, am_cat, am_sw, am_copy, am_R, am_nc0, am_nc1, am_f0, am_f1, am_f2, am_f3, Int.reduceNeg, Int.reduceEq, Int.reduceLE, Int.reduceLT, Nat.reduceLeDiff, Nat.reduceAdd, Nat.reduceEqDiff, true_and, and_true, ↓reduceIte, if_false, if_true, forall_const, not_true_eq_false, not_false_eq_true, false_implies, true_implies, implies_true, Int.reduceAdd, Int.reduceMul, Int.reduceSub, ne_eq, ca_25_83, bl_25_50, gf_83_0, gf_83_1, ar_35, al_35, gf_83_2, ar_36, al_36, gf_83_3, ar_37, al_37, gf_83_4, ar_38, al_38, gf_83_5, ar_39, al_39, gf_83_6, ar_40, al_40, gf_83_7, ar_41, al_41, gf_83_8, ar_42, al_42, gf_83_9, pf_83_9, gf_83_10, pf_83_10, gf_83_11, pf_83_11, gf_83_12, pf_83_12, hN]
      (repeat' (first | with_reducible apply And.intro | with_reducible intro _)) <;> first | omega | exact K
    have y1 := fun (z : rri s a + 1 = rri s b ∧ rrm s a = 0 ∧ rrm s b = 1) => K50y z
    have n1 := fun (z : ¬ (rri s a + 1 = rri s b ∧ rrm s a = 0 ∧ rrm s b = 1)) => K50n z
    rw [bl_25_16]
    simp only [eq_self, and_self, am_up_at, Int.cast_ofNat_Int, Int.reduceNatCast, true_or, or_true, or_false, false_or, Classical.not_not, false_and, and_false, am_bk, am_step, am_ldI, am_ldL, am_ldA, am_nth, am_sto, am_stw_0, am_stw_i, am_stw_n, am_stw_a, am_stw_l, am_br, am_cmp, am_tk, am_cat, am_sw, am_copy, am_R, am_nc0, am_nc1, am_f0, am_f1, am_f2, am_f3, Int.reduceNeg, Int.reduceEq, Int.reduceLE, Int.reduceLT, Nat.reduceLeDiff, Nat.reduceAdd, Nat.reduceEqDiff, true_and, and_true, ↓reduceIte, if_false, if_true, forall_const, not_true_eq_false, not_false_eq_true, false_implies, true_implies, implies_true, Int.reduceAdd, Int.reduceMul, Int.reduceSub, ne_eq, ca_25_83, bl_25_21, bl_25_33, bl_25_45, bl_25_49, gf_83_0, gf_83_1, ar_35, al_35, gf_83_2, ar_36, al_36, gf_83_3, ar_37, al_37, gf_83_4, ar_38, al_38, gf_83_5, ar_39, al_39, gf_83_6, ar_40, al_40, gf_83_7, ar_41, al_41, gf_83_8, ar_42, al_42, gf_83_9, pf_83_9, gf_83_10, pf_83_10, gf_83_11, pf_83_11, gf_83_12, pf_83_12, gf_78_0, pf_78_0, gf_78_1, pf_78_1, gf_78_2, ar_6, al_6, gf_78_3, ar_7, al_7, gf_78_4, ar_8, al_8, gf_78_5, ar_9, al_9, gf_78_6, ar_10, al_10, p1, fa.1, fa.2.1, fb.1, fb.2.1]
    (repeat' (first | with_reducible apply And.intro | with_reducible intro _)) <;> first | omega | exact y1 (by omega) | exact n1 (by omega)
set_option maxHeartbeats 400000 in
set_option maxRecDepth 100000 in
theorem lp_pu2 {s : rd_S} {h0 : am_H} {Q : am_P} (hs : rs_ok s) (hF0 : apF h0 s) (H : ∀ h1, fr_u h0 h1 → 0 ≤ h1 83 9 ∧ h1 83 9 ≤ 16 → pI s (rG s) 0 h1 → Q none h1) :
    ∀ (m : Nat) (a : Int) (h : am_H), 0 ≤ a → a + m = rG s → fr_u h0 h → h 83 9 = ftn s (rG s).toNat a.toNat → pI s a 0 h → am_Ex 25 9 [some (.inr (.inr (some 83))), some (.inl a), none, none] [] h Q := by
  intro m
  have G := hs.2.1
  have hr := fun g g0 g1 => (hs.2.2.2.1 g g0 g1).1
  induction m with
  | zero =>
    intro a h a0 a1 hf hN I
    have ea : a = rG s := by omega
    subst ea
    have hF := ap_u hF0 hf
    have p1 := hF.2.1
    have t := ftn_16 (s := s) (G := (rG s).toNat) (by omega) (fun g g0 g1 => hr g g0 (by omega))
    have z := ftn_m (s := s) (G := (rG s).toNat) 0 (rG s).toNat
    rw [show 0 + (rG s).toNat = (rG s).toNat by omega] at z
    have z0 : ftn s (rG s).toNat 0 = 0 := rfl
    have K := H h hf (by omega) I
    rw [bl_25_9]
    simp only [eq_self, and_self, am_up_at, Int.cast_ofNat_Int, Int.reduceNatCast, true_or, or_true, or_false, false_or, Classical.not_not, false_and, and_false, am_bk, am_step, am_ldI, am_ldL, am_ldA, am_nth, am_sto, am_stw_0, am_stw_i, am_stw_n, am_stw_a, am_stw_l, am_br, am_cmp, am_tk, am_cat, am_sw, am_copy, am_R, am_nc0, am_nc1, am_f0, am_f1, am_f2, am_f3, Int.reduceNeg, Int.reduceEq, Int.reduceLE, Int.reduceLT, Nat.reduceLeDiff, Nat.reduceAdd, Nat.reduceEqDiff, true_and, and_true, ↓reduceIte, if_false, if_true, forall_const, not_true_eq_false, not_false_eq_true, false_implies, true_implies, implies_true, Int.reduceAdd, Int.reduceMul, Int.reduceSub, ne_eq, ca_25_83, bl_25_65, gf_83_0, gf_83_1, ar_35, al_35, gf_83_2, ar_36, al_36, gf_83_3, ar_37, al_37, gf_83_4, ar_38, al_38, gf_83_5, ar_39, al_39, gf_83_6, ar_40, al_40, gf_83_7, ar_41, al_41, gf_83_8, ar_42, al_42, gf_83_9, pf_83_9, gf_83_10, pf_83_10, gf_83_11, pf_83_11, gf_83_12, pf_83_12, gf_78_0, pf_78_0, gf_78_1, pf_78_1, gf_78_2, ar_6, al_6, gf_78_3, ar_7, al_7, gf_78_4, ar_8, al_8, gf_78_5, ar_9, al_9, gf_78_6, ar_10, al_10, p1]
    (repeat' (first | with_reducible apply And.intro | with_reducible intro _)) <;> first | omega | exact K
  | succ m ih =>
    intro a h a0 a1 hf hN I
    have hF := ap_u hF0 hf
    have p1 := hF.2.1
    have ea : ftn s (rG s).toNat (a + 1).toNat = ftn s (rG s).toNat a.toNat + fcn s a (rG s).toNat := by
      rw [show (a + 1).toNat = a.toNat + 1 by omega, ftn, show ((a.toNat : Nat) : Int) = a by omega]
    have f0 : fcn s a (0 : Int).toNat = 0 := rfl
    have K := lp_pu1 (h0 := h0) (Q := Q) hs hF0 (show 0 ≤ a ∧ a < rG s by omega) (fun h1 f1 n1 I1 => by
      have K := ih (a + 1) h1 (by omega) (by omega) f1 (by rw [ea]; exact n1) (pI_row I1)
      simp only [eq_self, and_self, am_up_at, Int.cast_ofNat_Int, Int.reduceNatCast, true_or, or_true, or_false, false_or, Classical.not_not, false_and, and_false, am_bk, am_step, am_ldI, am_ldL, am_ldA, am_nth, am_sto, am_stw_0, am_stw_i, am_stw_n, am_stw_a, am_stw_l, am_br, am_cmp, am_tk, am_cat, am_sw, am_copy, am_R, am_nc0, am_nc1, am_f0, am_f1, am_f2, am_f3, Int.reduceNeg, Int.reduceEq, Int.reduceLE, Int.reduceLT, Nat.reduceLeDiff, Nat.reduceAdd, Nat.reduceEqDiff, true_and, and_true, ↓reduceIte, if_false, if_true, forall_const, not_true_eq_false, not_false_eq_true, false_implies, true_implies, implies_true, Int.reduceAdd, Int.reduceMul, Int.reduceSub, ne_eq, ca_25_83, bl_25_63, gf_83_0, gf_83_1, ar_35, al_35, gf_83_2, ar_36, al_36, gf_83_3, ar_37, al_37, gf_83_4, ar_38, al_38, gf_83_5, ar_39, al_39, gf_83_6, ar_40, al_40, gf_83_7, ar_41, al_41, gf_83_8, ar_42, al_42, gf_83_9, pf_83_9, gf_83_10, pf_83_10, gf_83_11, pf_83_11, gf_83_12, pf_83_12]
      (repeat' (first | with_reducible apply And.intro | with_reducible intro _)) <;> first | omega | exact am_forget K (by simp [am_lq])) (rG s).toNat 0 none h (Or.inl rfl) (by omega) (by omega) hf (by rw [f0, hN]; omega) I
    rw [bl_25_9]
    simp only [eq_self, and_self, am_up_at, Int.cast_ofNat_Int, Int.reduceNatCast, true_or, or_true, or_false, false_or, Classical.not_not, false_and, and_false, am_bk, am_step, am_ldI, am_ldL, am_ldA, am_nth, am_sto, am_stw_0, am_stw_i, am_stw_n, am_stw_a, am_stw_l, am_br, am_cmp, am_tk, am_cat, am_sw, am_copy, am_R, am_nc0, am_nc1, am_f0, am_f1, am_f2, am_f3, Int.reduceNeg, Int.reduceEq, Int.reduceLE, Int.reduceLT, Nat.reduceLeDiff, Nat.reduceAdd, Nat.reduceEqDiff, true_and, and_true, ↓reduceIte, if_false, if_true, forall_const, not_true_eq_false, not_false_eq_true, false_implies, true_implies, implies_true, Int.reduceAdd, Int.reduceMul, Int.reduceSub, ne_eq, ca_25_83, bl_25_14, gf_83_0, gf_83_1, ar_35, al_35, gf_83_2, ar_36, al_36, gf_83_3, ar_37, al_37, gf_83_4, ar_38, al_38, gf_83_5, ar_39, al_39, gf_83_6, ar_40, al_40, gf_83_7, ar_41, al_41, gf_83_8, ar_42, al_42, gf_83_9, pf_83_9, gf_83_10, pf_83_10, gf_83_11, pf_83_11, gf_83_12, pf_83_12, gf_78_0, pf_78_0, gf_78_1, pf_78_1, gf_78_2, ar_6, al_6, gf_78_3, ar_7, al_7, gf_78_4, ar_8, al_8, gf_78_5, ar_9, al_9, gf_78_6, ar_10, al_10, p1]
    (repeat' (first | with_reducible apply And.intro | with_reducible intro _)) <;> first | omega | exact K
set_option maxHeartbeats 400000 in
set_option maxRecDepth 100000 in
theorem sp_pairUp {s : rd_S} {h : am_H} {Q : am_P} (hs : rs_ok s) (hF : apF h s) (H : ∀ h1, fr_u h h1 → 0 ≤ h1 83 9 ∧ h1 83 9 ≤ 16 → pI s (rG s) 0 h1 → Q none h1) : am_Call 25 [.inr (.inr (some 83))] h Q := by
  have G := hs.2.1
  simp only [eq_self, and_self, am_up_at, Int.cast_ofNat_Int, Int.reduceNatCast, true_or, or_true, or_false, false_or, Classical.not_not, false_and, and_false, am_bk, am_step, am_ldI, am_ldL, am_ldA, am_nth, am_sto, am_stw_0, am_stw_i, am_stw_n, am_stw_a, am_stw_l, am_br, am_cmp, am_tk, am_cat, am_sw, am_copy, am_R, am_nc0, am_nc1, am_f0, am_f1, am_f2, am_f3, Int.reduceNeg, Int.reduceEq, Int.reduceLE, Int.reduceLT, Nat.reduceLeDiff, Nat.reduceAdd, Nat.reduceEqDiff, true_and, and_true, ↓reduceIte, if_false, if_true, forall_const, not_true_eq_false, not_false_eq_true, false_implies, true_implies, implies_true, Int.reduceAdd, Int.reduceMul, Int.reduceSub, ne_eq, ca_25_83, bl_25_0, gf_83_0, gf_83_1, ar_35, al_35, gf_83_2, ar_36, al_36, gf_83_3, ar_37, al_37, gf_83_4, ar_38, al_38, gf_83_5, ar_39, al_39, gf_83_6, ar_40, al_40, gf_83_7, ar_41, al_41, gf_83_8, ar_42, al_42, gf_83_9, pf_83_9, gf_83_10, pf_83_10, gf_83_11, pf_83_11, gf_83_12, pf_83_12]
  refine sp_fill (n := 64) al_36 ar_36 rfl (by omega) (fun h1 a1 a2 => ?_)
  have f1 : fr_u h (am_up h1 83 9 0) := ⟨fun c c1 c2 => by rw [am_up_ne c2, a1 c (by omega)], fun i hi => by rw [am_up_at, if_neg (fun z => hi z.2), a1 83 (by omega)]⟩
  have K := lp_pu2 (h0 := h) (Q := Q) hs hF H (rG s).toNat 0 (am_up h1 83 9 0) (by omega) (by omega) f1 (by rw [am_up_at, if_pos ⟨rfl, rfl⟩]; rfl) (fun x y hx hy => by
    have e : ∀ i, 0 ≤ i → i < 64 → (am_up h1 83 9 0) 36 i = -1 := fun i i0 i1 => by rw [am_up_ne (by omega), a2 i, if_pos (by omega)]
    have nd : ∀ x y, 0 ≤ x → 0 ≤ y → ¬ dn2 s 0 0 x y := fun x y hx hy z => by unfold dn2 at z; omega
    have hx8 := hx.2
    rw [e (8 * x + y) (by omega) (by omega), e (8 * y + x) (by omega) (by omega)]
    exact ⟨Or.inl rfl, rfl, ⟨fun z => absurd rfl z, fun z => by rcases z with z | z; exact absurd z (nd x y hx.1 hy.1); exact absurd z (nd y x hy.1 hx.1)⟩, fun z => absurd z (nd x y hx.1 hy.1)⟩)
  simp only [eq_self, and_self, am_up_at, Int.cast_ofNat_Int, Int.reduceNatCast, true_or, or_true, or_false, false_or, Classical.not_not, false_and, and_false, am_bk, am_step, am_ldI, am_ldL, am_ldA, am_nth, am_sto, am_stw_0, am_stw_i, am_stw_n, am_stw_a, am_stw_l, am_br, am_cmp, am_tk, am_cat, am_sw, am_copy, am_R, am_nc0, am_nc1, am_f0, am_f1, am_f2, am_f3, Int.reduceNeg, Int.reduceEq, Int.reduceLE, Int.reduceLT, Nat.reduceLeDiff, Nat.reduceAdd, Nat.reduceEqDiff, true_and, and_true, ↓reduceIte, if_false, if_true, forall_const, not_true_eq_false, not_false_eq_true, false_implies, true_implies, implies_true, Int.reduceAdd, Int.reduceMul, Int.reduceSub, ne_eq, ca_25_83, bl_25_4, gf_83_0, gf_83_1, ar_35, al_35, gf_83_2, ar_36, al_36, gf_83_3, ar_37, al_37, gf_83_4, ar_38, al_38, gf_83_5, ar_39, al_39, gf_83_6, ar_40, al_40, gf_83_7, ar_41, al_41, gf_83_8, ar_42, al_42, gf_83_9, pf_83_9, gf_83_10, pf_83_10, gf_83_11, pf_83_11, gf_83_12, pf_83_12]
  (repeat' (first | with_reducible apply And.intro | with_reducible intro _)) <;> first | omega | exact K
