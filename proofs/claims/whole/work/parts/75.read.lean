/-! reading a city -/
abbrev rd_S : Type := Int × Int × Int × (Int → Int) × (Int → Int) × (Int → Int) × (Int → Int) × (Int → Int)
def rU (s : rd_S) : Int := s.1
def rG (s : rd_S) : Int := s.2.1
def rR (s : rd_S) : Int := s.2.2.1
def rri (s : rd_S) : Int → Int := s.2.2.2.1
def rrm (s : rd_S) : Int → Int := s.2.2.2.2.1
def rpl (s : rd_S) : Int → Int := s.2.2.2.2.2.1
def rkd (s : rd_S) : Int → Int := s.2.2.2.2.2.2.1
def rpc (s : rd_S) : Int → Int := s.2.2.2.2.2.2.2
def rs_ok (s : rd_S) : Prop := (12 ≤ rU s ∧ rU s ≤ 54 ∧ rU s % 6 = 0) ∧ (0 ≤ rG s ∧ rG s ≤ 8) ∧ (0 ≤ rR s ∧ rR s ≤ 7) ∧ (∀ g, 0 ≤ g → g < rG s → (0 ≤ rri s g ∧ rri s g ≤ 2) ∧ (rrm s g = 0 ∨ rrm s g = 1) ∧ (0 ≤ rpl s g ∧ rpl s g < rU s) ∧ (0 ≤ rkd s g ∧ rkd s g ≤ 4)) ∧ ∀ r, 0 ≤ r → r ≤ 2 → -9 ≤ rpc s r ∧ rpc s r ≤ 9
def rd_p (s : rd_S) (r v : Int) : rd_S := (rU s, rG s, rR s + pw r, rri s, rrm s, rpl s, rkd s, fun q => if q = r then v else rpc s q)
def rd_g (s : rd_S) (r m p k : Int) : rd_S := (rU s, rG s + 1, rR s, fun g => if g = rG s then r else rri s g, fun g => if g = rG s then m else rrm s g, fun g => if g = rG s then p else rpl s g, fun g => if g = rG s then k else rkd s g, rpc s)
theorem pw_b {R r : Int} (hR : 0 ≤ R ∧ R ≤ 7) (hr : 0 ≤ r ∧ r ≤ 2) (hb : bt R r ≠ 1) : R + pw r ≤ 7 := by
  have D : ∀ x : Fin 8, ∀ g : Fin 3, bt (x.val : Int) (g.val : Int) ≠ 1 → (x.val : Int) + pw (g.val : Int) ≤ 7 := by decide +kernel
  obtain ⟨n, rfl⟩ : ∃ n : Nat, R = (n : Int) := ⟨R.toNat, by omega⟩
  obtain ⟨m, rfl⟩ : ∃ n : Nat, r = (n : Int) := ⟨r.toNat, by omega⟩
  exact D ⟨n, by omega⟩ ⟨m, by omega⟩ hb
theorem rs_p {s : rd_S} {r v : Int} (h : rs_ok s) (hr : 0 ≤ r ∧ r ≤ 2) (hv : -9 ≤ v ∧ v ≤ 9) (hb : bt (rR s) r ≠ 1) : rs_ok (rd_p s r v) := by
  obtain ⟨h1, h2, h3, h4, h5⟩ := h
  have pr := pw_r (show 0 ≤ r ∧ r ≤ 7 by omega)
  have pb := pw_b h3 hr hb
  refine ⟨h1, h2, ?_, h4, fun q q0 q1 => ?_⟩
  · show 0 ≤ rR s + pw r ∧ rR s + pw r ≤ 7
    omega
  · show -9 ≤ (if q = r then v else rpc s q) ∧ (if q = r then v else rpc s q) ≤ 9
    have := h5 q q0 q1
    split <;> omega
theorem rs_g {s : rd_S} {r m p k : Int} (h : rs_ok s) (hG : rG s < 8) (hr : 0 ≤ r ∧ r ≤ 2) (hm : m = 0 ∨ m = 1) (hp : 0 ≤ p ∧ p < rU s) (hk : 0 ≤ k ∧ k ≤ 4) : rs_ok (rd_g s r m p k) := by
  obtain ⟨h1, h2, h3, h4, h5⟩ := h
  refine ⟨h1, ?_, h3, fun g g0 g1 => ?_, h5⟩
  · show 0 ≤ rG s + 1 ∧ rG s + 1 ≤ 8
    omega
  · have g1' : g < rG s + 1 := g1
    show (0 ≤ (if g = rG s then r else rri s g) ∧ (if g = rG s then r else rri s g) ≤ 2) ∧ ((if g = rG s then m else rrm s g) = 0 ∨ (if g = rG s then m else rrm s g) = 1) ∧ (0 ≤ (if g = rG s then p else rpl s g) ∧ (if g = rG s then p else rpl s g) < rU s) ∧ (0 ≤ (if g = rG s then k else rkd s g) ∧ (if g = rG s then k else rkd s g) ≤ 4)
    by_cases c : g = rG s
    · rw [if_pos c, if_pos c, if_pos c, if_pos c]; exact ⟨hr, hm, hp, hk⟩
    · rw [if_neg c, if_neg c, if_neg c, if_neg c]; exact h4 g g0 (by omega)
/-! how many bytes of a part are good -/
def cR (tx : Int → Int) (s : rd_S) (p : Int) : Prop := (tx p = 82 ∨ tx p = 114) ∧ rR s ≠ 7
def cG (tx : Int → Int) (s : rd_S) (p : Int) : Prop := tx p = 71 ∧ rG s < 8
def kR1 (tx : Int → Int) (n : Int) (s : rd_S) (p : Int) : Prop := p + 1 < n ∧ (0 ≤ tx (p + 1) - 48 ∧ tx (p + 1) - 48 ≤ 2) ∧ bt (rR s) (tx (p + 1) - 48) ≠ 1
def kR2 (tx : Int → Int) (n p : Int) : Prop := p + 2 < n ∧ 0 ≤ tx (p + 2) - 48 ∧ tx (p + 2) - 48 ≤ 9
def kG1 (tx : Int → Int) (n p : Int) : Prop := p + 1 < n ∧ 0 ≤ tx (p + 1) - 48 ∧ tx (p + 1) - 48 ≤ 2
def kG2 (tx : Int → Int) (n p : Int) : Prop := p + 2 < n ∧ ((tx (p + 2) - 48 = 0 ∧ tx (p + 1) - 48 < 2) ∨ (tx (p + 2) - 48 = 1 ∧ 0 < tx (p + 1) - 48))
def kG3 (tx : Int → Int) (n : Int) (s : rd_S) (p : Int) : Prop := p + 3 < n ∧ 0 ≤ tx (p + 3) - 48 ∧ 10 * (tx (p + 3) - 48) < rU s
def kG4 (tx : Int → Int) (n : Int) (s : rd_S) (p : Int) : Prop := p + 4 < n ∧ (0 ≤ tx (p + 4) - 48 ∧ tx (p + 4) - 48 ≤ 9) ∧ 10 * (tx (p + 3) - 48) + (tx (p + 4) - 48) < rU s
def kG5 (tx : Int → Int) (n p : Int) : Prop := p + 5 < n ∧ 0 ≤ tx (p + 5) - 48 ∧ tx (p + 5) - 48 ≤ 4
/-- the part at p goes wrong at q -/
def rdN (tx : Int → Int) (n : Int) (s : rd_S) (p q : Int) : Prop := (¬ cR tx s p ∧ ¬ cG tx s p ∧ q = p) ∨ (cR tx s p ∧ ¬ kR1 tx n s p ∧ q = p + 1) ∨ (cR tx s p ∧ kR1 tx n s p ∧ ¬ kR2 tx n p ∧ q = p + 2) ∨ (cG tx s p ∧ ¬ kG1 tx n p ∧ q = p + 1) ∨ (cG tx s p ∧ kG1 tx n p ∧ ¬ kG2 tx n p ∧ q = p + 2) ∨ (cG tx s p ∧ kG1 tx n p ∧ kG2 tx n p ∧ ¬ kG3 tx n s p ∧ q = p + 3) ∨ (cG tx s p ∧ kG1 tx n p ∧ kG2 tx n p ∧ kG3 tx n s p ∧ ¬ kG4 tx n s p ∧ q = p + 4) ∨ (cG tx s p ∧ kG1 tx n p ∧ kG2 tx n p ∧ kG3 tx n s p ∧ kG4 tx n s p ∧ ¬ kG5 tx n p ∧ q = p + 5)
/-- the part at p is good; what comes of it -/
def rdY (tx : Int → Int) (n : Int) (s : rd_S) (p q : Int) (s' : rd_S) : Prop := (cR tx s p ∧ kR1 tx n s p ∧ kR2 tx n p ∧ q = p + 3 ∧ s' = rd_p s (tx (p + 1) - 48) (if tx p = 114 then -(tx (p + 2) - 48) else tx (p + 2) - 48)) ∨ (cG tx s p ∧ kG1 tx n p ∧ kG2 tx n p ∧ kG3 tx n s p ∧ kG4 tx n s p ∧ kG5 tx n p ∧ q = p + 6 ∧ s' = rd_g s (tx (p + 1) - 48) (tx (p + 2) - 48) (10 * (tx (p + 3) - 48) + (tx (p + 4) - 48)) (tx (p + 5) - 48))
theorem cRG {tx : Int → Int} {s : rd_S} {p : Int} (h1 : cR tx s p) (h2 : cG tx s p) : False := by
  unfold cR at h1; unfold cG at h2; omega
theorem rd_NN {tx : Int → Int} {n p q q' : Int} {s : rd_S} (h1 : rdN tx n s p q) (h2 : rdN tx n s p q') : q = q' := by
  have x := @cRG tx s p
  unfold rdN at h1 h2
  rcases h1 with h | h | h | h | h | h | h | h <;> rcases h2 with g | g | g | g | g | g | g | g <;> first | omega | exact absurd h.1 g.1 | exact absurd g.1 h.1 | exact absurd g.1 h.2.1 | exact absurd h.1 g.2.1 | exact (x h.1 g.1).elim | exact (x g.1 h.1).elim | exact absurd g.2.1 h.2.1 | exact absurd h.2.1 g.2.1 | exact absurd g.2.2.1 h.2.2.1 | exact absurd h.2.2.1 g.2.2.1 | exact absurd g.2.2.2.1 h.2.2.2.1 | exact absurd h.2.2.2.1 g.2.2.2.1 | exact absurd g.2.2.2.2.1 h.2.2.2.2.1 | exact absurd h.2.2.2.2.1 g.2.2.2.2.1
theorem rd_NY {tx : Int → Int} {n p q q' : Int} {s s' : rd_S} (h1 : rdN tx n s p q) (h2 : rdY tx n s p q' s') : False := by
  have x := @cRG tx s p
  unfold rdN at h1
  unfold rdY at h2
  rcases h1 with h | h | h | h | h | h | h | h <;> rcases h2 with g | g <;> first | exact absurd g.1 h.1 | exact absurd g.1 h.2.1 | exact (x h.1 g.1).elim | exact (x g.1 h.1).elim | exact absurd g.2.1 h.2.1 | exact absurd g.2.2.1 h.2.2.1 | exact absurd g.2.2.2.1 h.2.2.2.1 | exact absurd g.2.2.2.2.1 h.2.2.2.2.1 | exact absurd g.2.2.2.2.2.1 h.2.2.2.2.2.1
theorem rd_YY {tx : Int → Int} {n p q q' : Int} {s s' s'' : rd_S} (h1 : rdY tx n s p q s') (h2 : rdY tx n s p q' s'') : q = q' ∧ s' = s'' := by
  have x := @cRG tx s p
  unfold rdY at h1 h2
  rcases h1 with h | h <;> rcases h2 with g | g
  · exact ⟨by rw [h.2.2.2.1, g.2.2.2.1], by rw [h.2.2.2.2, g.2.2.2.2]⟩
  · exact (x h.1 g.1).elim
  · exact (x g.1 h.1).elim
  · exact ⟨by rw [h.2.2.2.2.2.2.1, g.2.2.2.2.2.2.1], by rw [h.2.2.2.2.2.2.2, g.2.2.2.2.2.2.2]⟩
theorem rdY_ok {tx : Int → Int} {n p q : Int} {s s' : rd_S} (hs : rs_ok s) (h : rdY tx n s p q s') : rs_ok s' ∧ p < q ∧ q ≤ n := by
  unfold rdY at h
  rcases h with ⟨a, b, c, d, e⟩ | ⟨a, b, c, d, e, f, g, i⟩
  · unfold kR1 at b
    unfold kR2 at c
    rw [e]
    refine ⟨rs_p hs b.2.1 ?_ b.2.2, by omega, by omega⟩
    split <;> omega
  · unfold cG at a
    unfold kG1 at b
    unfold kG2 at c
    unfold kG3 at d
    unfold kG4 at e
    unfold kG5 at f
    rw [i]
    exact ⟨rs_g hs a.2 b.2 (by omega) (by omega) f.2, by omega, by omega⟩
/-! the class -/
def fr_c (h h1 : am_H) : Prop := ∀ c, ¬ (1 ≤ c ∧ c ≤ 5) → c ≠ 76 → c ≠ 77 → h1 c = h c
def cA (h : am_H) (s : rd_S) : Prop := (h 77 0 = rU s ∧ h 77 1 = rG s ∧ h 76 4 = rR s ∧ h 76 3 = 1) ∧ (∀ g, 0 ≤ g → g < rG s → h 1 g = rri s g ∧ h 2 g = rrm s g ∧ h 3 g = rpl s g ∧ h 4 g = rkd s g) ∧ ∀ r, 0 ≤ r → r ≤ 2 → h 5 r = rpc s r
def cJ (h0 h : am_H) (s : rd_S) (L j : Int) : Prop := fr_c h0 h ∧ cA h s ∧ h 76 1 = L ∧ h 76 2 = j
set_option maxHeartbeats 400000 in
set_option maxRecDepth 100000 in
theorem ff_step {n i x : Int} {PY PN : am_H → Prop} {h : am_H} {Q : am_P} (hi : 0 ≤ i ∧ i < n ∧ n ≤ 60) (hx : h 0 i = x) (T : ∀ Q' : am_P, (∀ h1, PY h1 → Q' (some (.inl 1)) h1) → (∀ h1, PN h1 → Q' (some (.inl 0)) h1) → am_Call 19 [.inr (.inr (some 76)), .inl x] h Q') (Y : ∀ h1, PY h1 → am_Ex 18 14 [some (.inr (.inr (some 76))), some (.inr (.inr (some 0))), some (.inl n), some (.inl (i + 1))] [] h1 Q) (N : ∀ h1, PN h1 → Q (some (.inl i)) h1) : am_Ex 18 14 [some (.inr (.inr (some 76))), some (.inr (.inr (some 0))), some (.inl n), some (.inl i)] [] h Q := by
  have Ky : ∀ h1, PY h1 → am_Ex 18 26 [some (.inr (.inr (some 76))), some (.inr (.inr (some 0))), some (.inl n), some (.inl i)] [.inl 1] h1 Q := by
    intro h1 p1
    have K := Y h1 p1
    simp only [eq_self, and_self, am_up_at, Int.cast_ofNat_Int, Int.reduceNatCast, true_or, or_true, or_false, false_or, Classical.not_not, false_and, and_false, am_bk, am_step, am_ldI, am_ldL, am_ldA, am_nth, am_sto, am_stw_0, am_stw_i, am_stw_n, am_stw_a, am_stw_l, am_br, am_cmp, am_tk, am_cat, am_sw, am_copy, am_R, am_nc0, am_nc1, am_f0, am_f1, am_f2, am_f3, Int.reduceNeg, Int.reduceEq, Int.reduceLE, Int.reduceLT, Nat.reduceLeDiff, Nat.reduceAdd, Nat.reduceEqDiff, true_and, and_true, ↓reduceIte, if_false, if_true, forall_const, not_true_eq_false, not_false_eq_true, false_implies, true_implies, implies_true, Int.reduceAdd, Int.reduceMul, Int.reduceSub, ne_eq, bl_18_26, bl_18_29]
    (repeat' (first | with_reducible apply And.intro | with_reducible intro _)) <;> first | omega | exact K
  have Kn : ∀ h1, PN h1 → am_Ex 18 26 [some (.inr (.inr (some 76))), some (.inr (.inr (some 0))), some (.inl n), some (.inl i)] [.inl 0] h1 Q := by
    intro h1 p1
    have K := N h1 p1
    simp only [eq_self, and_self, am_up_at, Int.cast_ofNat_Int, Int.reduceNatCast, true_or, or_true, or_false, false_or, Classical.not_not, false_and, and_false, am_bk, am_step, am_ldI, am_ldL, am_ldA, am_nth, am_sto, am_stw_0, am_stw_i, am_stw_n, am_stw_a, am_stw_l, am_br, am_cmp, am_tk, am_cat, am_sw, am_copy, am_R, am_nc0, am_nc1, am_f0, am_f1, am_f2, am_f3, Int.reduceNeg, Int.reduceEq, Int.reduceLE, Int.reduceLT, Nat.reduceLeDiff, Nat.reduceAdd, Nat.reduceEqDiff, true_and, and_true, ↓reduceIte, if_false, if_true, forall_const, not_true_eq_false, not_false_eq_true, false_implies, true_implies, implies_true, Int.reduceAdd, Int.reduceMul, Int.reduceSub, ne_eq, bl_18_26]
    (repeat' (first | with_reducible apply And.intro | with_reducible intro _)) <;> first | omega | exact K
  rw [bl_18_14]
  simp only [eq_self, and_self, am_up_at, Int.cast_ofNat_Int, Int.reduceNatCast, true_or, or_true, or_false, false_or, Classical.not_not, false_and, and_false, am_bk, am_step, am_ldI, am_ldL, am_ldA, am_nth, am_sto, am_stw_0, am_stw_i, am_stw_n, am_stw_a, am_stw_l, am_br, am_cmp, am_tk, am_cat, am_sw, am_copy, am_R, am_nc0, am_nc1, am_f0, am_f1, am_f2, am_f3, Int.reduceNeg, Int.reduceEq, Int.reduceLE, Int.reduceLT, Nat.reduceLeDiff, Nat.reduceAdd, Nat.reduceEqDiff, true_and, and_true, ↓reduceIte, if_false, if_true, forall_const, not_true_eq_false, not_false_eq_true, false_implies, true_implies, implies_true, Int.reduceAdd, Int.reduceMul, Int.reduceSub, ne_eq, bl_18_17, gf_75_0, ar_0, al_0, gf_75_1, pf_75_1, gf_75_2, gf_75_3, gf_75_4, gf_75_5, gf_75_6, gf_75_7, gf_75_8, gf_75_9, gf_75_10, hx]
  (repeat' (first | with_reducible apply And.intro | with_reducible intro _)) <;> first | omega | exact T _ Ky Kn
set_option maxHeartbeats 400000 in
set_option maxRecDepth 100000 in
theorem ff_end {n i : Int} {h : am_H} {Q : am_P} (hi : i = n ∧ 0 ≤ n ∧ n ≤ 60) (hp : h 76 3 = 0 ∨ h 76 3 = 1) (hl : 0 ≤ h 76 1 ∧ h 76 1 ≤ 255) (Y : h 76 3 = 1 → h 76 1 = 0 → Q (some (.inl (-9))) h) (N : ¬ (h 76 3 = 1 ∧ h 76 1 = 0) → Q (some (.inl n)) h) : am_Ex 18 14 [some (.inr (.inr (some 76))), some (.inr (.inr (some 0))), some (.inl n), some (.inl i)] [] h Q := by
  rw [bl_18_14]
  simp only [eq_self, and_self, am_up_at, Int.cast_ofNat_Int, Int.reduceNatCast, true_or, or_true, or_false, false_or, Classical.not_not, false_and, and_false, am_bk, am_step, am_ldI, am_ldL, am_ldA, am_nth, am_sto, am_stw_0, am_stw_i, am_stw_n, am_stw_a, am_stw_l, am_br, am_cmp, am_tk, am_cat, am_sw, am_copy, am_R, am_nc0, am_nc1, am_f0, am_f1, am_f2, am_f3, Int.reduceNeg, Int.reduceEq, Int.reduceLE, Int.reduceLT, Nat.reduceLeDiff, Nat.reduceAdd, Nat.reduceEqDiff, true_and, and_true, ↓reduceIte, if_false, if_true, forall_const, not_true_eq_false, not_false_eq_true, false_implies, true_implies, implies_true, Int.reduceAdd, Int.reduceMul, Int.reduceSub, ne_eq, ca_18_76, bl_18_31, bl_18_39, bl_18_40, gf_76_0, gf_76_1, pf_76_1, gf_76_2, pf_76_2, gf_76_3, pf_76_3, gf_76_4, pf_76_4, gf_76_5, pf_76_5, gf_76_6, pf_76_6, gf_76_7, pf_76_7]
  (repeat' (first | with_reducible apply And.intro | with_reducible intro _)) <;> first | omega | exact Y (by omega) (by omega) | exact N (by omega)
