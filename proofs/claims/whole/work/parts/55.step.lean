/-! step -/
def pd (S : sg_S) (a t g at' : Int) : Prop := g ≠ at' ∧ ∃ v w, sn S a t g v ∧ sn S a t at' w ∧ stp S g v at' w
def pf (S : sg_S) (a t at' g : Int) : Prop := (0 ≤ g ∧ g < sg_G S) ∧ pd S a t g at' ∧ ∀ q, 0 ≤ q → q < g → ¬ pd S a t q at'
theorem pd_iff {N : Int} {S : sg_S} {a t g c : Int} {A : Int → Int} (hN : 90000 ≤ N) (ht : t ≤ 50000) (hg : 0 ≤ g ∧ g < sg_G S) (hc : 0 ≤ c ∧ c < sg_G S) (ar : ∀ b, 0 ≤ b → b < sg_G S → ar_is N S a t b (A b)) : pd S a t g c ↔ g ≠ c ∧ A g < N ∧ A c < N ∧ stp S g (A g) c (A c) := by
  have rg := ar_sn hN ht (ar g hg.1 hg.2)
  have rc' := ar_sn hN ht (ar c hc.1 hc.2)
  constructor
  · intro ⟨h1, v, w, h2, h3, h4⟩
    rcases rg with ⟨g1, g2⟩ | ⟨g1, g2⟩
    · rcases rc' with ⟨c1, c2⟩ | ⟨c1, c2⟩
      · have e1 := sn_one g2 h2
        have e2 := sn_one c2 h3
        subst e1
        subst e2
        exact ⟨h1, g1, c1, h4⟩
      · exact absurd h3.2.1 (c2 w)
    · exact absurd h2.2.1 (g2 v)
  · intro ⟨h1, h2, h3, h4⟩
    rcases rg with ⟨g1, g2⟩ | ⟨g1, g2⟩
    · rcases rc' with ⟨c1, c2⟩ | ⟨c1, c2⟩
      · exact ⟨h1, _, _, g2, c2, h4⟩
      · omega
    · omega
theorem pd_ex {N : Int} {S : sg_S} (hS : sg_ok S) (hF : tb_fit S) {a t c : Int} {A : Int → Int} (hN : 90000 ≤ N) (ht : 0 ≤ t ∧ t ≤ 50000) (ha : 0 ≤ a ∧ a < sg_G S) (hc : 0 ≤ c ∧ c < sg_G S) (ar : ∀ b, 0 ≤ b → b < sg_G S → ar_is N S a t b (A b)) (hca : c ≠ a) (hr : A c < N) : ∃ g, pf S a t c g ∧ A g < A c := by
  have ex : ∃ g, (0 ≤ g ∧ g < sg_G S) ∧ pd S a t g c := by
    rcases ar_sn hN ht.2 (ar c hc.1 hc.2) with ⟨_, q⟩ | ⟨q, _⟩
    · obtain ⟨n, hn⟩ := q.2.1
      cases n with
      | zero => exact absurd hn.1 hca
      | succ n =>
        obtain ⟨g, s', h1, h2, h3⟩ := hn
        have hg := wyn_g ha n g s' h1
        have ts := wyn_t hS ha n g s' h1
        rcases ar_sn hN ht.2 (ar g hg.1 hg.2) with ⟨_, z⟩ | ⟨_, z⟩
        · have le := z.2.2 s' ⟨n, h1⟩
          have z1 := z.1
          obtain ⟨w, w1, w2⟩ := stp_mono hS hF (u := A g) hg h2 (by omega) h3
          obtain ⟨m, hm⟩ := z.2.1
          have ge := q.2.2 w ⟨m + 1, g, A g, hm, h2, w1⟩
          have ew : w = A c := by omega
          have sr := stp_r hS hg h2 w1
          refine ⟨g, hg, fun e => ?_, A g, A c, z, q, ew ▸ w1⟩
          rw [e] at sr
          omega
        · exact absurd ⟨n, h1⟩ (z s')
    · omega
  obtain ⟨g, hg, hp⟩ := ex
  obtain ⟨v, v1, v2, v3, v4⟩ := nx_least (P := fun q => pd S a t q c) g.toNat 0 (by rw [show (0 : Int) + (g.toNat : Int) = g by omega]; exact hp)
  have hv : 0 ≤ v ∧ v < sg_G S := by omega
  have i := (pd_iff hN ht.2 hv hc ar).mp v3
  have := stp_r hS hv hc i.2.2.2
  exact ⟨v, ⟨hv, v3, v4⟩, by omega⟩
theorem pf_one {S : sg_S} {a t c g q : Int} (h1 : pf S a t c g) (h2 : pf S a t c q) : g = q := by
  rcases Int.lt_trichotomy g q with z | z | z
  · exact absurd h1.2.1 (h2.2.2 g h1.1.1 z)
  · exact z
  · exact absurd h2.2.1 (h1.2.2 q h2.1.1 z)
theorem dn_mono {D D' : Int → Int} : ∀ n : Nat, (∀ g : Int, 0 ≤ g → g < n → D g = 1 → D' g = 1) → dn D n ≤ dn D' n ∧ ((∃ x : Int, (0 ≤ x ∧ x < n) ∧ D x ≠ 1 ∧ D' x = 1) → dn D n + 1 ≤ dn D' n) := by
  intro n
  induction n with
  | zero => intro _; exact ⟨by simp [dn], fun ⟨x, hx, _⟩ => by omega⟩
  | succ n ih =>
    intro h
    obtain ⟨i1, i2⟩ := ih (fun g g1 g2 => h g g1 (by omega))
    have hn := h n (by omega) (by omega)
    rw [dn, dn]
    refine ⟨?_, fun ⟨x, hx, x1, x2⟩ => ?_⟩
    · by_cases c : D n = 1
      · rw [if_pos c, if_pos (hn c)]; omega
      · rw [if_neg c]; split <;> omega
    · by_cases e : x = n
      · rw [e] at x1 x2
        rw [if_neg x1, if_pos x2]; omega
      · have := i2 ⟨x, by omega, x1, x2⟩
        by_cases c : D n = 1
        · rw [if_pos c, if_pos (hn c)]; omega
        · rw [if_neg c]; split <;> omega
/-- the way back from b to a: L steps -/
def ch (S : sg_S) (a t b : Int) (c : Int → Int) (L : Int) : Prop := 0 ≤ L ∧ c 0 = b ∧ c L = a ∧ ∀ j, 0 ≤ j → j < L → c j ≠ a ∧ pf S a t (c j) (c (j + 1))
theorem ch_ex {N : Int} {S : sg_S} (hS : sg_ok S) (hF : tb_fit S) {a t : Int} {A : Int → Int} (hN : 90000 ≤ N) (ht : 0 ≤ t ∧ t ≤ 50000) (ha : 0 ≤ a ∧ a < sg_G S) (ar : ∀ b, 0 ≤ b → b < sg_G S → ar_is N S a t b (A b)) : ∀ (m : Nat) (b : Int), 0 ≤ b ∧ b < sg_G S → A b < N → dn (fun g => if A g < A b then 1 else 0) (sg_G S).toNat ≤ m → ∃ c L, ch S a t b c L ∧ L ≤ m := by
  intro m
  have z0 : ∀ b, b = a → ∃ c L, ch S a t b c L ∧ L = 0 := fun b e => ⟨fun _ => b, 0, ⟨by omega, rfl, e, fun j j1 j2 => by omega⟩, rfl⟩
  have key : ∀ b g, 0 ≤ g ∧ g < sg_G S → A g < A b → dn (fun q => if A q < A g then 1 else 0) (sg_G S).toNat + 1 ≤ dn (fun q => if A q < A b then 1 else 0) (sg_G S).toNat := by
    intro b g hg hlt
    refine (dn_mono (sg_G S).toNat (fun q q1 q2 q3 => ?_)).2 ⟨g, by omega, ?_, ?_⟩
    · split at q3
      · rw [if_pos (by omega)]
      · omega
    · rw [if_neg (by omega)]; omega
    · rw [if_pos hlt]
  induction m with
  | zero =>
    intro b hb hr hd
    by_cases e : b = a
    · obtain ⟨c, L, h1, h2⟩ := z0 b e
      exact ⟨c, L, h1, by omega⟩
    · obtain ⟨g, g1, g2⟩ := pd_ex hS hF hN ht ha hb ar e hr
      have := key b g g1.1 g2
      have := dn_le (fun q => if A q < A g then 1 else 0) (sg_G S).toNat
      omega
  | succ m ih =>
    intro b hb hr hd
    by_cases e : b = a
    · obtain ⟨c, L, h1, h2⟩ := z0 b e
      exact ⟨c, L, h1, by omega⟩
    · obtain ⟨g, g1, g2⟩ := pd_ex hS hF hN ht ha hb ar e hr
      have := key b g g1.1 g2
      obtain ⟨c, L, h1, h2⟩ := ih g g1.1 (by omega) (by omega)
      obtain ⟨c0, c1, c2, c3⟩ := h1
      refine ⟨fun j => if j = 0 then b else c (j - 1), L + 1, ⟨by omega, by simp only [if_pos], ?_, fun j j1 j2 => ?_⟩, by omega⟩
      · simp only
        rw [if_neg (by omega), show L + 1 - 1 = L by omega]; exact c2
      · simp only
        by_cases ej : j = 0
        · rw [if_pos ej, if_neg (by omega), show j + 1 - 1 = 0 by omega, c1]; exact ⟨e, g1⟩
        · rw [if_neg ej, if_neg (by omega)]
          have := c3 (j - 1) (by omega) (by omega)
          rw [show j - 1 + 1 = j + 1 - 1 by omega] at this
          exact this
theorem ch_7 {N : Int} {S : sg_S} (hS : sg_ok S) (hF : tb_fit S) {a t b : Int} {A : Int → Int} (hN : 90000 ≤ N) (ht : 0 ≤ t ∧ t ≤ 50000) (ha : 0 ≤ a ∧ a < sg_G S) (hb : 0 ≤ b ∧ b < sg_G S) (ar : ∀ b, 0 ≤ b → b < sg_G S → ar_is N S a t b (A b)) (hr : A b < N) : ∃ c L, ch S a t b c L ∧ L ≤ 7 := by
  have G := hS.2.1
  have o := (dn_mono (D := fun g => if A g < A b then 1 else 0) (D' := fun _ => 1) (sg_G S).toNat (fun _ _ _ _ => rfl)).2 ⟨b, by omega, by rw [if_neg (by omega)]; omega, rfl⟩
  have := dn_le (fun _ => 1) (sg_G S).toNat
  obtain ⟨c, L, h1, h2⟩ := ch_ex hS hF hN ht ha ar 7 b hb hr (by omega)
  exact ⟨c, L, h1, by omega⟩
theorem ch_g {S : sg_S} {a t b L : Int} {c : Int → Int} (hb : 0 ≤ b ∧ b < sg_G S) (h : ch S a t b c L) : ∀ j, 0 ≤ j → j ≤ L → 0 ≤ c j ∧ c j < sg_G S := by
  intro j j1 j2
  by_cases e : j = 0
  · rw [e, h.2.1]; exact hb
  · have := (h.2.2.2 (j - 1) (by omega) (by omega)).2.1
    rw [show j - 1 + 1 = j by omega] at this
    exact this
/-! the class -/
set_option maxHeartbeats 400000 in
set_option maxRecDepth 100000 in
theorem lp_ahead {S : sg_S} {a t c g0 : Int} {h0 : am_H} {Q : am_P} (hc : 0 ≤ c ∧ c < sg_G S) (ht : 0 ≤ t ∧ t ≤ 50000) (ar : ∀ b, 0 ≤ b → b < sg_G S → ar_is 1000000 S a t b (h0 43 b)) (hp : pf S a t c g0) (H : ∀ h1, ty_ok h1 S → (∀ c, c ≠ 42 → h1 c = h0 c) → Q (some (.inl g0)) h1) :
    ∀ (m : Nat) (g : Int) (h : am_H), 0 ≤ g → g + m = g0 → ty_ok h S → (∀ c, c ≠ 42 → h c = h0 c) → am_Ex 44 2 [some (.inr (.inr (some 84))), some (.inl c), some (.inl g)] [] h Q := by
  intro m
  have hg0 := hp.1
  have rc1 := ar_r (by omega) ht (ar c hc.1 hc.2)
  have i0 := (pd_iff (by omega) ht.2 hg0 hc ar).mp hp.2.1
  induction m with
  | zero =>
    intro g h g1 g2 hy hf
    have eg : g = g0 := by omega
    subst eg
    have hS := hy.1
    have hG := hS.2.1
    have p1 := hy.2.2.2.1.2.1
    have e43 := hf 43 (by omega)
    have rg1 := ar_r (by omega) ht (ar g hg0.1 hg0.2)
    have sr := stp_r hS hg0 hc i0.2.2.2
    rw [bl_44_2]
    simp only [eq_self, and_self, am_up_at, Int.cast_ofNat_Int, Int.reduceNatCast, true_or, or_true, or_false, false_or, Classical.not_not, false_and, and_false, am_bk, am_step, am_ldI, am_ldL, am_ldA, am_nth, am_sto, am_stw_0, am_stw_i, am_stw_n, am_stw_a, am_stw_l, am_br, am_cmp, am_tk, am_cat, am_sw, am_copy, am_R, am_nc0, am_nc1, am_f0, am_f1, am_f2, am_f3, Int.reduceNeg, Int.reduceEq, Int.reduceLE, Int.reduceLT, Nat.reduceLeDiff, Nat.reduceAdd, Nat.reduceEqDiff, true_and, and_true, ↓reduceIte, if_false, if_true, forall_const, not_true_eq_false, not_false_eq_true, false_implies, true_implies, implies_true, Int.reduceAdd, Int.reduceMul, Int.reduceSub, ne_eq, ca_44_84, bl_44_7, bl_44_19, gf_84_0, gf_84_1, gf_84_2, ar_43, al_43, gf_84_3, ar_44, al_44, gf_84_4, ar_45, al_45, gf_84_5, ar_46, al_46, gf_84_6, pf_84_6, gf_78_0, pf_78_0, gf_78_1, pf_78_1, gf_78_2, ar_6, al_6, gf_78_3, ar_7, al_7, gf_78_4, ar_8, al_8, gf_78_5, ar_9, al_9, gf_78_6, ar_10, al_10, p1, e43]
    have K : ∀ h1 r, ty_ok h1 S → (∀ c, c ≠ 42 → h1 c = h c) → rc 1000000 S g (h0 43 g) c r → 0 ≤ r → r ≤ 1000000 → am_Ex 44 27 [some (.inr (.inr (some 84))), some (.inl c), some (.inl g)] [.inl r] h1 Q := by
      intro h1 r y1 f1 hr r0 r1
      have fx : ∀ c, c ≠ 42 → h1 c = h0 c := fun c c1 => (f1 c c1).trans (hf c c1)
      have er : r = h0 43 c := by
        rcases hr with q | q
        · exact stp_one q i0.2.2.2
        · exact absurd i0.2.2.2 (q.2 _)
      have K := H h1 y1 fx
      simp only [eq_self, and_self, am_up_at, Int.cast_ofNat_Int, Int.reduceNatCast, true_or, or_true, or_false, false_or, Classical.not_not, false_and, and_false, am_bk, am_step, am_ldI, am_ldL, am_ldA, am_nth, am_sto, am_stw_0, am_stw_i, am_stw_n, am_stw_a, am_stw_l, am_br, am_cmp, am_tk, am_cat, am_sw, am_copy, am_R, am_nc0, am_nc1, am_f0, am_f1, am_f2, am_f3, Int.reduceNeg, Int.reduceEq, Int.reduceLE, Int.reduceLT, Nat.reduceLeDiff, Nat.reduceAdd, Nat.reduceEqDiff, true_and, and_true, ↓reduceIte, if_false, if_true, forall_const, not_true_eq_false, not_false_eq_true, false_implies, true_implies, implies_true, Int.reduceAdd, Int.reduceMul, Int.reduceSub, ne_eq, ca_44_84, bl_44_27, gf_84_0, gf_84_1, gf_84_2, ar_43, al_43, gf_84_3, ar_44, al_44, gf_84_4, ar_45, al_45, gf_84_5, ar_46, al_46, gf_84_6, pf_84_6, gf_78_0, pf_78_0, gf_78_1, pf_78_1, gf_78_2, ar_6, al_6, gf_78_3, ar_7, al_7, gf_78_4, ar_8, al_8, gf_78_5, ar_9, al_9, gf_78_6, ar_10, al_10, fx 43 (by omega)]
      (repeat' (first | with_reducible apply And.intro | with_reducible intro _)) <;> first | omega | exact K
    (repeat' (first | with_reducible apply And.intro | with_reducible intro _)) <;> first | omega | exact sp_reach hy hg0 hc (by omega) K
  | succ m ih =>
    intro g h g1 g2 hy hf
    have hS := hy.1
    have hG := hS.2.1
    have p1 := hy.2.2.2.1.2.1
    have e43 := hf 43 (by omega)
    have hg : 0 ≤ g ∧ g < sg_G S := by omega
    have rg1 := ar_r (by omega) ht (ar g hg.1 hg.2)
    have np := hp.2.2 g g1 (by omega)
    rw [pd_iff (by omega) ht.2 hg hc ar] at np
    rw [bl_44_2]
    simp only [eq_self, and_self, am_up_at, Int.cast_ofNat_Int, Int.reduceNatCast, true_or, or_true, or_false, false_or, Classical.not_not, false_and, and_false, am_bk, am_step, am_ldI, am_ldL, am_ldA, am_nth, am_sto, am_stw_0, am_stw_i, am_stw_n, am_stw_a, am_stw_l, am_br, am_cmp, am_tk, am_cat, am_sw, am_copy, am_R, am_nc0, am_nc1, am_f0, am_f1, am_f2, am_f3, Int.reduceNeg, Int.reduceEq, Int.reduceLE, Int.reduceLT, Nat.reduceLeDiff, Nat.reduceAdd, Nat.reduceEqDiff, true_and, and_true, ↓reduceIte, if_false, if_true, forall_const, not_true_eq_false, not_false_eq_true, false_implies, true_implies, implies_true, Int.reduceAdd, Int.reduceMul, Int.reduceSub, ne_eq, ca_44_84, bl_44_7, bl_44_19, bl_44_34, gf_84_0, gf_84_1, gf_84_2, ar_43, al_43, gf_84_3, ar_44, al_44, gf_84_4, ar_45, al_45, gf_84_5, ar_46, al_46, gf_84_6, pf_84_6, gf_78_0, pf_78_0, gf_78_1, pf_78_1, gf_78_2, ar_6, al_6, gf_78_3, ar_7, al_7, gf_78_4, ar_8, al_8, gf_78_5, ar_9, al_9, gf_78_6, ar_10, al_10, p1, e43]
    have K1 := ih (g + 1) h (by omega) (by omega) hy hf
    have K2 : ¬ g = c → h0 43 g < h0 43 c → ∀ h1 r, ty_ok h1 S → (∀ c, c ≠ 42 → h1 c = h c) → rc 1000000 S g (h0 43 g) c r → 0 ≤ r → r ≤ 1000000 → am_Ex 44 27 [some (.inr (.inr (some 84))), some (.inl c), some (.inl g)] [.inl r] h1 Q := by
      intro q1 q2 h1 r y1 f1 hr r0 r1
      have fx : ∀ c, c ≠ 42 → h1 c = h0 c := fun c c1 => (f1 c c1).trans (hf c c1)
      have er : r ≠ h0 43 c := by
        intro e
        rcases hr with q | q
        · exact np ⟨q1, by omega, i0.2.2.1, e ▸ q⟩
        · have := i0.2.2.1; omega
      have K := ih (g + 1) h1 (by omega) (by omega) y1 fx
      simp only [eq_self, and_self, am_up_at, Int.cast_ofNat_Int, Int.reduceNatCast, true_or, or_true, or_false, false_or, Classical.not_not, false_and, and_false, am_bk, am_step, am_ldI, am_ldL, am_ldA, am_nth, am_sto, am_stw_0, am_stw_i, am_stw_n, am_stw_a, am_stw_l, am_br, am_cmp, am_tk, am_cat, am_sw, am_copy, am_R, am_nc0, am_nc1, am_f0, am_f1, am_f2, am_f3, Int.reduceNeg, Int.reduceEq, Int.reduceLE, Int.reduceLT, Nat.reduceLeDiff, Nat.reduceAdd, Nat.reduceEqDiff, true_and, and_true, ↓reduceIte, if_false, if_true, forall_const, not_true_eq_false, not_false_eq_true, false_implies, true_implies, implies_true, Int.reduceAdd, Int.reduceMul, Int.reduceSub, ne_eq, ca_44_84, bl_44_27, bl_44_34, gf_84_0, gf_84_1, gf_84_2, ar_43, al_43, gf_84_3, ar_44, al_44, gf_84_4, ar_45, al_45, gf_84_5, ar_46, al_46, gf_84_6, pf_84_6, gf_78_0, pf_78_0, gf_78_1, pf_78_1, gf_78_2, ar_6, al_6, gf_78_3, ar_7, al_7, gf_78_4, ar_8, al_8, gf_78_5, ar_9, al_9, gf_78_6, ar_10, al_10, fx 43 (by omega)]
      (repeat' (first | with_reducible apply And.intro | with_reducible intro _)) <;> first | omega | exact K
    (repeat' (first | with_reducible apply And.intro | with_reducible intro _)) <;> first | omega | exact K1 | exact sp_reach hy hg hc (by omega) (K2 (by omega) (by omega))
set_option maxHeartbeats 400000 in
set_option maxRecDepth 100000 in
theorem sp_ahead {S : sg_S} {a t c g0 : Int} {h : am_H} {Q : am_P} (hy : ty_ok h S) (hc : 0 ≤ c ∧ c < sg_G S) (ht : 0 ≤ t ∧ t ≤ 50000) (ar : ∀ b, 0 ≤ b → b < sg_G S → ar_is 1000000 S a t b (h 43 b)) (hp : pf S a t c g0) (H : ∀ h1, ty_ok h1 S → (∀ c, c ≠ 42 → h1 c = h c) → Q (some (.inl g0)) h1) : am_Call 44 [.inr (.inr (some 84)), .inl c] h Q := by
  have := hp.1
  simp only [eq_self, and_self, am_up_at, Int.cast_ofNat_Int, Int.reduceNatCast, true_or, or_true, or_false, false_or, Classical.not_not, false_and, and_false, am_bk, am_step, am_ldI, am_ldL, am_ldA, am_nth, am_sto, am_stw_0, am_stw_i, am_stw_n, am_stw_a, am_stw_l, am_br, am_cmp, am_tk, am_cat, am_sw, am_copy, am_R, am_nc0, am_nc1, am_f0, am_f1, am_f2, am_f3, Int.reduceNeg, Int.reduceEq, Int.reduceLE, Int.reduceLT, Nat.reduceLeDiff, Nat.reduceAdd, Nat.reduceEqDiff, true_and, and_true, ↓reduceIte, if_false, if_true, forall_const, not_true_eq_false, not_false_eq_true, false_implies, true_implies, implies_true, Int.reduceAdd, Int.reduceMul, Int.reduceSub, ne_eq, ca_44_84, bl_44_0, gf_84_0, gf_84_1, gf_84_2, ar_43, al_43, gf_84_3, ar_44, al_44, gf_84_4, ar_45, al_45, gf_84_5, ar_46, al_46, gf_84_6, pf_84_6]
  exact lp_ahead hc ht ar hp H g0.toNat 0 h (by omega) (by omega) hy (fun _ _ => rfl)
set_option maxHeartbeats 400000 in
set_option maxRecDepth 100000 in
theorem lp_stepsTo {S : sg_S} {a t b L : Int} {c : Int → Int} {h0 : am_H} {Q : am_P} (ha : 0 ≤ a ∧ a < sg_G S) (hb : 0 ≤ b ∧ b < sg_G S) (ht : 0 ≤ t ∧ t ≤ 50000) (ar : ∀ b, 0 ≤ b → b < sg_G S → ar_is 1000000 S a t b (h0 43 b)) (hc : ch S a t b c L) (hL : L ≤ 7) (H : ∀ h1, ty_ok h1 S → (∀ c, c ≠ 42 → h1 c = h0 c) → Q (some (.inl L)) h1) :
    ∀ (m : Nat) (n x : Int) (h : am_H), x = c n → 0 ≤ n → n + m = L → ty_ok h S → (∀ c, c ≠ 42 → h c = h0 c) → am_Ex 43 12 [some (.inr (.inr (some 84))), some (.inl a), some (.inl b), some (.inl x), some (.inl n)] [] h Q := by
  intro m
  induction m with
  | zero =>
    intro n x h ex n0 n1 hy hf
    subst ex
    have hG := hy.1.2.1
    have en : n = L := by omega
    subst en
    have e := hc.2.2.1
    have K := H h hy hf
    rw [bl_43_12]
    simp only [eq_self, and_self, am_up_at, Int.cast_ofNat_Int, Int.reduceNatCast, true_or, or_true, or_false, false_or, Classical.not_not, false_and, and_false, am_bk, am_step, am_ldI, am_ldL, am_ldA, am_nth, am_sto, am_stw_0, am_stw_i, am_stw_n, am_stw_a, am_stw_l, am_br, am_cmp, am_tk, am_cat, am_sw, am_copy, am_R, am_nc0, am_nc1, am_f0, am_f1, am_f2, am_f3, Int.reduceNeg, Int.reduceEq, Int.reduceLE, Int.reduceLT, Nat.reduceLeDiff, Nat.reduceAdd, Nat.reduceEqDiff, true_and, and_true, ↓reduceIte, if_false, if_true, forall_const, not_true_eq_false, not_false_eq_true, false_implies, true_implies, implies_true, Int.reduceAdd, Int.reduceMul, Int.reduceSub, ne_eq, ca_43_84, bl_43_15, gf_84_0, gf_84_1, gf_84_2, ar_43, al_43, gf_84_3, ar_44, al_44, gf_84_4, ar_45, al_45, gf_84_5, ar_46, al_46, gf_84_6, pf_84_6, gf_78_0, pf_78_0, gf_78_1, pf_78_1, gf_78_2, ar_6, al_6, gf_78_3, ar_7, al_7, gf_78_4, ar_8, al_8, gf_78_5, ar_9, al_9, gf_78_6, ar_10, al_10, e]
    (repeat' (first | with_reducible apply And.intro | with_reducible intro _)) <;> first | omega | exact K
  | succ m ih =>
    intro n x h ex n0 n1 hy hf
    subst ex
    have hG := hy.1.2.1
    have cg := ch_g hb hc n n0 (by omega)
    have cg1 := ch_g hb hc (n + 1) (by omega) (by omega)
    have s := hc.2.2.2 n n0 (by omega)
    have e43 := hf 43 (by omega)
    rw [bl_43_12]
    simp only [eq_self, and_self, am_up_at, Int.cast_ofNat_Int, Int.reduceNatCast, true_or, or_true, or_false, false_or, Classical.not_not, false_and, and_false, am_bk, am_step, am_ldI, am_ldL, am_ldA, am_nth, am_sto, am_stw_0, am_stw_i, am_stw_n, am_stw_a, am_stw_l, am_br, am_cmp, am_tk, am_cat, am_sw, am_copy, am_R, am_nc0, am_nc1, am_f0, am_f1, am_f2, am_f3, Int.reduceNeg, Int.reduceEq, Int.reduceLE, Int.reduceLT, Nat.reduceLeDiff, Nat.reduceAdd, Nat.reduceEqDiff, true_and, and_true, ↓reduceIte, if_false, if_true, forall_const, not_true_eq_false, not_false_eq_true, false_implies, true_implies, implies_true, Int.reduceAdd, Int.reduceMul, Int.reduceSub, ne_eq, ca_43_84, bl_43_15, bl_43_20, gf_84_0, gf_84_1, gf_84_2, ar_43, al_43, gf_84_3, ar_44, al_44, gf_84_4, ar_45, al_45, gf_84_5, ar_46, al_46, gf_84_6, pf_84_6, gf_78_0, pf_78_0, gf_78_1, pf_78_1, gf_78_2, ar_6, al_6, gf_78_3, ar_7, al_7, gf_78_4, ar_8, al_8, gf_78_5, ar_9, al_9, gf_78_6, ar_10, al_10]
    have K : ∀ h1, ty_ok h1 S → (∀ c, c ≠ 42 → h1 c = h c) → am_Ex 43 23 [some (.inr (.inr (some 84))), some (.inl a), some (.inl b), some (.inl (c n)), some (.inl n)] [.inl (c (n + 1))] h1 Q := by
      intro h1 y1 f1
      have K := ih (n + 1) _ h1 rfl (by omega) (by omega) y1 (fun c c1 => (f1 c c1).trans (hf c c1))
      simp only [eq_self, and_self, am_up_at, Int.cast_ofNat_Int, Int.reduceNatCast, true_or, or_true, or_false, false_or, Classical.not_not, false_and, and_false, am_bk, am_step, am_ldI, am_ldL, am_ldA, am_nth, am_sto, am_stw_0, am_stw_i, am_stw_n, am_stw_a, am_stw_l, am_br, am_cmp, am_tk, am_cat, am_sw, am_copy, am_R, am_nc0, am_nc1, am_f0, am_f1, am_f2, am_f3, Int.reduceNeg, Int.reduceEq, Int.reduceLE, Int.reduceLT, Nat.reduceLeDiff, Nat.reduceAdd, Nat.reduceEqDiff, true_and, and_true, ↓reduceIte, if_false, if_true, forall_const, not_true_eq_false, not_false_eq_true, false_implies, true_implies, implies_true, Int.reduceAdd, Int.reduceMul, Int.reduceSub, ne_eq, ca_43_84, bl_43_23, bl_43_28, gf_84_0, gf_84_1, gf_84_2, ar_43, al_43, gf_84_3, ar_44, al_44, gf_84_4, ar_45, al_45, gf_84_5, ar_46, al_46, gf_84_6, pf_84_6, gf_78_0, pf_78_0, gf_78_1, pf_78_1, gf_78_2, ar_6, al_6, gf_78_3, ar_7, al_7, gf_78_4, ar_8, al_8, gf_78_5, ar_9, al_9, gf_78_6, ar_10, al_10]
      (repeat' (first | with_reducible apply And.intro | with_reducible intro _)) <;> first | omega | exact K
    (repeat' (first | with_reducible apply And.intro | with_reducible intro _)) <;> first | omega | exact absurd (by omega) s.1 | exact sp_ahead hy cg ht (by rw [e43]; exact ar) s.2 K
set_option maxHeartbeats 400000 in
set_option maxRecDepth 100000 in
theorem lp_gos {S : sg_S} {a t b L i : Int} {c : Int → Int} {h0 : am_H} {Q : am_P} (ha : 0 ≤ a ∧ a < sg_G S) (hb : 0 ≤ b ∧ b < sg_G S) (ht : 0 ≤ t ∧ t ≤ 50000) (ar : ∀ b, 0 ≤ b → b < sg_G S → ar_is 1000000 S a t b (h0 43 b)) (hc : ch S a t b c L) (hL : L ≤ 7) (hi : 0 ≤ i ∧ i ≤ L) (H : ∀ h1, ty_ok h1 S → (∀ c, c ≠ 42 → h1 c = h0 c) → Q (some (.inl (c (L - i)))) h1) :
    ∀ (m : Nat) (n x : Int) (h : am_H), x = c (L - n) → n ≤ L → n = i + m → ty_ok h S → (∀ c, c ≠ 42 → h c = h0 c) → am_Ex 42 16 [some (.inr (.inr (some 84))), some (.inl a), some (.inl b), some (.inl i), some (.inl L), some (.inl x), some (.inl n)] [] h Q := by
  intro m
  induction m with
  | zero =>
    intro n x h ex n0 n1 hy hf
    subst ex
    have hG := hy.1.2.1
    have en : n = i := by omega
    subst en
    have K := H h hy hf
    rw [bl_42_16]
    simp only [eq_self, and_self, am_up_at, Int.cast_ofNat_Int, Int.reduceNatCast, true_or, or_true, or_false, false_or, Classical.not_not, false_and, and_false, am_bk, am_step, am_ldI, am_ldL, am_ldA, am_nth, am_sto, am_stw_0, am_stw_i, am_stw_n, am_stw_a, am_stw_l, am_br, am_cmp, am_tk, am_cat, am_sw, am_copy, am_R, am_nc0, am_nc1, am_f0, am_f1, am_f2, am_f3, Int.reduceNeg, Int.reduceEq, Int.reduceLE, Int.reduceLT, Nat.reduceLeDiff, Nat.reduceAdd, Nat.reduceEqDiff, true_and, and_true, ↓reduceIte, if_false, if_true, forall_const, not_true_eq_false, not_false_eq_true, false_implies, true_implies, implies_true, Int.reduceAdd, Int.reduceMul, Int.reduceSub, ne_eq, ca_42_84, bl_42_29, gf_84_0, gf_84_1, gf_84_2, ar_43, al_43, gf_84_3, ar_44, al_44, gf_84_4, ar_45, al_45, gf_84_5, ar_46, al_46, gf_84_6, pf_84_6, gf_78_0, pf_78_0, gf_78_1, pf_78_1, gf_78_2, ar_6, al_6, gf_78_3, ar_7, al_7, gf_78_4, ar_8, al_8, gf_78_5, ar_9, al_9, gf_78_6, ar_10, al_10]
    (repeat' (first | with_reducible apply And.intro | with_reducible intro _)) <;> first | omega | exact K
  | succ m ih =>
    intro n x h ex n0 n1 hy hf
    subst ex
    have hG := hy.1.2.1
    have cg := ch_g hb hc (L - n) (by omega) (by omega)
    have s := hc.2.2.2 (L - n) (by omega) (by omega)
    rw [show L - n + 1 = L - (n + -1) by omega] at s
    have cg1 := ch_g hb hc (L - (n + -1)) (by omega) (by omega)
    have e43 := hf 43 (by omega)
    rw [bl_42_16]
    simp only [eq_self, and_self, am_up_at, Int.cast_ofNat_Int, Int.reduceNatCast, true_or, or_true, or_false, false_or, Classical.not_not, false_and, and_false, am_bk, am_step, am_ldI, am_ldL, am_ldA, am_nth, am_sto, am_stw_0, am_stw_i, am_stw_n, am_stw_a, am_stw_l, am_br, am_cmp, am_tk, am_cat, am_sw, am_copy, am_R, am_nc0, am_nc1, am_f0, am_f1, am_f2, am_f3, Int.reduceNeg, Int.reduceEq, Int.reduceLE, Int.reduceLT, Nat.reduceLeDiff, Nat.reduceAdd, Nat.reduceEqDiff, true_and, and_true, ↓reduceIte, if_false, if_true, forall_const, not_true_eq_false, not_false_eq_true, false_implies, true_implies, implies_true, Int.reduceAdd, Int.reduceMul, Int.reduceSub, ne_eq, ca_42_84, bl_42_19, gf_84_0, gf_84_1, gf_84_2, ar_43, al_43, gf_84_3, ar_44, al_44, gf_84_4, ar_45, al_45, gf_84_5, ar_46, al_46, gf_84_6, pf_84_6, gf_78_0, pf_78_0, gf_78_1, pf_78_1, gf_78_2, ar_6, al_6, gf_78_3, ar_7, al_7, gf_78_4, ar_8, al_8, gf_78_5, ar_9, al_9, gf_78_6, ar_10, al_10]
    have K : ∀ h1, ty_ok h1 S → (∀ c, c ≠ 42 → h1 c = h c) → am_Ex 42 22 [some (.inr (.inr (some 84))), some (.inl a), some (.inl b), some (.inl i), some (.inl L), some (.inl (c (L - n))), some (.inl n)] [.inl (c (L - (n + -1)))] h1 Q := by
      intro h1 y1 f1
      have K := ih (n + -1) _ h1 rfl (by omega) (by omega) y1 (fun c c1 => (f1 c c1).trans (hf c c1))
      simp only [eq_self, and_self, am_up_at, Int.cast_ofNat_Int, Int.reduceNatCast, true_or, or_true, or_false, false_or, Classical.not_not, false_and, and_false, am_bk, am_step, am_ldI, am_ldL, am_ldA, am_nth, am_sto, am_stw_0, am_stw_i, am_stw_n, am_stw_a, am_stw_l, am_br, am_cmp, am_tk, am_cat, am_sw, am_copy, am_R, am_nc0, am_nc1, am_f0, am_f1, am_f2, am_f3, Int.reduceNeg, Int.reduceEq, Int.reduceLE, Int.reduceLT, Nat.reduceLeDiff, Nat.reduceAdd, Nat.reduceEqDiff, true_and, and_true, ↓reduceIte, if_false, if_true, forall_const, not_true_eq_false, not_false_eq_true, false_implies, true_implies, implies_true, Int.reduceAdd, Int.reduceMul, Int.reduceSub, ne_eq, ca_42_84, bl_42_22, bl_42_27, gf_84_0, gf_84_1, gf_84_2, ar_43, al_43, gf_84_3, ar_44, al_44, gf_84_4, ar_45, al_45, gf_84_5, ar_46, al_46, gf_84_6, pf_84_6, gf_78_0, pf_78_0, gf_78_1, pf_78_1, gf_78_2, ar_6, al_6, gf_78_3, ar_7, al_7, gf_78_4, ar_8, al_8, gf_78_5, ar_9, al_9, gf_78_6, ar_10, al_10]
      (repeat' (first | with_reducible apply And.intro | with_reducible intro _)) <;> first | omega | exact K
    (repeat' (first | with_reducible apply And.intro | with_reducible intro _)) <;> first | omega | exact sp_ahead hy cg ht (by rw [e43]; exact ar) s.2 K
set_option maxHeartbeats 400000 in
set_option maxRecDepth 100000 in
theorem sp_gateOfStep {S : sg_S} {a t b i : Int} {h : am_H} {Q : am_P} (hy : ty_ok h S) (ha : 0 ≤ a ∧ a < sg_G S) (hb : 0 ≤ b ∧ b < sg_G S) (ht : 0 ≤ t ∧ t ≤ 50000) (hi : am_R i) (ar : ∀ b, 0 ≤ b → b < sg_G S → ar_is 1000000 S a t b (h 43 b))
    (N : h 43 b = 1000000 → Q (some (.inl (-1))) h) (F : ∀ h1 c L, ty_ok h1 S → (∀ c, c ≠ 42 → h1 c = h c) → h 43 b < 1000000 → ch S a t b c L → L ≤ 7 → ∀ g, ((0 ≤ i ∧ i ≤ L) ∧ g = c (L - i)) ∨ (¬ (0 ≤ i ∧ i ≤ L) ∧ g = -1) → Q (some (.inl g)) h1) : am_Call 42 [.inr (.inr (some 84)), .inl a, .inl b, .inl i] h Q := by
  obtain ⟨i1, i2⟩ := hi
  have hG := hy.1.2.1
  have rb := ar_r (by omega) ht (ar b hb.1 hb.2)
  simp only [eq_self, and_self, am_up_at, Int.cast_ofNat_Int, Int.reduceNatCast, true_or, or_true, or_false, false_or, Classical.not_not, false_and, and_false, am_bk, am_step, am_ldI, am_ldL, am_ldA, am_nth, am_sto, am_stw_0, am_stw_i, am_stw_n, am_stw_a, am_stw_l, am_br, am_cmp, am_tk, am_cat, am_sw, am_copy, am_R, am_nc0, am_nc1, am_f0, am_f1, am_f2, am_f3, Int.reduceNeg, Int.reduceEq, Int.reduceLE, Int.reduceLT, Nat.reduceLeDiff, Nat.reduceAdd, Nat.reduceEqDiff, true_and, and_true, ↓reduceIte, if_false, if_true, forall_const, not_true_eq_false, not_false_eq_true, false_implies, true_implies, implies_true, Int.reduceAdd, Int.reduceMul, Int.reduceSub, ne_eq, ca_42_84, bl_42_0, ca_43_84, bl_43_0, gf_84_0, gf_84_1, gf_84_2, ar_43, al_43, gf_84_3, ar_44, al_44, gf_84_4, ar_45, al_45, gf_84_5, ar_46, al_46, gf_84_6, pf_84_6]
  have A : ¬ h 43 b < 1000000 → am_Ex 42 4 [some (.inr (.inr (some 84))), some (.inl a), some (.inl b), some (.inl i), none, none, none] [.inl (-1)] h Q := by
    intro q
    have K := N (by omega)
    simp only [eq_self, and_self, am_up_at, Int.cast_ofNat_Int, Int.reduceNatCast, true_or, or_true, or_false, false_or, Classical.not_not, false_and, and_false, am_bk, am_step, am_ldI, am_ldL, am_ldA, am_nth, am_sto, am_stw_0, am_stw_i, am_stw_n, am_stw_a, am_stw_l, am_br, am_cmp, am_tk, am_cat, am_sw, am_copy, am_R, am_nc0, am_nc1, am_f0, am_f1, am_f2, am_f3, Int.reduceNeg, Int.reduceEq, Int.reduceLE, Int.reduceLT, Nat.reduceLeDiff, Nat.reduceAdd, Nat.reduceEqDiff, true_and, and_true, ↓reduceIte, if_false, if_true, forall_const, not_true_eq_false, not_false_eq_true, false_implies, true_implies, implies_true, Int.reduceAdd, Int.reduceMul, Int.reduceSub, ne_eq, ca_42_84, bl_42_4, bl_42_10, gf_84_0, gf_84_1, gf_84_2, ar_43, al_43, gf_84_3, ar_44, al_44, gf_84_4, ar_45, al_45, gf_84_5, ar_46, al_46, gf_84_6, pf_84_6]
    (repeat' (first | with_reducible apply And.intro | with_reducible intro _)) <;> first | omega | exact K
  have B : h 43 b < 1000000 → ∃ c L, ch S a t b c L ∧ L ≤ 7 ∧ ∀ h1, ty_ok h1 S → (∀ c, c ≠ 42 → h1 c = h c) → am_Ex 42 4 [some (.inr (.inr (some 84))), some (.inl a), some (.inl b), some (.inl i), none, none, none] [.inl L] h1 Q := by
    intro q
    obtain ⟨c, L, c1, c2⟩ := ch_7 hy.1 hy.2.1 (by omega) ht ha hb ar q
    refine ⟨c, L, c1, c2, fun h1 y1 f1 => ?_⟩
    have c0 := c1.1
    have e43 := f1 43 (by omega)
    have K1 : ¬ (0 ≤ i ∧ i ≤ L) → Q (some (.inl (-1))) h1 := fun z => F h1 c L y1 f1 q c1 c2 (-1) (Or.inr ⟨z, rfl⟩)
    have K2 : 0 ≤ i ∧ i ≤ L → am_Ex 42 16 [some (.inr (.inr (some 84))), some (.inl a), some (.inl b), some (.inl i), some (.inl L), some (.inl b), some (.inl L)] [] h1 Q := fun z => lp_gos (h0 := h1) (Q := Q) ha hb ht (by rw [e43]; exact ar) c1 c2 z (fun h2 y2 f2 => F h2 c L y2 (fun c' hc' => (f2 c' hc').trans (f1 c' hc')) q c1 c2 (c (L - i)) (Or.inl ⟨z, rfl⟩)) (L - i).toNat L b h1 (by rw [show L - L = 0 by omega]; exact c1.2.1.symm) (by omega) (by omega) y1 (fun _ _ => rfl)
    simp only [eq_self, and_self, am_up_at, Int.cast_ofNat_Int, Int.reduceNatCast, true_or, or_true, or_false, false_or, Classical.not_not, false_and, and_false, am_bk, am_step, am_ldI, am_ldL, am_ldA, am_nth, am_sto, am_stw_0, am_stw_i, am_stw_n, am_stw_a, am_stw_l, am_br, am_cmp, am_tk, am_cat, am_sw, am_copy, am_R, am_nc0, am_nc1, am_f0, am_f1, am_f2, am_f3, Int.reduceNeg, Int.reduceEq, Int.reduceLE, Int.reduceLT, Nat.reduceLeDiff, Nat.reduceAdd, Nat.reduceEqDiff, true_and, and_true, ↓reduceIte, if_false, if_true, forall_const, not_true_eq_false, not_false_eq_true, false_implies, true_implies, implies_true, Int.reduceAdd, Int.reduceMul, Int.reduceSub, ne_eq, ca_42_84, bl_42_4, bl_42_10, bl_42_12, gf_84_0, gf_84_1, gf_84_2, ar_43, al_43, gf_84_3, ar_44, al_44, gf_84_4, ar_45, al_45, gf_84_5, ar_46, al_46, gf_84_6, pf_84_6]
    (repeat' (first | with_reducible apply And.intro | with_reducible intro _)) <;> first | omega | exact K1 (by omega) | exact K2 (by omega)
  refine ⟨by omega, by omega, fun q => ?_, fun q => ?_⟩
  · obtain ⟨c, L, c1, c2, c3⟩ := B (by omega)
    simp only [eq_self, and_self, am_up_at, Int.cast_ofNat_Int, Int.reduceNatCast, true_or, or_true, or_false, false_or, Classical.not_not, false_and, and_false, am_bk, am_step, am_ldI, am_ldL, am_ldA, am_nth, am_sto, am_stw_0, am_stw_i, am_stw_n, am_stw_a, am_stw_l, am_br, am_cmp, am_tk, am_cat, am_sw, am_copy, am_R, am_nc0, am_nc1, am_f0, am_f1, am_f2, am_f3, Int.reduceNeg, Int.reduceEq, Int.reduceLE, Int.reduceLT, Nat.reduceLeDiff, Nat.reduceAdd, Nat.reduceEqDiff, true_and, and_true, ↓reduceIte, if_false, if_true, forall_const, not_true_eq_false, not_false_eq_true, false_implies, true_implies, implies_true, Int.reduceAdd, Int.reduceMul, Int.reduceSub, ne_eq, ca_43_84, bl_43_8, gf_84_0, gf_84_1, gf_84_2, ar_43, al_43, gf_84_3, ar_44, al_44, gf_84_4, ar_45, al_45, gf_84_5, ar_46, al_46, gf_84_6, pf_84_6]
    exact lp_stepsTo (h0 := h) ha hb ht ar c1 c2 c3 L.toNat 0 b h c1.2.1.symm (by omega) (by have := c1.1; omega) hy (fun _ _ => rfl)
  · exact A (by omega)
/-! the reference -/
set_option maxHeartbeats 400000 in
set_option maxRecDepth 100000 in
theorem lp_stA {S : sg_S} {a t b i w n c g0 : Int} {h : am_H} {Q : am_P} (hm : sg_of h = S) (hS : sg_ok S) (hF : tb_fit S) (hc : 0 ≤ c ∧ c < sg_G S) (ht : 0 ≤ t ∧ t ≤ 50000) (ar : ∀ b, 0 ≤ b → b < sg_G S → ar_is 99999 S a t b (h 68 b)) (hp : pf S a t c g0) (H : am_Ex 136 81 [some (.inr (.inr (some 86))), some (.inl a), some (.inl t), some (.inl b), some (.inl i), some (.inl w), some (.inl n), some (.inl c), some (.inl g0)] [] h Q) :
    ∀ (m : Nat) (g : Int), 0 ≤ g → g + m = g0 → am_Ex 136 57 [some (.inr (.inr (some 86))), some (.inl a), some (.inl t), some (.inl b), some (.inl i), some (.inl w), some (.inl n), some (.inl c), some (.inl g)] [] h Q := by
  intro m
  have hG := hS.2.1
  have hg0 := hp.1
  have rc1 := ar_r (by omega) ht (ar c hc.1 hc.2)
  have i0 := (pd_iff (by omega) ht.2 hg0 hc ar).mp hp.2.1
  induction m with
  | zero =>
    intro g g1 g2
    have eg : g = g0 := by omega
    subst eg
    have rg1 := ar_r (by omega) ht (ar g hg0.1 hg0.2)
    rw [bl_136_57]
    simp only [eq_self, and_self, am_up_at, Int.cast_ofNat_Int, Int.reduceNatCast, true_or, or_true, or_false, false_or, Classical.not_not, false_and, and_false, am_bk, am_step, am_ldI, am_ldL, am_ldA, am_nth, am_sto, am_stw_0, am_stw_i, am_stw_n, am_stw_a, am_stw_l, am_br, am_cmp, am_tk, am_cat, am_sw, am_copy, am_R, am_nc0, am_nc1, am_f0, am_f1, am_f2, am_f3, Int.reduceNeg, Int.reduceEq, Int.reduceLE, Int.reduceLT, Nat.reduceLeDiff, Nat.reduceAdd, Nat.reduceEqDiff, true_and, and_true, ↓reduceIte, if_false, if_true, forall_const, not_true_eq_false, not_false_eq_true, false_implies, true_implies, implies_true, Int.reduceAdd, Int.reduceMul, Int.reduceSub, ne_eq, ca_136_86, bl_136_60, bl_136_72, gf_86_0, pf_86_0, gf_86_1, ar_50, al_50, gf_86_2, pf_86_2, gf_86_3, pf_86_3, gf_86_4, pf_86_4, gf_86_5, pf_86_5, gf_86_6, ar_51, al_51, gf_86_7, ar_52, al_52, gf_86_8, ar_53, al_53, gf_86_9, ar_54, al_54, gf_86_10, ar_55, al_55, gf_86_11, ar_56, al_56, gf_86_12, ar_57, al_57, gf_86_13, pf_86_13, gf_86_14, pf_86_14, gf_86_15, ar_58, al_58, gf_86_16, ar_59, al_59, gf_86_17, ar_60, al_60, gf_86_18, ar_61, al_61, gf_86_19, ar_62, al_62, gf_86_20, pf_86_20, gf_86_21, pf_86_21, gf_86_22, ar_63, al_63, gf_86_23, ar_64, al_64, gf_86_24, ar_65, al_65, gf_86_25, ar_66, al_66, gf_86_26, ar_67, al_67, gf_86_27, ar_68, al_68, gf_86_28, ar_69, al_69, gf_86_29, ar_70, al_70, gf_86_30, ar_71, al_71, gf_86_31, ar_72, al_72, gf_86_32, ar_73, al_73, gf_86_33, ar_74, al_74, gf_86_34, pf_86_34]
    have K : ∀ r, rc 99999 S g (h 68 g) c r → 0 ≤ r → r ≤ 99999 → am_Ex 136 74 [some (.inr (.inr (some 86))), some (.inl a), some (.inl t), some (.inl b), some (.inl i), some (.inl w), some (.inl n), some (.inl c), some (.inl g)] [.inl r] h Q := by
      intro r hr r0 r1
      have er : r = h 68 c := by
        rcases hr with q | q
        · exact stp_one q i0.2.2.2
        · exact absurd i0.2.2.2 (q.2 _)
      simp only [eq_self, and_self, am_up_at, Int.cast_ofNat_Int, Int.reduceNatCast, true_or, or_true, or_false, false_or, Classical.not_not, false_and, and_false, am_bk, am_step, am_ldI, am_ldL, am_ldA, am_nth, am_sto, am_stw_0, am_stw_i, am_stw_n, am_stw_a, am_stw_l, am_br, am_cmp, am_tk, am_cat, am_sw, am_copy, am_R, am_nc0, am_nc1, am_f0, am_f1, am_f2, am_f3, Int.reduceNeg, Int.reduceEq, Int.reduceLE, Int.reduceLT, Nat.reduceLeDiff, Nat.reduceAdd, Nat.reduceEqDiff, true_and, and_true, ↓reduceIte, if_false, if_true, forall_const, not_true_eq_false, not_false_eq_true, false_implies, true_implies, implies_true, Int.reduceAdd, Int.reduceMul, Int.reduceSub, ne_eq, ca_136_86, bl_136_74, gf_86_0, pf_86_0, gf_86_1, ar_50, al_50, gf_86_2, pf_86_2, gf_86_3, pf_86_3, gf_86_4, pf_86_4, gf_86_5, pf_86_5, gf_86_6, ar_51, al_51, gf_86_7, ar_52, al_52, gf_86_8, ar_53, al_53, gf_86_9, ar_54, al_54, gf_86_10, ar_55, al_55, gf_86_11, ar_56, al_56, gf_86_12, ar_57, al_57, gf_86_13, pf_86_13, gf_86_14, pf_86_14, gf_86_15, ar_58, al_58, gf_86_16, ar_59, al_59, gf_86_17, ar_60, al_60, gf_86_18, ar_61, al_61, gf_86_19, ar_62, al_62, gf_86_20, pf_86_20, gf_86_21, pf_86_21, gf_86_22, ar_63, al_63, gf_86_23, ar_64, al_64, gf_86_24, ar_65, al_65, gf_86_25, ar_66, al_66, gf_86_26, ar_67, al_67, gf_86_27, ar_68, al_68, gf_86_28, ar_69, al_69, gf_86_29, ar_70, al_70, gf_86_30, ar_71, al_71, gf_86_31, ar_72, al_72, gf_86_32, ar_73, al_73, gf_86_33, ar_74, al_74, gf_86_34, pf_86_34]
      (repeat' (first | with_reducible apply And.intro | with_reducible intro _)) <;> first | omega | exact H
    (repeat' (first | with_reducible apply And.intro | with_reducible intro _)) <;> first | omega | exact absurd (by assumption) i0.1 | exact sp_by hm hS hF hg0 hc (by omega) K
  | succ m ih =>
    intro g g1 g2
    have hg : 0 ≤ g ∧ g < sg_G S := by omega
    have rg1 := ar_r (by omega) ht (ar g hg.1 hg.2)
    have np := hp.2.2 g g1 (by omega)
    rw [pd_iff (by omega) ht.2 hg hc ar] at np
    have K1 := ih (g + 1) (by omega) (by omega)
    have K : ¬ g = c → ¬ h 68 g = 99999 → ∀ r, rc 99999 S g (h 68 g) c r → 0 ≤ r → r ≤ 99999 → am_Ex 136 74 [some (.inr (.inr (some 86))), some (.inl a), some (.inl t), some (.inl b), some (.inl i), some (.inl w), some (.inl n), some (.inl c), some (.inl g)] [.inl r] h Q := by
      intro q1 q2 r hr r0 r1
      have er : r ≠ h 68 c := by
        intro e
        rcases hr with q | q
        · exact np ⟨q1, by omega, i0.2.2.1, e ▸ q⟩
        · have := i0.2.2.1; omega
      simp only [eq_self, and_self, am_up_at, Int.cast_ofNat_Int, Int.reduceNatCast, true_or, or_true, or_false, false_or, Classical.not_not, false_and, and_false, am_bk, am_step, am_ldI, am_ldL, am_ldA, am_nth, am_sto, am_stw_0, am_stw_i, am_stw_n, am_stw_a, am_stw_l, am_br, am_cmp, am_tk, am_cat, am_sw, am_copy, am_R, am_nc0, am_nc1, am_f0, am_f1, am_f2, am_f3, Int.reduceNeg, Int.reduceEq, Int.reduceLE, Int.reduceLT, Nat.reduceLeDiff, Nat.reduceAdd, Nat.reduceEqDiff, true_and, and_true, ↓reduceIte, if_false, if_true, forall_const, not_true_eq_false, not_false_eq_true, false_implies, true_implies, implies_true, Int.reduceAdd, Int.reduceMul, Int.reduceSub, ne_eq, ca_136_86, bl_136_74, bl_136_79, gf_86_0, pf_86_0, gf_86_1, ar_50, al_50, gf_86_2, pf_86_2, gf_86_3, pf_86_3, gf_86_4, pf_86_4, gf_86_5, pf_86_5, gf_86_6, ar_51, al_51, gf_86_7, ar_52, al_52, gf_86_8, ar_53, al_53, gf_86_9, ar_54, al_54, gf_86_10, ar_55, al_55, gf_86_11, ar_56, al_56, gf_86_12, ar_57, al_57, gf_86_13, pf_86_13, gf_86_14, pf_86_14, gf_86_15, ar_58, al_58, gf_86_16, ar_59, al_59, gf_86_17, ar_60, al_60, gf_86_18, ar_61, al_61, gf_86_19, ar_62, al_62, gf_86_20, pf_86_20, gf_86_21, pf_86_21, gf_86_22, ar_63, al_63, gf_86_23, ar_64, al_64, gf_86_24, ar_65, al_65, gf_86_25, ar_66, al_66, gf_86_26, ar_67, al_67, gf_86_27, ar_68, al_68, gf_86_28, ar_69, al_69, gf_86_29, ar_70, al_70, gf_86_30, ar_71, al_71, gf_86_31, ar_72, al_72, gf_86_32, ar_73, al_73, gf_86_33, ar_74, al_74, gf_86_34, pf_86_34]
      (repeat' (first | with_reducible apply And.intro | with_reducible intro _)) <;> first | omega | exact K1
    rw [bl_136_57]
    simp only [eq_self, and_self, am_up_at, Int.cast_ofNat_Int, Int.reduceNatCast, true_or, or_true, or_false, false_or, Classical.not_not, false_and, and_false, am_bk, am_step, am_ldI, am_ldL, am_ldA, am_nth, am_sto, am_stw_0, am_stw_i, am_stw_n, am_stw_a, am_stw_l, am_br, am_cmp, am_tk, am_cat, am_sw, am_copy, am_R, am_nc0, am_nc1, am_f0, am_f1, am_f2, am_f3, Int.reduceNeg, Int.reduceEq, Int.reduceLE, Int.reduceLT, Nat.reduceLeDiff, Nat.reduceAdd, Nat.reduceEqDiff, true_and, and_true, ↓reduceIte, if_false, if_true, forall_const, not_true_eq_false, not_false_eq_true, false_implies, true_implies, implies_true, Int.reduceAdd, Int.reduceMul, Int.reduceSub, ne_eq, ca_136_86, bl_136_60, bl_136_72, bl_136_79, gf_86_0, pf_86_0, gf_86_1, ar_50, al_50, gf_86_2, pf_86_2, gf_86_3, pf_86_3, gf_86_4, pf_86_4, gf_86_5, pf_86_5, gf_86_6, ar_51, al_51, gf_86_7, ar_52, al_52, gf_86_8, ar_53, al_53, gf_86_9, ar_54, al_54, gf_86_10, ar_55, al_55, gf_86_11, ar_56, al_56, gf_86_12, ar_57, al_57, gf_86_13, pf_86_13, gf_86_14, pf_86_14, gf_86_15, ar_58, al_58, gf_86_16, ar_59, al_59, gf_86_17, ar_60, al_60, gf_86_18, ar_61, al_61, gf_86_19, ar_62, al_62, gf_86_20, pf_86_20, gf_86_21, pf_86_21, gf_86_22, ar_63, al_63, gf_86_23, ar_64, al_64, gf_86_24, ar_65, al_65, gf_86_25, ar_66, al_66, gf_86_26, ar_67, al_67, gf_86_27, ar_68, al_68, gf_86_28, ar_69, al_69, gf_86_29, ar_70, al_70, gf_86_30, ar_71, al_71, gf_86_31, ar_72, al_72, gf_86_32, ar_73, al_73, gf_86_33, ar_74, al_74, gf_86_34, pf_86_34]
    (repeat' (first | with_reducible apply And.intro | with_reducible intro _)) <;> first | omega | exact K1 | exact sp_by hm hS hF hg hc (by omega) (K (by omega) (by omega))
set_option maxHeartbeats 400000 in
set_option maxRecDepth 100000 in
theorem lp_stB {S : sg_S} {a t b i w L : Int} {c : Int → Int} {h0 : am_H} {Q : am_P} (hm0 : sg_of h0 = S) (hS : sg_ok S) (hF : tb_fit S) (ha : 0 ≤ a ∧ a < sg_G S) (hb : 0 ≤ b ∧ b < sg_G S) (ht : 0 ≤ t ∧ t ≤ 50000) (ar : ∀ b, 0 ≤ b → b < sg_G S → ar_is 99999 S a t b (h0 68 b)) (hc : ch S a t b c L) (hL : L ≤ 7) (H : ∀ h1, (∀ c, c ≠ 70 → h1 c = h0 c) → (∀ j, 0 ≤ j → j ≤ L → h1 70 j = c j) → am_Ex 136 88 [some (.inr (.inr (some 86))), some (.inl a), some (.inl t), some (.inl b), some (.inl i), some (.inl w), some (.inl (L + 1)), none, none] [] h1 Q) :
    ∀ (m : Nat) (n : Int) (h : am_H), 1 ≤ n → n - 1 + m = L → (∀ c, c ≠ 70 → h c = h0 c) → (∀ j, 0 ≤ j → j < n → h 70 j = c j) → am_Ex 136 40 [some (.inr (.inr (some 86))), some (.inl a), some (.inl t), some (.inl b), some (.inl i), some (.inl w), some (.inl n), none, none] [] h Q := by
  intro m
  have hG := hS.2.1
  induction m with
  | zero =>
    intro n h n0 n1 hf I
    have e := I (n - 1) (by omega) (by omega)
    have e2 := hc.2.2.1
    rw [show L = n - 1 by omega] at e2
    have K := H h hf (fun j j1 j2 => I j j1 (by omega))
    rw [show L + 1 = n by omega] at K
    rw [bl_136_40]
    simp only [eq_self, and_self, am_up_at, Int.cast_ofNat_Int, Int.reduceNatCast, true_or, or_true, or_false, false_or, Classical.not_not, false_and, and_false, am_bk, am_step, am_ldI, am_ldL, am_ldA, am_nth, am_sto, am_stw_0, am_stw_i, am_stw_n, am_stw_a, am_stw_l, am_br, am_cmp, am_tk, am_cat, am_sw, am_copy, am_R, am_nc0, am_nc1, am_f0, am_f1, am_f2, am_f3, Int.reduceNeg, Int.reduceEq, Int.reduceLE, Int.reduceLT, Nat.reduceLeDiff, Nat.reduceAdd, Nat.reduceEqDiff, true_and, and_true, ↓reduceIte, if_false, if_true, forall_const, not_true_eq_false, not_false_eq_true, false_implies, true_implies, implies_true, Int.reduceAdd, Int.reduceMul, Int.reduceSub, ne_eq, gf_86_0, pf_86_0, gf_86_1, ar_50, al_50, gf_86_2, pf_86_2, gf_86_3, pf_86_3, gf_86_4, pf_86_4, gf_86_5, pf_86_5, gf_86_6, ar_51, al_51, gf_86_7, ar_52, al_52, gf_86_8, ar_53, al_53, gf_86_9, ar_54, al_54, gf_86_10, ar_55, al_55, gf_86_11, ar_56, al_56, gf_86_12, ar_57, al_57, gf_86_13, pf_86_13, gf_86_14, pf_86_14, gf_86_15, ar_58, al_58, gf_86_16, ar_59, al_59, gf_86_17, ar_60, al_60, gf_86_18, ar_61, al_61, gf_86_19, ar_62, al_62, gf_86_20, pf_86_20, gf_86_21, pf_86_21, gf_86_22, ar_63, al_63, gf_86_23, ar_64, al_64, gf_86_24, ar_65, al_65, gf_86_25, ar_66, al_66, gf_86_26, ar_67, al_67, gf_86_27, ar_68, al_68, gf_86_28, ar_69, al_69, gf_86_29, ar_70, al_70, gf_86_30, ar_71, al_71, gf_86_31, ar_72, al_72, gf_86_32, ar_73, al_73, gf_86_33, ar_74, al_74, gf_86_34, pf_86_34, e, e2]
    (repeat' (first | with_reducible apply And.intro | with_reducible intro _)) <;> first | omega | exact K
  | succ m ih =>
    intro n h n0 n1 hf I
    have e := I (n - 1) (by omega) (by omega)
    have s := hc.2.2.2 (n - 1) (by omega) (by omega)
    rw [show n - 1 + 1 = n by omega] at s
    have cg := ch_g hb hc (n - 1) (by omega) (by omega)
    have cg1 := ch_g hb hc n (by omega) (by omega)
    have em : sg_of h = S := by rw [← hm0]; exact mx_sg (mx_fn (fun c _ _ c3 => hf c c3))
    have e68 := hf 68 (by omega)
    have K0 := ih (n + 1) (am_up h 70 n (c n)) (by omega) (by omega) (fun c' hc' => by rw [am_up_ne hc', hf c' hc']) (fun j j1 j2 => by
      simp only [eq_self, and_self, am_up_at, am_up_ne, ne_eq, Nat.reduceEqDiff, Int.reduceEq, Int.reduceNeg, not_false_eq_true, false_and, and_false, true_and, and_true, ↓reduceIte, if_false, if_true, Int.reduceAdd, Int.reduceMul, Nat.reduceAdd]
      split
      · rename_i z; rw [z]
      · exact I j j1 (by omega))
    have K1 : am_Ex 136 81 [some (.inr (.inr (some 86))), some (.inl a), some (.inl t), some (.inl b), some (.inl i), some (.inl w), some (.inl n), some (.inl (c (n - 1))), some (.inl (c n))] [] h Q := by
      simp only [eq_self, and_self, am_up_at, Int.cast_ofNat_Int, Int.reduceNatCast, true_or, or_true, or_false, false_or, Classical.not_not, false_and, and_false, am_bk, am_step, am_ldI, am_ldL, am_ldA, am_nth, am_sto, am_stw_0, am_stw_i, am_stw_n, am_stw_a, am_stw_l, am_br, am_cmp, am_tk, am_cat, am_sw, am_copy, am_R, am_nc0, am_nc1, am_f0, am_f1, am_f2, am_f3, Int.reduceNeg, Int.reduceEq, Int.reduceLE, Int.reduceLT, Nat.reduceLeDiff, Nat.reduceAdd, Nat.reduceEqDiff, true_and, and_true, ↓reduceIte, if_false, if_true, forall_const, not_true_eq_false, not_false_eq_true, false_implies, true_implies, implies_true, Int.reduceAdd, Int.reduceMul, Int.reduceSub, ne_eq, ca_136_86, bl_136_81, gf_86_0, pf_86_0, gf_86_1, ar_50, al_50, gf_86_2, pf_86_2, gf_86_3, pf_86_3, gf_86_4, pf_86_4, gf_86_5, pf_86_5, gf_86_6, ar_51, al_51, gf_86_7, ar_52, al_52, gf_86_8, ar_53, al_53, gf_86_9, ar_54, al_54, gf_86_10, ar_55, al_55, gf_86_11, ar_56, al_56, gf_86_12, ar_57, al_57, gf_86_13, pf_86_13, gf_86_14, pf_86_14, gf_86_15, ar_58, al_58, gf_86_16, ar_59, al_59, gf_86_17, ar_60, al_60, gf_86_18, ar_61, al_61, gf_86_19, ar_62, al_62, gf_86_20, pf_86_20, gf_86_21, pf_86_21, gf_86_22, ar_63, al_63, gf_86_23, ar_64, al_64, gf_86_24, ar_65, al_65, gf_86_25, ar_66, al_66, gf_86_26, ar_67, al_67, gf_86_27, ar_68, al_68, gf_86_28, ar_69, al_69, gf_86_29, ar_70, al_70, gf_86_30, ar_71, al_71, gf_86_31, ar_72, al_72, gf_86_32, ar_73, al_73, gf_86_33, ar_74, al_74, gf_86_34, pf_86_34]
      (repeat' (first | with_reducible apply And.intro | with_reducible intro _)) <;> first | omega | exact am_forget K0 (by simp [am_lq])
    have K := lp_stA (i := i) (w := w) (n := n) (b := b) em hS hF cg ht (by rw [e68]; exact ar) s.2 K1 (c n).toNat 0 (by omega) (by omega)
    rw [bl_136_40]
    simp only [eq_self, and_self, am_up_at, Int.cast_ofNat_Int, Int.reduceNatCast, true_or, or_true, or_false, false_or, Classical.not_not, false_and, and_false, am_bk, am_step, am_ldI, am_ldL, am_ldA, am_nth, am_sto, am_stw_0, am_stw_i, am_stw_n, am_stw_a, am_stw_l, am_br, am_cmp, am_tk, am_cat, am_sw, am_copy, am_R, am_nc0, am_nc1, am_f0, am_f1, am_f2, am_f3, Int.reduceNeg, Int.reduceEq, Int.reduceLE, Int.reduceLT, Nat.reduceLeDiff, Nat.reduceAdd, Nat.reduceEqDiff, true_and, and_true, ↓reduceIte, if_false, if_true, forall_const, not_true_eq_false, not_false_eq_true, false_implies, true_implies, implies_true, Int.reduceAdd, Int.reduceMul, Int.reduceSub, ne_eq, ca_136_86, bl_136_48, gf_86_0, pf_86_0, gf_86_1, ar_50, al_50, gf_86_2, pf_86_2, gf_86_3, pf_86_3, gf_86_4, pf_86_4, gf_86_5, pf_86_5, gf_86_6, ar_51, al_51, gf_86_7, ar_52, al_52, gf_86_8, ar_53, al_53, gf_86_9, ar_54, al_54, gf_86_10, ar_55, al_55, gf_86_11, ar_56, al_56, gf_86_12, ar_57, al_57, gf_86_13, pf_86_13, gf_86_14, pf_86_14, gf_86_15, ar_58, al_58, gf_86_16, ar_59, al_59, gf_86_17, ar_60, al_60, gf_86_18, ar_61, al_61, gf_86_19, ar_62, al_62, gf_86_20, pf_86_20, gf_86_21, pf_86_21, gf_86_22, ar_63, al_63, gf_86_23, ar_64, al_64, gf_86_24, ar_65, al_65, gf_86_25, ar_66, al_66, gf_86_26, ar_67, al_67, gf_86_27, ar_68, al_68, gf_86_28, ar_69, al_69, gf_86_29, ar_70, al_70, gf_86_30, ar_71, al_71, gf_86_31, ar_72, al_72, gf_86_32, ar_73, al_73, gf_86_33, ar_74, al_74, gf_86_34, pf_86_34, e]
    (repeat' (first | with_reducible apply And.intro | with_reducible intro _)) <;> first | omega | exact absurd (by assumption) s.1 | exact K
theorem ch_one {S : sg_S} {a t b L M : Int} {c d : Int → Int} (h1 : ch S a t b c L) (h2 : ch S a t b d M) : L = M ∧ ∀ j, 0 ≤ j → j ≤ L → c j = d j := by
  have eq : ∀ n : Nat, (n : Int) ≤ L → (n : Int) ≤ M → c n = d n := by
    intro n
    induction n with
    | zero => intro _ _; rw [show ((0 : Nat) : Int) = 0 by omega, h1.2.1, h2.2.1]
    | succ n ih =>
      intro l m
      have e := ih (by omega) (by omega)
      have a1 := (h1.2.2.2 n (by omega) (by omega)).2
      have a2 := (h2.2.2.2 n (by omega) (by omega)).2
      rw [e] at a1
      have := pf_one a1 a2
      rw [show ((n + 1 : Nat) : Int) = (n : Int) + 1 by omega]
      exact this
  have l0 := h1.1
  have m0 := h2.1
  have eL : L = M := by
    rcases Int.lt_trichotomy L M with z | z | z
    · have e := eq L.toNat (by omega) (by omega)
      rw [show (L.toNat : Int) = L by omega, h1.2.2.1] at e
      exact absurd e.symm (h2.2.2.2 L l0 z).1
    · exact z
    · have e := eq M.toNat (by omega) (by omega)
      rw [show (M.toNat : Int) = M by omega, h2.2.2.1] at e
      exact absurd e (h1.2.2.2 M m0 z).1
  refine ⟨eL, fun j j1 j2 => ?_⟩
  have := eq j.toNat (by omega) (by omega)
  rw [show (j.toNat : Int) = j by omega] at this
  exact this
set_option maxHeartbeats 400000 in
set_option maxRecDepth 100000 in
theorem pr_step {h : am_H} {k x y z i w : Int} (hx : am_R x) (hy : am_R y) (hz : am_R z) (hii : am_R i) (hw : am_R w) (hi : iv h k) (hk : k ≤ 600) : rg_pair 73 136 [.inl x, .inl y, .inl z, .inl i, .inl w] h k := by
  unfold rg_pair
  have hthr := iv_thr hi
  have hS := hi.1
  have hF := tb_fit_of hi
  have e1 := hS.2.1
  have c2 := hi.2.1.2.1
  have eG : sg_G (sg_of h) = h 86 5 := rfl
  obtain ⟨w1, w2⟩ := id hw
  obtain ⟨i1, i2⟩ := id hii
  refine gx_step hx hy hz hii hw (by omega) (fun V => ?_) (fun V => ?_)
  · exact gm_step hx hy hz hii hw (by omega) (fun _ => rg_leaf rfl (by omega) hthr) (fun V' => absurd V' (by omega))
  by_cases cw : w < 0 ∨ 1 < w
  · have K : am_Call 136 [.inr (.inr (some 86)), .inl x, .inl y, .inl z, .inl i, .inl w] h (rg_post k (some (.inl (-2)))) := by
      refine gm_step hx hy hz hii hw (by omega) (fun V' => absurd V (by omega)) (fun V' => ?_)
      have K := rg_leaf (k := k) (A := -2) (B := -2) rfl (by omega) hthr
      simp (disch := omega) only [eq_self, and_self, am_up_at, Int.cast_ofNat_Int, Int.reduceNatCast, true_or, or_true, or_false, false_or, Classical.not_not, false_and, and_false, am_bk, am_step, am_ldI, am_ldL, am_ldA, am_nth, am_sto, am_stw_0, am_stw_i, am_stw_n, am_stw_a, am_stw_l, am_br, am_cmp, am_tk, am_cat, am_sw, am_copy, am_R, am_nc0, am_nc1, am_f0, am_f1, am_f2, am_f3, Int.reduceNeg, Int.reduceEq, Int.reduceLE, Int.reduceLT, Nat.reduceLeDiff, Nat.reduceAdd, Nat.reduceEqDiff, true_and, and_true, ↓reduceIte, if_false, if_true, forall_const, not_true_eq_false, not_false_eq_true, false_implies, true_implies, implies_true, Int.reduceAdd, Int.reduceMul, Int.reduceSub, ne_eq, ca_136_86, bl_136_16, bl_136_21, gf_86_0, pf_86_0, gf_86_1, ar_50, al_50, gf_86_2, pf_86_2, gf_86_3, pf_86_3, gf_86_4, pf_86_4, gf_86_5, pf_86_5, gf_86_6, ar_51, al_51, gf_86_7, ar_52, al_52, gf_86_8, ar_53, al_53, gf_86_9, ar_54, al_54, gf_86_10, ar_55, al_55, gf_86_11, ar_56, al_56, gf_86_12, ar_57, al_57, gf_86_13, pf_86_13, gf_86_14, pf_86_14, gf_86_15, ar_58, al_58, gf_86_16, ar_59, al_59, gf_86_17, ar_60, al_60, gf_86_18, ar_61, al_61, gf_86_19, ar_62, al_62, gf_86_20, pf_86_20, gf_86_21, pf_86_21, gf_86_22, ar_63, al_63, gf_86_23, ar_64, al_64, gf_86_24, ar_65, al_65, gf_86_25, ar_66, al_66, gf_86_26, ar_67, al_67, gf_86_27, ar_68, al_68, gf_86_28, ar_69, al_69, gf_86_29, ar_70, al_70, gf_86_30, ar_71, al_71, gf_86_31, ar_72, al_72, gf_86_32, ar_73, al_73, gf_86_33, ar_74, al_74, gf_86_34, pf_86_34, eq_in, am_i2l_of]
      (repeat' (first | with_reducible apply And.intro | with_reducible intro _)) <;> first | omega | exact K
    simp only [eq_self, and_self, am_up_at, Int.cast_ofNat_Int, Int.reduceNatCast, true_or, or_true, or_false, false_or, Classical.not_not, false_and, and_false, am_bk, am_step, am_ldI, am_ldL, am_ldA, am_nth, am_sto, am_stw_0, am_stw_i, am_stw_n, am_stw_a, am_stw_l, am_br, am_cmp, am_tk, am_cat, am_sw, am_copy, am_R, am_nc0, am_nc1, am_f0, am_f1, am_f2, am_f3, Int.reduceNeg, Int.reduceEq, Int.reduceLE, Int.reduceLT, Nat.reduceLeDiff, Nat.reduceAdd, Nat.reduceEqDiff, true_and, and_true, ↓reduceIte, if_false, if_true, forall_const, not_true_eq_false, not_false_eq_true, false_implies, true_implies, implies_true, Int.reduceAdd, Int.reduceMul, Int.reduceSub, ne_eq, ca_73_75, bl_73_10, bl_73_15, gf_75_0, ar_0, al_0, gf_75_1, pf_75_1, gf_75_2, gf_75_3, gf_75_4, gf_75_5, gf_75_6, gf_75_7, gf_75_8, gf_75_9, gf_75_10]
    (repeat' (first | with_reducible apply And.intro | with_reducible intro _)) <;> first | omega | exact K
  have X0 : am_Ex 73 17 [some (.inr (.inr (some 75))), some (.inl x), some (.inl y), some (.inl z), some (.inl i), some (.inl w), none] [] h (fun o h1 => am_Call 136 [.inr (.inr (some 86)), .inl x, .inl y, .inl z, .inl i, .inl w] h1 (rg_post k o)) := by
    simp only [eq_self, and_self, am_up_at, Int.cast_ofNat_Int, Int.reduceNatCast, true_or, or_true, or_false, false_or, Classical.not_not, false_and, and_false, am_bk, am_step, am_ldI, am_ldL, am_ldA, am_nth, am_sto, am_stw_0, am_stw_i, am_stw_n, am_stw_a, am_stw_l, am_br, am_cmp, am_tk, am_cat, am_sw, am_copy, am_R, am_nc0, am_nc1, am_f0, am_f1, am_f2, am_f3, Int.reduceNeg, Int.reduceEq, Int.reduceLE, Int.reduceLT, Nat.reduceLeDiff, Nat.reduceAdd, Nat.reduceEqDiff, true_and, and_true, ↓reduceIte, if_false, if_true, forall_const, not_true_eq_false, not_false_eq_true, false_implies, true_implies, implies_true, Int.reduceAdd, Int.reduceMul, Int.reduceSub, ne_eq, ca_73_75, bl_73_17, gf_75_0, ar_0, al_0, gf_75_1, pf_75_1, gf_75_2, gf_75_3, gf_75_4, gf_75_5, gf_75_6, gf_75_7, gf_75_8, gf_75_9, gf_75_10]
    refine sp_lay0 hi hk (fun h1 y1 l10 l9 lc => ?_)
    have hg : 0 ≤ x ∧ x < sg_G (sg_of h) := by omega
    have hg2 : 0 ≤ z ∧ z < sg_G (sg_of h) := by omega
    simp only [eq_self, and_self, am_up_at, Int.cast_ofNat_Int, Int.reduceNatCast, true_or, or_true, or_false, false_or, Classical.not_not, false_and, and_false, am_bk, am_step, am_ldI, am_ldL, am_ldA, am_nth, am_sto, am_stw_0, am_stw_i, am_stw_n, am_stw_a, am_stw_l, am_br, am_cmp, am_tk, am_cat, am_sw, am_copy, am_R, am_nc0, am_nc1, am_f0, am_f1, am_f2, am_f3, Int.reduceNeg, Int.reduceEq, Int.reduceLE, Int.reduceLT, Nat.reduceLeDiff, Nat.reduceAdd, Nat.reduceEqDiff, true_and, and_true, ↓reduceIte, if_false, if_true, forall_const, not_true_eq_false, not_false_eq_true, false_implies, true_implies, implies_true, Int.reduceAdd, Int.reduceMul, Int.reduceSub, ne_eq, ca_73_75, bl_73_22, gf_75_0, ar_0, al_0, gf_75_1, pf_75_1, gf_75_2, gf_75_3, gf_75_4, gf_75_5, gf_75_6, gf_75_7, gf_75_8, gf_75_9, gf_75_10]
    refine sp_spread y1 hg (by omega) (fun h2 y2 f2 ar => ?_)
    have mod : ∀ (r : Int) (h3 : am_H), ty_ok h3 (sg_of h) → (∀ c, c ≠ 42 → h3 c = h2 c) → ((h2 43 z = 1000000 ∧ r = -9) ∨ (h2 43 z < 1000000 ∧ ∃ c L, ch (sg_of h) x y z c L ∧ L ≤ 7 ∧ ((¬ (0 ≤ i ∧ i ≤ L) ∧ r = -9) ∨ ((0 ≤ i ∧ i ≤ L) ∧ r = if w = 0 then c (L - i) else h2 43 (c (L - i)))))) → am_Call 136 [.inr (.inr (some 86)), .inl x, .inl y, .inl z, .inl i, .inl w] h3 (rg_post k (some (.inl r))) := by
      intro r h3 y3 f3 hr
      have X : xd h h3 k := xd_of hi y3 (by rw [f3 83 (by omega), f2 83 (by omega) (by omega)]; omega) (by rw [f3 83 (by omega), f2 83 (by omega) (by omega)]; exact l9) (cx_x (fun c c1 c2 c3 c4 _ _ _ _ => (f3 c c3).trans ((f2 c c3 c4).trans (lc c c1 c2))))
      have f86 := X.1 86 (by omega)
      have em : sg_of (am_up h3 86 0 0) = sg_of h := (mx_sg (mx_thr h3)).trans (cx_sg X.1)
      refine gm_step hx hy hz hii hw (by rw [f86]; omega) (fun V' => absurd V (by rw [f86] at V'; omega)) (fun V' => ?_)
      have J : am_Ex 136 24 [some (.inr (.inr (some 86))), some (.inl x), some (.inl y), some (.inl z), some (.inl i), some (.inl w), none, none, none] [] (am_up h3 86 0 0) (rg_post k (some (.inl r))) := by
        simp only [eq_self, and_self, am_up_at, Int.cast_ofNat_Int, Int.reduceNatCast, true_or, or_true, or_false, false_or, Classical.not_not, false_and, and_false, am_bk, am_step, am_ldI, am_ldL, am_ldA, am_nth, am_sto, am_stw_0, am_stw_i, am_stw_n, am_stw_a, am_stw_l, am_br, am_cmp, am_tk, am_cat, am_sw, am_copy, am_R, am_nc0, am_nc1, am_f0, am_f1, am_f2, am_f3, Int.reduceNeg, Int.reduceEq, Int.reduceLE, Int.reduceLT, Nat.reduceLeDiff, Nat.reduceAdd, Nat.reduceEqDiff, true_and, and_true, ↓reduceIte, if_false, if_true, forall_const, not_true_eq_false, not_false_eq_true, false_implies, true_implies, implies_true, Int.reduceAdd, Int.reduceMul, Int.reduceSub, ne_eq, ca_136_86, bl_136_24, gf_86_0, pf_86_0, gf_86_1, ar_50, al_50, gf_86_2, pf_86_2, gf_86_3, pf_86_3, gf_86_4, pf_86_4, gf_86_5, pf_86_5, gf_86_6, ar_51, al_51, gf_86_7, ar_52, al_52, gf_86_8, ar_53, al_53, gf_86_9, ar_54, al_54, gf_86_10, ar_55, al_55, gf_86_11, ar_56, al_56, gf_86_12, ar_57, al_57, gf_86_13, pf_86_13, gf_86_14, pf_86_14, gf_86_15, ar_58, al_58, gf_86_16, ar_59, al_59, gf_86_17, ar_60, al_60, gf_86_18, ar_61, al_61, gf_86_19, ar_62, al_62, gf_86_20, pf_86_20, gf_86_21, pf_86_21, gf_86_22, ar_63, al_63, gf_86_23, ar_64, al_64, gf_86_24, ar_65, al_65, gf_86_25, ar_66, al_66, gf_86_26, ar_67, al_67, gf_86_27, ar_68, al_68, gf_86_28, ar_69, al_69, gf_86_29, ar_70, al_70, gf_86_30, ar_71, al_71, gf_86_31, ar_72, al_72, gf_86_32, ar_73, al_73, gf_86_33, ar_74, al_74, gf_86_34, pf_86_34]
        refine sp_Msoon em hS hF hg hg2 (by omega) (fun h4 f4 am => ?_)
        have t2 := ar_two (ar z hg2.1 hg2.2) (am z hg2.1 hg2.2)
        have fin4 := ed hi X (mx_t (mx_thr h3) (mx_fr f4))
        have em4 : sg_of h4 = sg_of h := (fr_m_sg f4).trans em
        rcases hr with ⟨r1, r2⟩ | ⟨r1, c, L, hc, hL, hr⟩
        · have K := rg_leaf (k := k) (A := r) (B := -9) (by omega) (by omega) fin4
          have e : h4 68 z = 99999 := by omega
          simp only [eq_self, and_self, am_up_at, Int.cast_ofNat_Int, Int.reduceNatCast, true_or, or_true, or_false, false_or, Classical.not_not, false_and, and_false, am_bk, am_step, am_ldI, am_ldL, am_ldA, am_nth, am_sto, am_stw_0, am_stw_i, am_stw_n, am_stw_a, am_stw_l, am_br, am_cmp, am_tk, am_cat, am_sw, am_copy, am_R, am_nc0, am_nc1, am_f0, am_f1, am_f2, am_f3, Int.reduceNeg, Int.reduceEq, Int.reduceLE, Int.reduceLT, Nat.reduceLeDiff, Nat.reduceAdd, Nat.reduceEqDiff, true_and, and_true, ↓reduceIte, if_false, if_true, forall_const, not_true_eq_false, not_false_eq_true, false_implies, true_implies, implies_true, Int.reduceAdd, Int.reduceMul, Int.reduceSub, ne_eq, ca_136_86, bl_136_29, gf_86_0, pf_86_0, gf_86_1, ar_50, al_50, gf_86_2, pf_86_2, gf_86_3, pf_86_3, gf_86_4, pf_86_4, gf_86_5, pf_86_5, gf_86_6, ar_51, al_51, gf_86_7, ar_52, al_52, gf_86_8, ar_53, al_53, gf_86_9, ar_54, al_54, gf_86_10, ar_55, al_55, gf_86_11, ar_56, al_56, gf_86_12, ar_57, al_57, gf_86_13, pf_86_13, gf_86_14, pf_86_14, gf_86_15, ar_58, al_58, gf_86_16, ar_59, al_59, gf_86_17, ar_60, al_60, gf_86_18, ar_61, al_61, gf_86_19, ar_62, al_62, gf_86_20, pf_86_20, gf_86_21, pf_86_21, gf_86_22, ar_63, al_63, gf_86_23, ar_64, al_64, gf_86_24, ar_65, al_65, gf_86_25, ar_66, al_66, gf_86_26, ar_67, al_67, gf_86_27, ar_68, al_68, gf_86_28, ar_69, al_69, gf_86_29, ar_70, al_70, gf_86_30, ar_71, al_71, gf_86_31, ar_72, al_72, gf_86_32, ar_73, al_73, gf_86_33, ar_74, al_74, gf_86_34, pf_86_34, e]
          (repeat' (first | with_reducible apply And.intro | with_reducible intro _)) <;> first | omega | exact K
        · have e : h4 68 z ≠ 99999 ∧ 0 ≤ h4 68 z ∧ h4 68 z ≤ 99999 := by omega
          have c0 := hc.1
          have K := lp_stB (S := sg_of h) (a := x) (t := y) (b := z) (i := i) (w := w) (h0 := am_up h4 70 0 z) (Q := rg_post k (some (.inl r))) (by rw [← em4]; exact mx_sg (mx_up (by omega))) hS hF hg hg2 (by omega) (by rw [am_up_ne (show (68 : Nat) ≠ 70 by omega)]; exact am) hc hL (fun h5 f5 I => by
            have f68 : h5 68 = h4 68 := (f5 68 (by omega)).trans (am_up_ne (by omega))
            have fin5 : iv h5 (k + 1) := ed hi X (mx_t (mx_t (mx_thr h3) (mx_fr f4)) (mx_t (mx_up (c := 70) (i := 0) (v := z) (by omega)) (mx_fn (fun c _ _ c3 => f5 c c3))))
            simp (disch := omega) only [eq_self, and_self, am_up_at, Int.cast_ofNat_Int, Int.reduceNatCast, true_or, or_true, or_false, false_or, Classical.not_not, false_and, and_false, am_bk, am_step, am_ldI, am_ldL, am_ldA, am_nth, am_sto, am_stw_0, am_stw_i, am_stw_n, am_stw_a, am_stw_l, am_br, am_cmp, am_tk, am_cat, am_sw, am_copy, am_R, am_nc0, am_nc1, am_f0, am_f1, am_f2, am_f3, Int.reduceNeg, Int.reduceEq, Int.reduceLE, Int.reduceLT, Nat.reduceLeDiff, Nat.reduceAdd, Nat.reduceEqDiff, true_and, and_true, ↓reduceIte, if_false, if_true, forall_const, not_true_eq_false, not_false_eq_true, false_implies, true_implies, implies_true, Int.reduceAdd, Int.reduceMul, Int.reduceSub, ne_eq, ca_136_86, bl_136_88, gf_86_0, pf_86_0, gf_86_1, ar_50, al_50, gf_86_2, pf_86_2, gf_86_3, pf_86_3, gf_86_4, pf_86_4, gf_86_5, pf_86_5, gf_86_6, ar_51, al_51, gf_86_7, ar_52, al_52, gf_86_8, ar_53, al_53, gf_86_9, ar_54, al_54, gf_86_10, ar_55, al_55, gf_86_11, ar_56, al_56, gf_86_12, ar_57, al_57, gf_86_13, pf_86_13, gf_86_14, pf_86_14, gf_86_15, ar_58, al_58, gf_86_16, ar_59, al_59, gf_86_17, ar_60, al_60, gf_86_18, ar_61, al_61, gf_86_19, ar_62, al_62, gf_86_20, pf_86_20, gf_86_21, pf_86_21, gf_86_22, ar_63, al_63, gf_86_23, ar_64, al_64, gf_86_24, ar_65, al_65, gf_86_25, ar_66, al_66, gf_86_26, ar_67, al_67, gf_86_27, ar_68, al_68, gf_86_28, ar_69, al_69, gf_86_29, ar_70, al_70, gf_86_30, ar_71, al_71, gf_86_31, ar_72, al_72, gf_86_32, ar_73, al_73, gf_86_33, ar_74, al_74, gf_86_34, pf_86_34, eq_in, am_i2l_of]
            rcases hr with ⟨q1, q2⟩ | ⟨q1, q2⟩
            · have K := rg_leaf (k := k) (A := r) (B := -9) (by omega) (by omega) fin5
              simp only [eq_self, and_self, am_up_at, Int.cast_ofNat_Int, Int.reduceNatCast, true_or, or_true, or_false, false_or, Classical.not_not, false_and, and_false, am_bk, am_step, am_ldI, am_ldL, am_ldA, am_nth, am_sto, am_stw_0, am_stw_i, am_stw_n, am_stw_a, am_stw_l, am_br, am_cmp, am_tk, am_cat, am_sw, am_copy, am_R, am_nc0, am_nc1, am_f0, am_f1, am_f2, am_f3, Int.reduceNeg, Int.reduceEq, Int.reduceLE, Int.reduceLT, Nat.reduceLeDiff, Nat.reduceAdd, Nat.reduceEqDiff, true_and, and_true, ↓reduceIte, if_false, if_true, forall_const, not_true_eq_false, not_false_eq_true, false_implies, true_implies, implies_true, Int.reduceAdd, Int.reduceMul, Int.reduceSub, ne_eq, ca_136_86, bl_136_96, gf_86_0, pf_86_0, gf_86_1, ar_50, al_50, gf_86_2, pf_86_2, gf_86_3, pf_86_3, gf_86_4, pf_86_4, gf_86_5, pf_86_5, gf_86_6, ar_51, al_51, gf_86_7, ar_52, al_52, gf_86_8, ar_53, al_53, gf_86_9, ar_54, al_54, gf_86_10, ar_55, al_55, gf_86_11, ar_56, al_56, gf_86_12, ar_57, al_57, gf_86_13, pf_86_13, gf_86_14, pf_86_14, gf_86_15, ar_58, al_58, gf_86_16, ar_59, al_59, gf_86_17, ar_60, al_60, gf_86_18, ar_61, al_61, gf_86_19, ar_62, al_62, gf_86_20, pf_86_20, gf_86_21, pf_86_21, gf_86_22, ar_63, al_63, gf_86_23, ar_64, al_64, gf_86_24, ar_65, al_65, gf_86_25, ar_66, al_66, gf_86_26, ar_67, al_67, gf_86_27, ar_68, al_68, gf_86_28, ar_69, al_69, gf_86_29, ar_70, al_70, gf_86_30, ar_71, al_71, gf_86_31, ar_72, al_72, gf_86_32, ar_73, al_73, gf_86_33, ar_74, al_74, gf_86_34, pf_86_34]
              (repeat' (first | with_reducible apply And.intro | with_reducible intro _)) <;> first | omega | exact K
            · have eI := I (L - i) (by omega) (by omega)
              have cg := ch_g hg2 hc (L - i) (by omega) (by omega)
              have ac := ar (c (L - i)) cg.1 cg.2
              have mc := am (c (L - i)) cg.1 cg.2
              have t3 := ar_two ac mc
              have r3 := ar_r (by omega) (by omega) mc
              simp only [eq_self, and_self, am_up_at, Int.cast_ofNat_Int, Int.reduceNatCast, true_or, or_true, or_false, false_or, Classical.not_not, false_and, and_false, am_bk, am_step, am_ldI, am_ldL, am_ldA, am_nth, am_sto, am_stw_0, am_stw_i, am_stw_n, am_stw_a, am_stw_l, am_br, am_cmp, am_tk, am_cat, am_sw, am_copy, am_R, am_nc0, am_nc1, am_f0, am_f1, am_f2, am_f3, Int.reduceNeg, Int.reduceEq, Int.reduceLE, Int.reduceLT, Nat.reduceLeDiff, Nat.reduceAdd, Nat.reduceEqDiff, true_and, and_true, ↓reduceIte, if_false, if_true, forall_const, not_true_eq_false, not_false_eq_true, false_implies, true_implies, implies_true, Int.reduceAdd, Int.reduceMul, Int.reduceSub, ne_eq, ca_136_86, bl_136_96, bl_136_99, bl_136_111, bl_136_112, bl_136_116, gf_86_0, pf_86_0, gf_86_1, ar_50, al_50, gf_86_2, pf_86_2, gf_86_3, pf_86_3, gf_86_4, pf_86_4, gf_86_5, pf_86_5, gf_86_6, ar_51, al_51, gf_86_7, ar_52, al_52, gf_86_8, ar_53, al_53, gf_86_9, ar_54, al_54, gf_86_10, ar_55, al_55, gf_86_11, ar_56, al_56, gf_86_12, ar_57, al_57, gf_86_13, pf_86_13, gf_86_14, pf_86_14, gf_86_15, ar_58, al_58, gf_86_16, ar_59, al_59, gf_86_17, ar_60, al_60, gf_86_18, ar_61, al_61, gf_86_19, ar_62, al_62, gf_86_20, pf_86_20, gf_86_21, pf_86_21, gf_86_22, ar_63, al_63, gf_86_23, ar_64, al_64, gf_86_24, ar_65, al_65, gf_86_25, ar_66, al_66, gf_86_26, ar_67, al_67, gf_86_27, ar_68, al_68, gf_86_28, ar_69, al_69, gf_86_29, ar_70, al_70, gf_86_30, ar_71, al_71, gf_86_31, ar_72, al_72, gf_86_32, ar_73, al_73, gf_86_33, ar_74, al_74, gf_86_34, pf_86_34, f68, show L + 1 - 1 - i = L - i by omega, eI]
              have nn : h2 43 (c (L - i)) < 1000000 := by
                by_cases e0 : L - i = L
                · rw [e0, hc.2.2.1]
                  have ax := ar x hg.1 hg.2
                  rcases ax with q | q
                  · omega
                  · exact absurd ⟨0, rfl, rfl⟩ (q.2 y)
                · by_cases e00 : L - i = 0
                  · rw [e00, hc.2.1]; exact r1
                  · have p := (hc.2.2.2 (L - i - 1) (by omega) (by omega)).2.2.1
                    rw [show L - i - 1 + 1 = L - i by omega] at p
                    obtain ⟨_, v, w', v1, _, _⟩ := p
                    rcases ac with q | q
                    · omega
                    · exact absurd v1.2.1 (q.2 v)
              have K1 : w = 0 → rg_post k (some (.inl r)) (some (.inl (c (L - i)))) h5 := fun q => rg_leaf (by rw [if_pos q] at q2; omega) (by rw [if_pos q] at q2; omega) fin5
              have K2 : ¬ w = 0 → rg_post k (some (.inl r)) (some (.inl (h4 68 (c (L - i))))) h5 := fun q => rg_leaf (by rw [if_neg q] at q2; omega) (by rw [if_neg q] at q2; omega) fin5
              (repeat' (first | with_reducible apply And.intro | with_reducible intro _)) <;> first | omega | exact K1 (by assumption) | exact K2 (by assumption)) L.toNat 1 (am_up h4 70 0 z) (by omega) (by omega) (fun _ _ => rfl) (fun j j1 j2 => by
            rw [show j = 0 by omega, hc.2.1]
            simp only [eq_self, and_self, am_up_at, am_up_ne, ne_eq, Nat.reduceEqDiff, Int.reduceEq, Int.reduceNeg, not_false_eq_true, false_and, and_false, true_and, and_true, ↓reduceIte, if_false, if_true, Int.reduceAdd, Int.reduceMul, Nat.reduceAdd])
          simp only [eq_self, and_self, am_up_at, Int.cast_ofNat_Int, Int.reduceNatCast, true_or, or_true, or_false, false_or, Classical.not_not, false_and, and_false, am_bk, am_step, am_ldI, am_ldL, am_ldA, am_nth, am_sto, am_stw_0, am_stw_i, am_stw_n, am_stw_a, am_stw_l, am_br, am_cmp, am_tk, am_cat, am_sw, am_copy, am_R, am_nc0, am_nc1, am_f0, am_f1, am_f2, am_f3, Int.reduceNeg, Int.reduceEq, Int.reduceLE, Int.reduceLT, Nat.reduceLeDiff, Nat.reduceAdd, Nat.reduceEqDiff, true_and, and_true, ↓reduceIte, if_false, if_true, forall_const, not_true_eq_false, not_false_eq_true, false_implies, true_implies, implies_true, Int.reduceAdd, Int.reduceMul, Int.reduceSub, ne_eq, ca_136_86, bl_136_29, bl_136_33, gf_86_0, pf_86_0, gf_86_1, ar_50, al_50, gf_86_2, pf_86_2, gf_86_3, pf_86_3, gf_86_4, pf_86_4, gf_86_5, pf_86_5, gf_86_6, ar_51, al_51, gf_86_7, ar_52, al_52, gf_86_8, ar_53, al_53, gf_86_9, ar_54, al_54, gf_86_10, ar_55, al_55, gf_86_11, ar_56, al_56, gf_86_12, ar_57, al_57, gf_86_13, pf_86_13, gf_86_14, pf_86_14, gf_86_15, ar_58, al_58, gf_86_16, ar_59, al_59, gf_86_17, ar_60, al_60, gf_86_18, ar_61, al_61, gf_86_19, ar_62, al_62, gf_86_20, pf_86_20, gf_86_21, pf_86_21, gf_86_22, ar_63, al_63, gf_86_23, ar_64, al_64, gf_86_24, ar_65, al_65, gf_86_25, ar_66, al_66, gf_86_26, ar_67, al_67, gf_86_27, ar_68, al_68, gf_86_28, ar_69, al_69, gf_86_29, ar_70, al_70, gf_86_30, ar_71, al_71, gf_86_31, ar_72, al_72, gf_86_32, ar_73, al_73, gf_86_33, ar_74, al_74, gf_86_34, pf_86_34]
          (repeat' (first | with_reducible apply And.intro | with_reducible intro _)) <;> first | omega | exact K
      simp (disch := omega) only [eq_self, and_self, am_up_at, Int.cast_ofNat_Int, Int.reduceNatCast, true_or, or_true, or_false, false_or, Classical.not_not, false_and, and_false, am_bk, am_step, am_ldI, am_ldL, am_ldA, am_nth, am_sto, am_stw_0, am_stw_i, am_stw_n, am_stw_a, am_stw_l, am_br, am_cmp, am_tk, am_cat, am_sw, am_copy, am_R, am_nc0, am_nc1, am_f0, am_f1, am_f2, am_f3, Int.reduceNeg, Int.reduceEq, Int.reduceLE, Int.reduceLT, Nat.reduceLeDiff, Nat.reduceAdd, Nat.reduceEqDiff, true_and, and_true, ↓reduceIte, if_false, if_true, forall_const, not_true_eq_false, not_false_eq_true, false_implies, true_implies, implies_true, Int.reduceAdd, Int.reduceMul, Int.reduceSub, ne_eq, ca_136_86, bl_136_16, bl_136_21, gf_86_0, pf_86_0, gf_86_1, ar_50, al_50, gf_86_2, pf_86_2, gf_86_3, pf_86_3, gf_86_4, pf_86_4, gf_86_5, pf_86_5, gf_86_6, ar_51, al_51, gf_86_7, ar_52, al_52, gf_86_8, ar_53, al_53, gf_86_9, ar_54, al_54, gf_86_10, ar_55, al_55, gf_86_11, ar_56, al_56, gf_86_12, ar_57, al_57, gf_86_13, pf_86_13, gf_86_14, pf_86_14, gf_86_15, ar_58, al_58, gf_86_16, ar_59, al_59, gf_86_17, ar_60, al_60, gf_86_18, ar_61, al_61, gf_86_19, ar_62, al_62, gf_86_20, pf_86_20, gf_86_21, pf_86_21, gf_86_22, ar_63, al_63, gf_86_23, ar_64, al_64, gf_86_24, ar_65, al_65, gf_86_25, ar_66, al_66, gf_86_26, ar_67, al_67, gf_86_27, ar_68, al_68, gf_86_28, ar_69, al_69, gf_86_29, ar_70, al_70, gf_86_30, ar_71, al_71, gf_86_31, ar_72, al_72, gf_86_32, ar_73, al_73, gf_86_33, ar_74, al_74, gf_86_34, pf_86_34, eq_in, am_i2l_of]
      (repeat' (first | with_reducible apply And.intro | with_reducible intro _)) <;> first | omega | exact J
    simp only [eq_self, and_self, am_up_at, Int.cast_ofNat_Int, Int.reduceNatCast, true_or, or_true, or_false, false_or, Classical.not_not, false_and, and_false, am_bk, am_step, am_ldI, am_ldL, am_ldA, am_nth, am_sto, am_stw_0, am_stw_i, am_stw_n, am_stw_a, am_stw_l, am_br, am_cmp, am_tk, am_cat, am_sw, am_copy, am_R, am_nc0, am_nc1, am_f0, am_f1, am_f2, am_f3, Int.reduceNeg, Int.reduceEq, Int.reduceLE, Int.reduceLT, Nat.reduceLeDiff, Nat.reduceAdd, Nat.reduceEqDiff, true_and, and_true, ↓reduceIte, if_false, if_true, forall_const, not_true_eq_false, not_false_eq_true, false_implies, true_implies, implies_true, Int.reduceAdd, Int.reduceMul, Int.reduceSub, ne_eq, ca_73_75, bl_73_27, gf_75_0, ar_0, al_0, gf_75_1, pf_75_1, gf_75_2, gf_75_3, gf_75_4, gf_75_5, gf_75_6, gf_75_7, gf_75_8, gf_75_9, gf_75_10]
    have az := ar_r (by omega) (by omega) (ar z hg2.1 hg2.2)
    refine sp_gateOfStep y2 hg hg2 (by omega) hii ar (fun q => ?_) (fun h3 c L y3 f3 q1 q2 q3 g q4 => ?_)
    · have K := mod (-9) h2 y2 (fun _ _ => rfl) (Or.inl ⟨q, rfl⟩)
      simp only [eq_self, and_self, am_up_at, Int.cast_ofNat_Int, Int.reduceNatCast, true_or, or_true, or_false, false_or, Classical.not_not, false_and, and_false, am_bk, am_step, am_ldI, am_ldL, am_ldA, am_nth, am_sto, am_stw_0, am_stw_i, am_stw_n, am_stw_a, am_stw_l, am_br, am_cmp, am_tk, am_cat, am_sw, am_copy, am_R, am_nc0, am_nc1, am_f0, am_f1, am_f2, am_f3, Int.reduceNeg, Int.reduceEq, Int.reduceLE, Int.reduceLT, Nat.reduceLeDiff, Nat.reduceAdd, Nat.reduceEqDiff, true_and, and_true, ↓reduceIte, if_false, if_true, forall_const, not_true_eq_false, not_false_eq_true, false_implies, true_implies, implies_true, Int.reduceAdd, Int.reduceMul, Int.reduceSub, ne_eq, ca_73_75, bl_73_33, gf_75_0, ar_0, al_0, gf_75_1, pf_75_1, gf_75_2, gf_75_3, gf_75_4, gf_75_5, gf_75_6, gf_75_7, gf_75_8, gf_75_9, gf_75_10]
      (repeat' (first | with_reducible apply And.intro | with_reducible intro _)) <;> first | omega | exact K
    · have e43 := f3 43 (by omega)
      rcases q4 with ⟨p1, p2⟩ | ⟨p1, p2⟩
      · have cg := ch_g hg2 q2 (L - i) (by omega) (by omega)
        have ac := ar_r (by omega) (by omega) (ar (c (L - i)) cg.1 cg.2)
        have K := fun r e => mod r h3 y3 f3 (Or.inr ⟨q1, c, L, q2, q3, Or.inr ⟨p1, e⟩⟩)
        have K1 := fun e => K (c (L - i)) (by rw [if_pos e])
        have K2 := fun e => K (h2 43 (c (L - i))) (by rw [if_neg e])
        simp only [eq_self, and_self, am_up_at, Int.cast_ofNat_Int, Int.reduceNatCast, true_or, or_true, or_false, false_or, Classical.not_not, false_and, and_false, am_bk, am_step, am_ldI, am_ldL, am_ldA, am_nth, am_sto, am_stw_0, am_stw_i, am_stw_n, am_stw_a, am_stw_l, am_br, am_cmp, am_tk, am_cat, am_sw, am_copy, am_R, am_nc0, am_nc1, am_f0, am_f1, am_f2, am_f3, Int.reduceNeg, Int.reduceEq, Int.reduceLE, Int.reduceLT, Nat.reduceLeDiff, Nat.reduceAdd, Nat.reduceEqDiff, true_and, and_true, ↓reduceIte, if_false, if_true, forall_const, not_true_eq_false, not_false_eq_true, false_implies, true_implies, implies_true, Int.reduceAdd, Int.reduceMul, Int.reduceSub, ne_eq, ca_73_75, bl_73_33, bl_73_38, bl_73_42, bl_73_47, gf_75_0, ar_0, al_0, gf_75_1, pf_75_1, gf_75_2, gf_75_3, gf_75_4, gf_75_5, gf_75_6, gf_75_7, gf_75_8, gf_75_9, gf_75_10, gf_84_0, gf_84_1, gf_84_2, ar_43, al_43, gf_84_3, ar_44, al_44, gf_84_4, ar_45, al_45, gf_84_5, ar_46, al_46, gf_84_6, pf_84_6, p2, e43]
        (repeat' (first | with_reducible apply And.intro | with_reducible intro _)) <;> first | omega | exact K1 (by assumption) | exact K2 (by assumption)
      · have K := mod (-9) h3 y3 f3 (Or.inr ⟨q1, c, L, q2, q3, Or.inl ⟨p1, rfl⟩⟩)
        simp only [eq_self, and_self, am_up_at, Int.cast_ofNat_Int, Int.reduceNatCast, true_or, or_true, or_false, false_or, Classical.not_not, false_and, and_false, am_bk, am_step, am_ldI, am_ldL, am_ldA, am_nth, am_sto, am_stw_0, am_stw_i, am_stw_n, am_stw_a, am_stw_l, am_br, am_cmp, am_tk, am_cat, am_sw, am_copy, am_R, am_nc0, am_nc1, am_f0, am_f1, am_f2, am_f3, Int.reduceNeg, Int.reduceEq, Int.reduceLE, Int.reduceLT, Nat.reduceLeDiff, Nat.reduceAdd, Nat.reduceEqDiff, true_and, and_true, ↓reduceIte, if_false, if_true, forall_const, not_true_eq_false, not_false_eq_true, false_implies, true_implies, implies_true, Int.reduceAdd, Int.reduceMul, Int.reduceSub, ne_eq, ca_73_75, bl_73_33, gf_75_0, ar_0, al_0, gf_75_1, pf_75_1, gf_75_2, gf_75_3, gf_75_4, gf_75_5, gf_75_6, gf_75_7, gf_75_8, gf_75_9, gf_75_10, p2]
        (repeat' (first | with_reducible apply And.intro | with_reducible intro _)) <;> first | omega | exact K
  simp only [eq_self, and_self, am_up_at, Int.cast_ofNat_Int, Int.reduceNatCast, true_or, or_true, or_false, false_or, Classical.not_not, false_and, and_false, am_bk, am_step, am_ldI, am_ldL, am_ldA, am_nth, am_sto, am_stw_0, am_stw_i, am_stw_n, am_stw_a, am_stw_l, am_br, am_cmp, am_tk, am_cat, am_sw, am_copy, am_R, am_nc0, am_nc1, am_f0, am_f1, am_f2, am_f3, Int.reduceNeg, Int.reduceEq, Int.reduceLE, Int.reduceLT, Nat.reduceLeDiff, Nat.reduceAdd, Nat.reduceEqDiff, true_and, and_true, ↓reduceIte, if_false, if_true, forall_const, not_true_eq_false, not_false_eq_true, false_implies, true_implies, implies_true, Int.reduceAdd, Int.reduceMul, Int.reduceSub, ne_eq, ca_73_75, bl_73_10, bl_73_15, gf_75_0, ar_0, al_0, gf_75_1, pf_75_1, gf_75_2, gf_75_3, gf_75_4, gf_75_5, gf_75_6, gf_75_7, gf_75_8, gf_75_9, gf_75_10]
  (repeat' (first | with_reducible apply And.intro | with_reducible intro _)) <;> first | omega | exact X0
