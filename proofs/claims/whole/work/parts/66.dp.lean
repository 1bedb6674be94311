/-! round: the table -/
def dpX (S : sg_S) (F : Int → Int) (m p g : Int) : Int := if p < m then sg_G S else if p = m then F g else 0
theorem dpX_le {S : sg_S} {F : Int → Int} {m p g : Int} (hG : 0 ≤ sg_G S) (hF : ∀ k, F k ≤ sg_G S) : dpX S F m p g ≤ sg_G S := by
  unfold dpX
  have := hF g
  (repeat' split) <;> omega
def dp (N : Int) (S : sg_S) (a t al f m : Int) (F A : Int → Int) : Prop := (∀ k, F k ≤ sg_G S) ∧ ∀ s g, sub s al → 0 ≤ g → g < sg_G S → (s = f → A (8 * s + g) = if g = a then t else N) ∧ (s ≠ f → bt s g ≠ 1 → A (8 * s + g) = N) ∧ (s ≠ f → bt s g = 1 → mn N S (fun q => A (8 * (s - pw g) + q)) g (dpX S F m (s - pw g) g) (A (8 * s + g)))
theorem dp_nx {N : Int} {S : sg_S} {a t al f m : Int} {F A : Int → Int} (hG : 0 ≤ sg_G S ∧ sg_G S ≤ 8) (h : dp N S a t al f m F A) (hF : sub m al → ∀ g, 0 ≤ g → g < sg_G S → F g = sg_G S) : dp N S a t al f (m + 1) (fun _ => 0) A := by
  refine ⟨fun _ => hG.1, fun s g hs g0 g1 => ?_⟩
  obtain ⟨h1, h2, h3⟩ := h.2 s g hs g0 g1
  refine ⟨h1, h2, fun q b => ?_⟩
  have z := h3 q b
  have sm := sub_mi hs (by omega) b
  have e : dpX S (fun _ => 0) (m + 1) (s - pw g) g = dpX S F m (s - pw g) g := by
    unfold dpX
    by_cases c : s - pw g < m
    · rw [if_pos c, if_pos (by omega)]
    · rw [if_neg c]
      by_cases d : s - pw g = m
      · rw [if_pos d, hF (d ▸ sm) g g0 g1, if_pos (by omega)]
      · rw [if_neg d, if_neg (by omega)]
        split <;> rfl
  rw [e]
  exact z
theorem dp_F {N : Int} {S : sg_S} {a t al f m : Int} {F F' A : Int → Int} (h : dp N S a t al f m F A) (hF' : ∀ k, F' k ≤ sg_G S) (hFF : ∀ s g r, sub s al → 0 ≤ g → g < sg_G S → bt s g = 1 → s - pw g = m → mn N S (fun q => A (8 * m + q)) g (F g) r → mn N S (fun q => A (8 * m + q)) g (F' g) r) : dp N S a t al f m F' A := by
  refine ⟨hF', fun s g hs g0 g1 => ?_⟩
  obtain ⟨h1, h2, h3⟩ := h.2 s g hs g0 g1
  refine ⟨h1, h2, fun q b => ?_⟩
  have z := h3 q b
  unfold dpX at z ⊢
  by_cases c : s - pw g < m
  · rw [if_pos c] at z ⊢; exact z
  · rw [if_neg c] at z ⊢
    by_cases d : s - pw g = m
    · rw [if_pos d] at z ⊢
      rw [d] at z ⊢
      exact hFF s g _ hs g0 g1 b d z
    · rw [if_neg d] at z ⊢; exact z
/-- how late it can be -/
theorem dp_b {N : Int} {S : sg_S} {a t al f m : Int} {F A : Int → Int} (hG : 0 ≤ sg_G S ∧ sg_G S ≤ 8) (ht : 0 ≤ t ∧ t ≤ 299) (hN : 0 ≤ N) (h : dp N S a t al f m F A) : ∀ (n : Nat) (s g : Int), s.toNat ≤ n → sub s al → 0 ≤ g → g < sg_G S → A (8 * s + g) = N ∨ (0 ≤ A (8 * s + g) ∧ A (8 * s + g) ≤ 299 + 4040 * pc s) := by
  have base : ∀ s g, sub s al → 0 ≤ g → g < sg_G S → (s = f ∨ bt s g ≠ 1) → A (8 * s + g) = N ∨ (0 ≤ A (8 * s + g) ∧ A (8 * s + g) ≤ 299 + 4040 * pc s) := by
    intro s g hs g0 g1 o
    obtain ⟨h1, h2, _⟩ := h.2 s g hs g0 g1
    have := pc_r s
    by_cases c : s = f
    · rw [h1 c]
      split
      · exact Or.inr (by omega)
      · exact Or.inl rfl
    · exact Or.inl (h2 c (o.resolve_left c))
  intro n
  induction n with
  | zero =>
    intro s g hn hs g0 g1
    have := hs.1
    refine base s g hs g0 g1 (Or.inr ?_)
    rw [show s = 0 by omega, bt_z]
    omega
  | succ n ih =>
    intro s g hn hs g0 g1
    have sr := hs.1
    by_cases o : s = f ∨ bt s g ≠ 1
    · exact base s g hs g0 g1 o
    · have c : s ≠ f := fun z => o (Or.inl z)
      have b : bt s g = 1 := by
        by_cases z : bt s g = 1
        · exact z
        · exact absurd (Or.inr z) o
      have z := (h.2 s g hs g0 g1).2.2 c b
      have pr := pw_r (show 0 ≤ g ∧ g ≤ 7 by omega)
      have pcm := pc_mi sr (show 0 ≤ g ∧ g ≤ 7 by omega) b
      have sm := sub_mi hs (show 0 ≤ g ∧ g ≤ 7 by omega) b
      have l := dpX_le (m := m) (p := s - pw g) (g := g) hG.1 h.1
      rcases z.2.2.1 with q | ⟨q, q1, q2, q3⟩
      · exact Or.inl q
      · have i := ih (s - pw g) q (by have := sm.1; omega) sm q1.1 (by omega)
        have q2' : A (8 * (s - pw g) + q) < N := q2
        have q3' : ar_is N S q (A (8 * (s - pw g) + q)) g (A (8 * s + g)) := q3
        rcases q3' with ⟨r1, _⟩ | ⟨r1, _⟩
        · exact Or.inr (by omega)
        · exact Or.inl r1
/-- the start lies in every set that is reached -/
theorem dp_f {N : Int} {S : sg_S} {a t al f m : Int} {F A : Int → Int} (hG : 0 ≤ sg_G S ∧ sg_G S ≤ 8) (h : dp N S a t al f m F A) : ∀ (n : Nat) (s g : Int), s.toNat ≤ n → sub s al → 0 ≤ g → g < sg_G S → A (8 * s + g) < N → ∀ k, 0 ≤ k → k ≤ 7 → bt f k = 1 → bt s k = 1 := by
  intro n
  induction n with
  | zero =>
    intro s g hn hs g0 g1 lt k k1 k2 hk
    obtain ⟨h1, h2, h3⟩ := h.2 s g hs g0 g1
    have := hs.1
    have e0 : s = 0 := by omega
    by_cases c : s = f
    · rw [c]; exact hk
    · by_cases b : bt s g = 1
      · rw [e0, bt_z] at b; omega
      · have := h2 c b; omega
  | succ n ih =>
    intro s g hn hs g0 g1 lt k k1 k2 hk
    obtain ⟨h1, h2, h3⟩ := h.2 s g hs g0 g1
    have sr := hs.1
    by_cases c : s = f
    · rw [c]; exact hk
    · by_cases b : bt s g = 1
      · have z := h3 c b
        have m' := bt_mi sr (show 0 ≤ g ∧ g ≤ 7 by omega) b
        have pr := pw_r (show 0 ≤ g ∧ g ≤ 7 by omega)
        have l := dpX_le (m := m) (p := s - pw g) (g := g) hG.1 h.1
        rcases z.2.2.1 with q | ⟨q, q1, q2, q3⟩
        · omega
        · have r := ih (s - pw g) q (by omega) (sub_mi hs (by omega) b) q1.1 (by omega) q2 k k1 k2 hk
          rw [m'.2 k k1 k2] at r
          split at r
          · omega
          · exact r
      · have := h2 c b; omega
/-- one entry is made less -/
theorem dp_u {N : Int} {S : sg_S} {a t al f m x e v w : Int} {F A A' : Int → Int} (hG : 0 ≤ sg_G S ∧ sg_G S ≤ 8) (hm : sub m al) (hx : 0 ≤ x ∧ x < sg_G S) (he : 0 ≤ e ∧ e < sg_G S) (hem : bt m e ≠ 1) (hea : bt al e = 1) (hAx : A (8 * m + x) < N) (hv : ar_is N S x (A (8 * m + x)) e v) (hvN : v ≤ N) (hw : w = if v < A (8 * (m + pw e) + e) then v else A (8 * (m + pw e) + e)) (hF : F e = x) (h : dp N S a t al f m F A) (hA' : ∀ i, A' i = if i = 8 * (m + pw e) + e then w else A i) : dp N S a t al f m (fun g => if g = e then x + 1 else F g) A' := by
  have pe := pw_r (show 0 ≤ e ∧ e ≤ 7 by omega)
  have me := bt_pl hm.1 (show 0 ≤ e ∧ e ≤ 7 by omega) hem
  have be : bt (m + pw e) e = 1 := by rw [me.2 e he.1 (by omega), if_pos rfl]
  have hne : m + pw e ≠ f := fun z => hem (dp_f hG h m.toNat m x (by omega) hm hx.1 hx.2 hAx e he.1 (by omega) (by rw [← z]; exact be))
  have hFb := h.1
  refine ⟨fun k => by
    have := hFb k
    show (if k = e then x + 1 else F k) ≤ sg_G S
    split <;> omega, fun s g hs g0 g1 => ?_⟩
  obtain ⟨h1, h2, h3⟩ := h.2 s g hs g0 g1
  have pg := pw_r (show 0 ≤ g ∧ g ≤ 7 by omega)
  have row : ∀ p q, p ≤ m → 0 ≤ q → q < 8 → A' (8 * p + q) = A (8 * p + q) := fun p q p1 q1 q2 => by rw [hA', if_neg (by omega)]
  by_cases c : 8 * s + g = 8 * (m + pw e) + e
  · have es : s = m + pw e := by omega
    have eg : g = e := by omega
    subst es
    subst eg
    refine ⟨fun q => absurd q hne, fun _ q => absurd be q, fun _ _ => ?_⟩
    have z := h3 hne be
    have em : m + pw g - pw g = m := by omega
    have e1 : dpX S F m m g = x := by unfold dpX; rw [if_neg (by omega), if_pos rfl, hF]
    have e2 : dpX S (fun k => if k = g then x + 1 else F k) m m g = x + 1 := by
      show (if m < m then sg_G S else if m = m then (if g = g then x + 1 else F g) else 0) = x + 1
      rw [if_neg (by omega), if_pos rfl, if_pos rfl]
    rw [em, e1] at z
    rw [em, e2]
    have o := mn_s hx.1 z hAx hv hvN
    rw [← hw] at o
    rw [hA' (8 * (m + pw g) + g), if_pos rfl]
    exact mn_c (fun q q1 q2 => (row m q (by omega) q1 (by omega)).symm) o
  · rw [hA' (8 * s + g), if_neg c]
    refine ⟨h1, h2, fun q b => ?_⟩
    have z := h3 q b
    by_cases c1 : s - pw g ≤ m
    · have e1 : dpX S (fun k => if k = e then x + 1 else F k) m (s - pw g) g = dpX S F m (s - pw g) g := by
        unfold dpX
        by_cases c2 : s - pw g < m
        · rw [if_pos c2, if_pos c2]
        · have c3 : s - pw g = m := by omega
          have ge : g ≠ e := fun z' => c (by rw [z']; rw [z'] at c3; omega)
          rw [if_neg c2, if_neg c2, if_pos c3, if_pos c3]
          show (if g = e then x + 1 else F g) = F g
          rw [if_neg ge]
      rw [e1]
      have l := dpX_le (m := m) (p := s - pw g) (g := g) hG.1 hFb
      exact mn_c (fun q q1 q2 => (row (s - pw g) q c1 q1 (by omega)).symm) z
    · have e1 : ∀ F', dpX S F' m (s - pw g) g = 0 := fun F' => by unfold dpX; rw [if_neg (by omega), if_neg (by omega)]
      rw [e1, mn_0] at z ⊢
      exact z
/-- at the beginning -/
theorem dp_0 {N : Int} {S : sg_S} {a t al f : Int} {A : Int → Int} (hG : 0 ≤ sg_G S ∧ sg_G S ≤ 8) (hA : ∀ s g, sub s al → 0 ≤ g → g < sg_G S → A (8 * s + g) = if s = f ∧ g = a then t else N) : dp N S a t al f 0 (fun _ => 0) A := by
  refine ⟨fun _ => hG.1, fun s g hs g0 g1 => ?_⟩
  have e := hA s g hs g0 g1
  refine ⟨fun q => ?_, fun q b => ?_, fun q b => ?_⟩
  · rw [e]
    by_cases c : g = a
    · rw [if_pos ⟨q, c⟩, if_pos c]
    · rw [if_neg (fun z => c z.2), if_neg c]
  · rw [e, if_neg (fun z => q z.1)]
  · have e1 : dpX S (fun _ => 0) 0 (s - pw g) g = 0 ∨ s - pw g < 0 := by
      unfold dpX
      by_cases c : s - pw g < 0
      · exact Or.inr c
      · rw [if_neg c]; left; split <;> rfl
    rw [e, if_neg (fun z => q z.1)]
    rcases e1 with e1 | e1
    · rw [e1, mn_0]
    · have := (bt_mi hs.1 (show 0 ≤ g ∧ g ≤ 7 by omega) b).1; omega
/-- the two tables tell the same -/
theorem dp_two {N M : Int} {S : sg_S} {a t ac am f mc mm : Int} {F F' A A' : Int → Int} (hG : 0 ≤ sg_G S ∧ sg_G S ≤ 8) (ht : 0 ≤ t ∧ t ≤ 299) (hN : 90000 ≤ N) (hM : 90000 ≤ M) (ha : 0 ≤ a ∧ a < sg_G S) (hfa : f = 0 ∨ f = pw a) (hac : bt ac a ≠ 1) (hsum : ∀ s, sub s ac → sub (s + f) am ∧ (∀ k, 0 ≤ k → k ≤ 7 → k ≠ a → bt (s + f) k = bt s k) ∧ (f = 0 → bt (s + f) a ≠ 1)) (hs0 : f = pw a → ∀ s, sub s ac → sub s am) (h1 : dp N S a t ac 0 mc F A) (h2 : dp M S a t am f mm F' A') (hc : ∀ p g, sub (p + pw g) ac → sub p ac → bt (p + pw g) g = 1 → p < mc) (hm : ∀ p, sub p am → p < mm) : ∀ (n : Nat) (s g : Int), s.toNat ≤ n → sub s ac → 0 ≤ g → g < sg_G S → eqv N M (299 + 4040 * pc s) (A (8 * s + g)) (A' (8 * (s + f) + g)) := by
  have bfa : f = pw a → bt f a = 1 := fun e => by
    have z := (bt_pl (x := 0) (g := a) (by omega) (by omega) (by rw [bt_z]; omega)).2 a ha.1 (by omega)
    rw [if_pos rfl, show (0 : Int) + pw a = f by omega] at z
    exact z
  have zero : ∀ g, 0 ≤ g → g < sg_G S → sub 0 ac → eqv N M (299 + 4040 * pc 0) (A (8 * 0 + g)) (A' (8 * (0 + f) + g)) := by
    intro g g0 g1 hs
    have x1 := (h1.2 0 g hs g0 g1).1 rfl
    have x2 := (h2.2 (0 + f) g (hsum 0 hs).1 g0 g1).1 (by omega)
    rw [x1, x2]
    have := pc_r 0
    by_cases c : g = a
    · rw [if_pos c, if_pos c]; exact Or.inl ⟨rfl, by omega, by omega⟩
    · rw [if_neg c, if_neg c]; exact Or.inr ⟨rfl, rfl⟩
  intro n
  induction n with
  | zero =>
    intro s g hn hs g0 g1
    have := hs.1
    have e : s = 0 := by omega
    subst e
    exact zero g g0 g1 hs
  | succ n ih =>
    intro s g hn hs g0 g1
    have sr := hs.1
    by_cases e : s = 0
    · subst e
      exact zero g g0 g1 hs
    have sm := hsum s hs
    have cs := h1.2 s g hs g0 g1
    have ms' := h2.2 (s + f) g sm.1 g0 g1
    by_cases ca : g = a
    · have nb : bt s g ≠ 1 := fun z => hac (by rw [ca] at z; exact hs.2 a ha.1 (by omega) z)
      have x1 := cs.2.1 e nb
      have x2 : A' (8 * (s + f) + g) = M := by
        by_cases bq : bt (s + f) g = 1
        · rcases hfa with z | z
          · rw [ca] at bq; exact absurd bq (sm.2.2 z)
          · have y := ms'.2.2 (by omega) bq
            have ep : s + f - pw g = s := by rw [ca]; omega
            rw [ep] at y
            have sam := hs0 z s hs
            have ex : dpX S F' mm s g = sg_G S := if_pos (hm s sam)
            rw [ex] at y
            rcases y.2.2.1 with w | ⟨q, q1, q2, _⟩
            · exact w
            · have := dp_f hG h2 s.toNat s q (by omega) sam q1.1 q1.2 q2 a ha.1 (by omega) (bfa z)
              rw [← ca] at this
              exact absurd this nb
        · exact ms'.2.1 (by omega) bq
      exact Or.inr ⟨x1, x2⟩
    · have eb := sm.2.1 g g0 (by omega) ca
      by_cases b : bt s g = 1
      · have y1 := cs.2.2 e b
        have y2 := ms'.2.2 (by omega) (by rw [eb]; exact b)
        have pg := pw_r (show 0 ≤ g ∧ g ≤ 7 by omega)
        have sp := sub_mi hs (show 0 ≤ g ∧ g ≤ 7 by omega) b
        have pm := pc_mi sr (show 0 ≤ g ∧ g ≤ 7 by omega) b
        have pr := pc_r s
        have x1 : dpX S F mc (s - pw g) g = sg_G S := if_pos (hc (s - pw g) g (by rw [show s - pw g + pw g = s by omega]; exact hs) sp (by rw [show s - pw g + pw g = s by omega]; exact b))
        have sp2 := (hsum (s - pw g) sp).1
        have ep : s + f - pw g = s - pw g + f := by omega
        rw [ep] at y2
        have x2 : dpX S F' mm (s - pw g + f) g = sg_G S := if_pos (hm _ sp2)
        rw [x1] at y1
        rw [x2] at y2
        have r := mn_two (B := 299 + 4040 * pc (s - pw g)) hN hM (by omega) (fun q q1 q2 => ih (s - pw g) q (by have := sp.1; omega) sp q1 q2) y1 y2
        rw [pm, show 299 + 4040 * (pc s - 1) + 4040 = 299 + 4040 * pc s by omega] at r
        exact r
      · exact Or.inr ⟨cs.2.1 e b, ms'.2.1 (by omega) (by rw [eb]; exact b)⟩
