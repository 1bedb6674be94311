/-! ways, pure -/
def nx_is (S : sg_S) (a b t v : Int) : Prop := t ≤ v ∧ v < t + 505 ∧ sg_opn S a b v ∧ ∀ q, t ≤ q → q < v → ¬ sg_opn S a b q
theorem nx_one {S : sg_S} {a b t v w : Int} (h1 : nx_is S a b t v) (h2 : nx_is S a b t w) : v = w := by
  rcases Int.lt_trichotomy v w with q | q | q
  · exact absurd h1.2.2.1 (h2.2.2.2 v h1.1 q)
  · exact q
  · exact absurd h2.2.2.1 (h1.2.2.2 w h2.1 q)
theorem nx_least {P : Int → Prop} : ∀ (n : Nat) (t : Int), P (t + n) → ∃ v, t ≤ v ∧ v ≤ t + n ∧ P v ∧ ∀ q, t ≤ q → q < v → ¬ P q := by
  intro n
  induction n with
  | zero => intro t h; exact ⟨t, by omega, by omega, by rw [show t + ((0 : Nat) : Int) = t by omega] at h; exact h, fun q q1 q2 => by omega⟩
  | succ n ih =>
    intro t h
    by_cases c : P t
    · exact ⟨t, by omega, by omega, c, fun q q1 q2 => by omega⟩
    · obtain ⟨v, v1, v2, v3, v4⟩ := ih (t + 1) (by rw [show t + 1 + (n : Int) = t + ((n + 1 : Nat) : Int) by omega]; exact h)
      refine ⟨v, by omega, by omega, v3, fun q q1 q2 => ?_⟩
      by_cases e : q = t
      · rw [e]; exact c
      · exact v4 q (by omega) q2
theorem nx_ex {S : sg_S} (hS : sg_ok S) (hF : tb_fit S) {a b : Int} (ha : 0 ≤ a ∧ a < sg_G S) (hb : 0 ≤ b ∧ b < sg_G S) {t q : Int} (ht : 0 ≤ t) (hq : t ≤ q) (h : sg_opn S a b q) : ∃ v, nx_is S a b t v ∧ v ≤ q := by
  obtain ⟨v, v1, v2, v3, v4⟩ := nx_least (P := fun q => sg_opn S a b q) (q - t).toNat t (by rw [show t + ((q - t).toNat : Int) = q by omega]; exact h)
  have st := (tb_st_r hS hF).1
  have hU := hS.1
  refine ⟨v, ⟨v1, ?_, v3, v4⟩, by omega⟩
  by_cases c : v < t + 505
  · exact c
  · exfalso
    have := per_all (P := fun q => ¬ sg_opn S a b q) (st := tb_st S) (U := sg_U S) (t := t) (by omega) (fun q m q1 q2 => by rw [sg_opn_p hS hF ha hb q1 q2]) (fun q q1 q2 => v4 q q1 (by split at q2 <;> omega))
    exact this v v1 v3
def wk (S : sg_S) (a b : Int) : Int := (fun d => (fun m => if 0 < m then m else 1) (if d < sg_U S - d then d else sg_U S - d)) (if sg_pl S b < sg_pl S a then sg_pl S a - sg_pl S b else sg_pl S b - sg_pl S a)
theorem wk_r {S : sg_S} (hS : sg_ok S) {a b : Int} (ha : 0 ≤ a ∧ a < sg_G S) (hb : 0 ≤ b ∧ b < sg_G S) : 1 ≤ wk S a b ∧ wk S a b ≤ 54 := by
  have p := (hS.2.2.1 a ha.1 ha.2).2.2.1
  have q := (hS.2.2.1 b hb.1 hb.2).2.2.1
  have hU := hS.1
  unfold wk
  simp only
  (repeat' split) <;> omega
/-- one step: from g at s one is at b at v -/
def stp (S : sg_S) (g s b v : Int) : Prop := (sg_ri S g = sg_ri S b ∧ v = s + wk S g b) ∨ (sg_ri S g ≠ sg_ri S b ∧ nx_is S g b s (v - 1))
theorem stp_one {S : sg_S} {g s b v w : Int} (h1 : stp S g s b v) (h2 : stp S g s b w) : v = w := by
  rcases h1 with ⟨a, e⟩ | ⟨a, e⟩ <;> rcases h2 with ⟨a', e'⟩ | ⟨a', e'⟩
  · omega
  · exact absurd a a'
  · exact absurd a' a
  · have := nx_one e e'
    omega
theorem stp_r {S : sg_S} (hS : sg_ok S) {g s b v : Int} (hg : 0 ≤ g ∧ g < sg_G S) (hb : 0 ≤ b ∧ b < sg_G S) (h : stp S g s b v) : s < v ∧ v ≤ s + 505 := by
  rcases h with ⟨a, e⟩ | ⟨a, e⟩
  · have := wk_r hS hg hb
    omega
  · have := e.1
    have := e.2.1
    omega
theorem stp_mono {S : sg_S} (hS : sg_ok S) (hF : tb_fit S) {g s b v u : Int} (hg : 0 ≤ g ∧ g < sg_G S) (hb : 0 ≤ b ∧ b < sg_G S) (hu : 0 ≤ u ∧ u ≤ s) (h : stp S g s b v) : ∃ w, stp S g u b w ∧ w ≤ v := by
  rcases h with ⟨a, e⟩ | ⟨a, e⟩
  · exact ⟨u + wk S g b, Or.inl ⟨a, rfl⟩, by omega⟩
  · obtain ⟨w, w1, w2⟩ := nx_ex hS hF hg hb hu.1 (by have := e.1; omega) e.2.2.1
    exact ⟨w + 1, Or.inr ⟨a, by rw [show w + 1 - 1 = w by omega]; exact w1⟩, by omega⟩
/-- a way of n steps -/
def wyn (S : sg_S) (a t : Int) : Nat → Int → Int → Prop
  | 0, b, s => b = a ∧ s = t
  | n + 1, b, s => ∃ g s', wyn S a t n g s' ∧ (0 ≤ b ∧ b < sg_G S) ∧ stp S g s' b s
def wy (S : sg_S) (a t b s : Int) : Prop := ∃ n, wyn S a t n b s
theorem wyn_g {S : sg_S} {a t : Int} (ha : 0 ≤ a ∧ a < sg_G S) : ∀ (n : Nat) (b s : Int), wyn S a t n b s → 0 ≤ b ∧ b < sg_G S := by
  intro n
  cases n with
  | zero => intro b s h; rw [h.1]; exact ha
  | succ n => intro b s h; obtain ⟨_, _, _, h2, _⟩ := h; exact h2
theorem wyn_t {S : sg_S} (hS : sg_ok S) {a t : Int} (ha : 0 ≤ a ∧ a < sg_G S) : ∀ (n : Nat) (b s : Int), wyn S a t n b s → t ≤ s := by
  intro n
  induction n with
  | zero => intro b s h; rw [h.2]; omega
  | succ n ih =>
    intro b s h
    obtain ⟨g, s', h1, h2, h3⟩ := h
    have := ih g s' h1
    have := stp_r hS (wyn_g ha n g s' h1) h2 h3
    omega
/-- v is the soonest at b; N: never -/
def ar_is (N : Int) (S : sg_S) (a t b v : Int) : Prop := ((t ≤ v ∧ v ≤ t + 4040) ∧ wy S a t b v ∧ ∀ s, wy S a t b s → v ≤ s) ∨ (v = N ∧ ∀ s, ¬ wy S a t b s)
theorem ar_two {N M : Int} {S : sg_S} {a t b v w : Int} (h1 : ar_is N S a t b v) (h2 : ar_is M S a t b w) : (v = w ∧ t ≤ v ∧ v ≤ t + 4040) ∨ (v = N ∧ w = M) := by
  rcases h1 with ⟨r1, a1, a2⟩ | ⟨a1, a2⟩ <;> rcases h2 with ⟨r2, b1, b2⟩ | ⟨b1, b2⟩
  · have := a2 w b1
    have := b2 v a1
    omega
  · exact absurd a1 (b2 v)
  · exact absurd b1 (a2 w)
  · exact Or.inr ⟨a1, b1⟩
/-- how many of the first n gates are settled -/
def dn (D : Int → Int) : Nat → Int
  | 0 => 0
  | n + 1 => dn D n + (if D n = 1 then 1 else 0)
theorem dn_le (D : Int → Int) : ∀ n : Nat, 0 ≤ dn D n ∧ dn D n ≤ n := by
  intro n
  induction n with
  | zero => simp [dn]
  | succ n ih => rw [dn]; split <;> omega
theorem dn_all {D : Int → Int} : ∀ n : Nat, dn D n = n → ∀ g : Int, 0 ≤ g → g < n → D g = 1 := by
  intro n
  induction n with
  | zero => intro _ g h1 h2; omega
  | succ n ih =>
    intro h g g1 g2
    have le := dn_le D n
    rw [dn] at h
    by_cases e : g = n
    · rw [e]
      by_cases c : D n = 1
      · exact c
      · rw [if_neg c] at h; omega
    · exact ih (by split at h <;> omega) g g1 (by omega)
theorem dn_up {D D' : Int → Int} {x : Int} (hx : D x ≠ 1) (hx' : D' x = 1) : ∀ n : Nat, (∀ g : Int, 0 ≤ g → g < n → g ≠ x → D' g = D g) → dn D' n = dn D n + (if 0 ≤ x ∧ x < n then 1 else 0) := by
  intro n
  induction n with
  | zero => intro _; rw [if_neg (by omega)]; simp [dn]
  | succ n ih =>
    intro he
    rw [dn, dn, ih (fun g g1 g2 g3 => he g g1 (by omega) g3)]
    by_cases e : (n : Int) = x
    · rw [e, if_pos hx', if_neg hx, if_neg (by omega), if_pos (by omega)]
    · rw [he n (by omega) (by omega) e]
      by_cases c : 0 ≤ x ∧ x < n
      · rw [if_pos c, show (if 0 ≤ x ∧ x < ((n + 1 : Nat) : Int) then (1 : Int) else 0) = 1 from if_pos (by omega)]; omega
      · rw [if_neg c, show (if 0 ≤ x ∧ x < ((n + 1 : Nat) : Int) then (1 : Int) else 0) = 0 from if_neg (by omega)]; omega
/-- the state of the search after n rounds -/
def dj (N : Int) (S : sg_S) (a t n : Int) (A D : Int → Int) : Prop := A a = t ∧
  (∀ b, 0 ≤ b → b < sg_G S → A b = N ∨ (wy S a t b (A b) ∧ t ≤ A b ∧ A b ≤ t + 505 * n)) ∧
  (∀ g, 0 ≤ g → g < sg_G S → D g = 1 → A g ≠ N ∧ ∀ b v, 0 ≤ b → b < sg_G S → stp S g (A g) b v → A b ≤ v) ∧
  (∀ g b, 0 ≤ g → g < sg_G S → 0 ≤ b → b < sg_G S → D g = 1 → D b ≠ 1 → A g ≤ A b) ∧ dn D (sg_G S).toNat = n
/-- what one step gives, as the codes have it -/
def rc (N : Int) (S : sg_S) (g s b r : Int) : Prop := stp S g s b r ∨ (r = N ∧ ∀ v, ¬ stp S g s b v)
theorem dj_step {N : Int} {S : sg_S} {a t n g : Int} {A D A' D' : Int → Int} (hS : sg_ok S) (hN : 90000 ≤ N) (ht : 0 ≤ t ∧ t ≤ 50000) (hn : 0 ≤ n ∧ n < 8) (hd : dj N S a t n A D) (hg : 0 ≤ g ∧ g < sg_G S) (hgD : D g ≠ 1) (hgA : A g < N) (hmin : ∀ b, 0 ≤ b → b < sg_G S → D b ≠ 1 → A g ≤ A b)
    (hD : ∀ b, 0 ≤ b → b < sg_G S → D' b = if b = g then 1 else D b) (hA1 : ∀ b, 0 ≤ b → b < sg_G S → D' b = 1 → A' b = A b) (hA2 : ∀ b, 0 ≤ b → b < sg_G S → D' b ≠ 1 → ∃ r, rc N S g (A g) b r ∧ A' b = if r < A b then r else A b) (haa : 0 ≤ a ∧ a < sg_G S) : dj N S a t (n + 1) A' D' := by
  obtain ⟨d1, d2, d3, d4, d5⟩ := hd
  have eg := hA1 g hg.1 hg.2 (by rw [hD g hg.1 hg.2, if_pos rfl])
  have bg := d2 g hg.1 hg.2
  have bg' : wy S a t g (A g) ∧ t ≤ A g ∧ A g ≤ t + 505 * n := by rcases bg with q | q <;> first | omega | exact q
  have le : ∀ b, 0 ≤ b → b < sg_G S → A' b ≤ A b := by
    intro b b1 b2
    by_cases c : D' b = 1
    · rw [hA1 b b1 b2 c]; omega
    · obtain ⟨r, _, e⟩ := hA2 b b1 b2 c
      rw [e]; split <;> omega
  have ge : ∀ b, 0 ≤ b → b < sg_G S → D' b ≠ 1 → A g ≤ A' b := by
    intro b b1 b2 c
    obtain ⟨r, hr, e⟩ := hA2 b b1 b2 c
    have m := hmin b b1 b2 (by rw [hD b b1 b2] at c; split at c <;> omega)
    rw [e]
    split
    · rcases hr with q | q
      · have := stp_r hS hg ⟨b1, b2⟩ q; omega
      · omega
    · exact m
  refine ⟨?_, ?_, ?_, ?_, ?_⟩
  · have l := le a haa.1 haa.2
    by_cases c : D' a = 1
    · rw [hA1 a haa.1 haa.2 c]; exact d1
    · have := ge a haa.1 haa.2 c
      omega
  · intro b b1 b2
    have o := d2 b b1 b2
    by_cases c : D' b = 1
    · rw [hA1 b b1 b2 c]
      rcases o with q | q
      · exact Or.inl q
      · exact Or.inr ⟨q.1, q.2.1, by omega⟩
    · obtain ⟨r, hr, e⟩ := hA2 b b1 b2 c
      rw [e]
      split
      · rcases hr with q | q
        · right
          have z := stp_r hS hg ⟨b1, b2⟩ q
          refine ⟨?_, by omega, by omega⟩
          obtain ⟨m, hm⟩ := bg'.1
          exact ⟨m + 1, g, A g, hm, ⟨b1, b2⟩, q⟩
        · exact Or.inl q.1
      · rcases o with q | q
        · exact Or.inl q
        · exact Or.inr ⟨q.1, q.2.1, by omega⟩
  · intro g' g1 g2 hg'
    by_cases c : g' = g
    · rw [c, eg]
      refine ⟨by omega, fun b v b1 b2 hs => ?_⟩
      have z := stp_r hS hg ⟨b1, b2⟩ hs
      by_cases c2 : D' b = 1
      · rw [hA1 b b1 b2 c2]
        by_cases c3 : b = g
        · rw [c3]; omega
        · have := d4 b g b1 b2 hg.1 hg.2 (by rw [hD b b1 b2, if_neg c3] at c2; exact c2) hgD
          omega
      · obtain ⟨r, hr, e⟩ := hA2 b b1 b2 c2
        rcases hr with q | q
        · have := stp_one q hs
          rw [e]; split <;> omega
        · exact absurd hs (q.2 v)
    · have hg2 : D g' = 1 := by rw [hD g' g1 g2, if_neg c] at hg'; exact hg'
      rw [hA1 g' g1 g2 hg']
      refine ⟨(d3 g' g1 g2 hg2).1, fun b v b1 b2 hs => ?_⟩
      have := (d3 g' g1 g2 hg2).2 b v b1 b2 hs
      have := le b b1 b2
      omega
  · intro g' b g1 g2 b1 b2 hg' hb
    rw [hA1 g' g1 g2 hg']
    have z := ge b b1 b2 hb
    by_cases c : g' = g
    · rw [c]; exact z
    · have := d4 g' g g1 g2 hg.1 hg.2 (by rw [hD g' g1 g2, if_neg c] at hg'; exact hg') hgD
      omega
  · have := dn_up (D := D) (D' := D') hgD (by rw [hD g hg.1 hg.2, if_pos rfl]) (sg_G S).toNat (fun z z1 z2 hz => by rw [hD z z1 (by omega), if_neg hz])
    rw [this, d5, if_pos (by omega)]
theorem dj_end {N : Int} {S : sg_S} {a t n : Int} {A D : Int → Int} (hS : sg_ok S) (hF : tb_fit S) (hN : 90000 ≤ N) (ht : 0 ≤ t ∧ t ≤ 50000) (hn : 0 ≤ n ∧ n ≤ 8) (haa : 0 ≤ a ∧ a < sg_G S) (hd : dj N S a t n A D) (hr : ∀ b, 0 ≤ b → b < sg_G S → D b ≠ 1 → A b = N) : ∀ b, 0 ≤ b → b < sg_G S → ar_is N S a t b (A b) := by
  obtain ⟨d1, d2, d3, d4, d5⟩ := hd
  have key : ∀ (m : Nat) (b s : Int), wyn S a t m b s → A b ≤ s ∧ A b ≠ N := by
    intro m
    induction m with
    | zero =>
      intro b s h
      rw [h.1, h.2, d1]; omega
    | succ m ih =>
      intro b s h
      obtain ⟨g, s', h1, h2, h3⟩ := h
      have hg := wyn_g haa m g s' h1
      have i := ih g s' h1
      have hD : D g = 1 := by
        by_cases c : D g = 1
        · exact c
        · exact absurd (hr g hg.1 hg.2 c) i.2
      have o := d2 g hg.1 hg.2
      obtain ⟨w, w1, w2⟩ := stp_mono hS hF (u := A g) hg h2 (by omega) h3
      have r := stp_r hS hg h2 w1
      have := (d3 g hg.1 hg.2 hD).2 b w h2.1 h2.2 w1
      omega
  intro b b1 b2
  rcases d2 b b1 b2 with q | q
  · exact Or.inr ⟨q, fun s ⟨m, hm⟩ => (key m b s hm).2 q⟩
  · exact Or.inl ⟨by omega, q.1, fun s ⟨m, hm⟩ => (key m b s hm).1⟩
theorem dj_all {N : Int} {S : sg_S} {a t : Int} {A D : Int → Int} (hG : 0 ≤ sg_G S) (hd : dj N S a t (sg_G S) A D) : ∀ b, 0 ≤ b → b < sg_G S → D b = 1 := by
  have := hd.2.2.2.2
  intro b b1 b2
  exact dn_all (sg_G S).toNat (by omega) b b1 (by omega)
theorem dn_0 {D : Int → Int} : ∀ n : Nat, (∀ g : Int, 0 ≤ g → g < n → D g ≠ 1) → dn D n = 0 := by
  intro n
  induction n with
  | zero => intro _; rfl
  | succ n ih => intro h; rw [dn, ih (fun g g1 g2 => h g g1 (by omega)), if_neg (h n (by omega) (by omega))]; rfl
theorem dj_0 {N : Int} {S : sg_S} {a t : Int} {A D : Int → Int} (hA : ∀ b, 0 ≤ b → b < sg_G S → A b = if b = a then t else N) (hD : ∀ b, 0 ≤ b → b < sg_G S → D b ≠ 1) (hG : 0 ≤ sg_G S) (haa : 0 ≤ a ∧ a < sg_G S) : dj N S a t 0 A D := by
  refine ⟨by rw [hA a haa.1 haa.2, if_pos rfl], fun b b1 b2 => ?_, fun g g1 g2 h => absurd h (hD g g1 g2), fun g b g1 g2 _ _ h => absurd h (hD g g1 g2), dn_0 _ (fun g g1 g2 => hD g g1 (by omega))⟩
  rw [hA b b1 b2]
  by_cases c : b = a
  · rw [if_pos c]
    exact Or.inr ⟨⟨0, c, rfl⟩, by omega, by omega⟩
  · rw [if_neg c]; exact Or.inl rfl
