/-! round, pure -/
def pw (g : Int) : Int := ((2 ^ g.toNat : Nat) : Int)
theorem pw_D : ∀ g : Fin 8, 1 ≤ pw (g.val : Int) ∧ pw (g.val : Int) ≤ 128 := by decide +kernel
theorem pw_r {g : Int} (hg : 0 ≤ g ∧ g ≤ 7) : 1 ≤ pw g ∧ pw g ≤ 128 := by
  obtain ⟨m, rfl⟩ : ∃ n : Nat, g = (n : Int) := ⟨g.toNat, by omega⟩
  exact pw_D ⟨m, by omega⟩
theorem bt_D5 : ∀ x : Fin 256, ∀ g : Fin 8, (Int32.ofInt (x.val : Int) &&& Int32.ofInt ((Int32.ofInt ((Int32.ofInt 1 <<< (Int32.ofInt (g.val : Int) &&& 31)).toInt) ^^^ Int32.ofInt (-1)).toInt)).toInt = (x.val : Int) - (if bt (x.val : Int) (g.val : Int) = 1 then pw (g.val : Int) else 0) := by decide +kernel
theorem bt_D6 : ∀ x : Fin 256, ∀ g : Fin 8, (Int32.ofInt (x.val : Int) ||| Int32.ofInt ((Int32.ofInt 1 <<< (Int32.ofInt (g.val : Int) &&& 31)).toInt)).toInt = (x.val : Int) + (if bt (x.val : Int) (g.val : Int) = 1 then 0 else pw (g.val : Int)) := by decide +kernel
theorem bt_D7 : ∀ x : Fin 256, ∀ g : Fin 8, (Int32.ofInt (x.val : Int) &&& Int32.ofInt ((Int32.ofInt 1 <<< (Int32.ofInt (g.val : Int) &&& 31)).toInt)).toInt = (if bt (x.val : Int) (g.val : Int) = 1 then pw (g.val : Int) else 0) := by decide +kernel
theorem bt_cl {x g : Int} (hx : 0 ≤ x ∧ x ≤ 255) (hg : 0 ≤ g ∧ g ≤ 7) : am_and x (am_xor (am_shl 1 g) (-1)) = x - (if bt x g = 1 then pw g else 0) := by
  obtain ⟨n, rfl⟩ : ∃ n : Nat, x = (n : Int) := ⟨x.toNat, by omega⟩
  obtain ⟨m, rfl⟩ : ∃ n : Nat, g = (n : Int) := ⟨g.toNat, by omega⟩
  rw [am_and_eq, am_xor_eq, am_shl_eq]
  exact bt_D5 ⟨n, by omega⟩ ⟨m, by omega⟩
theorem bt_se {x g : Int} (hx : 0 ≤ x ∧ x ≤ 255) (hg : 0 ≤ g ∧ g ≤ 7) : am_or x (am_shl 1 g) = x + (if bt x g = 1 then 0 else pw g) := by
  obtain ⟨n, rfl⟩ : ∃ n : Nat, x = (n : Int) := ⟨x.toNat, by omega⟩
  obtain ⟨m, rfl⟩ : ∃ n : Nat, g = (n : Int) := ⟨g.toNat, by omega⟩
  rw [am_or_eq, am_shl_eq]
  exact bt_D6 ⟨n, by omega⟩ ⟨m, by omega⟩
theorem bt_fi {x g : Int} (hx : 0 ≤ x ∧ x ≤ 255) (hg : 0 ≤ g ∧ g ≤ 7) : am_and x (am_shl 1 g) = (if bt x g = 1 then pw g else 0) := by
  obtain ⟨n, rfl⟩ : ∃ n : Nat, x = (n : Int) := ⟨x.toNat, by omega⟩
  obtain ⟨m, rfl⟩ : ∃ n : Nat, g = (n : Int) := ⟨g.toNat, by omega⟩
  rw [am_and_eq, am_shl_eq]
  exact bt_D7 ⟨n, by omega⟩ ⟨m, by omega⟩
theorem bt_mi {x g : Int} (hx : 0 ≤ x ∧ x ≤ 255) (hg : 0 ≤ g ∧ g ≤ 7) (h : bt x g = 1) : (0 ≤ x - pw g ∧ x - pw g ≤ 255) ∧ ∀ k, 0 ≤ k → k ≤ 7 → bt (x - pw g) k = if k = g then 0 else bt x k := by
  have a := bt_clr hx hg
  rw [bt_cl hx hg, if_pos h] at a
  exact a
theorem bt_pl {x g : Int} (hx : 0 ≤ x ∧ x ≤ 255) (hg : 0 ≤ g ∧ g ≤ 7) (h : bt x g ≠ 1) : (0 ≤ x + pw g ∧ x + pw g ≤ 255) ∧ ∀ k, 0 ≤ k → k ≤ 7 → bt (x + pw g) k = if k = g then 1 else bt x k := by
  have a := bt_or hx hg
  rw [bt_se hx hg, if_neg h] at a
  exact a
theorem bt_dfN {a b : Nat} (ha : a < 256) (hb : b < 256) : (Int32.ofInt (a : Int) &&& Int32.ofInt ((Int32.ofInt (b : Int) ^^^ Int32.ofInt (-1)).toInt)).toInt = ((a &&& (255 ^^^ b) : Nat) : Int) := by
  rw [Int32.ofInt_toInt, am_cast, am_cast]
  have e : nI a &&& (nI b ^^^ Int32.ofInt (-1)) = nI (a &&& (255 ^^^ b)) := by
    apply Int32.toBitVec_inj.1
    show BitVec.ofNat 32 a &&& (BitVec.ofNat 32 b ^^^ BitVec.ofInt 32 (-1)) = BitVec.ofNat 32 (a &&& (255 ^^^ b))
    apply BitVec.eq_of_getLsbD_eq
    intro i hi
    by_cases c : i < 8
    · have : i = 0 ∨ i = 1 ∨ i = 2 ∨ i = 3 ∨ i = 4 ∨ i = 5 ∨ i = 6 ∨ i = 7 := by omega
      have e1 : (BitVec.ofInt 32 (-1)).getLsbD i = true := by rcases this with h | h | h | h | h | h | h | h <;> subst h <;> rfl
      have e2 : Nat.testBit 255 i = true := by rcases this with h | h | h | h | h | h | h | h <;> subst h <;> rfl
      rw [BitVec.getLsbD_and, BitVec.getLsbD_xor, e1, BitVec.getLsbD_ofNat, BitVec.getLsbD_ofNat, BitVec.getLsbD_ofNat, Nat.testBit_and, Nat.testBit_xor, e2, decide_eq_true hi]
      cases a.testBit i <;> cases b.testBit i <;> rfl
    · have z : a.testBit i = false := Nat.testBit_lt_two_pow (Nat.lt_of_lt_of_le (show a < 2 ^ 8 by omega) (Nat.pow_le_pow_right (by omega) (by omega)))
      rw [BitVec.getLsbD_and, BitVec.getLsbD_ofNat, BitVec.getLsbD_ofNat, Nat.testBit_and, z, Bool.and_false, Bool.false_and, Bool.false_and, Bool.and_false]
  show (nI a &&& (nI b ^^^ Int32.ofInt (-1))).toInt = _
  rw [e, nI_toInt (Nat.lt_of_le_of_lt Nat.and_le_left (by omega))]
theorem bt_df {x y : Int} (hx : 0 ≤ x ∧ x ≤ 255) (hy : 0 ≤ y ∧ y ≤ 255) : (0 ≤ am_and x (am_xor y (-1)) ∧ am_and x (am_xor y (-1)) ≤ 255) ∧ ∀ k, 0 ≤ k → k ≤ 7 → (bt (am_and x (am_xor y (-1))) k = 1 ↔ (bt x k = 1 ∧ bt y k ≠ 1)) := by
  obtain ⟨a, rfl⟩ : ∃ n : Nat, x = (n : Int) := ⟨x.toNat, by omega⟩
  obtain ⟨b, rfl⟩ : ∃ n : Nat, y = (n : Int) := ⟨y.toNat, by omega⟩
  rw [am_and_eq, am_xor_eq, bt_dfN (by omega) (by omega)]
  have l : a &&& (255 ^^^ b) ≤ a := Nat.and_le_left
  refine ⟨by omega, fun k k1 k2 => ?_⟩
  obtain ⟨i, rfl⟩ : ∃ n : Nat, k = (n : Int) := ⟨k.toNat, by omega⟩
  have : i = 0 ∨ i = 1 ∨ i = 2 ∨ i = 3 ∨ i = 4 ∨ i = 5 ∨ i = 6 ∨ i = 7 := by omega
  have e2 : Nat.testBit 255 i = true := by rcases this with h | h | h | h | h | h | h | h <;> subst h <;> rfl
  unfold bt
  rw [Int.toNat_natCast, Int.toNat_natCast, Int.toNat_natCast, Int.toNat_natCast, Nat.testBit_and, Nat.testBit_xor, e2]
  cases a.testBit i <;> cases b.testBit i <;> simp
def sub (x y : Int) : Prop := (0 ≤ x ∧ x ≤ 255) ∧ ∀ k, 0 ≤ k → k ≤ 7 → bt x k = 1 → bt y k = 1
theorem sub_df {x y : Int} (hx : 0 ≤ x ∧ x ≤ 255) (hy : 0 ≤ y ∧ y ≤ 255) : am_and x (am_xor y (-1)) = 0 ↔ sub x y := by
  have d := bt_df hx hy
  constructor
  · intro e
    refine ⟨hx, fun k k1 k2 h => ?_⟩
    by_cases c : bt y k = 1
    · exact c
    · have := (d.2 k k1 k2).mpr ⟨h, c⟩
      rw [e, bt_z] at this
      omega
  · intro s
    refine bt_ext d.1 (by omega) (fun k k1 k2 => ?_)
    rw [bt_z]
    rcases bt_01 (am_and x (am_xor y (-1))) k with z | z
    · exact z
    · have := (d.2 k k1 k2).mp z
      exact absurd (s.2 k k1 k2 this.1) this.2
theorem sub_le {x y : Int} (h : sub x y) (hy : 0 ≤ y ∧ y ≤ 255) : x ≤ y := by
  have o := bt_and0 h.1 hy
  have e : am_and x y = x := bt_ext o.1 h.1 (fun k k1 k2 => by
    rcases bt_01 (am_and x y) k with z | z <;> rcases bt_01 x k with w | w
    · omega
    · have := (o.2 k).mpr ⟨w, h.2 k k1 k2 w⟩; omega
    · have := (o.2 k).mp z; omega
    · omega)
  obtain ⟨a, rfl⟩ : ∃ n : Nat, x = (n : Int) := ⟨x.toNat, by have := h.1; omega⟩
  obtain ⟨b, rfl⟩ : ∃ n : Nat, y = (n : Int) := ⟨y.toNat, by omega⟩
  have hx := h.1
  rw [am_andN (by omega) (by omega)] at e
  have l : a &&& b ≤ b := Nat.and_le_right
  omega
theorem sub_mi {x y g : Int} (h : sub x y) (hg : 0 ≤ g ∧ g ≤ 7) (hb : bt x g = 1) : sub (x - pw g) y := by
  have m := bt_mi h.1 hg hb
  refine ⟨m.1, fun k k1 k2 q => ?_⟩
  rw [m.2 k k1 k2] at q
  split at q
  · omega
  · exact h.2 k k1 k2 q
/-- the least over the gates before x -/
def mn (N : Int) (S : sg_S) (A : Int → Int) (b x r : Int) : Prop := r ≤ N ∧ (∀ g v, 0 ≤ g → g < x → A g < N → ar_is N S g (A g) b v → r ≤ v) ∧ (r = N ∨ ∃ g, (0 ≤ g ∧ g < x) ∧ A g < N ∧ ar_is N S g (A g) b r) ∧ ∀ g, 0 ≤ g → g < x → A g < N → ∃ v, ar_is N S g (A g) b v
theorem mn_0 {N : Int} {S : sg_S} {A : Int → Int} {b r : Int} : mn N S A b 0 r ↔ r = N :=
  ⟨fun h => by rcases h.2.2.1 with q | ⟨g, g1, _⟩ <;> omega, fun h => ⟨by omega, fun g v g1 g2 => by omega, Or.inl h, fun g g1 g2 => by omega⟩⟩
theorem mn_k {N : Int} {S : sg_S} {A : Int → Int} {b x r : Int} (h : mn N S A b x r) (hA : ¬ A x < N) : mn N S A b (x + 1) r := by
  refine ⟨h.1, fun g v g1 g2 g3 g4 => ?_, ?_, fun g g1 g2 g3 => ?_⟩
  · by_cases c : g = x
    · rw [c] at g3; exact absurd g3 hA
    · exact h.2.1 g v g1 (by omega) g3 g4
  · rcases h.2.2.1 with q | ⟨g, g1, g2⟩
    · exact Or.inl q
    · exact Or.inr ⟨g, by omega, g2⟩
  · by_cases c : g = x
    · rw [c] at g3; exact absurd g3 hA
    · exact h.2.2.2 g g1 (by omega) g3
theorem ar_one {N : Int} {S : sg_S} {a t b v w : Int} (h1 : ar_is N S a t b v) (h2 : ar_is N S a t b w) : v = w := by
  rcases ar_two h1 h2 with q | q <;> omega
theorem ar_cv {N : Int} (M : Int) {S : sg_S} {a t b v : Int} (h : ar_is N S a t b v) : ∃ w, ar_is M S a t b w := by
  rcases h with q | q
  · exact ⟨v, Or.inl q⟩
  · exact ⟨M, Or.inr ⟨rfl, q.2⟩⟩
theorem mn_s {N : Int} {S : sg_S} {A : Int → Int} {b x r v : Int} (hx : 0 ≤ x) (h : mn N S A b x r) (hA : A x < N) (hv : ar_is N S x (A x) b v) (hvN : v ≤ N) : mn N S A b (x + 1) (if v < r then v else r) := by
  have rN := h.1
  refine ⟨by split <;> omega, fun g w g1 g2 g3 g4 => ?_, ?_, fun g g1 g2 g3 => ?_⟩
  · by_cases c : g = x
    · rw [c] at g4
      have := ar_one hv g4
      split <;> omega
    · have := h.2.1 g w g1 (by omega) g3 g4
      split <;> omega
  · by_cases c : v < r
    · rw [if_pos c]; exact Or.inr ⟨x, by omega, hA, hv⟩
    · rw [if_neg c]
      rcases h.2.2.1 with q | ⟨g, g1, g2⟩
      · exact Or.inl q
      · exact Or.inr ⟨g, by omega, g2⟩
  · by_cases c : g = x
    · rw [c]; exact ⟨v, hv⟩
    · exact h.2.2.2 g g1 (by omega) g3
theorem mn_c {N : Int} {S : sg_S} {A B : Int → Int} {b x r : Int} (hAB : ∀ g, 0 ≤ g → g < x → A g = B g) (h : mn N S A b x r) : mn N S B b x r := by
  refine ⟨h.1, fun g v g1 g2 g3 g4 => h.2.1 g v g1 g2 (by rw [hAB g g1 g2]; exact g3) (by rw [hAB g g1 g2]; exact g4), ?_, fun g g1 g2 g3 => ?_⟩
  · rcases h.2.2.1 with q | ⟨g, g1, g2, g3⟩
    · exact Or.inl q
    · exact Or.inr ⟨g, g1, by rw [← hAB g g1.1 g1.2]; exact g2, by rw [← hAB g g1.1 g1.2]; exact g3⟩
  · rw [← hAB g g1 g2] at g3 ⊢
    exact h.2.2.2 g g1 g2 g3
/-- the two tell the same second, or both never -/
def eqv (N M B v w : Int) : Prop := (v = w ∧ 0 ≤ v ∧ v ≤ B) ∨ (v = N ∧ w = M)
theorem mn_two {N M B : Int} {S : sg_S} {A A' : Int → Int} {b x r r' : Int} (hN : 90000 ≤ N) (hM : 90000 ≤ M) (hB : B ≤ 80000) (hA : ∀ g, 0 ≤ g → g < x → eqv N M B (A g) (A' g)) (h1 : mn N S A b x r) (h2 : mn M S A' b x r') : eqv N M (B + 4040) r r' := by
  have lo : ∀ g, 0 ≤ g → g < x → A g < N → A' g = A g ∧ A' g < M ∧ 0 ≤ A g ∧ A g ≤ B := by
    intro g g1 g2 g3
    rcases hA g g1 g2 with q | q <;> omega
  have lo' : ∀ g, 0 ≤ g → g < x → A' g < M → A' g = A g ∧ A g < N ∧ 0 ≤ A g ∧ A g ≤ B := by
    intro g g1 g2 g3
    rcases hA g g1 g2 with q | q <;> omega
  rcases h1.2.2.1 with q | ⟨g, g1, g2, g3⟩
  · rcases h2.2.2.1 with q' | ⟨e, e1, e2, e3⟩
    · exact Or.inr ⟨q, q'⟩
    · have l := lo' e e1.1 e1.2 e2
      obtain ⟨v, v1⟩ := h1.2.2.2 e e1.1 e1.2 l.2.1
      have rv := h1.2.1 e v e1.1 e1.2 l.2.1 v1
      rw [l.1] at e3
      have two := ar_two v1 e3
      right
      exact ⟨q, by omega⟩
  · have l := lo g g1.1 g1.2 g2
    obtain ⟨w, w1⟩ := ar_cv M g3
    have tw := ar_two g3 w1
    have le' := h2.2.1 g w g1.1 g1.2 l.2.1 (by rw [l.1]; exact w1)
    have r1 := h1.1
    have r1' := h2.1
    rcases h2.2.2.1 with q' | ⟨e, e1, e2, e3⟩
    · right
      omega
    · have l' := lo' e e1.1 e1.2 e2
      obtain ⟨v', v1'⟩ := h1.2.2.2 e e1.1 e1.2 l'.2.1
      have le := h1.2.1 e v' e1.1 e1.2 l'.2.1 v1'
      rw [l'.1] at e3
      have tw' := ar_two v1' e3
      rcases tw with t1 | t1
      · rcases tw' with t2 | t2
        · left
          omega
        · omega
      · rcases tw' with t2 | t2
        · omega
        · right; omega
theorem pc_D : ∀ x : Fin 256, ∀ g : Fin 8, bt (x.val : Int) (g.val : Int) = 1 → pc ((x.val : Int) - pw (g.val : Int)) = pc (x.val : Int) - 1 := by decide +kernel
theorem pc_mi {x g : Int} (hx : 0 ≤ x ∧ x ≤ 255) (hg : 0 ≤ g ∧ g ≤ 7) (h : bt x g = 1) : pc (x - pw g) = pc x - 1 := by
  obtain ⟨n, rfl⟩ : ∃ n : Nat, x = (n : Int) := ⟨x.toNat, by omega⟩
  obtain ⟨m, rfl⟩ : ∃ n : Nat, g = (n : Int) := ⟨g.toNat, by omega⟩
  exact pc_D ⟨n, by omega⟩ ⟨m, by omega⟩ h
