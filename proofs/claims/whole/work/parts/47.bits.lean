/-! sets of gates as bits -/
def bt (x g : Int) : Int := if x.toNat.testBit g.toNat then 1 else 0
theorem bt_01 (x g : Int) : bt x g = 0 ∨ bt x g = 1 := by unfold bt; split <;> simp
theorem bt_D1 : ∀ x : Fin 256, ∀ g : Fin 8, (Int32.ofInt ((Int32.ofInt (x.val : Int) >>> (Int32.ofInt (g.val : Int) &&& 31)).toInt) &&& Int32.ofInt 1).toInt = bt (x.val : Int) (g.val : Int) := by decide +kernel
theorem bt_shr {x g : Int} (hx : 0 ≤ x ∧ x ≤ 255) (hg : 0 ≤ g ∧ g ≤ 7) : am_and (am_shr x g) 1 = bt x g := by
  obtain ⟨n, rfl⟩ : ∃ n : Nat, x = (n : Int) := ⟨x.toNat, by omega⟩
  obtain ⟨m, rfl⟩ : ∃ n : Nat, g = (n : Int) := ⟨g.toNat, by omega⟩
  rw [am_and_eq, am_shr_eq]
  exact bt_D1 ⟨n, by omega⟩ ⟨m, by omega⟩
theorem bt_D2 : ∀ x : Fin 256, ∀ g : Fin 8, 0 ≤ (Int32.ofInt (x.val : Int) &&& Int32.ofInt ((Int32.ofInt ((Int32.ofInt 1 <<< (Int32.ofInt (g.val : Int) &&& 31)).toInt) ^^^ Int32.ofInt (-1)).toInt)).toInt ∧ (Int32.ofInt (x.val : Int) &&& Int32.ofInt ((Int32.ofInt ((Int32.ofInt 1 <<< (Int32.ofInt (g.val : Int) &&& 31)).toInt) ^^^ Int32.ofInt (-1)).toInt)).toInt ≤ 255 ∧ ∀ k : Fin 8, bt ((Int32.ofInt (x.val : Int) &&& Int32.ofInt ((Int32.ofInt ((Int32.ofInt 1 <<< (Int32.ofInt (g.val : Int) &&& 31)).toInt) ^^^ Int32.ofInt (-1)).toInt)).toInt) (k.val : Int) = if (k.val : Int) = (g.val : Int) then 0 else bt (x.val : Int) (k.val : Int) := by decide +kernel
theorem bt_clr {x g : Int} (hx : 0 ≤ x ∧ x ≤ 255) (hg : 0 ≤ g ∧ g ≤ 7) : (0 ≤ am_and x (am_xor (am_shl 1 g) (-1)) ∧ am_and x (am_xor (am_shl 1 g) (-1)) ≤ 255) ∧ ∀ k, 0 ≤ k → k ≤ 7 → bt (am_and x (am_xor (am_shl 1 g) (-1))) k = if k = g then 0 else bt x k := by
  obtain ⟨n, rfl⟩ : ∃ n : Nat, x = (n : Int) := ⟨x.toNat, by omega⟩
  obtain ⟨m, rfl⟩ : ∃ n : Nat, g = (n : Int) := ⟨g.toNat, by omega⟩
  rw [am_and_eq, am_xor_eq, am_shl_eq]
  have D := bt_D2 ⟨n, by omega⟩ ⟨m, by omega⟩
  refine ⟨⟨D.1, D.2.1⟩, fun k k1 k2 => ?_⟩
  obtain ⟨j, rfl⟩ : ∃ n : Nat, k = (n : Int) := ⟨k.toNat, by omega⟩
  exact D.2.2 ⟨j, by omega⟩
theorem bt_D3 : ∀ G : Fin 9, 1 ≤ (Int32.ofInt 1 <<< (Int32.ofInt (G.val : Int) &&& 31)).toInt ∧ (Int32.ofInt 1 <<< (Int32.ofInt (G.val : Int) &&& 31)).toInt ≤ 256 ∧ (∀ k : Fin 8, bt ((Int32.ofInt 1 <<< (Int32.ofInt (G.val : Int) &&& 31)).toInt - 1) (k.val : Int) = if k.val < G.val then 1 else 0) := by decide +kernel
theorem bt_full {G : Int} (hG : 0 ≤ G ∧ G ≤ 8) : (1 ≤ am_shl 1 G ∧ am_shl 1 G ≤ 256) ∧ ∀ k, 0 ≤ k → k ≤ 7 → bt (am_shl 1 G - 1) k = if k < G then 1 else 0 := by
  obtain ⟨n, rfl⟩ : ∃ n : Nat, G = (n : Int) := ⟨G.toNat, by omega⟩
  rw [am_shl_eq]
  have D := bt_D3 ⟨n, by omega⟩
  refine ⟨⟨D.1, D.2.1⟩, fun k k1 k2 => ?_⟩
  obtain ⟨j, rfl⟩ : ∃ n : Nat, k = (n : Int) := ⟨k.toNat, by omega⟩
  have := D.2.2 ⟨j, by omega⟩
  simp only [Int.ofNat_lt] at this ⊢
  exact this
theorem bt_D4 : ∀ x : Fin 256, ∀ g : Fin 8, 0 ≤ (Int32.ofInt (x.val : Int) ||| Int32.ofInt ((Int32.ofInt 1 <<< (Int32.ofInt (g.val : Int) &&& 31)).toInt)).toInt ∧ (Int32.ofInt (x.val : Int) ||| Int32.ofInt ((Int32.ofInt 1 <<< (Int32.ofInt (g.val : Int) &&& 31)).toInt)).toInt ≤ 255 ∧ ∀ k : Fin 8, bt ((Int32.ofInt (x.val : Int) ||| Int32.ofInt ((Int32.ofInt 1 <<< (Int32.ofInt (g.val : Int) &&& 31)).toInt)).toInt) (k.val : Int) = if (k.val : Int) = (g.val : Int) then 1 else bt (x.val : Int) (k.val : Int) := by decide +kernel
theorem bt_or {x g : Int} (hx : 0 ≤ x ∧ x ≤ 255) (hg : 0 ≤ g ∧ g ≤ 7) : (0 ≤ am_or x (am_shl 1 g) ∧ am_or x (am_shl 1 g) ≤ 255) ∧ ∀ k, 0 ≤ k → k ≤ 7 → bt (am_or x (am_shl 1 g)) k = if k = g then 1 else bt x k := by
  obtain ⟨n, rfl⟩ : ∃ n : Nat, x = (n : Int) := ⟨x.toNat, by omega⟩
  obtain ⟨m, rfl⟩ : ∃ n : Nat, g = (n : Int) := ⟨g.toNat, by omega⟩
  rw [am_or_eq, am_shl_eq]
  have D := bt_D4 ⟨n, by omega⟩ ⟨m, by omega⟩
  refine ⟨⟨D.1, D.2.1⟩, fun k k1 k2 => ?_⟩
  obtain ⟨j, rfl⟩ : ∃ n : Nat, k = (n : Int) := ⟨k.toNat, by omega⟩
  exact D.2.2 ⟨j, by omega⟩
/-- two sets with the same members are the same -/
theorem bt_ext {x y : Int} (hx : 0 ≤ x ∧ x ≤ 255) (hy : 0 ≤ y ∧ y ≤ 255) (h : ∀ k, 0 ≤ k → k ≤ 7 → bt x k = bt y k) : x = y := by
  have e : x.toNat = y.toNat := by
    apply Nat.eq_of_testBit_eq
    intro i
    by_cases c : i ≤ 7
    · have := h i (by omega) (by omega)
      unfold bt at this
      rw [Int.toNat_natCast] at this
      revert this
      cases x.toNat.testBit i <;> cases y.toNat.testBit i <;> simp
    · rw [Nat.testBit_lt_two_pow (Nat.lt_of_lt_of_le (show x.toNat < 2 ^ 8 by omega) (Nat.pow_le_pow_right (by omega) (by omega))), Nat.testBit_lt_two_pow (Nat.lt_of_lt_of_le (show y.toNat < 2 ^ 8 by omega) (Nat.pow_le_pow_right (by omega) (by omega)))]
  omega
