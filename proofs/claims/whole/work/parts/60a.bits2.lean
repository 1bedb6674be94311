/-! counting bits -/
theorem am_andN {a b : Nat} (ha : a < 2147483648) (hb : b < 2147483648) : am_and (a : Int) (b : Int) = ((a &&& b : Nat) : Int) := by
  rw [am_and_eq, am_cast, am_cast]
  show (nI a &&& nI b).toInt = _
  have e : nI a &&& nI b = nI (a &&& b) := by
    apply Int32.toBitVec_inj.1
    show BitVec.ofNat 32 a &&& BitVec.ofNat 32 b = BitVec.ofNat 32 (a &&& b)
    apply BitVec.eq_of_getLsbD_eq
    intro i hi
    simp [hi]
  rw [e, nI_toInt (Nat.lt_of_le_of_lt Nat.and_le_left ha)]
theorem am_orN {a b : Nat} (ha : a < 256) (hb : b < 256) : am_or (a : Int) (b : Int) = ((a ||| b : Nat) : Int) ∧ a ||| b < 256 := by
  have l : a ||| b < 2 ^ 8 := Nat.or_lt_two_pow (by omega) (by omega)
  rw [am_or_eq, am_cast, am_cast]
  show (nI a ||| nI b).toInt = _ ∧ _
  rw [wt_orN, nI_toInt (by omega)]
  exact ⟨rfl, by omega⟩
theorem bt_or2 {x y : Int} (hx : 0 ≤ x ∧ x ≤ 255) (hy : 0 ≤ y ∧ y ≤ 255) : (0 ≤ am_or x y ∧ am_or x y ≤ 255) ∧ ∀ k, bt (am_or x y) k = 1 ↔ (bt x k = 1 ∨ bt y k = 1) := by
  obtain ⟨a, rfl⟩ : ∃ n : Nat, x = (n : Int) := ⟨x.toNat, by omega⟩
  obtain ⟨b, rfl⟩ : ∃ n : Nat, y = (n : Int) := ⟨y.toNat, by omega⟩
  have o := am_orN (a := a) (b := b) (by omega) (by omega)
  rw [o.1]
  refine ⟨by omega, fun k => ?_⟩
  unfold bt
  rw [Int.toNat_natCast, Int.toNat_natCast, Int.toNat_natCast, Nat.testBit_or]
  cases a.testBit k.toNat <;> cases b.testBit k.toNat <;> simp
theorem bt_and0 {x y : Int} (hx : 0 ≤ x ∧ x ≤ 255) (hy : 0 ≤ y ∧ y ≤ 255) : (0 ≤ am_and x y ∧ am_and x y ≤ 255) ∧ ∀ k, bt (am_and x y) k = 1 ↔ (bt x k = 1 ∧ bt y k = 1) := by
  obtain ⟨a, rfl⟩ : ∃ n : Nat, x = (n : Int) := ⟨x.toNat, by omega⟩
  obtain ⟨b, rfl⟩ : ∃ n : Nat, y = (n : Int) := ⟨y.toNat, by omega⟩
  have l : a &&& b ≤ a := Nat.and_le_left
  rw [am_andN (by omega) (by omega)]
  refine ⟨by omega, fun k => ?_⟩
  unfold bt
  rw [Int.toNat_natCast, Int.toNat_natCast, Int.toNat_natCast, Nat.testBit_and]
  cases a.testBit k.toNat <;> cases b.testBit k.toNat <;> simp
theorem bt_z (k : Int) : bt 0 k = 0 := by unfold bt; simp
theorem bt_nz {x y : Int} (hx : 0 ≤ x ∧ x ≤ 255) (hy : 0 ≤ y ∧ y ≤ 255) : am_and x y ≠ 0 ↔ ∃ k, (0 ≤ k ∧ k ≤ 7) ∧ bt x k = 1 ∧ bt y k = 1 := by
  have o := bt_and0 hx hy
  constructor
  · intro h
    by_cases c : ∃ k, (0 ≤ k ∧ k ≤ 7) ∧ bt x k = 1 ∧ bt y k = 1
    · exact c
    · exfalso
      apply h
      refine bt_ext o.1 (by omega) (fun k k1 k2 => ?_)
      rw [bt_z]
      rcases bt_01 (am_and x y) k with z | z
      · exact z
      · exact absurd ⟨k, ⟨k1, k2⟩, (o.2 k).mp z⟩ c
  · intro ⟨k, _, k2⟩ e
    have := (o.2 k).mpr k2
    rw [e, bt_z] at this
    omega
theorem am_us1 : ∀ a : Fin 512, ((Int32.ofInt (a.val : Int)).toUInt32 >>> ((Int32.ofInt 1).toUInt32 &&& Int32.toUInt32 31)).toInt32.toInt = ((a.val / 2 : Nat) : Int) := by decide +kernel
theorem am_us2 : ∀ a : Fin 512, ((Int32.ofInt (a.val : Int)).toUInt32 >>> ((Int32.ofInt 2).toUInt32 &&& Int32.toUInt32 31)).toInt32.toInt = ((a.val / 4 : Nat) : Int) := by decide +kernel
theorem am_us4 : ∀ a : Fin 512, ((Int32.ofInt (a.val : Int)).toUInt32 >>> ((Int32.ofInt 4).toUInt32 &&& Int32.toUInt32 31)).toInt32.toInt = ((a.val / 16 : Nat) : Int) := by decide +kernel
theorem am_us8 : ∀ a : Fin 512, ((Int32.ofInt (a.val : Int)).toUInt32 >>> ((Int32.ofInt 8).toUInt32 &&& Int32.toUInt32 31)).toInt32.toInt = ((a.val / 256 : Nat) : Int) := by decide +kernel
theorem am_us16 : ∀ a : Fin 512, ((Int32.ofInt (a.val : Int)).toUInt32 >>> ((Int32.ofInt 16).toUInt32 &&& Int32.toUInt32 31)).toInt32.toInt = 0 := by decide +kernel
theorem am_m1 : ∀ a : Fin 512, (Int32.ofInt (a.val : Int) &&& Int32.ofInt 1431655765).toInt = ((a.val &&& 1431655765 : Nat) : Int) := by decide +kernel
theorem am_m2 : ∀ a : Fin 512, (Int32.ofInt (a.val : Int) &&& Int32.ofInt 858993459).toInt = ((a.val &&& 858993459 : Nat) : Int) := by decide +kernel
theorem am_m3 : ∀ a : Fin 512, (Int32.ofInt (a.val : Int) &&& Int32.ofInt 252645135).toInt = ((a.val &&& 252645135 : Nat) : Int) := by decide +kernel
theorem am_m4 : ∀ a : Fin 512, (Int32.ofInt (a.val : Int) &&& Int32.ofInt 63).toInt = ((a.val &&& 63 : Nat) : Int) := by decide +kernel
def bcm1 (n : Nat) : Nat := n &&& 1431655765
def bcm2 (n : Nat) : Nat := n &&& 858993459
def bcm3 (n : Nat) : Nat := n &&& 252645135
def bcm4 (n : Nat) : Nat := n &&& 63
theorem bcm1_eq {n : Nat} (h : n < 512) : am_and (n : Int) 1431655765 = (bcm1 n : Int) ∧ bcm1 n ≤ n := ⟨by rw [am_and_eq]; exact am_m1 ⟨n, h⟩, Nat.and_le_left⟩
theorem bcm2_eq {n : Nat} (h : n < 512) : am_and (n : Int) 858993459 = (bcm2 n : Int) ∧ bcm2 n ≤ n := ⟨by rw [am_and_eq]; exact am_m2 ⟨n, h⟩, Nat.and_le_left⟩
theorem bcm3_eq {n : Nat} (h : n < 512) : am_and (n : Int) 252645135 = (bcm3 n : Int) ∧ bcm3 n ≤ n := ⟨by rw [am_and_eq]; exact am_m3 ⟨n, h⟩, Nat.and_le_left⟩
theorem bcm4_eq {n : Nat} (h : n < 512) : am_and (n : Int) 63 = (bcm4 n : Int) ∧ bcm4 n ≤ n := ⟨by rw [am_and_eq]; exact am_m4 ⟨n, h⟩, Nat.and_le_left⟩
def pcn (x : Int) : Nat → Int
  | 0 => 0
  | n + 1 => pcn x n + bt x n
def pc (x : Int) : Int := pcn x 8
theorem pcn_r (x : Int) : ∀ n : Nat, 0 ≤ pcn x n ∧ pcn x n ≤ n := by
  intro n
  induction n with
  | zero => simp [pcn]
  | succ n ih =>
    rw [pcn]
    have := bt_01 x n
    omega
def bc1 (n : Nat) : Nat := n - bcm1 (n / 2)
def bc2 (v : Nat) : Nat := bcm2 v + bcm2 (v / 4)
def bc3 (v : Nat) : Nat := bcm3 (v + v / 16)
def bc4 (v : Nat) : Nat := v + v / 256
theorem bc_D : ∀ n : Fin 256, ((bcm4 (bc4 (bc3 (bc2 (bc1 n.val)))) : Nat) : Int) = pc (n.val : Int) := by decide +kernel
