/-! bits of a long -/
def lb (x : Int64) (k : Int) : Bool := x.toBitVec.getLsbD k.toNat
theorem lb_sh : ∀ k : Fin 37, ((((Int32.ofInt (k.val : Int)).toInt64 &&& 63).toBitVec).smod 64).toNat = k.val := by decide +kernel
theorem lb_1 : ∀ i, i < 64 → 1 ≤ i → (1#64).getLsbD i = false := by decide
theorem lb_m1 : ∀ i, i < 64 → (BitVec.ofInt 64 (-1)).getLsbD i = true := by decide
theorem lb_shr {x : Int64} {k : Int} (hk : 0 ≤ k ∧ k ≤ 36) : (am_lshr x k).toBitVec = x.toBitVec.sshiftRight k.toNat := by
  rw [am_lshr_eq]
  have e := lb_sh ⟨k.toNat, by omega⟩
  simp only at e
  rw [show ((k.toNat : Nat) : Int) = k by omega] at e
  show BitVec.sshiftRight x.toBitVec ((((Int32.ofInt k).toInt64 &&& 63).toBitVec).smod 64).toNat = _
  rw [e]
theorem lb_shl {x : Int64} {k : Int} (hk : 0 ≤ k ∧ k ≤ 36) : (am_lshl x k).toBitVec = x.toBitVec <<< k.toNat := by
  rw [am_lshl_eq]
  have e := lb_sh ⟨k.toNat, by omega⟩
  simp only at e
  rw [show ((k.toNat : Nat) : Int) = k by omega] at e
  show x.toBitVec <<< ((((Int32.ofInt k).toInt64 &&& 63).toBitVec).smod 64).toNat = _
  rw [e]
theorem lb_fit {x : Int64} {k : Int} (hk : 0 ≤ k ∧ k ≤ 36) : am_lshr x k &&& Int64.ofInt 1 = if lb x k = true then Int64.ofInt 1 else Int64.ofInt 0 := by
  apply Int64.toBitVec_inj.mp
  apply BitVec.eq_of_getLsbD_eq
  intro i hi
  have e1 : (am_lshr x k &&& Int64.ofInt 1).toBitVec = x.toBitVec.sshiftRight k.toNat &&& 1#64 := by
    rw [← lb_shr hk]; rfl
  rw [e1, BitVec.getLsbD_and, BitVec.getLsbD_sshiftRight]
  have e2 : (if lb x k = true then Int64.ofInt 1 else Int64.ofInt 0).toBitVec = if lb x k = true then 1#64 else 0#64 := by split <;> rfl
  rw [e2]
  unfold lb
  by_cases c : i = 0
  · subst c
    rw [show (1#64).getLsbD 0 = true from rfl, if_pos (show k.toNat + 0 < 64 by omega), Nat.add_zero]
    cases x.toBitVec.getLsbD k.toNat <;> rfl
  · rw [lb_1 i hi (by omega), Bool.and_false]
    split
    · rw [lb_1 i hi (by omega)]
    · simp
theorem lb_cmp {x : Int64} {k : Int} (hk : 0 ≤ k ∧ k ≤ 36) : am_lcmp (am_lshr x k &&& Int64.ofInt 1) (Int64.ofInt 0) = if lb x k = true then 1 else 0 := by
  rw [lb_fit hk]
  split
  · decide
  · decide
theorem lb_clr {x : Int64} {k j : Int} (hk : 0 ≤ k ∧ k ≤ 36) (hj : 0 ≤ j ∧ j ≤ 36) : lb (x &&& (am_lshl (Int64.ofInt 1) k ^^^ Int64.ofInt (-1))) j = true ↔ (lb x j = true ∧ j ≠ k) := by
  unfold lb
  have e1 : (x &&& (am_lshl (Int64.ofInt 1) k ^^^ Int64.ofInt (-1))).toBitVec = x.toBitVec &&& ((1#64 <<< k.toNat) ^^^ BitVec.ofInt 64 (-1)) := by
    rw [show (1#64 : BitVec 64) = (Int64.ofInt 1).toBitVec from rfl, ← lb_shl hk]; rfl
  rw [e1, BitVec.getLsbD_and, BitVec.getLsbD_xor, lb_m1 _ (by omega), BitVec.getLsbD_shiftLeft]
  by_cases c : j = k
  · subst c
    rw [show decide (j.toNat < j.toNat) = false by simp, show decide (j.toNat < 64) = true by simp; omega, Nat.sub_self, show (1#64).getLsbD 0 = true from rfl]
    simp
  · by_cases d : j.toNat < k.toNat
    · rw [show decide (j.toNat < k.toNat) = true by simp; omega]
      simp [c]
    · rw [lb_1 (j.toNat - k.toNat) (by omega) (by omega)]
      simp [c]
theorem lb_all {j : Int} (hj : 0 ≤ j ∧ j ≤ 36) : lb (Int64.ofInt (-1)) j = true := by
  unfold lb
  exact lb_m1 _ (by omega)
