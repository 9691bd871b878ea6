def bi (y : Int32) (k : Int) : Bool := y.toBitVec.getLsbD k.toNat
section
theorem shl32 : ∀ k : Fin 32, (iShl (iI 1) (iI (k.val : Int))).toBitVec = BitVec.twoPow 32 k.val := by decide +kernel
theorem shl_u {k : Int} (k0 : 0 ≤ k) (k1 : k < 32) : (iShl (iI 1) (iI k)).toBitVec = BitVec.twoPow 32 k.toNat := by
  have := shl32 ⟨k.toNat, by omega⟩
  simp only at this
  rw [show ((k.toNat : Nat) : Int) = k by omega] at this
  exact this
theorem bi_or {y : Int32} {k j : Int} (k0 : 0 ≤ k) (k1 : k < 32) (j0 : 0 ≤ j) (j1 : j < 32) : bi (y ||| iShl (iI 1) (iI k)) j = (bi y j || decide (j = k)) := by
  unfold bi
  rw [Int32.toBitVec_or, shl_u k0 k1, BitVec.getLsbD_or, BitVec.getLsbD_twoPow]
  congr 1
  by_cases z : j = k
  · rw [z]
    simp
    omega
  · rw [decide_eq_false z]
    simp
    omega
theorem bi_and {x y : Int32} {j : Int} : bi (x &&& y) j = (bi x j && bi y j) := by
  unfold bi
  rw [Int32.toBitVec_and, BitVec.getLsbD_and]
theorem bi_not {y : Int32} {j : Int} (j0 : 0 ≤ j) (j1 : j < 32) : bi (y ^^^ iI (-1)) j = !bi y j := by
  unfold bi
  rw [Int32.toBitVec_xor, BitVec.getLsbD_xor]
  have e : (iI (-1)).toBitVec = BitVec.allOnes 32 := by decide
  rw [e, BitVec.getLsbD_allOnes, decide_eq_true (show j.toNat < 32 by omega)]
  simp
theorem bi_t {y : Int32} {k : Int} (k0 : 0 ≤ k) (k1 : k < 32) : (y &&& iShl (iI 1) (iI k) = iI 0) = (bi y k = false) := by
  apply propext
  rw [← Int32.toBitVec_inj, Int32.toBitVec_and, shl_u k0 k1, BitVec.and_twoPow]
  unfold bi
  cases z : y.toBitVec.getLsbD k.toNat
  · simp
    rfl
  · simp only [if_true, reduceCtorEq, iff_false]
    intro h
    have h9 := congrArg (fun b => b.getLsbD k.toNat) h
    simp only [BitVec.getLsbD_twoPow] at h9
    rw [show (iI 0).toBitVec = 0#32 from rfl] at h9
    simp at h9
    omega
theorem bi_0 {k : Int} : bi (iI 0) k = false := by
  unfold bi
  rw [show (iI 0).toBitVec = 0#32 from rfl]
  simp
theorem shr_u {y : Int32} {j : Int} (j0 : 0 ≤ j) (j1 : j < 32) : ((iShr y (iI j) &&& iI 1) = iI 0) = (bi y j = false) := by
  apply propext
  have hs : ∀ k : Fin 32, ((iI (k.val : Int) &&& 31).toBitVec.smod 32).toNat = k.val := by decide
  have e0 : (iShr y (iI j)).toBitVec = y.toBitVec.sshiftRight j.toNat := by
    unfold iShr
    rw [Int32.toBitVec_shiftRight]
    have := hs ⟨j.toNat, by omega⟩
    simp only at this
    rw [show ((j.toNat : Nat) : Int) = j by omega] at this
    show y.toBitVec.sshiftRight _ = _
    rw [this]
  have e : (iShr y (iI j) &&& iI 1).toBitVec = if y.toBitVec.getLsbD j.toNat then 1#32 else 0#32 := by
    rw [Int32.toBitVec_and, e0]
    have h := BitVec.and_twoPow (y.toBitVec.sshiftRight j.toNat) 0
    rw [BitVec.getLsbD_sshiftRight] at h
    simp only [Nat.add_zero] at h
    rw [if_pos (show j.toNat < 32 by omega)] at h
    simp only [show ¬ 32 ≤ 0 by omega, decide_false, Bool.not_false, Bool.true_and] at h
    exact h
  rw [← Int32.toBitVec_inj, e]
  unfold bi
  cases y.toBitVec.getLsbD j.toNat
  · simp
    rfl
  · simp
    intro h
    exact absurd h (by decide)
end
