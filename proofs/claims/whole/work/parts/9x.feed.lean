section
theorem nar_c : ∀ x : Nat, x < 127 → vp_nar .char (iC (iI (x : Int))) = iI (x : Int) := by decide +kernel
theorem by_255 : ∀ i : Nat, i < 32 → (255#32).getLsbD i = decide (i < 8) := by decide
/-- the low byte is the same, whichever way the rest is filled -/
theorem by_sh {v : Int64} {k : Nat} (h : k ≤ 56) : (((v >>> (Int64.ofNat k)).toInt32 &&& iI 255 : Int32)) = ((v.toUInt64 >>> (UInt64.ofNat k)).toInt64).toInt32 &&& iI 255 := by
  apply Int32.toBitVec_inj.mp
  have e255 : (iI 255).toBitVec = 255#32 := by decide
  have ek : ((Int64.ofNat k).toBitVec.smod 64).toNat = k := by
    have : ∀ j : Nat, j ≤ 56 → ((Int64.ofNat j).toBitVec.smod 64).toNat = j := by decide
    exact this k h
  have ek2 : (UInt64.ofNat k % 64).toNat = k := by
    have : ∀ j : Nat, j ≤ 56 → (UInt64.ofNat j % 64).toNat = j := by decide
    exact this k h
  apply BitVec.eq_of_getLsbD_eq
  intro i hi
  rw [Int32.toBitVec_and, Int32.toBitVec_and, BitVec.getLsbD_and, BitVec.getLsbD_and, e255, by_255 i hi]
  by_cases y : i < 8
  · congr 1
    rw [Int64.toBitVec_toInt32, Int64.toBitVec_toInt32, BitVec.getLsbD_signExtend, BitVec.getLsbD_signExtend, if_pos (show i < 64 by omega), if_pos (show i < 64 by omega)]
    congr 1
    rw [Int64.toBitVec_shiftRight]
    show (v.toBitVec.sshiftRight ((Int64.ofNat k).toBitVec.smod 64).toNat).getLsbD i = ((v.toBitVec >>> (UInt64.ofNat k % 64).toNat)).getLsbD i
    rw [ek, ek2, BitVec.getLsbD_sshiftRight, BitVec.getLsbD_ushiftRight]
    simp [show ¬ 64 ≤ i by omega, show k + i < 64 by omega]
  · rw [decide_eq_false y, Bool.and_false, Bool.and_false]
theorem by_eq {v : Int64} {s : Int} (s0 : 0 ≤ s) (s1 : s ≤ 56) : (lUshr v (iI s)).toInt32 &&& iI 255 = (lShr v (iI s)).toInt32 &&& iI 255 := by
  have h1 : ∀ j : Nat, j ≤ 56 → (iI (j : Int)).toInt64 &&& 63 = Int64.ofNat j := by decide +kernel
  have h2 : ∀ j : Nat, j ≤ 56 → (iI (j : Int)).toInt64.toUInt64 &&& Int64.toUInt64 63 = UInt64.ofNat j := by decide +kernel
  obtain ⟨j, rfl⟩ := Int.eq_ofNat_of_zero_le s0
  unfold lUshr lShr
  rw [h1 j (by omega), h2 j (by omega)]
  exact (by_sh (by omega)).symm
theorem okC_r {x : Int32} (h : okC x = true) : (10 ≤ x.toInt ∧ x.toInt ≤ 126) ∧ vp_nar .char (iC x) = x := by
  have r : 10 ≤ x.toInt ∧ x.toInt ≤ 126 := by
    unfold okC at h
    rw [Bool.or_eq_true] at h
    rcases h with h | h
    · have := of_decide_eq_true h
      subst this
      exact ⟨by decide, by decide⟩
    · rw [Bool.and_eq_true, Bool.not_eq_true', Bool.not_eq_true'] at h
      have a1 := of_decide_eq_false h.1
      have a2 := of_decide_eq_false h.2
      rw [Int32.lt_iff_toInt_lt] at a1 a2
      have e1 : (iI 32).toInt = 32 := by decide
      have e2 : (iI 126).toInt = 126 := by decide
      omega
  refine ⟨r, ?_⟩
  have := nar_c x.toInt.toNat (by omega)
  rw [show ((x.toInt.toNat : Nat) : Int) = x.toInt by omega, iI_toInt] at this
  exact this
end
