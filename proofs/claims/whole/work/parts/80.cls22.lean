section
variable {D D' D1 D2 : Nat → Nat → Int32} {m m' m1 m2 m'' : mm_M} {d s W L H p n P : Nat} {B : Int → Int} {take : Int} {late : Bool}
theorem shr_b {y : Int32} {j : Int} (j0 : 0 ≤ j) (j1 : j < 8) : (iShr y (iI j)).toBitVec = y.toBitVec.sshiftRight j.toNat := by
  have : j = 0 ∨ j = 1 ∨ j = 2 ∨ j = 3 ∨ j = 4 ∨ j = 5 ∨ j = 6 ∨ j = 7 := by omega
  unfold iShr
  rw [Int32.toBitVec_shiftRight]
  rcases this with rfl | rfl | rfl | rfl | rfl | rfl | rfl | rfl <;> rfl
theorem bit_0 {y : Int32} {j : Int} (j0 : 0 ≤ j) (j1 : j < 8) : ((iShr y (iI j) &&& iI 1) = iI 0) ↔ y.toBitVec.getLsbD j.toNat = false := by
  have e : (iShr y (iI j) &&& iI 1).toBitVec = if y.toBitVec.getLsbD j.toNat then 1#32 else 0#32 := by
    rw [Int32.toBitVec_and, shr_b j0 j1]
    have h := BitVec.and_twoPow (y.toBitVec.sshiftRight j.toNat) 0
    rw [BitVec.getLsbD_sshiftRight] at h
    simp only [Nat.add_zero] at h
    rw [if_pos (show j.toNat < 32 by omega)] at h
    simp only [show ¬ 32 ≤ 0 by omega, decide_false, Bool.not_false, Bool.true_and] at h
    exact h
  rw [← Int32.toBitVec_inj, e]
  cases y.toBitVec.getLsbD j.toNat
  · simp
    rfl
  · simp
    intro h
    exact absurd h (by decide)
theorem shl1_b : ∀ k : Fin 8, (iShl (iI 1) (iI (k.val : Int))).toBitVec = BitVec.twoPow 32 k.val := by decide +kernel
theorem shl_t {k : Int} (k0 : 0 ≤ k) (k1 : k < 8) : (iShl (iI 1) (iI k)).toBitVec = BitVec.twoPow 32 k.toNat := by
  have := shl1_b ⟨k.toNat, by omega⟩
  simp only at this
  rw [show ((k.toNat : Nat) : Int) = k by omega] at this
  exact this
theorem or_0 {y : Int32} {k j : Int} (k0 : 0 ≤ k) (k1 : k < 8) (j0 : 0 ≤ j) (j1 : j < 8) : ((iShr (y ||| iShl (iI 1) (iI k)) (iI j) &&& iI 1) = iI 0) ↔ ((iShr y (iI j) &&& iI 1) = iI 0 ∧ ¬ j = k) := by
  rw [bit_0 j0 j1, bit_0 j0 j1, Int32.toBitVec_or, shl_t k0 k1, BitVec.getLsbD_or, BitVec.getLsbD_twoPow, Bool.or_eq_false_iff]
  constructor
  · rintro ⟨h1, h2⟩
    refine ⟨h1, fun h => ?_⟩
    rw [h] at h2
    simp at h2
    omega
  · rintro ⟨h1, h2⟩
    refine ⟨h1, ?_⟩
    simp
    omega
theorem mkH {k : Int} (k0 : 0 ≤ k) (k1 : k < 4) : (276 + 10 * k.toNat) ∈ hsL ∧ (280 + 10 * k.toNat) ∈ ppL := by
  have : k = 0 ∨ k = 1 ∨ k = 2 ∨ k = 3 := by omega
  rcases this with rfl | rfl | rfl | rfl <;> decide
theorem mkR (h : Sh m) {k : Int} (k0 : 0 ≤ k) (k1 : k < 4) : mm_gR m 170 k.toNat = some (276 + 10 * k.toNat) ∧ mm_gR m 171 k.toNat = some (280 + 10 * k.toNat) := by
  have : k = 0 ∨ k = 1 ∨ k = 2 ∨ k = 3 := by omega
  rcases this with rfl | rfl | rfl | rfl <;> exact ⟨h.gR (by decide) rfl rfl, h.gR (by decide) rfl rfl⟩
theorem p163 : 163 ∈ ppL := by decide
theorem mkd_u {k j : Int} {v : Int32} (k0 : 0 ≤ k) (j0 : 0 ≤ j) : mkd (up D 333 k.toNat v) j = if j = k then v.toInt else mkd D j := by
  unfold mkd up
  by_cases z : j = k
  · rw [if_pos ⟨rfl, by omega⟩, if_pos z]
  · rw [if_neg (by omega), if_neg z]
/-- mark, laid -/
theorem C152m (h : RCm D m s p) (k9 : st D 6 ≤ 8) (hd : 8 ≤ d) {k : Int} (k0 : 0 ≤ k) (k1 : k < 4) : ∃ m', mm_ev d 152 26 [some (.ref 100), some (.int (iI (k))), some (.int (iI (0)))] [] m = some (some (some (.int (iI 1))), m') ∧ RCm (cpD (up D 333 k.toNat (iI 1)) 0 (80 * (1 + k.toNat)) 80) m' s p ∧ FU m m' := by
  obtain ⟨hQ, hp, hg, hN, hP, hU, hM⟩ := id h
  have xf := shX hQ.1
  have wf := shW hQ.1
  obtain ⟨hH, hPP⟩ := mkH k0 k1
  obtain ⟨r1, r2⟩ := mkR hQ.1 k0 k1
  have hf := hF hQ.1 hH
  obtain ⟨m1, e1, v1⟩ := C11 (d := d - 1) hQ.1 (H := 276 + 10 * k.toNat) (G := 155) hH h155 (by omega) (by omega)
  have fz : ∀ (mm mx : mm_M) (Q : Nat → Nat → Bool), Fr Q mm mx → (∀ a j, Q a j = true → 276 ≤ a ∧ a ≤ 315) → FU mm mx := fun mm mx Q f hq => f.U (fun a j z => by
    cases e : Q a j
    · rfl
    · exact absurd (hq a j e) (rg_f (scU_i z).2.2.2.2.2.2))
  have f1 : Fr (scD (276 + 10 * k.toNat)) m m1 := v1.hd (fun a j z => by rw [if_neg (by omega), if_neg (by omega), if_neg (by omega), if_neg (by omega)])
  have sh1 := f1.sh hQ.1
  have xf1 := shX sh1
  have wf1 := shW sh1
  obtain ⟨r1', r2'⟩ := mkR sh1 k0 k1
  have pf1 := ppF sh1 hPP
  obtain ⟨m2, e2, f2, w0, w3, wi⟩ := C31 (d := d - 1) sh1 (P := 280 + 10 * k.toNat) (Q := 163) hPP p163 (by omega)
  have sh2 := f2.sh sh1
  have xf2 := shX sh2
  have q1 : ∀ a j, ¬ (276 + 10 * k.toNat ≤ a ∧ a ≤ 279 + 10 * k.toNat) → mm_gI m1 a j = mm_gI m a j := fun a j z => f1.gI (scD_n (by omega))
  have q2 : ∀ a j, ¬ (280 + 10 * k.toNat ≤ a ∧ a ≤ 285 + 10 * k.toNat) → mm_gI m2 a j = mm_gI m1 a j := fun a j z => f2.gI (scQ_n (by omega))
  have b14 : mm_gI m2 100 14 = mm_gI m 100 14 := (q2 _ _ (by omega)).trans (q1 _ _ (by omega))
  have q3 : ∀ a j, ¬ (276 + 10 * k.toNat ≤ a ∧ a ≤ 285 + 10 * k.toNat) → ¬ (a = 100 ∧ j = 14) → mm_gI (mm_sI m2 100 14 (mm_gI m 100 14 ||| iShl (iI 1) (iI k))) a j = mm_gI m a j := fun a j z1 z2 => by
    rw [gI_sI, if_neg z2, q2 _ _ (by omega), q1 _ _ (by omega)]
  have fu : FU m (mm_sI m2 100 14 (mm_gI m 100 14 ||| iShl (iI 1) (iI k))) := by
    refine ((fz _ _ _ f1 (fun a j z => ?_)).tr (fz _ _ _ f2 (fun a j z => ?_))).tr (Fr.U (P := fun x y => Nat.beq x 100 && Nat.beq y 14) (Fr.sI rfl) (fun _ _ z => (scU_i z).2.2.2.2.1))
    · unfold scD at z
      rw [Bool.and_eq_true, Nat.ble_eq, Nat.ble_eq] at z
      omega
    · unfold scQ at z
      rw [Bool.and_eq_true, Nat.ble_eq, Nat.ble_eq] at z
      omega
  have s2 : SamS D (cpD (up D 333 k.toNat (iI 1)) 0 (80 * (1 + k.toNat)) 80) := (sam_up (by omega) (by omega) (by omega)).tr sam_cp
  have eo : ∀ j, ¬ (80 * (1 + k.toNat) ≤ j ∧ j < 80 * (1 + k.toNat) + 80) → cpD (up D 333 k.toNat (iI 1)) 0 (80 * (1 + k.toNat)) 80 332 j = D 332 j := fun j z => by
    unfold cpD up
    rw [if_neg (by omega), if_neg (by omega)]
  have ei : ∀ j : Int, 0 ≤ j → j < 80 → sa (cpD (up D 333 k.toNat (iI 1)) 0 (80 * (1 + k.toNat)) 80) (80 * (1 + k) + j) = sa D j := fun j j0 j1 => by
    unfold sa cpD up
    rw [if_pos (by omega), if_neg (by omega)]
    congr 2
    omega
  have em : ∀ j : Int, 0 ≤ j → mkd (cpD (up D 333 k.toNat (iI 1)) 0 (80 * (1 + k.toNat)) 80) j = if j = k then 1 else mkd D j := fun j j0 => by
    have : mkd (cpD (up D 333 k.toNat (iI 1)) 0 (80 * (1 + k.toNat)) 80) j = mkd (up D 333 k.toNat (iI 1)) j := by
      unfold mkd cpD
      rw [if_neg (by omega)]
    rw [this, mkd_u k0 j0]
    rfl
  refine ⟨mm_sI m2 100 14 (mm_gI m 100 14 ||| iShl (iI 1) (iI k)), ?_, ?_, fu⟩
  · rw [sg_152_26 (by omega)]
    simp (disch := omega) only [xf, wf, r1, hf, ↓reduceIte, not_false_eq_true, not_true_eq_false, and_self, and_true, true_and, false_and, and_false, or_true, true_or, or_false, false_or, or_self, reduceCtorEq, mm_q, Option.getD_some, cI_some, cJ_some, cV_some, cS_some, kd_sI, kd_sL, kd_sR, kd_cp, ln_sI, ln_sL, ln_sR, ln_cp, gR_sI, gR_sL, gR_sR, gR_cp, gL_sI, gL_sR, gL_cp, gI_sL, gI_sR, iI_add, iI_sub, iI_mul, iI_neg, iI_in, iI_tn, iI_lt, iI_eq, Nat.reduceLeDiff, Nat.reduceEqDiff, Nat.reduceAdd, Int.reduceEq, Int.reduceLT, Int.reduceLE, Int.reduceNeg, Int.reduceAdd, Int.reduceSub, Int.reduceMul, e1]
    rw [sg_152_80 (by omega)]
    simp (disch := omega) only [xf1, wf1, r2', pf1, xf2, ↓reduceIte, not_false_eq_true, not_true_eq_false, and_self, and_true, true_and, false_and, and_false, or_true, true_or, or_false, false_or, or_self, reduceCtorEq, mm_q, Option.getD_some, cI_some, cJ_some, cV_some, cS_some, kd_sI, kd_sL, kd_sR, kd_cp, ln_sI, ln_sL, ln_sR, ln_cp, gR_sI, gR_sL, gR_sR, gR_cp, gL_sI, gL_sR, gL_cp, gI_sL, gI_sR, iI_add, iI_sub, iI_mul, iI_neg, iI_in, iI_tn, iI_lt, iI_eq, Nat.reduceLeDiff, Nat.reduceEqDiff, Nat.reduceAdd, Int.reduceEq, Int.reduceLT, Int.reduceLE, Int.reduceNeg, Int.reduceAdd, Int.reduceSub, Int.reduceMul, e2, b14]
  · refine pap_fin h k9 s2 (by unfold cpD up; rw [if_neg (by omega), if_neg (by omega)]) (fun j j1 => eo j (by omega)) (fun j j0 => eo j (by omega)) (fun j => by unfold cpD up; rw [if_neg (by omega), if_neg (by omega)]) fu (fun a j => (f2.2.2.1 a j).trans (f1.2.2.1 a j)) (fun a j h0 h1 h2 => q3 a j (by omega) h2) (hP.ch (fun j j0 j1 => eo j (by omega)) (fun a j h0 h1 _ => q3 a j (by omega) (by omega))) ?_
    intro j j0 j1
    rw [gI_sI, if_pos ⟨rfl, rfl⟩, or_0 k0 (by omega) j0 (by omega), em j j0]
    obtain ⟨a, b⟩ := hM j j0 j1
    by_cases y : j = k
    · rw [if_pos y]
      refine ⟨⟨fun z => absurd y z.2, fun z => absurd z (by decide)⟩, fun _ => ?_⟩
      rw [y]
      have hx := hQ.2.2.2.2.2.1.up2 v1 k9
      have hx2 : HD D (mm_sI m2 100 14 (mm_gI m 100 14 ||| iShl (iI 1) (iI k))) (276 + 10 * k.toNat) (sa D) := fun w x0 x1 => by
        obtain ⟨p1, p2, p3⟩ := hx w x0 x1
        rw [gI_sI, gI_sI, gI_sI, if_neg (by omega), if_neg (by omega), if_neg (by omega), q2 _ _ (by omega), q2 _ _ (by omega), q2 _ _ (by omega)]
        exact ⟨p1, p2, p3⟩
      refine ⟨s2.hd (hx2.sa (fun i i0 i1 => (ei i (by omega) (by omega)).symm) k9), ?_, ?_⟩
      · rw [gI_sI, if_neg (by omega), q2 _ _ (by omega), v1.2.2.2.2]
        dsimp only
        rw [if_pos ⟨rfl, rfl⟩, hQ.2.2.2.2.2.2]
        have := ei 0 (by omega) (by omega)
        rw [Int.add_zero] at this
        rw [this]
      · refine RPn.cp (Q := 163) (b := 0) (P := 280 + 10 * k.toNat) hP ?_ ?_ (fun i x i0 i1 x1 => ?_) (fun i i0 i1 => ?_)
        · rw [gI_sI, if_neg (by omega), w0, q1 _ _ (by omega)]
        · rw [gI_sI, if_neg (by omega), w3, q1 _ _ (by omega)]
        · rw [gI_sI, if_neg (by omega), wi i x i0 i1 x1, q1 _ _ (by omega)]
        · rw [ei i (by omega) (by omega), Int.zero_add]
    · rw [if_neg y]
      refine ⟨⟨fun z => a.mp z.1, fun z => ⟨a.mpr z, y⟩⟩, fun z => ?_⟩
      obtain ⟨b1, b2, b3⟩ := b z
      have es : ∀ i : Int, 80 * (1 + j) ≤ i → i < 80 * (1 + j) + 80 → sa (cpD (up D 333 k.toNat (iI 1)) 0 (80 * (1 + k.toNat)) 80) i = sa D i := fun i i0 i1 => sa_c (eo _ (by omega))
      refine ⟨s2.hd (fun w x0 x1 => ?_), ?_, b3.ch (fun i i0 i1 => es i (by omega) (by omega)) (fun x i x0 x1 _ => q3 _ _ (by omega) (by omega))⟩
      · obtain ⟨p1, p2, p3⟩ := b1 w x0 x1
        unfold ubS at p1 p2 p3 ⊢
        rw [q3 _ _ (by omega) (by omega), q3 _ _ (by omega) (by omega), q3 _ _ (by omega) (by omega), es _ (by omega) (by omega), es _ (by omega) (by omega), es _ (by omega) (by omega)]
        exact ⟨p1, p2, p3⟩
      · rw [q3 _ _ (by omega) (by omega), es _ (by omega) (by omega)]
        exact b2
end
