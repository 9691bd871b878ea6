section
variable {D D' D1 D2 : Nat → Nat → Int32} {m m' m1 m2 m'' : mm_M} {d s W L H p n P : Nat} {B : Int → Int} {take : Int} {late : Bool}
/-- mark, back -/
theorem C152b (h : RCm D m s p) (hI : InvS D) (hL : InvL D) (hd : 8 ≤ d) {k : Int} (k0 : 0 ≤ k) (k1 : k < 4) (hk : ¬ mkd D k = 0) : ∃ m', mm_ev d 152 26 [some (.ref 100), some (.int (iI (k))), some (.int (iI (1)))] [] m = some (some (some (.int (iI 1))), m') ∧ RCm (up (cpD (up D 333 k.toNat (iI 1)) (80 * (1 + k.toNat)) 0 80) 316 26 (iI 0)) m' s p ∧ FU m m' := by
  obtain ⟨hQ, hp, hg, hN, hP, hU, hM⟩ := id h
  obtain ⟨k8, k9⟩ := hI.2.2.2.2.2.1
  have gs : s = 104 ∨ s = 125 := hQ.2.1
  have gp : p = 146 ∨ p = 150 := hp
  have xf := shX hQ.1
  have wf := shW hQ.1
  obtain ⟨hH, hPP⟩ := mkH k0 k1
  obtain ⟨r1, r2⟩ := mkR hQ.1 k0 k1
  obtain ⟨ab, bb⟩ := hM k k0 k1
  obtain ⟨bh, bt0, bp⟩ := bb hk
  have hf := hF hQ.1 h155
  obtain ⟨m1, e1, v1⟩ := C11 (d := d - 1) hQ.1 (H := 155) (G := 276 + 10 * k.toNat) h155 hH (by omega) (by omega)
  have f1 : Fr scJ m m1 := v1.fr (fun a j z => by
    have := rg_f z
    rw [if_neg (by omega), if_neg (by omega), if_neg (by omega), if_neg (by omega)])
  have sh1 := f1.sh hQ.1
  have xf1 := shX sh1
  have wf1 := shW sh1
  obtain ⟨r1', r2'⟩ := mkR sh1 k0 k1
  have pf1 := ppF sh1 p163
  obtain ⟨m2, e2, f2, w0, w3, wi⟩ := C31 (d := d - 1) sh1 (P := 163) (Q := 280 + 10 * k.toNat) p163 hPP (by omega)
  have sh2 := f2.sh sh1
  have xf2 := shX sh2
  let m3 := mm_sI (mm_sI m2 100 10 (iI 0)) 100 11 (iI 0)
  have f3 : Fr scR m2 (mm_sI (mm_sI m2 100 10 (iI 0)) 100 11 (iI 0)) := Fr.tr (Fr.sI (scR_t (Or.inl ⟨rfl, Or.inl rfl⟩))) (Fr.sI (scR_t (Or.inl ⟨rfl, Or.inr rfl⟩)))
  have sh3 := f3.sh sh2
  have q1 : ∀ a j, ¬ (155 ≤ a ∧ a ≤ 158) → mm_gI m1 a j = mm_gI m a j := fun a j z => f1.gI (scJ_f z)
  have q2 : ∀ a j, ¬ (163 ≤ a ∧ a ≤ 168) → mm_gI m2 a j = mm_gI m1 a j := fun a j z => f2.gI (scQ_n (by omega))
  have q3 : ∀ a j, ¬ (a = 100 ∧ (j = 10 ∨ j = 11)) → mm_gI (mm_sI (mm_sI m2 100 10 (iI 0)) 100 11 (iI 0)) a j = mm_gI m2 a j := fun a j z => by rw [gI_sI, gI_sI, if_neg (by omega), if_neg (by omega)]
  have qq : ∀ a j, ¬ (155 ≤ a ∧ a ≤ 158) → ¬ (163 ≤ a ∧ a ≤ 168) → ¬ (a = 100 ∧ (j = 10 ∨ j = 11)) → mm_gI (mm_sI (mm_sI m2 100 10 (iI 0)) 100 11 (iI 0)) a j = mm_gI m a j := fun a j z1 z2 z3 => by rw [q3 a j z3, q2 a j z2, q1 a j z1]
  have s2 : SamS D (up (cpD (up D 333 k.toNat (iI 1)) (80 * (1 + k.toNat)) 0 80) 316 26 (iI 0)) := ((sam_up (by omega) (by omega) (by omega)).tr sam_cp).tr (sam_up (by omega) (by omega) (by omega))
  have eo : ∀ j, 80 ≤ j → up (cpD (up D 333 k.toNat (iI 1)) (80 * (1 + k.toNat)) 0 80) 316 26 (iI 0) 332 j = D 332 j := fun j z => by
    unfold up cpD
    rw [if_neg (by omega), if_neg (by omega)]
    dsimp only
    rw [if_neg (by omega)]
  have ei : ∀ j : Int, 0 ≤ j → j < 80 → sa (up (cpD (up D 333 k.toNat (iI 1)) (80 * (1 + k.toNat)) 0 80) 316 26 (iI 0)) j = sa D (80 * (1 + k) + j) := fun j j0 j1 => by
    unfold sa up cpD
    rw [if_neg (by omega), if_pos (by omega)]
    dsimp only
    rw [if_neg (by omega)]
    congr 2
    omega
  have em : ∀ j : Int, 0 ≤ j → mkd (up (cpD (up D 333 k.toNat (iI 1)) (80 * (1 + k.toNat)) 0 80) 316 26 (iI 0)) j = if j = k then 1 else mkd D j := fun j j0 => by
    have : mkd (up (cpD (up D 333 k.toNat (iI 1)) (80 * (1 + k.toNat)) 0 80) 316 26 (iI 0)) j = mkd (up D 333 k.toNat (iI 1)) j := by
      unfold mkd up cpD
      rw [if_neg (by omega), if_neg (by omega)]
    rw [this, mkd_u k0 j0]
    rfl
  have rs3 : RSt D (mm_sI (mm_sI m2 100 10 (iI 0)) 100 11 (iI 0)) s := hQ.2.2.2.1.cg (fun a j h0 h1 _ _ => qq a j (by omega) (by omega) (by omega)) k9
  have hh3 : HD D (mm_sI (mm_sI m2 100 10 (iI 0)) 100 11 (iI 0)) 155 (sa (up (cpD (up D 333 k.toNat (iI 1)) (80 * (1 + k.toNat)) 0 80) 316 26 (iI 0))) := by
    have hx := (bh.up2 v1 k9).sa (C := sa (up (cpD (up D 333 k.toNat (iI 1)) (80 * (1 + k.toNat)) 0 80) 316 26 (iI 0))) (fun i i0 i1 => (ei i (by omega) (by omega)).symm) k9
    intro w x0 x1
    obtain ⟨p1, p2, p3⟩ := hx w x0 x1
    rw [q3 _ _ (by omega), q3 _ _ (by omega), q3 _ _ (by omega), q2 _ _ (by omega), q2 _ _ (by omega), q2 _ _ (by omega)]
    exact ⟨p1, p2, p3⟩
  have h03 : mm_gI (mm_sI (mm_sI m2 100 10 (iI 0)) 100 11 (iI 0)) 155 0 = iI (sa (up (cpD (up D 333 k.toNat (iI 1)) (80 * (1 + k.toNat)) 0 80) 316 26 (iI 0)) 0) := by
    rw [q3 _ _ (by omega), q2 _ _ (by omega), v1.2.2.2.2]
    dsimp only
    rw [if_pos ⟨rfl, rfl⟩, bt0, ei 0 (by omega) (by omega), Int.add_zero]
  obtain ⟨m4, e4, f4, rq4⟩ := C104 (d := d - 1) sh3 hQ.2.1 (((f3.2.2.1 _ _).trans ((f2.2.2.1 _ _).trans (f1.2.2.1 _ _))).trans hQ.2.2.1) (s2.rst rs3) (s2.hd hh3) h03 (s2.invS hI) (s2.invL hL) (by omega)
  have q4 : ∀ a j, ¬ (173 ≤ a ∧ a ≤ 177) → scK a j = false → mm_gI m4 a j = mm_gI (mm_sI (mm_sI m2 100 10 (iI 0)) 100 11 (iI 0)) a j := fun a j z1 z2 => fw_o f4 z1 z2
  refine ⟨m4, ?_, ⟨rq4, hp, ?_, ?_, ?_, ?_, ?_⟩, (((f1.JU).tr (f2.U (fun a j z => scQ_n (rg_f (scU_i z).2.2.2.2.2.1)))).tr f3.RU).tr f4.U⟩
  · have e103 : mm_ev (d - 1) 103 0 [some (.ref 100)] [] m2 = some (some none, mm_sI (mm_sI m2 100 10 (iI 0)) 100 11 (iI 0)) := by
      rw [sg_103_0]
      simp (disch := omega) only [xf2, ↓reduceIte, not_false_eq_true, not_true_eq_false, and_self, and_true, true_and, false_and, and_false, or_true, true_or, or_false, false_or, or_self, reduceCtorEq, mm_q, Option.getD_some, cI_some, cJ_some, cV_some, cS_some, kd_sI, kd_sL, kd_sR, kd_cp, ln_sI, ln_sL, ln_sR, ln_cp, gR_sI, gR_sL, gR_sR, gR_cp, gL_sI, gL_sR, gL_cp, gI_sL, gI_sR, iI_add, iI_sub, iI_mul, iI_neg, iI_in, iI_tn, iI_lt, iI_eq, Nat.reduceLeDiff, Nat.reduceEqDiff, Nat.reduceAdd, Int.reduceEq, Int.reduceLT, Int.reduceLE, Int.reduceNeg, Int.reduceAdd, Int.reduceSub, Int.reduceMul]
    rw [sg_152_26 (by omega)]
    simp (disch := omega) only [xf, wf, r1, hf, ↓reduceIte, not_false_eq_true, not_true_eq_false, and_self, and_true, true_and, false_and, and_false, or_true, true_or, or_false, false_or, or_self, reduceCtorEq, mm_q, Option.getD_some, cI_some, cJ_some, cV_some, cS_some, kd_sI, kd_sL, kd_sR, kd_cp, ln_sI, ln_sL, ln_sR, ln_cp, gR_sI, gR_sL, gR_sR, gR_cp, gL_sI, gL_sR, gL_cp, gI_sL, gI_sR, iI_add, iI_sub, iI_mul, iI_neg, iI_in, iI_tn, iI_lt, iI_eq, Nat.reduceLeDiff, Nat.reduceEqDiff, Nat.reduceAdd, Int.reduceEq, Int.reduceLT, Int.reduceLE, Int.reduceNeg, Int.reduceAdd, Int.reduceSub, Int.reduceMul, e1]
    rw [sg_152_43 (by omega)]
    have xf3 := shX sh3
    simp (disch := omega) only [xf1, wf1, r2', pf1, xf2, xf3, ↓reduceIte, not_false_eq_true, not_true_eq_false, and_self, and_true, true_and, false_and, and_false, or_true, true_or, or_false, false_or, or_self, reduceCtorEq, mm_q, Option.getD_some, cI_some, cJ_some, cV_some, cS_some, kd_sI, kd_sL, kd_sR, kd_cp, ln_sI, ln_sL, ln_sR, ln_cp, gR_sI, gR_sL, gR_sR, gR_cp, gL_sI, gL_sR, gL_cp, gI_sL, gI_sR, iI_add, iI_sub, iI_mul, iI_neg, iI_in, iI_tn, iI_lt, iI_eq, Nat.reduceLeDiff, Nat.reduceEqDiff, Nat.reduceAdd, Int.reduceEq, Int.reduceLT, Int.reduceLE, Int.reduceNeg, Int.reduceAdd, Int.reduceSub, Int.reduceMul, e2, e103, e4]
  · rw [f4.2.2.1 _ _ (by omega), f3.2.2.1, f2.2.2.1, f1.2.2.1]; exact hg
  · refine hN.ch (fun j => by unfold up cpD; rw [if_neg (by omega), if_neg (by omega)]; dsimp only; rw [if_neg (by omega)]) (fun a j h0 h1 => ?_)
    rw [q4 _ _ (by omega) (scK_n (by omega) (by omega) (by omega) (by omega)), qq _ _ (by omega) (by omega) (by omega)]
  · refine RPn.cp (Q := 280 + 10 * k.toNat) (b := 80 * (1 + k)) (c := 0) (P := 163) bp ?_ ?_ (fun i x i0 i1 x1 => ?_) (fun i i0 i1 => ?_)
    · rw [q4 _ _ (by omega) rfl, q3 _ _ (by omega), w0, q1 _ _ (by omega)]
    · rw [q4 _ _ (by omega) rfl, q3 _ _ (by omega), w3, q1 _ _ (by omega)]
    · rw [q4 _ _ (by omega) (scK_n (by omega) (by omega) (by omega) (by omega)), q3 _ _ (by omega), wi i x i0 i1 x1, q1 _ _ (by omega)]
    · rw [Int.zero_add, ei i (by omega) (by omega)]
  · have eu : und (up (cpD (up D 333 k.toNat (iI 1)) (80 * (1 + k.toNat)) 0 80) 316 26 (iI 0)) = 0 := by
      show (up (cpD (up D 333 k.toNat (iI 1)) (80 * (1 + k.toNat)) 0 80) 316 26 (iI 0) 316 26).toInt = 0
      unfold up
      rw [if_pos ⟨rfl, rfl⟩]
      rfl
    refine ⟨by rw [eu]; omega, ?_, 0, by omega, ?_, fun j j0 j1 => by rw [eu] at j1; omega⟩
    · rw [eu, q4 _ _ (by omega) rfl, gI_sI, gI_sI, if_neg (by omega), if_pos ⟨rfl, rfl⟩]
    · rw [q4 _ _ (by omega) rfl, gI_sI, if_pos ⟨rfl, rfl⟩]
  · intro j j0 j1
    have qm : ∀ a i, 276 ≤ a → a ≤ 315 → mm_gI m4 a i = mm_gI m a i := fun a i h0 h1 => by rw [q4 _ _ (by omega) (scK_n (by omega) (by omega) (by omega) (by omega)), qq _ _ (by omega) (by omega) (by omega)]
    rw [q4 _ _ (by omega) rfl, qq _ _ (by omega) (by omega) (by omega), em j j0]
    obtain ⟨a, b⟩ := hM j j0 j1
    have es : ∀ i : Int, 80 * (1 + j) ≤ i → i < 80 * (1 + j) + 80 → sa (up (cpD (up D 333 k.toNat (iI 1)) (80 * (1 + k.toNat)) 0 80) 316 26 (iI 0)) i = sa D i := fun i i0 i1 => sa_c (eo _ (by omega))
    have fin : ¬ mkd D j = 0 → HD (up (cpD (up D 333 k.toNat (iI 1)) (80 * (1 + k.toNat)) 0 80) 316 26 (iI 0)) m4 (276 + 10 * j.toNat) (ubS (up (cpD (up D 333 k.toNat (iI 1)) (80 * (1 + k.toNat)) 0 80) 316 26 (iI 0)) (80 * (1 + j))) ∧ mm_gI m4 (276 + 10 * j.toNat) 0 = iI (sa (up (cpD (up D 333 k.toNat (iI 1)) (80 * (1 + k.toNat)) 0 80) 316 26 (iI 0)) (80 * (1 + j))) ∧ RPn (up (cpD (up D 333 k.toNat (iI 1)) (80 * (1 + k.toNat)) 0 80) 316 26 (iI 0)) (80 * (1 + j)) m4 (280 + 10 * j.toNat) := by
      intro z
      obtain ⟨b1, b2, b3⟩ := b z
      refine ⟨s2.hd (fun w x0 x1 => ?_), ?_, b3.ch (fun i i0 i1 => es i (by omega) (by omega)) (fun x i x0 x1 _ => qm _ _ (by omega) (by omega))⟩
      · obtain ⟨p1, p2, p3⟩ := b1 w x0 x1
        unfold ubS at p1 p2 p3 ⊢
        rw [qm _ _ (by omega) (by omega), qm _ _ (by omega) (by omega), qm _ _ (by omega) (by omega), es _ (by omega) (by omega), es _ (by omega) (by omega), es _ (by omega) (by omega)]
        exact ⟨p1, p2, p3⟩
      · rw [qm _ _ (by omega) (by omega), es _ (by omega) (by omega)]
        exact b2
    by_cases y : j = k
    · rw [if_pos y]
      rw [y] at a
      have hk' : ¬ mkd D j = 0 := by rw [y]; exact hk
      refine ⟨?_, fun _ => fin hk'⟩
      rw [y]
      exact ⟨fun z => absurd (a.mp z) hk, fun z => absurd z (by decide)⟩
    · rw [if_neg y]
      exact ⟨a, fin⟩
/-- mark -/
theorem C152 (h : RCm D m s p) (hI : InvS D) (hL : InvL D) (hd : 8 ≤ d) {k : Int} {back : Bool} (k_0 : -2147483648 ≤ k) (k_1 : k < 2147483648) : ∃ m', mm_ev d 152 0 [some (.ref 100), some (.int (iI (k))), some (.int (iI (bI back)))] [] m = some (some (some (.int (iI (bI (markOk D k back))))), m') ∧ RCm (markD D k back) m' s p ∧ FU m m' := by
  have hQ := h.1
  have xf := shX hQ.1
  have hM := h.2.2.2.2.2.2
  rw [sg_152_0]
  unfold markD markOk
  cases z1 : inB k 0 3
  · have z2 : ¬ (0 ≤ k ∧ k ≤ 3) := fun y => by rw [inB_t.mpr y] at z1; cases z1
    refine ⟨m, ?_, h, FU.rf⟩
    by_cases z3 : k < 0
    · simp (disch := omega) only [↓reduceIte, not_false_eq_true, not_true_eq_false, and_self, and_true, true_and, false_and, and_false, or_true, true_or, or_false, false_or, or_self, reduceCtorEq, mm_q, Option.getD_some, cI_some, cJ_some, cV_some, cS_some, kd_sI, kd_sL, kd_sR, kd_cp, ln_sI, ln_sL, ln_sR, ln_cp, gR_sI, gR_sL, gR_sR, gR_cp, gL_sI, gL_sR, gL_cp, gI_sL, gI_sR, iI_add, iI_sub, iI_mul, iI_neg, iI_in, iI_tn, iI_lt, iI_eq, Nat.reduceLeDiff, Nat.reduceEqDiff, Nat.reduceAdd, Int.reduceEq, Int.reduceLT, Int.reduceLE, Int.reduceNeg, Int.reduceAdd, Int.reduceSub, Int.reduceMul, bI_t, bI_f, decide_true, decide_false, Bool.and_true, Bool.and_false, Bool.true_and, Bool.false_and, Bool.false_eq_true, Bool.and_self, Bool.not_true, Bool.not_false, Bool.true_or, Bool.false_or, Bool.or_true, Bool.or_false, z3]
    · simp (disch := omega) only [↓reduceIte, not_false_eq_true, not_true_eq_false, and_self, and_true, true_and, false_and, and_false, or_true, true_or, or_false, false_or, or_self, reduceCtorEq, mm_q, Option.getD_some, cI_some, cJ_some, cV_some, cS_some, kd_sI, kd_sL, kd_sR, kd_cp, ln_sI, ln_sL, ln_sR, ln_cp, gR_sI, gR_sL, gR_sR, gR_cp, gL_sI, gL_sR, gL_cp, gI_sL, gI_sR, iI_add, iI_sub, iI_mul, iI_neg, iI_in, iI_tn, iI_lt, iI_eq, Nat.reduceLeDiff, Nat.reduceEqDiff, Nat.reduceAdd, Int.reduceEq, Int.reduceLT, Int.reduceLE, Int.reduceNeg, Int.reduceAdd, Int.reduceSub, Int.reduceMul, bI_t, bI_f, decide_true, decide_false, Bool.and_true, Bool.and_false, Bool.true_and, Bool.false_and, Bool.false_eq_true, Bool.and_self, Bool.not_true, Bool.not_false, Bool.true_or, Bool.false_or, Bool.or_true, Bool.or_false, z3, show ¬ k < 4 by omega]
  · obtain ⟨a0, a1⟩ := inB_t.mp z1
    cases back
    · obtain ⟨m', e, r, f⟩ := C152m (d := d) h hI.2.2.2.2.2.1.2 hd a0 (show k < 4 by omega)
      refine ⟨m', ?_, r, f⟩
      simp (disch := omega) only [↓reduceIte, not_false_eq_true, not_true_eq_false, and_self, and_true, true_and, false_and, and_false, or_true, true_or, or_false, false_or, or_self, reduceCtorEq, mm_q, Option.getD_some, cI_some, cJ_some, cV_some, cS_some, kd_sI, kd_sL, kd_sR, kd_cp, ln_sI, ln_sL, ln_sR, ln_cp, gR_sI, gR_sL, gR_sR, gR_cp, gL_sI, gL_sR, gL_cp, gI_sL, gI_sR, iI_add, iI_sub, iI_mul, iI_neg, iI_in, iI_tn, iI_lt, iI_eq, Nat.reduceLeDiff, Nat.reduceEqDiff, Nat.reduceAdd, Int.reduceEq, Int.reduceLT, Int.reduceLE, Int.reduceNeg, Int.reduceAdd, Int.reduceSub, Int.reduceMul, bI_t, bI_f, decide_true, decide_false, Bool.and_true, Bool.and_false, Bool.true_and, Bool.false_and, Bool.false_eq_true, Bool.and_self, Bool.not_true, Bool.not_false, Bool.true_or, Bool.false_or, Bool.or_true, Bool.or_false, show ¬ k < 0 by omega, show k < 4 by omega]
      exact e
    · obtain ⟨b, -⟩ := hM k a0 (by omega)
      by_cases z3 : mkd D k = 0
      · refine ⟨m, ?_, by simp (disch := omega) only [↓reduceIte, not_false_eq_true, not_true_eq_false, and_self, and_true, true_and, false_and, and_false, or_true, true_or, or_false, false_or, or_self, reduceCtorEq, mm_q, Option.getD_some, cI_some, cJ_some, cV_some, cS_some, kd_sI, kd_sL, kd_sR, kd_cp, ln_sI, ln_sL, ln_sR, ln_cp, gR_sI, gR_sL, gR_sR, gR_cp, gL_sI, gL_sR, gL_cp, gI_sL, gI_sR, iI_add, iI_sub, iI_mul, iI_neg, iI_in, iI_tn, iI_lt, iI_eq, Nat.reduceLeDiff, Nat.reduceEqDiff, Nat.reduceAdd, Int.reduceEq, Int.reduceLT, Int.reduceLE, Int.reduceNeg, Int.reduceAdd, Int.reduceSub, Int.reduceMul, bI_t, bI_f, decide_true, decide_false, Bool.and_true, Bool.and_false, Bool.true_and, Bool.false_and, Bool.false_eq_true, Bool.and_self, Bool.not_true, Bool.not_false, Bool.true_or, Bool.false_or, Bool.or_true, Bool.or_false, z3]; exact h, FU.rf⟩
        simp (disch := omega) only [xf, ↓reduceIte, not_false_eq_true, not_true_eq_false, and_self, and_true, true_and, false_and, and_false, or_true, true_or, or_false, false_or, or_self, reduceCtorEq, mm_q, Option.getD_some, cI_some, cJ_some, cV_some, cS_some, kd_sI, kd_sL, kd_sR, kd_cp, ln_sI, ln_sL, ln_sR, ln_cp, gR_sI, gR_sL, gR_sR, gR_cp, gL_sI, gL_sR, gL_cp, gI_sL, gI_sR, iI_add, iI_sub, iI_mul, iI_neg, iI_in, iI_tn, iI_lt, iI_eq, Nat.reduceLeDiff, Nat.reduceEqDiff, Nat.reduceAdd, Int.reduceEq, Int.reduceLT, Int.reduceLE, Int.reduceNeg, Int.reduceAdd, Int.reduceSub, Int.reduceMul, bI_t, bI_f, decide_true, decide_false, Bool.and_true, Bool.and_false, Bool.true_and, Bool.false_and, Bool.false_eq_true, Bool.and_self, Bool.not_true, Bool.not_false, Bool.true_or, Bool.false_or, Bool.or_true, Bool.or_false, show ¬ k < 0 by omega, show k < 4 by omega, b.mpr z3, z3]
      · obtain ⟨m', e, r, f⟩ := C152b (d := d) h hI hL hd a0 (show k < 4 by omega) z3
        refine ⟨m', ?_, by simp (disch := omega) only [↓reduceIte, not_false_eq_true, not_true_eq_false, and_self, and_true, true_and, false_and, and_false, or_true, true_or, or_false, false_or, or_self, reduceCtorEq, mm_q, Option.getD_some, cI_some, cJ_some, cV_some, cS_some, kd_sI, kd_sL, kd_sR, kd_cp, ln_sI, ln_sL, ln_sR, ln_cp, gR_sI, gR_sL, gR_sR, gR_cp, gL_sI, gL_sR, gL_cp, gI_sL, gI_sR, iI_add, iI_sub, iI_mul, iI_neg, iI_in, iI_tn, iI_lt, iI_eq, Nat.reduceLeDiff, Nat.reduceEqDiff, Nat.reduceAdd, Int.reduceEq, Int.reduceLT, Int.reduceLE, Int.reduceNeg, Int.reduceAdd, Int.reduceSub, Int.reduceMul, bI_t, bI_f, decide_true, decide_false, Bool.and_true, Bool.and_false, Bool.true_and, Bool.false_and, Bool.false_eq_true, Bool.and_self, Bool.not_true, Bool.not_false, Bool.true_or, Bool.false_or, Bool.or_true, Bool.or_false, z3]; exact r, f⟩
        have b' : ¬ (iShr (mm_gI m 100 14) (iI k) &&& iI 1) = iI 0 := fun q => z3 (b.mp q)
        simp (disch := omega) only [xf, ↓reduceIte, not_false_eq_true, not_true_eq_false, and_self, and_true, true_and, false_and, and_false, or_true, true_or, or_false, false_or, or_self, reduceCtorEq, mm_q, Option.getD_some, cI_some, cJ_some, cV_some, cS_some, kd_sI, kd_sL, kd_sR, kd_cp, ln_sI, ln_sL, ln_sR, ln_cp, gR_sI, gR_sL, gR_sR, gR_cp, gL_sI, gL_sR, gL_cp, gI_sL, gI_sR, iI_add, iI_sub, iI_mul, iI_neg, iI_in, iI_tn, iI_lt, iI_eq, Nat.reduceLeDiff, Nat.reduceEqDiff, Nat.reduceAdd, Int.reduceEq, Int.reduceLT, Int.reduceLE, Int.reduceNeg, Int.reduceAdd, Int.reduceSub, Int.reduceMul, bI_t, bI_f, decide_true, decide_false, Bool.and_true, Bool.and_false, Bool.true_and, Bool.false_and, Bool.false_eq_true, Bool.and_self, Bool.not_true, Bool.not_false, Bool.true_or, Bool.false_or, Bool.or_true, Bool.or_false, show ¬ k < 0 by omega, show k < 4 by omega, b', z3]
        exact e
end
