section
variable {D : Nat → Nat → Int32} {E : Nat → Nat → Int64} {m : mm_M} {d : Nat}
theorem atS_r {n kind rd fr gone tempo : Int} (hn : 0 < n) (h0 : 0 ≤ fr) (h1 : fr < n) (ht : 0 < tempo) (hr : 0 ≤ rd) : -1 ≤ atS n kind rd fr gone tempo ∧ atS n kind rd fr gone tempo < n := by
  unfold atS
  split
  · omega
  · next g0 =>
    have q0 : 0 ≤ gone / tempo := Int.ediv_nonneg (by omega) (by omega)
    split
    · have u0 : 0 ≤ (fr + gone / tempo) % (2 * n) := Int.emod_nonneg _ (by omega)
      have u1 : (fr + gone / tempo) % (2 * n) < 2 * n := Int.emod_lt_of_pos _ (by omega)
      split <;> omega
    · split
      · next g1 =>
        have : gone / tempo < n - fr := Int.ediv_lt_of_lt_mul ht (by rw [Int.mul_comm]; exact g1)
        omega
      · split
        · omega
        · have p0 : 0 < tempo * n := Int.mul_pos ht hn
          have u0 : 0 ≤ (gone - tempo * (n - fr)) % (tempo * n + rd) := Int.emod_nonneg _ (by omega)
          have u1 : (gone - tempo * (n - fr)) % (tempo * n + rd) < tempo * n + rd := Int.emod_lt_of_pos _ (by omega)
          split
          · omega
          · have k0 : 0 ≤ ((gone - tempo * (n - fr)) % (tempo * n + rd) - rd) / tempo := Int.ediv_nonneg (by omega) (by omega)
            have k1 : ((gone - tempo * (n - fr)) % (tempo * n + rd) - rd) / tempo < n := Int.ediv_lt_of_lt_mul ht (by rw [Int.mul_comm n tempo]; omega)
            omega
theorem placeS_r (hI : InvS D) {w start right behind tempo tenth : Int} (h0 : 0 ≤ start) (h1 : start < st D 0) (ht : 0 < tempo) : -1 ≤ placeS D w start right behind tempo tenth ∧ placeS D w start right behind tempo tenth < st D 0 := by
  obtain ⟨⟨c0, c1⟩, -, -, -, -, -, -, ⟨r0, r1⟩, -⟩ := hI
  unfold placeS plS
  have key : ∀ fr : Int, 0 ≤ fr → fr < st D 0 → _ := fun fr y0 y1 => @atS_r (st D 0) (wk D w 0) (st D 8) fr (tenth - cueS D w - behind) tempo (by omega) y0 y1 ht r0
  by_cases z : right = 1
  · have k1 := key start h0 h1
    simp (disch := omega) only [z, ↓reduceIte, not_false_eq_true, not_true_eq_false, and_self, and_true, true_and, false_and, and_false, or_true, true_or, or_false, false_or, or_self, reduceCtorEq, mm_q, Option.getD_some, cI_some, cJ_some, cV_some, cS_some, kd_sI, kd_sL, kd_sR, kd_cp, ln_sI, ln_sL, ln_sR, ln_cp, gR_sI, gR_sL, gR_sR, gR_cp, gL_sI, gL_sR, gL_cp, gI_sL, gI_sR, iI_add, iI_sub, iI_mul, iI_neg, iI_in, iI_tn, iI_lt, iI_eq, Nat.reduceLeDiff, Nat.reduceEqDiff, Nat.reduceAdd, Int.reduceEq, Int.reduceLT, Int.reduceLE, Int.reduceNeg, Int.reduceAdd, Int.reduceSub, Int.reduceMul]
    split <;> omega
  · have k1 := key (st D 0 - 1 - start) (by omega) (by omega)
    simp (disch := omega) only [z, ↓reduceIte, not_false_eq_true, not_true_eq_false, and_self, and_true, true_and, false_and, and_false, or_true, true_or, or_false, false_or, or_self, reduceCtorEq, mm_q, Option.getD_some, cI_some, cJ_some, cV_some, cS_some, kd_sI, kd_sL, kd_sR, kd_cp, ln_sI, ln_sL, ln_sR, ln_cp, gR_sI, gR_sL, gR_sR, gR_cp, gL_sI, gL_sR, gL_cp, gI_sL, gI_sR, iI_add, iI_sub, iI_mul, iI_neg, iI_in, iI_tn, iI_lt, iI_eq, Nat.reduceLeDiff, Nat.reduceEqDiff, Nat.reduceAdd, Int.reduceEq, Int.reduceLT, Int.reduceLE, Int.reduceNeg, Int.reduceAdd, Int.reduceSub, Int.reduceMul]
    split <;> omega
theorem cueS_r (hI : InvS D) {w : Int} (hw0 : 0 ≤ w) (hw : w < st D 6) : 0 ≤ cueS D w ∧ cueS D w ≤ 600 := by
  obtain ⟨-, -, -, -, -, -, -, -, hte, hwk, -⟩ := hI
  obtain ⟨-, -, -, -, -, -, ⟨j0, j1⟩⟩ := hwk w hw0 hw
  unfold cueS
  split
  · omega
  · split
    · omega
    · exact hte _ (by omega) j1
set_option maxRecDepth 4000 in
theorem M207 (h : MD D E m) (hI : InvS D) (hd : 3 ≤ d) {w start right behind tempo tenth : Int} (hw0 : 0 ≤ w) (hw : w < st D 6) (s0 : 0 ≤ start) (s1 : start < st D 0) (hr0 : 0 ≤ right) (hr1 : right ≤ 1) (hb0 : 0 ≤ behind) (hb1 : behind ≤ 300) (ht0 : 1 ≤ tempo) (ht1 : tempo ≤ 99) (hn0 : 0 ≤ tenth) (hn1 : tenth ≤ 600) : mm_ev d 207 0 [some (.ref 316), some (.int (iI w)), some (.int (iI start)), some (.int (iI right)), some (.int (iI behind)), some (.int (iI tempo)), some (.int (iI tenth)), none, none, none, none, none, none] [] m = some (some (some (.int (iI (placeS D w start right behind tempo tenth)))), m) := by
  have hcue := cueS_r hI hw0 hw
  have hI2 := hI
  obtain ⟨⟨c0, c1⟩, ⟨l0, l1⟩, ⟨f0, f1, f2⟩, ⟨p0, p1⟩, ⟨w0, w1⟩, ⟨k0, k1⟩, ⟨q0, q1⟩, ⟨r0, r1⟩, hte, hwk, hmu⟩ := hI
  obtain ⟨⟨a0, a1⟩, ⟨b0, b1⟩, ⟨d0, d1⟩, ⟨e0, e1⟩, ⟨g0, g1⟩, ⟨i0, i1⟩, ⟨j0, j1⟩⟩ := hwk w hw0 hw
  have key : ∀ fr : Int, 0 ≤ fr → fr < st D 0 → mm_ev d 207 21 [some (.ref 316), some (.int (iI w)), some (.int (iI start)), some (.int (iI right)), some (.int (iI behind)), some (.int (iI tempo)), some (.int (iI tenth)), some (.int (iI (st D 0))), none, none, none, none, none] [.int (iI fr)] m = some (some (some (.int (iI (plS (st D 0) right (atS (st D 0) (wk D w 0) (st D 8) fr (tenth - cueS D w - behind) tempo))))), m) := by
    intro fr x0 x1
    have hfin : ∀ (x : Int) (z10 z12 : Option Value) (l8 l9 l10 : Int32), -1 ≤ x → x < st D 0 → mm_ev d 207 199 [some (.ref 316), some (.int (iI w)), some (.int (iI start)), some (.int (iI right)), some (.int (iI behind)), some (.int (iI tempo)), some (.int (iI tenth)), some (.int (iI (st D 0))), some (.int l8), some (.int l9), some (.int l10), some (.int (iI x)), z12] [] m = some (some (some (.int (iI (plS (st D 0) right x)))), m) := by
      intro x z10 z12 l8 l9 l10 y0 y1
      rw [sg_207_199]
      unfold plS
      by_cases z1 : x < 0
      · simp (disch := omega) only [z1, ↓reduceIte, not_false_eq_true, not_true_eq_false, and_self, and_true, true_and, false_and, and_false, or_true, true_or, or_false, false_or, or_self, reduceCtorEq, mm_q, Option.getD_some, cI_some, cJ_some, cV_some, cS_some, kd_sI, kd_sL, kd_sR, kd_cp, ln_sI, ln_sL, ln_sR, ln_cp, gR_sI, gR_sL, gR_sR, gR_cp, gL_sI, gL_sR, gL_cp, gI_sL, gI_sR, iI_add, iI_sub, iI_mul, iI_neg, iI_in, iI_tn, iI_lt, iI_eq, Nat.reduceLeDiff, Nat.reduceEqDiff, Nat.reduceAdd, Int.reduceEq, Int.reduceLT, Int.reduceLE, Int.reduceNeg, Int.reduceAdd, Int.reduceSub, Int.reduceMul]
      · by_cases z2 : right = 1
        · simp (disch := omega) only [z1, z2, ↓reduceIte, not_false_eq_true, not_true_eq_false, and_self, and_true, true_and, false_and, and_false, or_true, true_or, or_false, false_or, or_self, reduceCtorEq, mm_q, Option.getD_some, cI_some, cJ_some, cV_some, cS_some, kd_sI, kd_sL, kd_sR, kd_cp, ln_sI, ln_sL, ln_sR, ln_cp, gR_sI, gR_sL, gR_sR, gR_cp, gL_sI, gL_sR, gL_cp, gI_sL, gI_sR, iI_add, iI_sub, iI_mul, iI_neg, iI_in, iI_tn, iI_lt, iI_eq, Nat.reduceLeDiff, Nat.reduceEqDiff, Nat.reduceAdd, Int.reduceEq, Int.reduceLT, Int.reduceLE, Int.reduceNeg, Int.reduceAdd, Int.reduceSub, Int.reduceMul]
        · simp (disch := omega) only [z1, z2, ↓reduceIte, not_false_eq_true, not_true_eq_false, and_self, and_true, true_and, false_and, and_false, or_true, true_or, or_false, false_or, or_self, reduceCtorEq, mm_q, Option.getD_some, cI_some, cJ_some, cV_some, cS_some, kd_sI, kd_sL, kd_sR, kd_cp, ln_sI, ln_sL, ln_sR, ln_cp, gR_sI, gR_sL, gR_sR, gR_cp, gL_sI, gL_sR, gL_cp, gI_sL, gI_sR, iI_add, iI_sub, iI_mul, iI_neg, iI_in, iI_tn, iI_lt, iI_eq, Nat.reduceLeDiff, Nat.reduceEqDiff, Nat.reduceAdd, Int.reduceEq, Int.reduceLT, Int.reduceLE, Int.reduceNeg, Int.reduceAdd, Int.reduceSub, Int.reduceMul]
    have hat := @atS_r (st D 0) (wk D w 0) (st D 8) fr (tenth - cueS D w - behind) tempo (by omega) x0 x1 (by omega) r0
    have p0 : 0 < tempo * st D 0 := Int.mul_pos (by omega) (by omega)
    have p1 : tempo * st D 0 ≤ 99 * 40 := Int.mul_le_mul ht1 c1 (by omega) (by omega)
    have p2 : 0 < tempo * (st D 0 - fr) := Int.mul_pos (by omega) (by omega)
    have p3 : tempo * (st D 0 - fr) ≤ 99 * 40 := Int.mul_le_mul ht1 (by omega) (by omega) (by omega)
    rw [sg_207_21 (by omega)]
    simp (disch := omega) only [shM h.1, ↓reduceIte, not_false_eq_true, not_true_eq_false, and_self, and_true, true_and, reduceCtorEq, mm_q, Option.getD_some, cI_some, cJ_some, cV_some, cS_some, Nat.reduceLeDiff, Nat.reduceEqDiff, M209 h hI2]
    rw [sg_207_30 (by omega)]
    simp (disch := omega) only [shM h.1, ↓reduceIte, not_false_eq_true, not_true_eq_false, and_self, and_true, true_and, reduceCtorEq, mm_q, Option.getD_some, cI_some, cJ_some, cV_some, cS_some, Nat.reduceLeDiff, Nat.reduceEqDiff, M162 h]
    rw [sg_207_42]
    simp (disch := omega) only [shM h.1, ↓reduceIte, not_false_eq_true, not_true_eq_false, and_self, and_true, true_and, false_and, and_false, or_true, true_or, or_false, false_or, or_self, reduceCtorEq, mm_q, Option.getD_some, cI_some, cJ_some, cV_some, cS_some, kd_sI, kd_sL, kd_sR, kd_cp, ln_sI, ln_sL, ln_sR, ln_cp, gR_sI, gR_sL, gR_sR, gR_cp, gL_sI, gL_sR, gL_cp, gI_sL, gI_sR, iI_add, iI_sub, iI_mul, iI_neg, iI_in, iI_tn, iI_lt, iI_eq, Nat.reduceLeDiff, Nat.reduceEqDiff, Nat.reduceAdd, Int.reduceEq, Int.reduceLT, Int.reduceLE, Int.reduceNeg, Int.reduceAdd, Int.reduceSub, Int.reduceMul, MD_st h]
    unfold atS at hat ⊢
    by_cases z1 : tenth - cueS D w - behind < 0
    · simp (disch := omega) only [z1, ↓reduceIte, not_false_eq_true, not_true_eq_false, and_self, and_true, true_and, false_and, and_false, or_true, true_or, or_false, false_or, or_self, reduceCtorEq, mm_q, Option.getD_some, cI_some, cJ_some, cV_some, cS_some, kd_sI, kd_sL, kd_sR, kd_cp, ln_sI, ln_sL, ln_sR, ln_cp, gR_sI, gR_sL, gR_sR, gR_cp, gL_sI, gL_sR, gL_cp, gI_sL, gI_sR, iI_add, iI_sub, iI_mul, iI_neg, iI_in, iI_tn, iI_lt, iI_eq, Nat.reduceLeDiff, Nat.reduceEqDiff, Nat.reduceAdd, Int.reduceEq, Int.reduceLT, Int.reduceLE, Int.reduceNeg, Int.reduceAdd, Int.reduceSub, Int.reduceMul]
      exact hfin _ none _ _ _ _ (by omega) (by omega)
    · simp (disch := omega) only [z1, ↓reduceIte, not_false_eq_true, not_true_eq_false, and_self, and_true, true_and, false_and, and_false, or_true, true_or, or_false, false_or, or_self, reduceCtorEq, mm_q, Option.getD_some, cI_some, cJ_some, cV_some, cS_some, kd_sI, kd_sL, kd_sR, kd_cp, ln_sI, ln_sL, ln_sR, ln_cp, gR_sI, gR_sL, gR_sR, gR_cp, gL_sI, gL_sR, gL_cp, gI_sL, gI_sR, iI_add, iI_sub, iI_mul, iI_neg, iI_in, iI_tn, iI_lt, iI_eq, Nat.reduceLeDiff, Nat.reduceEqDiff, Nat.reduceAdd, Int.reduceEq, Int.reduceLT, Int.reduceLE, Int.reduceNeg, Int.reduceAdd, Int.reduceSub, Int.reduceMul] at hat ⊢
      have q0 : 0 ≤ (tenth - cueS D w - behind) / tempo := Int.ediv_nonneg (by omega) (by omega)
      have q1 : (tenth - cueS D w - behind) / tempo ≤ tenth - cueS D w - behind := Int.ediv_le_self _ (by omega)
      by_cases z2 : wk D w 0 = 2
      · have u0 : 0 ≤ (fr + (tenth - cueS D w - behind) / tempo) % (2 * st D 0) := Int.emod_nonneg _ (by omega)
        have u1 : (fr + (tenth - cueS D w - behind) / tempo) % (2 * st D 0) < 2 * st D 0 := Int.emod_lt_of_pos _ (by omega)
        simp (disch := omega) only [z2, ↓reduceIte, not_false_eq_true, not_true_eq_false, and_self, and_true, true_and, false_and, and_false, or_true, true_or, or_false, false_or, or_self, reduceCtorEq, mm_q, Option.getD_some, cI_some, cJ_some, cV_some, cS_some, kd_sI, kd_sL, kd_sR, kd_cp, ln_sI, ln_sL, ln_sR, ln_cp, gR_sI, gR_sL, gR_sR, gR_cp, gL_sI, gL_sR, gL_cp, gI_sL, gI_sR, iI_add, iI_sub, iI_mul, iI_neg, iI_in, iI_tn, iI_lt, iI_eq, Nat.reduceLeDiff, Nat.reduceEqDiff, Nat.reduceAdd, Int.reduceEq, Int.reduceLT, Int.reduceLE, Int.reduceNeg, Int.reduceAdd, Int.reduceSub, Int.reduceMul, iI_div, iI_rem] at hat ⊢
        rw [if_neg (by omega), if_neg (by omega)]
        by_cases z3 : (fr + (tenth - cueS D w - behind) / tempo) % (2 * st D 0) < st D 0
        · simp (disch := omega) only [z3, ↓reduceIte, not_false_eq_true, not_true_eq_false, and_self, and_true, true_and, false_and, and_false, or_true, true_or, or_false, false_or, or_self, reduceCtorEq, mm_q, Option.getD_some, cI_some, cJ_some, cV_some, cS_some, kd_sI, kd_sL, kd_sR, kd_cp, ln_sI, ln_sL, ln_sR, ln_cp, gR_sI, gR_sL, gR_sR, gR_cp, gL_sI, gL_sR, gL_cp, gI_sL, gI_sR, iI_add, iI_sub, iI_mul, iI_neg, iI_in, iI_tn, iI_lt, iI_eq, Nat.reduceLeDiff, Nat.reduceEqDiff, Nat.reduceAdd, Int.reduceEq, Int.reduceLT, Int.reduceLE, Int.reduceNeg, Int.reduceAdd, Int.reduceSub, Int.reduceMul, sg_207_98] at hat ⊢
          exact hfin _ none _ _ _ _ (by omega) (by omega)
        · simp (disch := omega) only [z3, ↓reduceIte, not_false_eq_true, not_true_eq_false, and_self, and_true, true_and, false_and, and_false, or_true, true_or, or_false, false_or, or_self, reduceCtorEq, mm_q, Option.getD_some, cI_some, cJ_some, cV_some, cS_some, kd_sI, kd_sL, kd_sR, kd_cp, ln_sI, ln_sL, ln_sR, ln_cp, gR_sI, gR_sL, gR_sR, gR_cp, gL_sI, gL_sR, gL_cp, gI_sL, gI_sR, iI_add, iI_sub, iI_mul, iI_neg, iI_in, iI_tn, iI_lt, iI_eq, Nat.reduceLeDiff, Nat.reduceEqDiff, Nat.reduceAdd, Int.reduceEq, Int.reduceLT, Int.reduceLE, Int.reduceNeg, Int.reduceAdd, Int.reduceSub, Int.reduceMul, sg_207_98] at hat ⊢
          exact hfin _ none _ _ _ _ (by omega) (by omega)
      · by_cases z3 : tenth - cueS D w - behind < tempo * (st D 0 - fr)
        · simp (disch := omega) only [z2, z3, ↓reduceIte, not_false_eq_true, not_true_eq_false, and_self, and_true, true_and, false_and, and_false, or_true, true_or, or_false, false_or, or_self, reduceCtorEq, mm_q, Option.getD_some, cI_some, cJ_some, cV_some, cS_some, kd_sI, kd_sL, kd_sR, kd_cp, ln_sI, ln_sL, ln_sR, ln_cp, gR_sI, gR_sL, gR_sR, gR_cp, gL_sI, gL_sR, gL_cp, gI_sL, gI_sR, iI_add, iI_sub, iI_mul, iI_neg, iI_in, iI_tn, iI_lt, iI_eq, Nat.reduceLeDiff, Nat.reduceEqDiff, Nat.reduceAdd, Int.reduceEq, Int.reduceLT, Int.reduceLE, Int.reduceNeg, Int.reduceAdd, Int.reduceSub, Int.reduceMul, iI_div] at hat ⊢
          rw [if_neg (by omega)]
          exact hfin _ none _ _ _ _ (by omega) (by omega)
        · by_cases z4 : wk D w 0 = 1
          · simp (disch := omega) only [z2, z3, z4, ↓reduceIte, not_false_eq_true, not_true_eq_false, and_self, and_true, true_and, false_and, and_false, or_true, true_or, or_false, false_or, or_self, reduceCtorEq, mm_q, Option.getD_some, cI_some, cJ_some, cV_some, cS_some, kd_sI, kd_sL, kd_sR, kd_cp, ln_sI, ln_sL, ln_sR, ln_cp, gR_sI, gR_sL, gR_sR, gR_cp, gL_sI, gL_sR, gL_cp, gI_sL, gI_sR, iI_add, iI_sub, iI_mul, iI_neg, iI_in, iI_tn, iI_lt, iI_eq, Nat.reduceLeDiff, Nat.reduceEqDiff, Nat.reduceAdd, Int.reduceEq, Int.reduceLT, Int.reduceLE, Int.reduceNeg, Int.reduceAdd, Int.reduceSub, Int.reduceMul, iI_div] at hat ⊢
            exact hfin _ none _ _ _ _ (by omega) (by omega)
          · have u0 : 0 ≤ (tenth - cueS D w - behind - tempo * (st D 0 - fr)) % (tempo * st D 0 + st D 8) := Int.emod_nonneg _ (by omega)
            have u1 : (tenth - cueS D w - behind - tempo * (st D 0 - fr)) % (tempo * st D 0 + st D 8) < tempo * st D 0 + st D 8 := Int.emod_lt_of_pos _ (by omega)
            simp (disch := omega) only [z2, z3, z4, ↓reduceIte, not_false_eq_true, not_true_eq_false, and_self, and_true, true_and, false_and, and_false, or_true, true_or, or_false, false_or, or_self, reduceCtorEq, mm_q, Option.getD_some, cI_some, cJ_some, cV_some, cS_some, kd_sI, kd_sL, kd_sR, kd_cp, ln_sI, ln_sL, ln_sR, ln_cp, gR_sI, gR_sL, gR_sR, gR_cp, gL_sI, gL_sR, gL_cp, gI_sL, gI_sR, iI_add, iI_sub, iI_mul, iI_neg, iI_in, iI_tn, iI_lt, iI_eq, Nat.reduceLeDiff, Nat.reduceEqDiff, Nat.reduceAdd, Int.reduceEq, Int.reduceLT, Int.reduceLE, Int.reduceNeg, Int.reduceAdd, Int.reduceSub, Int.reduceMul, iI_rem] at hat ⊢
            rw [if_neg (by omega)]
            by_cases z5 : (tenth - cueS D w - behind - tempo * (st D 0 - fr)) % (tempo * st D 0 + st D 8) < st D 8
            · simp (disch := omega) only [z5, ↓reduceIte, not_false_eq_true, not_true_eq_false, and_self, and_true, true_and, false_and, and_false, or_true, true_or, or_false, false_or, or_self, reduceCtorEq, mm_q, Option.getD_some, cI_some, cJ_some, cV_some, cS_some, kd_sI, kd_sL, kd_sR, kd_cp, ln_sI, ln_sL, ln_sR, ln_cp, gR_sI, gR_sL, gR_sR, gR_cp, gL_sI, gL_sR, gL_cp, gI_sL, gI_sR, iI_add, iI_sub, iI_mul, iI_neg, iI_in, iI_tn, iI_lt, iI_eq, Nat.reduceLeDiff, Nat.reduceEqDiff, Nat.reduceAdd, Int.reduceEq, Int.reduceLT, Int.reduceLE, Int.reduceNeg, Int.reduceAdd, Int.reduceSub, Int.reduceMul, sg_207_197] at hat ⊢
              exact hfin _ none _ _ _ _ (by omega) (by omega)
            · simp (disch := omega) only [z5, ↓reduceIte, not_false_eq_true, not_true_eq_false, and_self, and_true, true_and, false_and, and_false, or_true, true_or, or_false, false_or, or_self, reduceCtorEq, mm_q, Option.getD_some, cI_some, cJ_some, cV_some, cS_some, kd_sI, kd_sL, kd_sR, kd_cp, ln_sI, ln_sL, ln_sR, ln_cp, gR_sI, gR_sL, gR_sR, gR_cp, gL_sI, gL_sR, gL_cp, gI_sL, gI_sR, iI_add, iI_sub, iI_mul, iI_neg, iI_in, iI_tn, iI_lt, iI_eq, Nat.reduceLeDiff, Nat.reduceEqDiff, Nat.reduceAdd, Int.reduceEq, Int.reduceLT, Int.reduceLE, Int.reduceNeg, Int.reduceAdd, Int.reduceSub, Int.reduceMul, sg_207_197, iI_div] at hat ⊢
              rw [if_neg (by omega)]
              exact hfin _ none _ _ _ _ (by omega) (by omega)
  rw [sg_207_0 (by omega)]
  unfold placeS
  by_cases z : right = 1
  · simp (disch := omega) only [shM h.1, ↓reduceIte, not_false_eq_true, not_true_eq_false, and_self, and_true, true_and, false_and, and_false, or_true, true_or, or_false, false_or, or_self, reduceCtorEq, mm_q, Option.getD_some, cI_some, cJ_some, cV_some, cS_some, kd_sI, kd_sL, kd_sR, kd_cp, ln_sI, ln_sL, ln_sR, ln_cp, gR_sI, gR_sL, gR_sR, gR_cp, gL_sI, gL_sR, gL_cp, gI_sL, gI_sR, iI_add, iI_sub, iI_mul, iI_neg, iI_in, iI_tn, iI_lt, iI_eq, Nat.reduceLeDiff, Nat.reduceEqDiff, Nat.reduceAdd, Int.reduceEq, Int.reduceLT, Int.reduceLE, Int.reduceNeg, Int.reduceAdd, Int.reduceSub, Int.reduceMul, M208 h, z, key]
    rw [z] at key
    exact key start s0 s1
  · simp (disch := omega) only [shM h.1, ↓reduceIte, not_false_eq_true, not_true_eq_false, and_self, and_true, true_and, false_and, and_false, or_true, true_or, or_false, false_or, or_self, reduceCtorEq, mm_q, Option.getD_some, cI_some, cJ_some, cV_some, cS_some, kd_sI, kd_sL, kd_sR, kd_cp, ln_sI, ln_sL, ln_sR, ln_cp, gR_sI, gR_sL, gR_sR, gR_cp, gL_sI, gL_sR, gL_cp, gI_sL, gI_sR, iI_add, iI_sub, iI_mul, iI_neg, iI_in, iI_tn, iI_lt, iI_eq, Nat.reduceLeDiff, Nat.reduceEqDiff, Nat.reduceAdd, Int.reduceEq, Int.reduceLT, Int.reduceLE, Int.reduceNeg, Int.reduceAdd, Int.reduceSub, Int.reduceMul, M208 h, z, key]
theorem M212 (h : MD D E m) (hI : InvS D) {c : Int} (h0 : -1 ≤ c) (h1 : c < 100) : mm_ev d 212 0 [some (.ref 316), some (.int (iI c))] [] m = some (some (some (.int (iI (bI (framedS D c))))), m) := by
  obtain ⟨⟨c0, c1⟩, ⟨l0, l1⟩, ⟨f0, f1, f2⟩, -⟩ := hI
  rw [sg_212_0]
  unfold framedS
  by_cases z1 : c < st D 2
  · simp (disch := omega) only [shM h.1, ↓reduceIte, not_false_eq_true, not_true_eq_false, and_self, and_true, true_and, false_and, and_false, or_true, true_or, or_false, false_or, or_self, reduceCtorEq, mm_q, Option.getD_some, cI_some, cJ_some, cV_some, cS_some, kd_sI, kd_sL, kd_sR, kd_cp, ln_sI, ln_sL, ln_sR, ln_cp, gR_sI, gR_sL, gR_sR, gR_cp, gL_sI, gL_sR, gL_cp, gI_sL, gI_sR, iI_add, iI_sub, iI_mul, iI_neg, iI_in, iI_tn, iI_lt, iI_eq, Nat.reduceLeDiff, Nat.reduceEqDiff, Nat.reduceAdd, Int.reduceEq, Int.reduceLT, Int.reduceLE, Int.reduceNeg, Int.reduceAdd, Int.reduceSub, Int.reduceMul, MD_st h, z1, show ¬ st D 2 ≤ c by omega, bI_t, bI_f, decide_true, decide_false, Bool.and_true, Bool.and_false, Bool.true_and, Bool.false_and, Bool.false_eq_true, Bool.and_self, Bool.not_true, Bool.not_false]
  · by_cases z2 : st D 3 < c
    · simp (disch := omega) only [shM h.1, ↓reduceIte, not_false_eq_true, not_true_eq_false, and_self, and_true, true_and, false_and, and_false, or_true, true_or, or_false, false_or, or_self, reduceCtorEq, mm_q, Option.getD_some, cI_some, cJ_some, cV_some, cS_some, kd_sI, kd_sL, kd_sR, kd_cp, ln_sI, ln_sL, ln_sR, ln_cp, gR_sI, gR_sL, gR_sR, gR_cp, gL_sI, gL_sR, gL_cp, gI_sL, gI_sR, iI_add, iI_sub, iI_mul, iI_neg, iI_in, iI_tn, iI_lt, iI_eq, Nat.reduceLeDiff, Nat.reduceEqDiff, Nat.reduceAdd, Int.reduceEq, Int.reduceLT, Int.reduceLE, Int.reduceNeg, Int.reduceAdd, Int.reduceSub, Int.reduceMul, MD_st h, z1, z2, show ¬ c ≤ st D 3 by omega, bI_t, bI_f, decide_true, decide_false, Bool.and_true, Bool.and_false, Bool.true_and, Bool.false_and, Bool.false_eq_true, Bool.and_self, Bool.not_true, Bool.not_false]
    · simp (disch := omega) only [shM h.1, ↓reduceIte, not_false_eq_true, not_true_eq_false, and_self, and_true, true_and, false_and, and_false, or_true, true_or, or_false, false_or, or_self, reduceCtorEq, mm_q, Option.getD_some, cI_some, cJ_some, cV_some, cS_some, kd_sI, kd_sL, kd_sR, kd_cp, ln_sI, ln_sL, ln_sR, ln_cp, gR_sI, gR_sL, gR_sR, gR_cp, gL_sI, gL_sR, gL_cp, gI_sL, gI_sR, iI_add, iI_sub, iI_mul, iI_neg, iI_in, iI_tn, iI_lt, iI_eq, Nat.reduceLeDiff, Nat.reduceEqDiff, Nat.reduceAdd, Int.reduceEq, Int.reduceLT, Int.reduceLE, Int.reduceNeg, Int.reduceAdd, Int.reduceSub, Int.reduceMul, MD_st h, z1, z2, show st D 2 ≤ c by omega, show c ≤ st D 3 by omega, bI_t, bI_f, decide_true, decide_false, Bool.and_true, Bool.and_false, Bool.true_and, Bool.false_and, Bool.false_eq_true, Bool.and_self, Bool.not_true, Bool.not_false]
theorem M211 (h : MD D E m) (hI : InvS D) (hd : 2 ≤ d) {w c : Int} (hw0 : 0 ≤ w) (hw : w < st D 6) (h0 : -1 ≤ c) (h1 : c < 100) : mm_ev d 211 0 [some (.ref 316), some (.int (iI w)), some (.int (iI c))] [] m = some (some (some (.int (iI (sightS D w c)))), m) := by
  have hI2 := hI
  obtain ⟨⟨c0, c1⟩, ⟨l0, l1⟩, ⟨f0, f1, f2⟩, ⟨p0, p1⟩, ⟨w0, w1⟩, ⟨k0, k1⟩, ⟨q0, q1⟩, ⟨r0, r1⟩, hte, hwk, hmu⟩ := hI
  obtain ⟨⟨a0, a1⟩, ⟨b0, b1⟩, -⟩ := hwk w hw0 hw
  rw [sg_211_0 (by omega)]
  unfold sightS
  by_cases z1 : c < 0
  · simp (disch := omega) only [↓reduceIte, not_false_eq_true, not_true_eq_false, and_self, and_true, true_and, false_and, and_false, or_true, true_or, or_false, false_or, or_self, reduceCtorEq, mm_q, Option.getD_some, cI_some, cJ_some, cV_some, cS_some, kd_sI, kd_sL, kd_sR, kd_cp, ln_sI, ln_sL, ln_sR, ln_cp, gR_sI, gR_sL, gR_sR, gR_cp, gL_sI, gL_sR, gL_cp, gI_sL, gI_sR, iI_add, iI_sub, iI_mul, iI_neg, iI_in, iI_tn, iI_lt, iI_eq, Nat.reduceLeDiff, Nat.reduceEqDiff, Nat.reduceAdd, Int.reduceEq, Int.reduceLT, Int.reduceLE, Int.reduceNeg, Int.reduceAdd, Int.reduceSub, Int.reduceMul, z1]
  · cases z2 : framedS D c
    · simp (disch := omega) only [shM h.1, ↓reduceIte, not_false_eq_true, not_true_eq_false, and_self, and_true, true_and, false_and, and_false, or_true, true_or, or_false, false_or, or_self, reduceCtorEq, mm_q, Option.getD_some, cI_some, cJ_some, cV_some, cS_some, kd_sI, kd_sL, kd_sR, kd_cp, ln_sI, ln_sL, ln_sR, ln_cp, gR_sI, gR_sL, gR_sR, gR_cp, gL_sI, gL_sR, gL_cp, gI_sL, gI_sR, iI_add, iI_sub, iI_mul, iI_neg, iI_in, iI_tn, iI_lt, iI_eq, Nat.reduceLeDiff, Nat.reduceEqDiff, Nat.reduceAdd, Int.reduceEq, Int.reduceLT, Int.reduceLE, Int.reduceNeg, Int.reduceAdd, Int.reduceSub, Int.reduceMul, z1, M212 h hI2, z2, bI_t, bI_f, decide_true, decide_false, Bool.and_true, Bool.and_false, Bool.true_and, Bool.false_and, Bool.false_eq_true, Bool.and_self, Bool.not_true, Bool.not_false, sg_211_9]
    · by_cases z3 : wk D w 1 < st D 4
      · simp (disch := omega) only [shM h.1, ↓reduceIte, not_false_eq_true, not_true_eq_false, and_self, and_true, true_and, false_and, and_false, or_true, true_or, or_false, false_or, or_self, reduceCtorEq, mm_q, Option.getD_some, cI_some, cJ_some, cV_some, cS_some, kd_sI, kd_sL, kd_sR, kd_cp, ln_sI, ln_sL, ln_sR, ln_cp, gR_sI, gR_sL, gR_sR, gR_cp, gL_sI, gL_sR, gL_cp, gI_sL, gI_sR, iI_add, iI_sub, iI_mul, iI_neg, iI_in, iI_tn, iI_lt, iI_eq, Nat.reduceLeDiff, Nat.reduceEqDiff, Nat.reduceAdd, Int.reduceEq, Int.reduceLT, Int.reduceLE, Int.reduceNeg, Int.reduceAdd, Int.reduceSub, Int.reduceMul, z1, M212 h hI2, M162 h, MD_st h, z2, z3, bI_t, bI_f, decide_true, decide_false, Bool.and_true, Bool.and_false, Bool.true_and, Bool.false_and, Bool.false_eq_true, Bool.and_self, Bool.not_true, Bool.not_false, sg_211_9]
      · simp (disch := omega) only [shM h.1, ↓reduceIte, not_false_eq_true, not_true_eq_false, and_self, and_true, true_and, false_and, and_false, or_true, true_or, or_false, false_or, or_self, reduceCtorEq, mm_q, Option.getD_some, cI_some, cJ_some, cV_some, cS_some, kd_sI, kd_sL, kd_sR, kd_cp, ln_sI, ln_sL, ln_sR, ln_cp, gR_sI, gR_sL, gR_sR, gR_cp, gL_sI, gL_sR, gL_cp, gI_sL, gI_sR, iI_add, iI_sub, iI_mul, iI_neg, iI_in, iI_tn, iI_lt, iI_eq, Nat.reduceLeDiff, Nat.reduceEqDiff, Nat.reduceAdd, Int.reduceEq, Int.reduceLT, Int.reduceLE, Int.reduceNeg, Int.reduceAdd, Int.reduceSub, Int.reduceMul, z1, M212 h hI2, M162 h, MD_st h, z2, z3, bI_t, bI_f, decide_true, decide_false, Bool.and_true, Bool.and_false, Bool.true_and, Bool.false_and, Bool.false_eq_true, Bool.and_self, Bool.not_true, Bool.not_false, sg_211_9]
end
