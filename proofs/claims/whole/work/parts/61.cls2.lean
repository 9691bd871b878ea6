/-- how all walkers go, as the class holds it -/
def RW (D : Nat → Nat → Int32) (m : mm_M) (s W : Nat) (B : Int → Int) (take : Int) (late : Bool) : Prop := mm_gR m W 4 = some s ∧ ∀ w, 0 ≤ w → w < st D 6 → mm_gI m (W + 1) w.toNat = iI (B (1 + w)) ∧ mm_gI m (W + 2) w.toNat = iI (B (9 + w)) ∧ mm_gI m (W + 3) w.toNat = iI (cueS D w + wk D w 5 + if late = true then B (17 + w) else 0) ∧ mm_gI m (W + 5) w.toNat = iI (tempoS D w take)
section
variable {D : Nat → Nat → Int32} {m m' m'' : mm_M} {d s W L : Nat} {B : Int → Int} {take : Int} {late : Bool}
theorem clamp_e (v : Int32) : iMax (iI 1) (iMin (iI 99) v) = iI (clampS v) := by
  obtain ⟨z, rfl, h0, h1⟩ := iI_of v
  rw [iI_min (by omega) (by omega) h0 h1, iI_max (by omega) (by omega) (by omega) (by omega)]
  congr 1
  unfold clampS
  rw [iI_val h0 h1]
  split
  · omega
  · split <;> omega
theorem lawV_t (hI : InvS D) {w take : Int} (w0 : 0 ≤ w) (w1 : w < st D 6) : clampS (lawV D 0 (st D 9) (iI (wk D w 4)) (iI take)) = tempoS D w take := by
  obtain ⟨-, -, -, -, ⟨g0, g1⟩, -⟩ := hI.2.2.2.2.2.2.2.2.2.1 w w0 w1
  unfold lawV tempoS
  split
  · rw [if_pos rfl]
    unfold clampS
    rw [iI_val (by omega) (by omega), if_neg (by omega), if_neg (by omega)]
  · rfl
/-- Street.tempoOf -/
theorem C70 (hs : Sh m) (hst : isSt s) (hR : RSt D m s) (hI : InvS D) (hL : InvL D) (hd : 2 ≤ d) {w take : Int} (w0 : 0 ≤ w) (w1 : w < st D 6) : ∃ m', mm_ev d 70 0 [some (.ref s), some (.int (iI (w))), some (.int (iI (take))), none] [] m = some (some (some (.int (iI (tempoS D w take)))), m') ∧ Fr scK m m' := by
  obtain ⟨k0, k1⟩ := hI.2.2.2.2.2.1
  have wf := wkF hs hst w0 (show w < 8 by omega)
  have sf := stF hs hst
  obtain ⟨a1, a2, a3, a4, a5, a6, a7⟩ := hR.2.2.1 w w0 w1
  obtain ⟨m', e1, f1⟩ := C26 (d := d - 1) hs (lwQ hst) (by omega) (x := iI (wk D w 4)) (y := iI take) hR.2.2.2.2.1 (fun z => by
    rcases hL.1 with q | ⟨-, q⟩
    · omega
    · exact q)
  refine ⟨m', ?_, f1⟩
  rw [sg_70_0 (by omega)]
  simp (disch := omega) only [sf, wf, ↓reduceIte, not_false_eq_true, not_true_eq_false, and_self, and_true, true_and, false_and, and_false, or_true, true_or, or_false, false_or, or_self, reduceCtorEq, mm_q, Option.getD_some, cI_some, cJ_some, cV_some, cS_some, kd_sI, kd_sL, kd_sR, kd_cp, ln_sI, ln_sL, ln_sR, ln_cp, gR_sI, gR_sL, gR_sR, gR_cp, gL_sI, gL_sR, gL_cp, gI_sL, gI_sR, iI_add, iI_sub, iI_mul, iI_neg, iI_in, iI_tn, iI_lt, iI_eq, Nat.reduceLeDiff, Nat.reduceEqDiff, Nat.reduceAdd, Int.reduceEq, Int.reduceLT, Int.reduceLE, Int.reduceNeg, Int.reduceAdd, Int.reduceSub, Int.reduceMul, a5, e1, clamp_e, lawV_t hI w0 w1]
/-- Street.cueOf -/
theorem C71 (hs : Sh m) (hst : isSt s) (hR : RSt D m s) (hI : InvS D) {w : Int} (w0 : 0 ≤ w) (w1 : w < st D 6) : mm_ev d 71 0 [some (.ref s), some (.int (iI (w))), none, none] [] m = some (some (some (.int (iI (cueS D w + wk D w 5)))), m) := by
  obtain ⟨k0, k1⟩ := hI.2.2.2.2.2.1
  obtain ⟨v0, v1⟩ := hI.2.2.2.2.1
  have wf := wkF hs hst w0 (show w < 8 by omega)
  have sf := stF hs hst
  obtain ⟨a1, a2, a3, a4, a5, a6, a7⟩ := hR.2.2.1 w w0 w1
  obtain ⟨⟨x0, x1⟩, -, -, -, -, ⟨i0, i1⟩, ⟨j0, j1⟩⟩ := hI.2.2.2.2.2.2.2.2.2.1 w w0 w1
  have hwc := hR.1.2.2.2.2.2.2.1
  rw [sg_71_0]
  unfold cueS
  by_cases z1 : wk D w 0 = 3
  · rw [show (if wk D w 6 < 0 then (0 : Int) else if wk D w 0 = 3 then 0 else te D (wk D w 6)) = 0 by simp [z1]]
    simp (disch := omega) only [sf, wf, ↓reduceIte, not_false_eq_true, not_true_eq_false, and_self, and_true, true_and, false_and, and_false, or_true, true_or, or_false, false_or, or_self, reduceCtorEq, mm_q, Option.getD_some, cI_some, cJ_some, cV_some, cS_some, kd_sI, kd_sL, kd_sR, kd_cp, ln_sI, ln_sL, ln_sR, ln_cp, gR_sI, gR_sL, gR_sR, gR_cp, gL_sI, gL_sR, gL_cp, gI_sL, gI_sR, iI_add, iI_sub, iI_mul, iI_neg, iI_in, iI_tn, iI_lt, iI_eq, Nat.reduceLeDiff, Nat.reduceEqDiff, Nat.reduceAdd, Int.reduceEq, Int.reduceLT, Int.reduceLE, Int.reduceNeg, Int.reduceAdd, Int.reduceSub, Int.reduceMul, a1, z1, sg_71_37]
    rw [sg_71_38]
    simp (disch := omega) only [wf, ↓reduceIte, not_false_eq_true, not_true_eq_false, and_self, and_true, true_and, false_and, and_false, or_true, true_or, or_false, false_or, or_self, reduceCtorEq, mm_q, Option.getD_some, cI_some, cJ_some, cV_some, cS_some, kd_sI, kd_sL, kd_sR, kd_cp, ln_sI, ln_sL, ln_sR, ln_cp, gR_sI, gR_sL, gR_sR, gR_cp, gL_sI, gL_sR, gL_cp, gI_sL, gI_sR, iI_add, iI_sub, iI_mul, iI_neg, iI_in, iI_tn, iI_lt, iI_eq, Nat.reduceLeDiff, Nat.reduceEqDiff, Nat.reduceAdd, Int.reduceEq, Int.reduceLT, Int.reduceLE, Int.reduceNeg, Int.reduceAdd, Int.reduceSub, Int.reduceMul, a6, Int.zero_add]
  · by_cases z2 : wk D w 6 < 0
    · rw [if_pos z2]
      simp (disch := omega) only [sf, wf, ↓reduceIte, not_false_eq_true, not_true_eq_false, and_self, and_true, true_and, false_and, and_false, or_true, true_or, or_false, false_or, or_self, reduceCtorEq, mm_q, Option.getD_some, cI_some, cJ_some, cV_some, cS_some, kd_sI, kd_sL, kd_sR, kd_cp, ln_sI, ln_sL, ln_sR, ln_cp, gR_sI, gR_sL, gR_sR, gR_cp, gL_sI, gL_sR, gL_cp, gI_sL, gI_sR, iI_add, iI_sub, iI_mul, iI_neg, iI_in, iI_tn, iI_lt, iI_eq, Nat.reduceLeDiff, Nat.reduceEqDiff, Nat.reduceAdd, Int.reduceEq, Int.reduceLT, Int.reduceLE, Int.reduceNeg, Int.reduceAdd, Int.reduceSub, Int.reduceMul, a1, a7, z1, z2, sg_71_37]
      rw [sg_71_38]
      simp (disch := omega) only [wf, ↓reduceIte, not_false_eq_true, not_true_eq_false, and_self, and_true, true_and, false_and, and_false, or_true, true_or, or_false, false_or, or_self, reduceCtorEq, mm_q, Option.getD_some, cI_some, cJ_some, cV_some, cS_some, kd_sI, kd_sL, kd_sR, kd_cp, ln_sI, ln_sL, ln_sR, ln_cp, gR_sI, gR_sL, gR_sR, gR_cp, gL_sI, gL_sR, gL_cp, gI_sL, gI_sR, iI_add, iI_sub, iI_mul, iI_neg, iI_in, iI_tn, iI_lt, iI_eq, Nat.reduceLeDiff, Nat.reduceEqDiff, Nat.reduceAdd, Int.reduceEq, Int.reduceLT, Int.reduceLE, Int.reduceNeg, Int.reduceAdd, Int.reduceSub, Int.reduceMul, a6, Int.zero_add]
    · rw [if_neg z2, if_neg z1]
      have ht := hR.2.1 (wk D w 6) (by omega) j1
      simp (disch := omega) only [sf, wf, ↓reduceIte, not_false_eq_true, not_true_eq_false, and_self, and_true, true_and, false_and, and_false, or_true, true_or, or_false, false_or, or_self, reduceCtorEq, mm_q, Option.getD_some, cI_some, cJ_some, cV_some, cS_some, kd_sI, kd_sL, kd_sR, kd_cp, ln_sI, ln_sL, ln_sR, ln_cp, gR_sI, gR_sL, gR_sR, gR_cp, gL_sI, gL_sR, gL_cp, gI_sL, gI_sR, iI_add, iI_sub, iI_mul, iI_neg, iI_in, iI_tn, iI_lt, iI_eq, Nat.reduceLeDiff, Nat.reduceEqDiff, Nat.reduceAdd, Int.reduceEq, Int.reduceLT, Int.reduceLE, Int.reduceNeg, Int.reduceAdd, Int.reduceSub, Int.reduceMul, a1, a7, z1, z2, hwc, j1]
      rw [sg_71_38]
      simp (disch := omega) only [sf, wf, ↓reduceIte, not_false_eq_true, not_true_eq_false, and_self, and_true, true_and, false_and, and_false, or_true, true_or, or_false, false_or, or_self, reduceCtorEq, mm_q, Option.getD_some, cI_some, cJ_some, cV_some, cS_some, kd_sI, kd_sL, kd_sR, kd_cp, ln_sI, ln_sL, ln_sR, ln_cp, gR_sI, gR_sL, gR_sR, gR_cp, gL_sI, gL_sR, gL_cp, gI_sL, gI_sR, iI_add, iI_sub, iI_mul, iI_neg, iI_in, iI_tn, iI_lt, iI_eq, Nat.reduceLeDiff, Nat.reduceEqDiff, Nat.reduceAdd, Int.reduceEq, Int.reduceLT, Int.reduceLE, Int.reduceNeg, Int.reduceAdd, Int.reduceSub, Int.reduceMul, a7, a6, ht]
/-- Street.inFrame -/
theorem C72 (hs : Sh m) (hst : isSt s) (hR : RSt D m s) (hI : InvS D) {c : Int} (c0 : -1 ≤ c) (c1 : c < 100) : mm_ev d 72 0 [some (.ref s), some (.int (iI (c)))] [] m = some (some (some (.int (iI (bI (framedS D c))))), m) := by
  obtain ⟨f0, f1, f2⟩ := hI.2.2.1
  obtain ⟨x0, x1⟩ := hI.1
  have sf := stF hs hst
  have h2 := hR.1.2.2.1
  have h3 := hR.1.2.2.2.1
  rw [sg_72_0]
  unfold framedS
  by_cases z1 : c < st D 2
  · simp (disch := omega) only [sf, ↓reduceIte, not_false_eq_true, not_true_eq_false, and_self, and_true, true_and, false_and, and_false, or_true, true_or, or_false, false_or, or_self, reduceCtorEq, mm_q, Option.getD_some, cI_some, cJ_some, cV_some, cS_some, kd_sI, kd_sL, kd_sR, kd_cp, ln_sI, ln_sL, ln_sR, ln_cp, gR_sI, gR_sL, gR_sR, gR_cp, gL_sI, gL_sR, gL_cp, gI_sL, gI_sR, iI_add, iI_sub, iI_mul, iI_neg, iI_in, iI_tn, iI_lt, iI_eq, Nat.reduceLeDiff, Nat.reduceEqDiff, Nat.reduceAdd, Int.reduceEq, Int.reduceLT, Int.reduceLE, Int.reduceNeg, Int.reduceAdd, Int.reduceSub, Int.reduceMul, h2, h3, z1, show ¬ st D 2 ≤ c by omega, bI_t, bI_f, decide_true, decide_false, Bool.and_true, Bool.and_false, Bool.true_and, Bool.false_and, Bool.false_eq_true, Bool.and_self, Bool.not_true, Bool.not_false, Bool.true_or, Bool.false_or, Bool.or_true, Bool.or_false]
  · by_cases z2 : st D 3 < c
    · simp (disch := omega) only [sf, ↓reduceIte, not_false_eq_true, not_true_eq_false, and_self, and_true, true_and, false_and, and_false, or_true, true_or, or_false, false_or, or_self, reduceCtorEq, mm_q, Option.getD_some, cI_some, cJ_some, cV_some, cS_some, kd_sI, kd_sL, kd_sR, kd_cp, ln_sI, ln_sL, ln_sR, ln_cp, gR_sI, gR_sL, gR_sR, gR_cp, gL_sI, gL_sR, gL_cp, gI_sL, gI_sR, iI_add, iI_sub, iI_mul, iI_neg, iI_in, iI_tn, iI_lt, iI_eq, Nat.reduceLeDiff, Nat.reduceEqDiff, Nat.reduceAdd, Int.reduceEq, Int.reduceLT, Int.reduceLE, Int.reduceNeg, Int.reduceAdd, Int.reduceSub, Int.reduceMul, h2, h3, z1, z2, show ¬ c ≤ st D 3 by omega, bI_t, bI_f, decide_true, decide_false, Bool.and_true, Bool.and_false, Bool.true_and, Bool.false_and, Bool.false_eq_true, Bool.and_self, Bool.not_true, Bool.not_false, Bool.true_or, Bool.false_or, Bool.or_true, Bool.or_false]
    · simp (disch := omega) only [sf, ↓reduceIte, not_false_eq_true, not_true_eq_false, and_self, and_true, true_and, false_and, and_false, or_true, true_or, or_false, false_or, or_self, reduceCtorEq, mm_q, Option.getD_some, cI_some, cJ_some, cV_some, cS_some, kd_sI, kd_sL, kd_sR, kd_cp, ln_sI, ln_sL, ln_sR, ln_cp, gR_sI, gR_sL, gR_sR, gR_cp, gL_sI, gL_sR, gL_cp, gI_sL, gI_sR, iI_add, iI_sub, iI_mul, iI_neg, iI_in, iI_tn, iI_lt, iI_eq, Nat.reduceLeDiff, Nat.reduceEqDiff, Nat.reduceAdd, Int.reduceEq, Int.reduceLT, Int.reduceLE, Int.reduceNeg, Int.reduceAdd, Int.reduceSub, Int.reduceMul, h2, h3, z1, z2, show st D 2 ≤ c by omega, show c ≤ st D 3 by omega, bI_t, bI_f, decide_true, decide_false, Bool.and_true, Bool.and_false, Bool.true_and, Bool.false_and, Bool.false_eq_true, Bool.and_self, Bool.not_true, Bool.not_false, Bool.true_or, Bool.false_or, Bool.or_true, Bool.or_false]
theorem known_e (v : Int32) {p : Int} (hp : ¬ p < 2) : iMax (iI 0) (iMin (iI 10) v) = iI (known2 p v) := by
  obtain ⟨z, rfl, h0, h1⟩ := iI_of v
  rw [iI_min (by omega) (by omega) h0 h1, iI_max (by omega) (by omega) (by omega) (by omega)]
  congr 1
  unfold known2
  rw [iI_val h0 h1, if_neg hp]
  split
  · omega
  · split <;> omega
/-- Street.knownBy -/
theorem C73 (hs : Sh m) (hst : isSt s) (hR : RSt D m s) (hI : InvS D) (hL : InvL D) (hd : 2 ≤ d) {w p : Int} (w0 : 0 ≤ w) (w1 : w < st D 6) (p0 : 0 ≤ p) (p1 : p ≤ 601) : ∃ m', mm_ev d 73 0 [some (.ref s), some (.int (iI (w))), some (.int (iI (p)))] [] m = some (some (some (.int (iI (known2 p (if st D 10 < 0 then iI (p - 1) else lawS D 2 (iI (wk D w 0)) (iI p) (st D 10)))))), m') ∧ Fr scK m m' := by
  obtain ⟨k0, k1⟩ := hI.2.2.2.2.2.1
  have wf := wkF hs hst w0 (show w < 8 by omega)
  have sf := stF hs hst
  obtain ⟨a1, a2, a3, a4, a5, a6, a7⟩ := hR.2.2.1 w w0 w1
  rw [sg_73_0 (by omega)]
  by_cases z : p < 2
  · refine ⟨m, ?_, Fr.rf⟩
    unfold known2
    simp (disch := omega) only [↓reduceIte, not_false_eq_true, not_true_eq_false, and_self, and_true, true_and, false_and, and_false, or_true, true_or, or_false, false_or, or_self, reduceCtorEq, mm_q, Option.getD_some, cI_some, cJ_some, cV_some, cS_some, kd_sI, kd_sL, kd_sR, kd_cp, ln_sI, ln_sL, ln_sR, ln_cp, gR_sI, gR_sL, gR_sR, gR_cp, gL_sI, gL_sR, gL_cp, gI_sL, gI_sR, iI_add, iI_sub, iI_mul, iI_neg, iI_in, iI_tn, iI_lt, iI_eq, Nat.reduceLeDiff, Nat.reduceEqDiff, Nat.reduceAdd, Int.reduceEq, Int.reduceLT, Int.reduceLE, Int.reduceNeg, Int.reduceAdd, Int.reduceSub, Int.reduceMul, z]
  · obtain ⟨m', e1, f1⟩ := C26 (d := d - 1) hs (lwO hst) (by omega) (x := iI (wk D w 0)) (y := iI p) hR.2.2.2.2.2 (fun z => by
      rcases hL.2 with q | ⟨-, q⟩
      · omega
      · exact q)
    refine ⟨m', ?_, f1⟩
    have ev : lawV D 2 (st D 10) (iI (wk D w 0)) (iI p) = if st D 10 < 0 then iI (p - 1) else lawS D 2 (iI (wk D w 0)) (iI p) (st D 10) := by
      unfold lawV
      split
      · rw [if_neg (by omega), iI_sub]
      · rfl
    simp (disch := omega) only [sf, wf, ↓reduceIte, not_false_eq_true, not_true_eq_false, and_self, and_true, true_and, false_and, and_false, or_true, true_or, or_false, false_or, or_self, reduceCtorEq, mm_q, Option.getD_some, cI_some, cJ_some, cV_some, cS_some, kd_sI, kd_sL, kd_sR, kd_cp, ln_sI, ln_sL, ln_sR, ln_cp, gR_sI, gR_sL, gR_sR, gR_cp, gL_sI, gL_sR, gL_cp, gI_sL, gI_sR, iI_add, iI_sub, iI_mul, iI_neg, iI_in, iI_tn, iI_lt, iI_eq, Nat.reduceLeDiff, Nat.reduceEqDiff, Nat.reduceAdd, Int.reduceEq, Int.reduceLT, Int.reduceLE, Int.reduceNeg, Int.reduceAdd, Int.reduceSub, Int.reduceMul, z, a1, e1]
    rw [known_e _ z, ev]
/-- Street.jumpBetween, of seen cells -/
def jbS (D : Nat → Nat → Int32) (a b : Int) : Int := if a = -1 then (if a = b then 0 else st D 3 - st D 2 + 1) else if b = -1 then (if a = b then 0 else st D 3 - st D 2 + 1) else if 0 ≤ a - b then a - b else -(a - b)
theorem C74 (hs : Sh m) (hst : isSt s) (hR : RSt D m s) (hI : InvS D) {a b : Int} (a0 : -1 ≤ a) (a1 : a < 100) (b0 : -1 ≤ b) (b1 : b < 100) : mm_ev d 74 0 [some (.ref s), some (.int (iI (a))), some (.int (iI (b)))] [] m = some (some (some (.int (iI (jbS D a b)))), m) := by
  have sf := stF hs hst
  have h2 := hR.1.2.2.1
  have h3 := hR.1.2.2.2.1
  have e17 : mm_ev d 74 17 [some (.ref s), some (.int (iI (a))), some (.int (iI (b)))] [] m = some (some (some (.int (iI (if a = b then 0 else st D 3 - st D 2 + 1)))), m) := by
    rw [sg_74_17]
    by_cases z : a = b
    · rw [if_pos (by rw [z]), if_pos z]
    · rw [if_neg (by rw [iI_eq] <;> omega), if_neg z]
      simp (disch := omega) only [sf, ↓reduceIte, not_false_eq_true, not_true_eq_false, and_self, and_true, true_and, false_and, and_false, or_true, true_or, or_false, false_or, or_self, reduceCtorEq, mm_q, Option.getD_some, cI_some, cJ_some, cV_some, cS_some, kd_sI, kd_sL, kd_sR, kd_cp, ln_sI, ln_sL, ln_sR, ln_cp, gR_sI, gR_sL, gR_sR, gR_cp, gL_sI, gL_sR, gL_cp, gI_sL, gI_sR, iI_add, iI_sub, iI_mul, iI_neg, iI_in, iI_tn, iI_lt, iI_eq, Nat.reduceLeDiff, Nat.reduceEqDiff, Nat.reduceAdd, Int.reduceEq, Int.reduceLT, Int.reduceLE, Int.reduceNeg, Int.reduceAdd, Int.reduceSub, Int.reduceMul, h2, h3]
  rw [sg_74_0]
  unfold jbS
  by_cases z1 : a = -1
  · rw [if_pos (by rw [z1]), e17, if_pos z1]
  · rw [if_neg (by rw [iI_eq] <;> omega), if_neg z1]
    by_cases z2 : b = -1
    · rw [if_pos (by rw [z2]), e17, if_pos z2]
    · rw [if_neg (by rw [iI_eq] <;> omega), if_neg z2, iI_sub, iI_abs (by omega) (by omega)]
/-- Walks.along -/
theorem C89 (hs : Sh m) (hst : isSt s) (hW : isW W) (hR : RSt D m s) (hw : mm_gR m W 4 = some s) (hI : InvS D) {kind fr t tempo : Int} (y0 : 0 ≤ kind) (y1 : kind ≤ 3) (f0 : 0 ≤ fr) (f1 : fr < st D 0) (t0 : 0 < t) (t1 : t ≤ 600) (u0 : 1 ≤ tempo) (u1 : tempo ≤ 99) : mm_ev d 89 0 [some (.ref W), some (.int (iI (kind))), some (.int (iI (fr))), some (.int (iI (t))), some (.int (iI (tempo))), none, none, none, none] [] m = some (some (some (.int (iI (atS (st D 0) kind (st D 8) fr t tempo)))), m) := by
  have sf := stF hs hst
  have wf := wF hs hW
  obtain ⟨c0, c1⟩ := hI.1
  obtain ⟨r0, r1⟩ := hI.2.2.2.2.2.2.2.1
  have h0 := hR.1.1
  have h5 := hR.1.2.2.2.2.2.1
  have q0 : 0 ≤ t / tempo := Int.ediv_nonneg (by omega) (by omega)
  have q1 : t / tempo ≤ t := Int.ediv_le_self _ (by omega)
  have key : t / tempo < st D 0 - fr ↔ t < tempo * (st D 0 - fr) := by rw [Int.ediv_lt_iff_lt_mul (by omega), Int.mul_comm]
  have p0 : 0 < tempo * st D 0 := Int.mul_pos (by omega) (by omega)
  have p1 : tempo * st D 0 ≤ 99 * 40 := Int.mul_le_mul u1 c1 (by omega) (by omega)
  have p2 : 0 < tempo * (st D 0 - fr) := Int.mul_pos (by omega) (by omega)
  have p3 : tempo * (st D 0 - fr) ≤ 99 * 40 := Int.mul_le_mul u1 (by omega) (by omega) (by omega)
  have x1 : st D 0 * tempo = tempo * st D 0 := Int.mul_comm _ _
  have x2 : (st D 0 - fr) * tempo = tempo * (st D 0 - fr) := Int.mul_comm _ _
  rw [sg_89_0]
  unfold atS
  rw [if_neg (show ¬ t < 0 by omega)]
  by_cases z1 : fr + t / tempo < st D 0
  · have e1 : (fr + t / tempo) % (2 * st D 0) = fr + t / tempo := Int.emod_eq_of_lt (by omega) (by omega)
    have e2 : (if kind = 2 then (if (fr + t / tempo) % (2 * st D 0) < st D 0 then (fr + t / tempo) % (2 * st D 0) else 2 * st D 0 - 1 - (fr + t / tempo) % (2 * st D 0)) else if t < tempo * (st D 0 - fr) then fr + t / tempo else if kind = 1 then -1 else if (t - tempo * (st D 0 - fr)) % (tempo * st D 0 + st D 8) < st D 8 then -1 else ((t - tempo * (st D 0 - fr)) % (tempo * st D 0 + st D 8) - st D 8) / tempo) = fr + t / tempo := by
      split
      · rw [e1, if_pos z1]
      · rw [if_pos (key.mp (by omega))]
    rw [e2]
    simp (disch := omega) only [wf, hw, sf, ↓reduceIte, not_false_eq_true, not_true_eq_false, and_self, and_true, true_and, false_and, and_false, or_true, true_or, or_false, false_or, or_self, reduceCtorEq, mm_q, Option.getD_some, cI_some, cJ_some, cV_some, cS_some, kd_sI, kd_sL, kd_sR, kd_cp, ln_sI, ln_sL, ln_sR, ln_cp, gR_sI, gR_sL, gR_sR, gR_cp, gL_sI, gL_sR, gL_cp, gI_sL, gI_sR, iI_add, iI_sub, iI_mul, iI_neg, iI_in, iI_tn, iI_lt, iI_eq, Nat.reduceLeDiff, Nat.reduceEqDiff, Nat.reduceAdd, Int.reduceEq, Int.reduceLT, Int.reduceLE, Int.reduceNeg, Int.reduceAdd, Int.reduceSub, Int.reduceMul, h0, iI_div, z1, show ¬ tempo < 1 by omega, show ¬ st D 0 < 1 by omega, show ¬ tempo = 0 by omega]
  · have nk : ¬ t < tempo * (st D 0 - fr) := fun h => z1 (by have := key.mpr h; omega)
    by_cases z2 : kind = 1
    · simp (disch := omega) only [wf, hw, sf, ↓reduceIte, not_false_eq_true, not_true_eq_false, and_self, and_true, true_and, false_and, and_false, or_true, true_or, or_false, false_or, or_self, reduceCtorEq, mm_q, Option.getD_some, cI_some, cJ_some, cV_some, cS_some, kd_sI, kd_sL, kd_sR, kd_cp, ln_sI, ln_sL, ln_sR, ln_cp, gR_sI, gR_sL, gR_sR, gR_cp, gL_sI, gL_sR, gL_cp, gI_sL, gI_sR, iI_add, iI_sub, iI_mul, iI_neg, iI_in, iI_tn, iI_lt, iI_eq, Nat.reduceLeDiff, Nat.reduceEqDiff, Nat.reduceAdd, Int.reduceEq, Int.reduceLT, Int.reduceLE, Int.reduceNeg, Int.reduceAdd, Int.reduceSub, Int.reduceMul, h0, iI_div, z1, z2, nk, show ¬ tempo < 1 by omega, show ¬ st D 0 < 1 by omega, show ¬ tempo = 0 by omega]
    · by_cases z3 : kind = 2
      · have v0 : 0 ≤ (fr + t / tempo) % (2 * st D 0) := Int.emod_nonneg _ (by omega)
        have v1 : (fr + t / tempo) % (2 * st D 0) < 2 * st D 0 := Int.emod_lt_of_pos _ (by omega)
        by_cases z4 : (fr + t / tempo) % (2 * st D 0) < st D 0
        · simp (disch := omega) only [wf, hw, sf, ↓reduceIte, not_false_eq_true, not_true_eq_false, and_self, and_true, true_and, false_and, and_false, or_true, true_or, or_false, false_or, or_self, reduceCtorEq, mm_q, Option.getD_some, cI_some, cJ_some, cV_some, cS_some, kd_sI, kd_sL, kd_sR, kd_cp, ln_sI, ln_sL, ln_sR, ln_cp, gR_sI, gR_sL, gR_sR, gR_cp, gL_sI, gL_sR, gL_cp, gI_sL, gI_sR, iI_add, iI_sub, iI_mul, iI_neg, iI_in, iI_tn, iI_lt, iI_eq, Nat.reduceLeDiff, Nat.reduceEqDiff, Nat.reduceAdd, Int.reduceEq, Int.reduceLT, Int.reduceLE, Int.reduceNeg, Int.reduceAdd, Int.reduceSub, Int.reduceMul, h0, iI_div, iI_rem, z1, z3, z4, show ¬ tempo < 1 by omega, show ¬ st D 0 < 1 by omega, show ¬ tempo = 0 by omega, show ¬ 2 * st D 0 = 0 by omega]
        · simp (disch := omega) only [wf, hw, sf, ↓reduceIte, not_false_eq_true, not_true_eq_false, and_self, and_true, true_and, false_and, and_false, or_true, true_or, or_false, false_or, or_self, reduceCtorEq, mm_q, Option.getD_some, cI_some, cJ_some, cV_some, cS_some, kd_sI, kd_sL, kd_sR, kd_cp, ln_sI, ln_sL, ln_sR, ln_cp, gR_sI, gR_sL, gR_sR, gR_cp, gL_sI, gL_sR, gL_cp, gI_sL, gI_sR, iI_add, iI_sub, iI_mul, iI_neg, iI_in, iI_tn, iI_lt, iI_eq, Nat.reduceLeDiff, Nat.reduceEqDiff, Nat.reduceAdd, Int.reduceEq, Int.reduceLT, Int.reduceLE, Int.reduceNeg, Int.reduceAdd, Int.reduceSub, Int.reduceMul, h0, iI_div, iI_rem, z1, z3, z4, show ¬ tempo < 1 by omega, show ¬ st D 0 < 1 by omega, show ¬ tempo = 0 by omega, show ¬ 2 * st D 0 = 0 by omega]
      · have w0 : 0 ≤ (t - tempo * (st D 0 - fr)) % (tempo * st D 0 + st D 8) := Int.emod_nonneg _ (by omega)
        have w1 : (t - tempo * (st D 0 - fr)) % (tempo * st D 0 + st D 8) < tempo * st D 0 + st D 8 := Int.emod_lt_of_pos _ (by omega)
        have e3 : st D 8 + tempo * st D 0 = tempo * st D 0 + st D 8 := Int.add_comm _ _
        by_cases z4 : (t - tempo * (st D 0 - fr)) % (tempo * st D 0 + st D 8) < st D 8
        · simp (disch := omega) only [wf, hw, sf, ↓reduceIte, not_false_eq_true, not_true_eq_false, and_self, and_true, true_and, false_and, and_false, or_true, true_or, or_false, false_or, or_self, reduceCtorEq, mm_q, Option.getD_some, cI_some, cJ_some, cV_some, cS_some, kd_sI, kd_sL, kd_sR, kd_cp, ln_sI, ln_sL, ln_sR, ln_cp, gR_sI, gR_sL, gR_sR, gR_cp, gL_sI, gL_sR, gL_cp, gI_sL, gI_sR, iI_add, iI_sub, iI_mul, iI_neg, iI_in, iI_tn, iI_lt, iI_eq, Nat.reduceLeDiff, Nat.reduceEqDiff, Nat.reduceAdd, Int.reduceEq, Int.reduceLT, Int.reduceLE, Int.reduceNeg, Int.reduceAdd, Int.reduceSub, Int.reduceMul, h0, h5, iI_div, iI_rem, x1, x2, e3, z1, z2, z3, z4, nk, show ¬ tempo < 1 by omega, show ¬ st D 0 < 1 by omega, show ¬ tempo = 0 by omega, show ¬ tempo * st D 0 + st D 8 = 0 by omega, show (t - tempo * (st D 0 - fr)) % (tempo * st D 0 + st D 8) - st D 8 < 0 by omega]
        · simp (disch := omega) only [wf, hw, sf, ↓reduceIte, not_false_eq_true, not_true_eq_false, and_self, and_true, true_and, false_and, and_false, or_true, true_or, or_false, false_or, or_self, reduceCtorEq, mm_q, Option.getD_some, cI_some, cJ_some, cV_some, cS_some, kd_sI, kd_sL, kd_sR, kd_cp, ln_sI, ln_sL, ln_sR, ln_cp, gR_sI, gR_sL, gR_sR, gR_cp, gL_sI, gL_sR, gL_cp, gI_sL, gI_sR, iI_add, iI_sub, iI_mul, iI_neg, iI_in, iI_tn, iI_lt, iI_eq, Nat.reduceLeDiff, Nat.reduceEqDiff, Nat.reduceAdd, Int.reduceEq, Int.reduceLT, Int.reduceLE, Int.reduceNeg, Int.reduceAdd, Int.reduceSub, Int.reduceMul, h0, h5, iI_div, iI_rem, x1, x2, e3, z1, z2, z3, z4, nk, show ¬ tempo < 1 by omega, show ¬ st D 0 < 1 by omega, show ¬ tempo = 0 by omega, show ¬ tempo * st D 0 + st D 8 = 0 by omega, show ¬ (t - tempo * (st D 0 - fr)) % (tempo * st D 0 + st D 8) - st D 8 < 0 by omega]
theorem at0 {n kind rd fr tempo : Int} (hn : 0 < n) (f0 : 0 ≤ fr) (f1 : fr < n) (ht : 0 < tempo) : atS n kind rd fr 0 tempo = fr := by
  unfold atS
  rw [if_neg (by omega), Int.zero_ediv, Int.add_zero, Int.emod_eq_of_lt f0 (by omega), if_pos f1]
  split
  · rfl
  · rw [if_pos (Int.mul_pos ht (by omega))]
/-- Walks.cellAfter -/
theorem C88 (hs : Sh m) (hst : isSt s) (hW : isW W) (hR : RSt D m s) (hw : RW D m s W B take late) (hI : InvS D) (hB : InvB D B) (hd : 1 ≤ d) {w g : Int} (w0 : 0 ≤ w) (w1 : w < st D 6) (g0 : -5000 ≤ g) (g1 : g ≤ 600) : mm_ev d 88 0 [some (.ref W), some (.int (iI (w))), some (.int (iI (g))), none, none, none, none] [] m = some (some (some (.int (iI (plS (st D 0) (B (9 + w)) (atS (st D 0) (wk D w 0) (st D 8) (if B (9 + w) = 1 then B (1 + w) else st D 0 - 1 - B (1 + w)) g (tempoS D w take)))))), m) := by
  obtain ⟨k0, k1⟩ := hI.2.2.2.2.2.1
  obtain ⟨c0, c1⟩ := hI.1
  obtain ⟨r0, r1⟩ := hI.2.2.2.2.2.2.2.1
  have sf := stF hs hst
  have wf := wF hs hW
  have wkf := wkF hs hst w0 (show w < 8 by omega)
  obtain ⟨b1, b2, b3, b5⟩ := hw.2 w w0 w1
  obtain ⟨⟨s0, s1⟩, ⟨t0, t1⟩, -⟩ := hB.2 w w0 w1
  have tr := tempoS_r hI (take := take) w0 w1
  have a1 := (hR.2.2.1 w w0 w1).1
  obtain ⟨x0, x1⟩ := (hI.2.2.2.2.2.2.2.2.2.1 w w0 w1).1
  have h0 := hR.1.1
  have fin : ∀ (r : Bool) (fr : Int), 0 ≤ fr → fr < st D 0 → mm_ev d 88 49 [some (.ref W), some (.int (iI (w))), some (.int (iI (g))), some (.int (iI (st D 0 - 1))), some (.int (iI (bI r))), none, none] [.int (iI fr)] m = some (some (some (.int (iI (if atS (st D 0) (wk D w 0) (st D 8) fr g (tempoS D w take) < 0 then -1 else if r = true then atS (st D 0) (wk D w 0) (st D 8) fr g (tempoS D w take) else st D 0 - 1 - atS (st D 0) (wk D w 0) (st D 8) fr g (tempoS D w take))))), m) := by
    intro r fr f0 f1
    have ar := @atS_r (st D 0) (wk D w 0) (st D 8) fr g (tempoS D w take) (by omega) f0 f1 (by omega) r0
    have e85 : ∀ x : Int, -1 ≤ x → x < st D 0 → mm_ev d 88 85 [some (.ref W), some (.int (iI (w))), some (.int (iI (g))), some (.int (iI (st D 0 - 1))), some (.int (iI (bI r))), some (.int (iI (fr))), none] [.int (iI x)] m = some (some (some (.int (iI (if x < 0 then -1 else if r = true then x else st D 0 - 1 - x)))), m) := by
      intro x y0 y1
      rw [sg_88_85]
      by_cases z : x = -1
      · rw [if_pos (by rw [z]), if_pos (by omega), z]
      · rw [if_neg (by rw [iI_eq] <;> omega), if_neg (show ¬ x < 0 by omega)]
        cases r
        · simp (disch := omega) only [↓reduceIte, not_false_eq_true, not_true_eq_false, and_self, and_true, true_and, false_and, and_false, or_true, true_or, or_false, false_or, or_self, reduceCtorEq, mm_q, Option.getD_some, cI_some, cJ_some, cV_some, cS_some, kd_sI, kd_sL, kd_sR, kd_cp, ln_sI, ln_sL, ln_sR, ln_cp, gR_sI, gR_sL, gR_sR, gR_cp, gL_sI, gL_sR, gL_cp, gI_sL, gI_sR, iI_add, iI_sub, iI_mul, iI_neg, iI_in, iI_tn, iI_lt, iI_eq, Nat.reduceLeDiff, Nat.reduceEqDiff, Nat.reduceAdd, Int.reduceEq, Int.reduceLT, Int.reduceLE, Int.reduceNeg, Int.reduceAdd, Int.reduceSub, Int.reduceMul, bI_t, bI_f, decide_true, decide_false, Bool.and_true, Bool.and_false, Bool.true_and, Bool.false_and, Bool.false_eq_true, Bool.and_self, Bool.not_true, Bool.not_false, Bool.true_or, Bool.false_or, Bool.or_true, Bool.or_false]
        · simp (disch := omega) only [↓reduceIte, not_false_eq_true, not_true_eq_false, and_self, and_true, true_and, false_and, and_false, or_true, true_or, or_false, false_or, or_self, reduceCtorEq, mm_q, Option.getD_some, cI_some, cJ_some, cV_some, cS_some, kd_sI, kd_sL, kd_sR, kd_cp, ln_sI, ln_sL, ln_sR, ln_cp, gR_sI, gR_sL, gR_sR, gR_cp, gL_sI, gL_sR, gL_cp, gI_sL, gI_sR, iI_add, iI_sub, iI_mul, iI_neg, iI_in, iI_tn, iI_lt, iI_eq, Nat.reduceLeDiff, Nat.reduceEqDiff, Nat.reduceAdd, Int.reduceEq, Int.reduceLT, Int.reduceLE, Int.reduceNeg, Int.reduceAdd, Int.reduceSub, Int.reduceMul, bI_t, bI_f, decide_true, decide_false, Bool.and_true, Bool.and_false, Bool.true_and, Bool.false_and, Bool.false_eq_true, Bool.and_self, Bool.not_true, Bool.not_false, Bool.true_or, Bool.false_or, Bool.or_true, Bool.or_false]
    rw [sg_88_49 (by omega)]
    by_cases z : 0 < g
    · simp (disch := omega) only [wf, hw.1, sf, wkf, ↓reduceIte, not_false_eq_true, not_true_eq_false, and_self, and_true, true_and, false_and, and_false, or_true, true_or, or_false, false_or, or_self, reduceCtorEq, mm_q, Option.getD_some, cI_some, cJ_some, cV_some, cS_some, kd_sI, kd_sL, kd_sR, kd_cp, ln_sI, ln_sL, ln_sR, ln_cp, gR_sI, gR_sL, gR_sR, gR_cp, gL_sI, gL_sR, gL_cp, gI_sL, gI_sR, iI_add, iI_sub, iI_mul, iI_neg, iI_in, iI_tn, iI_lt, iI_eq, Nat.reduceLeDiff, Nat.reduceEqDiff, Nat.reduceAdd, Int.reduceEq, Int.reduceLT, Int.reduceLE, Int.reduceNeg, Int.reduceAdd, Int.reduceSub, Int.reduceMul, z, a1, b5, C89 hs hst hW hR hw.1 hI]
      exact e85 _ ar.1 ar.2
    · have e : atS (st D 0) (wk D w 0) (st D 8) fr g (tempoS D w take) = fr := by
        by_cases y : g = 0
        · rw [y]; exact at0 (by omega) f0 f1 (by omega)
        · unfold atS; rw [if_pos (by omega)]
      simp (disch := omega) only [↓reduceIte, not_false_eq_true, not_true_eq_false, and_self, and_true, true_and, false_and, and_false, or_true, true_or, or_false, false_or, or_self, reduceCtorEq, mm_q, Option.getD_some, cI_some, cJ_some, cV_some, cS_some, kd_sI, kd_sL, kd_sR, kd_cp, ln_sI, ln_sL, ln_sR, ln_cp, gR_sI, gR_sL, gR_sR, gR_cp, gL_sI, gL_sR, gL_cp, gI_sL, gI_sR, iI_add, iI_sub, iI_mul, iI_neg, iI_in, iI_tn, iI_lt, iI_eq, Nat.reduceLeDiff, Nat.reduceEqDiff, Nat.reduceAdd, Int.reduceEq, Int.reduceLT, Int.reduceLE, Int.reduceNeg, Int.reduceAdd, Int.reduceSub, Int.reduceMul, z]
      rw [e]
      exact e85 _ (by omega) f1
  rw [sg_88_0]
  unfold plS
  by_cases z : B (9 + w) = 1
  · have := fin true (B (1 + w)) s0 s1
    simp (disch := omega) only [wf, hw.1, sf, ↓reduceIte, not_false_eq_true, not_true_eq_false, and_self, and_true, true_and, false_and, and_false, or_true, true_or, or_false, false_or, or_self, reduceCtorEq, mm_q, Option.getD_some, cI_some, cJ_some, cV_some, cS_some, kd_sI, kd_sL, kd_sR, kd_cp, ln_sI, ln_sL, ln_sR, ln_cp, gR_sI, gR_sL, gR_sR, gR_cp, gL_sI, gL_sR, gL_cp, gI_sL, gI_sR, iI_add, iI_sub, iI_mul, iI_neg, iI_in, iI_tn, iI_lt, iI_eq, Nat.reduceLeDiff, Nat.reduceEqDiff, Nat.reduceAdd, Int.reduceEq, Int.reduceLT, Int.reduceLE, Int.reduceNeg, Int.reduceAdd, Int.reduceSub, Int.reduceMul, b2, h0, z]
    rw [sg_88_25]
    simp (disch := omega) only [wf, ↓reduceIte, not_false_eq_true, not_true_eq_false, and_self, and_true, true_and, false_and, and_false, or_true, true_or, or_false, false_or, or_self, reduceCtorEq, mm_q, Option.getD_some, cI_some, cJ_some, cV_some, cS_some, kd_sI, kd_sL, kd_sR, kd_cp, ln_sI, ln_sL, ln_sR, ln_cp, gR_sI, gR_sL, gR_sR, gR_cp, gL_sI, gL_sR, gL_cp, gI_sL, gI_sR, iI_add, iI_sub, iI_mul, iI_neg, iI_in, iI_tn, iI_lt, iI_eq, Nat.reduceLeDiff, Nat.reduceEqDiff, Nat.reduceAdd, Int.reduceEq, Int.reduceLT, Int.reduceLE, Int.reduceNeg, Int.reduceAdd, Int.reduceSub, Int.reduceMul, b1]
    rw [bI_t] at this
    rw [this]
    rfl
  · have := fin false (st D 0 - 1 - B (1 + w)) (by omega) (by omega)
    simp (disch := omega) only [wf, hw.1, sf, ↓reduceIte, not_false_eq_true, not_true_eq_false, and_self, and_true, true_and, false_and, and_false, or_true, true_or, or_false, false_or, or_self, reduceCtorEq, mm_q, Option.getD_some, cI_some, cJ_some, cV_some, cS_some, kd_sI, kd_sL, kd_sR, kd_cp, ln_sI, ln_sL, ln_sR, ln_cp, gR_sI, gR_sL, gR_sR, gR_cp, gL_sI, gL_sR, gL_cp, gI_sL, gI_sR, iI_add, iI_sub, iI_mul, iI_neg, iI_in, iI_tn, iI_lt, iI_eq, Nat.reduceLeDiff, Nat.reduceEqDiff, Nat.reduceAdd, Int.reduceEq, Int.reduceLT, Int.reduceLE, Int.reduceNeg, Int.reduceAdd, Int.reduceSub, Int.reduceMul, b2, h0, z]
    rw [sg_88_25]
    simp (disch := omega) only [wf, ↓reduceIte, not_false_eq_true, not_true_eq_false, and_self, and_true, true_and, false_and, and_false, or_true, true_or, or_false, false_or, or_self, reduceCtorEq, mm_q, Option.getD_some, cI_some, cJ_some, cV_some, cS_some, kd_sI, kd_sL, kd_sR, kd_cp, ln_sI, ln_sL, ln_sR, ln_cp, gR_sI, gR_sL, gR_sR, gR_cp, gL_sI, gL_sR, gL_cp, gI_sL, gI_sR, iI_add, iI_sub, iI_mul, iI_neg, iI_in, iI_tn, iI_lt, iI_eq, Nat.reduceLeDiff, Nat.reduceEqDiff, Nat.reduceAdd, Int.reduceEq, Int.reduceLT, Int.reduceLE, Int.reduceNeg, Int.reduceAdd, Int.reduceSub, Int.reduceMul, b1]
    rw [bI_f] at this
    rw [this]
    rfl
/-- Walks.cellOf -/
theorem C87 (hs : Sh m) (hst : isSt s) (hW : isW W) (hR : RSt D m s) (hw : RW D m s W B take late) (hI : InvS D) (hB : InvB D B) (hd : 2 ≤ d) {w t : Int} (w0 : 0 ≤ w) (w1 : w < st D 6) (t0 : 0 ≤ t) (t1 : t ≤ 600) : mm_ev d 87 0 [some (.ref W), some (.int (iI (w))), some (.int (iI (t)))] [] m = some (some (some (.int (iI (placeB D B take late w t)))), m) := by
  obtain ⟨k0, k1⟩ := hI.2.2.2.2.2.1
  have wf := wF hs hW
  obtain ⟨b1, b2, b3, b5⟩ := hw.2 w w0 w1
  obtain ⟨-, -, ⟨l0, l1⟩⟩ := hB.2 w w0 w1
  have cr := cueS_r hI w0 w1
  obtain ⟨i0, i1⟩ := (hI.2.2.2.2.2.2.2.2.2.1 w w0 w1).2.2.2.2.2.1
  have lr : 0 ≤ (if late = true then B (17 + w) else 0) ∧ (if late = true then B (17 + w) else 0) ≤ 99 := by split <;> omega
  have e := C88 (d := d - 1) hs hst hW hR hw hI hB (by omega) w0 w1 (g := t - (cueS D w + wk D w 5 + if late = true then B (17 + w) else 0)) (by omega) (by omega)
  rw [sg_87_0 (by omega)]
  simp (disch := omega) only [wf, ↓reduceIte, not_false_eq_true, not_true_eq_false, and_self, and_true, true_and, false_and, and_false, or_true, true_or, or_false, false_or, or_self, reduceCtorEq, mm_q, Option.getD_some, cI_some, cJ_some, cV_some, cS_some, kd_sI, kd_sL, kd_sR, kd_cp, ln_sI, ln_sL, ln_sR, ln_cp, gR_sI, gR_sL, gR_sR, gR_cp, gL_sI, gL_sR, gL_cp, gI_sL, gI_sR, iI_add, iI_sub, iI_mul, iI_neg, iI_in, iI_tn, iI_lt, iI_eq, Nat.reduceLeDiff, Nat.reduceEqDiff, Nat.reduceAdd, Int.reduceEq, Int.reduceLT, Int.reduceLE, Int.reduceNeg, Int.reduceAdd, Int.reduceSub, Int.reduceMul, b3, e]
  unfold placeB placeS
  rw [show t - (cueS D w + wk D w 5 + if late = true then B (17 + w) else 0) = t - cueS D w - (wk D w 5 + if late = true then B (17 + w) else 0) by omega]
end
