def tellOk (D : Nat → Nat → Int32) (ta t : Int) : Bool := inB ta 0 60 && (inB t 0 600 && !decide (sa D 25 = 10))
def tellD (D : Nat → Nat → Int32) (ta t : Int) : Nat → Nat → Int32 := if tellOk D ta t = true then up (up (up D 332 (26 + 2 * sa D 25).toNat (iI ta)) 332 (26 + 2 * sa D 25 + 1).toNat (iI t)) 332 25 (iI (sa D 25 + 1)) else D
def sightOk (D : Nat → Nat → Int32) (t c : Int) : Bool := inB t 0 600 && (inB c 0 (st D 0 - 1) && !decide (sa D 46 = 10))
def sightD (D : Nat → Nat → Int32) (t c : Int) (r : Bool) : Nat → Nat → Int32 := if sightOk D t c = true then up (up (up (up D 332 (47 + 3 * sa D 46).toNat (iI t)) 332 (47 + 3 * sa D 46 + 1).toNat (iI c)) 332 (47 + 3 * sa D 46 + 2).toNat (iI (bI r))) 332 46 (iI (sa D 46 + 1)) else D
def mkd (D : Nat → Nat → Int32) (k : Int) : Int := (D 333 k.toNat).toInt
def markOk (D : Nat → Nat → Int32) (k : Int) (back : Bool) : Bool := inB k 0 3 && (!back || !decide (mkd D k = 0))
def markD (D : Nat → Nat → Int32) (k : Int) (back : Bool) : Nat → Nat → Int32 := if markOk D k back = true then (if back = true then up (cpD (up D 333 k.toNat (iI 1)) (80 * (1 + k.toNat)) 0 80) 316 26 (iI 0) else cpD (up D 333 k.toNat (iI 1)) 0 (80 * (1 + k.toNat)) 80) else D
def okC (c : Int32) : Bool := decide (c = iI 10) || (!decide (c < iI 32) && !decide (iI 126 < c))
def layC (D : Nat → Nat → Int32) (c : Int32) : Nat → Nat → Int32 := if okC c = true then (if D 316 2 < iI 1000 then up (up D 317 (D 316 2).toNatClampNeg c) 316 2 (D 316 2 + iI 1) else D) else D
def layGo (v : Int64) : Nat → Int → (Nat → Nat → Int32) → Nat → Nat → Int32
  | 0, _, D => D
  | k + 1, s, D => layGo v k (s - 8) (layC D ((lShr v (iI s)).toInt32 &&& iI 255))
def layD (D : Nat → Nat → Int32) (v : Int64) : Nat → Nat → Int32 := layGo v 8 56 D
section
variable {D : Nat → Nat → Int32} {E : Nat → Nat → Int64} {m m' m'' : mm_M} {d : Nat}
/-- tell -/
theorem M261 (h : MD D E m) (hd : 1 ≤ d) (c0 : 0 ≤ sa D 25) (c1 : sa D 25 ≤ 10) {ta t : Int} (ta_0 : -2147483648 ≤ ta) (ta_1 : ta < 2147483648) (t_0 : -2147483648 ≤ t) (t_1 : t < 2147483648) : ∃ m', mm_ev d 261 0 [some (.ref 316), some (.int (iI (ta))), some (.int (iI (t)))] [] m = some (some (some (.int (iI (bI (tellOk D ta t))))), m') ∧ MD (tellD D ta t) E m' ∧ Fr scA m m' := by
  have h1 := h.fr thr0
  rw [sg_261_0 (by omega)]
  unfold tellD tellOk
  cases z1 : inB ta 0 60
  · exact ⟨_, by simp (disch := omega) only [shM h.1, ↓reduceIte, not_false_eq_true, not_true_eq_false, and_self, and_true, true_and, false_and, and_false, or_true, true_or, or_false, false_or, or_self, reduceCtorEq, mm_q, Option.getD_some, cI_some, cJ_some, cV_some, cS_some, kd_sI, kd_sL, kd_sR, kd_cp, ln_sI, ln_sL, ln_sR, ln_cp, gR_sI, gR_sL, gR_sR, gR_cp, gL_sI, gL_sR, gL_cp, gI_sL, gI_sR, iI_add, iI_sub, iI_mul, iI_neg, iI_in, iI_tn, iI_lt, iI_eq, Nat.reduceLeDiff, Nat.reduceEqDiff, Nat.reduceAdd, Int.reduceEq, Int.reduceLT, Int.reduceLE, Int.reduceNeg, Int.reduceAdd, Int.reduceSub, Int.reduceMul, bI_t, bI_f, decide_true, decide_false, Bool.and_true, Bool.and_false, Bool.true_and, Bool.false_and, Bool.false_eq_true, Bool.and_self, Bool.not_true, Bool.not_false, Bool.true_or, Bool.false_or, Bool.or_true, Bool.or_false, M188', z1], h1, thr0.MA⟩
  · simp (disch := omega) only [shM h.1, ↓reduceIte, not_false_eq_true, not_true_eq_false, and_self, and_true, true_and, false_and, and_false, or_true, true_or, or_false, false_or, or_self, reduceCtorEq, mm_q, Option.getD_some, cI_some, cJ_some, cV_some, cS_some, kd_sI, kd_sL, kd_sR, kd_cp, ln_sI, ln_sL, ln_sR, ln_cp, gR_sI, gR_sL, gR_sR, gR_cp, gL_sI, gL_sR, gL_cp, gI_sL, gI_sR, iI_add, iI_sub, iI_mul, iI_neg, iI_in, iI_tn, iI_lt, iI_eq, Nat.reduceLeDiff, Nat.reduceEqDiff, Nat.reduceAdd, Int.reduceEq, Int.reduceLT, Int.reduceLE, Int.reduceNeg, Int.reduceAdd, Int.reduceSub, Int.reduceMul, bI_t, bI_f, decide_true, decide_false, Bool.and_true, Bool.and_false, Bool.true_and, Bool.false_and, Bool.false_eq_true, Bool.and_self, Bool.not_true, Bool.not_false, Bool.true_or, Bool.false_or, Bool.or_true, Bool.or_false, M188', z1]
    rw [sg_261_23]
    cases z2 : inB t 0 600
    · exact ⟨_, by simp (disch := omega) only [↓reduceIte, not_false_eq_true, not_true_eq_false, and_self, and_true, true_and, false_and, and_false, or_true, true_or, or_false, false_or, or_self, reduceCtorEq, mm_q, Option.getD_some, cI_some, cJ_some, cV_some, cS_some, kd_sI, kd_sL, kd_sR, kd_cp, ln_sI, ln_sL, ln_sR, ln_cp, gR_sI, gR_sL, gR_sR, gR_cp, gL_sI, gL_sR, gL_cp, gI_sL, gI_sR, iI_add, iI_sub, iI_mul, iI_neg, iI_in, iI_tn, iI_lt, iI_eq, Nat.reduceLeDiff, Nat.reduceEqDiff, Nat.reduceAdd, Int.reduceEq, Int.reduceLT, Int.reduceLE, Int.reduceNeg, Int.reduceAdd, Int.reduceSub, Int.reduceMul, bI_t, bI_f, decide_true, decide_false, Bool.and_true, Bool.and_false, Bool.true_and, Bool.false_and, Bool.false_eq_true, Bool.and_self, Bool.not_true, Bool.not_false, Bool.true_or, Bool.false_or, Bool.or_true, Bool.or_false], h1, thr0.MA⟩
    · by_cases z3 : sa D 25 = 10
      · exact ⟨_, by simp (disch := omega) only [shM h1.1, ↓reduceIte, not_false_eq_true, not_true_eq_false, and_self, and_true, true_and, false_and, and_false, or_true, true_or, or_false, false_or, or_self, reduceCtorEq, mm_q, Option.getD_some, cI_some, cJ_some, cV_some, cS_some, kd_sI, kd_sL, kd_sR, kd_cp, ln_sI, ln_sL, ln_sR, ln_cp, gR_sI, gR_sL, gR_sR, gR_cp, gL_sI, gL_sR, gL_cp, gI_sL, gI_sR, iI_add, iI_sub, iI_mul, iI_neg, iI_in, iI_tn, iI_lt, iI_eq, Nat.reduceLeDiff, Nat.reduceEqDiff, Nat.reduceAdd, Int.reduceEq, Int.reduceLT, Int.reduceLE, Int.reduceNeg, Int.reduceAdd, Int.reduceSub, Int.reduceMul, bI_t, bI_f, decide_true, decide_false, Bool.and_true, Bool.and_false, Bool.true_and, Bool.false_and, Bool.false_eq_true, Bool.and_self, Bool.not_true, Bool.not_false, Bool.true_or, Bool.false_or, Bool.or_true, Bool.or_false, MD_sa h1, z3], by simp (disch := omega) only [↓reduceIte, not_false_eq_true, not_true_eq_false, and_self, and_true, true_and, false_and, and_false, or_true, true_or, or_false, false_or, or_self, reduceCtorEq, mm_q, Option.getD_some, cI_some, cJ_some, cV_some, cS_some, kd_sI, kd_sL, kd_sR, kd_cp, ln_sI, ln_sL, ln_sR, ln_cp, gR_sI, gR_sL, gR_sR, gR_cp, gL_sI, gL_sR, gL_cp, gI_sL, gI_sR, iI_add, iI_sub, iI_mul, iI_neg, iI_in, iI_tn, iI_lt, iI_eq, Nat.reduceLeDiff, Nat.reduceEqDiff, Nat.reduceAdd, Int.reduceEq, Int.reduceLT, Int.reduceLE, Int.reduceNeg, Int.reduceAdd, Int.reduceSub, Int.reduceMul, bI_t, bI_f, decide_true, decide_false, Bool.and_true, Bool.and_false, Bool.true_and, Bool.false_and, Bool.false_eq_true, Bool.and_self, Bool.not_true, Bool.not_false, Bool.true_or, Bool.false_or, Bool.or_true, Bool.or_false, z3]; exact h1, thr0.MA⟩
      · have h2 : MD (up D 332 (26 + 2 * sa D 25).toNat (iI ta)) E _ := h1.sI
        have h3 : MD (up (up D 332 (26 + 2 * sa D 25).toNat (iI ta)) 332 (26 + 2 * sa D 25 + 1).toNat (iI t)) E _ := h2.sI
        have e25 : mm_gI (mm_sI m 316 0 (iI 0)) 332 25 = iI (sa D 25) := MD_sa h1 (i := 25) (by omega) (by omega)
        refine ⟨_, ?_, by simp (disch := omega) only [↓reduceIte, not_false_eq_true, not_true_eq_false, and_self, and_true, true_and, false_and, and_false, or_true, true_or, or_false, false_or, or_self, reduceCtorEq, mm_q, Option.getD_some, cI_some, cJ_some, cV_some, cS_some, kd_sI, kd_sL, kd_sR, kd_cp, ln_sI, ln_sL, ln_sR, ln_cp, gR_sI, gR_sL, gR_sR, gR_cp, gL_sI, gL_sR, gL_cp, gI_sL, gI_sR, iI_add, iI_sub, iI_mul, iI_neg, iI_in, iI_tn, iI_lt, iI_eq, Nat.reduceLeDiff, Nat.reduceEqDiff, Nat.reduceAdd, Int.reduceEq, Int.reduceLT, Int.reduceLE, Int.reduceNeg, Int.reduceAdd, Int.reduceSub, Int.reduceMul, bI_t, bI_f, decide_true, decide_false, Bool.and_true, Bool.and_false, Bool.true_and, Bool.false_and, Bool.false_eq_true, Bool.and_self, Bool.not_true, Bool.not_false, Bool.true_or, Bool.false_or, Bool.or_true, Bool.or_false, z3]; exact h3.sI, ((thr0.MA.tr (Fr.sA (by omega) (by omega))).tr (Fr.sA (by omega) (by omega))).tr (Fr.sA (by omega) (by omega))⟩
        have n1 : ¬ 25 = (26 + 2 * sa D 25 + 1).toNat := by omega
        have n2 : ¬ 25 = (26 + 2 * sa D 25).toNat := by omega
        simp (disch := omega) only [shM h1.1, shM h2.1, shM h3.1, ↓reduceIte, not_false_eq_true, not_true_eq_false, and_self, and_true, true_and, false_and, and_false, or_true, true_or, or_false, false_or, or_self, reduceCtorEq, mm_q, Option.getD_some, cI_some, cJ_some, cV_some, cS_some, kd_sI, kd_sL, kd_sR, kd_cp, ln_sI, ln_sL, ln_sR, ln_cp, gR_sI, gR_sL, gR_sR, gR_cp, gL_sI, gL_sR, gL_cp, gI_sL, gI_sR, iI_add, iI_sub, iI_mul, iI_neg, iI_in, iI_tn, iI_lt, iI_eq, Nat.reduceLeDiff, Nat.reduceEqDiff, Nat.reduceAdd, Int.reduceEq, Int.reduceLT, Int.reduceLE, Int.reduceNeg, Int.reduceAdd, Int.reduceSub, Int.reduceMul, bI_t, bI_f, decide_true, decide_false, Bool.and_true, Bool.and_false, Bool.true_and, Bool.false_and, Bool.false_eq_true, Bool.and_self, Bool.not_true, Bool.not_false, Bool.true_or, Bool.false_or, Bool.or_true, Bool.or_false, show Int.toNat 25 = 25 from rfl, e25, z3, gI_sI, n1, n2]
/-- sight -/
theorem M265 (h : MD D E m) (hI : InvS D) (hd : 1 ≤ d) (c0 : 0 ≤ sa D 46) (c1 : sa D 46 ≤ 10) {t c : Int} {r : Bool} (t_0 : -2147483648 ≤ t) (t_1 : t < 2147483648) (c_0 : -2147483648 ≤ c) (c_1 : c < 2147483648) : ∃ m', mm_ev d 265 0 [some (.ref 316), some (.int (iI (t))), some (.int (iI (c))), some (.int (iI (bI r))), none] [] m = some (some (some (.int (iI (bI (sightOk D t c))))), m') ∧ MD (sightD D t c r) E m' ∧ Fr scA m m' := by
  have h1 := h.fr thr0
  obtain ⟨q0, q1⟩ := hI.1
  rw [sg_265_0 (by omega)]
  simp (disch := omega) only [shM h.1, ↓reduceIte, not_false_eq_true, not_true_eq_false, and_self, and_true, true_and, reduceCtorEq, mm_q, Option.getD_some, cI_some, cJ_some, cV_some, cS_some, Nat.reduceLeDiff, Nat.reduceEqDiff, M188']
  rw [sg_265_13 (by omega)]
  unfold sightD sightOk
  cases z1 : inB t 0 600
  · exact ⟨_, by simp (disch := omega) only [↓reduceIte, not_false_eq_true, not_true_eq_false, and_self, and_true, true_and, false_and, and_false, or_true, true_or, or_false, false_or, or_self, reduceCtorEq, mm_q, Option.getD_some, cI_some, cJ_some, cV_some, cS_some, kd_sI, kd_sL, kd_sR, kd_cp, ln_sI, ln_sL, ln_sR, ln_cp, gR_sI, gR_sL, gR_sR, gR_cp, gL_sI, gL_sR, gL_cp, gI_sL, gI_sR, iI_add, iI_sub, iI_mul, iI_neg, iI_in, iI_tn, iI_lt, iI_eq, Nat.reduceLeDiff, Nat.reduceEqDiff, Nat.reduceAdd, Int.reduceEq, Int.reduceLT, Int.reduceLE, Int.reduceNeg, Int.reduceAdd, Int.reduceSub, Int.reduceMul, bI_t, bI_f, decide_true, decide_false, Bool.and_true, Bool.and_false, Bool.true_and, Bool.false_and, Bool.false_eq_true, Bool.and_self, Bool.not_true, Bool.not_false, Bool.true_or, Bool.false_or, Bool.or_true, Bool.or_false], h1, thr0.MA⟩
  · simp (disch := omega) only [shM h1.1, ↓reduceIte, not_false_eq_true, not_true_eq_false, and_self, and_true, true_and, false_and, and_false, or_true, true_or, or_false, false_or, or_self, reduceCtorEq, mm_q, Option.getD_some, cI_some, cJ_some, cV_some, cS_some, kd_sI, kd_sL, kd_sR, kd_cp, ln_sI, ln_sL, ln_sR, ln_cp, gR_sI, gR_sL, gR_sR, gR_cp, gL_sI, gL_sR, gL_cp, gI_sL, gI_sR, iI_add, iI_sub, iI_mul, iI_neg, iI_in, iI_tn, iI_lt, iI_eq, Nat.reduceLeDiff, Nat.reduceEqDiff, Nat.reduceAdd, Int.reduceEq, Int.reduceLT, Int.reduceLE, Int.reduceNeg, Int.reduceAdd, Int.reduceSub, Int.reduceMul, bI_t, bI_f, decide_true, decide_false, Bool.and_true, Bool.and_false, Bool.true_and, Bool.false_and, Bool.false_eq_true, Bool.and_self, Bool.not_true, Bool.not_false, Bool.true_or, Bool.false_or, Bool.or_true, Bool.or_false, M208 h1, M188']
    rw [sg_265_27]
    cases z2 : inB c 0 (st D 0 - 1)
    · exact ⟨_, by simp (disch := omega) only [↓reduceIte, not_false_eq_true, not_true_eq_false, and_self, and_true, true_and, false_and, and_false, or_true, true_or, or_false, false_or, or_self, reduceCtorEq, mm_q, Option.getD_some, cI_some, cJ_some, cV_some, cS_some, kd_sI, kd_sL, kd_sR, kd_cp, ln_sI, ln_sL, ln_sR, ln_cp, gR_sI, gR_sL, gR_sR, gR_cp, gL_sI, gL_sR, gL_cp, gI_sL, gI_sR, iI_add, iI_sub, iI_mul, iI_neg, iI_in, iI_tn, iI_lt, iI_eq, Nat.reduceLeDiff, Nat.reduceEqDiff, Nat.reduceAdd, Int.reduceEq, Int.reduceLT, Int.reduceLE, Int.reduceNeg, Int.reduceAdd, Int.reduceSub, Int.reduceMul, bI_t, bI_f, decide_true, decide_false, Bool.and_true, Bool.and_false, Bool.true_and, Bool.false_and, Bool.false_eq_true, Bool.and_self, Bool.not_true, Bool.not_false, Bool.true_or, Bool.false_or, Bool.or_true, Bool.or_false], h1, thr0.MA⟩
    · by_cases z3 : sa D 46 = 10
      · exact ⟨_, by simp (disch := omega) only [shM h1.1, ↓reduceIte, not_false_eq_true, not_true_eq_false, and_self, and_true, true_and, false_and, and_false, or_true, true_or, or_false, false_or, or_self, reduceCtorEq, mm_q, Option.getD_some, cI_some, cJ_some, cV_some, cS_some, kd_sI, kd_sL, kd_sR, kd_cp, ln_sI, ln_sL, ln_sR, ln_cp, gR_sI, gR_sL, gR_sR, gR_cp, gL_sI, gL_sR, gL_cp, gI_sL, gI_sR, iI_add, iI_sub, iI_mul, iI_neg, iI_in, iI_tn, iI_lt, iI_eq, Nat.reduceLeDiff, Nat.reduceEqDiff, Nat.reduceAdd, Int.reduceEq, Int.reduceLT, Int.reduceLE, Int.reduceNeg, Int.reduceAdd, Int.reduceSub, Int.reduceMul, bI_t, bI_f, decide_true, decide_false, Bool.and_true, Bool.and_false, Bool.true_and, Bool.false_and, Bool.false_eq_true, Bool.and_self, Bool.not_true, Bool.not_false, Bool.true_or, Bool.false_or, Bool.or_true, Bool.or_false, MD_sa h1, z3], by simp (disch := omega) only [↓reduceIte, not_false_eq_true, not_true_eq_false, and_self, and_true, true_and, false_and, and_false, or_true, true_or, or_false, false_or, or_self, reduceCtorEq, mm_q, Option.getD_some, cI_some, cJ_some, cV_some, cS_some, kd_sI, kd_sL, kd_sR, kd_cp, ln_sI, ln_sL, ln_sR, ln_cp, gR_sI, gR_sL, gR_sR, gR_cp, gL_sI, gL_sR, gL_cp, gI_sL, gI_sR, iI_add, iI_sub, iI_mul, iI_neg, iI_in, iI_tn, iI_lt, iI_eq, Nat.reduceLeDiff, Nat.reduceEqDiff, Nat.reduceAdd, Int.reduceEq, Int.reduceLT, Int.reduceLE, Int.reduceNeg, Int.reduceAdd, Int.reduceSub, Int.reduceMul, bI_t, bI_f, decide_true, decide_false, Bool.and_true, Bool.and_false, Bool.true_and, Bool.false_and, Bool.false_eq_true, Bool.and_self, Bool.not_true, Bool.not_false, Bool.true_or, Bool.false_or, Bool.or_true, Bool.or_false, z3]; exact h1, thr0.MA⟩
      · have h2 : MD (up D 332 (47 + 3 * sa D 46).toNat (iI t)) E _ := h1.sI
        have h3 : MD (up (up D 332 (47 + 3 * sa D 46).toNat (iI t)) 332 (47 + 3 * sa D 46 + 1).toNat (iI c)) E _ := h2.sI
        have h4 : MD (up (up (up D 332 (47 + 3 * sa D 46).toNat (iI t)) 332 (47 + 3 * sa D 46 + 1).toNat (iI c)) 332 (47 + 3 * sa D 46 + 2).toNat (iI (bI r))) E _ := h3.sI
        have e25 : mm_gI (mm_sI m 316 0 (iI 0)) 332 46 = iI (sa D 46) := MD_sa h1 (i := 46) (by omega) (by omega)
        refine ⟨_, ?_, by simp (disch := omega) only [↓reduceIte, not_false_eq_true, not_true_eq_false, and_self, and_true, true_and, false_and, and_false, or_true, true_or, or_false, false_or, or_self, reduceCtorEq, mm_q, Option.getD_some, cI_some, cJ_some, cV_some, cS_some, kd_sI, kd_sL, kd_sR, kd_cp, ln_sI, ln_sL, ln_sR, ln_cp, gR_sI, gR_sL, gR_sR, gR_cp, gL_sI, gL_sR, gL_cp, gI_sL, gI_sR, iI_add, iI_sub, iI_mul, iI_neg, iI_in, iI_tn, iI_lt, iI_eq, Nat.reduceLeDiff, Nat.reduceEqDiff, Nat.reduceAdd, Int.reduceEq, Int.reduceLT, Int.reduceLE, Int.reduceNeg, Int.reduceAdd, Int.reduceSub, Int.reduceMul, bI_t, bI_f, decide_true, decide_false, Bool.and_true, Bool.and_false, Bool.true_and, Bool.false_and, Bool.false_eq_true, Bool.and_self, Bool.not_true, Bool.not_false, Bool.true_or, Bool.false_or, Bool.or_true, Bool.or_false, z3]; exact h4.sI, (((thr0.MA.tr (Fr.sA (by omega) (by omega))).tr (Fr.sA (by omega) (by omega))).tr (Fr.sA (by omega) (by omega))).tr (Fr.sA (by omega) (by omega))⟩
        have n1 : ¬ 46 = (47 + 3 * sa D 46 + 1).toNat := by omega
        have n2 : ¬ 46 = (47 + 3 * sa D 46).toNat := by omega
        have n3 : ¬ 46 = (47 + 3 * sa D 46 + 2).toNat := by omega
        simp (disch := omega) only [shM h1.1, shM h2.1, shM h3.1, ↓reduceIte, not_false_eq_true, not_true_eq_false, and_self, and_true, true_and, false_and, and_false, or_true, true_or, or_false, false_or, or_self, reduceCtorEq, mm_q, Option.getD_some, cI_some, cJ_some, cV_some, cS_some, kd_sI, kd_sL, kd_sR, kd_cp, ln_sI, ln_sL, ln_sR, ln_cp, gR_sI, gR_sL, gR_sR, gR_cp, gL_sI, gL_sR, gL_cp, gI_sL, gI_sR, iI_add, iI_sub, iI_mul, iI_neg, iI_in, iI_tn, iI_lt, iI_eq, Nat.reduceLeDiff, Nat.reduceEqDiff, Nat.reduceAdd, Int.reduceEq, Int.reduceLT, Int.reduceLE, Int.reduceNeg, Int.reduceAdd, Int.reduceSub, Int.reduceMul, bI_t, bI_f, decide_true, decide_false, Bool.and_true, Bool.and_false, Bool.true_and, Bool.false_and, Bool.false_eq_true, Bool.and_self, Bool.not_true, Bool.not_false, Bool.true_or, Bool.false_or, Bool.or_true, Bool.or_false, show Int.toNat 46 = 46 from rfl, e25, z3]
        cases r
        · simp (disch := omega) only [↓reduceIte, not_false_eq_true, not_true_eq_false, and_self, and_true, true_and, false_and, and_false, or_true, true_or, or_false, false_or, or_self, reduceCtorEq, mm_q, Option.getD_some, cI_some, cJ_some, cV_some, cS_some, kd_sI, kd_sL, kd_sR, kd_cp, ln_sI, ln_sL, ln_sR, ln_cp, gR_sI, gR_sL, gR_sR, gR_cp, gL_sI, gL_sR, gL_cp, gI_sL, gI_sR, iI_add, iI_sub, iI_mul, iI_neg, iI_in, iI_tn, iI_lt, iI_eq, Nat.reduceLeDiff, Nat.reduceEqDiff, Nat.reduceAdd, Int.reduceEq, Int.reduceLT, Int.reduceLE, Int.reduceNeg, Int.reduceAdd, Int.reduceSub, Int.reduceMul, bI_t, bI_f, decide_true, decide_false, Bool.and_true, Bool.and_false, Bool.true_and, Bool.false_and, Bool.false_eq_true, Bool.and_self, Bool.not_true, Bool.not_false, Bool.true_or, Bool.false_or, Bool.or_true, Bool.or_false]
          rw [sg_265_93]
          simp (disch := omega) only [shM h3.1, shM h4.1, ↓reduceIte, not_false_eq_true, not_true_eq_false, and_self, and_true, true_and, false_and, and_false, or_true, true_or, or_false, false_or, or_self, reduceCtorEq, mm_q, Option.getD_some, cI_some, cJ_some, cV_some, cS_some, kd_sI, kd_sL, kd_sR, kd_cp, ln_sI, ln_sL, ln_sR, ln_cp, gR_sI, gR_sL, gR_sR, gR_cp, gL_sI, gL_sR, gL_cp, gI_sL, gI_sR, iI_add, iI_sub, iI_mul, iI_neg, iI_in, iI_tn, iI_lt, iI_eq, Nat.reduceLeDiff, Nat.reduceEqDiff, Nat.reduceAdd, Int.reduceEq, Int.reduceLT, Int.reduceLE, Int.reduceNeg, Int.reduceAdd, Int.reduceSub, Int.reduceMul, bI_t, bI_f, decide_true, decide_false, Bool.and_true, Bool.and_false, Bool.true_and, Bool.false_and, Bool.false_eq_true, Bool.and_self, Bool.not_true, Bool.not_false, Bool.true_or, Bool.false_or, Bool.or_true, Bool.or_false, gI_sI, n1, n2, n3, show Int.toNat 46 = 46 from rfl, e25]
        · simp (disch := omega) only [↓reduceIte, not_false_eq_true, not_true_eq_false, and_self, and_true, true_and, false_and, and_false, or_true, true_or, or_false, false_or, or_self, reduceCtorEq, mm_q, Option.getD_some, cI_some, cJ_some, cV_some, cS_some, kd_sI, kd_sL, kd_sR, kd_cp, ln_sI, ln_sL, ln_sR, ln_cp, gR_sI, gR_sL, gR_sR, gR_cp, gL_sI, gL_sR, gL_cp, gI_sL, gI_sR, iI_add, iI_sub, iI_mul, iI_neg, iI_in, iI_tn, iI_lt, iI_eq, Nat.reduceLeDiff, Nat.reduceEqDiff, Nat.reduceAdd, Int.reduceEq, Int.reduceLT, Int.reduceLE, Int.reduceNeg, Int.reduceAdd, Int.reduceSub, Int.reduceMul, bI_t, bI_f, decide_true, decide_false, Bool.and_true, Bool.and_false, Bool.true_and, Bool.false_and, Bool.false_eq_true, Bool.and_self, Bool.not_true, Bool.not_false, Bool.true_or, Bool.false_or, Bool.or_true, Bool.or_false]
          rw [sg_265_93]
          simp (disch := omega) only [shM h3.1, shM h4.1, ↓reduceIte, not_false_eq_true, not_true_eq_false, and_self, and_true, true_and, false_and, and_false, or_true, true_or, or_false, false_or, or_self, reduceCtorEq, mm_q, Option.getD_some, cI_some, cJ_some, cV_some, cS_some, kd_sI, kd_sL, kd_sR, kd_cp, ln_sI, ln_sL, ln_sR, ln_cp, gR_sI, gR_sL, gR_sR, gR_cp, gL_sI, gL_sR, gL_cp, gI_sL, gI_sR, iI_add, iI_sub, iI_mul, iI_neg, iI_in, iI_tn, iI_lt, iI_eq, Nat.reduceLeDiff, Nat.reduceEqDiff, Nat.reduceAdd, Int.reduceEq, Int.reduceLT, Int.reduceLE, Int.reduceNeg, Int.reduceAdd, Int.reduceSub, Int.reduceMul, bI_t, bI_f, decide_true, decide_false, Bool.and_true, Bool.and_false, Bool.true_and, Bool.false_and, Bool.false_eq_true, Bool.and_self, Bool.not_true, Bool.not_false, Bool.true_or, Bool.false_or, Bool.or_true, Bool.or_false, gI_sI, n1, n2, n3, show Int.toNat 46 = 46 from rfl, e25]
theorem nar1 : vp_nar .boolean (iI 1) = iI 1 := by decide
theorem nar0 : vp_nar .boolean (iI 0) = iI 0 := by decide
theorem nar_b (b : Bool) : vp_nar .boolean (iI (bI b)) = iI (bI b) := by cases b <;> decide
theorem MD_mk (h : MD D E m) {k : Int} : mm_gI m 333 k.toNat = iI (mkd D k) := by
  rw [h.2.1 333 k.toNat (by unfold pmI; simp)]
  exact (iI_toInt _).symm
theorem cp_c2 (h : MD D E m) {t n : Nat} (hn : n ≤ 1680) : ∀ a k, pmI a k = true → cpD (mm_gI m) 0 t n a k = cpD D 0 t n a k := by
  have e1 : ∀ k, k < 1680 → mm_gI m 332 k = D 332 k := fun k hk => h.2.1 332 k (by
    unfold pmI
    rw [show Nat.blt k 1680 = true by rw [Nat.blt_eq]; exact hk]
    rfl)
  intro a k p
  unfold cpD
  rw [h.2.1 a k p]
  by_cases z : a = 332 ∧ t ≤ k ∧ k < t + n
  · rw [if_pos z, if_pos z, e1 _ (by omega)]
  · rw [if_neg z, if_neg z]
/-- mark -/
theorem M275 (h : MD D E m) (hd : 2 ≤ d) (u0 : 0 ≤ und D) (u1 : und D ≤ 16) {k : Int} {back : Bool} (k_0 : -2147483648 ≤ k) (k_1 : k < 2147483648) : ∃ m', mm_ev d 275 0 [some (.ref 316), some (.int (iI (k))), some (.int (iI (bI back)))] [] m = some (some (some (.int (iI (bI (markOk D k back))))), m') ∧ MD (markD D k back) E m' ∧ Fr scA m m' := by
  have h1 := h.fr thr0
  rw [sg_275_0 (by omega)]
  unfold markD markOk
  cases z1 : inB k 0 3
  · exact ⟨_, by simp (disch := omega) only [shM h.1, ↓reduceIte, not_false_eq_true, not_true_eq_false, and_self, and_true, true_and, false_and, and_false, or_true, true_or, or_false, false_or, or_self, reduceCtorEq, mm_q, Option.getD_some, cI_some, cJ_some, cV_some, cS_some, kd_sI, kd_sL, kd_sR, kd_cp, ln_sI, ln_sL, ln_sR, ln_cp, gR_sI, gR_sL, gR_sR, gR_cp, gL_sI, gL_sR, gL_cp, gI_sL, gI_sR, iI_add, iI_sub, iI_mul, iI_neg, iI_in, iI_tn, iI_lt, iI_eq, Nat.reduceLeDiff, Nat.reduceEqDiff, Nat.reduceAdd, Int.reduceEq, Int.reduceLT, Int.reduceLE, Int.reduceNeg, Int.reduceAdd, Int.reduceSub, Int.reduceMul, bI_t, bI_f, decide_true, decide_false, Bool.and_true, Bool.and_false, Bool.true_and, Bool.false_and, Bool.false_eq_true, Bool.and_self, Bool.not_true, Bool.not_false, Bool.true_or, Bool.false_or, Bool.or_true, Bool.or_false, M188', z1], h1, thr0.MA⟩
  · obtain ⟨a0, a1⟩ := inB_t.mp z1
    have h2 : MD (up D 333 k.toNat (iI 1)) E (mm_sI (mm_sI m 316 0 (iI 0)) 333 k.toNat (iI 1)) := h1.sI
    have mr : -2147483648 ≤ mkd D k ∧ mkd D k < 2147483648 := ⟨Int32.le_toInt _, Int32.toInt_lt _⟩
    cases back
    · obtain ⟨m', e2, v2⟩ := M219 (d := d - 1) h2.1 (f := 0) (t := 80 * (1 + k.toNat)) (n := 80) (by omega) (by omega) (by omega)
      rw [show ((0 : Nat) : Int) = 0 from rfl, show ((80 : Nat) : Int) = 80 from rfl, show ((80 * (1 + k.toNat) : Nat) : Int) = 80 * (1 + k) by omega] at e2
      have hs3 := v2.sh h2.1
      have h3 : MD (cpD (up D 333 k.toNat (iI 1)) 0 (80 * (1 + k.toNat)) 80) E m' := h2.ud v2 (cp_c2 h2 (by omega))
      refine ⟨mm_sI m' 316 26 (mm_gI m' 316 26), ?_, ?_, (((thr0.MA.tr (Fr.sA (by omega) (by omega))).tr (v2.fr cp_f))).tr (Fr.sA (by omega) (by omega))⟩
      · simp (disch := omega) only [shM h.1, ↓reduceIte, not_false_eq_true, not_true_eq_false, and_self, and_true, true_and, false_and, and_false, or_true, true_or, or_false, false_or, or_self, reduceCtorEq, mm_q, Option.getD_some, cI_some, cJ_some, cV_some, cS_some, kd_sI, kd_sL, kd_sR, kd_cp, ln_sI, ln_sL, ln_sR, ln_cp, gR_sI, gR_sL, gR_sR, gR_cp, gL_sI, gL_sR, gL_cp, gI_sL, gI_sR, iI_add, iI_sub, iI_mul, iI_neg, iI_in, iI_tn, iI_lt, iI_eq, Nat.reduceLeDiff, Nat.reduceEqDiff, Nat.reduceAdd, Int.reduceEq, Int.reduceLT, Int.reduceLE, Int.reduceNeg, Int.reduceAdd, Int.reduceSub, Int.reduceMul, bI_t, bI_f, decide_true, decide_false, Bool.and_true, Bool.and_false, Bool.true_and, Bool.false_and, Bool.false_eq_true, Bool.and_self, Bool.not_true, Bool.not_false, Bool.true_or, Bool.false_or, Bool.or_true, Bool.or_false, M188', z1]
        rw [sg_275_29]
        simp (disch := omega) only [shM h1.1, ↓reduceIte, not_false_eq_true, not_true_eq_false, and_self, and_true, true_and, false_and, and_false, or_true, true_or, or_false, false_or, or_self, reduceCtorEq, mm_q, Option.getD_some, cI_some, cJ_some, cV_some, cS_some, kd_sI, kd_sL, kd_sR, kd_cp, ln_sI, ln_sL, ln_sR, ln_cp, gR_sI, gR_sL, gR_sR, gR_cp, gL_sI, gL_sR, gL_cp, gI_sL, gI_sR, iI_add, iI_sub, iI_mul, iI_neg, iI_in, iI_tn, iI_lt, iI_eq, Nat.reduceLeDiff, Nat.reduceEqDiff, Nat.reduceAdd, Int.reduceEq, Int.reduceLT, Int.reduceLE, Int.reduceNeg, Int.reduceAdd, Int.reduceSub, Int.reduceMul, nar1]
        rw [sg_275_51]
        simp (disch := omega) only [↓reduceIte, not_false_eq_true, not_true_eq_false, and_self, and_true, true_and, false_and, and_false, or_true, true_or, or_false, false_or, or_self, reduceCtorEq, mm_q, Option.getD_some, cI_some, cJ_some, cV_some, cS_some, kd_sI, kd_sL, kd_sR, kd_cp, ln_sI, ln_sL, ln_sR, ln_cp, gR_sI, gR_sL, gR_sR, gR_cp, gL_sI, gL_sR, gL_cp, gI_sL, gI_sR, iI_add, iI_sub, iI_mul, iI_neg, iI_in, iI_tn, iI_lt, iI_eq, Nat.reduceLeDiff, Nat.reduceEqDiff, Nat.reduceAdd, Int.reduceEq, Int.reduceLT, Int.reduceLE, Int.reduceNeg, Int.reduceAdd, Int.reduceSub, Int.reduceMul]
        rw [sg_275_65 (by omega)]
        simp (disch := omega) only [shM h2.1, shM hs3, ↓reduceIte, not_false_eq_true, not_true_eq_false, and_self, and_true, true_and, false_and, and_false, or_true, true_or, or_false, false_or, or_self, reduceCtorEq, mm_q, Option.getD_some, cI_some, cJ_some, cV_some, cS_some, kd_sI, kd_sL, kd_sR, kd_cp, ln_sI, ln_sL, ln_sR, ln_cp, gR_sI, gR_sL, gR_sR, gR_cp, gL_sI, gL_sR, gL_cp, gI_sL, gI_sR, iI_add, iI_sub, iI_mul, iI_neg, iI_in, iI_tn, iI_lt, iI_eq, Nat.reduceLeDiff, Nat.reduceEqDiff, Nat.reduceAdd, Int.reduceEq, Int.reduceLT, Int.reduceLE, Int.reduceNeg, Int.reduceAdd, Int.reduceSub, Int.reduceMul, e2]
        rw [sg_275_83]
        simp (disch := omega) only [shM hs3, ↓reduceIte, not_false_eq_true, not_true_eq_false, and_self, and_true, true_and, false_and, and_false, or_true, true_or, or_false, false_or, or_self, reduceCtorEq, mm_q, Option.getD_some, cI_some, cJ_some, cV_some, cS_some, kd_sI, kd_sL, kd_sR, kd_cp, ln_sI, ln_sL, ln_sR, ln_cp, gR_sI, gR_sL, gR_sR, gR_cp, gL_sI, gL_sR, gL_cp, gI_sL, gI_sR, iI_add, iI_sub, iI_mul, iI_neg, iI_in, iI_tn, iI_lt, iI_eq, Nat.reduceLeDiff, Nat.reduceEqDiff, Nat.reduceAdd, Int.reduceEq, Int.reduceLT, Int.reduceLE, Int.reduceNeg, Int.reduceAdd, Int.reduceSub, Int.reduceMul]
      · simp (disch := omega) only [↓reduceIte, not_false_eq_true, not_true_eq_false, and_self, and_true, true_and, false_and, and_false, or_true, true_or, or_false, false_or, or_self, reduceCtorEq, mm_q, Option.getD_some, cI_some, cJ_some, cV_some, cS_some, kd_sI, kd_sL, kd_sR, kd_cp, ln_sI, ln_sL, ln_sR, ln_cp, gR_sI, gR_sL, gR_sR, gR_cp, gL_sI, gL_sR, gL_cp, gI_sL, gI_sR, iI_add, iI_sub, iI_mul, iI_neg, iI_in, iI_tn, iI_lt, iI_eq, Nat.reduceLeDiff, Nat.reduceEqDiff, Nat.reduceAdd, Int.reduceEq, Int.reduceLT, Int.reduceLE, Int.reduceNeg, Int.reduceAdd, Int.reduceSub, Int.reduceMul, bI_t, bI_f, decide_true, decide_false, Bool.and_true, Bool.and_false, Bool.true_and, Bool.false_and, Bool.false_eq_true, Bool.and_self, Bool.not_true, Bool.not_false, Bool.true_or, Bool.false_or, Bool.or_true, Bool.or_false]
        refine h3.ud Upd.sI (fun a q p => ?_)
        unfold up
        by_cases z : a = 316 ∧ q = 26
        · rw [if_pos z, h3.2.1 316 26 rfl, z.1, z.2]
          rfl
        · rw [if_neg z, h3.2.1 a q p]
          rfl
    · by_cases z2 : mkd D k = 0
      · refine ⟨_, ?_, by simp (disch := omega) only [↓reduceIte, not_false_eq_true, not_true_eq_false, and_self, and_true, true_and, false_and, and_false, or_true, true_or, or_false, false_or, or_self, reduceCtorEq, mm_q, Option.getD_some, cI_some, cJ_some, cV_some, cS_some, kd_sI, kd_sL, kd_sR, kd_cp, ln_sI, ln_sL, ln_sR, ln_cp, gR_sI, gR_sL, gR_sR, gR_cp, gL_sI, gL_sR, gL_cp, gI_sL, gI_sR, iI_add, iI_sub, iI_mul, iI_neg, iI_in, iI_tn, iI_lt, iI_eq, Nat.reduceLeDiff, Nat.reduceEqDiff, Nat.reduceAdd, Int.reduceEq, Int.reduceLT, Int.reduceLE, Int.reduceNeg, Int.reduceAdd, Int.reduceSub, Int.reduceMul, bI_t, bI_f, decide_true, decide_false, Bool.and_true, Bool.and_false, Bool.true_and, Bool.false_and, Bool.false_eq_true, Bool.and_self, Bool.not_true, Bool.not_false, Bool.true_or, Bool.false_or, Bool.or_true, Bool.or_false, z2]; exact h1, thr0.MA⟩
        simp (disch := omega) only [shM h.1, ↓reduceIte, not_false_eq_true, not_true_eq_false, and_self, and_true, true_and, false_and, and_false, or_true, true_or, or_false, false_or, or_self, reduceCtorEq, mm_q, Option.getD_some, cI_some, cJ_some, cV_some, cS_some, kd_sI, kd_sL, kd_sR, kd_cp, ln_sI, ln_sL, ln_sR, ln_cp, gR_sI, gR_sL, gR_sR, gR_cp, gL_sI, gL_sR, gL_cp, gI_sL, gI_sR, iI_add, iI_sub, iI_mul, iI_neg, iI_in, iI_tn, iI_lt, iI_eq, Nat.reduceLeDiff, Nat.reduceEqDiff, Nat.reduceAdd, Int.reduceEq, Int.reduceLT, Int.reduceLE, Int.reduceNeg, Int.reduceAdd, Int.reduceSub, Int.reduceMul, bI_t, bI_f, decide_true, decide_false, Bool.and_true, Bool.and_false, Bool.true_and, Bool.false_and, Bool.false_eq_true, Bool.and_self, Bool.not_true, Bool.not_false, Bool.true_or, Bool.false_or, Bool.or_true, Bool.or_false, M188', z1, MD_mk h1, z2]
      · obtain ⟨m', e2, v2⟩ := M219 (d := d - 1) h2.1 (f := 80 * (1 + k.toNat)) (t := 0) (n := 80) (by omega) (by omega) (by omega)
        rw [show ((0 : Nat) : Int) = 0 from rfl, show ((80 : Nat) : Int) = 80 from rfl, show ((80 * (1 + k.toNat) : Nat) : Int) = 80 * (1 + k) by omega] at e2
        have hs3 := v2.sh h2.1
        have h3 : MD (cpD (up D 333 k.toNat (iI 1)) (80 * (1 + k.toNat)) 0 80) E m' := h2.ud v2 (cp_c h2 (by omega))
        refine ⟨mm_sI m' 316 26 (iI 0), ?_, ?_, (((thr0.MA.tr (Fr.sA (by omega) (by omega))).tr (v2.fr cp_f))).tr (Fr.sA (by omega) (by omega))⟩
        · simp (disch := omega) only [shM h.1, ↓reduceIte, not_false_eq_true, not_true_eq_false, and_self, and_true, true_and, false_and, and_false, or_true, true_or, or_false, false_or, or_self, reduceCtorEq, mm_q, Option.getD_some, cI_some, cJ_some, cV_some, cS_some, kd_sI, kd_sL, kd_sR, kd_cp, ln_sI, ln_sL, ln_sR, ln_cp, gR_sI, gR_sL, gR_sR, gR_cp, gL_sI, gL_sR, gL_cp, gI_sL, gI_sR, iI_add, iI_sub, iI_mul, iI_neg, iI_in, iI_tn, iI_lt, iI_eq, Nat.reduceLeDiff, Nat.reduceEqDiff, Nat.reduceAdd, Int.reduceEq, Int.reduceLT, Int.reduceLE, Int.reduceNeg, Int.reduceAdd, Int.reduceSub, Int.reduceMul, bI_t, bI_f, decide_true, decide_false, Bool.and_true, Bool.and_false, Bool.true_and, Bool.false_and, Bool.false_eq_true, Bool.and_self, Bool.not_true, Bool.not_false, Bool.true_or, Bool.false_or, Bool.or_true, Bool.or_false, M188', z1, MD_mk h1, z2]
          rw [sg_275_29]
          simp (disch := omega) only [shM h1.1, ↓reduceIte, not_false_eq_true, not_true_eq_false, and_self, and_true, true_and, false_and, and_false, or_true, true_or, or_false, false_or, or_self, reduceCtorEq, mm_q, Option.getD_some, cI_some, cJ_some, cV_some, cS_some, kd_sI, kd_sL, kd_sR, kd_cp, ln_sI, ln_sL, ln_sR, ln_cp, gR_sI, gR_sL, gR_sR, gR_cp, gL_sI, gL_sR, gL_cp, gI_sL, gI_sR, iI_add, iI_sub, iI_mul, iI_neg, iI_in, iI_tn, iI_lt, iI_eq, Nat.reduceLeDiff, Nat.reduceEqDiff, Nat.reduceAdd, Int.reduceEq, Int.reduceLT, Int.reduceLE, Int.reduceNeg, Int.reduceAdd, Int.reduceSub, Int.reduceMul, nar1]
          rw [sg_275_51]
          simp (disch := omega) only [↓reduceIte, not_false_eq_true, not_true_eq_false, and_self, and_true, true_and, false_and, and_false, or_true, true_or, or_false, false_or, or_self, reduceCtorEq, mm_q, Option.getD_some, cI_some, cJ_some, cV_some, cS_some, kd_sI, kd_sL, kd_sR, kd_cp, ln_sI, ln_sL, ln_sR, ln_cp, gR_sI, gR_sL, gR_sR, gR_cp, gL_sI, gL_sR, gL_cp, gI_sL, gI_sR, iI_add, iI_sub, iI_mul, iI_neg, iI_in, iI_tn, iI_lt, iI_eq, Nat.reduceLeDiff, Nat.reduceEqDiff, Nat.reduceAdd, Int.reduceEq, Int.reduceLT, Int.reduceLE, Int.reduceNeg, Int.reduceAdd, Int.reduceSub, Int.reduceMul]
          rw [sg_275_65 (by omega)]
          simp (disch := omega) only [shM h2.1, shM hs3, ↓reduceIte, not_false_eq_true, not_true_eq_false, and_self, and_true, true_and, false_and, and_false, or_true, true_or, or_false, false_or, or_self, reduceCtorEq, mm_q, Option.getD_some, cI_some, cJ_some, cV_some, cS_some, kd_sI, kd_sL, kd_sR, kd_cp, ln_sI, ln_sL, ln_sR, ln_cp, gR_sI, gR_sL, gR_sR, gR_cp, gL_sI, gL_sR, gL_cp, gI_sL, gI_sR, iI_add, iI_sub, iI_mul, iI_neg, iI_in, iI_tn, iI_lt, iI_eq, Nat.reduceLeDiff, Nat.reduceEqDiff, Nat.reduceAdd, Int.reduceEq, Int.reduceLT, Int.reduceLE, Int.reduceNeg, Int.reduceAdd, Int.reduceSub, Int.reduceMul, e2]
          rw [sg_275_83]
          simp (disch := omega) only [shM hs3, ↓reduceIte, not_false_eq_true, not_true_eq_false, and_self, and_true, true_and, false_and, and_false, or_true, true_or, or_false, false_or, or_self, reduceCtorEq, mm_q, Option.getD_some, cI_some, cJ_some, cV_some, cS_some, kd_sI, kd_sL, kd_sR, kd_cp, ln_sI, ln_sL, ln_sR, ln_cp, gR_sI, gR_sL, gR_sR, gR_cp, gL_sI, gL_sR, gL_cp, gI_sL, gI_sR, iI_add, iI_sub, iI_mul, iI_neg, iI_in, iI_tn, iI_lt, iI_eq, Nat.reduceLeDiff, Nat.reduceEqDiff, Nat.reduceAdd, Int.reduceEq, Int.reduceLT, Int.reduceLE, Int.reduceNeg, Int.reduceAdd, Int.reduceSub, Int.reduceMul]
        · simp (disch := omega) only [↓reduceIte, not_false_eq_true, not_true_eq_false, and_self, and_true, true_and, false_and, and_false, or_true, true_or, or_false, false_or, or_self, reduceCtorEq, mm_q, Option.getD_some, cI_some, cJ_some, cV_some, cS_some, kd_sI, kd_sL, kd_sR, kd_cp, ln_sI, ln_sL, ln_sR, ln_cp, gR_sI, gR_sL, gR_sR, gR_cp, gL_sI, gL_sR, gL_cp, gI_sL, gI_sR, iI_add, iI_sub, iI_mul, iI_neg, iI_in, iI_tn, iI_lt, iI_eq, Nat.reduceLeDiff, Nat.reduceEqDiff, Nat.reduceAdd, Int.reduceEq, Int.reduceLT, Int.reduceLE, Int.reduceNeg, Int.reduceAdd, Int.reduceSub, Int.reduceMul, bI_t, bI_f, decide_true, decide_false, Bool.and_true, Bool.and_false, Bool.true_and, Bool.false_and, Bool.false_eq_true, Bool.and_self, Bool.not_true, Bool.not_false, Bool.true_or, Bool.false_or, Bool.or_true, Bool.or_false, z2]
          exact h3.sI
/-- lay -/
theorem M157L {v : Int64} : ∀ (k : Nat) (s : Int) (z : Option Value) (m : mm_M) (D : Nat → Nat → Int32), s = 8 * k - 8 → k ≤ 8 → MD D E m → 0 ≤ (D 316 2).toInt → (D 316 2).toInt ≤ 1000 → ∃ m', mm_ev d 157 3 [some (.ref 316), some (.long v), none, some (.int (iI (s))), z] [] m = some (some none, m') ∧ MD (layGo v k s D) E m' ∧ Fr scA m m' ∧ 0 ≤ (layGo v k s D 316 2).toInt ∧ (layGo v k s D 316 2).toInt ≤ 1000
  | 0, s, z, m, D, hs, _, h, t0, t1 => by
    refine ⟨m, ?_, h, Fr.rf, t0, t1⟩
    rw [sg_157_3]
    simp (disch := omega) only [↓reduceIte, not_false_eq_true, not_true_eq_false, and_self, and_true, true_and, false_and, and_false, or_true, true_or, or_false, false_or, or_self, reduceCtorEq, mm_q, Option.getD_some, cI_some, cJ_some, cV_some, cS_some, kd_sI, kd_sL, kd_sR, kd_cp, ln_sI, ln_sL, ln_sR, ln_cp, gR_sI, gR_sL, gR_sR, gR_cp, gL_sI, gL_sR, gL_cp, gI_sL, gI_sR, iI_add, iI_sub, iI_mul, iI_neg, iI_in, iI_tn, iI_lt, iI_eq, Nat.reduceLeDiff, Nat.reduceEqDiff, Nat.reduceAdd, Int.reduceEq, Int.reduceLT, Int.reduceLE, Int.reduceNeg, Int.reduceAdd, Int.reduceSub, Int.reduceMul, show s < 0 by omega]
  | k + 1, s, z, m, D, hs, hk, h, t0, t1 => by
    have e2 : mm_gI m 316 2 = iI (D 316 2).toInt := by rw [h.2.1 316 2 rfl, iI_toInt]
    have e2' : mm_gI m 316 2 = D 316 2 := h.2.1 316 2 rfl
    have key : ∀ c : Int32, c = (lShr v (iI s)).toInt32 &&& iI 255 → mm_ev d 157 3 [some (.ref 316), some (.long v), none, some (.int (iI (s))), z] [] m = if okC c = true then mm_ev d 157 38 [some (.ref 316), some (.long v), none, some (.int (iI (s))), some (.int c)] [] m else mm_ev d 157 69 [some (.ref 316), some (.long v), none, some (.int (iI (s))), some (.int c)] [] m := by
      intro c hc
      rw [sg_157_3, ← hc]
      rw [if_neg (by rw [iI_lt] <;> omega)]
      unfold okC
      by_cases z1 : c = iI 10
      · simp (disch := omega) only [z1, ↓reduceIte, not_false_eq_true, not_true_eq_false, and_self, and_true, true_and, false_and, and_false, or_true, true_or, or_false, false_or, or_self, reduceCtorEq, mm_q, Option.getD_some, cI_some, cJ_some, cV_some, cS_some, kd_sI, kd_sL, kd_sR, kd_cp, ln_sI, ln_sL, ln_sR, ln_cp, gR_sI, gR_sL, gR_sR, gR_cp, gL_sI, gL_sR, gL_cp, gI_sL, gI_sR, iI_add, iI_sub, iI_mul, iI_neg, iI_in, iI_tn, iI_lt, iI_eq, Nat.reduceLeDiff, Nat.reduceEqDiff, Nat.reduceAdd, Int.reduceEq, Int.reduceLT, Int.reduceLE, Int.reduceNeg, Int.reduceAdd, Int.reduceSub, Int.reduceMul, decide_true, Bool.true_or]
      · by_cases z2 : c < iI 32
        · simp (disch := omega) only [z1, z2, ↓reduceIte, not_false_eq_true, not_true_eq_false, and_self, and_true, true_and, false_and, and_false, or_true, true_or, or_false, false_or, or_self, reduceCtorEq, mm_q, Option.getD_some, cI_some, cJ_some, cV_some, cS_some, kd_sI, kd_sL, kd_sR, kd_cp, ln_sI, ln_sL, ln_sR, ln_cp, gR_sI, gR_sL, gR_sR, gR_cp, gL_sI, gL_sR, gL_cp, gI_sL, gI_sR, iI_add, iI_sub, iI_mul, iI_neg, iI_in, iI_tn, iI_lt, iI_eq, Nat.reduceLeDiff, Nat.reduceEqDiff, Nat.reduceAdd, Int.reduceEq, Int.reduceLT, Int.reduceLE, Int.reduceNeg, Int.reduceAdd, Int.reduceSub, Int.reduceMul, bI_t, bI_f, decide_true, decide_false, Bool.and_true, Bool.and_false, Bool.true_and, Bool.false_and, Bool.false_eq_true, Bool.and_self, Bool.not_true, Bool.not_false, Bool.true_or, Bool.false_or, Bool.or_true, Bool.or_false, Bool.or_self]
        · by_cases z3 : iI 126 < c
          · simp (disch := omega) only [z1, z2, z3, ↓reduceIte, not_false_eq_true, not_true_eq_false, and_self, and_true, true_and, false_and, and_false, or_true, true_or, or_false, false_or, or_self, reduceCtorEq, mm_q, Option.getD_some, cI_some, cJ_some, cV_some, cS_some, kd_sI, kd_sL, kd_sR, kd_cp, ln_sI, ln_sL, ln_sR, ln_cp, gR_sI, gR_sL, gR_sR, gR_cp, gL_sI, gL_sR, gL_cp, gI_sL, gI_sR, iI_add, iI_sub, iI_mul, iI_neg, iI_in, iI_tn, iI_lt, iI_eq, Nat.reduceLeDiff, Nat.reduceEqDiff, Nat.reduceAdd, Int.reduceEq, Int.reduceLT, Int.reduceLE, Int.reduceNeg, Int.reduceAdd, Int.reduceSub, Int.reduceMul, bI_t, bI_f, decide_true, decide_false, Bool.and_true, Bool.and_false, Bool.true_and, Bool.false_and, Bool.false_eq_true, Bool.and_self, Bool.not_true, Bool.not_false, Bool.true_or, Bool.false_or, Bool.or_true, Bool.or_false, Bool.or_self]
          · simp (disch := omega) only [z1, z2, z3, ↓reduceIte, not_false_eq_true, not_true_eq_false, and_self, and_true, true_and, false_and, and_false, or_true, true_or, or_false, false_or, or_self, reduceCtorEq, mm_q, Option.getD_some, cI_some, cJ_some, cV_some, cS_some, kd_sI, kd_sL, kd_sR, kd_cp, ln_sI, ln_sL, ln_sR, ln_cp, gR_sI, gR_sL, gR_sR, gR_cp, gL_sI, gL_sR, gL_cp, gI_sL, gI_sR, iI_add, iI_sub, iI_mul, iI_neg, iI_in, iI_tn, iI_lt, iI_eq, Nat.reduceLeDiff, Nat.reduceEqDiff, Nat.reduceAdd, Int.reduceEq, Int.reduceLT, Int.reduceLE, Int.reduceNeg, Int.reduceAdd, Int.reduceSub, Int.reduceMul, bI_t, bI_f, decide_true, decide_false, Bool.and_true, Bool.and_false, Bool.true_and, Bool.false_and, Bool.false_eq_true, Bool.and_self, Bool.not_true, Bool.not_false, Bool.true_or, Bool.false_or, Bool.or_true, Bool.or_false, Bool.false_or]
    have kk := key _ rfl
    unfold layGo
    generalize hc : (lShr v (iI s)).toInt32 &&& iI 255 = c at kk ⊢
    rw [kk]
    unfold layC
    cases z1 : okC c
    · obtain ⟨m', e3, h3, f3, r3⟩ := M157L k (s - 8) (some (.int c)) m D (by omega) (by omega) h t0 t1
      refine ⟨m', ?_, h3, f3, r3⟩
      simp (disch := omega) only [↓reduceIte, not_false_eq_true, not_true_eq_false, and_self, and_true, true_and, false_and, and_false, or_true, true_or, or_false, false_or, or_self, reduceCtorEq, mm_q, Option.getD_some, cI_some, cJ_some, cV_some, cS_some, kd_sI, kd_sL, kd_sR, kd_cp, ln_sI, ln_sL, ln_sR, ln_cp, gR_sI, gR_sL, gR_sR, gR_cp, gL_sI, gL_sR, gL_cp, gI_sL, gI_sR, iI_add, iI_sub, iI_mul, iI_neg, iI_in, iI_tn, iI_lt, iI_eq, Nat.reduceLeDiff, Nat.reduceEqDiff, Nat.reduceAdd, Int.reduceEq, Int.reduceLT, Int.reduceLE, Int.reduceNeg, Int.reduceAdd, Int.reduceSub, Int.reduceMul, bI_t, bI_f, decide_true, decide_false, Bool.and_true, Bool.and_false, Bool.true_and, Bool.false_and, Bool.false_eq_true, Bool.and_self, Bool.not_true, Bool.not_false, Bool.true_or, Bool.false_or, Bool.or_true, Bool.or_false, sg_157_69]
      rw [show s + -8 = s - 8 by omega]
      exact e3
    · by_cases z2 : (D 316 2).toInt < 1000
      · have z3 : D 316 2 < iI 1000 := by rw [Int32.lt_iff_toInt_lt]; exact z2
        have h2 : MD (up (up D 317 (D 316 2).toNatClampNeg c) 316 2 (D 316 2 + iI 1)) E (mm_sI (mm_sI m 317 (D 316 2).toNatClampNeg c) 316 2 (D 316 2 + iI 1)) := h.sI.sI
        have e9 : up (up D 317 (D 316 2).toNatClampNeg c) 316 2 (D 316 2 + iI 1) 316 2 = iI ((D 316 2).toInt + 1) := by
          unfold up
          rw [if_pos ⟨rfl, rfl⟩, ← iI_add, iI_toInt]
        obtain ⟨m', e3, h3, f3, r3⟩ := M157L k (s - 8) (some (.int c)) _ _ (by omega) (by omega) h2 (by rw [e9, iI_val] <;> omega) (by rw [e9, iI_val] <;> omega)
        rw [if_pos rfl, if_pos rfl, if_pos z3]
        refine ⟨m', ?_, h3, ((Fr.sA (by omega) (by omega)).tr (Fr.sA (by omega) (by omega))).tr f3, r3⟩
        rw [sg_157_38]
        have e8 : mm_in (D 316 2) 1000 = true := by
          have := iI_in (z := (D 316 2).toInt) (n := 1000) t0 (by omega) (by omega)
          rw [iI_toInt] at this
          exact this
        simp (disch := omega) only [shM h.1, ↓reduceIte, not_false_eq_true, not_true_eq_false, and_self, and_true, true_and, false_and, and_false, or_true, true_or, or_false, false_or, or_self, reduceCtorEq, mm_q, Option.getD_some, cI_some, cJ_some, cV_some, cS_some, kd_sI, kd_sL, kd_sR, kd_cp, ln_sI, ln_sL, ln_sR, ln_cp, gR_sI, gR_sL, gR_sR, gR_cp, gL_sI, gL_sR, gL_cp, gI_sL, gI_sR, iI_add, iI_sub, iI_mul, iI_neg, iI_in, iI_tn, iI_lt, iI_eq, Nat.reduceLeDiff, Nat.reduceEqDiff, Nat.reduceAdd, Int.reduceEq, Int.reduceLT, Int.reduceLE, Int.reduceNeg, Int.reduceAdd, Int.reduceSub, Int.reduceMul, gI_sI, e2', z3, e8, sg_157_69]
        rw [show s + -8 = s - 8 by omega]
        exact e3
      · have z3 : ¬ D 316 2 < iI 1000 := by rw [Int32.lt_iff_toInt_lt]; exact z2
        obtain ⟨m', e3, h3, f3, r3⟩ := M157L k (s - 8) (some (.int c)) m D (by omega) (by omega) h t0 t1
        rw [if_pos rfl, if_pos rfl, if_neg z3]
        refine ⟨m', ?_, h3, f3, r3⟩
        rw [sg_157_38]
        simp (disch := omega) only [shM h.1, ↓reduceIte, not_false_eq_true, not_true_eq_false, and_self, and_true, true_and, false_and, and_false, or_true, true_or, or_false, false_or, or_self, reduceCtorEq, mm_q, Option.getD_some, cI_some, cJ_some, cV_some, cS_some, kd_sI, kd_sL, kd_sR, kd_cp, ln_sI, ln_sL, ln_sR, ln_cp, gR_sI, gR_sL, gR_sR, gR_cp, gL_sI, gL_sR, gL_cp, gI_sL, gI_sR, iI_add, iI_sub, iI_mul, iI_neg, iI_in, iI_tn, iI_lt, iI_eq, Nat.reduceLeDiff, Nat.reduceEqDiff, Nat.reduceAdd, Int.reduceEq, Int.reduceLT, Int.reduceLE, Int.reduceNeg, Int.reduceAdd, Int.reduceSub, Int.reduceMul, e2', z3, sg_157_69]
        rw [show s + -8 = s - 8 by omega]
        exact e3
theorem M157 (h : MD D E m) (t0 : 0 ≤ (D 316 2).toInt) (t1 : (D 316 2).toInt ≤ 1000) {v : Int64} : ∃ m', mm_ev d 157 0 [some (.ref 316), some (.long v), none, none, none] [] m = some (some none, m') ∧ MD (layD D v) E m' ∧ Fr scA m m' ∧ 0 ≤ (layD D v 316 2).toInt ∧ (layD D v 316 2).toInt ≤ 1000 := by
  obtain ⟨m', e1, r⟩ := M157L (d := d) (v := v) 8 56 none m D (by omega) (by omega) h t0 t1
  exact ⟨m', by rw [sg_157_0]; exact e1, r⟩
/-- feed -/
theorem M156 (h : MD D E m) (hd : 1 ≤ d) (t0 : 0 ≤ (D 316 2).toInt) (t1 : (D 316 2).toInt ≤ 1000) {u v w : Int64} : ∃ m', mm_ev d 156 0 [some (.ref 316), some (.long u), none, some (.long v), none, some (.long w), none] [] m = some (some (some (.int (layD (layD (layD D u) v) w 316 2))), m') ∧ MD (layD (layD (layD D u) v) w) E m' ∧ Fr scA m m' := by
  have h1 := h.fr thr0
  obtain ⟨m1, e1, h2, f1, a0, a1⟩ := M157 (d := d - 1) h1 t0 t1 (v := u)
  obtain ⟨m2, e2, h3, f2, b0, b1⟩ := M157 (d := d - 1) h2 a0 a1 (v := v)
  obtain ⟨m3, e3, h4, f3, c0, c1⟩ := M157 (d := d - 1) h3 b0 b1 (v := w)
  refine ⟨m3, ?_, h4, ((thr0.MA.tr f1).tr f2).tr f3⟩
  rw [sg_156_0 (by omega)]
  simp (disch := omega) only [shM h.1, ↓reduceIte, not_false_eq_true, not_true_eq_false, and_self, and_true, true_and, false_and, and_false, or_true, true_or, or_false, false_or, or_self, reduceCtorEq, mm_q, Option.getD_some, cI_some, cJ_some, cV_some, cS_some, kd_sI, kd_sL, kd_sR, kd_cp, ln_sI, ln_sL, ln_sR, ln_cp, gR_sI, gR_sL, gR_sR, gR_cp, gL_sI, gL_sR, gL_cp, gI_sL, gI_sR, iI_add, iI_sub, iI_mul, iI_neg, iI_in, iI_tn, iI_lt, iI_eq, Nat.reduceLeDiff, Nat.reduceEqDiff, Nat.reduceAdd, Int.reduceEq, Int.reduceLT, Int.reduceLE, Int.reduceNeg, Int.reduceAdd, Int.reduceSub, Int.reduceMul, e1]
  rw [sg_156_10 (by omega)]
  simp (disch := omega) only [shM h2.1, shM h3.1, shM h4.1, ↓reduceIte, not_false_eq_true, not_true_eq_false, and_self, and_true, true_and, false_and, and_false, or_true, true_or, or_false, false_or, or_self, reduceCtorEq, mm_q, Option.getD_some, cI_some, cJ_some, cV_some, cS_some, kd_sI, kd_sL, kd_sR, kd_cp, ln_sI, ln_sL, ln_sR, ln_cp, gR_sI, gR_sL, gR_sR, gR_cp, gL_sI, gL_sR, gL_cp, gI_sL, gI_sR, iI_add, iI_sub, iI_mul, iI_neg, iI_in, iI_tn, iI_lt, iI_eq, Nat.reduceLeDiff, Nat.reduceEqDiff, Nat.reduceAdd, Int.reduceEq, Int.reduceLT, Int.reduceLE, Int.reduceNeg, Int.reduceAdd, Int.reduceSub, Int.reduceMul, e2, e3, h4.2.1 316 2 rfl]
/-- walkerOf, whatever the street -/
theorem W162 (hs : Sh m) {w k : Nat} (hw : w < 8) (hk : k < 7) : mm_ev d 162 0 [some (.ref 316), some (.int (iI ((w : Int)))), some (.int (iI ((k : Int))))] [] m = some (some (some (.int (mm_gI m 322 (17 + 7 * w + k)))), m) := by
  rw [sg_162_0]
  simp (disch := omega) only [shM hs, ↓reduceIte, not_false_eq_true, not_true_eq_false, and_self, and_true, true_and, false_and, and_false, or_true, true_or, or_false, false_or, or_self, reduceCtorEq, mm_q, Option.getD_some, cI_some, cJ_some, cV_some, cS_some, kd_sI, kd_sL, kd_sR, kd_cp, ln_sI, ln_sL, ln_sR, ln_cp, gR_sI, gR_sL, gR_sR, gR_cp, gL_sI, gL_sR, gL_cp, gI_sL, gI_sR, iI_add, iI_sub, iI_mul, iI_neg, iI_in, iI_tn, iI_lt, iI_eq, Nat.reduceLeDiff, Nat.reduceEqDiff, Nat.reduceAdd, Int.reduceEq, Int.reduceLT, Int.reduceLE, Int.reduceNeg, Int.reduceAdd, Int.reduceSub, Int.reduceMul, show (17 + 7 * (w : Int) + (k : Int)).toNat = 17 + 7 * w + k by omega]
/-- starts -/
theorem M161L (hs : Sh m) (hd : 1 ≤ d) {b : Nat} (b1 : b ≤ 1760) : ∀ (k j : Nat) (m1 : mm_M), j + k = 8 → Upd m m1 (fun a q => if a = 332 ∧ q = b then iI 0 else if a = 332 ∧ b + 1 ≤ q ∧ q < b + 1 + j then mm_gI m 322 (19 + 7 * (q - b - 1)) else if a = 332 ∧ b + 9 ≤ q ∧ q < b + 9 + j then mm_gI m 322 (20 + 7 * (q - b - 9)) else if a = 332 ∧ b + 17 ≤ q ∧ q < b + 17 + j then iI 0 else mm_gI m a q) → ∃ m', mm_ev d 161 11 [some (.ref 316), some (.int (iI ((b : Int)))), some (.int (iI ((j : Int))))] [] m1 = some (some none, m') ∧ Upd m m' (beginD (mm_gI m) b)
  | 0, j, m1, hj, u1 => by
    refine ⟨m1, ?_, u1.cg (fun a q => ?_)⟩
    · rw [sg_161_11 (by omega), show j = 8 by omega]
      simp (disch := omega) only [↓reduceIte, not_false_eq_true, not_true_eq_false, and_self, and_true, true_and, false_and, and_false, or_true, true_or, or_false, false_or, or_self, reduceCtorEq, mm_q, Option.getD_some, cI_some, cJ_some, cV_some, cS_some, kd_sI, kd_sL, kd_sR, kd_cp, ln_sI, ln_sL, ln_sR, ln_cp, gR_sI, gR_sL, gR_sR, gR_cp, gL_sI, gL_sR, gL_cp, gI_sL, gI_sR, iI_add, iI_sub, iI_mul, iI_neg, iI_in, iI_tn, iI_lt, iI_eq, Nat.reduceLeDiff, Nat.reduceEqDiff, Nat.reduceAdd, Int.reduceEq, Int.reduceLT, Int.reduceLE, Int.reduceNeg, Int.reduceAdd, Int.reduceSub, Int.reduceMul, show ((8 : Nat) : Int) = 8 from rfl, Int.lt_irrefl]
    · unfold beginD
      rw [show j = 8 by omega]
  | k + 1, j, m1, hj, u1 => by
    have hs1 := u1.sh hs
    have g1 : ∀ q, mm_gI m1 322 q = mm_gI m 322 q := fun q => by
      rw [u1.2.2.2.2]; dsimp only; rw [if_neg (by omega), if_neg (by omega), if_neg (by omega), if_neg (by omega)]
    have u2 := u1.tr (Upd.sI (a := 332) (k := b + 1 + j) (v := mm_gI m 322 (19 + 7 * j)))
    have hs2 := u2.sh hs
    have u3 := u2.tr (Upd.sI (a := 332) (k := b + 9 + j) (v := mm_gI m 322 (20 + 7 * j)))
    have hs3 := u3.sh hs
    have u4 := (u3.tr (Upd.sI (a := 332) (k := b + 17 + j) (v := iI 0))).cg (G := fun a q => if a = 332 ∧ q = b then iI 0 else if a = 332 ∧ b + 1 ≤ q ∧ q < b + 1 + (j + 1) then mm_gI m 322 (19 + 7 * (q - b - 1)) else if a = 332 ∧ b + 9 ≤ q ∧ q < b + 9 + (j + 1) then mm_gI m 322 (20 + 7 * (q - b - 9)) else if a = 332 ∧ b + 17 ≤ q ∧ q < b + 17 + (j + 1) then iI 0 else mm_gI m a q) (fun a q => by
      unfold up
      rw [gI_sI, gI_sI, u1.2.2.2.2 a q]
      dsimp only
      by_cases z1 : a = 332 ∧ q = b + 17 + j
      · rw [if_pos z1, if_neg (by omega), if_neg (by omega), if_neg (by omega), if_pos (by omega)]
      · rw [if_neg z1]
        by_cases z2 : a = 332 ∧ q = b + 9 + j
        · rw [if_pos z2, if_neg (by omega), if_neg (by omega), if_pos (by omega), show q - b - 9 = j by omega]
        · rw [if_neg z2]
          by_cases z3 : a = 332 ∧ q = b + 1 + j
          · rw [if_pos z3, if_neg (by omega), if_pos (by omega), show q - b - 1 = j by omega]
          · rw [if_neg z3]
            by_cases z4 : a = 332 ∧ q = b
            · rw [if_pos z4, if_pos z4]
            · rw [if_neg z4, if_neg z4]
              by_cases z5 : a = 332 ∧ b + 1 ≤ q ∧ q < b + 1 + j
              · rw [if_pos z5, if_pos (show (a = 332 ∧ b + 1 ≤ q ∧ q < b + 1 + (j + 1)) by omega)]
              · rw [if_neg z5, if_neg (show ¬ (a = 332 ∧ b + 1 ≤ q ∧ q < b + 1 + (j + 1)) by omega)]
                by_cases z6 : a = 332 ∧ b + 9 ≤ q ∧ q < b + 9 + j
                · rw [if_pos z6, if_pos (show (a = 332 ∧ b + 9 ≤ q ∧ q < b + 9 + (j + 1)) by omega)]
                · rw [if_neg z6, if_neg (show ¬ (a = 332 ∧ b + 9 ≤ q ∧ q < b + 9 + (j + 1)) by omega)]
                  by_cases z7 : a = 332 ∧ b + 17 ≤ q ∧ q < b + 17 + j
                  · rw [if_pos z7, if_pos (show (a = 332 ∧ b + 17 ≤ q ∧ q < b + 17 + (j + 1)) by omega)]
                  · rw [if_neg z7, if_neg (show ¬ (a = 332 ∧ b + 17 ≤ q ∧ q < b + 17 + (j + 1)) by omega)])
    obtain ⟨m', e3, v3⟩ := M161L hs hd b1 k (j + 1) _ (by omega) u4
    refine ⟨m', ?_, v3⟩
    rw [sg_161_11 (by omega)]
    rw [show ((j + 1 : Nat) : Int) = (j : Int) + 1 by omega] at e3
    have e4 := W162 (d := d - 1) hs1 (w := j) (k := 2) (by omega) (by omega)
    have e5 := W162 (d := d - 1) hs2 (w := j) (k := 3) (by omega) (by omega)
    rw [show ((2 : Nat) : Int) = 2 from rfl, g1, show 17 + 7 * j + 2 = 19 + 7 * j by omega] at e4
    rw [show ((3 : Nat) : Int) = 3 from rfl, gI_sI, if_neg (by omega), g1, show 17 + 7 * j + 3 = 20 + 7 * j by omega] at e5
    simp (disch := omega) only [shM hs1, ↓reduceIte, not_false_eq_true, not_true_eq_false, and_self, and_true, true_and, false_and, and_false, or_true, true_or, or_false, false_or, or_self, reduceCtorEq, mm_q, Option.getD_some, cI_some, cJ_some, cV_some, cS_some, kd_sI, kd_sL, kd_sR, kd_cp, ln_sI, ln_sL, ln_sR, ln_cp, gR_sI, gR_sL, gR_sR, gR_cp, gL_sI, gL_sR, gL_cp, gI_sL, gI_sR, iI_add, iI_sub, iI_mul, iI_neg, iI_in, iI_tn, iI_lt, iI_eq, Nat.reduceLeDiff, Nat.reduceEqDiff, Nat.reduceAdd, Int.reduceEq, Int.reduceLT, Int.reduceLE, Int.reduceNeg, Int.reduceAdd, Int.reduceSub, Int.reduceMul, show (j : Int) < 8 by omega, e4]
    rw [sg_161_32 (by omega)]
    simp (disch := omega) only [shM hs1, ↓reduceIte, not_false_eq_true, not_true_eq_false, and_self, and_true, true_and, false_and, and_false, or_true, true_or, or_false, false_or, or_self, reduceCtorEq, mm_q, Option.getD_some, cI_some, cJ_some, cV_some, cS_some, kd_sI, kd_sL, kd_sR, kd_cp, ln_sI, ln_sL, ln_sR, ln_cp, gR_sI, gR_sL, gR_sR, gR_cp, gL_sI, gL_sR, gL_cp, gI_sL, gI_sR, iI_add, iI_sub, iI_mul, iI_neg, iI_in, iI_tn, iI_lt, iI_eq, Nat.reduceLeDiff, Nat.reduceEqDiff, Nat.reduceAdd, Int.reduceEq, Int.reduceLT, Int.reduceLE, Int.reduceNeg, Int.reduceAdd, Int.reduceSub, Int.reduceMul, show ((b : Int) + 1 + (j : Int)).toNat = b + 1 + j by omega, e5]
    rw [sg_161_49]
    simp (disch := omega) only [shM hs2, shM hs3, ↓reduceIte, not_false_eq_true, not_true_eq_false, and_self, and_true, true_and, false_and, and_false, or_true, true_or, or_false, false_or, or_self, reduceCtorEq, mm_q, Option.getD_some, cI_some, cJ_some, cV_some, cS_some, kd_sI, kd_sL, kd_sR, kd_cp, ln_sI, ln_sL, ln_sR, ln_cp, gR_sI, gR_sL, gR_sR, gR_cp, gL_sI, gL_sR, gL_cp, gI_sL, gI_sR, iI_add, iI_sub, iI_mul, iI_neg, iI_in, iI_tn, iI_lt, iI_eq, Nat.reduceLeDiff, Nat.reduceEqDiff, Nat.reduceAdd, Int.reduceEq, Int.reduceLT, Int.reduceLE, Int.reduceNeg, Int.reduceAdd, Int.reduceSub, Int.reduceMul, show ((b : Int) + 9 + (j : Int)).toNat = b + 9 + j by omega, show ((b : Int) + 17 + (j : Int)).toNat = b + 17 + j by omega]
    exact e3
theorem M161 (hs : Sh m) (hd : 1 ≤ d) {b : Nat} (b1 : b ≤ 1760) : ∃ m', mm_ev d 161 0 [some (.ref 316), some (.int (iI ((b : Int)))), none] [] m = some (some none, m') ∧ Upd m m' (beginD (mm_gI m) b) := by
  have u1 : Upd m (mm_sI m 332 b (iI 0)) (fun a q => if a = 332 ∧ q = b then iI 0 else if a = 332 ∧ b + 1 ≤ q ∧ q < b + 1 + 0 then mm_gI m 322 (19 + 7 * (q - b - 1)) else if a = 332 ∧ b + 9 ≤ q ∧ q < b + 9 + 0 then mm_gI m 322 (20 + 7 * (q - b - 9)) else if a = 332 ∧ b + 17 ≤ q ∧ q < b + 17 + 0 then iI 0 else mm_gI m a q) := Upd.sI.cg (fun a q => by
    unfold up
    by_cases z : a = 332 ∧ q = b
    · rw [if_pos z, if_pos z]
    · rw [if_neg z, if_neg z, if_neg (by omega), if_neg (by omega), if_neg (by omega)])
  obtain ⟨m', e1, v1⟩ := M161L (d := d) hs hd b1 8 0 _ (by omega) u1
  refine ⟨m', ?_, v1⟩
  rw [sg_161_0]
  rw [show ((0 : Nat) : Int) = 0 from rfl] at e1
  simp (disch := omega) only [shM hs, ↓reduceIte, not_false_eq_true, not_true_eq_false, and_self, and_true, true_and, false_and, and_false, or_true, true_or, or_false, false_or, or_self, reduceCtorEq, mm_q, Option.getD_some, cI_some, cJ_some, cV_some, cS_some, kd_sI, kd_sL, kd_sR, kd_cp, ln_sI, ln_sL, ln_sR, ln_cp, gR_sI, gR_sL, gR_sR, gR_cp, gL_sI, gL_sR, gL_cp, gI_sL, gI_sR, iI_add, iI_sub, iI_mul, iI_neg, iI_in, iI_tn, iI_lt, iI_eq, Nat.reduceLeDiff, Nat.reduceEqDiff, Nat.reduceAdd, Int.reduceEq, Int.reduceLT, Int.reduceLE, Int.reduceNeg, Int.reduceAdd, Int.reduceSub, Int.reduceMul, show ((b : Int) + 0).toNat = b by omega]
  exact e1
end
