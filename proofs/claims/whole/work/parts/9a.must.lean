def dupB (X : Nat → Nat → Int32) (w x : Int) : Nat → Int → Bool
  | 0, _ => false
  | r + 1, k => (decide (mu X k 0 = w) && decide (mu X k 1 = x)) || dupB X w x r (k + 1)
def muX (X : Nat → Nat → Int32) (n v0 v1 v2 : Int) : Nat → Nat → Int32 := up (up (up (up X 322 (173 + 3 * n - 100).toNat (iI v0)) 322 (173 + 3 * n + 1 - 100).toNat (iI v1)) 322 (173 + 3 * n + 2 - 100).toNat (iI v2)) 322 (107 - 100 : Int).toNat (iI (n + 1))
section
variable {D : Nat → Nat → Int32} {E : Nat → Nat → Int64} {m m' c c' c'' : mm_M} {d s w : Nat} {n N i f : Int} {T : TK} {X X' : Nat → Nat → Int32} {Y Y' : Nat → Int64} {W W' : Nat → Int32} {cnt a b k v0 v1 v2 : Int}
theorem mu_r (X : Nat → Nat → Int32) (k j : Int) : -2147483648 ≤ mu X k j ∧ mu X k j < 2147483648 := st_r _
/-- readMust's look at those told -/
theorem M189L (hT : TS D n T N) (hM : DM X Y m) (hP : PF D E T N i 0 m) (hd : 2 ≤ d) {n0 w x : Int} (hn0 : n0 ≤ 8) (w0 : 0 ≤ w) (w1 : w < 100) (x0 : 0 ≤ x) (x1 : x < 100) : ∀ (r : Nat) (k : Int), k = n0 - r → 0 ≤ k → ∃ m' z, mm_ev d 189 52 [some (.ref 316), some (.int (iI (n0))), some (.int (iI (w))), some (.int (iI (x))), some (.int (iI (k)))] [] m = mm_ev d 189 112 [some (.ref 316), some (.int (iI (n0))), some (.int (iI (w))), some (.int (iI (x))), some (.int (iI (z)))] [] m' ∧ PF D E T N i (if dupB X w x r k = true then 3 + 16 * tP T i else 0) m' ∧ Fr scAt m m'
  | 0, k, hk, k0 => by
    refine ⟨m, k, ?_, ?_, Fr.rf⟩
    · rw [sg_189_52 (by omega)]
      simp (disch := omega) only [↓reduceIte, not_false_eq_true, not_true_eq_false, and_self, and_true, true_and, false_and, and_false, or_true, true_or, or_false, false_or, or_self, reduceCtorEq, mm_q, Option.getD_some, cI_some, cJ_some, cV_some, cS_some, kd_sI, kd_sL, kd_sR, kd_cp, ln_sI, ln_sL, ln_sR, ln_cp, gR_sI, gR_sL, gR_sR, gR_cp, gL_sI, gL_sR, gL_cp, gI_sL, gI_sR, iI_add, iI_sub, iI_mul, iI_neg, iI_in, iI_tn, iI_lt, iI_eq, Nat.reduceLeDiff, Nat.reduceEqDiff, Nat.reduceAdd, Int.reduceEq, Int.reduceLT, Int.reduceLE, Int.reduceNeg, Int.reduceAdd, Int.reduceSub, Int.reduceMul, show ¬ k < n0 by omega]
    · exact hP
  | r + 1, k, hk, k0 => by
    obtain ⟨i0, i1⟩ := hP.2.2.2.2.1
    have pr := (hT.k i0 i1).1
    have q0 := mu_r X k 0
    have q1 := mu_r X k 1
    have g0 : mm_gI m 322 (173 + 3 * k).toNat = iI (mu X k 0) := by
      rw [DM_st hM (by omega) (by omega)]; unfold mu; rw [show 173 + 3 * k - 100 = 73 + 3 * k + 0 by omega]
    have g1 : mm_gI m 322 (173 + 3 * k + 1).toNat = iI (mu X k 1) := by
      rw [DM_st hM (by omega) (by omega)]; unfold mu; rw [show 173 + 3 * k + 1 - 100 = 73 + 3 * k + 1 by omega]
    obtain ⟨m', z, e, h, g⟩ := M189L hT hM hP hd hn0 w0 w1 x0 x1 r (k + 1) (by omega) (by omega)
    have e106 : mm_ev d 189 106 [some (.ref 316), some (.int (iI (n0))), some (.int (iI (w))), some (.int (iI (x))), some (.int (iI (k)))] [] m = mm_ev d 189 112 [some (.ref 316), some (.int (iI (n0))), some (.int (iI (w))), some (.int (iI (x))), some (.int (iI (z)))] [] m' := by
      rw [sg_189_106]
      simp (disch := omega) only [↓reduceIte, not_false_eq_true, not_true_eq_false, and_self, and_true, true_and, false_and, and_false, or_true, true_or, or_false, false_or, or_self, reduceCtorEq, mm_q, Option.getD_some, cI_some, cJ_some, cV_some, cS_some, kd_sI, kd_sL, kd_sR, kd_cp, ln_sI, ln_sL, ln_sR, ln_cp, gR_sI, gR_sL, gR_sR, gR_cp, gL_sI, gL_sR, gL_cp, gI_sL, gI_sR, iI_add, iI_sub, iI_mul, iI_neg, iI_in, iI_tn, iI_lt, iI_eq, Nat.reduceLeDiff, Nat.reduceEqDiff, Nat.reduceAdd, Int.reduceEq, Int.reduceLT, Int.reduceLE, Int.reduceNeg, Int.reduceAdd, Int.reduceSub, Int.reduceMul]
      exact e
    unfold dupB
    by_cases y0 : mu X k 0 = w
    · by_cases y1 : mu X k 1 = x
      · obtain ⟨m2, e2, h2, g2⟩ := M172 (d := d - 1) hT hP (k := 3) (by omega) (by omega)
        rw [if_pos rfl] at h2
        rw [decide_eq_true y0, decide_eq_true y1]
        refine ⟨m2, k + 1, ?_, h2, g2⟩
        rw [sg_189_52 (by omega)]
        simp (disch := omega) only [shM hP.1.1, ↓reduceIte, not_false_eq_true, not_true_eq_false, and_self, and_true, true_and, false_and, and_false, or_true, true_or, or_false, false_or, or_self, reduceCtorEq, mm_q, Option.getD_some, cI_some, cJ_some, cV_some, cS_some, kd_sI, kd_sL, kd_sR, kd_cp, ln_sI, ln_sL, ln_sR, ln_cp, gR_sI, gR_sL, gR_sR, gR_cp, gL_sI, gL_sR, gL_cp, gI_sL, gI_sR, iI_add, iI_sub, iI_mul, iI_neg, iI_in, iI_tn, iI_lt, iI_eq, Nat.reduceLeDiff, Nat.reduceEqDiff, Nat.reduceAdd, Int.reduceEq, Int.reduceLT, Int.reduceLE, Int.reduceNeg, Int.reduceAdd, Int.reduceSub, Int.reduceMul, show k < n0 by omega, hP.2.2.2.1, g0, g1, y0, y1, e2]
        rw [sg_189_106]
        simp (disch := omega) only [↓reduceIte, not_false_eq_true, not_true_eq_false, and_self, and_true, true_and, false_and, and_false, or_true, true_or, or_false, false_or, or_self, reduceCtorEq, mm_q, Option.getD_some, cI_some, cJ_some, cV_some, cS_some, kd_sI, kd_sL, kd_sR, kd_cp, ln_sI, ln_sL, ln_sR, ln_cp, gR_sI, gR_sL, gR_sR, gR_cp, gL_sI, gL_sR, gL_cp, gI_sL, gI_sR, iI_add, iI_sub, iI_mul, iI_neg, iI_in, iI_tn, iI_lt, iI_eq, Nat.reduceLeDiff, Nat.reduceEqDiff, Nat.reduceAdd, Int.reduceEq, Int.reduceLT, Int.reduceLE, Int.reduceNeg, Int.reduceAdd, Int.reduceSub, Int.reduceMul]
        rw [sg_189_52 (by omega)]
        by_cases y2 : k + 1 < n0
        · simp (disch := omega) only [shM h2.1.1, ↓reduceIte, not_false_eq_true, not_true_eq_false, and_self, and_true, true_and, false_and, and_false, or_true, true_or, or_false, false_or, or_self, reduceCtorEq, mm_q, Option.getD_some, cI_some, cJ_some, cV_some, cS_some, kd_sI, kd_sL, kd_sR, kd_cp, ln_sI, ln_sL, ln_sR, ln_cp, gR_sI, gR_sL, gR_sR, gR_cp, gL_sI, gL_sR, gL_cp, gI_sL, gI_sR, iI_add, iI_sub, iI_mul, iI_neg, iI_in, iI_tn, iI_lt, iI_eq, Nat.reduceLeDiff, Nat.reduceEqDiff, Nat.reduceAdd, Int.reduceEq, Int.reduceLT, Int.reduceLE, Int.reduceNeg, Int.reduceAdd, Int.reduceSub, Int.reduceMul, y2, h2.2.2.2.1, show ¬ 3 + 16 * tP T i = 0 by omega]
        · simp (disch := omega) only [↓reduceIte, not_false_eq_true, not_true_eq_false, and_self, and_true, true_and, false_and, and_false, or_true, true_or, or_false, false_or, or_self, reduceCtorEq, mm_q, Option.getD_some, cI_some, cJ_some, cV_some, cS_some, kd_sI, kd_sL, kd_sR, kd_cp, ln_sI, ln_sL, ln_sR, ln_cp, gR_sI, gR_sL, gR_sR, gR_cp, gL_sI, gL_sR, gL_cp, gI_sL, gI_sR, iI_add, iI_sub, iI_mul, iI_neg, iI_in, iI_tn, iI_lt, iI_eq, Nat.reduceLeDiff, Nat.reduceEqDiff, Nat.reduceAdd, Int.reduceEq, Int.reduceLT, Int.reduceLE, Int.reduceNeg, Int.reduceAdd, Int.reduceSub, Int.reduceMul, y2]
      · rw [decide_eq_false y1, Bool.and_false, Bool.false_or]
        refine ⟨m', z, ?_, h, g⟩
        rw [← e106, sg_189_52 (by omega)]
        simp (disch := omega) only [shM hP.1.1, ↓reduceIte, not_false_eq_true, not_true_eq_false, and_self, and_true, true_and, false_and, and_false, or_true, true_or, or_false, false_or, or_self, reduceCtorEq, mm_q, Option.getD_some, cI_some, cJ_some, cV_some, cS_some, kd_sI, kd_sL, kd_sR, kd_cp, ln_sI, ln_sL, ln_sR, ln_cp, gR_sI, gR_sL, gR_sR, gR_cp, gL_sI, gL_sR, gL_cp, gI_sL, gI_sR, iI_add, iI_sub, iI_mul, iI_neg, iI_in, iI_tn, iI_lt, iI_eq, Nat.reduceLeDiff, Nat.reduceEqDiff, Nat.reduceAdd, Int.reduceEq, Int.reduceLT, Int.reduceLE, Int.reduceNeg, Int.reduceAdd, Int.reduceSub, Int.reduceMul, show k < n0 by omega, hP.2.2.2.1, g0, g1, y0, y1]
    · rw [decide_eq_false y0, Bool.false_and, Bool.false_or]
      refine ⟨m', z, ?_, h, g⟩
      rw [← e106, sg_189_52 (by omega)]
      simp (disch := omega) only [shM hP.1.1, ↓reduceIte, not_false_eq_true, not_true_eq_false, and_self, and_true, true_and, false_and, and_false, or_true, true_or, or_false, false_or, or_self, reduceCtorEq, mm_q, Option.getD_some, cI_some, cJ_some, cV_some, cS_some, kd_sI, kd_sL, kd_sR, kd_cp, ln_sI, ln_sL, ln_sR, ln_cp, gR_sI, gR_sL, gR_sR, gR_cp, gL_sI, gL_sR, gL_cp, gI_sL, gI_sR, iI_add, iI_sub, iI_mul, iI_neg, iI_in, iI_tn, iI_lt, iI_eq, Nat.reduceLeDiff, Nat.reduceEqDiff, Nat.reduceAdd, Int.reduceEq, Int.reduceLT, Int.reduceLE, Int.reduceNeg, Int.reduceAdd, Int.reduceSub, Int.reduceMul, show k < n0 by omega, hP.2.2.2.1, g0, y0]
/-- hasMust -/
theorem C68L (hs : Sh c) (hst : isSt s) (hR : RSt X c s) (h8 : st X 7 ≤ 8) {w x : Int} (w0 : 0 ≤ w) (w1 : w < 100) (x0 : 0 ≤ x) (x1 : x < 100) : ∀ (r : Nat) (k : Int), k = st X 7 - r → 0 ≤ k → mm_ev d 68 2 [some (.ref s), some (.int (iI (w))), some (.int (iI (x))), some (.int (iI (k)))] [] c = some (some (some (.int (iI (bI (dupB X w x r k))))), c)
  | 0, k, hk, k0 => by
    rw [sg_68_2]
    unfold dupB
    simp (disch := omega) only [stF hs hst, ↓reduceIte, not_false_eq_true, not_true_eq_false, and_self, and_true, true_and, false_and, and_false, or_true, true_or, or_false, false_or, or_self, reduceCtorEq, mm_q, Option.getD_some, cI_some, cJ_some, cV_some, cS_some, kd_sI, kd_sL, kd_sR, kd_cp, ln_sI, ln_sL, ln_sR, ln_cp, gR_sI, gR_sL, gR_sR, gR_cp, gL_sI, gL_sR, gL_cp, gI_sL, gI_sR, iI_add, iI_sub, iI_mul, iI_neg, iI_in, iI_tn, iI_lt, iI_eq, Nat.reduceLeDiff, Nat.reduceEqDiff, Nat.reduceAdd, Int.reduceEq, Int.reduceLT, Int.reduceLE, Int.reduceNeg, Int.reduceAdd, Int.reduceSub, Int.reduceMul, bI_t, bI_f, decide_true, decide_false, Bool.and_true, Bool.and_false, Bool.true_and, Bool.false_and, Bool.false_eq_true, Bool.and_self, Bool.not_true, Bool.not_false, Bool.true_or, Bool.false_or, Bool.or_true, Bool.or_false, hR.1.2.2.2.2.2.2.2.2, show ¬ k < st X 7 by omega]
  | r + 1, k, hk, k0 => by
    have q0 := mu_r X k 0
    have q1 := mu_r X k 1
    obtain ⟨g0, g1, -⟩ := hR.2.2.2.1 k k0 (by omega)
    have ih := C68L hs hst hR h8 w0 w1 x0 x1 r (k + 1) (by omega) (by omega)
    have e32 : mm_ev d 68 32 [some (.ref s), some (.int (iI (w))), some (.int (iI (x))), some (.int (iI (k)))] [] c = some (some (some (.int (iI (bI (dupB X w x r (k + 1)))))), c) := by
      rw [sg_68_32]
      simp (disch := omega) only [↓reduceIte, not_false_eq_true, not_true_eq_false, and_self, and_true, true_and, false_and, and_false, or_true, true_or, or_false, false_or, or_self, reduceCtorEq, mm_q, Option.getD_some, cI_some, cJ_some, cV_some, cS_some, kd_sI, kd_sL, kd_sR, kd_cp, ln_sI, ln_sL, ln_sR, ln_cp, gR_sI, gR_sL, gR_sR, gR_cp, gL_sI, gL_sR, gL_cp, gI_sL, gI_sR, iI_add, iI_sub, iI_mul, iI_neg, iI_in, iI_tn, iI_lt, iI_eq, Nat.reduceLeDiff, Nat.reduceEqDiff, Nat.reduceAdd, Int.reduceEq, Int.reduceLT, Int.reduceLE, Int.reduceNeg, Int.reduceAdd, Int.reduceSub, Int.reduceMul]
      exact ih
    rw [sg_68_2]
    unfold dupB
    by_cases y0 : mu X k 0 = w
    · by_cases y1 : mu X k 1 = x
      · rw [decide_eq_true y0, decide_eq_true y1]
        simp (disch := omega) only [stF hs hst, ↓reduceIte, not_false_eq_true, not_true_eq_false, and_self, and_true, true_and, false_and, and_false, or_true, true_or, or_false, false_or, or_self, reduceCtorEq, mm_q, Option.getD_some, cI_some, cJ_some, cV_some, cS_some, kd_sI, kd_sL, kd_sR, kd_cp, ln_sI, ln_sL, ln_sR, ln_cp, gR_sI, gR_sL, gR_sR, gR_cp, gL_sI, gL_sR, gL_cp, gI_sL, gI_sR, iI_add, iI_sub, iI_mul, iI_neg, iI_in, iI_tn, iI_lt, iI_eq, Nat.reduceLeDiff, Nat.reduceEqDiff, Nat.reduceAdd, Int.reduceEq, Int.reduceLT, Int.reduceLE, Int.reduceNeg, Int.reduceAdd, Int.reduceSub, Int.reduceMul, bI_t, bI_f, decide_true, decide_false, Bool.and_true, Bool.and_false, Bool.true_and, Bool.false_and, Bool.false_eq_true, Bool.and_self, Bool.not_true, Bool.not_false, Bool.true_or, Bool.false_or, Bool.or_true, Bool.or_false, hR.1.2.2.2.2.2.2.2.2, show k < st X 7 by omega, g0, g1, y0, y1]
      · rw [decide_eq_false y1, Bool.and_false, Bool.false_or, ← e32]
        simp (disch := omega) only [stF hs hst, ↓reduceIte, not_false_eq_true, not_true_eq_false, and_self, and_true, true_and, false_and, and_false, or_true, true_or, or_false, false_or, or_self, reduceCtorEq, mm_q, Option.getD_some, cI_some, cJ_some, cV_some, cS_some, kd_sI, kd_sL, kd_sR, kd_cp, ln_sI, ln_sL, ln_sR, ln_cp, gR_sI, gR_sL, gR_sR, gR_cp, gL_sI, gL_sR, gL_cp, gI_sL, gI_sR, iI_add, iI_sub, iI_mul, iI_neg, iI_in, iI_tn, iI_lt, iI_eq, Nat.reduceLeDiff, Nat.reduceEqDiff, Nat.reduceAdd, Int.reduceEq, Int.reduceLT, Int.reduceLE, Int.reduceNeg, Int.reduceAdd, Int.reduceSub, Int.reduceMul, bI_t, bI_f, decide_true, decide_false, Bool.and_true, Bool.and_false, Bool.true_and, Bool.false_and, Bool.false_eq_true, Bool.and_self, Bool.not_true, Bool.not_false, Bool.true_or, Bool.false_or, Bool.or_true, Bool.or_false, hR.1.2.2.2.2.2.2.2.2, show k < st X 7 by omega, g0, g1, y0, y1]
    · rw [decide_eq_false y0, Bool.false_and, Bool.false_or, ← e32]
      simp (disch := omega) only [stF hs hst, ↓reduceIte, not_false_eq_true, not_true_eq_false, and_self, and_true, true_and, false_and, and_false, or_true, true_or, or_false, false_or, or_self, reduceCtorEq, mm_q, Option.getD_some, cI_some, cJ_some, cV_some, cS_some, kd_sI, kd_sL, kd_sR, kd_cp, ln_sI, ln_sL, ln_sR, ln_cp, gR_sI, gR_sL, gR_sR, gR_cp, gL_sI, gL_sR, gL_cp, gI_sL, gI_sR, iI_add, iI_sub, iI_mul, iI_neg, iI_in, iI_tn, iI_lt, iI_eq, Nat.reduceLeDiff, Nat.reduceEqDiff, Nat.reduceAdd, Int.reduceEq, Int.reduceLT, Int.reduceLE, Int.reduceNeg, Int.reduceAdd, Int.reduceSub, Int.reduceMul, bI_t, bI_f, decide_true, decide_false, Bool.and_true, Bool.and_false, Bool.true_and, Bool.false_and, Bool.false_eq_true, Bool.and_self, Bool.not_true, Bool.not_false, Bool.true_or, Bool.false_or, Bool.or_true, Bool.or_false, hR.1.2.2.2.2.2.2.2.2, show k < st X 7 by omega, g0, y0]
theorem muX_o {x y : Nat} (h3 : ¬ x = 322) : muX X k v0 v1 v2 x y = X x y := by
  unfold muX up
  rw [if_neg (by omega), if_neg (by omega), if_neg (by omega), if_neg (by omega)]
theorem muX_st (k0 : 0 ≤ k) (k1 : k < 8) (h0 : vR v0) (h1 : vR v1) (h2 : vR v2) (j : Int) : st (muX X k v0 v1 v2) j = if j.toNat = 7 then k + 1 else if j.toNat = (73 + 3 * k + 2).toNat then v2 else if j.toNat = (73 + 3 * k + 1).toNat then v1 else if j.toNat = (73 + 3 * k + 0).toNat then v0 else st X j := by
  unfold vR at *
  unfold muX
  rw [st_u, st_u, st_u, st_u, iI_val (by omega) (by omega), iI_val (by omega) (by omega), iI_val (by omega) (by omega), iI_val (by omega) (by omega)]
  rw [show (107 - 100 : Int).toNat = 7 by omega, show (173 + 3 * k + 2 - 100).toNat = (73 + 3 * k + 2).toNat by omega, show (173 + 3 * k + 1 - 100).toNat = (73 + 3 * k + 1).toNat by omega, show (173 + 3 * k - 100).toNat = (73 + 3 * k + 0).toNat by omega]
theorem muX_lo (k0 : 0 ≤ k) (k1 : k < 8) (h0 : vR v0) (h1 : vR v1) (h2 : vR v2) {j : Int} (j0 : 0 ≤ j) (j1 : ¬ j = 7) (j2 : j < 73 + 3 * k) : st (muX X k v0 v1 v2) j = st X j := by
  rw [muX_st k0 k1 h0 h1 h2, if_neg (by omega), if_neg (by omega), if_neg (by omega), if_neg (by omega)]
/-- must -/
theorem L_must (hT : TS D n T N) (hE : EK E) (hX : LX X i) (i0 : 0 ≤ i) (iN : i < N) (z : ty T i = 13) : LN D E n T N X Y i 189 [some (.ref 316), none, none, none, none] 50 (fun _ => [some (.ref 154), none, none]) := by
  have pr := (hT.k i0 (by omega)).1
  have hI := hX.1
  obtain ⟨⟨c0, c1⟩, ⟨l0, l1⟩, ⟨f0, f1, f2⟩, ⟨p0, p1⟩, ⟨w0, w1⟩, ⟨q0, q1⟩, ⟨x0, x1⟩, ⟨r0, r1⟩, hte, hwk, hmu⟩ := hI
  have hr := hX.2.2.2.2.2.2
  by_cases z8 : st X 7 = 8
  · refine ⟨i, 5 + 16 * tP T i, X, Y, fun m d hd hP hM => ?_, fun c d s hd hC hD hF => ?_, by omega⟩
    · obtain ⟨m2, e2, h2, g2⟩ := M172 (d := d - 1) hT hP (k := 5) (by omega) (by omega)
      rw [if_pos rfl] at h2
      refine ⟨m2, ?_, h2, by omega, g2.AtM⟩
      rw [sg_189_0 (by omega)]
      simp (disch := omega) only [shM hP.1.1, ↓reduceIte, not_false_eq_true, not_true_eq_false, and_self, and_true, true_and, false_and, and_false, or_true, true_or, or_false, false_or, or_self, reduceCtorEq, mm_q, Option.getD_some, cI_some, cJ_some, cV_some, cS_some, kd_sI, kd_sL, kd_sR, kd_cp, ln_sI, ln_sL, ln_sR, ln_cp, gR_sI, gR_sL, gR_sR, gR_cp, gL_sI, gL_sR, gL_cp, gI_sL, gI_sR, iI_add, iI_sub, iI_mul, iI_neg, iI_in, iI_tn, iI_lt, iI_eq, Nat.reduceLeDiff, Nat.reduceEqDiff, Nat.reduceAdd, Int.reduceEq, Int.reduceLT, Int.reduceLE, Int.reduceNeg, Int.reduceAdd, Int.reduceSub, Int.reduceMul, DM_st hM, z8, e2]
    · refine ⟨mm_sI c 154 3 (iI (5 + 16 * tP T i)), ?_, Fr.r154.BQ, by omega, fun _ => by simp [gI_sI]⟩
      rw [sg_50_0 (by omega), bI_0 (by omega)]
      have h7 := hD.1.1.2.2.2.2.2.2.2.2
      rw [z8] at h7
      simp (disch := omega) only [shP hC.1.1, stF hC.1.1 hC.2.2.2.1, ↓reduceIte, not_false_eq_true, not_true_eq_false, and_self, and_true, true_and, false_and, and_false, or_true, true_or, or_false, false_or, or_self, reduceCtorEq, mm_q, Option.getD_some, cI_some, cJ_some, cV_some, cS_some, kd_sI, kd_sL, kd_sR, kd_cp, ln_sI, ln_sL, ln_sR, ln_cp, gR_sI, gR_sL, gR_sR, gR_cp, gL_sI, gL_sR, gL_cp, gI_sL, gI_sR, iI_add, iI_sub, iI_mul, iI_neg, iI_in, iI_tn, iI_lt, iI_eq, Nat.reduceLeDiff, Nat.reduceEqDiff, Nat.reduceAdd, Int.reduceEq, Int.reduceLT, Int.reduceLE, Int.reduceNeg, Int.reduceAdd, Int.reduceSub, Int.reduceMul, hC.2.2.2.2, h7, C40 hT hC]
  · have T1 := th_r (Y := Y) (W := X 327) (cnt := rmX X) (x := 20) (y := 8) (f := 0) hT (i := i + 1) (by omega) (by omega)
    have P1 := (hT.k (i := i + 1) (by omega) (by omega)).1
    have fd1 := hX.fd (Y := Y) (tV T (i + 1))
    have K1 := hX.fk (Y := Y) (tV T (i + 1))
    generalize ht1 : thS T Y (X 327) (rmX X) 20 8 (i + 1) 0 = t1 at T1
    have t1p : 0 ≤ t1.2 := by
      rw [← ht1]; unfold thS; rw [if_pos rfl]
      by_cases y1 : ty T (i + 1) = 30
      · rw [if_pos y1]; split <;> (dsimp only; omega)
      · rw [if_neg y1]; dsimp only; omega
    generalize hj : (if 0 < t1.2 then i + 1 else i + 1 + 1) = j
    have j01 : 0 ≤ j ∧ j ≤ N := by
      rw [← hj]
      by_cases y1 : t1.2 = 0
      · have := T1 y1; rw [if_neg (by omega)]; omega
      · rw [if_pos (by omega)]; omega
    have T2 := th_r (Y := Y) (W := X 327) (cnt := rmX X) (x := 0) (y := 6) (f := t1.2) hT (i := j) j01.1 j01.2
    have P2 := (hT.k (i := j) j01.1 j01.2).1
    have fd2 := hX.fd (Y := Y) (tV T j)
    have K2 := hX.fw (Y := Y) (tV T j)
    generalize ht2 : thS T Y (X 327) (rmX X) 0 6 j t1.2 = t2 at T2
    have t2p : 0 ≤ t2.2 := by
      rw [← ht2]; unfold thS
      by_cases y0 : t1.2 = 0
      · rw [if_pos y0]
        by_cases y1 : ty T j = 30
        · rw [if_pos y1]; split <;> (dsimp only; omega)
        · rw [if_neg y1]; dsimp only; omega
      · rw [if_neg y0]; exact t1p
    have b2 : t2.2 = 0 → t1.2 = 0 := fun y => (T2 y).1
    generalize hdu : dupB X t1.1 t2.1 (st X 7).toNat 0 = du
    generalize hq : tnS T 0 (st X 0 - 1) (j + 1) 0 = q
    by_cases y2 : t2.2 = 0
    · have y1 := b2 y2
      obtain ⟨-, A0, A1, A2, A3, A4⟩ := T1 y1
      obtain ⟨-, B0, B1, B2, B3, B4⟩ := T2 y2
      have ji : j = i + 1 + 1 := by rw [← hj, if_neg (by omega)]
      have w8 : t1.1 < st X 6 := by have := K1 (by omega); omega
      have x6 : t2.1 < st X 5 := by have := K2 (by omega) (by omega); omega
      have ht2' : thS T Y (X 327) (rmX X) 0 6 j 0 = t2 := by rw [← ht2, y1]
      -- the model as far as the look at those told
      have mod : ∀ (m : mm_M) (d : Nat), 60 ≤ d → PF D E T N i 0 m → DM X Y m → ∃ m1 zz, mm_ev d 189 0 [some (.ref 316), none, none, none, none] [] m = mm_ev d 189 112 [some (.ref 316), some (.int (iI (st X 7))), some (.int (iI (t1.1))), some (.int (iI (t2.1))), some (.int (iI (zz)))] [] m1 ∧ PF D E T N j (if du = true then 3 + 16 * tP T j else 0) m1 ∧ Fr scAt m m1 := fun m d hd hP hM => by
        have h1 := hP.at (j := i + 1) (by omega) (by omega)
        have hM1 := hM.at (m' := mm_sI m 316 7 (iI (i + 1))) Fr.at7
        have hc : ∀ {m2 : mm_M}, DM X Y m2 → mm_gI m2 316 (if true = true then 19 else 18) = iI (rmX X) := fun {m2} h2 => by
          rw [if_pos rfl, h2.2.1.2.1]; unfold rmX; rw [iI_toInt]
        obtain ⟨n1, e1, k1, g1⟩ := M186 (d := d - 1) (b := true) hT hE h1 (by omega) (hc hM1) (by omega) (by omega) hM1.2.2.2 fd1 (a := 20) (c := 8) (by omega) (by omega) (by omega) (by omega)
        rw [ht1] at e1 k1
        rw [hj, y1] at k1
        have hM2 := hM1.at g1
        obtain ⟨n2, e2, k2, g2⟩ := M187 (d := d - 1) (b := true) hT hE k1 (by omega) (hc hM2) (by omega) (by omega) hM2.2.2.2 fd2 (a := 0) (c := 6) (by omega) (by omega) (by omega) (by omega)
        rw [ht2'] at e2 k2
        rw [y2] at k2
        have hM3 := hM2.at g2
        obtain ⟨n3, zz, e3, k3, g3⟩ := M189L (d := d) hT hM3 k2 (by omega) (n0 := st X 7) (w := t1.1) (x := t2.1) x1 A0 (by omega) B0 (by omega) (st X 7).toNat 0 (by omega) (by omega)
        rw [hdu] at k3
        refine ⟨n3, zz, ?_, k3, ((Fr.at7.tr g1).tr g2).tr g3⟩
        rw [← e3, sg_189_0 (by omega)]
        have e1' : mm_ev (d - 1) 186 0 [some (.ref 316), some (.int (iI 1)), some (.int (iI 20)), some (.int (iI 8)), none] [] (mm_sI m 316 7 (iI (i + 1))) = some (some (some (.int (iI t1.1))), n1) := e1
        simp (disch := omega) only [shM hP.1.1, ↓reduceIte, not_false_eq_true, not_true_eq_false, and_self, and_true, true_and, false_and, and_false, or_true, true_or, or_false, false_or, or_self, reduceCtorEq, mm_q, Option.getD_some, cI_some, cJ_some, cV_some, cS_some, kd_sI, kd_sL, kd_sR, kd_cp, ln_sI, ln_sL, ln_sR, ln_cp, gR_sI, gR_sL, gR_sR, gR_cp, gL_sI, gL_sR, gL_cp, gI_sL, gI_sR, iI_add, iI_sub, iI_mul, iI_neg, iI_in, iI_tn, iI_lt, iI_eq, Nat.reduceLeDiff, Nat.reduceEqDiff, Nat.reduceAdd, Int.reduceEq, Int.reduceLT, Int.reduceLE, Int.reduceNeg, Int.reduceAdd, Int.reduceSub, Int.reduceMul, DM_st hM, z8, hP.2.2.1, e1']
        rw [sg_189_39 (by omega)]
        have e2' : mm_ev (d - 1) 187 0 [some (.ref 316), some (.int (iI 1)), some (.int (iI 0)), some (.int (iI 6)), none] [] n1 = some (some (some (.int (iI t2.1))), n2) := e2
        simp (disch := omega) only [shM k1.1.1, ↓reduceIte, not_false_eq_true, not_true_eq_false, and_self, and_true, true_and, false_and, and_false, or_true, true_or, or_false, false_or, or_self, reduceCtorEq, mm_q, Option.getD_some, cI_some, cJ_some, cV_some, cS_some, kd_sI, kd_sL, kd_sR, kd_cp, ln_sI, ln_sL, ln_sR, ln_cp, gR_sI, gR_sL, gR_sR, gR_cp, gL_sI, gL_sR, gL_cp, gI_sL, gI_sR, iI_add, iI_sub, iI_mul, iI_neg, iI_in, iI_tn, iI_lt, iI_eq, Nat.reduceLeDiff, Nat.reduceEqDiff, Nat.reduceAdd, Int.reduceEq, Int.reduceLT, Int.reduceLE, Int.reduceNeg, Int.reduceAdd, Int.reduceSub, Int.reduceMul, e2']
      -- the class as far
      have cls : ∀ (c : mm_M) (d s : Nat), 60 ≤ d → CR D n T N i s c → DC X Y c s → ∃ c1, mm_ev d 50 0 [some (.ref 154), none, none] [] c = mm_ev d 50 62 [some (.ref 154), some (.int (iI (t1.1))), some (.int (iI (t2.1)))] [.int (iI (bI du))] c1 ∧ CR D n T N j s c1 ∧ DC X Y c1 s ∧ Fr scBr c c1 := fun c d s hd hC hD => by
        have hst := hC.2.2.2.1
        have h12 := hD.1.1.2.2.2.2.2.2.2.2
        obtain ⟨n1, e1, g1, s1, k9⟩ := CR.nx (d := d - 1) hT hC (by omega) iN
        have hD1 := hD.br hst q1 g1
        obtain ⟨n2, e2, g2, s2, -⟩ := C51 (d := d - 1) hT s1 (by omega) hD1.2.2.2.2 hD1.1.1.2.2.2.2.2.2.2.1
        rw [ht1] at e2 s2
        obtain ⟨s2, v2, -, -⟩ := s2 y1
        rw [bI_1 y1] at e2
        have hD2 := hD1.br hst q1 g2
        rw [← ji] at s2
        obtain ⟨n3, e3, g3, s3, -⟩ := C49 (d := d - 1) hT s2 (by omega) hD2.2.2.2.2 hD2.1.1.2.2.2.2.2.2.1
        rw [ht2'] at e3 s3
        obtain ⟨s3, v3, -, -⟩ := s3 y2
        rw [bI_1 y2] at e3
        have hD3 := hD2.br hst q1 g3
        have e4 := C68L (d := d - 1) s3.1.1 hst hD3.1 x1 (w := t1.1) (x := t2.1) A0 (by omega) B0 (by omega) (st X 7).toNat 0 (by omega) (by omega)
        rw [hdu] at e4
        have e4' : mm_ev (d - 1) 68 0 [some (.ref s), some (.int (iI (t1.1))), some (.int (iI (t2.1))), none] [] n3 = some (some (some (.int (iI (bI du)))), n3) := by
          rw [sg_68_0]; exact e4
        refine ⟨n3, ?_, s3, hD3, (g1.tr g2).tr g3⟩
        rw [sg_50_0 (by omega)]
        simp (disch := omega) only [shP hC.1.1, shP s1.1.1, shT hC.1.1, stF hC.1.1 hst, ↓reduceIte, not_false_eq_true, not_true_eq_false, and_self, and_true, true_and, false_and, and_false, or_true, true_or, or_false, false_or, or_self, reduceCtorEq, mm_q, Option.getD_some, cI_some, cJ_some, cV_some, cS_some, kd_sI, kd_sL, kd_sR, kd_cp, ln_sI, ln_sL, ln_sR, ln_cp, gR_sI, gR_sL, gR_sR, gR_cp, gL_sI, gL_sR, gL_cp, gI_sL, gI_sR, iI_add, iI_sub, iI_mul, iI_neg, iI_in, iI_tn, iI_lt, iI_eq, Nat.reduceLeDiff, Nat.reduceEqDiff, Nat.reduceAdd, Int.reduceEq, Int.reduceLT, Int.reduceLE, Int.reduceNeg, Int.reduceAdd, Int.reduceSub, Int.reduceMul, hC.2.2.2.2, h12, show st X 7 < 8 by omega, e1, e2]
        rw [sg_50_29 (by omega)]
        simp (disch := omega) only [shP s2.1.1, ↓reduceIte, not_false_eq_true, not_true_eq_false, and_self, and_true, true_and, false_and, and_false, or_true, true_or, or_false, false_or, or_self, reduceCtorEq, mm_q, Option.getD_some, cI_some, cJ_some, cV_some, cS_some, kd_sI, kd_sL, kd_sR, kd_cp, ln_sI, ln_sL, ln_sR, ln_cp, gR_sI, gR_sL, gR_sR, gR_cp, gL_sI, gL_sR, gL_cp, gI_sL, gI_sR, iI_add, iI_sub, iI_mul, iI_neg, iI_in, iI_tn, iI_lt, iI_eq, Nat.reduceLeDiff, Nat.reduceEqDiff, Nat.reduceAdd, Int.reduceEq, Int.reduceLT, Int.reduceLE, Int.reduceNeg, Int.reduceAdd, Int.reduceSub, Int.reduceMul, v2, e3]
        rw [sg_50_43 (by omega)]
        simp (disch := omega) only [shP s3.1.1, stF s3.1.1 hst, ↓reduceIte, not_false_eq_true, not_true_eq_false, and_self, and_true, true_and, false_and, and_false, or_true, true_or, or_false, false_or, or_self, reduceCtorEq, mm_q, Option.getD_some, cI_some, cJ_some, cV_some, cS_some, kd_sI, kd_sL, kd_sR, kd_cp, ln_sI, ln_sL, ln_sR, ln_cp, gR_sI, gR_sL, gR_sR, gR_cp, gL_sI, gL_sR, gL_cp, gI_sL, gI_sR, iI_add, iI_sub, iI_mul, iI_neg, iI_in, iI_tn, iI_lt, iI_eq, Nat.reduceLeDiff, Nat.reduceEqDiff, Nat.reduceAdd, Int.reduceEq, Int.reduceLT, Int.reduceLE, Int.reduceNeg, Int.reduceAdd, Int.reduceSub, Int.reduceMul, s3.2.2.2.2, v3, e4']
      cases du
      · -- none told so
        have Q := tn_r (lo := 0) (hi := st X 0 - 1) (f := 0) hT (i := j + 1) (by omega) (by omega)
        rw [hq] at Q
        refine ⟨q.2.1, q.2.2, muX X (st X 7) t1.1 t2.1 q.1, Y, fun m d hd hP hM => ?_, fun c d s hd hC hD hF => ?_, fun hf => ?_⟩
        · obtain ⟨n1, zz, e1, k1, g1⟩ := mod m d hd hP hM
          rw [if_neg (by decide)] at k1
          have hM1 := hM.at g1
          have k2 := k1.at (j := j + 1) (by omega) (by omega)
          have k3 := (k2.w (j := 173 + 3 * st X 7) (v := iI t1.1) (by omega)).w (j := 173 + 3 * st X 7 + 1) (v := iI t2.1) (by omega)
          have hM3 := ((hM1.at (m' := mm_sI n1 316 7 (iI (j + 1))) Fr.at7).w (j := 173 + 3 * st X 7) (v := iI t1.1) (by omega) (by omega)).w (j := 173 + 3 * st X 7 + 1) (v := iI t2.1) (by omega) (by omega)
          have g0 : mm_gI (mm_sI (mm_sI (mm_sI n1 316 7 (iI (j + 1))) 322 (173 + 3 * st X 7).toNat (iI t1.1)) 322 (173 + 3 * st X 7 + 1).toNat (iI t2.1)) 322 (100 : Int).toNat = iI (st X 0) := by
            rw [gI_sI, if_neg (by omega), gI_sI, if_neg (by omega), gI_sI, if_neg (by omega), DM_st hM1 (by omega) (by omega)]; rfl
          have e85 : mm_ev (d - 1) 185 0 [some (.ref 316)] [] (mm_sI (mm_sI (mm_sI n1 316 7 (iI (j + 1))) 322 (173 + 3 * st X 7).toNat (iI t1.1)) 322 (173 + 3 * st X 7 + 1).toNat (iI t2.1)) = some (some (some (.int (iI (st X 0 - 1)))), mm_sI (mm_sI (mm_sI n1 316 7 (iI (j + 1))) 322 (173 + 3 * st X 7).toNat (iI t1.1)) 322 (173 + 3 * st X 7 + 1).toNat (iI t2.1)) := by
            rw [sg_185_0]
            simp (disch := omega) only [shM k3.1.1, ↓reduceIte, not_false_eq_true, not_true_eq_false, and_self, and_true, true_and, false_and, and_false, or_true, true_or, or_false, false_or, or_self, reduceCtorEq, mm_q, Option.getD_some, cI_some, cJ_some, cV_some, cS_some, kd_sI, kd_sL, kd_sR, kd_cp, ln_sI, ln_sL, ln_sR, ln_cp, gR_sI, gR_sL, gR_sR, gR_cp, gL_sI, gL_sR, gL_cp, gI_sL, gI_sR, iI_add, iI_sub, iI_mul, iI_neg, iI_in, iI_tn, iI_lt, iI_eq, Nat.reduceLeDiff, Nat.reduceEqDiff, Nat.reduceAdd, Int.reduceEq, Int.reduceLT, Int.reduceLE, Int.reduceNeg, Int.reduceAdd, Int.reduceSub, Int.reduceMul, g0]
          obtain ⟨n4, e4, k4, g4⟩ := M173 (d := d - 1) hT k3 (by omega) (lo := 0) (hi := st X 0 - 1) (by omega) (by omega) (by omega) (by omega)
          rw [hq] at e4 k4
          have hM4 := hM3.at g4
          have e7 : mm_gI (mm_sI n4 322 (173 + 3 * st X 7 + 2).toNat (iI q.1)) 322 (107 : Int).toNat = iI (st X 7) := by
            rw [gI_sI, if_neg (by omega), g4.gI (scAt_o (by omega)), gI_sI, if_neg (by omega), gI_sI, if_neg (by omega), gI_sI, if_neg (by omega), DM_st hM1 (by omega) (by omega)]; rfl
          refine ⟨mm_sI (mm_sI n4 322 (173 + 3 * st X 7 + 2).toNat (iI q.1)) 322 (107 : Int).toNat (iI (st X 7 + 1)), ?_, (k4.w (by omega)).w (by omega), fun hf => (hM4.w (j := 173 + 3 * st X 7 + 2) (v := iI q.1) (by omega) (by omega)).w (j := 107) (v := iI (st X 7 + 1)) (by omega) (by omega), ?_⟩
          · rw [e1, sg_189_112 (by omega)]
            simp (disch := omega) only [shM k1.1.1, shM k3.1.1, ↓reduceIte, not_false_eq_true, not_true_eq_false, and_self, and_true, true_and, false_and, and_false, or_true, true_or, or_false, false_or, or_self, reduceCtorEq, mm_q, Option.getD_some, cI_some, cJ_some, cV_some, cS_some, kd_sI, kd_sL, kd_sR, kd_cp, ln_sI, ln_sL, ln_sR, ln_cp, gR_sI, gR_sL, gR_sR, gR_cp, gL_sI, gL_sR, gL_cp, gI_sL, gI_sR, iI_add, iI_sub, iI_mul, iI_neg, iI_in, iI_tn, iI_lt, iI_eq, Nat.reduceLeDiff, Nat.reduceEqDiff, Nat.reduceAdd, Int.reduceEq, Int.reduceLT, Int.reduceLE, Int.reduceNeg, Int.reduceAdd, Int.reduceSub, Int.reduceMul, k1.2.2.2.1, k1.2.2.1, e85]
            rw [sg_189_171 (by omega)]
            simp (disch := omega) only [shM k3.1.1, ↓reduceIte, not_false_eq_true, not_true_eq_false, and_self, and_true, true_and, false_and, and_false, or_true, true_or, or_false, false_or, or_self, reduceCtorEq, mm_q, Option.getD_some, cI_some, cJ_some, cV_some, cS_some, kd_sI, kd_sL, kd_sR, kd_cp, ln_sI, ln_sL, ln_sR, ln_cp, gR_sI, gR_sL, gR_sR, gR_cp, gL_sI, gL_sR, gL_cp, gI_sL, gI_sR, iI_add, iI_sub, iI_mul, iI_neg, iI_in, iI_tn, iI_lt, iI_eq, Nat.reduceLeDiff, Nat.reduceEqDiff, Nat.reduceAdd, Int.reduceEq, Int.reduceLT, Int.reduceLE, Int.reduceNeg, Int.reduceAdd, Int.reduceSub, Int.reduceMul, e4]
            rw [sg_189_174]
            simp (disch := omega) only [shM k4.1.1, ↓reduceIte, not_false_eq_true, not_true_eq_false, and_self, and_true, true_and, false_and, and_false, or_true, true_or, or_false, false_or, or_self, reduceCtorEq, mm_q, Option.getD_some, cI_some, cJ_some, cV_some, cS_some, kd_sI, kd_sL, kd_sR, kd_cp, ln_sI, ln_sL, ln_sR, ln_cp, gR_sI, gR_sL, gR_sR, gR_cp, gL_sI, gL_sR, gL_cp, gI_sL, gI_sR, iI_add, iI_sub, iI_mul, iI_neg, iI_in, iI_tn, iI_lt, iI_eq, Nat.reduceLeDiff, Nat.reduceEqDiff, Nat.reduceAdd, Int.reduceEq, Int.reduceLT, Int.reduceLE, Int.reduceNeg, Int.reduceAdd, Int.reduceSub, Int.reduceMul, e7]
          · exact (((((g1.AtM).tr Fr.at7.AtM).tr ((Fr.s322 (by omega)).tr (Fr.s322 (by omega)))).tr g4.AtM).tr (Fr.s322 (by omega))).tr (Fr.s322 (by omega))
        · have hst := hC.2.2.2.1
          have hst' : s = 104 ∨ s = 125 := hst
          obtain ⟨n1, e1, s1, hD1, g1⟩ := cls c d s hd hC hD
          obtain ⟨n2, e2, g2, s2, k9⟩ := CR.nx (d := d - 1) hT s1 (by omega) (by omega)
          have hD2 := hD1.br hst q1 g2
          obtain ⟨n3, e3, g3, s3, u3⟩ := C41 (d := d - 1) hT s2 (by omega) (lo := 0) (hi := st X 0 - 1) (by omega) (by omega) (by omega) (by omega)
          rw [hq] at e3 s3 u3
          have hD3 := hD2.br hst q1 g3
          have run : mm_ev d 50 0 [some (.ref 154), none, none] [] c = mm_ev d 50 92 [some (.ref 154), some (.int (iI (t1.1))), some (.int (iI (t2.1)))] [.int (iI (bI (decide (q.2.2 = 0))))] n3 := by
            rw [e1, sg_50_62 (by omega)]
            simp (disch := omega) only [shP s1.1.1, shT s1.1.1, ↓reduceIte, not_false_eq_true, not_true_eq_false, and_self, and_true, true_and, false_and, and_false, or_true, true_or, or_false, false_or, or_self, reduceCtorEq, mm_q, Option.getD_some, cI_some, cJ_some, cV_some, cS_some, kd_sI, kd_sL, kd_sR, kd_cp, ln_sI, ln_sL, ln_sR, ln_cp, gR_sI, gR_sL, gR_sR, gR_cp, gL_sI, gL_sR, gL_cp, gI_sL, gI_sR, iI_add, iI_sub, iI_mul, iI_neg, iI_in, iI_tn, iI_lt, iI_eq, Nat.reduceLeDiff, Nat.reduceEqDiff, Nat.reduceAdd, Int.reduceEq, Int.reduceLT, Int.reduceLE, Int.reduceNeg, Int.reduceAdd, Int.reduceSub, Int.reduceMul, bI_t, bI_f, decide_true, decide_false, Bool.and_true, Bool.and_false, Bool.true_and, Bool.false_and, Bool.false_eq_true, Bool.and_self, Bool.not_true, Bool.not_false, Bool.true_or, Bool.false_or, Bool.or_true, Bool.or_false, e2]
            rw [sg_50_78 (by omega)]
            simp (disch := omega) only [shP s2.1.1, stF s2.1.1 hst, ↓reduceIte, not_false_eq_true, not_true_eq_false, and_self, and_true, true_and, false_and, and_false, or_true, true_or, or_false, false_or, or_self, reduceCtorEq, mm_q, Option.getD_some, cI_some, cJ_some, cV_some, cS_some, kd_sI, kd_sL, kd_sR, kd_cp, ln_sI, ln_sL, ln_sR, ln_cp, gR_sI, gR_sL, gR_sR, gR_cp, gL_sI, gL_sR, gL_cp, gI_sL, gI_sR, iI_add, iI_sub, iI_mul, iI_neg, iI_in, iI_tn, iI_lt, iI_eq, Nat.reduceLeDiff, Nat.reduceEqDiff, Nat.reduceAdd, Int.reduceEq, Int.reduceLT, Int.reduceLE, Int.reduceNeg, Int.reduceAdd, Int.reduceSub, Int.reduceMul, s2.2.2.2.2, hD2.1.1.1, e3]
          rw [run, sg_50_92 (by omega)]
          by_cases y3 : q.2.2 = 0
          · obtain ⟨s3, v3, -, -⟩ := s3 y3
            obtain ⟨-, Q0, Q1, Q2, Q3⟩ := Q y3
            have h0 : vR t1.1 := ⟨by omega, by omega⟩
            have h1 : vR t2.1 := ⟨by omega, by omega⟩
            have h2 : vR q.1 := ⟨by omega, by omega⟩
            have ms := fun j => muX_st (X := X) (k := st X 7) x0 (by omega) h0 h1 h2 j
            have lo := fun {j : Int} => muX_lo (X := X) (k := st X 7) x0 (by omega) h0 h1 h2 (j := j)
            rw [bI_1 y3]
            have h12 := hD3.1.1.2.2.2.2.2.2.2.2
            have sts := stF s3.1.1 hst
            have e69 : mm_ev (d - 1) 69 0 [some (.ref s), some (.int (iI (t1.1))), some (.int (iI (t2.1))), some (.int (iI (q.1)))] [] n3 = some (some none, mm_sI (mm_sI (mm_sI (mm_sI n3 (s + 4) (st X 7).toNat (iI t1.1)) (s + 5) (st X 7).toNat (iI t2.1)) (s + 6) (st X 7).toNat (iI q.1)) s 12 (iI (st X 7 + 1))) := by
              rw [sg_69_0]
              simp (disch := omega) only [sts, ↓reduceIte, not_false_eq_true, not_true_eq_false, and_self, and_true, true_and, false_and, and_false, or_true, true_or, or_false, false_or, or_self, reduceCtorEq, mm_q, Option.getD_some, cI_some, cJ_some, cV_some, cS_some, kd_sI, kd_sL, kd_sR, kd_cp, ln_sI, ln_sL, ln_sR, ln_cp, gR_sI, gR_sL, gR_sR, gR_cp, gL_sI, gL_sR, gL_cp, gI_sL, gI_sR, iI_add, iI_sub, iI_mul, iI_neg, iI_in, iI_tn, iI_lt, iI_eq, Nat.reduceLeDiff, Nat.reduceEqDiff, Nat.reduceAdd, Int.reduceEq, Int.reduceLT, Int.reduceLE, Int.reduceNeg, Int.reduceAdd, Int.reduceSub, Int.reduceMul, h12, show st X 7 < 8 by omega, gI_sI, show ¬ (s = s + 4 ∧ 12 = (st X 7).toNat) by omega, show ¬ (s = s + 5 ∧ 12 = (st X 7).toNat) by omega, show ¬ (s = s + 6 ∧ 12 = (st X 7).toNat) by omega, show 100 ≤ s + 4 by omega, show 100 ≤ s + 5 by omega, show 100 ≤ s + 6 by omega, show 96 ≤ s by omega, show 95 ≤ s by omega, show 94 ≤ s by omega]
            have hO : Fr (scO s) n3 (mm_sI (mm_sI (mm_sI (mm_sI n3 (s + 4) (st X 7).toNat (iI t1.1)) (s + 5) (st X 7).toNat (iI t2.1)) (s + 6) (st X 7).toNat (iI q.1)) s 12 (iI (st X 7 + 1))) := (((Fr.sI (scO_t (by omega) (by omega) (by omega))).tr (Fr.sI (scO_t (by omega) (by omega) (by omega)))).tr (Fr.sI (scO_t (by omega) (by omega) (by omega)))).tr (Fr.sI (scO_t (by omega) (by omega) (by omega)))
            have gi : ∀ x k, ¬ (x = s ∧ k = 12) → ¬ ((x = s + 4 ∨ x = s + 5 ∨ x = s + 6) ∧ k = (st X 7).toNat) → mm_gI (mm_sI (mm_sI (mm_sI (mm_sI n3 (s + 4) (st X 7).toNat (iI t1.1)) (s + 5) (st X 7).toNat (iI t2.1)) (s + 6) (st X 7).toNat (iI q.1)) s 12 (iI (st X 7 + 1))) x k = mm_gI n3 x k := fun x k y1 y2 => by
              rw [gI_sI, if_neg y1, gI_sI, if_neg (by omega), gI_sI, if_neg (by omega), gI_sI, if_neg (by omega)]
            obtain ⟨⟨b0, b1, b2, b3, b4, b5, b6, b7, b8⟩, bt, bw, bq, la, lb⟩ := hD3.1
            refine ⟨_, ?_, (((g1.tr g2).tr g3).BQ).tr hO.OQ, fun _ => ⟨s3.oq hO, ⟨⟨?_, ?_, ?_, ?_, ?_, ?_, ?_, ?_, ?_⟩, fun x y0 y1 => ?_, fun x y0 y1 => ?_, fun x y0 y1 => ?_, ?_, ?_⟩, ?_, ?_, ?_, ?_⟩, fun y9 => absurd y3 y9⟩
            · simp (disch := omega) only [shP s3.1.1, sts, ↓reduceIte, not_false_eq_true, not_true_eq_false, and_self, and_true, true_and, false_and, and_false, or_true, true_or, or_false, false_or, or_self, reduceCtorEq, mm_q, Option.getD_some, cI_some, cJ_some, cV_some, cS_some, kd_sI, kd_sL, kd_sR, kd_cp, ln_sI, ln_sL, ln_sR, ln_cp, gR_sI, gR_sL, gR_sR, gR_cp, gL_sI, gL_sR, gL_cp, gI_sL, gI_sR, iI_add, iI_sub, iI_mul, iI_neg, iI_in, iI_tn, iI_lt, iI_eq, Nat.reduceLeDiff, Nat.reduceEqDiff, Nat.reduceAdd, Int.reduceEq, Int.reduceLT, Int.reduceLE, Int.reduceNeg, Int.reduceAdd, Int.reduceSub, Int.reduceMul, s3.2.2.2.2, v3, e69]
            · rw [lo (by omega) (by omega) (by omega), gi _ _ (by omega) (by omega)]; exact b0
            · rw [lo (by omega) (by omega) (by omega), gi _ _ (by omega) (by omega)]; exact b1
            · rw [lo (by omega) (by omega) (by omega), gi _ _ (by omega) (by omega)]; exact b2
            · rw [lo (by omega) (by omega) (by omega), gi _ _ (by omega) (by omega)]; exact b3
            · rw [lo (by omega) (by omega) (by omega), gi _ _ (by omega) (by omega)]; exact b4
            · rw [lo (by omega) (by omega) (by omega), gi _ _ (by omega) (by omega)]; exact b5
            · rw [lo (by omega) (by omega) (by omega), gi _ _ (by omega) (by omega)]; exact b6
            · rw [lo (by omega) (by omega) (by omega), gi _ _ (by omega) (by omega)]; exact b7
            · rw [ms, if_pos (by omega), gI_sI, if_pos ⟨rfl, rfl⟩]
            · rw [lo (by omega) (by omega) (by omega)] at y1
              unfold te
              rw [lo (by omega) (by omega) (by omega), gi _ _ (by omega) (by omega)]
              exact bt x y0 y1
            · rw [lo (by omega) (by omega) (by omega)] at y1
              unfold wk
              rw [lo (by omega) (by omega) (by omega), lo (by omega) (by omega) (by omega), lo (by omega) (by omega) (by omega), lo (by omega) (by omega) (by omega), lo (by omega) (by omega) (by omega), lo (by omega) (by omega) (by omega), lo (by omega) (by omega) (by omega), gi _ _ (by omega) (by omega), gi _ _ (by omega) (by omega), gi _ _ (by omega) (by omega), gi _ _ (by omega) (by omega), gi _ _ (by omega) (by omega), gi _ _ (by omega) (by omega), gi _ _ (by omega) (by omega)]
              exact bw x y0 y1
            · rw [ms, if_pos (by omega)] at y1
              unfold mu
              by_cases y2 : x = st X 7
              · subst y2
                refine ⟨?_, ?_, ?_⟩
                · rw [ms, if_neg (by omega), if_neg (by omega), if_neg (by omega), if_pos (by omega), gI_sI, if_neg (by omega), gI_sI, if_neg (by omega), gI_sI, if_neg (by omega), gI_sI, if_pos ⟨rfl, rfl⟩]
                · rw [ms, if_neg (by omega), if_neg (by omega), if_pos (by omega), gI_sI, if_neg (by omega), gI_sI, if_neg (by omega), gI_sI, if_pos ⟨rfl, rfl⟩]
                · rw [ms, if_neg (by omega), if_pos (by omega), gI_sI, if_neg (by omega), gI_sI, if_pos ⟨rfl, rfl⟩]
              · rw [lo (by omega) (by omega) (by omega), lo (by omega) (by omega) (by omega), lo (by omega) (by omega) (by omega), gi _ _ (by omega) (by omega), gi _ _ (by omega) (by omega), gi _ _ (by omega) (by omega)]
                exact bq x y0 (by omega)
            · rw [lo (by omega) (by omega) (by omega)]
              exact (la.cg (gi _ _ (by omega) (by omega)) (fun k => gi _ _ (by omega) (by omega))).cX (by funext k; exact muX_o (by omega)) (by funext k; exact muX_o (by omega))
            · rw [lo (by omega) (by omega) (by omega)]
              exact (lb.cg (gi _ _ (by omega) (by omega)) (fun k => gi _ _ (by omega) (by omega))).cX (by funext k; exact muX_o (by omega)) (by funext k; exact muX_o (by omega))
            · unfold hrX
              rw [muX_o (by omega), gi _ _ (by omega) (by omega)]
              exact hD3.2.1
            · rw [lo (by omega) (by omega) (by omega), gi _ _ (by omega) (by omega)]
              exact hD3.2.2.1
            · rw [lo (by omega) (by omega) (by omega), gi _ _ (by omega) (by omega)]
              exact hD3.2.2.2.1
            · have e27 : muX X (st X 7) t1.1 t2.1 q.1 327 = X 327 := by funext k; exact muX_o (by omega)
              have erm : rmX (muX X (st X 7) t1.1 t2.1 q.1) = rmX X := by unfold rmX; rw [muX_o (by omega)]
              rw [e27, erm, lo (by omega) (by omega) (by omega), lo (by omega) (by omega) (by omega)]
              exact hD3.2.2.2.2.same (fun x => rfl)
          · rw [bI_0 y3]
            refine ⟨n3, ?_, ((g1.tr g2).tr g3).BQ, fun y9 => absurd y9 y3, u3⟩
            simp (disch := omega) only [↓reduceIte, not_false_eq_true, not_true_eq_false, and_self, and_true, true_and, false_and, and_false, or_true, true_or, or_false, false_or, or_self, reduceCtorEq, mm_q, Option.getD_some, cI_some, cJ_some, cV_some, cS_some, kd_sI, kd_sL, kd_sR, kd_cp, ln_sI, ln_sL, ln_sR, ln_cp, gR_sI, gR_sL, gR_sR, gR_cp, gL_sI, gL_sR, gL_cp, gI_sL, gI_sR, iI_add, iI_sub, iI_mul, iI_neg, iI_in, iI_tn, iI_lt, iI_eq, Nat.reduceLeDiff, Nat.reduceEqDiff, Nat.reduceAdd, Int.reduceEq, Int.reduceLT, Int.reduceLE, Int.reduceNeg, Int.reduceAdd, Int.reduceSub, Int.reduceMul]
        · obtain ⟨-, Q0, Q1, Q2, Q3⟩ := Q hf
          have h0 : vR t1.1 := ⟨by omega, by omega⟩
          have h1 : vR t2.1 := ⟨by omega, by omega⟩
          have h2 : vR q.1 := ⟨by omega, by omega⟩
          have ms := fun j => muX_st (X := X) (k := st X 7) x0 (by omega) h0 h1 h2 j
          have lo := fun {j : Int} => muX_lo (X := X) (k := st X 7) x0 (by omega) h0 h1 h2 (j := j)
          have e27 : muX X (st X 7) t1.1 t2.1 q.1 327 = X 327 := by funext k; exact muX_o (by omega)
          have erm : rmX (muX X (st X 7) t1.1 t2.1 q.1) = rmX X := by unfold rmX; rw [muX_o (by omega)]
          refine ⟨hX.of ?_ (lo (by omega) (by omega) (by omega)) (lo (by omega) (by omega) (by omega)) (by funext k; exact muX_o (by omega)) (by funext k; exact muX_o (by omega)) ?_ ?_ ?_ ?_ (by omega), by omega⟩
          · refine ⟨?_, ?_, ?_, ?_, ?_, ?_, ?_, ?_, fun x y0 y1 => ?_, fun x y0 y1 => ?_, fun x y0 y1 => ?_⟩
            · rw [lo (by omega) (by omega) (by omega)]; omega
            · rw [lo (by omega) (by omega) (by omega)]; omega
            · rw [lo (by omega) (by omega) (by omega), lo (by omega) (by omega) (by omega), lo (by omega) (by omega) (by omega)]; omega
            · rw [lo (by omega) (by omega) (by omega), lo (by omega) (by omega) (by omega)]; omega
            · rw [lo (by omega) (by omega) (by omega)]; omega
            · rw [lo (by omega) (by omega) (by omega)]; omega
            · rw [ms, if_pos (by omega)]; omega
            · rw [lo (by omega) (by omega) (by omega)]; omega
            · rw [lo (by omega) (by omega) (by omega)] at y1
              unfold te
              rw [lo (by omega) (by omega) (by omega)]
              exact hte x y0 y1
            · rw [lo (by omega) (by omega) (by omega)] at y1
              have := hwk x y0 y1
              unfold InvW wk at *
              rw [lo (j := 0) (by omega) (by omega) (by omega), lo (j := 1) (by omega) (by omega) (by omega), lo (j := 5) (by omega) (by omega) (by omega), lo (by omega) (by omega) (by omega), lo (by omega) (by omega) (by omega), lo (by omega) (by omega) (by omega), lo (by omega) (by omega) (by omega), lo (by omega) (by omega) (by omega), lo (by omega) (by omega) (by omega), lo (by omega) (by omega) (by omega)]
              exact this
            · rw [ms, if_pos (by omega)] at y1
              unfold InvQ mu
              rw [lo (j := 0) (by omega) (by omega) (by omega), lo (j := 5) (by omega) (by omega) (by omega), lo (j := 6) (by omega) (by omega) (by omega)]
              by_cases y2 : x = st X 7
              · subst y2
                rw [ms (73 + 3 * st X 7 + 0), if_neg (by omega), if_neg (by omega), if_neg (by omega), if_pos (by omega), ms (73 + 3 * st X 7 + 1), if_neg (by omega), if_neg (by omega), if_pos (by omega), ms (73 + 3 * st X 7 + 2), if_neg (by omega), if_pos (by omega)]
                omega
              · have := hmu x y0 (by omega)
                unfold InvQ mu at this
                rw [lo (by omega) (by omega) (by omega), lo (by omega) (by omega) (by omega), lo (by omega) (by omega) (by omega)]
                exact this
          · unfold cdX; rw [muX_o (by omega)]
          · unfold hrX; rw [muX_o (by omega)]; exact hX.2.2.2.2.1
          · intro k hk
            rw [erm] at hk
            rw [e27, lo (by omega) (by omega) (by omega), lo (by omega) (by omega) (by omega)]
            exact hX.2.2.2.2.2.1 k hk
          · rw [erm, lo (by omega) (by omega) (by omega), lo (by omega) (by omega) (by omega)]
            exact hr
      · -- told already
        refine ⟨j, 3 + 16 * tP T j, X, Y, fun m d hd hP hM => ?_, fun c d s hd hC hD hF => ?_, by omega⟩
        · obtain ⟨n1, zz, e1, k1, g1⟩ := mod m d hd hP hM
          rw [if_pos rfl] at k1
          refine ⟨n1, ?_, k1, by omega, g1.AtM⟩
          rw [e1, sg_189_112 (by omega)]
          simp (disch := omega) only [shM k1.1.1, ↓reduceIte, not_false_eq_true, not_true_eq_false, and_self, and_true, true_and, false_and, and_false, or_true, true_or, or_false, false_or, or_self, reduceCtorEq, mm_q, Option.getD_some, cI_some, cJ_some, cV_some, cS_some, kd_sI, kd_sL, kd_sR, kd_cp, ln_sI, ln_sL, ln_sR, ln_cp, gR_sI, gR_sL, gR_sR, gR_cp, gL_sI, gL_sR, gL_cp, gI_sL, gI_sR, iI_add, iI_sub, iI_mul, iI_neg, iI_in, iI_tn, iI_lt, iI_eq, Nat.reduceLeDiff, Nat.reduceEqDiff, Nat.reduceAdd, Int.reduceEq, Int.reduceLT, Int.reduceLE, Int.reduceNeg, Int.reduceAdd, Int.reduceSub, Int.reduceMul, k1.2.2.2.1, show 0 < 3 + 16 * tP T j by omega]
        · obtain ⟨n1, e1, s1, hD1, g1⟩ := cls c d s hd hC hD
          refine ⟨mm_sI n1 154 3 (iI (3 + 16 * tP T j)), ?_, (g1.tr Fr.r154).BQ, by omega, fun _ => by simp [gI_sI]⟩
          rw [e1, sg_50_62 (by omega), bI_0 (by omega)]
          simp (disch := omega) only [shP s1.1.1, ↓reduceIte, not_false_eq_true, not_true_eq_false, and_self, and_true, true_and, false_and, and_false, or_true, true_or, or_false, false_or, or_self, reduceCtorEq, mm_q, Option.getD_some, cI_some, cJ_some, cV_some, cS_some, kd_sI, kd_sL, kd_sR, kd_cp, ln_sI, ln_sL, ln_sR, ln_cp, gR_sI, gR_sL, gR_sR, gR_cp, gL_sI, gL_sR, gL_cp, gI_sL, gI_sR, iI_add, iI_sub, iI_mul, iI_neg, iI_in, iI_tn, iI_lt, iI_eq, Nat.reduceLeDiff, Nat.reduceEqDiff, Nat.reduceAdd, Int.reduceEq, Int.reduceLT, Int.reduceLE, Int.reduceNeg, Int.reduceAdd, Int.reduceSub, Int.reduceMul, bI_t, bI_f, decide_true, decide_false, Bool.and_true, Bool.and_false, Bool.true_and, Bool.false_and, Bool.false_eq_true, Bool.and_self, Bool.not_true, Bool.not_false, Bool.true_or, Bool.false_or, Bool.or_true, Bool.or_false, C40 hT s1]
    · -- a wrong name
      refine ⟨j, t2.2, X, Y, fun m d hd hP hM => ?_, fun c d s hd hC hD hF => ?_, fun y9 => absurd y9 y2⟩
      · have h1 := hP.at (j := i + 1) (by omega) (by omega)
        have hM1 := hM.at (m' := mm_sI m 316 7 (iI (i + 1))) Fr.at7
        have hc : ∀ {m2 : mm_M}, DM X Y m2 → mm_gI m2 316 (if true = true then 19 else 18) = iI (rmX X) := fun {m2} h2 => by
          rw [if_pos rfl, h2.2.1.2.1]; unfold rmX; rw [iI_toInt]
        obtain ⟨n1, e1, k1, g1⟩ := M186 (d := d - 1) (b := true) hT hE h1 (by omega) (hc hM1) (by omega) (by omega) hM1.2.2.2 fd1 (a := 20) (c := 8) (by omega) (by omega) (by omega) (by omega)
        rw [ht1] at e1 k1
        rw [hj] at k1
        have hM2 := hM1.at g1
        obtain ⟨n2, e2, k2, g2⟩ := M187 (d := d - 1) (b := true) hT hE k1 (by omega) (hc hM2) (by omega) (by omega) hM2.2.2.2 fd2 (a := 0) (c := 6) (by omega) (by omega) (by omega) (by omega)
        rw [ht2] at e2 k2
        refine ⟨n2, ?_, k2, fun y9 => absurd y9 y2, ((Fr.at7.tr g1).tr g2).AtM⟩
        have f9 := k2.2.2.2.2.2
        rw [sg_189_0 (by omega)]
        have e1' : mm_ev (d - 1) 186 0 [some (.ref 316), some (.int (iI 1)), some (.int (iI 20)), some (.int (iI 8)), none] [] (mm_sI m 316 7 (iI (i + 1))) = some (some (some (.int (iI t1.1))), n1) := e1
        simp (disch := omega) only [shM hP.1.1, ↓reduceIte, not_false_eq_true, not_true_eq_false, and_self, and_true, true_and, false_and, and_false, or_true, true_or, or_false, false_or, or_self, reduceCtorEq, mm_q, Option.getD_some, cI_some, cJ_some, cV_some, cS_some, kd_sI, kd_sL, kd_sR, kd_cp, ln_sI, ln_sL, ln_sR, ln_cp, gR_sI, gR_sL, gR_sR, gR_cp, gL_sI, gL_sR, gL_cp, gI_sL, gI_sR, iI_add, iI_sub, iI_mul, iI_neg, iI_in, iI_tn, iI_lt, iI_eq, Nat.reduceLeDiff, Nat.reduceEqDiff, Nat.reduceAdd, Int.reduceEq, Int.reduceLT, Int.reduceLE, Int.reduceNeg, Int.reduceAdd, Int.reduceSub, Int.reduceMul, DM_st hM, z8, hP.2.2.1, e1']
        rw [sg_189_39 (by omega)]
        have e2' : mm_ev (d - 1) 187 0 [some (.ref 316), some (.int (iI 1)), some (.int (iI 0)), some (.int (iI 6)), none] [] n1 = some (some (some (.int (iI t2.1))), n2) := e2
        simp (disch := omega) only [shM k1.1.1, ↓reduceIte, not_false_eq_true, not_true_eq_false, and_self, and_true, true_and, false_and, and_false, or_true, true_or, or_false, false_or, or_self, reduceCtorEq, mm_q, Option.getD_some, cI_some, cJ_some, cV_some, cS_some, kd_sI, kd_sL, kd_sR, kd_cp, ln_sI, ln_sL, ln_sR, ln_cp, gR_sI, gR_sL, gR_sR, gR_cp, gL_sI, gL_sR, gL_cp, gI_sL, gI_sR, iI_add, iI_sub, iI_mul, iI_neg, iI_in, iI_tn, iI_lt, iI_eq, Nat.reduceLeDiff, Nat.reduceEqDiff, Nat.reduceAdd, Int.reduceEq, Int.reduceLT, Int.reduceLE, Int.reduceNeg, Int.reduceAdd, Int.reduceSub, Int.reduceMul, e2']
        have e112 : mm_ev d 189 112 [some (.ref 316), some (.int (iI (st X 7))), some (.int (iI (t1.1))), some (.int (iI (t2.1))), some (.int (iI 0))] [] n2 = some (some none, n2) := by
          rw [sg_189_112 (by omega)]
          simp (disch := omega) only [shM k2.1.1, ↓reduceIte, not_false_eq_true, not_true_eq_false, and_self, and_true, true_and, false_and, and_false, or_true, true_or, or_false, false_or, or_self, reduceCtorEq, mm_q, Option.getD_some, cI_some, cJ_some, cV_some, cS_some, kd_sI, kd_sL, kd_sR, kd_cp, ln_sI, ln_sL, ln_sR, ln_cp, gR_sI, gR_sL, gR_sR, gR_cp, gL_sI, gL_sR, gL_cp, gI_sL, gI_sR, iI_add, iI_sub, iI_mul, iI_neg, iI_in, iI_tn, iI_lt, iI_eq, Nat.reduceLeDiff, Nat.reduceEqDiff, Nat.reduceAdd, Int.reduceEq, Int.reduceLT, Int.reduceLE, Int.reduceNeg, Int.reduceAdd, Int.reduceSub, Int.reduceMul, k2.2.2.2.1, show 0 < t2.2 by omega]
        rw [sg_189_52 (by omega)]
        by_cases y5 : 0 < st X 7
        · simp (disch := omega) only [shM k2.1.1, ↓reduceIte, not_false_eq_true, not_true_eq_false, and_self, and_true, true_and, false_and, and_false, or_true, true_or, or_false, false_or, or_self, reduceCtorEq, mm_q, Option.getD_some, cI_some, cJ_some, cV_some, cS_some, kd_sI, kd_sL, kd_sR, kd_cp, ln_sI, ln_sL, ln_sR, ln_cp, gR_sI, gR_sL, gR_sR, gR_cp, gL_sI, gL_sR, gL_cp, gI_sL, gI_sR, iI_add, iI_sub, iI_mul, iI_neg, iI_in, iI_tn, iI_lt, iI_eq, Nat.reduceLeDiff, Nat.reduceEqDiff, Nat.reduceAdd, Int.reduceEq, Int.reduceLT, Int.reduceLE, Int.reduceNeg, Int.reduceAdd, Int.reduceSub, Int.reduceMul, k2.2.2.2.1, y2, y5]
          exact e112
        · simp (disch := omega) only [↓reduceIte, not_false_eq_true, not_true_eq_false, and_self, and_true, true_and, false_and, and_false, or_true, true_or, or_false, false_or, or_self, reduceCtorEq, mm_q, Option.getD_some, cI_some, cJ_some, cV_some, cS_some, kd_sI, kd_sL, kd_sR, kd_cp, ln_sI, ln_sL, ln_sR, ln_cp, gR_sI, gR_sL, gR_sR, gR_cp, gL_sI, gL_sR, gL_cp, gI_sL, gI_sR, iI_add, iI_sub, iI_mul, iI_neg, iI_in, iI_tn, iI_lt, iI_eq, Nat.reduceLeDiff, Nat.reduceEqDiff, Nat.reduceAdd, Int.reduceEq, Int.reduceLT, Int.reduceLE, Int.reduceNeg, Int.reduceAdd, Int.reduceSub, Int.reduceMul, y5]
          exact e112
      · have hst := hC.2.2.2.1
        have h12 := hD.1.1.2.2.2.2.2.2.2.2
        obtain ⟨n1, e1, g1, s1, k9⟩ := CR.nx (d := d - 1) hT hC (by omega) iN
        have hD1 := hD.br hst q1 g1
        obtain ⟨n2, e2, g2, s2, u2⟩ := C51 (d := d - 1) hT s1 (by omega) hD1.2.2.2.2 hD1.1.1.2.2.2.2.2.2.2.1
        rw [ht1] at e2 s2 u2
        have run : mm_ev d 50 0 [some (.ref 154), none, none] [] c = mm_ev d 50 29 [some (.ref 154), none, none] [.int (iI (bI (decide (t1.2 = 0))))] n2 := by
          rw [sg_50_0 (by omega)]
          simp (disch := omega) only [shP hC.1.1, shP s1.1.1, shT hC.1.1, stF hC.1.1 hst, ↓reduceIte, not_false_eq_true, not_true_eq_false, and_self, and_true, true_and, false_and, and_false, or_true, true_or, or_false, false_or, or_self, reduceCtorEq, mm_q, Option.getD_some, cI_some, cJ_some, cV_some, cS_some, kd_sI, kd_sL, kd_sR, kd_cp, ln_sI, ln_sL, ln_sR, ln_cp, gR_sI, gR_sL, gR_sR, gR_cp, gL_sI, gL_sR, gL_cp, gI_sL, gI_sR, iI_add, iI_sub, iI_mul, iI_neg, iI_in, iI_tn, iI_lt, iI_eq, Nat.reduceLeDiff, Nat.reduceEqDiff, Nat.reduceAdd, Int.reduceEq, Int.reduceLT, Int.reduceLE, Int.reduceNeg, Int.reduceAdd, Int.reduceSub, Int.reduceMul, hC.2.2.2.2, h12, show st X 7 < 8 by omega, e1, e2]
        rw [run, sg_50_29 (by omega), bI_0 y2]
        by_cases y1 : t1.2 = 0
        · obtain ⟨s2, v2, -, -⟩ := s2 y1
          rw [bI_1 y1]
          have hD2 := hD1.br hst q1 g2
          have ji : j = i + 1 + 1 := by rw [← hj, if_neg (by omega)]
          rw [← ji] at s2
          obtain ⟨n3, e3, g3, s3, u3⟩ := C49 (d := d - 1) hT s2 (by omega) hD2.2.2.2.2 hD2.1.1.2.2.2.2.2.2.1
          rw [show thS T Y (X 327) (rmX X) 0 6 j 0 = t2 by rw [← ht2, y1]] at e3 s3 u3
          rw [bI_0 y2] at e3
          refine ⟨n3, ?_, ((g1.tr g2).tr g3).BQ, fun y9 => absurd y9 y2, u3⟩
          simp (disch := omega) only [shP s2.1.1, ↓reduceIte, not_false_eq_true, not_true_eq_false, and_self, and_true, true_and, false_and, and_false, or_true, true_or, or_false, false_or, or_self, reduceCtorEq, mm_q, Option.getD_some, cI_some, cJ_some, cV_some, cS_some, kd_sI, kd_sL, kd_sR, kd_cp, ln_sI, ln_sL, ln_sR, ln_cp, gR_sI, gR_sL, gR_sR, gR_cp, gL_sI, gL_sR, gL_cp, gI_sL, gI_sR, iI_add, iI_sub, iI_mul, iI_neg, iI_in, iI_tn, iI_lt, iI_eq, Nat.reduceLeDiff, Nat.reduceEqDiff, Nat.reduceAdd, Int.reduceEq, Int.reduceLT, Int.reduceLE, Int.reduceNeg, Int.reduceAdd, Int.reduceSub, Int.reduceMul, v2, e3]
          rw [sg_50_43 (by omega)]
          simp (disch := omega) only [↓reduceIte, not_false_eq_true, not_true_eq_false, and_self, and_true, true_and, false_and, and_false, or_true, true_or, or_false, false_or, or_self, reduceCtorEq, mm_q, Option.getD_some, cI_some, cJ_some, cV_some, cS_some, kd_sI, kd_sL, kd_sR, kd_cp, ln_sI, ln_sL, ln_sR, ln_cp, gR_sI, gR_sL, gR_sR, gR_cp, gL_sI, gL_sR, gL_cp, gI_sL, gI_sR, iI_add, iI_sub, iI_mul, iI_neg, iI_in, iI_tn, iI_lt, iI_eq, Nat.reduceLeDiff, Nat.reduceEqDiff, Nat.reduceAdd, Int.reduceEq, Int.reduceLT, Int.reduceLE, Int.reduceNeg, Int.reduceAdd, Int.reduceSub, Int.reduceMul]
        · have t2e : t2.2 = t1.2 := by rw [← ht2, th_f y1]
          rw [bI_0 y1]
          refine ⟨n2, ?_, (g1.tr g2).BQ, fun y9 => absurd y9 y2, fun _ => by rw [t2e]; exact u2 y1⟩
          simp (disch := omega) only [↓reduceIte, not_false_eq_true, not_true_eq_false, and_self, and_true, true_and, false_and, and_false, or_true, true_or, or_false, false_or, or_self, reduceCtorEq, mm_q, Option.getD_some, cI_some, cJ_some, cV_some, cS_some, kd_sI, kd_sL, kd_sR, kd_cp, ln_sI, ln_sL, ln_sR, ln_cp, gR_sI, gR_sL, gR_sR, gR_cp, gL_sI, gL_sR, gL_cp, gI_sL, gI_sR, iI_add, iI_sub, iI_mul, iI_neg, iI_in, iI_tn, iI_lt, iI_eq, Nat.reduceLeDiff, Nat.reduceEqDiff, Nat.reduceAdd, Int.reduceEq, Int.reduceLT, Int.reduceLE, Int.reduceNeg, Int.reduceAdd, Int.reduceSub, Int.reduceMul]
end
