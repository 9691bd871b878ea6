def setGo (f : Int → Bool) : Nat → Int → Int32 → Int32
  | 0, _, s => s
  | k + 1, w, s => setGo f k (w + 1) (if f w = true then s ||| iShl (iI 1) (iI w) else s)
def anyB (f : Int → Bool) : Nat → Int → Bool
  | 0, _ => false
  | k + 1, i => f i || anyB f k (i + 1)
def allB (f : Int → Bool) : Nat → Int → Bool
  | 0, _ => true
  | k + 1, i => f i && allB f k (i + 1)
def sumGo (f : Int → Int) : Nat → Int → Int → Int
  | 0, _, n => n
  | k + 1, w, n => sumGo f k (w + 1) (n + f w)
def rowGo (f : Int → Int) : Nat → Int → Int64 → Int64
  | 0, _, s => s
  | k + 1, w, s => rowGo f k (w + 1) (if 0 ≤ f w then s ||| lShl (lI 1) (iI (f w)) else s)
def unkGo (f : Int → Int) : Nat → Int → Int64 → Int64
  | 0, _, v => v
  | k + 1, w, v => unkGo f k (w + 1) (v * (iI (10 - f w)).toInt64)
def vwB (D : Nat → Nat → Int32) (w c : Int) : Bool := decide (0 < sightS D w c)
def wrongS (D : Nat → Nat → Int32) : Int32 := setGo (fun w => !anyB (fun s => decide (sightS D w (nowP D w (te D s)) = 2)) (st D 5).toNat 0) (st D 6).toNat 0 (iI 0)
def alike1 (D : Nat → Nat → Int32) (o p c t : Int) : Bool := decide (vwB D o (nowP D o t) = vwB D p (nowP D p t)) && (!vwB D o (nowP D o t) || (decide (nowP D o t - nowP D p t ≤ c) && decide (nowP D p t - nowP D o t ≤ c)))
def alikeS (D : Nat → Nat → Int32) (o p c : Int) : Bool := decide (wk D o 0 = wk D p 0) && allB (fun s => alike1 D o p c (te D s)) (st D 5).toNat 0
def changeS (D : Nat → Nat → Int32) (w c : Int) : Int32 := if isWk D w = true then (if inB c 0 40 = true then setGo (fun e => !decide (e = w) && alikeS D w e c) (st D 6).toNat 0 (iI 0) else iI (-1)) else iI (-1)
def otherS (D : Nat → Nat → Int32) (w s what : Int) : Int := if isWk D w = true then (if isWd D s = true then (if inB what 0 1 = true then (if what = 1 then st D 1 - 1 - wk D w 1 else if nowP D w (te D s) < 0 then -1 else if framedS D (nowP D w (te D s)) = true then st D 2 + st D 3 - nowP D w (te D s) else -1) else -2) else -2) else -2
def rowS (D : Nat → Nat → Int32) (l t : Int) : Int64 := if inB l 0 (st D 1 - 1) = true then (if inB t 0 600 = true then rowGo (fun w => if wk D w 1 = l then nowP D w t else -1) (st D 6).toNat 0 (lI 0) else lI (-1)) else lI (-1)
def whoseS (D : Nat → Nat → Int32) (c l t : Int) : Int32 := if inB c 0 (st D 0 - 1) = true then (if inB l 0 (st D 1 - 1) = true then (if inB t 0 600 = true then setGo (fun w => decide (wk D w 1 = l) && decide (nowP D w t = c)) (st D 6).toNat 0 (iI 0) else iI (-1)) else iI (-1)) else iI (-1)
def unkS (D : Nat → Nat → Int32) : Int32 := (unkGo (knownS D (sa D)) (st D 6).toNat 0 (lI 1000000) / lI (10 ^ (st D 6).toNat)).toInt32
section
variable {D : Nat → Nat → Int32} {E : Nat → Nat → Int64} {m m' : mm_M} {d : Nat}
theorem or0 (x : Int32) : x ||| iI 0 = x := by
  show x ||| 0 = x
  simp
theorem lor0 (x : Int64) : x ||| lI 0 = x := by
  show x ||| 0 = x
  simp
/-- wrong's inner loop -/
theorem M257I (hI : InvS D) (hL : InvL D) (hIB : InvB D (sa D)) (hd : 7 ≤ d) {w : Int} (hw0 : 0 ≤ w) (hw : w < st D 6) (l1 : Int32) : ∀ (k : Nat) (s : Int) (sh : Bool) (m : mm_M), s = st D 5 - k → 0 ≤ s → MD D E m → ∃ m', mm_ev d 257 22 [some (.ref 316), some (.int l1), some (.int (iI w)), some (.int (iI (bI sh))), some (.int (iI s))] [] m = mm_ev d 257 22 [some (.ref 316), some (.int l1), some (.int (iI w)), some (.int (iI (bI (sh || anyB (fun s => decide (sightS D w (nowP D w (te D s)) = 2)) k s)))), some (.int (iI (st D 5)))] [] m' ∧ Fr scL m m'
  | 0, s, sh, m, hs, _, h => ⟨m, by unfold anyB; rw [Bool.or_false, show s = st D 5 by omega], Fr.rf⟩
  | k + 1, s, sh, m, hs, s0, h => by
    have hI2 := hI
    obtain ⟨⟨c0, c1⟩, -, -, -, ⟨w0, w1⟩, ⟨k0, k1⟩, -, -, hte, -, -⟩ := hI
    obtain ⟨t0, t1⟩ := hte s s0 (by omega)
    unfold anyB
    rw [sg_257_22 (by omega)]
    simp (disch := omega) only [shM h.1, ↓reduceIte, not_false_eq_true, not_true_eq_false, and_self, and_true, true_and, reduceCtorEq, mm_q, Option.getD_some, cI_some, cJ_some, cV_some, cS_some, Nat.reduceLeDiff, Nat.reduceEqDiff, M216 h]
    rw [sg_257_28 (by omega)]
    cases sh with
    | true =>
      obtain ⟨m', e1, f1⟩ := M257I hI2 hL hIB hd hw0 hw l1 k (s + 1) true m (by omega) (by omega) h
      refine ⟨m', ?_, f1⟩
      rw [Bool.true_or] at e1 ⊢
      simp (disch := omega) only [↓reduceIte, not_false_eq_true, not_true_eq_false, and_self, and_true, true_and, false_and, and_false, or_true, true_or, or_false, false_or, or_self, reduceCtorEq, mm_q, Option.getD_some, cI_some, cJ_some, cV_some, cS_some, kd_sI, kd_sL, kd_sR, kd_cp, ln_sI, ln_sL, ln_sR, ln_cp, gR_sI, gR_sL, gR_sR, gR_cp, gL_sI, gL_sR, gL_cp, gI_sL, gI_sR, iI_add, iI_sub, iI_mul, iI_neg, iI_in, iI_tn, iI_lt, iI_eq, Nat.reduceLeDiff, Nat.reduceEqDiff, Nat.reduceAdd, Int.reduceEq, Int.reduceLT, Int.reduceLE, Int.reduceNeg, Int.reduceAdd, Int.reduceSub, Int.reduceMul, bI_t, bI_f, decide_true, decide_false, Bool.and_true, Bool.and_false, Bool.true_and, Bool.false_and, Bool.false_eq_true, Bool.and_self, Bool.not_true, Bool.not_false, show s < st D 5 by omega, sg_257_55, sg_257_60] at e1 ⊢
      exact e1
    | false =>
      obtain ⟨m1, e0, f0⟩ := M234 (d := d - 1) h hI2 hL hIB (by omega) hw0 hw t0 t1
      have h1 := h.frL f0
      have pr := placeB_r hI2 hIB (take := sa D 0) (tenth := te D s) (late := true) hw0 hw
      have sr := sightS_r (D := D) (w := w) (c := placeB D (sa D) (sa D 0) true w (te D s))
      obtain ⟨m', e1, f1⟩ := M257I hI2 hL hIB hd hw0 hw l1 k (s + 1) (decide (sightS D w (nowP D w (te D s)) = 2)) m1 (by omega) (by omega) h1
      refine ⟨m', ?_, f0.tr f1⟩
      rw [Bool.false_or, ← e1]
      simp (disch := omega) only [shM h.1, ↓reduceIte, not_false_eq_true, not_true_eq_false, and_self, and_true, true_and, false_and, and_false, or_true, true_or, or_false, false_or, or_self, reduceCtorEq, mm_q, Option.getD_some, cI_some, cJ_some, cV_some, cS_some, kd_sI, kd_sL, kd_sR, kd_cp, ln_sI, ln_sL, ln_sR, ln_cp, gR_sI, gR_sL, gR_sR, gR_cp, gL_sI, gL_sR, gL_cp, gI_sL, gI_sR, iI_add, iI_sub, iI_mul, iI_neg, iI_in, iI_tn, iI_lt, iI_eq, Nat.reduceLeDiff, Nat.reduceEqDiff, Nat.reduceAdd, Int.reduceEq, Int.reduceLT, Int.reduceLE, Int.reduceNeg, Int.reduceAdd, Int.reduceSub, Int.reduceMul, bI_t, bI_f, decide_true, decide_false, Bool.and_true, Bool.and_false, Bool.true_and, Bool.false_and, Bool.false_eq_true, Bool.and_self, Bool.not_true, Bool.not_false, show s < st D 5 by omega, M210 h]
      rw [sg_257_45 (by omega)]
      simp (disch := omega) only [shM h.1, ↓reduceIte, not_false_eq_true, not_true_eq_false, and_self, and_true, true_and, reduceCtorEq, mm_q, Option.getD_some, cI_some, cJ_some, cV_some, cS_some, Nat.reduceLeDiff, Nat.reduceEqDiff, e0]
      rw [sg_257_48 (by omega)]
      simp (disch := omega) only [shM h1.1, ↓reduceIte, not_false_eq_true, not_true_eq_false, and_self, and_true, true_and, reduceCtorEq, mm_q, Option.getD_some, cI_some, cJ_some, cV_some, cS_some, Nat.reduceLeDiff, Nat.reduceEqDiff, M211 h1 hI2]
      unfold nowP
      by_cases z : sightS D w (placeB D (sa D) (sa D 0) true w (te D s)) = 2
      · simp (disch := omega) only [↓reduceIte, not_false_eq_true, not_true_eq_false, and_self, and_true, true_and, false_and, and_false, or_true, true_or, or_false, false_or, or_self, reduceCtorEq, mm_q, Option.getD_some, cI_some, cJ_some, cV_some, cS_some, kd_sI, kd_sL, kd_sR, kd_cp, ln_sI, ln_sL, ln_sR, ln_cp, gR_sI, gR_sL, gR_sR, gR_cp, gL_sI, gL_sR, gL_cp, gI_sL, gI_sR, iI_add, iI_sub, iI_mul, iI_neg, iI_in, iI_tn, iI_lt, iI_eq, Nat.reduceLeDiff, Nat.reduceEqDiff, Nat.reduceAdd, Int.reduceEq, Int.reduceLT, Int.reduceLE, Int.reduceNeg, Int.reduceAdd, Int.reduceSub, Int.reduceMul, bI_t, bI_f, decide_true, decide_false, Bool.and_true, Bool.and_false, Bool.true_and, Bool.false_and, Bool.false_eq_true, Bool.and_self, Bool.not_true, Bool.not_false, z, sg_257_55, sg_257_60]
      · simp (disch := omega) only [↓reduceIte, not_false_eq_true, not_true_eq_false, and_self, and_true, true_and, false_and, and_false, or_true, true_or, or_false, false_or, or_self, reduceCtorEq, mm_q, Option.getD_some, cI_some, cJ_some, cV_some, cS_some, kd_sI, kd_sL, kd_sR, kd_cp, ln_sI, ln_sL, ln_sR, ln_cp, gR_sI, gR_sL, gR_sR, gR_cp, gL_sI, gL_sR, gL_cp, gI_sL, gI_sR, iI_add, iI_sub, iI_mul, iI_neg, iI_in, iI_tn, iI_lt, iI_eq, Nat.reduceLeDiff, Nat.reduceEqDiff, Nat.reduceAdd, Int.reduceEq, Int.reduceLT, Int.reduceLE, Int.reduceNeg, Int.reduceAdd, Int.reduceSub, Int.reduceMul, bI_t, bI_f, decide_true, decide_false, Bool.and_true, Bool.and_false, Bool.true_and, Bool.false_and, Bool.false_eq_true, Bool.and_self, Bool.not_true, Bool.not_false, z, sg_257_55, sg_257_60]
theorem M257L (hI : InvS D) (hL : InvL D) (hIB : InvB D (sa D)) (hd : 7 ≤ d) : ∀ (k : Nat) (w : Int) (l1 : Int32) (z3 z4 : Option Value) (m : mm_M), w = st D 6 - k → 0 ≤ w → MD D E m → ∃ m', mm_ev d 257 9 [some (.ref 316), some (.int l1), some (.int (iI w)), z3, z4] [] m = some (some (some (.int (setGo (fun w => !anyB (fun s => decide (sightS D w (nowP D w (te D s)) = 2)) (st D 5).toNat 0) k w l1))), m') ∧ Fr scL m m'
  | 0, w, l1, z3, z4, m, hs, _, h => by
    obtain ⟨-, -, -, -, -, ⟨k0, k1⟩, -⟩ := hI
    refine ⟨m, ?_, Fr.rf⟩
    unfold setGo
    rw [sg_257_9 (by omega)]
    simp (disch := omega) only [shM h.1, ↓reduceIte, not_false_eq_true, not_true_eq_false, and_self, and_true, true_and, false_and, and_false, or_true, true_or, or_false, false_or, or_self, reduceCtorEq, mm_q, Option.getD_some, cI_some, cJ_some, cV_some, cS_some, kd_sI, kd_sL, kd_sR, kd_cp, ln_sI, ln_sL, ln_sR, ln_cp, gR_sI, gR_sL, gR_sR, gR_cp, gL_sI, gL_sR, gL_cp, gI_sL, gI_sR, iI_add, iI_sub, iI_mul, iI_neg, iI_in, iI_tn, iI_lt, iI_eq, Nat.reduceLeDiff, Nat.reduceEqDiff, Nat.reduceAdd, Int.reduceEq, Int.reduceLT, Int.reduceLE, Int.reduceNeg, Int.reduceAdd, Int.reduceSub, Int.reduceMul, M201 h, show ¬ w < st D 6 by omega]
  | k + 1, w, l1, z3, z4, m, hs, w0, h => by
    have hI2 := hI
    obtain ⟨⟨c0, c1⟩, -, -, -, ⟨y0, y1⟩, ⟨k0, k1⟩, -⟩ := hI
    obtain ⟨m1, e1, f1⟩ := M257I hI2 hL hIB hd w0 (show w < st D 6 by omega) l1 (st D 5).toNat 0 false m (by omega) (by omega) h
    rw [Bool.false_or, bI_f] at e1
    have h1 := h.frL f1
    cases z : anyB (fun s => decide (sightS D w (nowP D w (te D s)) = 2)) (st D 5).toNat 0
    · obtain ⟨m', e2, f2⟩ := M257L hI2 hL hIB hd k (w + 1) (l1 ||| iShl (iI 1) (iI w)) (some (.int (iI 0))) (some (.int (iI (st D 5)))) m1 (by omega) (by omega) h1
      refine ⟨m', ?_, f1.tr f2⟩
      unfold setGo
      rw [sg_257_9 (by omega)]
      simp (disch := omega) only [shM h.1, ↓reduceIte, not_false_eq_true, not_true_eq_false, and_self, and_true, true_and, false_and, and_false, or_true, true_or, or_false, false_or, or_self, reduceCtorEq, mm_q, Option.getD_some, cI_some, cJ_some, cV_some, cS_some, kd_sI, kd_sL, kd_sR, kd_cp, ln_sI, ln_sL, ln_sR, ln_cp, gR_sI, gR_sL, gR_sR, gR_cp, gL_sI, gL_sR, gL_cp, gI_sL, gI_sR, iI_add, iI_sub, iI_mul, iI_neg, iI_in, iI_tn, iI_lt, iI_eq, Nat.reduceLeDiff, Nat.reduceEqDiff, Nat.reduceAdd, Int.reduceEq, Int.reduceLT, Int.reduceLE, Int.reduceNeg, Int.reduceAdd, Int.reduceSub, Int.reduceMul, M201 h, show w < st D 6 by omega, e1, z, bI_t, bI_f, decide_true, decide_false, Bool.and_true, Bool.and_false, Bool.true_and, Bool.false_and, Bool.false_eq_true, Bool.and_self, Bool.not_true, Bool.not_false]
      rw [sg_257_22 (by omega)]
      simp (disch := omega) only [shM h1.1, ↓reduceIte, not_false_eq_true, not_true_eq_false, and_self, and_true, true_and, reduceCtorEq, mm_q, Option.getD_some, cI_some, cJ_some, cV_some, cS_some, Nat.reduceLeDiff, Nat.reduceEqDiff, M216 h1]
      rw [sg_257_28 (by omega)]
      simp (disch := omega) only [↓reduceIte, not_false_eq_true, not_true_eq_false, and_self, and_true, true_and, false_and, and_false, or_true, true_or, or_false, false_or, or_self, reduceCtorEq, mm_q, Option.getD_some, cI_some, cJ_some, cV_some, cS_some, kd_sI, kd_sL, kd_sR, kd_cp, ln_sI, ln_sL, ln_sR, ln_cp, gR_sI, gR_sL, gR_sR, gR_cp, gL_sI, gL_sR, gL_cp, gI_sL, gI_sR, iI_add, iI_sub, iI_mul, iI_neg, iI_in, iI_tn, iI_lt, iI_eq, Nat.reduceLeDiff, Nat.reduceEqDiff, Nat.reduceAdd, Int.reduceEq, Int.reduceLT, Int.reduceLE, Int.reduceNeg, Int.reduceAdd, Int.reduceSub, Int.reduceMul, Int.lt_irrefl, sg_257_79]
      exact e2
    · obtain ⟨m', e2, f2⟩ := M257L hI2 hL hIB hd k (w + 1) l1 (some (.int (iI 1))) (some (.int (iI (st D 5)))) m1 (by omega) (by omega) h1
      refine ⟨m', ?_, f1.tr f2⟩
      unfold setGo
      rw [sg_257_9 (by omega)]
      simp (disch := omega) only [shM h.1, ↓reduceIte, not_false_eq_true, not_true_eq_false, and_self, and_true, true_and, false_and, and_false, or_true, true_or, or_false, false_or, or_self, reduceCtorEq, mm_q, Option.getD_some, cI_some, cJ_some, cV_some, cS_some, kd_sI, kd_sL, kd_sR, kd_cp, ln_sI, ln_sL, ln_sR, ln_cp, gR_sI, gR_sL, gR_sR, gR_cp, gL_sI, gL_sR, gL_cp, gI_sL, gI_sR, iI_add, iI_sub, iI_mul, iI_neg, iI_in, iI_tn, iI_lt, iI_eq, Nat.reduceLeDiff, Nat.reduceEqDiff, Nat.reduceAdd, Int.reduceEq, Int.reduceLT, Int.reduceLE, Int.reduceNeg, Int.reduceAdd, Int.reduceSub, Int.reduceMul, M201 h, show w < st D 6 by omega, e1, z, bI_t, bI_f, decide_true, decide_false, Bool.and_true, Bool.and_false, Bool.true_and, Bool.false_and, Bool.false_eq_true, Bool.and_self, Bool.not_true, Bool.not_false]
      rw [sg_257_22 (by omega)]
      simp (disch := omega) only [shM h1.1, ↓reduceIte, not_false_eq_true, not_true_eq_false, and_self, and_true, true_and, reduceCtorEq, mm_q, Option.getD_some, cI_some, cJ_some, cV_some, cS_some, Nat.reduceLeDiff, Nat.reduceEqDiff, M216 h1]
      rw [sg_257_28 (by omega)]
      simp (disch := omega) only [↓reduceIte, not_false_eq_true, not_true_eq_false, and_self, and_true, true_and, false_and, and_false, or_true, true_or, or_false, false_or, or_self, reduceCtorEq, mm_q, Option.getD_some, cI_some, cJ_some, cV_some, cS_some, kd_sI, kd_sL, kd_sR, kd_cp, ln_sI, ln_sL, ln_sR, ln_cp, gR_sI, gR_sL, gR_sR, gR_cp, gL_sI, gL_sR, gL_cp, gI_sL, gI_sR, iI_add, iI_sub, iI_mul, iI_neg, iI_in, iI_tn, iI_lt, iI_eq, Nat.reduceLeDiff, Nat.reduceEqDiff, Nat.reduceAdd, Int.reduceEq, Int.reduceLT, Int.reduceLE, Int.reduceNeg, Int.reduceAdd, Int.reduceSub, Int.reduceMul, Int.lt_irrefl, sg_257_79, or0]
      exact e2
/-- wrong -/
theorem M257 (h : MD D E m) (hI : InvS D) (hL : InvL D) (hIB : InvB D (sa D)) (hd : 7 ≤ d) : ∃ m', mm_ev d 257 0 [some (.ref 316), none, none, none, none] [] m = some (some (some (.int (wrongS D))), m') ∧ Fr scM m m' := by
  have h1 := h.fr thr0
  obtain ⟨k0, k1⟩ := hI.2.2.2.2.2.1
  obtain ⟨m', e1, f1⟩ := M257L hI hL hIB hd (st D 6).toNat 0 (iI 0) none none _ (by omega) (by omega) h1
  refine ⟨m', ?_, thr0.tr f1.LM⟩
  rw [sg_257_0]
  simp (disch := omega) only [shM h.1, ↓reduceIte, not_false_eq_true, not_true_eq_false, and_self, and_true, true_and, reduceCtorEq, mm_q, Option.getD_some, cI_some, cJ_some, cV_some, cS_some, Nat.reduceLeDiff, Nat.reduceEqDiff]
  exact e1
/-- isAlike's loop -/
theorem M259L (hI : InvS D) (hL : InvL D) (hIB : InvB D (sa D)) (hd : 7 ≤ d) {o p c : Int} (o0 : 0 ≤ o) (o1 : o < st D 6) (p0 : 0 ≤ p) (p1 : p < st D 6) (c0 : 0 ≤ c) (c1 : c ≤ 40) : ∀ (k : Nat) (s : Int) (is : Bool) (z6 z7 z8 : Option Value) (m : mm_M), s = st D 5 - k → 0 ≤ s → MD D E m → ∃ m', mm_ev d 259 25 [some (.ref 316), some (.int (iI o)), some (.int (iI p)), some (.int (iI c)), some (.int (iI (bI is))), some (.int (iI s)), z6, z7, z8] [] m = some (some (some (.int (iI (bI (is && allB (fun s => alike1 D o p c (te D s)) k s))))), m') ∧ Fr scL m m'
  | 0, s, is, z6, z7, z8, m, hs, _, h => by
    obtain ⟨-, -, -, -, ⟨y0, y1⟩, -⟩ := hI
    refine ⟨m, ?_, Fr.rf⟩
    unfold allB
    rw [sg_259_25 (by omega)]
    simp (disch := omega) only [shM h.1, ↓reduceIte, not_false_eq_true, not_true_eq_false, and_self, and_true, true_and, reduceCtorEq, mm_q, Option.getD_some, cI_some, cJ_some, cV_some, cS_some, Nat.reduceLeDiff, Nat.reduceEqDiff, M216 h]
    rw [sg_259_31 (by omega)]
    cases is <;> simp (disch := omega) only [↓reduceIte, not_false_eq_true, not_true_eq_false, and_self, and_true, true_and, false_and, and_false, or_true, true_or, or_false, false_or, or_self, reduceCtorEq, mm_q, Option.getD_some, cI_some, cJ_some, cV_some, cS_some, kd_sI, kd_sL, kd_sR, kd_cp, ln_sI, ln_sL, ln_sR, ln_cp, gR_sI, gR_sL, gR_sR, gR_cp, gL_sI, gL_sR, gL_cp, gI_sL, gI_sR, iI_add, iI_sub, iI_mul, iI_neg, iI_in, iI_tn, iI_lt, iI_eq, Nat.reduceLeDiff, Nat.reduceEqDiff, Nat.reduceAdd, Int.reduceEq, Int.reduceLT, Int.reduceLE, Int.reduceNeg, Int.reduceAdd, Int.reduceSub, Int.reduceMul, bI_t, bI_f, decide_true, decide_false, Bool.and_true, Bool.and_false, Bool.true_and, Bool.false_and, Bool.false_eq_true, Bool.and_self, Bool.not_true, Bool.not_false, show ¬ s < st D 5 by omega]
  | k + 1, s, is, z6, z7, z8, m, hs, s0, h => by
    have hI2 := hI
    obtain ⟨⟨a0, a1⟩, -, -, -, ⟨y0, y1⟩, ⟨k0, k1⟩, -, -, hte, -, -⟩ := hI
    obtain ⟨t0, t1⟩ := hte s s0 (by omega)
    rw [sg_259_25 (by omega)]
    simp (disch := omega) only [shM h.1, ↓reduceIte, not_false_eq_true, not_true_eq_false, and_self, and_true, true_and, reduceCtorEq, mm_q, Option.getD_some, cI_some, cJ_some, cV_some, cS_some, Nat.reduceLeDiff, Nat.reduceEqDiff, M216 h]
    rw [sg_259_31 (by omega)]
    cases is with
    | false =>
      refine ⟨m, ?_, Fr.rf⟩
      simp (disch := omega) only [↓reduceIte, not_false_eq_true, not_true_eq_false, and_self, and_true, true_and, false_and, and_false, or_true, true_or, or_false, false_or, or_self, reduceCtorEq, mm_q, Option.getD_some, cI_some, cJ_some, cV_some, cS_some, kd_sI, kd_sL, kd_sR, kd_cp, ln_sI, ln_sL, ln_sR, ln_cp, gR_sI, gR_sL, gR_sR, gR_cp, gL_sI, gL_sR, gL_cp, gI_sL, gI_sR, iI_add, iI_sub, iI_mul, iI_neg, iI_in, iI_tn, iI_lt, iI_eq, Nat.reduceLeDiff, Nat.reduceEqDiff, Nat.reduceAdd, Int.reduceEq, Int.reduceLT, Int.reduceLE, Int.reduceNeg, Int.reduceAdd, Int.reduceSub, Int.reduceMul, bI_t, bI_f, decide_true, decide_false, Bool.and_true, Bool.and_false, Bool.true_and, Bool.false_and, Bool.false_eq_true, Bool.and_self, Bool.not_true, Bool.not_false, show s < st D 5 by omega]
    | true =>
      obtain ⟨m1, e0, f0⟩ := M234 (d := d - 1) h hI2 hL hIB (by omega) o0 o1 t0 t1
      have h1 := h.frL f0
      obtain ⟨m2, e1, f1⟩ := M234 (d := d - 1) h1 hI2 hL hIB (by omega) p0 p1 t0 t1
      have h2 := h1.frL f1
      have pr := placeB_r hI2 hIB (take := sa D 0) (tenth := te D s) (late := true) o0 o1
      have pr2 := placeB_r hI2 hIB (take := sa D 0) (tenth := te D s) (late := true) p0 p1
      have sr := sightS_r (D := D) (w := o) (c := placeB D (sa D) (sa D 0) true o (te D s))
      have sr2 := sightS_r (D := D) (w := p) (c := placeB D (sa D) (sa D 0) true p (te D s))
      have ih := fun is z6 z7 z8 => M259L hI2 hL hIB hd o0 o1 p0 p1 c0 c1 k (s + 1) is z6 z7 z8 m2 (by omega) (by omega) h2
      have key : ∀ is, (∃ z6 z7 z8, mm_ev d 259 25 [some (.ref 316), some (.int (iI o)), some (.int (iI p)), some (.int (iI c)), some (.int (iI (bI true))), some (.int (iI s)), z6, z7, z8] [] m = mm_ev d 259 25 [some (.ref 316), some (.int (iI o)), some (.int (iI p)), some (.int (iI c)), some (.int (iI (bI is))), some (.int (iI (s + 1))), z6, z7, z8] [] m2) → True := fun _ _ => trivial
      clear key
      unfold allB
      simp (disch := omega) only [shM h.1, ↓reduceIte, not_false_eq_true, not_true_eq_false, and_self, and_true, true_and, false_and, and_false, or_true, true_or, or_false, false_or, or_self, reduceCtorEq, mm_q, Option.getD_some, cI_some, cJ_some, cV_some, cS_some, kd_sI, kd_sL, kd_sR, kd_cp, ln_sI, ln_sL, ln_sR, ln_cp, gR_sI, gR_sL, gR_sR, gR_cp, gL_sI, gL_sR, gL_cp, gI_sL, gI_sR, iI_add, iI_sub, iI_mul, iI_neg, iI_in, iI_tn, iI_lt, iI_eq, Nat.reduceLeDiff, Nat.reduceEqDiff, Nat.reduceAdd, Int.reduceEq, Int.reduceLT, Int.reduceLE, Int.reduceNeg, Int.reduceAdd, Int.reduceSub, Int.reduceMul, bI_t, bI_f, decide_true, decide_false, Bool.and_true, Bool.and_false, Bool.true_and, Bool.false_and, Bool.false_eq_true, Bool.and_self, Bool.not_true, Bool.not_false, show s < st D 5 by omega, M210 h]
      rw [sg_259_47 (by omega)]
      simp (disch := omega) only [shM h.1, ↓reduceIte, not_false_eq_true, not_true_eq_false, and_self, and_true, true_and, reduceCtorEq, mm_q, Option.getD_some, cI_some, cJ_some, cV_some, cS_some, Nat.reduceLeDiff, Nat.reduceEqDiff, e0]
      rw [sg_259_50 (by omega)]
      simp (disch := omega) only [shM h1.1, ↓reduceIte, not_false_eq_true, not_true_eq_false, and_self, and_true, true_and, reduceCtorEq, mm_q, Option.getD_some, cI_some, cJ_some, cV_some, cS_some, Nat.reduceLeDiff, Nat.reduceEqDiff, M210 h1]
      rw [sg_259_60 (by omega)]
      simp (disch := omega) only [shM h1.1, ↓reduceIte, not_false_eq_true, not_true_eq_false, and_self, and_true, true_and, reduceCtorEq, mm_q, Option.getD_some, cI_some, cJ_some, cV_some, cS_some, Nat.reduceLeDiff, Nat.reduceEqDiff, e1]
      rw [sg_259_63 (by omega)]
      simp (disch := omega) only [shM h2.1, ↓reduceIte, not_false_eq_true, not_true_eq_false, and_self, and_true, true_and, reduceCtorEq, mm_q, Option.getD_some, cI_some, cJ_some, cV_some, cS_some, Nat.reduceLeDiff, Nat.reduceEqDiff, M211 h2 hI2]
      have e80 : ∀ x : Bool, mm_ev d 259 80 [some (.ref 316), some (.int (iI o)), some (.int (iI p)), some (.int (iI c)), some (.int (iI 1)), some (.int (iI s)), some (.int (iI (nowP D o (te D s)))), some (.int (iI (nowP D p (te D s)))), z8] [.int (iI (bI x))] m2 = mm_ev d 259 99 [some (.ref 316), some (.int (iI o)), some (.int (iI p)), some (.int (iI c)), some (.int (iI 1)), some (.int (iI s)), some (.int (iI (nowP D o (te D s)))), some (.int (iI (nowP D p (te D s)))), some (.int (iI (bI x)))] [.int (iI (bI (vwB D p (nowP D p (te D s))))), .int (iI (bI x))] m2 := by
        intro x
        rw [sg_259_80 (by omega)]
        unfold nowP vwB
        simp (disch := omega) only [shM h2.1, ↓reduceIte, not_false_eq_true, not_true_eq_false, and_self, and_true, true_and, reduceCtorEq, mm_q, Option.getD_some, cI_some, cJ_some, cV_some, cS_some, Nat.reduceLeDiff, Nat.reduceEqDiff, M211 h2 hI2]
        by_cases z : 0 < sightS D p (placeB D (sa D) (sa D 0) true p (te D s))
        · simp (disch := omega) only [↓reduceIte, not_false_eq_true, not_true_eq_false, and_self, and_true, true_and, false_and, and_false, or_true, true_or, or_false, false_or, or_self, reduceCtorEq, mm_q, Option.getD_some, cI_some, cJ_some, cV_some, cS_some, kd_sI, kd_sL, kd_sR, kd_cp, ln_sI, ln_sL, ln_sR, ln_cp, gR_sI, gR_sL, gR_sR, gR_cp, gL_sI, gL_sR, gL_cp, gI_sL, gI_sR, iI_add, iI_sub, iI_mul, iI_neg, iI_in, iI_tn, iI_lt, iI_eq, Nat.reduceLeDiff, Nat.reduceEqDiff, Nat.reduceAdd, Int.reduceEq, Int.reduceLT, Int.reduceLE, Int.reduceNeg, Int.reduceAdd, Int.reduceSub, Int.reduceMul, bI_t, bI_f, decide_true, decide_false, Bool.and_true, Bool.and_false, Bool.true_and, Bool.false_and, Bool.false_eq_true, Bool.and_self, Bool.not_true, Bool.not_false, z]
        · simp (disch := omega) only [↓reduceIte, not_false_eq_true, not_true_eq_false, and_self, and_true, true_and, false_and, and_false, or_true, true_or, or_false, false_or, or_self, reduceCtorEq, mm_q, Option.getD_some, cI_some, cJ_some, cV_some, cS_some, kd_sI, kd_sL, kd_sR, kd_cp, ln_sI, ln_sL, ln_sR, ln_cp, gR_sI, gR_sL, gR_sR, gR_cp, gL_sI, gL_sR, gL_cp, gI_sL, gI_sR, iI_add, iI_sub, iI_mul, iI_neg, iI_in, iI_tn, iI_lt, iI_eq, Nat.reduceLeDiff, Nat.reduceEqDiff, Nat.reduceAdd, Int.reduceEq, Int.reduceLT, Int.reduceLE, Int.reduceNeg, Int.reduceAdd, Int.reduceSub, Int.reduceMul, bI_t, bI_f, decide_true, decide_false, Bool.and_true, Bool.and_false, Bool.true_and, Bool.false_and, Bool.false_eq_true, Bool.and_self, Bool.not_true, Bool.not_false, z]
      have e63 : (if iI 0 < iI (sightS D o (placeB D (sa D) (sa D 0) true o (te D s))) then mm_ev d 259 80 [some (.ref 316), some (.int (iI o)), some (.int (iI p)), some (.int (iI c)), some (.int (iI 1)), some (.int (iI s)), some (.int (iI (nowP D o (te D s)))), some (.int (iI (nowP D p (te D s)))), z8] [.int (iI 1)] m2 else mm_ev d 259 80 [some (.ref 316), some (.int (iI o)), some (.int (iI p)), some (.int (iI c)), some (.int (iI 1)), some (.int (iI s)), some (.int (iI (nowP D o (te D s)))), some (.int (iI (nowP D p (te D s)))), z8] [.int (iI 0)] m2) = mm_ev d 259 80 [some (.ref 316), some (.int (iI o)), some (.int (iI p)), some (.int (iI c)), some (.int (iI 1)), some (.int (iI s)), some (.int (iI (nowP D o (te D s)))), some (.int (iI (nowP D p (te D s)))), z8] [.int (iI (bI (vwB D o (nowP D o (te D s)))))] m2 := by
        unfold vwB nowP
        by_cases z : 0 < sightS D o (placeB D (sa D) (sa D 0) true o (te D s))
        · simp (disch := omega) only [↓reduceIte, not_false_eq_true, not_true_eq_false, and_self, and_true, true_and, false_and, and_false, or_true, true_or, or_false, false_or, or_self, reduceCtorEq, mm_q, Option.getD_some, cI_some, cJ_some, cV_some, cS_some, kd_sI, kd_sL, kd_sR, kd_cp, ln_sI, ln_sL, ln_sR, ln_cp, gR_sI, gR_sL, gR_sR, gR_cp, gL_sI, gL_sR, gL_cp, gI_sL, gI_sR, iI_add, iI_sub, iI_mul, iI_neg, iI_in, iI_tn, iI_lt, iI_eq, Nat.reduceLeDiff, Nat.reduceEqDiff, Nat.reduceAdd, Int.reduceEq, Int.reduceLT, Int.reduceLE, Int.reduceNeg, Int.reduceAdd, Int.reduceSub, Int.reduceMul, bI_t, bI_f, decide_true, decide_false, Bool.and_true, Bool.and_false, Bool.true_and, Bool.false_and, Bool.false_eq_true, Bool.and_self, Bool.not_true, Bool.not_false, z]
        · simp (disch := omega) only [↓reduceIte, not_false_eq_true, not_true_eq_false, and_self, and_true, true_and, false_and, and_false, or_true, true_or, or_false, false_or, or_self, reduceCtorEq, mm_q, Option.getD_some, cI_some, cJ_some, cV_some, cS_some, kd_sI, kd_sL, kd_sR, kd_cp, ln_sI, ln_sL, ln_sR, ln_cp, gR_sI, gR_sL, gR_sR, gR_cp, gL_sI, gL_sR, gL_cp, gI_sL, gI_sR, iI_add, iI_sub, iI_mul, iI_neg, iI_in, iI_tn, iI_lt, iI_eq, Nat.reduceLeDiff, Nat.reduceEqDiff, Nat.reduceAdd, Int.reduceEq, Int.reduceLT, Int.reduceLE, Int.reduceNeg, Int.reduceAdd, Int.reduceSub, Int.reduceMul, bI_t, bI_f, decide_true, decide_false, Bool.and_true, Bool.and_false, Bool.true_and, Bool.false_and, Bool.false_eq_true, Bool.and_self, Bool.not_true, Bool.not_false, z]
      have e99 : ∃ z8', mm_ev d 259 99 [some (.ref 316), some (.int (iI o)), some (.int (iI p)), some (.int (iI c)), some (.int (iI 1)), some (.int (iI s)), some (.int (iI (nowP D o (te D s)))), some (.int (iI (nowP D p (te D s)))), some (.int (iI (bI (vwB D o (nowP D o (te D s))))))] [.int (iI (bI (vwB D p (nowP D p (te D s))))), .int (iI (bI (vwB D o (nowP D o (te D s)))))] m2 = mm_ev d 259 25 [some (.ref 316), some (.int (iI o)), some (.int (iI p)), some (.int (iI c)), some (.int (iI (bI (alike1 D o p c (te D s))))), some (.int (iI (s + 1))), some (.int (iI (nowP D o (te D s)))), some (.int (iI (nowP D p (te D s)))), z8'] [] m2 := by
        rw [sg_259_99]
        unfold alike1
        have g1 : -1 ≤ nowP D o (te D s) ∧ nowP D o (te D s) < st D 0 := pr
        have g2 : -1 ≤ nowP D p (te D s) ∧ nowP D p (te D s) < st D 0 := pr2
        cases x1 : vwB D o (nowP D o (te D s))
        · cases x2 : vwB D p (nowP D p (te D s))
          · exact ⟨some (.int (iI 0)), by simp (disch := omega) only [↓reduceIte, not_false_eq_true, not_true_eq_false, and_self, and_true, true_and, false_and, and_false, or_true, true_or, or_false, false_or, or_self, reduceCtorEq, mm_q, Option.getD_some, cI_some, cJ_some, cV_some, cS_some, kd_sI, kd_sL, kd_sR, kd_cp, ln_sI, ln_sL, ln_sR, ln_cp, gR_sI, gR_sL, gR_sR, gR_cp, gL_sI, gL_sR, gL_cp, gI_sL, gI_sR, iI_add, iI_sub, iI_mul, iI_neg, iI_in, iI_tn, iI_lt, iI_eq, Nat.reduceLeDiff, Nat.reduceEqDiff, Nat.reduceAdd, Int.reduceEq, Int.reduceLT, Int.reduceLE, Int.reduceNeg, Int.reduceAdd, Int.reduceSub, Int.reduceMul, bI_t, bI_f, decide_true, decide_false, Bool.and_true, Bool.and_false, Bool.true_and, Bool.false_and, Bool.false_eq_true, Bool.and_self, Bool.not_true, Bool.not_false, sg_259_125, sg_259_130, Bool.true_or]⟩
          · exact ⟨some (.int (iI 0)), by simp (disch := omega) only [↓reduceIte, not_false_eq_true, not_true_eq_false, and_self, and_true, true_and, false_and, and_false, or_true, true_or, or_false, false_or, or_self, reduceCtorEq, mm_q, Option.getD_some, cI_some, cJ_some, cV_some, cS_some, kd_sI, kd_sL, kd_sR, kd_cp, ln_sI, ln_sL, ln_sR, ln_cp, gR_sI, gR_sL, gR_sR, gR_cp, gL_sI, gL_sR, gL_cp, gI_sL, gI_sR, iI_add, iI_sub, iI_mul, iI_neg, iI_in, iI_tn, iI_lt, iI_eq, Nat.reduceLeDiff, Nat.reduceEqDiff, Nat.reduceAdd, Int.reduceEq, Int.reduceLT, Int.reduceLE, Int.reduceNeg, Int.reduceAdd, Int.reduceSub, Int.reduceMul, bI_t, bI_f, decide_true, decide_false, Bool.and_true, Bool.and_false, Bool.true_and, Bool.false_and, Bool.false_eq_true, Bool.and_self, Bool.not_true, Bool.not_false, sg_259_129, sg_259_130, show ¬ (false = true) by decide]⟩
        · cases x2 : vwB D p (nowP D p (te D s))
          · exact ⟨some (.int (iI 1)), by simp (disch := omega) only [↓reduceIte, not_false_eq_true, not_true_eq_false, and_self, and_true, true_and, false_and, and_false, or_true, true_or, or_false, false_or, or_self, reduceCtorEq, mm_q, Option.getD_some, cI_some, cJ_some, cV_some, cS_some, kd_sI, kd_sL, kd_sR, kd_cp, ln_sI, ln_sL, ln_sR, ln_cp, gR_sI, gR_sL, gR_sR, gR_cp, gL_sI, gL_sR, gL_cp, gI_sL, gI_sR, iI_add, iI_sub, iI_mul, iI_neg, iI_in, iI_tn, iI_lt, iI_eq, Nat.reduceLeDiff, Nat.reduceEqDiff, Nat.reduceAdd, Int.reduceEq, Int.reduceLT, Int.reduceLE, Int.reduceNeg, Int.reduceAdd, Int.reduceSub, Int.reduceMul, bI_t, bI_f, decide_true, decide_false, Bool.and_true, Bool.and_false, Bool.true_and, Bool.false_and, Bool.false_eq_true, Bool.and_self, Bool.not_true, Bool.not_false, sg_259_129, sg_259_130, show ¬ (true = false) by decide]⟩
          · by_cases y1 : c < nowP D o (te D s) - nowP D p (te D s)
            · exact ⟨some (.int (iI 1)), by simp (disch := omega) only [↓reduceIte, not_false_eq_true, not_true_eq_false, and_self, and_true, true_and, false_and, and_false, or_true, true_or, or_false, false_or, or_self, reduceCtorEq, mm_q, Option.getD_some, cI_some, cJ_some, cV_some, cS_some, kd_sI, kd_sL, kd_sR, kd_cp, ln_sI, ln_sL, ln_sR, ln_cp, gR_sI, gR_sL, gR_sR, gR_cp, gL_sI, gL_sR, gL_cp, gI_sL, gI_sR, iI_add, iI_sub, iI_mul, iI_neg, iI_in, iI_tn, iI_lt, iI_eq, Nat.reduceLeDiff, Nat.reduceEqDiff, Nat.reduceAdd, Int.reduceEq, Int.reduceLT, Int.reduceLE, Int.reduceNeg, Int.reduceAdd, Int.reduceSub, Int.reduceMul, bI_t, bI_f, decide_true, decide_false, Bool.and_true, Bool.and_false, Bool.true_and, Bool.false_and, Bool.false_eq_true, Bool.and_self, Bool.not_true, Bool.not_false, sg_259_129, sg_259_130, Bool.false_or, y1, show ¬ nowP D o (te D s) - nowP D p (te D s) ≤ c by omega]⟩
            · by_cases y2 : c < nowP D p (te D s) - nowP D o (te D s)
              · exact ⟨some (.int (iI 1)), by simp (disch := omega) only [↓reduceIte, not_false_eq_true, not_true_eq_false, and_self, and_true, true_and, false_and, and_false, or_true, true_or, or_false, false_or, or_self, reduceCtorEq, mm_q, Option.getD_some, cI_some, cJ_some, cV_some, cS_some, kd_sI, kd_sL, kd_sR, kd_cp, ln_sI, ln_sL, ln_sR, ln_cp, gR_sI, gR_sL, gR_sR, gR_cp, gL_sI, gL_sR, gL_cp, gI_sL, gI_sR, iI_add, iI_sub, iI_mul, iI_neg, iI_in, iI_tn, iI_lt, iI_eq, Nat.reduceLeDiff, Nat.reduceEqDiff, Nat.reduceAdd, Int.reduceEq, Int.reduceLT, Int.reduceLE, Int.reduceNeg, Int.reduceAdd, Int.reduceSub, Int.reduceMul, bI_t, bI_f, decide_true, decide_false, Bool.and_true, Bool.and_false, Bool.true_and, Bool.false_and, Bool.false_eq_true, Bool.and_self, Bool.not_true, Bool.not_false, sg_259_129, sg_259_130, Bool.false_or, y1, y2, show ¬ nowP D p (te D s) - nowP D o (te D s) ≤ c by omega]⟩
              · exact ⟨some (.int (iI 1)), by simp (disch := omega) only [↓reduceIte, not_false_eq_true, not_true_eq_false, and_self, and_true, true_and, false_and, and_false, or_true, true_or, or_false, false_or, or_self, reduceCtorEq, mm_q, Option.getD_some, cI_some, cJ_some, cV_some, cS_some, kd_sI, kd_sL, kd_sR, kd_cp, ln_sI, ln_sL, ln_sR, ln_cp, gR_sI, gR_sL, gR_sR, gR_cp, gL_sI, gL_sR, gL_cp, gI_sL, gI_sR, iI_add, iI_sub, iI_mul, iI_neg, iI_in, iI_tn, iI_lt, iI_eq, Nat.reduceLeDiff, Nat.reduceEqDiff, Nat.reduceAdd, Int.reduceEq, Int.reduceLT, Int.reduceLE, Int.reduceNeg, Int.reduceAdd, Int.reduceSub, Int.reduceMul, bI_t, bI_f, decide_true, decide_false, Bool.and_true, Bool.and_false, Bool.true_and, Bool.false_and, Bool.false_eq_true, Bool.and_self, Bool.not_true, Bool.not_false, sg_259_125, sg_259_130, Bool.false_or, y1, y2, show nowP D p (te D s) - nowP D o (te D s) ≤ c by omega, show nowP D o (te D s) - nowP D p (te D s) ≤ c by omega]⟩
      obtain ⟨z8', e99⟩ := e99
      obtain ⟨m', e3, f3⟩ := ih (alike1 D o p c (te D s)) (some (.int (iI (nowP D o (te D s))))) (some (.int (iI (nowP D p (te D s))))) z8'
      refine ⟨m', ?_, (f0.tr f1).tr f3⟩
      refine Eq.trans ?_ e3
      exact e63.trans ((e80 _).trans e99)
end
