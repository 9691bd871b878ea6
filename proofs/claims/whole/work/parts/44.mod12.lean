def bitGo (x : Int32) : Nat → Int → Int32 → Int32
  | 0, _, n => n
  | k + 1, i, n => bitGo x k (i + 1) (n + (iShr x (iI i) &&& iI 1))
def bitsS (x : Int32) : Int32 := bitGo x 30 0 (iI 0)
def hasW (x w : Int) : Bool := decide ((iShr (iI x) (iI w) &&& iI 1) = iI 1)
def seenN (D : Nat → Nat → Int32) (set s : Int) : Int := cntGo (fun w => hasW set w && framedS D (nowP D w (te D s))) (st D 6).toNat 0 0
def enoughS (D : Nat → Nat → Int32) (set many : Int) : Bool := allB (fun s => decide (many ≤ seenN D set s)) (st D 5).toNat 0
def fewer (set best : Int) : Bool := decide (best < 0) || decide (bitsS (iI set) < bitsS (iI best))
def fullGo (D : Nat → Nat → Int32) (many : Int) : Nat → Int → Int → Int
  | 0, _, b => b
  | k + 1, s, b => fullGo D many k (s + 1) (if (fewer s b && enoughS D s many) = true then s else b)
def fullS (D : Nat → Nat → Int32) (many : Int) : Int := if inB many 0 8 = true then fullGo D many (2 ^ (st D 6).toNat) 0 (-1) else -1
def secS (D : Nat → Nat → Int32) (set : Int) : Int := sumGo (fun w => if hasW set w = true then 1 + wk D w 1 else 0) (st D 6).toNat 0 0
def worS (D : Nat → Nat → Int32) (set : Int) : Int := sumGo (fun w => if hasW set w = true then jumpS D w 0 0 (sa D 0) 0 else 0) (st D 6).toNat 0 0
def noteGo (D : Nat → Nat → Int32) (sec : Int) : Nat → Int → Int → Int → Int
  | 0, _, b, _ => b
  | k + 1, s, b, v => if secS D s ≤ sec ∧ v < worS D s then noteGo D sec k (s + 1) s (worS D s) else noteGo D sec k (s + 1) b v
def notesS (D : Nat → Nat → Int32) (sec : Int) : Int := if inB sec 0 30 = true then (if st D 5 = 0 then -1 else noteGo D sec (2 ^ (st D 6).toNat - 1) 1 0 0) else -1
section
variable {D : Nat → Nat → Int32} {E : Nat → Nat → Int64} {m m' : mm_M} {d : Nat}
theorem shl_p {w : Int} (w0 : 0 ≤ w) (w1 : w ≤ 8) : iShl (iI 1) (iI w) = iI ((2 ^ w.toNat : Nat) : Int) := by
  have : w = 0 ∨ w = 1 ∨ w = 2 ∨ w = 3 ∨ w = 4 ∨ w = 5 ∨ w = 6 ∨ w = 7 ∨ w = 8 := by omega
  rcases this with rfl | rfl | rfl | rfl | rfl | rfl | rfl | rfl | rfl <;> decide
theorem pow_r {w : Int} (w1 : w ≤ 8) : 1 ≤ 2 ^ w.toNat ∧ 2 ^ w.toNat ≤ 256 := by
  have h : w.toNat ≤ 8 := by omega
  constructor
  · exact Nat.one_le_two_pow
  · exact Nat.pow_le_pow_right (by omega) h
theorem M245L {x : Int32} : ∀ (k : Nat) (i : Int) (n : Int32), i = 30 - k → 0 ≤ i → mm_ev d 245 4 [some (.int x), some (.int n), some (.int (iI (i)))] [] m = some (some (some (.int (bitGo x k i n))), m)
  | 0, i, n, hi, _ => by
    rw [sg_245_4]
    unfold bitGo
    simp (disch := omega) only [↓reduceIte, not_false_eq_true, not_true_eq_false, and_self, and_true, true_and, false_and, and_false, or_true, true_or, or_false, false_or, or_self, reduceCtorEq, mm_q, Option.getD_some, cI_some, cJ_some, cV_some, cS_some, kd_sI, kd_sL, kd_sR, kd_cp, ln_sI, ln_sL, ln_sR, ln_cp, gR_sI, gR_sL, gR_sR, gR_cp, gL_sI, gL_sR, gL_cp, gI_sL, gI_sR, iI_add, iI_sub, iI_mul, iI_neg, iI_in, iI_tn, iI_lt, iI_eq, Nat.reduceLeDiff, Nat.reduceEqDiff, Nat.reduceAdd, Int.reduceEq, Int.reduceLT, Int.reduceLE, Int.reduceNeg, Int.reduceAdd, Int.reduceSub, Int.reduceMul, show ¬ i < 30 by omega]
  | k + 1, i, n, hi, i0 => by
    have ih := M245L (x := x) k (i + 1) (n + (iShr x (iI i) &&& iI 1)) (by omega) (by omega)
    rw [sg_245_4]
    unfold bitGo
    simp (disch := omega) only [↓reduceIte, not_false_eq_true, not_true_eq_false, and_self, and_true, true_and, false_and, and_false, or_true, true_or, or_false, false_or, or_self, reduceCtorEq, mm_q, Option.getD_some, cI_some, cJ_some, cV_some, cS_some, kd_sI, kd_sL, kd_sR, kd_cp, ln_sI, ln_sL, ln_sR, ln_cp, gR_sI, gR_sL, gR_sR, gR_cp, gL_sI, gL_sR, gL_cp, gI_sL, gI_sR, iI_add, iI_sub, iI_mul, iI_neg, iI_in, iI_tn, iI_lt, iI_eq, Nat.reduceLeDiff, Nat.reduceEqDiff, Nat.reduceAdd, Int.reduceEq, Int.reduceLT, Int.reduceLE, Int.reduceNeg, Int.reduceAdd, Int.reduceSub, Int.reduceMul, show i < 30 by omega]
    exact ih
theorem M245 {x : Int32} : mm_ev d 245 0 [some (.int x), none, none] [] m = some (some (some (.int (bitsS x))), m) := by
  rw [sg_245_0]
  exact M245L 30 0 (iI 0) (by omega) (by omega)
/-- full's inner loop -/
theorem M252I (hI : InvS D) (hL : InvL D) (hIB : InvB D (sa D)) (hd : 7 ≤ d) {many set s : Int} {b l4 : Int32} (y0 : 0 ≤ many) (y1 : many ≤ 8) (s0 : 0 ≤ s) (s1 : s < st D 5) : ∀ (k : Nat) (w n : Int) (m : mm_M), w = st D 6 - k → 0 ≤ w → 0 ≤ n → n ≤ w → MD D E m → ∃ m', mm_ev d 252 74 [some (.ref 316), some (.int (iI (many))), some (.int b), some (.int (iI (set))), some (.int l4), some (.int (iI (s))), some (.int (iI (n))), some (.int (iI (w)))] [] m = mm_ev d 252 141 [some (.ref 316), some (.int (iI (many))), some (.int b), some (.int (iI (set))), some (.int l4), some (.int (iI (s))), some (.int (iI (cntGo (fun w => hasW set w && framedS D (nowP D w (te D s))) k w n))), some (.int (iI (st D 6)))] [.int (iI (bI (decide (many ≤ cntGo (fun w => hasW set w && framedS D (nowP D w (te D s))) k w n))))] m' ∧ Fr scL m m'
  | 0, w, n, m, he, w0, n0, n1, h => by
    obtain ⟨k0, k1⟩ := hI.2.2.2.2.2.1
    refine ⟨m, ?_, Fr.rf⟩
    rw [sg_252_74 (by omega)]
    simp (disch := omega) only [shM h.1, ↓reduceIte, not_false_eq_true, not_true_eq_false, and_self, and_true, true_and, reduceCtorEq, mm_q, Option.getD_some, cI_some, cJ_some, cV_some, cS_some, Nat.reduceLeDiff, Nat.reduceEqDiff, M201 h]
    rw [sg_252_80 (by omega), show w = st D 6 by omega]
    unfold cntGo
    by_cases z : many ≤ n
    · simp (disch := omega) only [↓reduceIte, not_false_eq_true, not_true_eq_false, and_self, and_true, true_and, false_and, and_false, or_true, true_or, or_false, false_or, or_self, reduceCtorEq, mm_q, Option.getD_some, cI_some, cJ_some, cV_some, cS_some, kd_sI, kd_sL, kd_sR, kd_cp, ln_sI, ln_sL, ln_sR, ln_cp, gR_sI, gR_sL, gR_sR, gR_cp, gL_sI, gL_sR, gL_cp, gI_sL, gI_sR, iI_add, iI_sub, iI_mul, iI_neg, iI_in, iI_tn, iI_lt, iI_eq, Nat.reduceLeDiff, Nat.reduceEqDiff, Nat.reduceAdd, Int.reduceEq, Int.reduceLT, Int.reduceLE, Int.reduceNeg, Int.reduceAdd, Int.reduceSub, Int.reduceMul, bI_t, bI_f, decide_true, decide_false, Bool.and_true, Bool.and_false, Bool.true_and, Bool.false_and, Bool.false_eq_true, Bool.and_self, Bool.not_true, Bool.not_false, Int.lt_irrefl, z, show ¬ n < many by omega]
    · simp (disch := omega) only [↓reduceIte, not_false_eq_true, not_true_eq_false, and_self, and_true, true_and, false_and, and_false, or_true, true_or, or_false, false_or, or_self, reduceCtorEq, mm_q, Option.getD_some, cI_some, cJ_some, cV_some, cS_some, kd_sI, kd_sL, kd_sR, kd_cp, ln_sI, ln_sL, ln_sR, ln_cp, gR_sI, gR_sL, gR_sR, gR_cp, gL_sI, gL_sR, gL_cp, gI_sL, gI_sR, iI_add, iI_sub, iI_mul, iI_neg, iI_in, iI_tn, iI_lt, iI_eq, Nat.reduceLeDiff, Nat.reduceEqDiff, Nat.reduceAdd, Int.reduceEq, Int.reduceLT, Int.reduceLE, Int.reduceNeg, Int.reduceAdd, Int.reduceSub, Int.reduceMul, bI_t, bI_f, decide_true, decide_false, Bool.and_true, Bool.and_false, Bool.true_and, Bool.false_and, Bool.false_eq_true, Bool.and_self, Bool.not_true, Bool.not_false, Int.lt_irrefl, z, show n < many by omega]
  | k + 1, w, n, m, he, w0, n0, n1, h => by
    obtain ⟨k0, k1⟩ := hI.2.2.2.2.2.1
    obtain ⟨c0, c1⟩ := hI.1
    obtain ⟨v0, v1⟩ := hI.2.2.2.2.1
    obtain ⟨t0, t1⟩ := hI.2.2.2.2.2.2.2.2.1 s s0 s1
    have w1 : w < st D 6 := by omega
    rw [sg_252_74 (by omega)]
    simp (disch := omega) only [shM h.1, ↓reduceIte, not_false_eq_true, not_true_eq_false, and_self, and_true, true_and, reduceCtorEq, mm_q, Option.getD_some, cI_some, cJ_some, cV_some, cS_some, Nat.reduceLeDiff, Nat.reduceEqDiff, M201 h]
    rw [sg_252_80 (by omega)]
    unfold cntGo
    by_cases z1 : (iShr (iI set) (iI w) &&& iI 1) = iI 1
    · have z2 : hasW set w = true := by unfold hasW; exact decide_eq_true z1
      obtain ⟨m1, e1, f1⟩ := M234 (d := d - 1) h hI hL hIB (by omega) w0 w1 t0 t1
      have h1 := h.frL f1
      have pr := placeB_r hI hIB (take := sa D 0) (tenth := te D s) (late := true) w0 w1
      have q := sight_f hI (w := w) (c := placeB D (sa D) (sa D 0) true w (te D s))
      have sr := sightS_r (D := D) (w := w) (c := placeB D (sa D) (sa D 0) true w (te D s))
      rw [if_pos (by rw [iI_lt] <;> omega), if_pos z1]
      simp (disch := omega) only [shM h.1, ↓reduceIte, not_false_eq_true, not_true_eq_false, and_self, and_true, true_and, reduceCtorEq, mm_q, Option.getD_some, cI_some, cJ_some, cV_some, cS_some, Nat.reduceLeDiff, Nat.reduceEqDiff, M210 h]
      rw [sg_252_107 (by omega)]
      simp (disch := omega) only [shM h.1, ↓reduceIte, not_false_eq_true, not_true_eq_false, and_self, and_true, true_and, reduceCtorEq, mm_q, Option.getD_some, cI_some, cJ_some, cV_some, cS_some, Nat.reduceLeDiff, Nat.reduceEqDiff, e1]
      rw [sg_252_110 (by omega)]
      simp (disch := omega) only [shM h1.1, ↓reduceIte, not_false_eq_true, not_true_eq_false, and_self, and_true, true_and, reduceCtorEq, mm_q, Option.getD_some, cI_some, cJ_some, cV_some, cS_some, Nat.reduceLeDiff, Nat.reduceEqDiff, M211 h1 hI]
      cases z3 : framedS D (nowP D w (te D s))
      · have z4 : ¬ 0 < sightS D w (placeB D (sa D) (sa D 0) true w (te D s)) := fun x => by
          rw [show framedS D (placeB D (sa D) (sa D 0) true w (te D s)) = false from z3] at q
          exact absurd (q.mp x) (by decide)
        obtain ⟨m', e2, f2⟩ := M252I hI hL hIB hd (set := set) (b := b) (l4 := l4) y0 y1 s0 s1 k (w + 1) n m1 (by omega) (by omega) n0 (by omega) h1
        refine ⟨m', ?_, f1.tr f2⟩
        simp (disch := omega) only [↓reduceIte, not_false_eq_true, not_true_eq_false, and_self, and_true, true_and, false_and, and_false, or_true, true_or, or_false, false_or, or_self, reduceCtorEq, mm_q, Option.getD_some, cI_some, cJ_some, cV_some, cS_some, kd_sI, kd_sL, kd_sR, kd_cp, ln_sI, ln_sL, ln_sR, ln_cp, gR_sI, gR_sL, gR_sR, gR_cp, gL_sI, gL_sR, gL_cp, gI_sL, gI_sR, iI_add, iI_sub, iI_mul, iI_neg, iI_in, iI_tn, iI_lt, iI_eq, Nat.reduceLeDiff, Nat.reduceEqDiff, Nat.reduceAdd, Int.reduceEq, Int.reduceLT, Int.reduceLE, Int.reduceNeg, Int.reduceAdd, Int.reduceSub, Int.reduceMul, bI_t, bI_f, decide_true, decide_false, Bool.and_true, Bool.and_false, Bool.true_and, Bool.false_and, Bool.false_eq_true, Bool.and_self, Bool.not_true, Bool.not_false, z2, z3, z4, sg_252_120, sg_252_121]
        rw [show n + 0 = n by omega]
        exact e2
      · have z4 : 0 < sightS D w (placeB D (sa D) (sa D 0) true w (te D s)) := q.mpr z3
        obtain ⟨m', e2, f2⟩ := M252I hI hL hIB hd (set := set) (b := b) (l4 := l4) y0 y1 s0 s1 k (w + 1) (n + 1) m1 (by omega) (by omega) (by omega) (by omega) h1
        refine ⟨m', ?_, f1.tr f2⟩
        simp (disch := omega) only [↓reduceIte, not_false_eq_true, not_true_eq_false, and_self, and_true, true_and, false_and, and_false, or_true, true_or, or_false, false_or, or_self, reduceCtorEq, mm_q, Option.getD_some, cI_some, cJ_some, cV_some, cS_some, kd_sI, kd_sL, kd_sR, kd_cp, ln_sI, ln_sL, ln_sR, ln_cp, gR_sI, gR_sL, gR_sR, gR_cp, gL_sI, gL_sR, gL_cp, gI_sL, gI_sR, iI_add, iI_sub, iI_mul, iI_neg, iI_in, iI_tn, iI_lt, iI_eq, Nat.reduceLeDiff, Nat.reduceEqDiff, Nat.reduceAdd, Int.reduceEq, Int.reduceLT, Int.reduceLE, Int.reduceNeg, Int.reduceAdd, Int.reduceSub, Int.reduceMul, bI_t, bI_f, decide_true, decide_false, Bool.and_true, Bool.and_false, Bool.true_and, Bool.false_and, Bool.false_eq_true, Bool.and_self, Bool.not_true, Bool.not_false, z2, z3, z4, sg_252_120, sg_252_121]
        exact e2
    · have z2 : hasW set w = false := by unfold hasW; exact decide_eq_false z1
      obtain ⟨m', e2, f2⟩ := M252I hI hL hIB hd (set := set) (b := b) (l4 := l4) y0 y1 s0 s1 k (w + 1) n m (by omega) (by omega) n0 (by omega) h
      refine ⟨m', ?_, f2⟩
      rw [if_pos (by rw [iI_lt] <;> omega), if_neg z1]
      simp (disch := omega) only [↓reduceIte, not_false_eq_true, not_true_eq_false, and_self, and_true, true_and, false_and, and_false, or_true, true_or, or_false, false_or, or_self, reduceCtorEq, mm_q, Option.getD_some, cI_some, cJ_some, cV_some, cS_some, kd_sI, kd_sL, kd_sR, kd_cp, ln_sI, ln_sL, ln_sR, ln_cp, gR_sI, gR_sL, gR_sR, gR_cp, gL_sI, gL_sR, gL_cp, gI_sL, gI_sR, iI_add, iI_sub, iI_mul, iI_neg, iI_in, iI_tn, iI_lt, iI_eq, Nat.reduceLeDiff, Nat.reduceEqDiff, Nat.reduceAdd, Int.reduceEq, Int.reduceLT, Int.reduceLE, Int.reduceNeg, Int.reduceAdd, Int.reduceSub, Int.reduceMul, bI_t, bI_f, decide_true, decide_false, Bool.and_true, Bool.and_false, Bool.true_and, Bool.false_and, Bool.false_eq_true, Bool.and_self, Bool.not_true, Bool.not_false, z2, sg_252_120, sg_252_121]
      rw [show n + 0 = n by omega]
      exact e2
/-- full's middle loop -/
theorem M252M (hI : InvS D) (hL : InvL D) (hIB : InvB D (sa D)) (hd : 7 ≤ d) {many set : Int} {b : Int32} (y0 : 0 ≤ many) (y1 : many ≤ 8) : ∀ (k : Nat) (s : Int) (is : Bool) (z6 z7 : Option Value) (m : mm_M), s = st D 5 - k → 0 ≤ s → MD D E m → ∃ m' x5 z6' z7', mm_ev d 252 54 [some (.ref 316), some (.int (iI (many))), some (.int b), some (.int (iI (set))), some (.int (iI (bI is))), some (.int (iI (s))), z6, z7] [] m = mm_ev d 252 149 [some (.ref 316), some (.int (iI (many))), some (.int b), some (.int (iI (set))), some (.int (iI (bI (is && allB (fun s => decide (many ≤ seenN D set s)) k s)))), some (.int x5), z6', z7'] [] m' ∧ Fr scL m m'
  | 0, s, is, z6, z7, m, he, s0, h => by
    obtain ⟨v0, v1⟩ := hI.2.2.2.2.1
    refine ⟨m, iI s, z6, z7, ?_, Fr.rf⟩
    rw [sg_252_54 (by omega)]
    unfold allB
    simp (disch := omega) only [shM h.1, ↓reduceIte, not_false_eq_true, not_true_eq_false, and_self, and_true, true_and, false_and, and_false, or_true, true_or, or_false, false_or, or_self, reduceCtorEq, mm_q, Option.getD_some, cI_some, cJ_some, cV_some, cS_some, kd_sI, kd_sL, kd_sR, kd_cp, ln_sI, ln_sL, ln_sR, ln_cp, gR_sI, gR_sL, gR_sR, gR_cp, gL_sI, gL_sR, gL_cp, gI_sL, gI_sR, iI_add, iI_sub, iI_mul, iI_neg, iI_in, iI_tn, iI_lt, iI_eq, Nat.reduceLeDiff, Nat.reduceEqDiff, Nat.reduceAdd, Int.reduceEq, Int.reduceLT, Int.reduceLE, Int.reduceNeg, Int.reduceAdd, Int.reduceSub, Int.reduceMul, M216 h, show ¬ s < st D 5 by omega, Bool.and_true]
  | k + 1, s, is, z6, z7, m, he, s0, h => by
    obtain ⟨v0, v1⟩ := hI.2.2.2.2.1
    obtain ⟨k0, k1⟩ := hI.2.2.2.2.2.1
    have s1 : s < st D 5 := by omega
    rw [sg_252_54 (by omega)]
    unfold allB
    cases is with
    | false =>
      refine ⟨m, iI s, z6, z7, ?_, Fr.rf⟩
      simp (disch := omega) only [shM h.1, ↓reduceIte, not_false_eq_true, not_true_eq_false, and_self, and_true, true_and, false_and, and_false, or_true, true_or, or_false, false_or, or_self, reduceCtorEq, mm_q, Option.getD_some, cI_some, cJ_some, cV_some, cS_some, kd_sI, kd_sL, kd_sR, kd_cp, ln_sI, ln_sL, ln_sR, ln_cp, gR_sI, gR_sL, gR_sR, gR_cp, gL_sI, gL_sR, gL_cp, gI_sL, gI_sR, iI_add, iI_sub, iI_mul, iI_neg, iI_in, iI_tn, iI_lt, iI_eq, Nat.reduceLeDiff, Nat.reduceEqDiff, Nat.reduceAdd, Int.reduceEq, Int.reduceLT, Int.reduceLE, Int.reduceNeg, Int.reduceAdd, Int.reduceSub, Int.reduceMul, M216 h, s1, bI_t, bI_f, decide_true, decide_false, Bool.and_true, Bool.and_false, Bool.true_and, Bool.false_and, Bool.false_eq_true, Bool.and_self, Bool.not_true, Bool.not_false]
    | true =>
      obtain ⟨m1, e1, f1⟩ := M252I hI hL hIB hd (set := set) (b := b) (l4 := iI 1) y0 y1 s0 s1 (st D 6).toNat 0 0 m (by omega) (by omega) (by omega) (by omega) h
      obtain ⟨m', x5, z6', z7', e2, f2⟩ := M252M hI hL hIB hd (set := set) (b := b) y0 y1 k (s + 1) (decide (many ≤ seenN D set s)) (some (.int (iI (seenN D set s)))) (some (.int (iI (st D 6)))) m1 (by omega) (by omega) (h.frL f1)
      refine ⟨m', x5, z6', z7', ?_, f1.tr f2⟩
      rw [Bool.true_and, ← e2]
      simp (disch := omega) only [shM h.1, ↓reduceIte, not_false_eq_true, not_true_eq_false, and_self, and_true, true_and, false_and, and_false, or_true, true_or, or_false, false_or, or_self, reduceCtorEq, mm_q, Option.getD_some, cI_some, cJ_some, cV_some, cS_some, kd_sI, kd_sL, kd_sR, kd_cp, ln_sI, ln_sL, ln_sR, ln_cp, gR_sI, gR_sL, gR_sR, gR_cp, gL_sI, gL_sR, gL_cp, gI_sL, gI_sR, iI_add, iI_sub, iI_mul, iI_neg, iI_in, iI_tn, iI_lt, iI_eq, Nat.reduceLeDiff, Nat.reduceEqDiff, Nat.reduceAdd, Int.reduceEq, Int.reduceLT, Int.reduceLE, Int.reduceNeg, Int.reduceAdd, Int.reduceSub, Int.reduceMul, M216 h, s1, bI_t, bI_f, decide_true, decide_false, Bool.and_true, Bool.and_false, Bool.true_and, Bool.false_and, Bool.false_eq_true, Bool.and_self, Bool.not_true, Bool.not_false, e1, sg_252_141]
      rfl
/-- full's outer loop -/
theorem M252L (hI : InvS D) (hL : InvL D) (hIB : InvB D (sa D)) (hd : 7 ≤ d) {many : Int} (y0 : 0 ≤ many) (y1 : many ≤ 8) : ∀ (k : Nat) (s b : Int) (z4 z5 z6 z7 : Option Value) (m : mm_M), s = ((2 ^ (st D 6).toNat : Nat) : Int) - k → 0 ≤ s → -1 ≤ b → b ≤ 256 → MD D E m → ∃ m', mm_ev d 252 9 [some (.ref 316), some (.int (iI (many))), some (.int (iI (b))), some (.int (iI (s))), z4, z5, z6, z7] [] m = some (some (some (.int (iI (fullGo D many k s b)))), m') ∧ Fr scL m m'
  | 0, s, b, z4, z5, z6, z7, m, he, s0, b0, b1, h => by
    obtain ⟨k0, k1⟩ := hI.2.2.2.2.2.1
    have pw := pow_r k1
    refine ⟨m, ?_, Fr.rf⟩
    rw [sg_252_9 (by omega)]
    simp (disch := omega) only [shM h.1, ↓reduceIte, not_false_eq_true, not_true_eq_false, and_self, and_true, true_and, reduceCtorEq, mm_q, Option.getD_some, cI_some, cJ_some, cV_some, cS_some, Nat.reduceLeDiff, Nat.reduceEqDiff, M201 h]
    rw [sg_252_15 (by omega)]
    unfold fullGo
    rw [shl_p k0 k1]
    simp (disch := omega) only [↓reduceIte, not_false_eq_true, not_true_eq_false, and_self, and_true, true_and, false_and, and_false, or_true, true_or, or_false, false_or, or_self, reduceCtorEq, mm_q, Option.getD_some, cI_some, cJ_some, cV_some, cS_some, kd_sI, kd_sL, kd_sR, kd_cp, ln_sI, ln_sL, ln_sR, ln_cp, gR_sI, gR_sL, gR_sR, gR_cp, gL_sI, gL_sR, gL_cp, gI_sL, gI_sR, iI_add, iI_sub, iI_mul, iI_neg, iI_in, iI_tn, iI_lt, iI_eq, Nat.reduceLeDiff, Nat.reduceEqDiff, Nat.reduceAdd, Int.reduceEq, Int.reduceLT, Int.reduceLE, Int.reduceNeg, Int.reduceAdd, Int.reduceSub, Int.reduceMul, show ¬ s < ((2 ^ (st D 6).toNat : Nat) : Int) by omega]
  | k + 1, s, b, z4, z5, z6, z7, m, he, s0, b0, b1, h => by
    obtain ⟨k0, k1⟩ := hI.2.2.2.2.2.1
    obtain ⟨v0, v1⟩ := hI.2.2.2.2.1
    have pw := pow_r k1
    rw [sg_252_9 (by omega)]
    simp (disch := omega) only [shM h.1, ↓reduceIte, not_false_eq_true, not_true_eq_false, and_self, and_true, true_and, reduceCtorEq, mm_q, Option.getD_some, cI_some, cJ_some, cV_some, cS_some, Nat.reduceLeDiff, Nat.reduceEqDiff, M201 h]
    rw [sg_252_15 (by omega), shl_p k0 k1]
    have i8 : inB many 0 8 = true := inB_t.mpr ⟨y0, y1⟩
    simp (disch := omega) only [↓reduceIte, not_false_eq_true, not_true_eq_false, and_self, and_true, true_and, false_and, and_false, or_true, true_or, or_false, false_or, or_self, reduceCtorEq, mm_q, Option.getD_some, cI_some, cJ_some, cV_some, cS_some, kd_sI, kd_sL, kd_sR, kd_cp, ln_sI, ln_sL, ln_sR, ln_cp, gR_sI, gR_sL, gR_sR, gR_cp, gL_sI, gL_sR, gL_cp, gI_sL, gI_sR, iI_add, iI_sub, iI_mul, iI_neg, iI_in, iI_tn, iI_lt, iI_eq, Nat.reduceLeDiff, Nat.reduceEqDiff, Nat.reduceAdd, Int.reduceEq, Int.reduceLT, Int.reduceLE, Int.reduceNeg, Int.reduceAdd, Int.reduceSub, Int.reduceMul, show s < ((2 ^ (st D 6).toNat : Nat) : Int) by omega, M188', i8, bI_t, bI_f, decide_true, decide_false, Bool.and_true, Bool.and_false, Bool.true_and, Bool.false_and, Bool.false_eq_true, Bool.and_self, Bool.not_true, Bool.not_false]
    have key : mm_ev d 252 26 [some (.ref 316), some (.int (iI (many))), some (.int (iI (b))), some (.int (iI (s))), z4, z5, z6, z7] [.int (iI 1)] m = mm_ev d 252 54 [some (.ref 316), some (.int (iI (many))), some (.int (iI (b))), some (.int (iI (s))), some (.int (iI (bI (fewer s b)))), some (.int (iI (0))), z6, z7] [] m := by
      rw [sg_252_26 (by omega)]
      unfold fewer
      by_cases z : b < 0
      · simp (disch := omega) only [↓reduceIte, not_false_eq_true, not_true_eq_false, and_self, and_true, true_and, false_and, and_false, or_true, true_or, or_false, false_or, or_self, reduceCtorEq, mm_q, Option.getD_some, cI_some, cJ_some, cV_some, cS_some, kd_sI, kd_sL, kd_sR, kd_cp, ln_sI, ln_sL, ln_sR, ln_cp, gR_sI, gR_sL, gR_sR, gR_cp, gL_sI, gL_sR, gL_cp, gI_sL, gI_sR, iI_add, iI_sub, iI_mul, iI_neg, iI_in, iI_tn, iI_lt, iI_eq, Nat.reduceLeDiff, Nat.reduceEqDiff, Nat.reduceAdd, Int.reduceEq, Int.reduceLT, Int.reduceLE, Int.reduceNeg, Int.reduceAdd, Int.reduceSub, Int.reduceMul, bI_t, bI_f, decide_true, decide_false, Bool.and_true, Bool.and_false, Bool.true_and, Bool.false_and, Bool.false_eq_true, Bool.and_self, Bool.not_true, Bool.not_false, z, sg_252_44, sg_252_49, Bool.true_or]
      · simp (disch := omega) only [↓reduceIte, not_false_eq_true, not_true_eq_false, and_self, and_true, true_and, false_and, and_false, or_true, true_or, or_false, false_or, or_self, reduceCtorEq, mm_q, Option.getD_some, cI_some, cJ_some, cV_some, cS_some, kd_sI, kd_sL, kd_sR, kd_cp, ln_sI, ln_sL, ln_sR, ln_cp, gR_sI, gR_sL, gR_sR, gR_cp, gL_sI, gL_sR, gL_cp, gI_sL, gI_sR, iI_add, iI_sub, iI_mul, iI_neg, iI_in, iI_tn, iI_lt, iI_eq, Nat.reduceLeDiff, Nat.reduceEqDiff, Nat.reduceAdd, Int.reduceEq, Int.reduceLT, Int.reduceLE, Int.reduceNeg, Int.reduceAdd, Int.reduceSub, Int.reduceMul, bI_t, bI_f, decide_true, decide_false, Bool.and_true, Bool.and_false, Bool.true_and, Bool.false_and, Bool.false_eq_true, Bool.and_self, Bool.not_true, Bool.not_false, z, M245, Bool.false_or]
        rw [sg_252_37 (by omega)]
        simp (disch := omega) only [↓reduceIte, not_false_eq_true, not_true_eq_false, and_self, and_true, true_and, reduceCtorEq, mm_q, Option.getD_some, cI_some, cJ_some, cV_some, cS_some, Nat.reduceLeDiff, Nat.reduceEqDiff, M245]
        by_cases z2 : bitsS (iI s) < bitsS (iI b)
        · simp (disch := omega) only [z2, ↓reduceIte, not_false_eq_true, not_true_eq_false, and_self, and_true, true_and, false_and, and_false, or_true, true_or, or_false, false_or, or_self, reduceCtorEq, mm_q, Option.getD_some, cI_some, cJ_some, cV_some, cS_some, kd_sI, kd_sL, kd_sR, kd_cp, ln_sI, ln_sL, ln_sR, ln_cp, gR_sI, gR_sL, gR_sR, gR_cp, gL_sI, gL_sR, gL_cp, gI_sL, gI_sR, iI_add, iI_sub, iI_mul, iI_neg, iI_in, iI_tn, iI_lt, iI_eq, Nat.reduceLeDiff, Nat.reduceEqDiff, Nat.reduceAdd, Int.reduceEq, Int.reduceLT, Int.reduceLE, Int.reduceNeg, Int.reduceAdd, Int.reduceSub, Int.reduceMul, bI_t, bI_f, decide_true, decide_false, Bool.and_true, Bool.and_false, Bool.true_and, Bool.false_and, Bool.false_eq_true, Bool.and_self, Bool.not_true, Bool.not_false, sg_252_44, sg_252_49]
        · simp (disch := omega) only [z2, ↓reduceIte, not_false_eq_true, not_true_eq_false, and_self, and_true, true_and, false_and, and_false, or_true, true_or, or_false, false_or, or_self, reduceCtorEq, mm_q, Option.getD_some, cI_some, cJ_some, cV_some, cS_some, kd_sI, kd_sL, kd_sR, kd_cp, ln_sI, ln_sL, ln_sR, ln_cp, gR_sI, gR_sL, gR_sR, gR_cp, gL_sI, gL_sR, gL_cp, gI_sL, gI_sR, iI_add, iI_sub, iI_mul, iI_neg, iI_in, iI_tn, iI_lt, iI_eq, Nat.reduceLeDiff, Nat.reduceEqDiff, Nat.reduceAdd, Int.reduceEq, Int.reduceLT, Int.reduceLE, Int.reduceNeg, Int.reduceAdd, Int.reduceSub, Int.reduceMul, bI_t, bI_f, decide_true, decide_false, Bool.and_true, Bool.and_false, Bool.true_and, Bool.false_and, Bool.false_eq_true, Bool.and_self, Bool.not_true, Bool.not_false, sg_252_44, sg_252_49]
    obtain ⟨m1, x5, z6', z7', e1, f1⟩ := M252M hI hL hIB hd (set := s) (b := iI b) y0 y1 (st D 5).toNat 0 (fewer s b) z6 z7 m (by omega) (by omega) h
    obtain ⟨m', e2, f2⟩ := M252L hI hL hIB hd y0 y1 k (s + 1) (if (fewer s b && enoughS D s many) = true then s else b) (some (.int (iI (bI (fewer s b && enoughS D s many))))) (some (.int x5)) z6' z7' m1 (by omega) (by omega) (by split <;> omega) (by split <;> omega) (h.frL f1)
    refine ⟨m', ?_, f1.tr f2⟩
    rw [key, e1, sg_252_149]
    unfold fullGo
    rw [← e2]
    rw [show allB (fun s_1 => decide (many ≤ seenN D s s_1)) (st D 5).toNat 0 = enoughS D s many from rfl]
    cases z : (fewer s b && enoughS D s many)
    · simp (disch := omega) only [↓reduceIte, not_false_eq_true, not_true_eq_false, and_self, and_true, true_and, false_and, and_false, or_true, true_or, or_false, false_or, or_self, reduceCtorEq, mm_q, Option.getD_some, cI_some, cJ_some, cV_some, cS_some, kd_sI, kd_sL, kd_sR, kd_cp, ln_sI, ln_sL, ln_sR, ln_cp, gR_sI, gR_sL, gR_sR, gR_cp, gL_sI, gL_sR, gL_cp, gI_sL, gI_sR, iI_add, iI_sub, iI_mul, iI_neg, iI_in, iI_tn, iI_lt, iI_eq, Nat.reduceLeDiff, Nat.reduceEqDiff, Nat.reduceAdd, Int.reduceEq, Int.reduceLT, Int.reduceLE, Int.reduceNeg, Int.reduceAdd, Int.reduceSub, Int.reduceMul, bI_t, bI_f, decide_true, decide_false, Bool.and_true, Bool.and_false, Bool.true_and, Bool.false_and, Bool.false_eq_true, Bool.and_self, Bool.not_true, Bool.not_false, sg_252_159]
    · simp (disch := omega) only [↓reduceIte, not_false_eq_true, not_true_eq_false, and_self, and_true, true_and, false_and, and_false, or_true, true_or, or_false, false_or, or_self, reduceCtorEq, mm_q, Option.getD_some, cI_some, cJ_some, cV_some, cS_some, kd_sI, kd_sL, kd_sR, kd_cp, ln_sI, ln_sL, ln_sR, ln_cp, gR_sI, gR_sL, gR_sR, gR_cp, gL_sI, gL_sR, gL_cp, gI_sL, gI_sR, iI_add, iI_sub, iI_mul, iI_neg, iI_in, iI_tn, iI_lt, iI_eq, Nat.reduceLeDiff, Nat.reduceEqDiff, Nat.reduceAdd, Int.reduceEq, Int.reduceLT, Int.reduceLE, Int.reduceNeg, Int.reduceAdd, Int.reduceSub, Int.reduceMul, bI_t, bI_f, decide_true, decide_false, Bool.and_true, Bool.and_false, Bool.true_and, Bool.false_and, Bool.false_eq_true, Bool.and_self, Bool.not_true, Bool.not_false, sg_252_159]
/-- full -/
theorem M252 (h : MD D E m) (hI : InvS D) (hL : InvL D) (hIB : InvB D (sa D)) (hd : 7 ≤ d) {many : Int} (many_0 : -2147483648 ≤ many) (many_1 : many < 2147483648) : ∃ m', mm_ev d 252 0 [some (.ref 316), some (.int (iI (many))), none, none, none, none, none, none] [] m = some (some (some (.int (iI (fullS D many)))), m') ∧ Fr scM m m' := by
  have h1 := h.fr thr0
  obtain ⟨k0, k1⟩ := hI.2.2.2.2.2.1
  have pw := pow_r k1
  rw [sg_252_0]
  simp (disch := omega) only [shM h.1, ↓reduceIte, not_false_eq_true, not_true_eq_false, and_self, and_true, true_and, reduceCtorEq, mm_q, Option.getD_some, cI_some, cJ_some, cV_some, cS_some, Nat.reduceLeDiff, Nat.reduceEqDiff]
  unfold fullS
  cases z : inB many 0 8
  · refine ⟨_, ?_, thr0⟩
    rw [sg_252_9 (by omega)]
    simp (disch := omega) only [shM h1.1, ↓reduceIte, not_false_eq_true, not_true_eq_false, and_self, and_true, true_and, reduceCtorEq, mm_q, Option.getD_some, cI_some, cJ_some, cV_some, cS_some, Nat.reduceLeDiff, Nat.reduceEqDiff, M201 h1]
    rw [sg_252_15 (by omega), shl_p k0 k1]
    simp (disch := omega) only [↓reduceIte, not_false_eq_true, not_true_eq_false, and_self, and_true, true_and, false_and, and_false, or_true, true_or, or_false, false_or, or_self, reduceCtorEq, mm_q, Option.getD_some, cI_some, cJ_some, cV_some, cS_some, kd_sI, kd_sL, kd_sR, kd_cp, ln_sI, ln_sL, ln_sR, ln_cp, gR_sI, gR_sL, gR_sR, gR_cp, gL_sI, gL_sR, gL_cp, gI_sL, gI_sR, iI_add, iI_sub, iI_mul, iI_neg, iI_in, iI_tn, iI_lt, iI_eq, Nat.reduceLeDiff, Nat.reduceEqDiff, Nat.reduceAdd, Int.reduceEq, Int.reduceLT, Int.reduceLE, Int.reduceNeg, Int.reduceAdd, Int.reduceSub, Int.reduceMul, show (0 : Int) < ((2 ^ (st D 6).toNat : Nat) : Int) by omega, M188', z, bI_t, bI_f, decide_true, decide_false, Bool.and_true, Bool.and_false, Bool.true_and, Bool.false_and, Bool.false_eq_true, Bool.and_self, Bool.not_true, Bool.not_false]
    rw [sg_252_26 (by omega)]
    simp (disch := omega) only [↓reduceIte, not_false_eq_true, not_true_eq_false, and_self, and_true, true_and, false_and, and_false, or_true, true_or, or_false, false_or, or_self, reduceCtorEq, mm_q, Option.getD_some, cI_some, cJ_some, cV_some, cS_some, kd_sI, kd_sL, kd_sR, kd_cp, ln_sI, ln_sL, ln_sR, ln_cp, gR_sI, gR_sL, gR_sR, gR_cp, gL_sI, gL_sR, gL_cp, gI_sL, gI_sR, iI_add, iI_sub, iI_mul, iI_neg, iI_in, iI_tn, iI_lt, iI_eq, Nat.reduceLeDiff, Nat.reduceEqDiff, Nat.reduceAdd, Int.reduceEq, Int.reduceLT, Int.reduceLE, Int.reduceNeg, Int.reduceAdd, Int.reduceSub, Int.reduceMul]
  · obtain ⟨a0, a1⟩ := inB_t.mp z
    obtain ⟨m', e1, f1⟩ := M252L hI hL hIB hd a0 a1 (2 ^ (st D 6).toNat) 0 (-1) none none none none _ (by omega) (by omega) (by omega) (by omega) h1
    refine ⟨m', ?_, thr0.tr f1.LM⟩
    rw [if_pos rfl]
    exact e1
/-- notes' inner loop -/
theorem M264I (hI : InvS D) (hL : InvL D) (hIB : InvB D (sa D)) (hd : 8 ≤ d) {set : Int} {l1 l2 l3 : Int32} (y : 0 < st D 5) : ∀ (k : Nat) (w n v : Int) (z8 : Option Value) (m : mm_M), w = st D 6 - k → 0 ≤ w → MD D E m → ∃ m' z8', mm_ev d 264 51 [some (.ref 316), some (.int l1), some (.int l2), some (.int l3), some (.int (iI (set))), some (.int (iI (n))), some (.int (iI (v))), some (.int (iI (w))), z8] [] m = mm_ev d 264 57 [some (.ref 316), some (.int l1), some (.int l2), some (.int l3), some (.int (iI (set))), some (.int (iI (sumGo (fun w => if hasW set w = true then 1 + wk D w 1 else 0) k w n))), some (.int (iI (sumGo (fun w => if hasW set w = true then jumpS D w 0 0 (sa D 0) 0 else 0) k w v))), some (.int (iI (st D 6))), z8'] [.int (iI (st D 6)), .int (iI (st D 6))] m' ∧ Fr scL m m'
  | 0, w, n, v, z8, m, he, w0, h => by
    refine ⟨m, z8, ?_, Fr.rf⟩
    rw [sg_264_51 (by omega), show w = st D 6 by omega]
    unfold sumGo
    simp (disch := omega) only [shM h.1, ↓reduceIte, not_false_eq_true, not_true_eq_false, and_self, and_true, true_and, reduceCtorEq, mm_q, Option.getD_some, cI_some, cJ_some, cV_some, cS_some, Nat.reduceLeDiff, Nat.reduceEqDiff, M201 h]
  | k + 1, w, n, v, z8, m, he, w0, h => by
    obtain ⟨k0, k1⟩ := hI.2.2.2.2.2.1
    have w1 : w < st D 6 := by omega
    have g1 := (hI.2.2.2.2.2.2.2.2.2.1 w w0 w1).2.1
    rw [sg_264_51 (by omega)]
    simp (disch := omega) only [shM h.1, ↓reduceIte, not_false_eq_true, not_true_eq_false, and_self, and_true, true_and, reduceCtorEq, mm_q, Option.getD_some, cI_some, cJ_some, cV_some, cS_some, Nat.reduceLeDiff, Nat.reduceEqDiff, M201 h]
    rw [sg_264_57, if_pos (by rw [iI_lt] <;> omega)]
    unfold sumGo
    by_cases z1 : (iShr (iI set) (iI w) &&& iI 1) = iI 1
    · have z2 : hasW set w = true := by unfold hasW; exact decide_eq_true z1
      obtain ⟨m1, e1, f1⟩ := M255 (d := d - 1) h hI hL hIB (by omega) (ta := 0) (tb := sa D 0) w0 w1 (show (0 : Int) ≤ 0 by omega) y (show (0 : Int) ≤ 0 by omega) y
      obtain ⟨m', z8', e2, f2⟩ := M264I hI hL hIB hd (set := set) (l1 := l1) (l2 := l2) (l3 := l3) y k (w + 1) (n + (1 + wk D w 1)) (v + jumpS D w 0 0 (sa D 0) 0) (some (.int (iI (1)))) m1 (by omega) (by omega) (h.frL f1)
      refine ⟨m', z8', ?_, f1.tr f2⟩
      rw [if_pos z1, sg_264_76 (by omega)]
      simp (disch := omega) only [shM h.1, ↓reduceIte, not_false_eq_true, not_true_eq_false, and_self, and_true, true_and, false_and, and_false, or_true, true_or, or_false, false_or, or_self, reduceCtorEq, mm_q, Option.getD_some, cI_some, cJ_some, cV_some, cS_some, kd_sI, kd_sL, kd_sR, kd_cp, ln_sI, ln_sL, ln_sR, ln_cp, gR_sI, gR_sL, gR_sR, gR_cp, gL_sI, gL_sR, gL_cp, gI_sL, gI_sR, iI_add, iI_sub, iI_mul, iI_neg, iI_in, iI_tn, iI_lt, iI_eq, Nat.reduceLeDiff, Nat.reduceEqDiff, Nat.reduceAdd, Int.reduceEq, Int.reduceLT, Int.reduceLE, Int.reduceNeg, Int.reduceAdd, Int.reduceSub, Int.reduceMul, M162 h]
      rw [sg_264_98 (by omega)]
      simp (disch := omega) only [shM h.1, ↓reduceIte, not_false_eq_true, not_true_eq_false, and_self, and_true, true_and, false_and, and_false, or_true, true_or, or_false, false_or, or_self, reduceCtorEq, mm_q, Option.getD_some, cI_some, cJ_some, cV_some, cS_some, kd_sI, kd_sL, kd_sR, kd_cp, ln_sI, ln_sL, ln_sR, ln_cp, gR_sI, gR_sL, gR_sR, gR_cp, gL_sI, gL_sR, gL_cp, gI_sL, gI_sR, iI_add, iI_sub, iI_mul, iI_neg, iI_in, iI_tn, iI_lt, iI_eq, Nat.reduceLeDiff, Nat.reduceEqDiff, Nat.reduceAdd, Int.reduceEq, Int.reduceLT, Int.reduceLE, Int.reduceNeg, Int.reduceAdd, Int.reduceSub, Int.reduceMul, MD_sa h, e1, sg_264_127, z2]
      exact e2
    · have z2 : hasW set w = false := by unfold hasW; exact decide_eq_false z1
      obtain ⟨m', z8', e2, f2⟩ := M264I hI hL hIB hd (set := set) (l1 := l1) (l2 := l2) (l3 := l3) y k (w + 1) (n + 0) (v + 0) (some (.int (iI (0)))) m (by omega) (by omega) h
      refine ⟨m', z8', ?_, f2⟩
      rw [if_neg z1, sg_264_76 (by omega)]
      simp (disch := omega) only [↓reduceIte, not_false_eq_true, not_true_eq_false, and_self, and_true, true_and, false_and, and_false, or_true, true_or, or_false, false_or, or_self, reduceCtorEq, mm_q, Option.getD_some, cI_some, cJ_some, cV_some, cS_some, kd_sI, kd_sL, kd_sR, kd_cp, ln_sI, ln_sL, ln_sR, ln_cp, gR_sI, gR_sL, gR_sR, gR_cp, gL_sI, gL_sR, gL_cp, gI_sL, gI_sR, iI_add, iI_sub, iI_mul, iI_neg, iI_in, iI_tn, iI_lt, iI_eq, Nat.reduceLeDiff, Nat.reduceEqDiff, Nat.reduceAdd, Int.reduceEq, Int.reduceLT, Int.reduceLE, Int.reduceNeg, Int.reduceAdd, Int.reduceSub, Int.reduceMul]
      rw [sg_264_98 (by omega)]
      simp (disch := omega) only [↓reduceIte, not_false_eq_true, not_true_eq_false, and_self, and_true, true_and, false_and, and_false, or_true, true_or, or_false, false_or, or_self, reduceCtorEq, mm_q, Option.getD_some, cI_some, cJ_some, cV_some, cS_some, kd_sI, kd_sL, kd_sR, kd_cp, ln_sI, ln_sL, ln_sR, ln_cp, gR_sI, gR_sL, gR_sR, gR_cp, gL_sI, gL_sR, gL_cp, gI_sL, gI_sR, iI_add, iI_sub, iI_mul, iI_neg, iI_in, iI_tn, iI_lt, iI_eq, Nat.reduceLeDiff, Nat.reduceEqDiff, Nat.reduceAdd, Int.reduceEq, Int.reduceLT, Int.reduceLE, Int.reduceNeg, Int.reduceAdd, Int.reduceSub, Int.reduceMul, sg_264_127, z2, bI_t, bI_f, decide_true, decide_false, Bool.and_true, Bool.and_false, Bool.true_and, Bool.false_and, Bool.false_eq_true, Bool.and_self, Bool.not_true, Bool.not_false]
      exact e2
theorem secS_r (hI : InvS D) {set : Int} : 0 ≤ secS D set ∧ secS D set ≤ 100 := by
  obtain ⟨k0, k1⟩ := hI.2.2.2.2.2.1
  obtain ⟨r0, r1⟩ := hI.2.1
  have := sumGo_r (fun w => if hasW set w = true then 1 + wk D w 1 else 0) 5 (by omega) (st D 6).toNat 0 0 (fun x x0 x1 => by
    have g1 := (hI.2.2.2.2.2.2.2.2.2.1 x x0 (by omega)).2.1
    split <;> omega)
  unfold secS
  omega
theorem worS_r (hI : InvS D) (hIB : InvB D (sa D)) {set : Int} : 0 ≤ worS D set ∧ worS D set ≤ 400 := by
  obtain ⟨k0, k1⟩ := hI.2.2.2.2.2.1
  have := sumGo_r (fun w => if hasW set w = true then jumpS D w 0 0 (sa D 0) 0 else 0) 41 (by omega) (st D 6).toNat 0 0 (fun x x0 x1 => by
    have g1 := jumpS_r hI hIB (ta := 0) (s := 0) (tb := sa D 0) (t := 0) x0 (show x < st D 6 by omega)
    split <;> omega)
  unfold worS
  omega
/-- notes' outer loop -/
theorem M264L (hI : InvS D) (hL : InvL D) (hIB : InvB D (sa D)) (hd : 8 ≤ d) {sec : Int} (y : 0 < st D 5) (y0 : 0 ≤ sec) (y1 : sec ≤ 30) : ∀ (k : Nat) (s b v : Int) (z5 z6 z7 z8 : Option Value) (m : mm_M), s = ((2 ^ (st D 6).toNat : Nat) : Int) - k → 1 ≤ s → 0 ≤ v → v ≤ 1000 → MD D E m → ∃ m', mm_ev d 264 31 [some (.ref 316), some (.int (iI (sec))), some (.int (iI (b))), some (.int (iI (v))), some (.int (iI (s))), z5, z6, z7, z8] [] m = some (some (some (.int (iI (noteGo D sec k s b v)))), m') ∧ Fr scL m m'
  | 0, s, b, v, z5, z6, z7, z8, m, he, s0, v0, v1, h => by
    obtain ⟨k0, k1⟩ := hI.2.2.2.2.2.1
    have pw := pow_r k1
    refine ⟨m, ?_, Fr.rf⟩
    rw [sg_264_31 (by omega)]
    unfold noteGo
    simp (disch := omega) only [shM h.1, ↓reduceIte, not_false_eq_true, not_true_eq_false, and_self, and_true, true_and, false_and, and_false, or_true, true_or, or_false, false_or, or_self, reduceCtorEq, mm_q, Option.getD_some, cI_some, cJ_some, cV_some, cS_some, kd_sI, kd_sL, kd_sR, kd_cp, ln_sI, ln_sL, ln_sR, ln_cp, gR_sI, gR_sL, gR_sR, gR_cp, gL_sI, gL_sR, gL_cp, gI_sL, gI_sR, iI_add, iI_sub, iI_mul, iI_neg, iI_in, iI_tn, iI_lt, iI_eq, Nat.reduceLeDiff, Nat.reduceEqDiff, Nat.reduceAdd, Int.reduceEq, Int.reduceLT, Int.reduceLE, Int.reduceNeg, Int.reduceAdd, Int.reduceSub, Int.reduceMul, M201 h, shl_p k0 k1, show ¬ s < ((2 ^ (st D 6).toNat : Nat) : Int) by omega]
  | k + 1, s, b, v, z5, z6, z7, z8, m, he, s0, v0, v1, h => by
    obtain ⟨k0, k1⟩ := hI.2.2.2.2.2.1
    have pw := pow_r k1
    obtain ⟨m1, z8', e1, f1⟩ := M264I hI hL hIB hd (set := s) (l1 := iI sec) (l2 := iI b) (l3 := iI v) y (st D 6).toNat 0 0 0 z8 m (by omega) (by omega) h
    have r1 := secS_r hI (set := s)
    have r2 := worS_r hI hIB (set := s)
    rw [sg_264_31 (by omega)]
    simp (disch := omega) only [shM h.1, ↓reduceIte, not_false_eq_true, not_true_eq_false, and_self, and_true, true_and, false_and, and_false, or_true, true_or, or_false, false_or, or_self, reduceCtorEq, mm_q, Option.getD_some, cI_some, cJ_some, cV_some, cS_some, kd_sI, kd_sL, kd_sR, kd_cp, ln_sI, ln_sL, ln_sR, ln_cp, gR_sI, gR_sL, gR_sR, gR_cp, gL_sI, gL_sR, gL_cp, gI_sL, gI_sR, iI_add, iI_sub, iI_mul, iI_neg, iI_in, iI_tn, iI_lt, iI_eq, Nat.reduceLeDiff, Nat.reduceEqDiff, Nat.reduceAdd, Int.reduceEq, Int.reduceLT, Int.reduceLE, Int.reduceNeg, Int.reduceAdd, Int.reduceSub, Int.reduceMul, M201 h, shl_p k0 k1, show s < ((2 ^ (st D 6).toNat : Nat) : Int) by omega]
    rw [e1, sg_264_57, show sumGo (fun w => if hasW s w = true then 1 + wk D w 1 else 0) (st D 6).toNat 0 0 = secS D s from rfl, show sumGo (fun w => if hasW s w = true then jumpS D w 0 0 (sa D 0) 0 else 0) (st D 6).toNat 0 0 = worS D s from rfl]
    unfold noteGo
    by_cases z1 : sec < secS D s
    · obtain ⟨m', e2, f2⟩ := M264L hI hL hIB hd y y0 y1 k (s + 1) b v (some (.int (iI (secS D s)))) (some (.int (iI (worS D s)))) (some (.int (iI (0)))) z8' m1 (by omega) (by omega) v0 v1 (h.frL f1)
      refine ⟨m', ?_, f1.tr f2⟩
      rw [if_neg (show ¬ (secS D s ≤ sec ∧ v < worS D s) by omega)]
      simp (disch := omega) only [↓reduceIte, not_false_eq_true, not_true_eq_false, and_self, and_true, true_and, false_and, and_false, or_true, true_or, or_false, false_or, or_self, reduceCtorEq, mm_q, Option.getD_some, cI_some, cJ_some, cV_some, cS_some, kd_sI, kd_sL, kd_sR, kd_cp, ln_sI, ln_sL, ln_sR, ln_cp, gR_sI, gR_sL, gR_sR, gR_cp, gL_sI, gL_sR, gL_cp, gI_sL, gI_sR, iI_add, iI_sub, iI_mul, iI_neg, iI_in, iI_tn, iI_lt, iI_eq, Nat.reduceLeDiff, Nat.reduceEqDiff, Nat.reduceAdd, Int.reduceEq, Int.reduceLT, Int.reduceLE, Int.reduceNeg, Int.reduceAdd, Int.reduceSub, Int.reduceMul, Int.lt_irrefl, z1, sg_264_152, sg_264_153, sg_264_166, sg_264_178]
      exact e2
    · by_cases z2 : v < worS D s
      · obtain ⟨m', e2, f2⟩ := M264L hI hL hIB hd y y0 y1 k (s + 1) s (worS D s) (some (.int (iI (secS D s)))) (some (.int (iI (worS D s)))) (some (.int (iI (1)))) z8' m1 (by omega) (by omega) (by omega) (by omega) (h.frL f1)
        refine ⟨m', ?_, f1.tr f2⟩
        rw [if_pos (show secS D s ≤ sec ∧ v < worS D s by omega)]
        simp (disch := omega) only [↓reduceIte, not_false_eq_true, not_true_eq_false, and_self, and_true, true_and, false_and, and_false, or_true, true_or, or_false, false_or, or_self, reduceCtorEq, mm_q, Option.getD_some, cI_some, cJ_some, cV_some, cS_some, kd_sI, kd_sL, kd_sR, kd_cp, ln_sI, ln_sL, ln_sR, ln_cp, gR_sI, gR_sL, gR_sR, gR_cp, gL_sI, gL_sR, gL_cp, gI_sL, gI_sR, iI_add, iI_sub, iI_mul, iI_neg, iI_in, iI_tn, iI_lt, iI_eq, Nat.reduceLeDiff, Nat.reduceEqDiff, Nat.reduceAdd, Int.reduceEq, Int.reduceLT, Int.reduceLE, Int.reduceNeg, Int.reduceAdd, Int.reduceSub, Int.reduceMul, Int.lt_irrefl, z1, z2, sg_264_152, sg_264_153, sg_264_166, sg_264_178]
        exact e2
      · obtain ⟨m', e2, f2⟩ := M264L hI hL hIB hd y y0 y1 k (s + 1) b v (some (.int (iI (secS D s)))) (some (.int (iI (worS D s)))) (some (.int (iI (0)))) z8' m1 (by omega) (by omega) v0 v1 (h.frL f1)
        refine ⟨m', ?_, f1.tr f2⟩
        rw [if_neg (show ¬ (secS D s ≤ sec ∧ v < worS D s) by omega)]
        simp (disch := omega) only [↓reduceIte, not_false_eq_true, not_true_eq_false, and_self, and_true, true_and, false_and, and_false, or_true, true_or, or_false, false_or, or_self, reduceCtorEq, mm_q, Option.getD_some, cI_some, cJ_some, cV_some, cS_some, kd_sI, kd_sL, kd_sR, kd_cp, ln_sI, ln_sL, ln_sR, ln_cp, gR_sI, gR_sL, gR_sR, gR_cp, gL_sI, gL_sR, gL_cp, gI_sL, gI_sR, iI_add, iI_sub, iI_mul, iI_neg, iI_in, iI_tn, iI_lt, iI_eq, Nat.reduceLeDiff, Nat.reduceEqDiff, Nat.reduceAdd, Int.reduceEq, Int.reduceLT, Int.reduceLE, Int.reduceNeg, Int.reduceAdd, Int.reduceSub, Int.reduceMul, Int.lt_irrefl, z1, z2, sg_264_152, sg_264_153, sg_264_166, sg_264_178]
        exact e2
/-- notes -/
theorem M264 (h : MD D E m) (hI : InvS D) (hL : InvL D) (hIB : InvB D (sa D)) (hd : 8 ≤ d) {sec : Int} (sec_0 : -2147483648 ≤ sec) (sec_1 : sec < 2147483648) : ∃ m', mm_ev d 264 0 [some (.ref 316), some (.int (iI (sec))), none, none, none, none, none, none, none] [] m = some (some (some (.int (iI (notesS D sec)))), m') ∧ Fr scM m m' := by
  have h1 := h.fr thr0
  obtain ⟨k0, k1⟩ := hI.2.2.2.2.2.1
  obtain ⟨v0, v1⟩ := hI.2.2.2.2.1
  have pw := pow_r k1
  rw [sg_264_0 (by omega)]
  simp (disch := omega) only [shM h.1, ↓reduceIte, not_false_eq_true, not_true_eq_false, and_self, and_true, true_and, reduceCtorEq, mm_q, Option.getD_some, cI_some, cJ_some, cV_some, cS_some, Nat.reduceLeDiff, Nat.reduceEqDiff, M188']
  rw [sg_264_12 (by omega)]
  unfold notesS
  cases z : inB sec 0 30
  · exact ⟨_, by simp (disch := omega) only [↓reduceIte, not_false_eq_true, not_true_eq_false, and_self, and_true, true_and, false_and, and_false, or_true, true_or, or_false, false_or, or_self, reduceCtorEq, mm_q, Option.getD_some, cI_some, cJ_some, cV_some, cS_some, kd_sI, kd_sL, kd_sR, kd_cp, ln_sI, ln_sL, ln_sR, ln_cp, gR_sI, gR_sL, gR_sR, gR_cp, gL_sI, gL_sR, gL_cp, gI_sL, gI_sR, iI_add, iI_sub, iI_mul, iI_neg, iI_in, iI_tn, iI_lt, iI_eq, Nat.reduceLeDiff, Nat.reduceEqDiff, Nat.reduceAdd, Int.reduceEq, Int.reduceLT, Int.reduceLE, Int.reduceNeg, Int.reduceAdd, Int.reduceSub, Int.reduceMul, bI_t, bI_f, decide_true, decide_false, Bool.and_true, Bool.and_false, Bool.true_and, Bool.false_and, Bool.false_eq_true, Bool.and_self, Bool.not_true, Bool.not_false], thr0⟩
  · by_cases z2 : st D 5 = 0
    · exact ⟨_, by simp (disch := omega) only [shM h1.1, ↓reduceIte, not_false_eq_true, not_true_eq_false, and_self, and_true, true_and, false_and, and_false, or_true, true_or, or_false, false_or, or_self, reduceCtorEq, mm_q, Option.getD_some, cI_some, cJ_some, cV_some, cS_some, kd_sI, kd_sL, kd_sR, kd_cp, ln_sI, ln_sL, ln_sR, ln_cp, gR_sI, gR_sL, gR_sR, gR_cp, gL_sI, gL_sR, gL_cp, gI_sL, gI_sR, iI_add, iI_sub, iI_mul, iI_neg, iI_in, iI_tn, iI_lt, iI_eq, Nat.reduceLeDiff, Nat.reduceEqDiff, Nat.reduceAdd, Int.reduceEq, Int.reduceLT, Int.reduceLE, Int.reduceNeg, Int.reduceAdd, Int.reduceSub, Int.reduceMul, bI_t, bI_f, decide_true, decide_false, Bool.and_true, Bool.and_false, Bool.true_and, Bool.false_and, Bool.false_eq_true, Bool.and_self, Bool.not_true, Bool.not_false, M216 h1, z2], thr0⟩
    · obtain ⟨a0, a1⟩ := inB_t.mp z
      obtain ⟨m', e1, f1⟩ := M264L hI hL hIB hd (by omega) a0 a1 (2 ^ (st D 6).toNat - 1) 1 0 0 none none none none _ (by omega) (by omega) (by omega) (by omega) h1
      refine ⟨m', ?_, thr0.tr f1.LM⟩
      simp (disch := omega) only [shM h1.1, ↓reduceIte, not_false_eq_true, not_true_eq_false, and_self, and_true, true_and, false_and, and_false, or_true, true_or, or_false, false_or, or_self, reduceCtorEq, mm_q, Option.getD_some, cI_some, cJ_some, cV_some, cS_some, kd_sI, kd_sL, kd_sR, kd_cp, ln_sI, ln_sL, ln_sR, ln_cp, gR_sI, gR_sL, gR_sR, gR_cp, gL_sI, gL_sR, gL_cp, gI_sL, gI_sR, iI_add, iI_sub, iI_mul, iI_neg, iI_in, iI_tn, iI_lt, iI_eq, Nat.reduceLeDiff, Nat.reduceEqDiff, Nat.reduceAdd, Int.reduceEq, Int.reduceLT, Int.reduceLE, Int.reduceNeg, Int.reduceAdd, Int.reduceSub, Int.reduceMul, bI_t, bI_f, decide_true, decide_false, Bool.and_true, Bool.and_false, Bool.true_and, Bool.false_and, Bool.false_eq_true, Bool.and_self, Bool.not_true, Bool.not_false, M216 h1, z2]
      exact e1
end
