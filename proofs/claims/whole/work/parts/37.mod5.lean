def offB (D : Nat → Nat → Int32) (B : Int → Int) (take : Int) (late : Bool) (q : Int) : Int := if placeB D B take late (mu D q 0) (te D (mu D q 1)) < 0 then 100 else if placeB D B take late (mu D q 0) (te D (mu D q 1)) - mu D q 2 < 0 then -(placeB D B take late (mu D q 0) (te D (mu D q 1)) - mu D q 2) else placeB D B take late (mu D q 0) (te D (mu D q 1)) - mu D q 2
def cntGo (f : Int → Bool) : Nat → Int → Int → Int
  | 0, _, n => n
  | k + 1, q, n => cntGo f k (q + 1) (if f q = true then n + 1 else n)
def missedB (D : Nat → Nat → Int32) (B : Int → Int) : Int := cntGo (fun q => decide (0 < offB D B (B 0) true q)) (st D 7).toNat 0 0
def firstGo (f : Int → Bool) : Nat → Int → Int
  | 0, _ => -1
  | k + 1, t => if f t = true then t else firstGo f k (t + 1)
def bumpsB (D : Nat → Nat → Int32) (B : Int → Int) (one other t : Int) : Bool := decide (0 ≤ placeB D B (B 0) true one t) && decide (placeB D B (B 0) true one t = placeB D B (B 0) true other t)
def bumpB (D : Nat → Nat → Int32) (B : Int → Int) (one other : Int) : Int := if wk D one 1 = wk D other 1 then firstGo (bumpsB D B one other) 601 0 else -1
def GoodB (D : Nat → Nat → Int32) (B : Int → Int) : Prop := missedB D B = 0 ∧ ∀ w e : Int, 0 ≤ e → e < w → w < st D 6 → bumpB D B e w < 0
section
variable {D : Nat → Nat → Int32} {E : Nat → Nat → Int64} {m m' : mm_M} {d : Nat} {B : Int → Int} {b : Int}
theorem placeB_r (hI : InvS D) (hB : InvB D B) {w take tenth : Int} {late : Bool} (hw0 : 0 ≤ w) (hw : w < st D 6) : -1 ≤ placeB D B take late w tenth ∧ placeB D B take late w tenth < st D 0 := by
  obtain ⟨⟨s0, s1⟩, -⟩ := hB.2 w hw0 hw
  have := tempoS_r hI (take := take) hw0 hw
  exact placeS_r hI s0 s1 (by omega)
theorem M201 (h : MD D E m) : mm_ev d 201 0 [some (.ref 316)] [] m = some (some (some (.int (iI (st D 6)))), m) := by
  rw [sg_201_0]
  simp (disch := omega) only [shM h.1, ↓reduceIte, not_false_eq_true, not_true_eq_false, and_self, and_true, true_and, false_and, and_false, or_true, true_or, or_false, false_or, or_self, reduceCtorEq, mm_q, Option.getD_some, cI_some, cJ_some, cV_some, cS_some, kd_sI, kd_sL, kd_sR, kd_cp, ln_sI, ln_sL, ln_sR, ln_cp, gR_sI, gR_sL, gR_sR, gR_cp, gL_sI, gL_sR, gL_cp, gI_sL, gI_sR, iI_add, iI_sub, iI_mul, iI_neg, iI_in, iI_tn, iI_lt, iI_eq, Nat.reduceLeDiff, Nat.reduceEqDiff, Nat.reduceAdd, Int.reduceEq, Int.reduceLT, Int.reduceLE, Int.reduceNeg, Int.reduceAdd, Int.reduceSub, Int.reduceMul, MD_st h]
theorem M216 (h : MD D E m) : mm_ev d 216 0 [some (.ref 316)] [] m = some (some (some (.int (iI (st D 5)))), m) := by
  rw [sg_216_0]
  simp (disch := omega) only [shM h.1, ↓reduceIte, not_false_eq_true, not_true_eq_false, and_self, and_true, true_and, false_and, and_false, or_true, true_or, or_false, false_or, or_self, reduceCtorEq, mm_q, Option.getD_some, cI_some, cJ_some, cV_some, cS_some, kd_sI, kd_sL, kd_sR, kd_cp, ln_sI, ln_sL, ln_sR, ln_cp, gR_sI, gR_sL, gR_sR, gR_cp, gL_sI, gL_sR, gL_cp, gI_sL, gI_sR, iI_add, iI_sub, iI_mul, iI_neg, iI_in, iI_tn, iI_lt, iI_eq, Nat.reduceLeDiff, Nat.reduceEqDiff, Nat.reduceAdd, Int.reduceEq, Int.reduceLT, Int.reduceLE, Int.reduceNeg, Int.reduceAdd, Int.reduceSub, Int.reduceMul, MD_st h]
theorem M228 (h : MD D E m) : mm_ev d 228 0 [some (.ref 316)] [] m = some (some (some (.int (iI (st D 7)))), m) := by
  rw [sg_228_0]
  simp (disch := omega) only [shM h.1, ↓reduceIte, not_false_eq_true, not_true_eq_false, and_self, and_true, true_and, false_and, and_false, or_true, true_or, or_false, false_or, or_self, reduceCtorEq, mm_q, Option.getD_some, cI_some, cJ_some, cV_some, cS_some, kd_sI, kd_sL, kd_sR, kd_cp, ln_sI, ln_sL, ln_sR, ln_cp, gR_sI, gR_sL, gR_sR, gR_cp, gL_sI, gL_sR, gL_cp, gI_sL, gI_sR, iI_add, iI_sub, iI_mul, iI_neg, iI_in, iI_tn, iI_lt, iI_eq, Nat.reduceLeDiff, Nat.reduceEqDiff, Nat.reduceAdd, Int.reduceEq, Int.reduceLT, Int.reduceLE, Int.reduceNeg, Int.reduceAdd, Int.reduceSub, Int.reduceMul, MD_st h]
theorem M242 (h : MD D E m) : mm_ev d 242 0 [some (.ref 316)] [] m = some (some (some (.int (iI (st D 1)))), m) := by
  rw [sg_242_0]
  simp (disch := omega) only [shM h.1, ↓reduceIte, not_false_eq_true, not_true_eq_false, and_self, and_true, true_and, false_and, and_false, or_true, true_or, or_false, false_or, or_self, reduceCtorEq, mm_q, Option.getD_some, cI_some, cJ_some, cV_some, cS_some, kd_sI, kd_sL, kd_sR, kd_cp, ln_sI, ln_sL, ln_sR, ln_cp, gR_sI, gR_sL, gR_sR, gR_cp, gL_sI, gL_sR, gL_cp, gI_sL, gI_sR, iI_add, iI_sub, iI_mul, iI_neg, iI_in, iI_tn, iI_lt, iI_eq, Nat.reduceLeDiff, Nat.reduceEqDiff, Nat.reduceAdd, Int.reduceEq, Int.reduceLT, Int.reduceLE, Int.reduceNeg, Int.reduceAdd, Int.reduceSub, Int.reduceMul, MD_st h]
theorem M230 (h : MD D E m) {q k : Int} (hq0 : 0 ≤ q) (hq : q < 8) (hk0 : 0 ≤ k) (hk : k < 3) : mm_ev d 230 0 [some (.ref 316), some (.int (iI q)), some (.int (iI k))] [] m = some (some (some (.int (iI (mu D q k)))), m) := by
  rw [sg_230_0]
  simp (disch := omega) only [shM h.1, ↓reduceIte, not_false_eq_true, not_true_eq_false, and_self, and_true, true_and, false_and, and_false, or_true, true_or, or_false, false_or, or_self, reduceCtorEq, mm_q, Option.getD_some, cI_some, cJ_some, cV_some, cS_some, kd_sI, kd_sL, kd_sR, kd_cp, ln_sI, ln_sL, ln_sR, ln_cp, gR_sI, gR_sL, gR_sR, gR_cp, gL_sI, gL_sR, gL_cp, gI_sL, gI_sR, iI_add, iI_sub, iI_mul, iI_neg, iI_in, iI_tn, iI_lt, iI_eq, Nat.reduceLeDiff, Nat.reduceEqDiff, Nat.reduceAdd, Int.reduceEq, Int.reduceLT, Int.reduceLE, Int.reduceNeg, Int.reduceAdd, Int.reduceSub, Int.reduceMul, MD_st h, mu]
theorem M188 {x lo hi : Int} (h0 : -2147483648 ≤ x) (h1 : x < 2147483648) (h2 : -2147483648 ≤ lo) (h3 : lo < 2147483648) (h4 : -2147483648 ≤ hi) (h5 : hi < 2147483648) : mm_ev d 188 0 [some (.int (iI x)), some (.int (iI lo)), some (.int (iI hi))] [] m = some (some (some (.int (iI (bI (decide (lo ≤ x) && decide (x ≤ hi)))))), m) := by
  rw [sg_188_0]
  by_cases z1 : x < lo
  · simp (disch := omega) only [↓reduceIte, not_false_eq_true, not_true_eq_false, and_self, and_true, true_and, false_and, and_false, or_true, true_or, or_false, false_or, or_self, reduceCtorEq, mm_q, Option.getD_some, cI_some, cJ_some, cV_some, cS_some, kd_sI, kd_sL, kd_sR, kd_cp, ln_sI, ln_sL, ln_sR, ln_cp, gR_sI, gR_sL, gR_sR, gR_cp, gL_sI, gL_sR, gL_cp, gI_sL, gI_sR, iI_add, iI_sub, iI_mul, iI_neg, iI_in, iI_tn, iI_lt, iI_eq, Nat.reduceLeDiff, Nat.reduceEqDiff, Nat.reduceAdd, Int.reduceEq, Int.reduceLT, Int.reduceLE, Int.reduceNeg, Int.reduceAdd, Int.reduceSub, Int.reduceMul, z1, show ¬ lo ≤ x by omega, bI_t, bI_f, decide_true, decide_false, Bool.and_true, Bool.and_false, Bool.true_and, Bool.false_and, Bool.false_eq_true, Bool.and_self, Bool.not_true, Bool.not_false]
  · by_cases z2 : hi < x
    · simp (disch := omega) only [↓reduceIte, not_false_eq_true, not_true_eq_false, and_self, and_true, true_and, false_and, and_false, or_true, true_or, or_false, false_or, or_self, reduceCtorEq, mm_q, Option.getD_some, cI_some, cJ_some, cV_some, cS_some, kd_sI, kd_sL, kd_sR, kd_cp, ln_sI, ln_sL, ln_sR, ln_cp, gR_sI, gR_sL, gR_sR, gR_cp, gL_sI, gL_sR, gL_cp, gI_sL, gI_sR, iI_add, iI_sub, iI_mul, iI_neg, iI_in, iI_tn, iI_lt, iI_eq, Nat.reduceLeDiff, Nat.reduceEqDiff, Nat.reduceAdd, Int.reduceEq, Int.reduceLT, Int.reduceLE, Int.reduceNeg, Int.reduceAdd, Int.reduceSub, Int.reduceMul, z1, z2, show ¬ x ≤ hi by omega, bI_t, bI_f, decide_true, decide_false, Bool.and_true, Bool.and_false, Bool.true_and, Bool.false_and, Bool.false_eq_true, Bool.and_self, Bool.not_true, Bool.not_false]
    · simp (disch := omega) only [↓reduceIte, not_false_eq_true, not_true_eq_false, and_self, and_true, true_and, false_and, and_false, or_true, true_or, or_false, false_or, or_self, reduceCtorEq, mm_q, Option.getD_some, cI_some, cJ_some, cV_some, cS_some, kd_sI, kd_sL, kd_sR, kd_cp, ln_sI, ln_sL, ln_sR, ln_cp, gR_sI, gR_sL, gR_sR, gR_cp, gL_sI, gL_sR, gL_cp, gI_sL, gI_sR, iI_add, iI_sub, iI_mul, iI_neg, iI_in, iI_tn, iI_lt, iI_eq, Nat.reduceLeDiff, Nat.reduceEqDiff, Nat.reduceAdd, Int.reduceEq, Int.reduceLT, Int.reduceLE, Int.reduceNeg, Int.reduceAdd, Int.reduceSub, Int.reduceMul, z1, z2, show lo ≤ x by omega, show x ≤ hi by omega, bI_t, bI_f, decide_true, decide_false, Bool.and_true, Bool.and_false, Bool.true_and, Bool.false_and, Bool.false_eq_true, Bool.and_self, Bool.not_true, Bool.not_false]
theorem M200 (h : MD D E m) (hI : InvS D) (hd : 1 ≤ d) {w : Int} (h0 : -2147483648 ≤ w) (h1 : w < 2147483648) : mm_ev d 200 0 [some (.ref 316), some (.int (iI w))] [] m = some (some (some (.int (iI (bI (decide (0 ≤ w) && decide (w < st D 6)))))), m) := by
  obtain ⟨-, -, -, -, -, ⟨k0, k1⟩, -⟩ := hI
  rw [sg_200_0 (by omega)]
  by_cases z1 : w < 0
  · simp (disch := omega) only [↓reduceIte, not_false_eq_true, not_true_eq_false, and_self, and_true, true_and, false_and, and_false, or_true, true_or, or_false, false_or, or_self, reduceCtorEq, mm_q, Option.getD_some, cI_some, cJ_some, cV_some, cS_some, kd_sI, kd_sL, kd_sR, kd_cp, ln_sI, ln_sL, ln_sR, ln_cp, gR_sI, gR_sL, gR_sR, gR_cp, gL_sI, gL_sR, gL_cp, gI_sL, gI_sR, iI_add, iI_sub, iI_mul, iI_neg, iI_in, iI_tn, iI_lt, iI_eq, Nat.reduceLeDiff, Nat.reduceEqDiff, Nat.reduceAdd, Int.reduceEq, Int.reduceLT, Int.reduceLE, Int.reduceNeg, Int.reduceAdd, Int.reduceSub, Int.reduceMul, z1, show ¬ 0 ≤ w by omega, bI_t, bI_f, decide_true, decide_false, Bool.and_true, Bool.and_false, Bool.true_and, Bool.false_and, Bool.false_eq_true, Bool.and_self, Bool.not_true, Bool.not_false]
  · by_cases z2 : w < st D 6
    · simp (disch := omega) only [shM h.1, ↓reduceIte, not_false_eq_true, not_true_eq_false, and_self, and_true, true_and, false_and, and_false, or_true, true_or, or_false, false_or, or_self, reduceCtorEq, mm_q, Option.getD_some, cI_some, cJ_some, cV_some, cS_some, kd_sI, kd_sL, kd_sR, kd_cp, ln_sI, ln_sL, ln_sR, ln_cp, gR_sI, gR_sL, gR_sR, gR_cp, gL_sI, gL_sR, gL_cp, gI_sL, gI_sR, iI_add, iI_sub, iI_mul, iI_neg, iI_in, iI_tn, iI_lt, iI_eq, Nat.reduceLeDiff, Nat.reduceEqDiff, Nat.reduceAdd, Int.reduceEq, Int.reduceLT, Int.reduceLE, Int.reduceNeg, Int.reduceAdd, Int.reduceSub, Int.reduceMul, M201 h, z1, z2, show 0 ≤ w by omega, bI_t, bI_f, decide_true, decide_false, Bool.and_true, Bool.and_false, Bool.true_and, Bool.false_and, Bool.false_eq_true, Bool.and_self, Bool.not_true, Bool.not_false]
    · simp (disch := omega) only [shM h.1, ↓reduceIte, not_false_eq_true, not_true_eq_false, and_self, and_true, true_and, false_and, and_false, or_true, true_or, or_false, false_or, or_self, reduceCtorEq, mm_q, Option.getD_some, cI_some, cJ_some, cV_some, cS_some, kd_sI, kd_sL, kd_sR, kd_cp, ln_sI, ln_sL, ln_sR, ln_cp, gR_sI, gR_sL, gR_sR, gR_cp, gL_sI, gL_sR, gL_cp, gI_sL, gI_sR, iI_add, iI_sub, iI_mul, iI_neg, iI_in, iI_tn, iI_lt, iI_eq, Nat.reduceLeDiff, Nat.reduceEqDiff, Nat.reduceAdd, Int.reduceEq, Int.reduceLT, Int.reduceLE, Int.reduceNeg, Int.reduceAdd, Int.reduceSub, Int.reduceMul, M201 h, z1, z2, bI_t, bI_f, decide_true, decide_false, Bool.and_true, Bool.and_false, Bool.true_and, Bool.false_and, Bool.false_eq_true, Bool.and_self, Bool.not_true, Bool.not_false]
theorem M215 (h : MD D E m) (hI : InvS D) (hd : 1 ≤ d) {w : Int} (h0 : -2147483648 ≤ w) (h1 : w < 2147483648) : mm_ev d 215 0 [some (.ref 316), some (.int (iI w))] [] m = some (some (some (.int (iI (bI (decide (0 ≤ w) && decide (w < st D 5)))))), m) := by
  obtain ⟨-, -, -, -, ⟨k0, k1⟩, -⟩ := hI
  rw [sg_215_0 (by omega)]
  by_cases z1 : w < 0
  · simp (disch := omega) only [↓reduceIte, not_false_eq_true, not_true_eq_false, and_self, and_true, true_and, false_and, and_false, or_true, true_or, or_false, false_or, or_self, reduceCtorEq, mm_q, Option.getD_some, cI_some, cJ_some, cV_some, cS_some, kd_sI, kd_sL, kd_sR, kd_cp, ln_sI, ln_sL, ln_sR, ln_cp, gR_sI, gR_sL, gR_sR, gR_cp, gL_sI, gL_sR, gL_cp, gI_sL, gI_sR, iI_add, iI_sub, iI_mul, iI_neg, iI_in, iI_tn, iI_lt, iI_eq, Nat.reduceLeDiff, Nat.reduceEqDiff, Nat.reduceAdd, Int.reduceEq, Int.reduceLT, Int.reduceLE, Int.reduceNeg, Int.reduceAdd, Int.reduceSub, Int.reduceMul, z1, show ¬ 0 ≤ w by omega, bI_t, bI_f, decide_true, decide_false, Bool.and_true, Bool.and_false, Bool.true_and, Bool.false_and, Bool.false_eq_true, Bool.and_self, Bool.not_true, Bool.not_false]
  · by_cases z2 : w < st D 5
    · simp (disch := omega) only [shM h.1, ↓reduceIte, not_false_eq_true, not_true_eq_false, and_self, and_true, true_and, false_and, and_false, or_true, true_or, or_false, false_or, or_self, reduceCtorEq, mm_q, Option.getD_some, cI_some, cJ_some, cV_some, cS_some, kd_sI, kd_sL, kd_sR, kd_cp, ln_sI, ln_sL, ln_sR, ln_cp, gR_sI, gR_sL, gR_sR, gR_cp, gL_sI, gL_sR, gL_cp, gI_sL, gI_sR, iI_add, iI_sub, iI_mul, iI_neg, iI_in, iI_tn, iI_lt, iI_eq, Nat.reduceLeDiff, Nat.reduceEqDiff, Nat.reduceAdd, Int.reduceEq, Int.reduceLT, Int.reduceLE, Int.reduceNeg, Int.reduceAdd, Int.reduceSub, Int.reduceMul, M216 h, z1, z2, show 0 ≤ w by omega, bI_t, bI_f, decide_true, decide_false, Bool.and_true, Bool.and_false, Bool.true_and, Bool.false_and, Bool.false_eq_true, Bool.and_self, Bool.not_true, Bool.not_false]
    · simp (disch := omega) only [shM h.1, ↓reduceIte, not_false_eq_true, not_true_eq_false, and_self, and_true, true_and, false_and, and_false, or_true, true_or, or_false, false_or, or_self, reduceCtorEq, mm_q, Option.getD_some, cI_some, cJ_some, cV_some, cS_some, kd_sI, kd_sL, kd_sR, kd_cp, ln_sI, ln_sL, ln_sR, ln_cp, gR_sI, gR_sL, gR_sR, gR_cp, gL_sI, gL_sR, gL_cp, gI_sL, gI_sR, iI_add, iI_sub, iI_mul, iI_neg, iI_in, iI_tn, iI_lt, iI_eq, Nat.reduceLeDiff, Nat.reduceEqDiff, Nat.reduceAdd, Int.reduceEq, Int.reduceLT, Int.reduceLE, Int.reduceNeg, Int.reduceAdd, Int.reduceSub, Int.reduceMul, M216 h, z1, z2, bI_t, bI_f, decide_true, decide_false, Bool.and_true, Bool.and_false, Bool.true_and, Bool.false_and, Bool.false_eq_true, Bool.and_self, Bool.not_true, Bool.not_false]
theorem sightS_r {w c : Int} : 0 ≤ sightS D w c ∧ sightS D w c ≤ 2 := by
  unfold sightS
  split
  · omega
  · split
    · split <;> omega
    · omega
/-- passesOf's loop -/
theorem M205L (h : MD D E m) (hI : InvS D) (hL : InvL D) (hIB : InvB D (sa D)) (hd : 4 ≤ d) {w : Int} (hw0 : 0 ≤ w) (hw : w < st D 6) : ∀ (k : Nat) (t n : Int) (was : Bool) (z : Option Value), t = 601 - k → 0 ≤ t → 0 ≤ n → n ≤ t → mm_ev d 205 20 [some (.ref 316), some (.int (iI w)), some (.int (iI n)), some (.int (iI (bI was))), some (.int (iI (tempoS D w (sa D 0)))), some (.int (iI t)), z] [] m = some (some (some (.int (iI (passGo (seenB D (sa D) w) k t was n)))), m)
  | 0, t, n, was, z, ht, _, _, _ => by
    rw [sg_205_20 (by omega)]
    unfold passGo
    simp (disch := omega) only [↓reduceIte, not_false_eq_true, not_true_eq_false, and_self, and_true, true_and, false_and, and_false, or_true, true_or, or_false, false_or, or_self, reduceCtorEq, mm_q, Option.getD_some, cI_some, cJ_some, cV_some, cS_some, kd_sI, kd_sL, kd_sR, kd_cp, ln_sI, ln_sL, ln_sR, ln_cp, gR_sI, gR_sL, gR_sR, gR_cp, gL_sI, gL_sR, gL_cp, gI_sL, gI_sR, iI_add, iI_sub, iI_mul, iI_neg, iI_in, iI_tn, iI_lt, iI_eq, Nat.reduceLeDiff, Nat.reduceEqDiff, Nat.reduceAdd, Int.reduceEq, Int.reduceLT, Int.reduceLE, Int.reduceNeg, Int.reduceAdd, Int.reduceSub, Int.reduceMul, ht, show (601 : Int) - ((0 : Nat) : Int) = 601 from rfl]
  | k + 1, t, n, was, z, ht, t0, n0, n1 => by
    have hI2 := hI
    obtain ⟨⟨c0, c1⟩, -, -, -, -, ⟨k0, k1⟩, -, -, -, hwk, -⟩ := hI
    obtain ⟨-, -, -, -, -, ⟨i0, i1⟩, -⟩ := hwk w hw0 hw
    obtain ⟨⟨s0, s1⟩, ⟨r0, r1⟩, ⟨l0, l1⟩⟩ := hIB.2 w hw0 hw
    have tr := tempoS_r hI2 (take := sa D 0) hw0 hw
    have pr := placeB_r hI2 hIB (take := sa D 0) (tenth := t) (late := true) hw0 hw
    have ih := fun n was z => M205L h hI2 hL hIB hd hw0 hw k (t + 1) n was z (by omega) (by omega)
    have hB := Blk.now h
    rw [sg_205_20 (by omega)]
    simp (disch := omega) only [shM h.1, ↓reduceIte, not_false_eq_true, not_true_eq_false, and_self, and_true, true_and, reduceCtorEq, mm_q, Option.getD_some, cI_some, cJ_some, cV_some, cS_some, Nat.reduceLeDiff, Nat.reduceEqDiff, iI_lt, show ¬ 600 < t by omega, M206 h hB hI2, iI_in, iI_add, iI_tn, MD_sa h]
    rw [sg_205_55 (by omega)]
    simp (disch := omega) only [shM h.1, ↓reduceIte, not_false_eq_true, not_true_eq_false, and_self, and_true, true_and, reduceCtorEq, mm_q, Option.getD_some, cI_some, cJ_some, cV_some, cS_some, Nat.reduceLeDiff, Nat.reduceEqDiff, M207 h hI2]
    rw [sg_205_62 (by omega)]
    unfold passGo
    have e0 : seenB D (sa D) w t = decide (0 < sightS D w (placeS D w (sa D (1 + w)) (sa D (9 + w)) (wk D w 5 + sa D (17 + w)) (tempoS D w (sa D 0)) t)) := by
      unfold seenB placeB
      rw [if_pos rfl]
    unfold placeB at pr
    rw [if_pos rfl] at pr
    simp (disch := omega) only [shM h.1, ↓reduceIte, not_false_eq_true, not_true_eq_false, and_self, and_true, true_and, reduceCtorEq, mm_q, Option.getD_some, cI_some, cJ_some, cV_some, cS_some, Nat.reduceLeDiff, Nat.reduceEqDiff, M211 h hI2]
    have sr := sightS_r (D := D) (w := w) (c := placeS D w (sa D (1 + w)) (sa D (9 + w)) (wk D w 5 + sa D (17 + w)) (tempoS D w (sa D 0)) t)
    rw [e0]
    by_cases z1 : 0 < sightS D w (placeS D w (sa D (1 + w)) (sa D (9 + w)) (wk D w 5 + sa D (17 + w)) (tempoS D w (sa D 0)) t)
    · have e1 := ih (if was = true then n else n + 1) true (some (.int (iI 1)))
      cases was
      · simp (disch := omega) only [↓reduceIte, not_false_eq_true, not_true_eq_false, and_self, and_true, true_and, false_and, and_false, or_true, true_or, or_false, false_or, or_self, reduceCtorEq, mm_q, Option.getD_some, cI_some, cJ_some, cV_some, cS_some, kd_sI, kd_sL, kd_sR, kd_cp, ln_sI, ln_sL, ln_sR, ln_cp, gR_sI, gR_sL, gR_sR, gR_cp, gL_sI, gL_sR, gL_cp, gI_sL, gI_sR, iI_add, iI_sub, iI_mul, iI_neg, iI_in, iI_tn, iI_lt, iI_eq, Nat.reduceLeDiff, Nat.reduceEqDiff, Nat.reduceAdd, Int.reduceEq, Int.reduceLT, Int.reduceLE, Int.reduceNeg, Int.reduceAdd, Int.reduceSub, Int.reduceMul, z1, sg_205_73, sg_205_90, bI_t, bI_f, decide_true, decide_false, Bool.and_true, Bool.and_false, Bool.true_and, Bool.false_and, Bool.false_eq_true, Bool.and_self, Bool.not_true, Bool.not_false] at e1 ⊢
        exact e1 (by omega) (by omega)
      · simp (disch := omega) only [↓reduceIte, not_false_eq_true, not_true_eq_false, and_self, and_true, true_and, false_and, and_false, or_true, true_or, or_false, false_or, or_self, reduceCtorEq, mm_q, Option.getD_some, cI_some, cJ_some, cV_some, cS_some, kd_sI, kd_sL, kd_sR, kd_cp, ln_sI, ln_sL, ln_sR, ln_cp, gR_sI, gR_sL, gR_sR, gR_cp, gL_sI, gL_sR, gL_cp, gI_sL, gI_sR, iI_add, iI_sub, iI_mul, iI_neg, iI_in, iI_tn, iI_lt, iI_eq, Nat.reduceLeDiff, Nat.reduceEqDiff, Nat.reduceAdd, Int.reduceEq, Int.reduceLT, Int.reduceLE, Int.reduceNeg, Int.reduceAdd, Int.reduceSub, Int.reduceMul, z1, sg_205_73, sg_205_89, sg_205_90, bI_t, bI_f, decide_true, decide_false, Bool.and_true, Bool.and_false, Bool.true_and, Bool.false_and, Bool.false_eq_true, Bool.and_self, Bool.not_true, Bool.not_false] at e1 ⊢
        rw [show n + 0 = n by omega]
        exact e1 (by omega) (by omega)
    · have e1 := ih n false (some (.int (iI 0)))
      simp (disch := omega) only [↓reduceIte, not_false_eq_true, not_true_eq_false, and_self, and_true, true_and, false_and, and_false, or_true, true_or, or_false, false_or, or_self, reduceCtorEq, mm_q, Option.getD_some, cI_some, cJ_some, cV_some, cS_some, kd_sI, kd_sL, kd_sR, kd_cp, ln_sI, ln_sL, ln_sR, ln_cp, gR_sI, gR_sL, gR_sR, gR_cp, gL_sI, gL_sR, gL_cp, gI_sL, gI_sR, iI_add, iI_sub, iI_mul, iI_neg, iI_in, iI_tn, iI_lt, iI_eq, Nat.reduceLeDiff, Nat.reduceEqDiff, Nat.reduceAdd, Int.reduceEq, Int.reduceLT, Int.reduceLE, Int.reduceNeg, Int.reduceAdd, Int.reduceSub, Int.reduceMul, z1, sg_205_73, sg_205_89, sg_205_90, bI_t, bI_f, decide_true, decide_false, Bool.and_true, Bool.and_false, Bool.true_and, Bool.false_and, Bool.false_eq_true, Bool.and_self, Bool.not_true, Bool.not_false] at e1 ⊢
      rw [show n + 0 = n by omega]
      exact e1 (by omega) (by omega)
theorem passGo_r (f : Int → Bool) : ∀ (k : Nat) (t : Int) (was : Bool) (n : Int), n ≤ passGo f k t was n ∧ passGo f k t was n ≤ n + k
  | 0, _, _, n => by unfold passGo; omega
  | k + 1, t, was, n => by
    unfold passGo
    have := passGo_r f k (t + 1) (f t) (if f t = true then (if was = true then n else n + 1) else n)
    split at this
    · split at this
      · simp only [*, if_true] at *
        omega
      · next h1 h2 =>
        simp only [h1, h2, if_true] at *
        simp only [Bool.false_eq_true, if_false] at *
        omega
    · next h1 =>
      simp only [h1] at *
      simp only [Bool.false_eq_true, if_false] at *
      omega
theorem M205 (h : MD D E m) (hI : InvS D) (hL : InvL D) (hIB : InvB D (sa D)) (hd : 4 ≤ d) {w : Int} (hw0 : 0 ≤ w) (hw : w < st D 6) : ∃ m', mm_ev d 205 0 [some (.ref 316), some (.int (iI w)), none, none, none, none, none] [] m = some (some (some (.int (iI (passesS D (sa D) w)))), m') ∧ Fr scL m m' := by
  obtain ⟨m', e1, f1⟩ := M202 (d := d - 1) h hI hL (by omega) (take := sa D 0) hw0 hw
  refine ⟨m', ?_, f1⟩
  have e2 := M205L (h.frL f1) hI hL hIB hd hw0 hw 601 0 0 false none (by omega) (by omega) (by omega) (by omega)
  rw [sg_205_0 (by omega)]
  simp (disch := omega) only [shM h.1, ↓reduceIte, not_false_eq_true, not_true_eq_false, and_self, and_true, true_and, false_and, and_false, or_true, true_or, or_false, false_or, or_self, reduceCtorEq, mm_q, Option.getD_some, cI_some, cJ_some, cV_some, cS_some, kd_sI, kd_sL, kd_sR, kd_cp, ln_sI, ln_sL, ln_sR, ln_cp, gR_sI, gR_sL, gR_sR, gR_cp, gL_sI, gL_sR, gL_cp, gI_sL, gI_sR, iI_add, iI_sub, iI_mul, iI_neg, iI_in, iI_tn, iI_lt, iI_eq, Nat.reduceLeDiff, Nat.reduceEqDiff, Nat.reduceAdd, Int.reduceEq, Int.reduceLT, Int.reduceLE, Int.reduceNeg, Int.reduceAdd, Int.reduceSub, Int.reduceMul, MD_sa h, e1]
  exact e2
end
