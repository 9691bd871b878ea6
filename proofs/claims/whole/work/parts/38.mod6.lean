section
variable {D : Nat → Nat → Int32} {E : Nat → Nat → Int64} {m m' : mm_M} {d : Nat} {B : Int → Int} {b : Int}
theorem passesS_r {w : Int} : 0 ≤ passesS D B w ∧ passesS D B w ≤ 601 := by
  unfold passesS
  have := passGo_r (seenB D B w) 601 0 false 0
  omega
theorem v213 {v : Int32} {p : Int} {l1 : Int32} (p0 : 0 ≤ p) (p1 : p ≤ 601) : mm_ev d 213 52 [some (.ref 316), some (.int l1), some (.int (iI p)), none] [.int v] m = some (some (some (.int (iI (known2 p v)))), m) := by
  rw [sg_213_52]
  obtain ⟨z, rfl, h0, h1⟩ := iI_of v
  unfold known2
  rw [iI_val h0 h1]
  by_cases z0 : p < 2
  · simp (disch := omega) only [↓reduceIte, not_false_eq_true, not_true_eq_false, and_self, and_true, true_and, false_and, and_false, or_true, true_or, or_false, false_or, or_self, reduceCtorEq, mm_q, Option.getD_some, cI_some, cJ_some, cV_some, cS_some, kd_sI, kd_sL, kd_sR, kd_cp, ln_sI, ln_sL, ln_sR, ln_cp, gR_sI, gR_sL, gR_sR, gR_cp, gL_sI, gL_sR, gL_cp, gI_sL, gI_sR, iI_add, iI_sub, iI_mul, iI_neg, iI_in, iI_tn, iI_lt, iI_eq, Nat.reduceLeDiff, Nat.reduceEqDiff, Nat.reduceAdd, Int.reduceEq, Int.reduceLT, Int.reduceLE, Int.reduceNeg, Int.reduceAdd, Int.reduceSub, Int.reduceMul, z0]
  · by_cases z1 : z < 0
    · simp (disch := omega) only [↓reduceIte, not_false_eq_true, not_true_eq_false, and_self, and_true, true_and, false_and, and_false, or_true, true_or, or_false, false_or, or_self, reduceCtorEq, mm_q, Option.getD_some, cI_some, cJ_some, cV_some, cS_some, kd_sI, kd_sL, kd_sR, kd_cp, ln_sI, ln_sL, ln_sR, ln_cp, gR_sI, gR_sL, gR_sR, gR_cp, gL_sI, gL_sR, gL_cp, gI_sL, gI_sR, iI_add, iI_sub, iI_mul, iI_neg, iI_in, iI_tn, iI_lt, iI_eq, Nat.reduceLeDiff, Nat.reduceEqDiff, Nat.reduceAdd, Int.reduceEq, Int.reduceLT, Int.reduceLE, Int.reduceNeg, Int.reduceAdd, Int.reduceSub, Int.reduceMul, z0, z1]
    · by_cases z2 : 10 < z
      · simp (disch := omega) only [↓reduceIte, not_false_eq_true, not_true_eq_false, and_self, and_true, true_and, false_and, and_false, or_true, true_or, or_false, false_or, or_self, reduceCtorEq, mm_q, Option.getD_some, cI_some, cJ_some, cV_some, cS_some, kd_sI, kd_sL, kd_sR, kd_cp, ln_sI, ln_sL, ln_sR, ln_cp, gR_sI, gR_sL, gR_sR, gR_cp, gL_sI, gL_sR, gL_cp, gI_sL, gI_sR, iI_add, iI_sub, iI_mul, iI_neg, iI_in, iI_tn, iI_lt, iI_eq, Nat.reduceLeDiff, Nat.reduceEqDiff, Nat.reduceAdd, Int.reduceEq, Int.reduceLT, Int.reduceLE, Int.reduceNeg, Int.reduceAdd, Int.reduceSub, Int.reduceMul, z0, z1, z2]
      · simp (disch := omega) only [↓reduceIte, not_false_eq_true, not_true_eq_false, and_self, and_true, true_and, false_and, and_false, or_true, true_or, or_false, false_or, or_self, reduceCtorEq, mm_q, Option.getD_some, cI_some, cJ_some, cV_some, cS_some, kd_sI, kd_sL, kd_sR, kd_cp, ln_sI, ln_sL, ln_sR, ln_cp, gR_sI, gR_sL, gR_sR, gR_cp, gL_sI, gL_sR, gL_cp, gI_sL, gI_sR, iI_add, iI_sub, iI_mul, iI_neg, iI_in, iI_tn, iI_lt, iI_eq, Nat.reduceLeDiff, Nat.reduceEqDiff, Nat.reduceAdd, Int.reduceEq, Int.reduceLT, Int.reduceLE, Int.reduceNeg, Int.reduceAdd, Int.reduceSub, Int.reduceMul, z0, z1, z2]
/-- knownOf -/
theorem M213 (h : MD D E m) (hI : InvS D) (hL : InvL D) (hIB : InvB D (sa D)) (hd : 5 ≤ d) {w : Int} (hw0 : 0 ≤ w) (hw : w < st D 6) : ∃ m', mm_ev d 213 0 [some (.ref 316), some (.int (iI w)), none, none] [] m = some (some (some (.int (iI (knownS D (sa D) w)))), m') ∧ Fr scL m m' := by
  obtain ⟨m1, e1, f1⟩ := M205 (d := d - 1) h hI hL hIB (by omega) hw0 hw
  have h1 := h.frL f1
  have pr := passesS_r (D := D) (B := sa D) (w := w)
  obtain ⟨-, -, -, -, -, ⟨k0, k1⟩, -⟩ := hI
  have f2 : Fr scL m1 (mm_sI (mm_sI m1 330 2 (iI (wk D w 0))) 330 3 (iI (passesS D (sa D) w))) := Fr.tr (Fr.sI rfl) (Fr.sI rfl)
  have h2 := h1.frL f2
  have s9 := st_r (D := D) 10
  unfold knownS
  rcases hL.2 with z | ⟨z, ok⟩
  · refine ⟨_, ?_, f1.tr f2⟩
    rw [sg_213_0 (by omega)]
    simp (disch := omega) only [shM h.1, ↓reduceIte, not_false_eq_true, not_true_eq_false, and_self, and_true, true_and, reduceCtorEq, mm_q, Option.getD_some, cI_some, cJ_some, cV_some, cS_some, Nat.reduceLeDiff, Nat.reduceEqDiff, e1]
    rw [sg_213_5 (by omega)]
    simp (disch := omega) only [shM h1.1, ↓reduceIte, not_false_eq_true, not_true_eq_false, and_self, and_true, true_and, reduceCtorEq, mm_q, Option.getD_some, cI_some, cJ_some, cV_some, cS_some, Nat.reduceLeDiff, Nat.reduceEqDiff, M162 h1]
    rw [sg_213_17 (by omega)]
    simp (disch := omega) only [shM h1.1, ↓reduceIte, not_false_eq_true, not_true_eq_false, and_self, and_true, true_and, false_and, and_false, or_true, true_or, or_false, false_or, or_self, reduceCtorEq, mm_q, Option.getD_some, cI_some, cJ_some, cV_some, cS_some, kd_sI, kd_sL, kd_sR, kd_cp, ln_sI, ln_sL, ln_sR, ln_cp, gR_sI, gR_sL, gR_sR, gR_cp, gL_sI, gL_sR, gL_cp, gI_sL, gI_sR, iI_add, iI_sub, iI_mul, iI_neg, iI_in, iI_tn, iI_lt, iI_eq, Nat.reduceLeDiff, Nat.reduceEqDiff, Nat.reduceAdd, Int.reduceEq, Int.reduceLT, Int.reduceLE, Int.reduceNeg, Int.reduceAdd, Int.reduceSub, Int.reduceMul, gI_sI, MD_st h1, z, v213]
    rfl
  · obtain ⟨m', e2, f3⟩ := M203 (D := D) (E := E) (d := d - 1) (by omega) (Or.inr rfl) (x := iI (wk D w 0)) (y := iI (passesS D (sa D) w)) ok h2 rfl rfl
    refine ⟨m', ?_, (f1.tr f2).tr f3⟩
    rw [sg_213_0 (by omega)]
    simp (disch := omega) only [shM h.1, ↓reduceIte, not_false_eq_true, not_true_eq_false, and_self, and_true, true_and, reduceCtorEq, mm_q, Option.getD_some, cI_some, cJ_some, cV_some, cS_some, Nat.reduceLeDiff, Nat.reduceEqDiff, e1]
    rw [sg_213_5 (by omega)]
    simp (disch := omega) only [shM h1.1, ↓reduceIte, not_false_eq_true, not_true_eq_false, and_self, and_true, true_and, reduceCtorEq, mm_q, Option.getD_some, cI_some, cJ_some, cV_some, cS_some, Nat.reduceLeDiff, Nat.reduceEqDiff, M162 h1]
    rw [sg_213_17 (by omega)]
    simp (disch := omega) only [shM h1.1, ↓reduceIte, not_false_eq_true, not_true_eq_false, and_self, and_true, true_and, false_and, and_false, or_true, true_or, or_false, false_or, or_self, reduceCtorEq, mm_q, Option.getD_some, cI_some, cJ_some, cV_some, cS_some, kd_sI, kd_sL, kd_sR, kd_cp, ln_sI, ln_sL, ln_sR, ln_cp, gR_sI, gR_sL, gR_sR, gR_cp, gL_sI, gL_sR, gL_cp, gI_sL, gI_sR, iI_add, iI_sub, iI_mul, iI_neg, iI_in, iI_tn, iI_lt, iI_eq, Nat.reduceLeDiff, Nat.reduceEqDiff, Nat.reduceAdd, Int.reduceEq, Int.reduceLT, Int.reduceLE, Int.reduceNeg, Int.reduceAdd, Int.reduceSub, Int.reduceMul, gI_sI, MD_st h1]
    rw [show Int.toNat 2 = 2 from rfl, show Int.toNat 3 = 3 from rfl, if_neg (by omega), if_neg (by omega), e2]
    simp (disch := omega) only [↓reduceIte, not_false_eq_true, not_true_eq_false, and_self, and_true, true_and, false_and, and_false, or_true, true_or, or_false, false_or, or_self, reduceCtorEq, mm_q, Option.getD_some, cI_some, cJ_some, cV_some, cS_some, kd_sI, kd_sL, kd_sR, kd_cp, ln_sI, ln_sL, ln_sR, ln_cp, gR_sI, gR_sL, gR_sR, gR_cp, gL_sI, gL_sR, gL_cp, gI_sL, gI_sR, iI_add, iI_sub, iI_mul, iI_neg, iI_in, iI_tn, iI_lt, iI_eq, Nat.reduceLeDiff, Nat.reduceEqDiff, Nat.reduceAdd, Int.reduceEq, Int.reduceLT, Int.reduceLE, Int.reduceNeg, Int.reduceAdd, Int.reduceSub, Int.reduceMul, v213]
theorem offB_r (hI : InvS D) (hB : InvB D B) {q take : Int} {late : Bool} (hq0 : 0 ≤ q) (hq : q < st D 7) : 0 ≤ offB D B take late q ∧ offB D B take late q ≤ 100 := by
  have hI2 := hI
  obtain ⟨⟨c0, c1⟩, -, -, -, -, -, -, -, -, -, hmu⟩ := hI
  obtain ⟨⟨a0, a1⟩, ⟨b0, b1⟩, ⟨d0, d1⟩⟩ := hmu q hq0 hq
  have pr := placeB_r hI2 hB (take := take) (late := late) (tenth := te D (mu D q 1)) a0 a1
  unfold offB
  split
  · omega
  · split <;> omega
/-- offIn -/
theorem M229 (h : MD D E m) (hB : Blk m b B) (hI : InvS D) (hL : InvL D) (hIB : InvB D B) (hd : 5 ≤ d) (late : Bool) {q take : Int} (hq0 : 0 ≤ q) (hq : q < st D 7) : ∃ m', mm_ev d 229 0 [some (.ref 316), some (.int (iI b)), some (.int (iI take)), some (.int (iI (bI late))), some (.int (iI q)), none, none] [] m = some (some (some (.int (iI (offB D B take late q)))), m') ∧ Fr scL m m' := by
  have hI2 := hI
  obtain ⟨⟨c0, c1⟩, -, -, -, ⟨w0, w1⟩, ⟨k0, k1⟩, ⟨q0, q1⟩, -, hte, -, hmu⟩ := hI
  obtain ⟨⟨a0, a1⟩, ⟨b0, b1⟩, ⟨d0, d1⟩⟩ := hmu q hq0 hq
  obtain ⟨t0, t1⟩ := hte _ b0 b1
  obtain ⟨m', e1, f1⟩ := M231 (d := d - 1) h hB hI2 hL hIB (by omega) late (take := take) a0 a1 t0 t1
  have pr := placeB_r hI2 hIB (take := take) (late := late) (tenth := te D (mu D q 1)) a0 a1
  refine ⟨m', ?_, f1⟩
  rw [sg_229_0 (by omega)]
  simp (disch := omega) only [shM h.1, ↓reduceIte, not_false_eq_true, not_true_eq_false, and_self, and_true, true_and, reduceCtorEq, mm_q, Option.getD_some, cI_some, cJ_some, cV_some, cS_some, Nat.reduceLeDiff, Nat.reduceEqDiff, M230 h]
  rw [sg_229_11 (by omega)]
  simp (disch := omega) only [shM h.1, ↓reduceIte, not_false_eq_true, not_true_eq_false, and_self, and_true, true_and, reduceCtorEq, mm_q, Option.getD_some, cI_some, cJ_some, cV_some, cS_some, Nat.reduceLeDiff, Nat.reduceEqDiff, M230 h]
  rw [sg_229_19 (by omega)]
  simp (disch := omega) only [shM h.1, ↓reduceIte, not_false_eq_true, not_true_eq_false, and_self, and_true, true_and, reduceCtorEq, mm_q, Option.getD_some, cI_some, cJ_some, cV_some, cS_some, Nat.reduceLeDiff, Nat.reduceEqDiff, M210 h]
  rw [sg_229_22 (by omega)]
  simp (disch := omega) only [shM h.1, ↓reduceIte, not_false_eq_true, not_true_eq_false, and_self, and_true, true_and, reduceCtorEq, mm_q, Option.getD_some, cI_some, cJ_some, cV_some, cS_some, Nat.reduceLeDiff, Nat.reduceEqDiff, e1]
  rw [sg_229_25 (by omega)]
  unfold offB
  simp (disch := omega) only [shM (h.frL f1).1, ↓reduceIte, not_false_eq_true, not_true_eq_false, and_self, and_true, true_and, false_and, and_false, or_true, true_or, or_false, false_or, or_self, reduceCtorEq, mm_q, Option.getD_some, cI_some, cJ_some, cV_some, cS_some, kd_sI, kd_sL, kd_sR, kd_cp, ln_sI, ln_sL, ln_sR, ln_cp, gR_sI, gR_sL, gR_sR, gR_cp, gL_sI, gL_sR, gL_cp, gI_sL, gI_sR, iI_add, iI_sub, iI_mul, iI_neg, iI_in, iI_tn, iI_lt, iI_eq, Nat.reduceLeDiff, Nat.reduceEqDiff, Nat.reduceAdd, Int.reduceEq, Int.reduceLT, Int.reduceLE, Int.reduceNeg, Int.reduceAdd, Int.reduceSub, Int.reduceMul, M230 (h.frL f1)]
  split
  · rfl
  · split <;> rfl
/-- missedIn's loop -/
theorem M227L (hI : InvS D) (hL : InvL D) (hIB : InvB D B) (hd : 6 ≤ d) : ∀ (k : Nat) (q n : Int) (m : mm_M), q = st D 7 - k → 0 ≤ q → 0 ≤ n → n ≤ q → MD D E m → Blk m b B → ∃ m', mm_ev d 227 4 [some (.ref 316), some (.int (iI b)), some (.int (iI n)), some (.int (iI q))] [] m = some (some (some (.int (iI (cntGo (fun q => decide (0 < offB D B (B 0) true q)) k q n)))), m') ∧ Fr scL m m'
  | 0, q, n, m, hq, _, _, _, h, hB => by
    obtain ⟨-, -, -, -, -, -, ⟨q0, q1⟩, -⟩ := hI
    refine ⟨m, ?_, Fr.rf⟩
    rw [sg_227_4 (by omega)]
    simp (disch := omega) only [shM h.1, ↓reduceIte, not_false_eq_true, not_true_eq_false, and_self, and_true, true_and, reduceCtorEq, mm_q, Option.getD_some, cI_some, cJ_some, cV_some, cS_some, Nat.reduceLeDiff, Nat.reduceEqDiff, M228 h]
    rw [sg_227_9 (by omega)]
    unfold cntGo
    simp (disch := omega) only [↓reduceIte, not_false_eq_true, not_true_eq_false, and_self, and_true, true_and, false_and, and_false, or_true, true_or, or_false, false_or, or_self, reduceCtorEq, mm_q, Option.getD_some, cI_some, cJ_some, cV_some, cS_some, kd_sI, kd_sL, kd_sR, kd_cp, ln_sI, ln_sL, ln_sR, ln_cp, gR_sI, gR_sL, gR_sR, gR_cp, gL_sI, gL_sR, gL_cp, gI_sL, gI_sR, iI_add, iI_sub, iI_mul, iI_neg, iI_in, iI_tn, iI_lt, iI_eq, Nat.reduceLeDiff, Nat.reduceEqDiff, Nat.reduceAdd, Int.reduceEq, Int.reduceLT, Int.reduceLE, Int.reduceNeg, Int.reduceAdd, Int.reduceSub, Int.reduceMul, show ¬ q < st D 7 by omega]
  | k + 1, q, n, m, hq, hq0, n0, n1, h, hB => by
    have hI2 := hI
    obtain ⟨-, -, -, -, -, -, ⟨q0, q1⟩, -⟩ := hI
    obtain ⟨m1, e1, f1⟩ := M229 (d := d - 1) h hB hI2 hL hIB (by omega) true (take := B 0) hq0 (show q < st D 7 by omega)
    have r := offB_r hI2 hIB (take := B 0) (late := true) hq0 (show q < st D 7 by omega)
    obtain ⟨⟨b0, b1⟩, hb⟩ := hB
    have e0 := hb 0 (by omega) (by omega)
    obtain ⟨m', e2, f2⟩ := M227L hI2 hL hIB hd k (q + 1) (if 0 < offB D B (B 0) true q then n + 1 else n) m1 (by omega) (by omega) (by split <;> omega) (by split <;> omega) (h.frL f1) (Blk.frL ⟨⟨b0, b1⟩, hb⟩ f1)
    refine ⟨m', ?_, f1.tr f2⟩
    rw [sg_227_4 (by omega)]
    simp (disch := omega) only [shM h.1, ↓reduceIte, not_false_eq_true, not_true_eq_false, and_self, and_true, true_and, reduceCtorEq, mm_q, Option.getD_some, cI_some, cJ_some, cV_some, cS_some, Nat.reduceLeDiff, Nat.reduceEqDiff, M228 h]
    rw [sg_227_9 (by omega)]
    unfold cntGo
    rw [bI_t] at e1
    simp (disch := omega) only [shM h.1, ↓reduceIte, not_false_eq_true, not_true_eq_false, and_self, and_true, true_and, false_and, and_false, or_true, true_or, or_false, false_or, or_self, reduceCtorEq, mm_q, Option.getD_some, cI_some, cJ_some, cV_some, cS_some, kd_sI, kd_sL, kd_sR, kd_cp, ln_sI, ln_sL, ln_sR, ln_cp, gR_sI, gR_sL, gR_sR, gR_cp, gL_sI, gL_sR, gL_cp, gI_sL, gI_sR, iI_add, iI_sub, iI_mul, iI_neg, iI_in, iI_tn, iI_lt, iI_eq, Nat.reduceLeDiff, Nat.reduceEqDiff, Nat.reduceAdd, Int.reduceEq, Int.reduceLT, Int.reduceLE, Int.reduceNeg, Int.reduceAdd, Int.reduceSub, Int.reduceMul, show q < st D 7 by omega, e0, e1, decide_eq_true_eq, sg_227_36]
    by_cases z : 0 < offB D B (B 0) true q
    · simp (disch := omega) only [↓reduceIte, not_false_eq_true, not_true_eq_false, and_self, and_true, true_and, false_and, and_false, or_true, true_or, or_false, false_or, or_self, reduceCtorEq, mm_q, Option.getD_some, cI_some, cJ_some, cV_some, cS_some, kd_sI, kd_sL, kd_sR, kd_cp, ln_sI, ln_sL, ln_sR, ln_cp, gR_sI, gR_sL, gR_sR, gR_cp, gL_sI, gL_sR, gL_cp, gI_sL, gI_sR, iI_add, iI_sub, iI_mul, iI_neg, iI_in, iI_tn, iI_lt, iI_eq, Nat.reduceLeDiff, Nat.reduceEqDiff, Nat.reduceAdd, Int.reduceEq, Int.reduceLT, Int.reduceLE, Int.reduceNeg, Int.reduceAdd, Int.reduceSub, Int.reduceMul, z] at e2 ⊢
      exact e2
    · simp (disch := omega) only [↓reduceIte, not_false_eq_true, not_true_eq_false, and_self, and_true, true_and, false_and, and_false, or_true, true_or, or_false, false_or, or_self, reduceCtorEq, mm_q, Option.getD_some, cI_some, cJ_some, cV_some, cS_some, kd_sI, kd_sL, kd_sR, kd_cp, ln_sI, ln_sL, ln_sR, ln_cp, gR_sI, gR_sL, gR_sR, gR_cp, gL_sI, gL_sR, gL_cp, gI_sL, gI_sR, iI_add, iI_sub, iI_mul, iI_neg, iI_in, iI_tn, iI_lt, iI_eq, Nat.reduceLeDiff, Nat.reduceEqDiff, Nat.reduceAdd, Int.reduceEq, Int.reduceLT, Int.reduceLE, Int.reduceNeg, Int.reduceAdd, Int.reduceSub, Int.reduceMul, z] at e2 ⊢
      rw [show n + 0 = n by omega]
      exact e2
theorem M227 (h : MD D E m) (hB : Blk m b B) (hI : InvS D) (hL : InvL D) (hIB : InvB D B) (hd : 6 ≤ d) : ∃ m', mm_ev d 227 0 [some (.ref 316), some (.int (iI b)), none, none] [] m = some (some (some (.int (iI (missedB D B)))), m') ∧ Fr scL m m' := by
  have hI2 := hI
  obtain ⟨-, -, -, -, -, -, ⟨q0, q1⟩, -⟩ := hI
  obtain ⟨m', e1, f1⟩ := M227L (E := E) (b := b) hI2 hL hIB hd (st D 7).toNat 0 0 m (by omega) (by omega) (by omega) (by omega) h hB
  refine ⟨m', ?_, f1⟩
  rw [sg_227_0]
  exact e1
end
