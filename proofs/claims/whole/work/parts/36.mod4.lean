def clampS (v : Int32) : Int := if v.toInt < 1 then 1 else if 99 < v.toInt then 99 else v.toInt
def tempoS (D : Nat → Nat → Int32) (w take : Int) : Int := if st D 9 < 0 then wk D w 4 else clampS (lawS D 0 (iI (wk D w 4)) (iI take) (st D 9))
def InvL (D : Nat → Nat → Int32) : Prop := (st D 9 = -1 ∨ (0 ≤ st D 9 ∧ lawOk D 0 1100 (st D 9) 0)) ∧ (st D 10 = -1 ∨ (0 ≤ st D 10 ∧ lawOk D 2 1100 (st D 10) 0))
/-- a block of the state -/
def Blk (m : mm_M) (b : Int) (B : Int → Int) : Prop := (0 ≤ b ∧ b ≤ 1760) ∧ ∀ k, 0 ≤ k → k < 25 → mm_gI m 332 (b + k).toNat = iI (B k)
def InvB (D : Nat → Nat → Int32) (B : Int → Int) : Prop := (0 ≤ B 0 ∧ B 0 ≤ 1000) ∧ ∀ w, 0 ≤ w → w < st D 6 → (0 ≤ B (1 + w) ∧ B (1 + w) < st D 0) ∧ (0 ≤ B (9 + w) ∧ B (9 + w) ≤ 1) ∧ (0 ≤ B (17 + w) ∧ B (17 + w) ≤ 99)
def placeB (D : Nat → Nat → Int32) (B : Int → Int) (take : Int) (late : Bool) (w tenth : Int) : Int := placeS D w (B (1 + w)) (B (9 + w)) (wk D w 5 + if late = true then B (17 + w) else 0) (tempoS D w take) tenth
def seenB (D : Nat → Nat → Int32) (B : Int → Int) (w t : Int) : Bool := decide (0 < sightS D w (placeB D B (B 0) true w t))
def passGo (f : Int → Bool) : Nat → Int → Bool → Int → Int
  | 0, _, _, n => n
  | k + 1, t, was, n => passGo f k (t + 1) (f t) (if f t = true then (if was = true then n else n + 1) else n)
def passesS (D : Nat → Nat → Int32) (B : Int → Int) (w : Int) : Int := passGo (seenB D B w) 601 0 false 0
def known2 (passes : Int) (v : Int32) : Int := if passes < 2 then 0 else if v.toInt < 0 then 0 else if 10 < v.toInt then 10 else v.toInt
def knownS (D : Nat → Nat → Int32) (B : Int → Int) (w : Int) : Int := known2 (passesS D B w) (if st D 10 < 0 then iI (passesS D B w - 1) else lawS D 2 (iI (wk D w 0)) (iI (passesS D B w)) (st D 10))
section
variable {D : Nat → Nat → Int32} {E : Nat → Nat → Int64} {m m' : mm_M} {d : Nat} {B : Int → Int} {b : Int}
theorem clampS_r (v : Int32) : 1 ≤ clampS v ∧ clampS v ≤ 99 := by
  unfold clampS; split
  · omega
  · split <;> omega
theorem tempoS_r (hI : InvS D) {w take : Int} (hw0 : 0 ≤ w) (hw : w < st D 6) : 1 ≤ tempoS D w take ∧ tempoS D w take ≤ 99 := by
  obtain ⟨-, -, -, -, -, -, -, -, -, hwk, -⟩ := hI
  obtain ⟨-, -, -, -, ⟨g0, g1⟩, -⟩ := hwk w hw0 hw
  unfold tempoS
  split
  · omega
  · exact clampS_r _
theorem Blk.frL (h : Blk m b B) (f : Fr scL m m') : Blk m' b B := ⟨h.1, fun k h0 h1 => (f.gI rfl).trans (h.2 k h0 h1)⟩
theorem Blk.now (h : MD D E m) : Blk m 0 (sa D) := ⟨by omega, fun k h0 h1 => by
  rw [show (0 : Int) + k = k by omega]
  exact MD_sa h h0 (by omega)⟩
theorem v49 {v : Int32} {l1 l2 : Int32} : mm_ev d 202 49 [some (.ref 316), some (.int l1), some (.int l2), none] [.int v] m = some (some (some (.int (iI (clampS v)))), m) := by
  rw [sg_202_49]
  obtain ⟨z, rfl, h0, h1⟩ := iI_of v
  unfold clampS
  rw [iI_val h0 h1]
  by_cases z1 : z < 1
  · simp (disch := omega) only [↓reduceIte, not_false_eq_true, not_true_eq_false, and_self, and_true, true_and, false_and, and_false, or_true, true_or, or_false, false_or, or_self, reduceCtorEq, mm_q, Option.getD_some, cI_some, cJ_some, cV_some, cS_some, kd_sI, kd_sL, kd_sR, kd_cp, ln_sI, ln_sL, ln_sR, ln_cp, gR_sI, gR_sL, gR_sR, gR_cp, gL_sI, gL_sR, gL_cp, gI_sL, gI_sR, iI_add, iI_sub, iI_mul, iI_neg, iI_in, iI_tn, iI_lt, iI_eq, Nat.reduceLeDiff, Nat.reduceEqDiff, Nat.reduceAdd, Int.reduceEq, Int.reduceLT, Int.reduceLE, Int.reduceNeg, Int.reduceAdd, Int.reduceSub, Int.reduceMul, z1]
  · by_cases z2 : 99 < z
    · simp (disch := omega) only [↓reduceIte, not_false_eq_true, not_true_eq_false, and_self, and_true, true_and, false_and, and_false, or_true, true_or, or_false, false_or, or_self, reduceCtorEq, mm_q, Option.getD_some, cI_some, cJ_some, cV_some, cS_some, kd_sI, kd_sL, kd_sR, kd_cp, ln_sI, ln_sL, ln_sR, ln_cp, gR_sI, gR_sL, gR_sR, gR_cp, gL_sI, gL_sR, gL_cp, gI_sL, gI_sR, iI_add, iI_sub, iI_mul, iI_neg, iI_in, iI_tn, iI_lt, iI_eq, Nat.reduceLeDiff, Nat.reduceEqDiff, Nat.reduceAdd, Int.reduceEq, Int.reduceLT, Int.reduceLE, Int.reduceNeg, Int.reduceAdd, Int.reduceSub, Int.reduceMul, z1, z2]
    · simp (disch := omega) only [↓reduceIte, not_false_eq_true, not_true_eq_false, and_self, and_true, true_and, false_and, and_false, or_true, true_or, or_false, false_or, or_self, reduceCtorEq, mm_q, Option.getD_some, cI_some, cJ_some, cV_some, cS_some, kd_sI, kd_sL, kd_sR, kd_cp, ln_sI, ln_sL, ln_sR, ln_cp, gR_sI, gR_sL, gR_sR, gR_cp, gL_sI, gL_sR, gL_cp, gI_sL, gI_sR, iI_add, iI_sub, iI_mul, iI_neg, iI_in, iI_tn, iI_lt, iI_eq, Nat.reduceLeDiff, Nat.reduceEqDiff, Nat.reduceAdd, Int.reduceEq, Int.reduceLT, Int.reduceLE, Int.reduceNeg, Int.reduceAdd, Int.reduceSub, Int.reduceMul, z1, z2]
/-- tempoOf -/
theorem M202 (h : MD D E m) (hI : InvS D) (hL : InvL D) (hd : 2 ≤ d) {w take : Int} (hw0 : 0 ≤ w) (hw : w < st D 6) : ∃ m', mm_ev d 202 0 [some (.ref 316), some (.int (iI w)), some (.int (iI take)), none] [] m = some (some (some (.int (iI (tempoS D w take)))), m') ∧ Fr scL m m' := by
  obtain ⟨-, -, -, -, -, ⟨k0, k1⟩, -, -, -, hwk, -⟩ := hI
  obtain ⟨-, -, -, -, ⟨g0, g1⟩, -⟩ := hwk w hw0 hw
  have f1 : Fr scL m (mm_sI (mm_sI m 330 0 (iI (wk D w 4))) 330 1 (iI take)) := Fr.tr (Fr.sI rfl) (Fr.sI rfl)
  have h1 := h.frL f1
  have s9 := st_r (D := D) 9
  unfold tempoS
  rcases hL.1 with z | ⟨z, ok⟩
  · refine ⟨_, ?_, f1⟩
    rw [sg_202_0 (by omega)]
    simp (disch := omega) only [shM h.1, ↓reduceIte, not_false_eq_true, not_true_eq_false, and_self, and_true, true_and, reduceCtorEq, mm_q, Option.getD_some, cI_some, cJ_some, cV_some, cS_some, Nat.reduceLeDiff, Nat.reduceEqDiff, M162 h]
    rw [sg_202_11 (by omega)]
    simp (disch := omega) only [shM h.1, ↓reduceIte, not_false_eq_true, not_true_eq_false, and_self, and_true, true_and, false_and, and_false, or_true, true_or, or_false, false_or, or_self, reduceCtorEq, mm_q, Option.getD_some, cI_some, cJ_some, cV_some, cS_some, kd_sI, kd_sL, kd_sR, kd_cp, ln_sI, ln_sL, ln_sR, ln_cp, gR_sI, gR_sL, gR_sR, gR_cp, gL_sI, gL_sR, gL_cp, gI_sL, gI_sR, iI_add, iI_sub, iI_mul, iI_neg, iI_in, iI_tn, iI_lt, iI_eq, Nat.reduceLeDiff, Nat.reduceEqDiff, Nat.reduceAdd, Int.reduceEq, Int.reduceLT, Int.reduceLE, Int.reduceNeg, Int.reduceAdd, Int.reduceSub, Int.reduceMul, gI_sI, MD_st h, z, v49]
    rw [show Int.toNat 0 = 0 from rfl, show Int.toNat 1 = 1 from rfl]
    simp (disch := omega) only [↓reduceIte, not_false_eq_true, not_true_eq_false, and_self, and_true, true_and, false_and, and_false, or_true, true_or, or_false, false_or, or_self, reduceCtorEq, mm_q, Option.getD_some, cI_some, cJ_some, cV_some, cS_some, kd_sI, kd_sL, kd_sR, kd_cp, ln_sI, ln_sL, ln_sR, ln_cp, gR_sI, gR_sL, gR_sR, gR_cp, gL_sI, gL_sR, gL_cp, gI_sL, gI_sR, iI_add, iI_sub, iI_mul, iI_neg, iI_in, iI_tn, iI_lt, iI_eq, Nat.reduceLeDiff, Nat.reduceEqDiff, Nat.reduceAdd, Int.reduceEq, Int.reduceLT, Int.reduceLE, Int.reduceNeg, Int.reduceAdd, Int.reduceSub, Int.reduceMul, gI_sI, v49]
    unfold clampS
    rw [iI_val (by omega) (by omega), if_neg (by omega), if_neg (by omega)]
  · obtain ⟨m', e2, f2⟩ := M203 (D := D) (E := E) (d := d - 1) (by omega) (Or.inl rfl) (x := iI (wk D w 4)) (y := iI take) ok h1 rfl rfl
    refine ⟨m', ?_, f1.tr f2⟩
    rw [sg_202_0 (by omega)]
    simp (disch := omega) only [shM h.1, ↓reduceIte, not_false_eq_true, not_true_eq_false, and_self, and_true, true_and, reduceCtorEq, mm_q, Option.getD_some, cI_some, cJ_some, cV_some, cS_some, Nat.reduceLeDiff, Nat.reduceEqDiff, M162 h]
    rw [sg_202_11 (by omega)]
    simp (disch := omega) only [shM h.1, ↓reduceIte, not_false_eq_true, not_true_eq_false, and_self, and_true, true_and, false_and, and_false, or_true, true_or, or_false, false_or, or_self, reduceCtorEq, mm_q, Option.getD_some, cI_some, cJ_some, cV_some, cS_some, kd_sI, kd_sL, kd_sR, kd_cp, ln_sI, ln_sL, ln_sR, ln_cp, gR_sI, gR_sL, gR_sR, gR_cp, gL_sI, gL_sR, gL_cp, gI_sL, gI_sR, iI_add, iI_sub, iI_mul, iI_neg, iI_in, iI_tn, iI_lt, iI_eq, Nat.reduceLeDiff, Nat.reduceEqDiff, Nat.reduceAdd, Int.reduceEq, Int.reduceLT, Int.reduceLE, Int.reduceNeg, Int.reduceAdd, Int.reduceSub, Int.reduceMul, gI_sI, MD_st h]
    rw [show Int.toNat 0 = 0 from rfl, show Int.toNat 1 = 1 from rfl, if_neg (by omega), if_neg (by omega), e2]
    simp (disch := omega) only [↓reduceIte, not_false_eq_true, not_true_eq_false, and_self, and_true, true_and, false_and, and_false, or_true, true_or, or_false, false_or, or_self, reduceCtorEq, mm_q, Option.getD_some, cI_some, cJ_some, cV_some, cS_some, kd_sI, kd_sL, kd_sR, kd_cp, ln_sI, ln_sL, ln_sR, ln_cp, gR_sI, gR_sL, gR_sR, gR_cp, gL_sI, gL_sR, gL_cp, gI_sL, gI_sR, iI_add, iI_sub, iI_mul, iI_neg, iI_in, iI_tn, iI_lt, iI_eq, Nat.reduceLeDiff, Nat.reduceEqDiff, Nat.reduceAdd, Int.reduceEq, Int.reduceLT, Int.reduceLE, Int.reduceNeg, Int.reduceAdd, Int.reduceSub, Int.reduceMul, v49]
/-- behindOf -/
theorem M206 (h : MD D E m) (hB : Blk m b B) (hI : InvS D) (hd : 1 ≤ d) {w : Int} (hw0 : 0 ≤ w) (hw : w < st D 6) : mm_ev d 206 0 [some (.ref 316), some (.int (iI b)), some (.int (iI w))] [] m = some (some (some (.int (iI (wk D w 5 + B (17 + w))))), m) := by
  obtain ⟨-, -, -, -, -, ⟨k0, k1⟩, -⟩ := hI
  obtain ⟨⟨b0, b1⟩, hb⟩ := hB
  rw [sg_206_0 (by omega)]
  simp (disch := omega) only [shM h.1, ↓reduceIte, not_false_eq_true, not_true_eq_false, and_self, and_true, true_and, reduceCtorEq, mm_q, Option.getD_some, cI_some, cJ_some, cV_some, cS_some, Nat.reduceLeDiff, Nat.reduceEqDiff, M162 h]
  simp (disch := omega) only [shM h.1, ↓reduceIte, not_false_eq_true, not_true_eq_false, and_self, and_true, true_and, false_and, and_false, or_true, true_or, or_false, false_or, or_self, reduceCtorEq, mm_q, Option.getD_some, cI_some, cJ_some, cV_some, cS_some, kd_sI, kd_sL, kd_sR, kd_cp, ln_sI, ln_sL, ln_sR, ln_cp, gR_sI, gR_sL, gR_sR, gR_cp, gL_sI, gL_sR, gL_cp, gI_sL, gI_sR, iI_add, iI_sub, iI_mul, iI_neg, iI_in, iI_tn, iI_lt, iI_eq, Nat.reduceLeDiff, Nat.reduceEqDiff, Nat.reduceAdd, Int.reduceEq, Int.reduceLT, Int.reduceLE, Int.reduceNeg, Int.reduceAdd, Int.reduceSub, Int.reduceMul]
  rw [show b + 17 + w = b + (17 + w) by omega, hb (17 + w) (by omega) (by omega), iI_add]
/-- placeIn -/
theorem M231 (h : MD D E m) (hB : Blk m b B) (hI : InvS D) (hL : InvL D) (hIB : InvB D B) (hd : 4 ≤ d) (late : Bool) {w take tenth : Int} (hw0 : 0 ≤ w) (hw : w < st D 6) (hn0 : 0 ≤ tenth) (hn1 : tenth ≤ 600) : ∃ m', mm_ev d 231 0 [some (.ref 316), some (.int (iI b)), some (.int (iI take)), some (.int (iI (bI late))), some (.int (iI w)), some (.int (iI tenth)), none] [] m = some (some (some (.int (iI (placeB D B take late w tenth)))), m') ∧ Fr scL m m' := by
  have hI2 := hI
  obtain ⟨-, -, -, -, -, ⟨k0, k1⟩, -, -, -, hwk, -⟩ := hI
  obtain ⟨-, -, -, -, ⟨g0, g1⟩, ⟨i0, i1⟩, -⟩ := hwk w hw0 hw
  obtain ⟨⟨b0, b1⟩, hb⟩ := hB
  obtain ⟨⟨s0, s1⟩, ⟨r0, r1⟩, ⟨t0, t1⟩⟩ := hIB.2 w hw0 hw
  obtain ⟨m', e1, f1⟩ := M202 (d := d - 1) h hI2 hL (by omega) (take := take) hw0 hw
  have tr := tempoS_r hI2 (take := take) hw0 hw
  refine ⟨m', ?_, f1⟩
  have key : ∀ x : Int, 0 ≤ x → x ≤ 99 → mm_ev d 231 27 [some (.ref 316), some (.int (iI b)), some (.int (iI take)), some (.int (iI (bI late))), some (.int (iI w)), some (.int (iI tenth)), none] [.int (iI x), .int (iI (wk D w 5))] m = some (some (some (.int (iI (placeS D w (B (1 + w)) (B (9 + w)) (wk D w 5 + x) (tempoS D w take) tenth)))), m') := by
    intro x x0 x1
    rw [sg_231_27 (by omega)]
    simp (disch := omega) only [shM h.1, ↓reduceIte, not_false_eq_true, not_true_eq_false, and_self, and_true, true_and, false_and, and_false, or_true, true_or, or_false, false_or, or_self, reduceCtorEq, mm_q, Option.getD_some, cI_some, cJ_some, cV_some, cS_some, kd_sI, kd_sL, kd_sR, kd_cp, ln_sI, ln_sL, ln_sR, ln_cp, gR_sI, gR_sL, gR_sR, gR_cp, gL_sI, gL_sR, gL_cp, gI_sL, gI_sR, iI_add, iI_sub, iI_mul, iI_neg, iI_in, iI_tn, iI_lt, iI_eq, Nat.reduceLeDiff, Nat.reduceEqDiff, Nat.reduceAdd, Int.reduceEq, Int.reduceLT, Int.reduceLE, Int.reduceNeg, Int.reduceAdd, Int.reduceSub, Int.reduceMul]
    rw [show b + 9 + w = b + (9 + w) by omega, hb (9 + w) (by omega) (by omega), show b + 1 + w = b + (1 + w) by omega, hb (1 + w) (by omega) (by omega), e1]
    simp (disch := omega) only [↓reduceIte, not_false_eq_true, not_true_eq_false, and_self, and_true, true_and, reduceCtorEq, mm_q, Option.getD_some, cI_some, cJ_some, cV_some, cS_some, Nat.reduceLeDiff, Nat.reduceEqDiff]
    rw [sg_231_65 (by omega)]
    simp (disch := omega) only [shM (h.frL f1).1, ↓reduceIte, not_false_eq_true, not_true_eq_false, and_self, and_true, true_and, reduceCtorEq, mm_q, Option.getD_some, cI_some, cJ_some, cV_some, cS_some, Nat.reduceLeDiff, Nat.reduceEqDiff, M207 (h.frL f1) hI2]
  rw [sg_231_0 (by omega)]
  unfold placeB
  simp (disch := omega) only [shM h.1, ↓reduceIte, not_false_eq_true, not_true_eq_false, and_self, and_true, true_and, reduceCtorEq, mm_q, Option.getD_some, cI_some, cJ_some, cV_some, cS_some, Nat.reduceLeDiff, Nat.reduceEqDiff, M162 h]
  cases late
  · simp (disch := omega) only [↓reduceIte, not_false_eq_true, not_true_eq_false, and_self, and_true, true_and, false_and, and_false, or_true, true_or, or_false, false_or, or_self, reduceCtorEq, mm_q, Option.getD_some, cI_some, cJ_some, cV_some, cS_some, kd_sI, kd_sL, kd_sR, kd_cp, ln_sI, ln_sL, ln_sR, ln_cp, gR_sI, gR_sL, gR_sR, gR_cp, gL_sI, gL_sR, gL_cp, gI_sL, gI_sR, iI_add, iI_sub, iI_mul, iI_neg, iI_in, iI_tn, iI_lt, iI_eq, Nat.reduceLeDiff, Nat.reduceEqDiff, Nat.reduceAdd, Int.reduceEq, Int.reduceLT, Int.reduceLE, Int.reduceNeg, Int.reduceAdd, Int.reduceSub, Int.reduceMul, bI_t, bI_f, decide_true, decide_false, Bool.and_true, Bool.and_false, Bool.true_and, Bool.false_and, Bool.false_eq_true, Bool.and_self, Bool.not_true, Bool.not_false] at key ⊢
    exact key 0 (by omega) (by omega)
  · simp (disch := omega) only [bI_t, bI_f, decide_true, decide_false, Bool.and_true, Bool.and_false, Bool.true_and, Bool.false_and, Bool.false_eq_true, Bool.and_self, Bool.not_true, Bool.not_false] at key ⊢
    simp (disch := omega) only [shM h.1, ↓reduceIte, not_false_eq_true, not_true_eq_false, and_self, and_true, true_and, false_and, and_false, or_true, true_or, or_false, false_or, or_self, reduceCtorEq, mm_q, Option.getD_some, cI_some, cJ_some, cV_some, cS_some, kd_sI, kd_sL, kd_sR, kd_cp, ln_sI, ln_sL, ln_sR, ln_cp, gR_sI, gR_sL, gR_sR, gR_cp, gL_sI, gL_sR, gL_cp, gI_sL, gI_sR, iI_add, iI_sub, iI_mul, iI_neg, iI_in, iI_tn, iI_lt, iI_eq, Nat.reduceLeDiff, Nat.reduceEqDiff, Nat.reduceAdd, Int.reduceEq, Int.reduceLT, Int.reduceLE, Int.reduceNeg, Int.reduceAdd, Int.reduceSub, Int.reduceMul]
    rw [show b + 17 + w = b + (17 + w) by omega, hb (17 + w) (by omega) (by omega)]
    exact key _ t0 t1
/-- placeNow -/
theorem M234 (h : MD D E m) (hI : InvS D) (hL : InvL D) (hIB : InvB D (sa D)) (hd : 5 ≤ d) {w tenth : Int} (hw0 : 0 ≤ w) (hw : w < st D 6) (hn0 : 0 ≤ tenth) (hn1 : tenth ≤ 600) : ∃ m', mm_ev d 234 0 [some (.ref 316), some (.int (iI w)), some (.int (iI tenth))] [] m = some (some (some (.int (iI (placeB D (sa D) (sa D 0) true w tenth)))), m') ∧ Fr scL m m' := by
  obtain ⟨m', e1, f1⟩ := M231 (d := d - 1) h (Blk.now h) hI hL hIB (by omega) true (take := sa D 0) hw0 hw hn0 hn1
  refine ⟨m', ?_, f1⟩
  rw [sg_234_0 (by omega)]
  simp (disch := omega) only [shM h.1, ↓reduceIte, not_false_eq_true, not_true_eq_false, and_self, and_true, true_and, false_and, and_false, or_true, true_or, or_false, false_or, or_self, reduceCtorEq, mm_q, Option.getD_some, cI_some, cJ_some, cV_some, cS_some, kd_sI, kd_sL, kd_sR, kd_cp, ln_sI, ln_sL, ln_sR, ln_cp, gR_sI, gR_sL, gR_sR, gR_cp, gL_sI, gL_sR, gL_cp, gI_sL, gI_sR, iI_add, iI_sub, iI_mul, iI_neg, iI_in, iI_tn, iI_lt, iI_eq, Nat.reduceLeDiff, Nat.reduceEqDiff, Nat.reduceAdd, Int.reduceEq, Int.reduceLT, Int.reduceLE, Int.reduceNeg, Int.reduceAdd, Int.reduceSub, Int.reduceMul, MD_sa h]
  rw [bI_t] at e1
  rw [e1]
  simp (disch := omega) only [↓reduceIte, not_false_eq_true, not_true_eq_false, and_self, and_true, true_and, reduceCtorEq, mm_q, Option.getD_some, cI_some, cJ_some, cV_some, cS_some, Nat.reduceLeDiff, Nat.reduceEqDiff]
end
