section
variable {D : Nat → Nat → Int32} {m m' m'' : mm_M} {d s W L : Nat} {B : Int → Int} {take : Int} {late : Bool}
theorem RW.fr (h : RW D m s W B take late) (hW : isW W) {P : Nat → Nat → Bool} (f : Fr P m m') (hP : ∀ a k, W + 1 ≤ a → a ≤ W + 5 → ¬ a = W + 4 → P a k = false) : RW D m' s W B take late := ⟨(f.2.2.1 _ _).trans h.1, fun w w0 w1 => by
  obtain ⟨a, b, c, e⟩ := h.2 w w0 w1
  exact ⟨(f.gI (hP _ _ (by omega) (by omega) (by omega))).trans a, (f.gI (hP _ _ (by omega) (by omega) (by omega))).trans b, (f.gI (hP _ _ (by omega) (by omega) (by omega))).trans c, (f.gI (hP _ _ (by omega) (by omega) (by omega))).trans e⟩⟩
theorem seen_f (hI : InvS D) {w t : Int} : seenB D B w t = framedS D (placeB D B (B 0) true w t) := by
  unfold seenB
  have := sight_f hI (w := w) (c := placeB D B (B 0) true w t)
  cases z : framedS D (placeB D B (B 0) true w t)
  · rw [z] at this
    exact decide_eq_false (fun h => absurd (this.mp h) (by decide))
  · exact decide_eq_true (this.mpr z)
/-- Walks.passesOf -/
theorem C86L (hs : Sh m) (hst : isSt s) (hW : isW W) (hR : RSt D m s) (hw : RW D m s W B (B 0) true) (hI : InvS D) (hB : InvB D B) (hd : 3 ≤ d) {w : Int} (w0 : 0 ≤ w) (w1 : w < st D 6) : ∀ (k : Nat) (t n : Int) (was : Bool) (z : Option Value), t = 601 - k → 0 ≤ t → mm_ev d 86 7 [some (.ref W), some (.int (iI (w))), some (.int (iI (n))), some (.int (iI (bI was))), some (.int (iI (t))), z] [] m = some (some (some (.int (iI (passGo (seenB D B w) k t was n)))), m)
  | 0, t, n, was, z, ht, _ => by
    rw [sg_86_7 (by omega)]
    unfold passGo
    simp (disch := omega) only [↓reduceIte, not_false_eq_true, not_true_eq_false, and_self, and_true, true_and, false_and, and_false, or_true, true_or, or_false, false_or, or_self, reduceCtorEq, mm_q, Option.getD_some, cI_some, cJ_some, cV_some, cS_some, kd_sI, kd_sL, kd_sR, kd_cp, ln_sI, ln_sL, ln_sR, ln_cp, gR_sI, gR_sL, gR_sR, gR_cp, gL_sI, gL_sR, gL_cp, gI_sL, gI_sR, iI_add, iI_sub, iI_mul, iI_neg, iI_in, iI_tn, iI_lt, iI_eq, Nat.reduceLeDiff, Nat.reduceEqDiff, Nat.reduceAdd, Int.reduceEq, Int.reduceLT, Int.reduceLE, Int.reduceNeg, Int.reduceAdd, Int.reduceSub, Int.reduceMul, show 600 < t by omega]
  | k + 1, t, n, was, z, ht, t0 => by
    have wf := wF hs hW
    obtain ⟨c0, c1⟩ := hI.1
    have pr := placeB_r hI hB (take := B 0) (tenth := t) (late := true) w0 w1
    have ih := fun n was z => C86L hs hst hW hR hw hI hB hd w0 w1 k (t + 1) n was z (by omega) (by omega)
    rw [sg_86_7 (by omega)]
    unfold passGo
    rw [seen_f hI]
    simp (disch := omega) only [wf, hw.1, ↓reduceIte, not_false_eq_true, not_true_eq_false, and_self, and_true, true_and, false_and, and_false, or_true, true_or, or_false, false_or, or_self, reduceCtorEq, mm_q, Option.getD_some, cI_some, cJ_some, cV_some, cS_some, kd_sI, kd_sL, kd_sR, kd_cp, ln_sI, ln_sL, ln_sR, ln_cp, gR_sI, gR_sL, gR_sR, gR_cp, gL_sI, gL_sR, gL_cp, gI_sL, gI_sR, iI_add, iI_sub, iI_mul, iI_neg, iI_in, iI_tn, iI_lt, iI_eq, Nat.reduceLeDiff, Nat.reduceEqDiff, Nat.reduceAdd, Int.reduceEq, Int.reduceLT, Int.reduceLE, Int.reduceNeg, Int.reduceAdd, Int.reduceSub, Int.reduceMul, show ¬ 600 < t by omega, C87 hs hst hW hR hw hI hB (d := d - 1) (by omega) w0 w1 t0 (show t ≤ 600 by omega)]
    rw [sg_86_26 (by omega)]
    have sf := stF hs hst
    simp (disch := omega) only [sf, ↓reduceIte, not_false_eq_true, not_true_eq_false, and_self, and_true, true_and, false_and, and_false, or_true, true_or, or_false, false_or, or_self, reduceCtorEq, mm_q, Option.getD_some, cI_some, cJ_some, cV_some, cS_some, kd_sI, kd_sL, kd_sR, kd_cp, ln_sI, ln_sL, ln_sR, ln_cp, gR_sI, gR_sL, gR_sR, gR_cp, gL_sI, gL_sR, gL_cp, gI_sL, gI_sR, iI_add, iI_sub, iI_mul, iI_neg, iI_in, iI_tn, iI_lt, iI_eq, Nat.reduceLeDiff, Nat.reduceEqDiff, Nat.reduceAdd, Int.reduceEq, Int.reduceLT, Int.reduceLE, Int.reduceNeg, Int.reduceAdd, Int.reduceSub, Int.reduceMul, C72 hs hst hR hI]
    cases z1 : framedS D (placeB D B (B 0) true w t)
    · have e := ih n false (some (.int (iI (0))))
      simp (disch := omega) only [↓reduceIte, not_false_eq_true, not_true_eq_false, and_self, and_true, true_and, false_and, and_false, or_true, true_or, or_false, false_or, or_self, reduceCtorEq, mm_q, Option.getD_some, cI_some, cJ_some, cV_some, cS_some, kd_sI, kd_sL, kd_sR, kd_cp, ln_sI, ln_sL, ln_sR, ln_cp, gR_sI, gR_sL, gR_sR, gR_cp, gL_sI, gL_sR, gL_cp, gI_sL, gI_sR, iI_add, iI_sub, iI_mul, iI_neg, iI_in, iI_tn, iI_lt, iI_eq, Nat.reduceLeDiff, Nat.reduceEqDiff, Nat.reduceAdd, Int.reduceEq, Int.reduceLT, Int.reduceLE, Int.reduceNeg, Int.reduceAdd, Int.reduceSub, Int.reduceMul, bI_t, bI_f, decide_true, decide_false, Bool.and_true, Bool.and_false, Bool.true_and, Bool.false_and, Bool.false_eq_true, Bool.and_self, Bool.not_true, Bool.not_false, Bool.true_or, Bool.false_or, Bool.or_true, Bool.or_false, sg_86_43] at e ⊢
      exact e
    · cases was
      · have e := ih (n + 1) true (some (.int (iI (1))))
        simp (disch := omega) only [↓reduceIte, not_false_eq_true, not_true_eq_false, and_self, and_true, true_and, false_and, and_false, or_true, true_or, or_false, false_or, or_self, reduceCtorEq, mm_q, Option.getD_some, cI_some, cJ_some, cV_some, cS_some, kd_sI, kd_sL, kd_sR, kd_cp, ln_sI, ln_sL, ln_sR, ln_cp, gR_sI, gR_sL, gR_sR, gR_cp, gL_sI, gL_sR, gL_cp, gI_sL, gI_sR, iI_add, iI_sub, iI_mul, iI_neg, iI_in, iI_tn, iI_lt, iI_eq, Nat.reduceLeDiff, Nat.reduceEqDiff, Nat.reduceAdd, Int.reduceEq, Int.reduceLT, Int.reduceLE, Int.reduceNeg, Int.reduceAdd, Int.reduceSub, Int.reduceMul, bI_t, bI_f, decide_true, decide_false, Bool.and_true, Bool.and_false, Bool.true_and, Bool.false_and, Bool.false_eq_true, Bool.and_self, Bool.not_true, Bool.not_false, Bool.true_or, Bool.false_or, Bool.or_true, Bool.or_false, sg_86_43] at e ⊢
        exact e
      · have e := ih n true (some (.int (iI (1))))
        simp (disch := omega) only [↓reduceIte, not_false_eq_true, not_true_eq_false, and_self, and_true, true_and, false_and, and_false, or_true, true_or, or_false, false_or, or_self, reduceCtorEq, mm_q, Option.getD_some, cI_some, cJ_some, cV_some, cS_some, kd_sI, kd_sL, kd_sR, kd_cp, ln_sI, ln_sL, ln_sR, ln_cp, gR_sI, gR_sL, gR_sR, gR_cp, gL_sI, gL_sR, gL_cp, gI_sL, gI_sR, iI_add, iI_sub, iI_mul, iI_neg, iI_in, iI_tn, iI_lt, iI_eq, Nat.reduceLeDiff, Nat.reduceEqDiff, Nat.reduceAdd, Int.reduceEq, Int.reduceLT, Int.reduceLE, Int.reduceNeg, Int.reduceAdd, Int.reduceSub, Int.reduceMul, bI_t, bI_f, decide_true, decide_false, Bool.and_true, Bool.and_false, Bool.true_and, Bool.false_and, Bool.false_eq_true, Bool.and_self, Bool.not_true, Bool.not_false, Bool.true_or, Bool.false_or, Bool.or_true, Bool.or_false, sg_86_43] at e ⊢
        exact e
theorem C86 (hs : Sh m) (hst : isSt s) (hW : isW W) (hR : RSt D m s) (hw : RW D m s W B (B 0) true) (hI : InvS D) (hB : InvB D B) (hd : 3 ≤ d) {w : Int} (w0 : 0 ≤ w) (w1 : w < st D 6) : mm_ev d 86 0 [some (.ref W), some (.int (iI (w))), none, none, none, none] [] m = some (some (some (.int (iI (passesS D B w)))), m) := by
  rw [sg_86_0]
  exact C86L hs hst hW hR hw hI hB hd w0 w1 601 0 0 false none (by omega) (by omega)
/-- Walks.knownOf -/
theorem C90 (hs : Sh m) (hst : isSt s) (hW : isW W) (hR : RSt D m s) (hw : RW D m s W B (B 0) true) (hI : InvS D) (hL : InvL D) (hB : InvB D B) (hd : 4 ≤ d) {w : Int} (w0 : 0 ≤ w) (w1 : w < st D 6) : ∃ m', mm_ev d 90 0 [some (.ref W), some (.int (iI (w)))] [] m = some (some (some (.int (iI (knownS D B w)))), m') ∧ Fr scK m m' := by
  have wf := wF hs hW
  have sf := stF hs hst
  have pr := passesS_r (D := D) (B := B) (w := w)
  obtain ⟨m', e1, f1⟩ := C73 (d := d - 1) hs hst hR hI hL (by omega) w0 w1 pr.1 pr.2
  refine ⟨m', ?_, f1⟩
  rw [sg_90_0 (by omega)]
  simp (disch := omega) only [wf, hw.1, sf, ↓reduceIte, not_false_eq_true, not_true_eq_false, and_self, and_true, true_and, false_and, and_false, or_true, true_or, or_false, false_or, or_self, reduceCtorEq, mm_q, Option.getD_some, cI_some, cJ_some, cV_some, cS_some, kd_sI, kd_sL, kd_sR, kd_cp, ln_sI, ln_sL, ln_sR, ln_cp, gR_sI, gR_sL, gR_sR, gR_cp, gL_sI, gL_sR, gL_cp, gI_sL, gI_sR, iI_add, iI_sub, iI_mul, iI_neg, iI_in, iI_tn, iI_lt, iI_eq, Nat.reduceLeDiff, Nat.reduceEqDiff, Nat.reduceAdd, Int.reduceEq, Int.reduceLT, Int.reduceLE, Int.reduceNeg, Int.reduceAdd, Int.reduceSub, Int.reduceMul, C86 hs hst hW hR hw hI hB (d := d - 1) (by omega) w0 w1, e1]
  rfl
/-- Walks.offOf -/
theorem C93 (hs : Sh m) (hst : isSt s) (hW : isW W) (hR : RSt D m s) (hw : RW D m s W B take late) (hI : InvS D) (hB : InvB D B) (hd : 3 ≤ d) {q : Int} (q0 : 0 ≤ q) (q1 : q < st D 7) : mm_ev d 93 0 [some (.ref W), some (.int (iI (q))), none] [] m = some (some (some (.int (iI (offB D B take late q)))), m) := by
  have wf := wF hs hW
  have sf := stF hs hst
  obtain ⟨x0, x1⟩ := hI.2.2.2.2.2.2.1
  obtain ⟨v0, v1⟩ := hI.2.2.2.2.1
  obtain ⟨c0, c1⟩ := hI.1
  obtain ⟨⟨a0, a1⟩, ⟨b0, b1⟩, ⟨d0, d1⟩⟩ := hI.2.2.2.2.2.2.2.2.2.2 q q0 q1
  obtain ⟨t0, t1⟩ := hI.2.2.2.2.2.2.2.2.1 _ b0 b1
  obtain ⟨e1, e2, e3⟩ := hR.2.2.2.1 q q0 q1
  have e4 := hR.2.1 _ b0 b1
  have pr := placeB_r hI hB (take := take) (tenth := te D (mu D q 1)) (late := late) a0 a1
  rw [sg_93_0 (by omega)]
  unfold offB
  simp (disch := omega) only [wf, hw.1, sf, ↓reduceIte, not_false_eq_true, not_true_eq_false, and_self, and_true, true_and, false_and, and_false, or_true, true_or, or_false, false_or, or_self, reduceCtorEq, mm_q, Option.getD_some, cI_some, cJ_some, cV_some, cS_some, kd_sI, kd_sL, kd_sR, kd_cp, ln_sI, ln_sL, ln_sR, ln_cp, gR_sI, gR_sL, gR_sR, gR_cp, gL_sI, gL_sR, gL_cp, gI_sL, gI_sR, iI_add, iI_sub, iI_mul, iI_neg, iI_in, iI_tn, iI_lt, iI_eq, Nat.reduceLeDiff, Nat.reduceEqDiff, Nat.reduceAdd, Int.reduceEq, Int.reduceLT, Int.reduceLE, Int.reduceNeg, Int.reduceAdd, Int.reduceSub, Int.reduceMul, e1, e2, e3, e4, C87 hs hst hW hR hw hI hB (d := d - 1) (by omega) a0 a1 t0 t1]
  by_cases z : placeB D B take late (mu D q 0) (te D (mu D q 1)) < 0
  · rw [if_pos (show placeB D B take late (mu D q 0) (te D (mu D q 1)) = -1 by omega), if_pos z]
  · rw [if_neg (show ¬ placeB D B take late (mu D q 0) (te D (mu D q 1)) = -1 by omega), if_neg z, iI_abs (by omega) (by omega)]
    by_cases z2 : placeB D B take late (mu D q 0) (te D (mu D q 1)) - mu D q 2 < 0
    · rw [if_pos z2, if_neg (by omega)]
    · rw [if_neg z2, if_pos (by omega)]
/-- Walks.missedMusts -/
theorem C92L (hs : Sh m) (hst : isSt s) (hW : isW W) (hR : RSt D m s) (hw : RW D m s W B (B 0) true) (hI : InvS D) (hB : InvB D B) (hd : 4 ≤ d) : ∀ (k : Nat) (q n : Int), q = st D 7 - k → 0 ≤ q → mm_ev d 92 4 [some (.ref W), some (.int (iI (n))), some (.int (iI (q)))] [] m = some (some (some (.int (iI (cntGo (fun q => decide (0 < offB D B (B 0) true q)) k q n)))), m)
  | 0, q, n, hq, q0 => by
    have wf := wF hs hW
    have sf := stF hs hst
    obtain ⟨x0, x1⟩ := hI.2.2.2.2.2.2.1
    have h12 := hR.1.2.2.2.2.2.2.2.2
    rw [sg_92_4 (by omega)]
    unfold cntGo
    simp (disch := omega) only [wf, hw.1, sf, ↓reduceIte, not_false_eq_true, not_true_eq_false, and_self, and_true, true_and, false_and, and_false, or_true, true_or, or_false, false_or, or_self, reduceCtorEq, mm_q, Option.getD_some, cI_some, cJ_some, cV_some, cS_some, kd_sI, kd_sL, kd_sR, kd_cp, ln_sI, ln_sL, ln_sR, ln_cp, gR_sI, gR_sL, gR_sR, gR_cp, gL_sI, gL_sR, gL_cp, gI_sL, gI_sR, iI_add, iI_sub, iI_mul, iI_neg, iI_in, iI_tn, iI_lt, iI_eq, Nat.reduceLeDiff, Nat.reduceEqDiff, Nat.reduceAdd, Int.reduceEq, Int.reduceLT, Int.reduceLE, Int.reduceNeg, Int.reduceAdd, Int.reduceSub, Int.reduceMul, h12, show ¬ q < st D 7 by omega]
  | k + 1, q, n, hq, q0 => by
    have wf := wF hs hW
    have sf := stF hs hst
    obtain ⟨x0, x1⟩ := hI.2.2.2.2.2.2.1
    have h12 := hR.1.2.2.2.2.2.2.2.2
    have q1 : q < st D 7 := by omega
    have r := offB_r hI hB (take := B 0) (late := true) q0 q1
    have ih := fun n => C92L hs hst hW hR hw hI hB hd k (q + 1) n (by omega) (by omega)
    rw [sg_92_4 (by omega)]
    unfold cntGo
    by_cases z : 0 < offB D B (B 0) true q
    · have e := ih (n + 1)
      simp (disch := omega) only [wf, hw.1, sf, ↓reduceIte, not_false_eq_true, not_true_eq_false, and_self, and_true, true_and, false_and, and_false, or_true, true_or, or_false, false_or, or_self, reduceCtorEq, mm_q, Option.getD_some, cI_some, cJ_some, cV_some, cS_some, kd_sI, kd_sL, kd_sR, kd_cp, ln_sI, ln_sL, ln_sR, ln_cp, gR_sI, gR_sL, gR_sR, gR_cp, gL_sI, gL_sR, gL_cp, gI_sL, gI_sR, iI_add, iI_sub, iI_mul, iI_neg, iI_in, iI_tn, iI_lt, iI_eq, Nat.reduceLeDiff, Nat.reduceEqDiff, Nat.reduceAdd, Int.reduceEq, Int.reduceLT, Int.reduceLE, Int.reduceNeg, Int.reduceAdd, Int.reduceSub, Int.reduceMul, h12, q1, C93 hs hst hW hR hw hI hB (d := d - 1) (by omega) q0 q1, z, show ¬ offB D B (B 0) true q = 0 by omega, sg_92_26, decide_true] at e ⊢
      exact e
    · have e := ih n
      simp (disch := omega) only [wf, hw.1, sf, ↓reduceIte, not_false_eq_true, not_true_eq_false, and_self, and_true, true_and, false_and, and_false, or_true, true_or, or_false, false_or, or_self, reduceCtorEq, mm_q, Option.getD_some, cI_some, cJ_some, cV_some, cS_some, kd_sI, kd_sL, kd_sR, kd_cp, ln_sI, ln_sL, ln_sR, ln_cp, gR_sI, gR_sL, gR_sR, gR_cp, gL_sI, gL_sR, gL_cp, gI_sL, gI_sR, iI_add, iI_sub, iI_mul, iI_neg, iI_in, iI_tn, iI_lt, iI_eq, Nat.reduceLeDiff, Nat.reduceEqDiff, Nat.reduceAdd, Int.reduceEq, Int.reduceLT, Int.reduceLE, Int.reduceNeg, Int.reduceAdd, Int.reduceSub, Int.reduceMul, h12, q1, C93 hs hst hW hR hw hI hB (d := d - 1) (by omega) q0 q1, z, show offB D B (B 0) true q = 0 by omega, sg_92_26, decide_false, Int.lt_irrefl, Bool.false_eq_true] at e ⊢
      exact e
theorem C92 (hs : Sh m) (hst : isSt s) (hW : isW W) (hR : RSt D m s) (hw : RW D m s W B (B 0) true) (hI : InvS D) (hB : InvB D B) (hd : 4 ≤ d) : mm_ev d 92 0 [some (.ref W), none, none] [] m = some (some (some (.int (iI (missedB D B)))), m) := by
  obtain ⟨x0, x1⟩ := hI.2.2.2.2.2.2.1
  rw [sg_92_0]
  exact C92L hs hst hW hR hw hI hB hd (st D 7).toNat 0 0 (by omega) (by omega)
/-- Walks.sharpness -/
theorem C96 (hs : Sh m) (hst : isSt s) (hW : isW W) (hR : RSt D m s) (hw : RW D m s W B take late) (hI : InvS D) (hB : InvB D B) (hd : 3 ≤ d) {w t : Int} (w0 : 0 ≤ w) (w1 : w < st D 6) (t0 : 0 ≤ t) (t1 : t ≤ 600) : mm_ev d 96 0 [some (.ref W), some (.int (iI (w))), some (.int (iI (t)))] [] m = some (some (some (.int (iI (sightS D w (placeB D B take late w t))))), m) := by
  have wf := wF hs hW
  have sf := stF hs hst
  obtain ⟨k0, k1⟩ := hI.2.2.2.2.2.1
  obtain ⟨c0, c1⟩ := hI.1
  obtain ⟨l0, l1⟩ := hI.2.1
  obtain ⟨p0, p1⟩ := hI.2.2.2.1
  obtain ⟨f0, f1, f2⟩ := hI.2.2.1
  have wkf := wkF hs hst w0 (show w < 8 by omega)
  have a2 := (hR.2.2.1 w w0 w1).2.1
  have g1 := (hI.2.2.2.2.2.2.2.2.2.1 w w0 w1).2.1
  have h4 := hR.1.2.2.2.2.1
  have pr := placeB_r hI hB (take := take) (tenth := t) (late := late) w0 w1
  rw [sg_96_0 (by omega)]
  simp (disch := omega) only [wf, hw.1, sf, ↓reduceIte, not_false_eq_true, not_true_eq_false, and_self, and_true, true_and, false_and, and_false, or_true, true_or, or_false, false_or, or_self, reduceCtorEq, mm_q, Option.getD_some, cI_some, cJ_some, cV_some, cS_some, kd_sI, kd_sL, kd_sR, kd_cp, ln_sI, ln_sL, ln_sR, ln_cp, gR_sI, gR_sL, gR_sR, gR_cp, gL_sI, gL_sR, gL_cp, gI_sL, gI_sR, iI_add, iI_sub, iI_mul, iI_neg, iI_in, iI_tn, iI_lt, iI_eq, Nat.reduceLeDiff, Nat.reduceEqDiff, Nat.reduceAdd, Int.reduceEq, Int.reduceLT, Int.reduceLE, Int.reduceNeg, Int.reduceAdd, Int.reduceSub, Int.reduceMul, C87 hs hst hW hR hw hI hB (d := d - 1) (by omega) w0 w1 t0 t1, C72 hs hst hR hI]
  rw [sg_96_13]
  unfold sightS
  cases z : framedS D (placeB D B take late w t)
  · simp (disch := omega) only [↓reduceIte, not_false_eq_true, not_true_eq_false, and_self, and_true, true_and, false_and, and_false, or_true, true_or, or_false, false_or, or_self, reduceCtorEq, mm_q, Option.getD_some, cI_some, cJ_some, cV_some, cS_some, kd_sI, kd_sL, kd_sR, kd_cp, ln_sI, ln_sL, ln_sR, ln_cp, gR_sI, gR_sL, gR_sR, gR_cp, gL_sI, gL_sR, gL_cp, gI_sL, gI_sR, iI_add, iI_sub, iI_mul, iI_neg, iI_in, iI_tn, iI_lt, iI_eq, Nat.reduceLeDiff, Nat.reduceEqDiff, Nat.reduceAdd, Int.reduceEq, Int.reduceLT, Int.reduceLE, Int.reduceNeg, Int.reduceAdd, Int.reduceSub, Int.reduceMul, bI_t, bI_f, decide_true, decide_false, Bool.and_true, Bool.and_false, Bool.true_and, Bool.false_and, Bool.false_eq_true, Bool.and_self, Bool.not_true, Bool.not_false, Bool.true_or, Bool.false_or, Bool.or_true, Bool.or_false]
    split <;> rfl
  · have z1 : ¬ placeB D B take late w t < 0 := by
      unfold framedS at z
      simp only [Bool.and_eq_true, decide_eq_true_eq] at z
      omega
    by_cases z2 : wk D w 1 < st D 4
    · simp (disch := omega) only [wf, hw.1, sf, wkf, ↓reduceIte, not_false_eq_true, not_true_eq_false, and_self, and_true, true_and, false_and, and_false, or_true, true_or, or_false, false_or, or_self, reduceCtorEq, mm_q, Option.getD_some, cI_some, cJ_some, cV_some, cS_some, kd_sI, kd_sL, kd_sR, kd_cp, ln_sI, ln_sL, ln_sR, ln_cp, gR_sI, gR_sL, gR_sR, gR_cp, gL_sI, gL_sR, gL_cp, gI_sL, gI_sR, iI_add, iI_sub, iI_mul, iI_neg, iI_in, iI_tn, iI_lt, iI_eq, Nat.reduceLeDiff, Nat.reduceEqDiff, Nat.reduceAdd, Int.reduceEq, Int.reduceLT, Int.reduceLE, Int.reduceNeg, Int.reduceAdd, Int.reduceSub, Int.reduceMul, bI_t, bI_f, decide_true, decide_false, Bool.and_true, Bool.and_false, Bool.true_and, Bool.false_and, Bool.false_eq_true, Bool.and_self, Bool.not_true, Bool.not_false, Bool.true_or, Bool.false_or, Bool.or_true, Bool.or_false, a2, h4, z1, z2]
    · simp (disch := omega) only [wf, hw.1, sf, wkf, ↓reduceIte, not_false_eq_true, not_true_eq_false, and_self, and_true, true_and, false_and, and_false, or_true, true_or, or_false, false_or, or_self, reduceCtorEq, mm_q, Option.getD_some, cI_some, cJ_some, cV_some, cS_some, kd_sI, kd_sL, kd_sR, kd_cp, ln_sI, ln_sL, ln_sR, ln_cp, gR_sI, gR_sL, gR_sR, gR_cp, gL_sI, gL_sR, gL_cp, gI_sL, gI_sR, iI_add, iI_sub, iI_mul, iI_neg, iI_in, iI_tn, iI_lt, iI_eq, Nat.reduceLeDiff, Nat.reduceEqDiff, Nat.reduceAdd, Int.reduceEq, Int.reduceLT, Int.reduceLE, Int.reduceNeg, Int.reduceAdd, Int.reduceSub, Int.reduceMul, bI_t, bI_f, decide_true, decide_false, Bool.and_true, Bool.and_false, Bool.true_and, Bool.false_and, Bool.false_eq_true, Bool.and_self, Bool.not_true, Bool.not_false, Bool.true_or, Bool.false_or, Bool.or_true, Bool.or_false, a2, h4, z1, z2]
/-- the cell where somebody is seen -/
def scS2 (D : Nat → Nat → Int32) (c : Int) : Int := if framedS D c = true then c else -1
/-- Walks.seenCell -/
theorem C98 (hs : Sh m) (hst : isSt s) (hW : isW W) (hR : RSt D m s) (hw : RW D m s W B take late) (hI : InvS D) (hB : InvB D B) (hd : 3 ≤ d) {w t : Int} (w0 : 0 ≤ w) (w1 : w < st D 6) (t0 : 0 ≤ t) (t1 : t ≤ 600) : mm_ev d 98 0 [some (.ref W), some (.int (iI (w))), some (.int (iI (t))), none] [] m = some (some (some (.int (iI (scS2 D (placeB D B take late w t))))), m) := by
  have wf := wF hs hW
  have sf := stF hs hst
  obtain ⟨c0, c1⟩ := hI.1
  have pr := placeB_r hI hB (take := take) (tenth := t) (late := late) w0 w1
  rw [sg_98_0 (by omega)]
  simp (disch := omega) only [wf, ↓reduceIte, not_false_eq_true, not_true_eq_false, and_self, and_true, true_and, false_and, and_false, or_true, true_or, or_false, false_or, or_self, reduceCtorEq, mm_q, Option.getD_some, cI_some, cJ_some, cV_some, cS_some, kd_sI, kd_sL, kd_sR, kd_cp, ln_sI, ln_sL, ln_sR, ln_cp, gR_sI, gR_sL, gR_sR, gR_cp, gL_sI, gL_sR, gL_cp, gI_sL, gI_sR, iI_add, iI_sub, iI_mul, iI_neg, iI_in, iI_tn, iI_lt, iI_eq, Nat.reduceLeDiff, Nat.reduceEqDiff, Nat.reduceAdd, Int.reduceEq, Int.reduceLT, Int.reduceLE, Int.reduceNeg, Int.reduceAdd, Int.reduceSub, Int.reduceMul, C87 hs hst hW hR hw hI hB (d := d - 1) (by omega) w0 w1 t0 t1]
  rw [sg_98_6 (by omega)]
  unfold scS2
  cases z : framedS D (placeB D B take late w t)
  · simp (disch := omega) only [wf, hw.1, sf, ↓reduceIte, not_false_eq_true, not_true_eq_false, and_self, and_true, true_and, false_and, and_false, or_true, true_or, or_false, false_or, or_self, reduceCtorEq, mm_q, Option.getD_some, cI_some, cJ_some, cV_some, cS_some, kd_sI, kd_sL, kd_sR, kd_cp, ln_sI, ln_sL, ln_sR, ln_cp, gR_sI, gR_sL, gR_sR, gR_cp, gL_sI, gL_sR, gL_cp, gI_sL, gI_sR, iI_add, iI_sub, iI_mul, iI_neg, iI_in, iI_tn, iI_lt, iI_eq, Nat.reduceLeDiff, Nat.reduceEqDiff, Nat.reduceAdd, Int.reduceEq, Int.reduceLT, Int.reduceLE, Int.reduceNeg, Int.reduceAdd, Int.reduceSub, Int.reduceMul, bI_t, bI_f, decide_true, decide_false, Bool.and_true, Bool.and_false, Bool.true_and, Bool.false_and, Bool.false_eq_true, Bool.and_self, Bool.not_true, Bool.not_false, Bool.true_or, Bool.false_or, Bool.or_true, Bool.or_false, C72 hs hst hR hI, z]
  · simp (disch := omega) only [wf, hw.1, sf, ↓reduceIte, not_false_eq_true, not_true_eq_false, and_self, and_true, true_and, false_and, and_false, or_true, true_or, or_false, false_or, or_self, reduceCtorEq, mm_q, Option.getD_some, cI_some, cJ_some, cV_some, cS_some, kd_sI, kd_sL, kd_sR, kd_cp, ln_sI, ln_sL, ln_sR, ln_cp, gR_sI, gR_sL, gR_sR, gR_cp, gL_sI, gL_sR, gL_cp, gI_sL, gI_sR, iI_add, iI_sub, iI_mul, iI_neg, iI_in, iI_tn, iI_lt, iI_eq, Nat.reduceLeDiff, Nat.reduceEqDiff, Nat.reduceAdd, Int.reduceEq, Int.reduceLT, Int.reduceLE, Int.reduceNeg, Int.reduceAdd, Int.reduceSub, Int.reduceMul, bI_t, bI_f, decide_true, decide_false, Bool.and_true, Bool.and_false, Bool.true_and, Bool.false_and, Bool.false_eq_true, Bool.and_self, Bool.not_true, Bool.not_false, Bool.true_or, Bool.false_or, Bool.or_true, Bool.or_false, C72 hs hst hR hI, z]
/-- Walks.firstBump -/
theorem C97L (hs : Sh m) (hst : isSt s) (hW : isW W) (hR : RSt D m s) (hw : RW D m s W B (B 0) true) (hI : InvS D) (hB : InvB D B) (hd : 3 ≤ d) {o p : Int} (o0 : 0 ≤ o) (o1 : o < st D 6) (p0 : 0 ≤ p) (p1 : p < st D 6) : ∀ (k : Nat) (t : Int) (z : Option Value), t = 601 - k → 0 ≤ t → mm_ev d 97 31 [some (.ref W), some (.int (iI (o))), some (.int (iI (p))), some (.int (iI (t))), z] [] m = some (some (some (.int (iI (firstGo (bumpsB D B o p) k t)))), m)
  | 0, t, z, ht, t0 => by
    rw [sg_97_31 (by omega)]
    unfold firstGo
    simp (disch := omega) only [↓reduceIte, not_false_eq_true, not_true_eq_false, and_self, and_true, true_and, false_and, and_false, or_true, true_or, or_false, false_or, or_self, reduceCtorEq, mm_q, Option.getD_some, cI_some, cJ_some, cV_some, cS_some, kd_sI, kd_sL, kd_sR, kd_cp, ln_sI, ln_sL, ln_sR, ln_cp, gR_sI, gR_sL, gR_sR, gR_cp, gL_sI, gL_sR, gL_cp, gI_sL, gI_sR, iI_add, iI_sub, iI_mul, iI_neg, iI_in, iI_tn, iI_lt, iI_eq, Nat.reduceLeDiff, Nat.reduceEqDiff, Nat.reduceAdd, Int.reduceEq, Int.reduceLT, Int.reduceLE, Int.reduceNeg, Int.reduceAdd, Int.reduceSub, Int.reduceMul, show 600 < t by omega]
  | k + 1, t, z, ht, t0 => by
    have wf := wF hs hW
    obtain ⟨c0, c1⟩ := hI.1
    have pr := placeB_r hI hB (take := B 0) (tenth := t) (late := true) o0 o1
    have pr2 := placeB_r hI hB (take := B 0) (tenth := t) (late := true) p0 p1
    have ih := fun z => C97L hs hst hW hR hw hI hB hd o0 o1 p0 p1 k (t + 1) z (by omega) (by omega)
    rw [sg_97_31 (by omega)]
    simp (disch := omega) only [wf, ↓reduceIte, not_false_eq_true, not_true_eq_false, and_self, and_true, true_and, false_and, and_false, or_true, true_or, or_false, false_or, or_self, reduceCtorEq, mm_q, Option.getD_some, cI_some, cJ_some, cV_some, cS_some, kd_sI, kd_sL, kd_sR, kd_cp, ln_sI, ln_sL, ln_sR, ln_cp, gR_sI, gR_sL, gR_sR, gR_cp, gL_sI, gL_sR, gL_cp, gI_sL, gI_sR, iI_add, iI_sub, iI_mul, iI_neg, iI_in, iI_tn, iI_lt, iI_eq, Nat.reduceLeDiff, Nat.reduceEqDiff, Nat.reduceAdd, Int.reduceEq, Int.reduceLT, Int.reduceLE, Int.reduceNeg, Int.reduceAdd, Int.reduceSub, Int.reduceMul, show ¬ 600 < t by omega, C87 hs hst hW hR hw hI hB (d := d - 1) (by omega) o0 o1 t0 (show t ≤ 600 by omega)]
    rw [sg_97_44 (by omega)]
    unfold firstGo bumpsB
    by_cases z1 : placeB D B (B 0) true o t = -1
    · rw [if_pos (by rw [z1]), decide_eq_false (show ¬ 0 ≤ placeB D B (B 0) true o t by omega), Bool.false_and, if_neg (by decide), sg_97_65]
      simp (disch := omega) only [↓reduceIte, not_false_eq_true, not_true_eq_false, and_self, and_true, true_and, false_and, and_false, or_true, true_or, or_false, false_or, or_self, reduceCtorEq, mm_q, Option.getD_some, cI_some, cJ_some, cV_some, cS_some, kd_sI, kd_sL, kd_sR, kd_cp, ln_sI, ln_sL, ln_sR, ln_cp, gR_sI, gR_sL, gR_sR, gR_cp, gL_sI, gL_sR, gL_cp, gI_sL, gI_sR, iI_add, iI_sub, iI_mul, iI_neg, iI_in, iI_tn, iI_lt, iI_eq, Nat.reduceLeDiff, Nat.reduceEqDiff, Nat.reduceAdd, Int.reduceEq, Int.reduceLT, Int.reduceLE, Int.reduceNeg, Int.reduceAdd, Int.reduceSub, Int.reduceMul]
      exact ih _
    · rw [if_neg (by rw [iI_eq] <;> omega), decide_eq_true (show 0 ≤ placeB D B (B 0) true o t by omega), Bool.true_and]
      by_cases z2 : placeB D B (B 0) true o t = placeB D B (B 0) true p t
      · simp (disch := omega) only [wf, ↓reduceIte, not_false_eq_true, not_true_eq_false, and_self, and_true, true_and, false_and, and_false, or_true, true_or, or_false, false_or, or_self, reduceCtorEq, mm_q, Option.getD_some, cI_some, cJ_some, cV_some, cS_some, kd_sI, kd_sL, kd_sR, kd_cp, ln_sI, ln_sL, ln_sR, ln_cp, gR_sI, gR_sL, gR_sR, gR_cp, gL_sI, gL_sR, gL_cp, gI_sL, gI_sR, iI_add, iI_sub, iI_mul, iI_neg, iI_in, iI_tn, iI_lt, iI_eq, Nat.reduceLeDiff, Nat.reduceEqDiff, Nat.reduceAdd, Int.reduceEq, Int.reduceLT, Int.reduceLE, Int.reduceNeg, Int.reduceAdd, Int.reduceSub, Int.reduceMul, bI_t, bI_f, decide_true, decide_false, Bool.and_true, Bool.and_false, Bool.true_and, Bool.false_and, Bool.false_eq_true, Bool.and_self, Bool.not_true, Bool.not_false, Bool.true_or, Bool.false_or, Bool.or_true, Bool.or_false, C87 hs hst hW hR hw hI hB (d := d - 1) (by omega) p0 p1 t0 (show t ≤ 600 by omega), z2]
      · simp (disch := omega) only [wf, ↓reduceIte, not_false_eq_true, not_true_eq_false, and_self, and_true, true_and, false_and, and_false, or_true, true_or, or_false, false_or, or_self, reduceCtorEq, mm_q, Option.getD_some, cI_some, cJ_some, cV_some, cS_some, kd_sI, kd_sL, kd_sR, kd_cp, ln_sI, ln_sL, ln_sR, ln_cp, gR_sI, gR_sL, gR_sR, gR_cp, gL_sI, gL_sR, gL_cp, gI_sL, gI_sR, iI_add, iI_sub, iI_mul, iI_neg, iI_in, iI_tn, iI_lt, iI_eq, Nat.reduceLeDiff, Nat.reduceEqDiff, Nat.reduceAdd, Int.reduceEq, Int.reduceLT, Int.reduceLE, Int.reduceNeg, Int.reduceAdd, Int.reduceSub, Int.reduceMul, bI_t, bI_f, decide_true, decide_false, Bool.and_true, Bool.and_false, Bool.true_and, Bool.false_and, Bool.false_eq_true, Bool.and_self, Bool.not_true, Bool.not_false, Bool.true_or, Bool.false_or, Bool.or_true, Bool.or_false, C87 hs hst hW hR hw hI hB (d := d - 1) (by omega) p0 p1 t0 (show t ≤ 600 by omega), z2, sg_97_65]
        exact ih _
theorem C97 (hs : Sh m) (hst : isSt s) (hW : isW W) (hR : RSt D m s) (hw : RW D m s W B (B 0) true) (hI : InvS D) (hB : InvB D B) (hd : 3 ≤ d) {o p : Int} (o0 : 0 ≤ o) (o1 : o < st D 6) (p0 : 0 ≤ p) (p1 : p < st D 6) : mm_ev d 97 0 [some (.ref W), some (.int (iI (o))), some (.int (iI (p))), none, none] [] m = some (some (some (.int (iI (bumpB D B o p)))), m) := by
  have wf := wF hs hW
  have sf := stF hs hst
  obtain ⟨k0, k1⟩ := hI.2.2.2.2.2.1
  obtain ⟨l0, l1⟩ := hI.2.1
  have w1 := wkF hs hst o0 (show o < 8 by omega)
  have w2 := wkF hs hst p0 (show p < 8 by omega)
  have a1 := (hR.2.2.1 o o0 o1).2.1
  have a2 := (hR.2.2.1 p p0 p1).2.1
  have g1 := (hI.2.2.2.2.2.2.2.2.2.1 o o0 o1).2.1
  have g2 := (hI.2.2.2.2.2.2.2.2.2.1 p p0 p1).2.1
  rw [sg_97_0]
  unfold bumpB
  by_cases z : wk D o 1 = wk D p 1
  · simp (disch := omega) only [wf, hw.1, sf, w1, w2, ↓reduceIte, not_false_eq_true, not_true_eq_false, and_self, and_true, true_and, false_and, and_false, or_true, true_or, or_false, false_or, or_self, reduceCtorEq, mm_q, Option.getD_some, cI_some, cJ_some, cV_some, cS_some, kd_sI, kd_sL, kd_sR, kd_cp, ln_sI, ln_sL, ln_sR, ln_cp, gR_sI, gR_sL, gR_sR, gR_cp, gL_sI, gL_sR, gL_cp, gI_sL, gI_sR, iI_add, iI_sub, iI_mul, iI_neg, iI_in, iI_tn, iI_lt, iI_eq, Nat.reduceLeDiff, Nat.reduceEqDiff, Nat.reduceAdd, Int.reduceEq, Int.reduceLT, Int.reduceLE, Int.reduceNeg, Int.reduceAdd, Int.reduceSub, Int.reduceMul, a1, a2, z]
    exact C97L hs hst hW hR hw hI hB hd o0 o1 p0 p1 601 0 none (by omega) (by omega)
  · simp (disch := omega) only [wf, hw.1, sf, w1, w2, ↓reduceIte, not_false_eq_true, not_true_eq_false, and_self, and_true, true_and, false_and, and_false, or_true, true_or, or_false, false_or, or_self, reduceCtorEq, mm_q, Option.getD_some, cI_some, cJ_some, cV_some, cS_some, kd_sI, kd_sL, kd_sR, kd_cp, ln_sI, ln_sL, ln_sR, ln_cp, gR_sI, gR_sL, gR_sR, gR_cp, gL_sI, gL_sR, gL_cp, gI_sL, gI_sR, iI_add, iI_sub, iI_mul, iI_neg, iI_in, iI_tn, iI_lt, iI_eq, Nat.reduceLeDiff, Nat.reduceEqDiff, Nat.reduceAdd, Int.reduceEq, Int.reduceLT, Int.reduceLE, Int.reduceNeg, Int.reduceAdd, Int.reduceSub, Int.reduceMul, a1, a2, z]
end
