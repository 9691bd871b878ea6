section
variable {D : Nat → Nat → Int32} {E : Nat → Nat → Int64} {m m' : mm_M} {d : Nat} {B : Int → Int} {b : Int}
theorem firstGo_r (f : Int → Bool) : ∀ (k : Nat) (t : Int), 0 ≤ t → -1 ≤ firstGo f k t ∧ firstGo f k t < t + k
  | 0, t, h => by unfold firstGo; omega
  | k + 1, t, h => by
    unfold firstGo
    have := firstGo_r f k (t + 1) (by omega)
    split <;> omega
theorem cntGo_r (f : Int → Bool) : ∀ (k : Nat) (q n : Int), n ≤ cntGo f k q n ∧ cntGo f k q n ≤ n + k
  | 0, _, n => by unfold cntGo; omega
  | k + 1, q, n => by
    unfold cntGo
    have := cntGo_r f k (q + 1) (if f q = true then n + 1 else n)
    split at this
    · next h1 => rw [if_pos h1]; omega
    · next h1 => rw [if_neg h1]; omega
theorem bumpB_r {one other : Int} : -1 ≤ bumpB D B one other ∧ bumpB D B one other ≤ 600 := by
  unfold bumpB
  have := firstGo_r (bumpsB D B one other) 601 0 (by omega)
  split <;> omega
/-- bumpOf's loop -/
theorem M232L (h : MD D E m) (hB : Blk m b B) (hI : InvS D) (hIB : InvB D B) (hd : 4 ≤ d) {one other : Int} (ho0 : 0 ≤ one) (ho : one < st D 6) (hp0 : 0 ≤ other) (hp : other < st D 6) (hln : wk D one 1 = wk D other 1) : ∀ (k : Nat) (t : Int) (z : Option Value), t = 601 - k → 0 ≤ t → mm_ev d 232 33 [some (.ref 316), some (.int (iI b)), some (.int (iI one)), some (.int (iI other)), some (.int (iI (tempoS D one (B 0)))), some (.int (iI (tempoS D other (B 0)))), some (.int (iI t)), z] [] m = some (some (some (.int (iI (firstGo (bumpsB D B one other) k t)))), m)
  | 0, t, z, ht, _ => by
    rw [sg_232_33 (by omega)]
    unfold firstGo
    simp (disch := omega) only [↓reduceIte, not_false_eq_true, not_true_eq_false, and_self, and_true, true_and, false_and, and_false, or_true, true_or, or_false, false_or, or_self, reduceCtorEq, mm_q, Option.getD_some, cI_some, cJ_some, cV_some, cS_some, kd_sI, kd_sL, kd_sR, kd_cp, ln_sI, ln_sL, ln_sR, ln_cp, gR_sI, gR_sL, gR_sR, gR_cp, gL_sI, gL_sR, gL_cp, gI_sL, gI_sR, iI_add, iI_sub, iI_mul, iI_neg, iI_in, iI_tn, iI_lt, iI_eq, Nat.reduceLeDiff, Nat.reduceEqDiff, Nat.reduceAdd, Int.reduceEq, Int.reduceLT, Int.reduceLE, Int.reduceNeg, Int.reduceAdd, Int.reduceSub, Int.reduceMul, show (600 : Int) < t by omega]
  | k + 1, t, z, ht, t0 => by
    have hI2 := hI
    obtain ⟨⟨c0, c1⟩, ⟨e0, e1⟩, -, -, -, ⟨k0, k1⟩, -, -, -, hwk, -⟩ := hI
    obtain ⟨-, ⟨u0, u1⟩, -, -, -, ⟨i0, i1⟩, -⟩ := hwk one ho0 ho
    obtain ⟨-, ⟨v0, v1⟩, -, -, -, ⟨j0, j1⟩, -⟩ := hwk other hp0 hp
    obtain ⟨⟨s0, s1⟩, ⟨r0, r1⟩, ⟨l0, l1⟩⟩ := hIB.2 one ho0 ho
    obtain ⟨⟨s2, s3⟩, ⟨r2, r3⟩, ⟨l2, l3⟩⟩ := hIB.2 other hp0 hp
    have tr := tempoS_r hI2 (take := B 0) ho0 ho
    have tr2 := tempoS_r hI2 (take := B 0) hp0 hp
    have pr := placeB_r hI2 hIB (take := B 0) (tenth := t) (late := true) ho0 ho
    have pr2 := placeB_r hI2 hIB (take := B 0) (tenth := t) (late := true) hp0 hp
    have ih := fun z => M232L h hB hI2 hIB hd ho0 ho hp0 hp hln k (t + 1) z (by omega) (by omega)
    have q1 := hB.2 (1 + one) (by omega) (by omega)
    have q2 := hB.2 (9 + one) (by omega) (by omega)
    have q3 := hB.2 (1 + other) (by omega) (by omega)
    have q4 := hB.2 (9 + other) (by omega) (by omega)
    rw [← Int.add_assoc] at q1 q2 q3 q4
    have hb := hB.1
    rw [sg_232_33 (by omega)]
    simp (disch := omega) only [shM h.1, ↓reduceIte, not_false_eq_true, not_true_eq_false, and_self, and_true, true_and, reduceCtorEq, mm_q, Option.getD_some, cI_some, cJ_some, cV_some, cS_some, Nat.reduceLeDiff, Nat.reduceEqDiff, iI_lt, show ¬ 600 < t by omega, M162 h]
    rw [sg_232_47 (by omega)]
    simp (disch := omega) only [shM h.1, ↓reduceIte, not_false_eq_true, not_true_eq_false, and_self, and_true, true_and, reduceCtorEq, mm_q, Option.getD_some, cI_some, cJ_some, cV_some, cS_some, Nat.reduceLeDiff, Nat.reduceEqDiff, M162 h]
    rw [sg_232_53 (by omega), hln]
    simp (disch := omega) only [shM h.1, ↓reduceIte, not_false_eq_true, not_true_eq_false, and_self, and_true, true_and, reduceCtorEq, mm_q, Option.getD_some, cI_some, cJ_some, cV_some, cS_some, Nat.reduceLeDiff, Nat.reduceEqDiff, iI_add, iI_in, iI_tn, M206 h hB hI2, q1, q2]
    rw [sg_232_85 (by omega)]
    simp (disch := omega) only [shM h.1, ↓reduceIte, not_false_eq_true, not_true_eq_false, and_self, and_true, true_and, reduceCtorEq, mm_q, Option.getD_some, cI_some, cJ_some, cV_some, cS_some, Nat.reduceLeDiff, Nat.reduceEqDiff, M207 h hI2]
    rw [sg_232_92 (by omega)]
    unfold firstGo bumpsB placeB
    unfold placeB at pr pr2
    rw [if_pos rfl] at pr pr2
    simp only [if_true] 
    by_cases z1 : placeS D one (B (1 + one)) (B (9 + one)) (wk D one 5 + B (17 + one)) (tempoS D one (B 0)) t < 0
    · simp (disch := omega) only [↓reduceIte, not_false_eq_true, not_true_eq_false, and_self, and_true, true_and, false_and, and_false, or_true, true_or, or_false, false_or, or_self, reduceCtorEq, mm_q, Option.getD_some, cI_some, cJ_some, cV_some, cS_some, kd_sI, kd_sL, kd_sR, kd_cp, ln_sI, ln_sL, ln_sR, ln_cp, gR_sI, gR_sL, gR_sR, gR_cp, gL_sI, gL_sR, gL_cp, gI_sL, gI_sR, iI_add, iI_sub, iI_mul, iI_neg, iI_in, iI_tn, iI_lt, iI_eq, Nat.reduceLeDiff, Nat.reduceEqDiff, Nat.reduceAdd, Int.reduceEq, Int.reduceLT, Int.reduceLE, Int.reduceNeg, Int.reduceAdd, Int.reduceSub, Int.reduceMul, z1, show ¬ 0 ≤ placeS D one (B (1 + one)) (B (9 + one)) (wk D one 5 + B (17 + one)) (tempoS D one (B 0)) t by omega, bI_t, bI_f, decide_true, decide_false, Bool.and_true, Bool.and_false, Bool.true_and, Bool.false_and, Bool.false_eq_true, Bool.and_self, Bool.not_true, Bool.not_false, sg_232_143]
      exact ih _
    · simp (disch := omega) only [shM h.1, ↓reduceIte, not_false_eq_true, not_true_eq_false, and_self, and_true, true_and, false_and, and_false, or_true, true_or, or_false, false_or, or_self, reduceCtorEq, mm_q, Option.getD_some, cI_some, cJ_some, cV_some, cS_some, kd_sI, kd_sL, kd_sR, kd_cp, ln_sI, ln_sL, ln_sR, ln_cp, gR_sI, gR_sL, gR_sR, gR_cp, gL_sI, gL_sR, gL_cp, gI_sL, gI_sR, iI_add, iI_sub, iI_mul, iI_neg, iI_in, iI_tn, iI_lt, iI_eq, Nat.reduceLeDiff, Nat.reduceEqDiff, Nat.reduceAdd, Int.reduceEq, Int.reduceLT, Int.reduceLE, Int.reduceNeg, Int.reduceAdd, Int.reduceSub, Int.reduceMul, z1, show 0 ≤ placeS D one (B (1 + one)) (B (9 + one)) (wk D one 5 + B (17 + one)) (tempoS D one (B 0)) t by omega, M206 h hB hI2, q3, q4]
      rw [sg_232_130 (by omega)]
      simp (disch := omega) only [shM h.1, ↓reduceIte, not_false_eq_true, not_true_eq_false, and_self, and_true, true_and, reduceCtorEq, mm_q, Option.getD_some, cI_some, cJ_some, cV_some, cS_some, Nat.reduceLeDiff, Nat.reduceEqDiff, M207 h hI2]
      by_cases z2 : placeS D one (B (1 + one)) (B (9 + one)) (wk D one 5 + B (17 + one)) (tempoS D one (B 0)) t = placeS D other (B (1 + other)) (B (9 + other)) (wk D other 5 + B (17 + other)) (tempoS D other (B 0)) t
      · simp (disch := omega) only [↓reduceIte, not_false_eq_true, not_true_eq_false, and_self, and_true, true_and, false_and, and_false, or_true, true_or, or_false, false_or, or_self, reduceCtorEq, mm_q, Option.getD_some, cI_some, cJ_some, cV_some, cS_some, kd_sI, kd_sL, kd_sR, kd_cp, ln_sI, ln_sL, ln_sR, ln_cp, gR_sI, gR_sL, gR_sR, gR_cp, gL_sI, gL_sR, gL_cp, gI_sL, gI_sR, iI_add, iI_sub, iI_mul, iI_neg, iI_in, iI_tn, iI_lt, iI_eq, Nat.reduceLeDiff, Nat.reduceEqDiff, Nat.reduceAdd, Int.reduceEq, Int.reduceLT, Int.reduceLE, Int.reduceNeg, Int.reduceAdd, Int.reduceSub, Int.reduceMul, z2, bI_t, bI_f, decide_true, decide_false, Bool.and_true, Bool.and_false, Bool.true_and, Bool.false_and, Bool.false_eq_true, Bool.and_self, Bool.not_true, Bool.not_false]
      · simp (disch := omega) only [↓reduceIte, not_false_eq_true, not_true_eq_false, and_self, and_true, true_and, false_and, and_false, or_true, true_or, or_false, false_or, or_self, reduceCtorEq, mm_q, Option.getD_some, cI_some, cJ_some, cV_some, cS_some, kd_sI, kd_sL, kd_sR, kd_cp, ln_sI, ln_sL, ln_sR, ln_cp, gR_sI, gR_sL, gR_sR, gR_cp, gL_sI, gL_sR, gL_cp, gI_sL, gI_sR, iI_add, iI_sub, iI_mul, iI_neg, iI_in, iI_tn, iI_lt, iI_eq, Nat.reduceLeDiff, Nat.reduceEqDiff, Nat.reduceAdd, Int.reduceEq, Int.reduceLT, Int.reduceLE, Int.reduceNeg, Int.reduceAdd, Int.reduceSub, Int.reduceMul, z2, bI_t, bI_f, decide_true, decide_false, Bool.and_true, Bool.and_false, Bool.true_and, Bool.false_and, Bool.false_eq_true, Bool.and_self, Bool.not_true, Bool.not_false, sg_232_143]
        exact ih _
/-- bumpOf -/
theorem M232 (h : MD D E m) (hB : Blk m b B) (hI : InvS D) (hL : InvL D) (hIB : InvB D B) (hd : 4 ≤ d) {one other : Int} (ho0 : 0 ≤ one) (ho : one < st D 6) (hp0 : 0 ≤ other) (hp : other < st D 6) : ∃ m', mm_ev d 232 0 [some (.ref 316), some (.int (iI b)), some (.int (iI one)), some (.int (iI other)), none, none, none, none] [] m = some (some (some (.int (iI (bumpB D B one other)))), m') ∧ Fr scL m m' := by
  obtain ⟨m1, e1, f1⟩ := M202 (d := d - 1) h hI hL (by omega) (take := B 0) ho0 ho
  obtain ⟨m2, e2, f2⟩ := M202 (d := d - 1) (h.frL f1) hI hL (by omega) (take := B 0) hp0 hp
  have h2 := (h.frL f1).frL f2
  have hB2 := (hB.frL f1).frL f2
  refine ⟨m2, ?_, f1.tr f2⟩
  have q0 := hB.2 0 (by omega) (by omega)
  have q9 := (hB.frL f1).2 0 (by omega) (by omega)
  have hb := hB.1
  rw [sg_232_0 (by omega)]
  simp (disch := omega) only [shM h.1, ↓reduceIte, not_false_eq_true, not_true_eq_false, and_self, and_true, true_and, false_and, and_false, or_true, true_or, or_false, false_or, or_self, reduceCtorEq, mm_q, Option.getD_some, cI_some, cJ_some, cV_some, cS_some, kd_sI, kd_sL, kd_sR, kd_cp, ln_sI, ln_sL, ln_sR, ln_cp, gR_sI, gR_sL, gR_sR, gR_cp, gL_sI, gL_sR, gL_cp, gI_sL, gI_sR, iI_add, iI_sub, iI_mul, iI_neg, iI_in, iI_tn, iI_lt, iI_eq, Nat.reduceLeDiff, Nat.reduceEqDiff, Nat.reduceAdd, Int.reduceEq, Int.reduceLT, Int.reduceLE, Int.reduceNeg, Int.reduceAdd, Int.reduceSub, Int.reduceMul, q0, e1]
  rw [sg_232_13 (by omega)]
  simp (disch := omega) only [shM (h.frL f1).1, ↓reduceIte, not_false_eq_true, not_true_eq_false, and_self, and_true, true_and, false_and, and_false, or_true, true_or, or_false, false_or, or_self, reduceCtorEq, mm_q, Option.getD_some, cI_some, cJ_some, cV_some, cS_some, kd_sI, kd_sL, kd_sR, kd_cp, ln_sI, ln_sL, ln_sR, ln_cp, gR_sI, gR_sL, gR_sR, gR_cp, gL_sI, gL_sR, gL_cp, gI_sL, gI_sR, iI_add, iI_sub, iI_mul, iI_neg, iI_in, iI_tn, iI_lt, iI_eq, Nat.reduceLeDiff, Nat.reduceEqDiff, Nat.reduceAdd, Int.reduceEq, Int.reduceLT, Int.reduceLE, Int.reduceNeg, Int.reduceAdd, Int.reduceSub, Int.reduceMul, q9, e2]
  unfold bumpB
  by_cases z : wk D one 1 = wk D other 1
  · rw [if_pos z]
    exact M232L h2 hB2 hI hIB hd ho0 ho hp0 hp z 601 0 none (by omega) (by omega)
  · obtain ⟨⟨c0, c1⟩, ⟨y0, y1⟩, -, -, -, ⟨k0, k1⟩, -, -, -, hwk, -⟩ := hI
    obtain ⟨-, ⟨u0, u1⟩, -⟩ := hwk one ho0 ho
    obtain ⟨-, ⟨v0, v1⟩, -⟩ := hwk other hp0 hp
    rw [if_neg z, sg_232_33 (by omega)]
    simp (disch := omega) only [shM h2.1, ↓reduceIte, not_false_eq_true, not_true_eq_false, and_self, and_true, true_and, false_and, and_false, or_true, true_or, or_false, false_or, or_self, reduceCtorEq, mm_q, Option.getD_some, cI_some, cJ_some, cV_some, cS_some, kd_sI, kd_sL, kd_sR, kd_cp, ln_sI, ln_sL, ln_sR, ln_cp, gR_sI, gR_sL, gR_sR, gR_cp, gL_sI, gL_sR, gL_cp, gI_sL, gI_sR, iI_add, iI_sub, iI_mul, iI_neg, iI_in, iI_tn, iI_lt, iI_eq, Nat.reduceLeDiff, Nat.reduceEqDiff, Nat.reduceAdd, Int.reduceEq, Int.reduceLT, Int.reduceLE, Int.reduceNeg, Int.reduceAdd, Int.reduceSub, Int.reduceMul, M162 h2]
    rw [sg_232_47 (by omega)]
    simp (disch := omega) only [shM h2.1, ↓reduceIte, not_false_eq_true, not_true_eq_false, and_self, and_true, true_and, false_and, and_false, or_true, true_or, or_false, false_or, or_self, reduceCtorEq, mm_q, Option.getD_some, cI_some, cJ_some, cV_some, cS_some, kd_sI, kd_sL, kd_sR, kd_cp, ln_sI, ln_sL, ln_sR, ln_cp, gR_sI, gR_sL, gR_sR, gR_cp, gL_sI, gL_sR, gL_cp, gI_sL, gI_sR, iI_add, iI_sub, iI_mul, iI_neg, iI_in, iI_tn, iI_lt, iI_eq, Nat.reduceLeDiff, Nat.reduceEqDiff, Nat.reduceAdd, Int.reduceEq, Int.reduceLT, Int.reduceLE, Int.reduceNeg, Int.reduceAdd, Int.reduceSub, Int.reduceMul, M162 h2]
    rw [sg_232_53 (by omega)]
    simp (disch := omega) only [↓reduceIte, not_false_eq_true, not_true_eq_false, and_self, and_true, true_and, false_and, and_false, or_true, true_or, or_false, false_or, or_self, reduceCtorEq, mm_q, Option.getD_some, cI_some, cJ_some, cV_some, cS_some, kd_sI, kd_sL, kd_sR, kd_cp, ln_sI, ln_sL, ln_sR, ln_cp, gR_sI, gR_sL, gR_sR, gR_cp, gL_sI, gL_sR, gL_cp, gI_sL, gI_sR, iI_add, iI_sub, iI_mul, iI_neg, iI_in, iI_tn, iI_lt, iI_eq, Nat.reduceLeDiff, Nat.reduceEqDiff, Nat.reduceAdd, Int.reduceEq, Int.reduceLT, Int.reduceLE, Int.reduceNeg, Int.reduceAdd, Int.reduceSub, Int.reduceMul, z]
/-- isGood's inner loop -/
theorem M226I (hI : InvS D) (hL : InvL D) (hIB : InvB D B) (hd : 5 ≤ d) {w : Int} (hw0 : 0 ≤ w) (hw : w < st D 6) : ∀ (k : Nat) (e : Int) (is : Bool) (m : mm_M), e = w - k → 0 ≤ e → MD D E m → Blk m b B → ∃ m' e' is', mm_ev d 226 27 [some (.ref 316), some (.int (iI b)), some (.int (iI (bI is))), some (.int (iI w)), some (.int (iI e))] [] m = mm_ev d 226 60 [some (.ref 316), some (.int (iI b)), some (.int (iI (bI is'))), some (.int (iI w)), some (.int (iI e'))] [] m' ∧ Fr scL m m' ∧ (is' = true ↔ (is = true ∧ ∀ x, e ≤ x → x < w → bumpB D B x w < 0))
  | 0, e, is, m, he, _, h, hB => by
    obtain ⟨-, -, -, -, -, ⟨k0, k1⟩, -⟩ := hI
    refine ⟨m, e, is, ?_, Fr.rf, ?_⟩
    · rw [sg_226_27 (by omega)]
      simp (disch := omega) only [↓reduceIte, not_false_eq_true, not_true_eq_false, and_self, and_true, true_and, false_and, and_false, or_true, true_or, or_false, false_or, or_self, reduceCtorEq, mm_q, Option.getD_some, cI_some, cJ_some, cV_some, cS_some, kd_sI, kd_sL, kd_sR, kd_cp, ln_sI, ln_sL, ln_sR, ln_cp, gR_sI, gR_sL, gR_sR, gR_cp, gL_sI, gL_sR, gL_cp, gI_sL, gI_sR, iI_add, iI_sub, iI_mul, iI_neg, iI_in, iI_tn, iI_lt, iI_eq, Nat.reduceLeDiff, Nat.reduceEqDiff, Nat.reduceAdd, Int.reduceEq, Int.reduceLT, Int.reduceLE, Int.reduceNeg, Int.reduceAdd, Int.reduceSub, Int.reduceMul, show ¬ e < w by omega]
    · constructor
      · intro h1; exact ⟨h1, fun x _ _ => by omega⟩
      · exact fun h1 => h1.1
  | k + 1, e, is, m, he, he0, h, hB => by
    have hI2 := hI
    obtain ⟨-, -, -, -, -, ⟨k0, k1⟩, -⟩ := hI
    rw [sg_226_27 (by omega)]
    cases is with
    | false =>
      refine ⟨m, e, false, ?_, Fr.rf, by simp⟩
      simp (disch := omega) only [↓reduceIte, not_false_eq_true, not_true_eq_false, and_self, and_true, true_and, false_and, and_false, or_true, true_or, or_false, false_or, or_self, reduceCtorEq, mm_q, Option.getD_some, cI_some, cJ_some, cV_some, cS_some, kd_sI, kd_sL, kd_sR, kd_cp, ln_sI, ln_sL, ln_sR, ln_cp, gR_sI, gR_sL, gR_sR, gR_cp, gL_sI, gL_sR, gL_cp, gI_sL, gI_sR, iI_add, iI_sub, iI_mul, iI_neg, iI_in, iI_tn, iI_lt, iI_eq, Nat.reduceLeDiff, Nat.reduceEqDiff, Nat.reduceAdd, Int.reduceEq, Int.reduceLT, Int.reduceLE, Int.reduceNeg, Int.reduceAdd, Int.reduceSub, Int.reduceMul, show e < w by omega, bI_t, bI_f, decide_true, decide_false, Bool.and_true, Bool.and_false, Bool.true_and, Bool.false_and, Bool.false_eq_true, Bool.and_self, Bool.not_true, Bool.not_false]
    | true =>
      obtain ⟨m1, e1, f1⟩ := M232 (d := d - 1) h hB hI2 hL hIB (by omega) he0 (show e < st D 6 by omega) hw0 hw
      have br := bumpB_r (D := D) (B := B) (one := e) (other := w)
      obtain ⟨m', e', is', e2, f2, c⟩ := M226I hI2 hL hIB hd hw0 hw k (e + 1) (decide (bumpB D B e w < 0)) m1 (by omega) (by omega) (h.frL f1) (hB.frL f1)
      refine ⟨m', e', is', ?_, f1.tr f2, ?_⟩
      · rw [← e2]
        simp (disch := omega) only [shM h.1, ↓reduceIte, not_false_eq_true, not_true_eq_false, and_self, and_true, true_and, false_and, and_false, or_true, true_or, or_false, false_or, or_self, reduceCtorEq, mm_q, Option.getD_some, cI_some, cJ_some, cV_some, cS_some, kd_sI, kd_sL, kd_sR, kd_cp, ln_sI, ln_sL, ln_sR, ln_cp, gR_sI, gR_sL, gR_sR, gR_cp, gL_sI, gL_sR, gL_cp, gI_sL, gI_sR, iI_add, iI_sub, iI_mul, iI_neg, iI_in, iI_tn, iI_lt, iI_eq, Nat.reduceLeDiff, Nat.reduceEqDiff, Nat.reduceAdd, Int.reduceEq, Int.reduceLT, Int.reduceLE, Int.reduceNeg, Int.reduceAdd, Int.reduceSub, Int.reduceMul, show e < w by omega, bI_t, bI_f, decide_true, decide_false, Bool.and_true, Bool.and_false, Bool.true_and, Bool.false_and, Bool.false_eq_true, Bool.and_self, Bool.not_true, Bool.not_false, e1]
        by_cases z : bumpB D B e w < 0
        · simp (disch := omega) only [↓reduceIte, not_false_eq_true, not_true_eq_false, and_self, and_true, true_and, false_and, and_false, or_true, true_or, or_false, false_or, or_self, reduceCtorEq, mm_q, Option.getD_some, cI_some, cJ_some, cV_some, cS_some, kd_sI, kd_sL, kd_sR, kd_cp, ln_sI, ln_sL, ln_sR, ln_cp, gR_sI, gR_sL, gR_sR, gR_cp, gL_sI, gL_sR, gL_cp, gI_sL, gI_sR, iI_add, iI_sub, iI_mul, iI_neg, iI_in, iI_tn, iI_lt, iI_eq, Nat.reduceLeDiff, Nat.reduceEqDiff, Nat.reduceAdd, Int.reduceEq, Int.reduceLT, Int.reduceLE, Int.reduceNeg, Int.reduceAdd, Int.reduceSub, Int.reduceMul, bI_t, bI_f, decide_true, decide_false, Bool.and_true, Bool.and_false, Bool.true_and, Bool.false_and, Bool.false_eq_true, Bool.and_self, Bool.not_true, Bool.not_false, z, sg_226_53]
        · simp (disch := omega) only [↓reduceIte, not_false_eq_true, not_true_eq_false, and_self, and_true, true_and, false_and, and_false, or_true, true_or, or_false, false_or, or_self, reduceCtorEq, mm_q, Option.getD_some, cI_some, cJ_some, cV_some, cS_some, kd_sI, kd_sL, kd_sR, kd_cp, ln_sI, ln_sL, ln_sR, ln_cp, gR_sI, gR_sL, gR_sR, gR_cp, gL_sI, gL_sR, gL_cp, gI_sL, gI_sR, iI_add, iI_sub, iI_mul, iI_neg, iI_in, iI_tn, iI_lt, iI_eq, Nat.reduceLeDiff, Nat.reduceEqDiff, Nat.reduceAdd, Int.reduceEq, Int.reduceLT, Int.reduceLE, Int.reduceNeg, Int.reduceAdd, Int.reduceSub, Int.reduceMul, bI_t, bI_f, decide_true, decide_false, Bool.and_true, Bool.and_false, Bool.true_and, Bool.false_and, Bool.false_eq_true, Bool.and_self, Bool.not_true, Bool.not_false, z, sg_226_53]
      · rw [c]
        constructor
        · rintro ⟨p1, p2⟩
          refine ⟨rfl, fun x x0 x1 => ?_⟩
          by_cases z : x = e
          · rw [z]; exact of_decide_eq_true p1
          · exact p2 x (by omega) x1
        · rintro ⟨-, p2⟩
          exact ⟨decide_eq_true (p2 e (by omega) (by omega)), fun x x0 x1 => p2 x (by omega) x1⟩
/-- isGood's outer loop -/
theorem M226L (hI : InvS D) (hL : InvL D) (hIB : InvB D B) (hd : 5 ≤ d) : ∀ (k : Nat) (w : Int) (is : Bool) (z : Option Value) (m : mm_M), w = st D 6 - k → 0 ≤ w → MD D E m → Blk m b B → ∃ m' is', mm_ev d 226 16 [some (.ref 316), some (.int (iI b)), some (.int (iI (bI is))), some (.int (iI w)), z] [] m = some (some (some (.int (iI (bI is')))), m') ∧ Fr scL m m' ∧ (is' = true ↔ (is = true ∧ ∀ y e, w ≤ y → y < st D 6 → 0 ≤ e → e < y → bumpB D B e y < 0))
  | 0, w, is, z, m, he, _, h, hB => by
    obtain ⟨-, -, -, -, -, ⟨k0, k1⟩, -⟩ := hI
    refine ⟨m, is, ?_, Fr.rf, ?_⟩
    · rw [sg_226_16 (by omega)]
      simp (disch := omega) only [shM h.1, ↓reduceIte, not_false_eq_true, not_true_eq_false, and_self, and_true, true_and, false_and, and_false, or_true, true_or, or_false, false_or, or_self, reduceCtorEq, mm_q, Option.getD_some, cI_some, cJ_some, cV_some, cS_some, kd_sI, kd_sL, kd_sR, kd_cp, ln_sI, ln_sL, ln_sR, ln_cp, gR_sI, gR_sL, gR_sR, gR_cp, gL_sI, gL_sR, gL_cp, gI_sL, gI_sR, iI_add, iI_sub, iI_mul, iI_neg, iI_in, iI_tn, iI_lt, iI_eq, Nat.reduceLeDiff, Nat.reduceEqDiff, Nat.reduceAdd, Int.reduceEq, Int.reduceLT, Int.reduceLE, Int.reduceNeg, Int.reduceAdd, Int.reduceSub, Int.reduceMul, M201 h, show ¬ w < st D 6 by omega]
      cases is <;> simp (disch := omega) only [↓reduceIte, not_false_eq_true, not_true_eq_false, and_self, and_true, true_and, false_and, and_false, or_true, true_or, or_false, false_or, or_self, reduceCtorEq, mm_q, Option.getD_some, cI_some, cJ_some, cV_some, cS_some, kd_sI, kd_sL, kd_sR, kd_cp, ln_sI, ln_sL, ln_sR, ln_cp, gR_sI, gR_sL, gR_sR, gR_cp, gL_sI, gL_sR, gL_cp, gI_sL, gI_sR, iI_add, iI_sub, iI_mul, iI_neg, iI_in, iI_tn, iI_lt, iI_eq, Nat.reduceLeDiff, Nat.reduceEqDiff, Nat.reduceAdd, Int.reduceEq, Int.reduceLT, Int.reduceLE, Int.reduceNeg, Int.reduceAdd, Int.reduceSub, Int.reduceMul, bI_t, bI_f, decide_true, decide_false, Bool.and_true, Bool.and_false, Bool.true_and, Bool.false_and, Bool.false_eq_true, Bool.and_self, Bool.not_true, Bool.not_false]
    · constructor
      · intro h1; exact ⟨h1, fun y e _ _ _ _ => by omega⟩
      · exact fun h1 => h1.1
  | k + 1, w, is, z, m, he, hw0, h, hB => by
    have hI2 := hI
    obtain ⟨-, -, -, -, -, ⟨k0, k1⟩, -⟩ := hI
    obtain ⟨m1, e', is1, e1, f1, c1⟩ := M226I (b := b) hI2 hL hIB hd hw0 (show w < st D 6 by omega) w.toNat 0 is m (by omega) (by omega) h hB
    obtain ⟨m', is', e2, f2, c2⟩ := M226L hI2 hL hIB hd k (w + 1) is1 (some (.int (iI e'))) m1 (by omega) (by omega) (h.frL f1) (hB.frL f1)
    refine ⟨m', is', ?_, f1.tr f2, ?_⟩
    · rw [sg_226_16 (by omega)]
      simp (disch := omega) only [shM h.1, ↓reduceIte, not_false_eq_true, not_true_eq_false, and_self, and_true, true_and, false_and, and_false, or_true, true_or, or_false, false_or, or_self, reduceCtorEq, mm_q, Option.getD_some, cI_some, cJ_some, cV_some, cS_some, kd_sI, kd_sL, kd_sR, kd_cp, ln_sI, ln_sL, ln_sR, ln_cp, gR_sI, gR_sL, gR_sR, gR_cp, gL_sI, gL_sR, gL_cp, gI_sL, gI_sR, iI_add, iI_sub, iI_mul, iI_neg, iI_in, iI_tn, iI_lt, iI_eq, Nat.reduceLeDiff, Nat.reduceEqDiff, Nat.reduceAdd, Int.reduceEq, Int.reduceLT, Int.reduceLE, Int.reduceNeg, Int.reduceAdd, Int.reduceSub, Int.reduceMul, M201 h, show w < st D 6 by omega]
      rw [e1, sg_226_60]
      simp (disch := omega) only [↓reduceIte, not_false_eq_true, not_true_eq_false, and_self, and_true, true_and, false_and, and_false, or_true, true_or, or_false, false_or, or_self, reduceCtorEq, mm_q, Option.getD_some, cI_some, cJ_some, cV_some, cS_some, kd_sI, kd_sL, kd_sR, kd_cp, ln_sI, ln_sL, ln_sR, ln_cp, gR_sI, gR_sL, gR_sR, gR_cp, gL_sI, gL_sR, gL_cp, gI_sL, gI_sR, iI_add, iI_sub, iI_mul, iI_neg, iI_in, iI_tn, iI_lt, iI_eq, Nat.reduceLeDiff, Nat.reduceEqDiff, Nat.reduceAdd, Int.reduceEq, Int.reduceLT, Int.reduceLE, Int.reduceNeg, Int.reduceAdd, Int.reduceSub, Int.reduceMul]
      exact e2
    · rw [c2, c1]
      constructor
      · rintro ⟨⟨p1, p2⟩, p3⟩
        refine ⟨p1, fun y e y0 y1 x0 x1 => ?_⟩
        by_cases q : y = w
        · subst q; exact p2 e x0 x1
        · exact p3 y e (by omega) y1 x0 x1
      · rintro ⟨p1, p2⟩
        exact ⟨⟨p1, fun x x0 x1 => p2 w x (by omega) (by omega) x0 x1⟩, fun y e y0 y1 x0 x1 => p2 y e (by omega) y1 x0 x1⟩
theorem M226 (h : MD D E m) (hB : Blk m b B) (hI : InvS D) (hL : InvL D) (hIB : InvB D B) (hd : 7 ≤ d) : ∃ m' is', mm_ev d 226 0 [some (.ref 316), some (.int (iI b)), none, none, none] [] m = some (some (some (.int (iI (bI is')))), m') ∧ Fr scL m m' ∧ (is' = true ↔ GoodB D B) := by
  obtain ⟨m1, e1, f1⟩ := M227 (d := d - 1) h hB hI hL hIB (by omega)
  have hI2 := hI
  obtain ⟨-, -, -, -, -, ⟨k0, k1⟩, ⟨q0, q1⟩, -⟩ := hI
  obtain ⟨m', is', e2, f2, c2⟩ := M226L (E := E) (b := b) hI2 hL hIB (d := d) (by omega) (st D 6).toNat 0 (decide (missedB D B = 0)) none m1 (by omega) (by omega) (h.frL f1) (hB.frL f1)
  have mr : 0 ≤ missedB D B ∧ missedB D B ≤ 8 := by
    unfold missedB
    have := cntGo_r (fun q => decide (0 < offB D B (B 0) true q)) (st D 7).toNat 0 0
    omega
  refine ⟨m', is', ?_, f1.tr f2, ?_⟩
  · rw [sg_226_0 (by omega)]
    simp (disch := omega) only [shM h.1, ↓reduceIte, not_false_eq_true, not_true_eq_false, and_self, and_true, true_and, reduceCtorEq, mm_q, Option.getD_some, cI_some, cJ_some, cV_some, cS_some, Nat.reduceLeDiff, Nat.reduceEqDiff, e1]
    by_cases z : missedB D B = 0
    · simp (disch := omega) only [↓reduceIte, not_false_eq_true, not_true_eq_false, and_self, and_true, true_and, false_and, and_false, or_true, true_or, or_false, false_or, or_self, reduceCtorEq, mm_q, Option.getD_some, cI_some, cJ_some, cV_some, cS_some, kd_sI, kd_sL, kd_sR, kd_cp, ln_sI, ln_sL, ln_sR, ln_cp, gR_sI, gR_sL, gR_sR, gR_cp, gL_sI, gL_sR, gL_cp, gI_sL, gI_sR, iI_add, iI_sub, iI_mul, iI_neg, iI_in, iI_tn, iI_lt, iI_eq, Nat.reduceLeDiff, Nat.reduceEqDiff, Nat.reduceAdd, Int.reduceEq, Int.reduceLT, Int.reduceLE, Int.reduceNeg, Int.reduceAdd, Int.reduceSub, Int.reduceMul, bI_t, bI_f, decide_true, decide_false, Bool.and_true, Bool.and_false, Bool.true_and, Bool.false_and, Bool.false_eq_true, Bool.and_self, Bool.not_true, Bool.not_false, z, sg_226_13] at e2 ⊢
      exact e2
    · simp (disch := omega) only [↓reduceIte, not_false_eq_true, not_true_eq_false, and_self, and_true, true_and, false_and, and_false, or_true, true_or, or_false, false_or, or_self, reduceCtorEq, mm_q, Option.getD_some, cI_some, cJ_some, cV_some, cS_some, kd_sI, kd_sL, kd_sR, kd_cp, ln_sI, ln_sL, ln_sR, ln_cp, gR_sI, gR_sL, gR_sR, gR_cp, gL_sI, gL_sR, gL_cp, gI_sL, gI_sR, iI_add, iI_sub, iI_mul, iI_neg, iI_in, iI_tn, iI_lt, iI_eq, Nat.reduceLeDiff, Nat.reduceEqDiff, Nat.reduceAdd, Int.reduceEq, Int.reduceLT, Int.reduceLE, Int.reduceNeg, Int.reduceAdd, Int.reduceSub, Int.reduceMul, bI_t, bI_f, decide_true, decide_false, Bool.and_true, Bool.and_false, Bool.true_and, Bool.false_and, Bool.false_eq_true, Bool.and_self, Bool.not_true, Bool.not_false, z, sg_226_13] at e2 ⊢
      exact e2
  · rw [c2]
    unfold GoodB
    constructor
    · rintro ⟨p1, p2⟩
      exact ⟨of_decide_eq_true p1, fun w e e0 e1 e2 => p2 w e (by omega) e2 e0 e1⟩
    · rintro ⟨p1, p2⟩
      exact ⟨decide_eq_true p1, fun w e w0 w1 e0 e1 => p2 w e e0 e1 w1⟩
end
