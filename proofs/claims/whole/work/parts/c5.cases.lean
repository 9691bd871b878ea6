def SC (f : Nat → Int32) (n t : Nat) (m : mm_M) : Prop := m.2.1 = (t, n) ∧ ∀ k, mm_gI m 0 k = f k
/-- a case of the law's switch comes to the next round -/
def LC (f : Nat → Int32) (n t d pc : Nat) (i : Int) (m : mm_M) : Prop := ∀ z5 z6 : Option Value, ∃ (m' : mm_M) (y5 y6 : Option Value) (t' : Nat), mm_ev d 277 pc [some (.ref 0), some (.ref 100), some (.ref 316), some (.ref 343), (some (.int (iI (i)))), z5, z6] [] m = mm_ev d 277 1473 [some (.ref 0), some (.ref 100), some (.ref 316), some (.ref 343), (some (.int (iI (i)))), y5, y6] [] m' ∧ Wd m' ∧ SC f n t' m' ∧ t' ≤ t + 1
section
variable {f : Nat → Int32} {n t d : Nat} {i : Int} {m m' : mm_M}
theorem SC.to (h : SC f n t m) (g : scF0 m m') : SC f n t m' := ⟨g.1.trans h.1, fun k => (g.2.1 k).trans (h.2 k)⟩
theorem SC.kd (h : SC f n t m) : mm_kd m 0 = 20 ∧ mm_ln m 0 = n := by
  have e : mm_sh m 0 = some (20, n) := by
    unfold mm_sh
    rw [if_pos rfl, h.1]
  unfold mm_kd mm_ln
  rw [e]
  exact ⟨rfl, rfl⟩
theorem lg_self {v : Int64} : lg_cmp v v = iI 0 := by
  have hn : ¬ v < v := fun h => by
    rw [Int64.lt_iff_toInt_lt] at h
    omega
  unfold lg_cmp
  rw [if_neg hn, if_pos rfl]
  rfl
theorem lc_0 (hw : Wd m) (hs : SC f n t m) (hd : 80 ≤ d) (i0 : 0 ≤ i) (i1 : i + 7 ≤ (n : Int)) (n1 : n ≤ 3584) : LC f n t d 196 i m := by
  intro z5 z6
  obtain ⟨D, E, s, p, h⟩ := hw
  obtain ⟨k0, l0⟩ := hs.kd
  have x0 := scF0.rf.kd h.1.1.1
  obtain ⟨v, c1, c2, e1, e2, w2⟩ := T0 (d := d - 1) h (by omega) (u := (lShl ((f (i + 1).toNat).toInt64) (iI 32)) ||| (((f (i + 2).toNat).toInt64) &&& (lI 4294967295))) (v := (lShl ((f (i + 3).toNat).toInt64) (iI 32)) ||| (((f (i + 4).toNat).toInt64) &&& (lI 4294967295))) (w := (lShl ((f (i + 5).toNat).toInt64) (iI 32)) ||| (((f (i + 6).toNat).toInt64) &&& (lI 4294967295)))
  have f1 := s0_ev e1 (by decide)
  have f2 := s0_ev e2 (by decide)
  have s1 := hs.to f1
  obtain ⟨k1, l1⟩ := s1.kd
  have x1 := f1.kd h.1.1.1
  refine ⟨c2, z5, z6, t, ?_, w2, s1.to f2, by omega⟩
  rw [sg_277_196 (by omega)]
  simp (disch := omega) only [↓reduceIte, not_false_eq_true, not_true_eq_false, and_self, and_true, true_and, false_and, and_false, or_true, true_or, or_false, false_or, or_self, reduceCtorEq, mm_q, Option.getD_some, cI_some, cJ_some, cV_some, cS_some, kd_sI, kd_sL, kd_sR, kd_cp, ln_sI, ln_sL, ln_sR, ln_cp, gR_sI, gR_sL, gR_sR, gR_cp, gL_sI, gL_sR, gL_cp, gI_sL, gI_sR, iI_add, iI_sub, iI_mul, iI_neg, iI_in, iI_tn, iI_lt, iI_eq, Nat.reduceLeDiff, Nat.reduceEqDiff, Nat.reduceAdd, Int.reduceEq, Int.reduceLT, Int.reduceLE, Int.reduceNeg, Int.reduceAdd, Int.reduceSub, Int.reduceMul, eq_self, k0, l0, hs.2, x0.1, e1]
  rw [sg_277_267 (by omega)]
  simp (disch := omega) only [↓reduceIte, not_false_eq_true, not_true_eq_false, and_self, and_true, true_and, false_and, and_false, or_true, true_or, or_false, false_or, or_self, reduceCtorEq, mm_q, Option.getD_some, cI_some, cJ_some, cV_some, cS_some, kd_sI, kd_sL, kd_sR, kd_cp, ln_sI, ln_sL, ln_sR, ln_cp, gR_sI, gR_sL, gR_sR, gR_cp, gL_sI, gL_sR, gL_cp, gI_sL, gI_sR, iI_add, iI_sub, iI_mul, iI_neg, iI_in, iI_tn, iI_lt, iI_eq, Nat.reduceLeDiff, Nat.reduceEqDiff, Nat.reduceAdd, Int.reduceEq, Int.reduceLT, Int.reduceLE, Int.reduceNeg, Int.reduceAdd, Int.reduceSub, Int.reduceMul, eq_self, k1, l1, s1.2, x1.2.1, e2]
theorem lc_1 (hw : Wd m) (hs : SC f n t m) (hd : 80 ≤ d) (i0 : 0 ≤ i) (i1 : i + 7 ≤ (n : Int)) (n1 : n ≤ 3584) : LC f n t d 343 i m := by
  intro z5 z6
  obtain ⟨D, E, s, p, h⟩ := hw
  obtain ⟨k0, l0⟩ := hs.kd
  have x0 := scF0.rf.kd h.1.1.1
  obtain ⟨v, c1, c2, e1, e2, w2⟩ := T1 (d := d - 1) h (by omega)
  have f1 := s0_ev e1 (by decide)
  have f2 := s0_ev e2 (by decide)
  have s1 := hs.to f1
  obtain ⟨k1, l1⟩ := s1.kd
  have x1 := f1.kd h.1.1.1
  refine ⟨c2, z5, z6, t, ?_, w2, s1.to f2, by omega⟩
  rw [sg_277_343 (by omega)]
  simp (disch := omega) only [↓reduceIte, not_false_eq_true, not_true_eq_false, and_self, and_true, true_and, false_and, and_false, or_true, true_or, or_false, false_or, or_self, reduceCtorEq, mm_q, Option.getD_some, cI_some, cJ_some, cV_some, cS_some, kd_sI, kd_sL, kd_sR, kd_cp, ln_sI, ln_sL, ln_sR, ln_cp, gR_sI, gR_sL, gR_sR, gR_cp, gL_sI, gL_sR, gL_cp, gI_sL, gI_sR, iI_add, iI_sub, iI_mul, iI_neg, iI_in, iI_tn, iI_lt, iI_eq, Nat.reduceLeDiff, Nat.reduceEqDiff, Nat.reduceAdd, Int.reduceEq, Int.reduceLT, Int.reduceLE, Int.reduceNeg, Int.reduceAdd, Int.reduceSub, Int.reduceMul, eq_self, k0, l0, hs.2, x0.1, e1]
  rw [sg_277_347 (by omega)]
  simp (disch := omega) only [↓reduceIte, not_false_eq_true, not_true_eq_false, and_self, and_true, true_and, false_and, and_false, or_true, true_or, or_false, false_or, or_self, reduceCtorEq, mm_q, Option.getD_some, cI_some, cJ_some, cV_some, cS_some, kd_sI, kd_sL, kd_sR, kd_cp, ln_sI, ln_sL, ln_sR, ln_cp, gR_sI, gR_sL, gR_sR, gR_cp, gL_sI, gL_sR, gL_cp, gI_sL, gI_sR, iI_add, iI_sub, iI_mul, iI_neg, iI_in, iI_tn, iI_lt, iI_eq, Nat.reduceLeDiff, Nat.reduceEqDiff, Nat.reduceAdd, Int.reduceEq, Int.reduceLT, Int.reduceLE, Int.reduceNeg, Int.reduceAdd, Int.reduceSub, Int.reduceMul, eq_self, k1, l1, s1.2, x1.2.1, e2]
theorem lc_2 (hw : Wd m) (hs : SC f n t m) (hd : 80 ≤ d) (i0 : 0 ≤ i) (i1 : i + 7 ≤ (n : Int)) (n1 : n ≤ 3584) : LC f n t d 356 i m := by
  intro z5 z6
  obtain ⟨D, E, s, p, h⟩ := hw
  obtain ⟨k0, l0⟩ := hs.kd
  have x0 := scF0.rf.kd h.1.1.1
  obtain ⟨v, c1, c2, e1, e2, w2⟩ := T2 (d := d - 1) h (by omega)
  have f1 := s0_ev e1 (by decide)
  have f2 := s0_ev e2 (by decide)
  have s1 := hs.to f1
  obtain ⟨k1, l1⟩ := s1.kd
  have x1 := f1.kd h.1.1.1
  refine ⟨c2, z5, z6, t, ?_, w2, s1.to f2, by omega⟩
  rw [sg_277_356 (by omega)]
  simp (disch := omega) only [↓reduceIte, not_false_eq_true, not_true_eq_false, and_self, and_true, true_and, false_and, and_false, or_true, true_or, or_false, false_or, or_self, reduceCtorEq, mm_q, Option.getD_some, cI_some, cJ_some, cV_some, cS_some, kd_sI, kd_sL, kd_sR, kd_cp, ln_sI, ln_sL, ln_sR, ln_cp, gR_sI, gR_sL, gR_sR, gR_cp, gL_sI, gL_sR, gL_cp, gI_sL, gI_sR, iI_add, iI_sub, iI_mul, iI_neg, iI_in, iI_tn, iI_lt, iI_eq, Nat.reduceLeDiff, Nat.reduceEqDiff, Nat.reduceAdd, Int.reduceEq, Int.reduceLT, Int.reduceLE, Int.reduceNeg, Int.reduceAdd, Int.reduceSub, Int.reduceMul, eq_self, k0, l0, hs.2, x0.1, e1]
  rw [sg_277_360 (by omega)]
  simp (disch := omega) only [↓reduceIte, not_false_eq_true, not_true_eq_false, and_self, and_true, true_and, false_and, and_false, or_true, true_or, or_false, false_or, or_self, reduceCtorEq, mm_q, Option.getD_some, cI_some, cJ_some, cV_some, cS_some, kd_sI, kd_sL, kd_sR, kd_cp, ln_sI, ln_sL, ln_sR, ln_cp, gR_sI, gR_sL, gR_sR, gR_cp, gL_sI, gL_sR, gL_cp, gI_sL, gI_sR, iI_add, iI_sub, iI_mul, iI_neg, iI_in, iI_tn, iI_lt, iI_eq, Nat.reduceLeDiff, Nat.reduceEqDiff, Nat.reduceAdd, Int.reduceEq, Int.reduceLT, Int.reduceLE, Int.reduceNeg, Int.reduceAdd, Int.reduceSub, Int.reduceMul, eq_self, k1, l1, s1.2, x1.2.1, e2]
theorem lc_3 (hw : Wd m) (hs : SC f n t m) (hd : 80 ≤ d) (i0 : 0 ≤ i) (i1 : i + 7 ≤ (n : Int)) (n1 : n ≤ 3584) : LC f n t d 369 i m := by
  intro z5 z6
  obtain ⟨D, E, s, p, h⟩ := hw
  obtain ⟨k0, l0⟩ := hs.kd
  have x0 := scF0.rf.kd h.1.1.1
  obtain ⟨v, c1, c2, e1, e2, w2⟩ := T3 (d := d - 1) h (by omega) (x := f (i + 1).toNat) (y := f (i + 2).toNat)
  have f1 := s0_ev e1 (by decide)
  have f2 := s0_ev e2 (by decide)
  have s1 := hs.to f1
  obtain ⟨k1, l1⟩ := s1.kd
  have x1 := f1.kd h.1.1.1
  refine ⟨c2, z5, z6, t, ?_, w2, s1.to f2, by omega⟩
  rw [sg_277_369 (by omega)]
  simp (disch := omega) only [↓reduceIte, not_false_eq_true, not_true_eq_false, and_self, and_true, true_and, false_and, and_false, or_true, true_or, or_false, false_or, or_self, reduceCtorEq, mm_q, Option.getD_some, cI_some, cJ_some, cV_some, cS_some, kd_sI, kd_sL, kd_sR, kd_cp, ln_sI, ln_sL, ln_sR, ln_cp, gR_sI, gR_sL, gR_sR, gR_cp, gL_sI, gL_sR, gL_cp, gI_sL, gI_sR, iI_add, iI_sub, iI_mul, iI_neg, iI_in, iI_tn, iI_lt, iI_eq, Nat.reduceLeDiff, Nat.reduceEqDiff, Nat.reduceAdd, Int.reduceEq, Int.reduceLT, Int.reduceLE, Int.reduceNeg, Int.reduceAdd, Int.reduceSub, Int.reduceMul, eq_self, k0, l0, hs.2, x0.1, e1]
  rw [sg_277_385 (by omega)]
  simp (disch := omega) only [↓reduceIte, not_false_eq_true, not_true_eq_false, and_self, and_true, true_and, false_and, and_false, or_true, true_or, or_false, false_or, or_self, reduceCtorEq, mm_q, Option.getD_some, cI_some, cJ_some, cV_some, cS_some, kd_sI, kd_sL, kd_sR, kd_cp, ln_sI, ln_sL, ln_sR, ln_cp, gR_sI, gR_sL, gR_sR, gR_cp, gL_sI, gL_sR, gL_cp, gI_sL, gI_sR, iI_add, iI_sub, iI_mul, iI_neg, iI_in, iI_tn, iI_lt, iI_eq, Nat.reduceLeDiff, Nat.reduceEqDiff, Nat.reduceAdd, Int.reduceEq, Int.reduceLT, Int.reduceLE, Int.reduceNeg, Int.reduceAdd, Int.reduceSub, Int.reduceMul, eq_self, k1, l1, s1.2, x1.2.1, e2]
theorem lc_4 (hw : Wd m) (hs : SC f n t m) (hd : 80 ≤ d) (i0 : 0 ≤ i) (i1 : i + 7 ≤ (n : Int)) (n1 : n ≤ 3584) : LC f n t d 406 i m := by
  intro z5 z6
  obtain ⟨D, E, s, p, h⟩ := hw
  obtain ⟨k0, l0⟩ := hs.kd
  have x0 := scF0.rf.kd h.1.1.1
  obtain ⟨v, c1, c2, e1, e2, w2⟩ := T4 (d := d - 1) h (by omega) (x := f (i + 1).toNat)
  have f1 := s0_ev e1 (by decide)
  have f2 := s0_ev e2 (by decide)
  have s1 := hs.to f1
  obtain ⟨k1, l1⟩ := s1.kd
  have x1 := f1.kd h.1.1.1
  refine ⟨c2, z5, z6, t, ?_, w2, s1.to f2, by omega⟩
  rw [sg_277_406 (by omega)]
  simp (disch := omega) only [↓reduceIte, not_false_eq_true, not_true_eq_false, and_self, and_true, true_and, false_and, and_false, or_true, true_or, or_false, false_or, or_self, reduceCtorEq, mm_q, Option.getD_some, cI_some, cJ_some, cV_some, cS_some, kd_sI, kd_sL, kd_sR, kd_cp, ln_sI, ln_sL, ln_sR, ln_cp, gR_sI, gR_sL, gR_sR, gR_cp, gL_sI, gL_sR, gL_cp, gI_sL, gI_sR, iI_add, iI_sub, iI_mul, iI_neg, iI_in, iI_tn, iI_lt, iI_eq, Nat.reduceLeDiff, Nat.reduceEqDiff, Nat.reduceAdd, Int.reduceEq, Int.reduceLT, Int.reduceLE, Int.reduceNeg, Int.reduceAdd, Int.reduceSub, Int.reduceMul, eq_self, k0, l0, hs.2, x0.1, e1]
  rw [sg_277_416 (by omega)]
  simp (disch := omega) only [↓reduceIte, not_false_eq_true, not_true_eq_false, and_self, and_true, true_and, false_and, and_false, or_true, true_or, or_false, false_or, or_self, reduceCtorEq, mm_q, Option.getD_some, cI_some, cJ_some, cV_some, cS_some, kd_sI, kd_sL, kd_sR, kd_cp, ln_sI, ln_sL, ln_sR, ln_cp, gR_sI, gR_sL, gR_sR, gR_cp, gL_sI, gL_sR, gL_cp, gI_sL, gI_sR, iI_add, iI_sub, iI_mul, iI_neg, iI_in, iI_tn, iI_lt, iI_eq, Nat.reduceLeDiff, Nat.reduceEqDiff, Nat.reduceAdd, Int.reduceEq, Int.reduceLT, Int.reduceLE, Int.reduceNeg, Int.reduceAdd, Int.reduceSub, Int.reduceMul, eq_self, k1, l1, s1.2, x1.2.1, e2]
theorem lc_5 (hw : Wd m) (hs : SC f n t m) (hd : 80 ≤ d) (i0 : 0 ≤ i) (i1 : i + 7 ≤ (n : Int)) (n1 : n ≤ 3584) : LC f n t d 431 i m := by
  intro z5 z6
  obtain ⟨D, E, s, p, h⟩ := hw
  obtain ⟨k0, l0⟩ := hs.kd
  have x0 := scF0.rf.kd h.1.1.1
  obtain ⟨v, c1, c2, e1, e2, w2⟩ := T5 (d := d - 1) h (by omega) (x := f (i + 1).toNat) (y := f (i + 2).toNat)
  have f1 := s0_ev e1 (by decide)
  have f2 := s0_ev e2 (by decide)
  have s1 := hs.to f1
  obtain ⟨k1, l1⟩ := s1.kd
  have x1 := f1.kd h.1.1.1
  refine ⟨c2, z5, z6, t, ?_, w2, s1.to f2, by omega⟩
  rw [sg_277_431 (by omega)]
  simp (disch := omega) only [↓reduceIte, not_false_eq_true, not_true_eq_false, and_self, and_true, true_and, false_and, and_false, or_true, true_or, or_false, false_or, or_self, reduceCtorEq, mm_q, Option.getD_some, cI_some, cJ_some, cV_some, cS_some, kd_sI, kd_sL, kd_sR, kd_cp, ln_sI, ln_sL, ln_sR, ln_cp, gR_sI, gR_sL, gR_sR, gR_cp, gL_sI, gL_sR, gL_cp, gI_sL, gI_sR, iI_add, iI_sub, iI_mul, iI_neg, iI_in, iI_tn, iI_lt, iI_eq, Nat.reduceLeDiff, Nat.reduceEqDiff, Nat.reduceAdd, Int.reduceEq, Int.reduceLT, Int.reduceLE, Int.reduceNeg, Int.reduceAdd, Int.reduceSub, Int.reduceMul, eq_self, k0, l0, hs.2, x0.1, e1]
  rw [sg_277_447 (by omega)]
  simp (disch := omega) only [↓reduceIte, not_false_eq_true, not_true_eq_false, and_self, and_true, true_and, false_and, and_false, or_true, true_or, or_false, false_or, or_self, reduceCtorEq, mm_q, Option.getD_some, cI_some, cJ_some, cV_some, cS_some, kd_sI, kd_sL, kd_sR, kd_cp, ln_sI, ln_sL, ln_sR, ln_cp, gR_sI, gR_sL, gR_sR, gR_cp, gL_sI, gL_sR, gL_cp, gI_sL, gI_sR, iI_add, iI_sub, iI_mul, iI_neg, iI_in, iI_tn, iI_lt, iI_eq, Nat.reduceLeDiff, Nat.reduceEqDiff, Nat.reduceAdd, Int.reduceEq, Int.reduceLT, Int.reduceLE, Int.reduceNeg, Int.reduceAdd, Int.reduceSub, Int.reduceMul, eq_self, k1, l1, s1.2, x1.2.1, e2]
theorem lc_6 (hw : Wd m) (hs : SC f n t m) (hd : 80 ≤ d) (i0 : 0 ≤ i) (i1 : i + 7 ≤ (n : Int)) (n1 : n ≤ 3584) : LC f n t d 468 i m := by
  intro z5 z6
  obtain ⟨D, E, s, p, h⟩ := hw
  obtain ⟨k0, l0⟩ := hs.kd
  have x0 := scF0.rf.kd h.1.1.1
  obtain ⟨v, c1, c2, e1, e2, w2⟩ := T6 (d := d - 1) h (by omega) (x := f (i + 1).toNat)
  have f1 := s0_ev e1 (by decide)
  have f2 := s0_ev e2 (by decide)
  have s1 := hs.to f1
  obtain ⟨k1, l1⟩ := s1.kd
  have x1 := f1.kd h.1.1.1
  refine ⟨c2, z5, z6, t, ?_, w2, s1.to f2, by omega⟩
  rw [sg_277_468 (by omega)]
  simp (disch := omega) only [↓reduceIte, not_false_eq_true, not_true_eq_false, and_self, and_true, true_and, false_and, and_false, or_true, true_or, or_false, false_or, or_self, reduceCtorEq, mm_q, Option.getD_some, cI_some, cJ_some, cV_some, cS_some, kd_sI, kd_sL, kd_sR, kd_cp, ln_sI, ln_sL, ln_sR, ln_cp, gR_sI, gR_sL, gR_sR, gR_cp, gL_sI, gL_sR, gL_cp, gI_sL, gI_sR, iI_add, iI_sub, iI_mul, iI_neg, iI_in, iI_tn, iI_lt, iI_eq, Nat.reduceLeDiff, Nat.reduceEqDiff, Nat.reduceAdd, Int.reduceEq, Int.reduceLT, Int.reduceLE, Int.reduceNeg, Int.reduceAdd, Int.reduceSub, Int.reduceMul, eq_self, k0, l0, hs.2, x0.1, e1]
  rw [sg_277_478 (by omega)]
  simp (disch := omega) only [↓reduceIte, not_false_eq_true, not_true_eq_false, and_self, and_true, true_and, false_and, and_false, or_true, true_or, or_false, false_or, or_self, reduceCtorEq, mm_q, Option.getD_some, cI_some, cJ_some, cV_some, cS_some, kd_sI, kd_sL, kd_sR, kd_cp, ln_sI, ln_sL, ln_sR, ln_cp, gR_sI, gR_sL, gR_sR, gR_cp, gL_sI, gL_sR, gL_cp, gI_sL, gI_sR, iI_add, iI_sub, iI_mul, iI_neg, iI_in, iI_tn, iI_lt, iI_eq, Nat.reduceLeDiff, Nat.reduceEqDiff, Nat.reduceAdd, Int.reduceEq, Int.reduceLT, Int.reduceLE, Int.reduceNeg, Int.reduceAdd, Int.reduceSub, Int.reduceMul, eq_self, k1, l1, s1.2, x1.2.1, e2]
theorem lc_7 (hw : Wd m) (hs : SC f n t m) (hd : 80 ≤ d) (i0 : 0 ≤ i) (i1 : i + 7 ≤ (n : Int)) (n1 : n ≤ 3584) : LC f n t d 493 i m := by
  intro z5 z6
  obtain ⟨D, E, s, p, h⟩ := hw
  obtain ⟨k0, l0⟩ := hs.kd
  have x0 := scF0.rf.kd h.1.1.1
  obtain ⟨v, c1, c2, e1, e2, w2⟩ := T7 (d := d - 1) h (by omega) (x := f (i + 1).toNat) (y := f (i + 2).toNat)
  have f1 := s0_ev e1 (by decide)
  have f2 := s0_ev e2 (by decide)
  have s1 := hs.to f1
  obtain ⟨k1, l1⟩ := s1.kd
  have x1 := f1.kd h.1.1.1
  refine ⟨c2, z5, z6, t, ?_, w2, s1.to f2, by omega⟩
  rw [sg_277_493 (by omega)]
  simp (disch := omega) only [↓reduceIte, not_false_eq_true, not_true_eq_false, and_self, and_true, true_and, false_and, and_false, or_true, true_or, or_false, false_or, or_self, reduceCtorEq, mm_q, Option.getD_some, cI_some, cJ_some, cV_some, cS_some, kd_sI, kd_sL, kd_sR, kd_cp, ln_sI, ln_sL, ln_sR, ln_cp, gR_sI, gR_sL, gR_sR, gR_cp, gL_sI, gL_sR, gL_cp, gI_sL, gI_sR, iI_add, iI_sub, iI_mul, iI_neg, iI_in, iI_tn, iI_lt, iI_eq, Nat.reduceLeDiff, Nat.reduceEqDiff, Nat.reduceAdd, Int.reduceEq, Int.reduceLT, Int.reduceLE, Int.reduceNeg, Int.reduceAdd, Int.reduceSub, Int.reduceMul, eq_self, k0, l0, hs.2, x0.1, e1]
  rw [sg_277_509 (by omega)]
  simp (disch := omega) only [↓reduceIte, not_false_eq_true, not_true_eq_false, and_self, and_true, true_and, false_and, and_false, or_true, true_or, or_false, false_or, or_self, reduceCtorEq, mm_q, Option.getD_some, cI_some, cJ_some, cV_some, cS_some, kd_sI, kd_sL, kd_sR, kd_cp, ln_sI, ln_sL, ln_sR, ln_cp, gR_sI, gR_sL, gR_sR, gR_cp, gL_sI, gL_sR, gL_cp, gI_sL, gI_sR, iI_add, iI_sub, iI_mul, iI_neg, iI_in, iI_tn, iI_lt, iI_eq, Nat.reduceLeDiff, Nat.reduceEqDiff, Nat.reduceAdd, Int.reduceEq, Int.reduceLT, Int.reduceLE, Int.reduceNeg, Int.reduceAdd, Int.reduceSub, Int.reduceMul, eq_self, k1, l1, s1.2, x1.2.1, e2]
theorem lc_8 (hw : Wd m) (hs : SC f n t m) (hd : 80 ≤ d) (i0 : 0 ≤ i) (i1 : i + 7 ≤ (n : Int)) (n1 : n ≤ 3584) : LC f n t d 530 i m := by
  intro z5 z6
  obtain ⟨D, E, s, p, h⟩ := hw
  obtain ⟨k0, l0⟩ := hs.kd
  have x0 := scF0.rf.kd h.1.1.1
  obtain ⟨v, c1, c2, e1, e2, w2⟩ := T8 (d := d - 1) h (by omega)
  have f1 := s0_ev e1 (by decide)
  have f2 := s0_ev e2 (by decide)
  have s1 := hs.to f1
  obtain ⟨k1, l1⟩ := s1.kd
  have x1 := f1.kd h.1.1.1
  refine ⟨c2, z5, z6, t, ?_, w2, s1.to f2, by omega⟩
  rw [sg_277_530 (by omega)]
  simp (disch := omega) only [↓reduceIte, not_false_eq_true, not_true_eq_false, and_self, and_true, true_and, false_and, and_false, or_true, true_or, or_false, false_or, or_self, reduceCtorEq, mm_q, Option.getD_some, cI_some, cJ_some, cV_some, cS_some, kd_sI, kd_sL, kd_sR, kd_cp, ln_sI, ln_sL, ln_sR, ln_cp, gR_sI, gR_sL, gR_sR, gR_cp, gL_sI, gL_sR, gL_cp, gI_sL, gI_sR, iI_add, iI_sub, iI_mul, iI_neg, iI_in, iI_tn, iI_lt, iI_eq, Nat.reduceLeDiff, Nat.reduceEqDiff, Nat.reduceAdd, Int.reduceEq, Int.reduceLT, Int.reduceLE, Int.reduceNeg, Int.reduceAdd, Int.reduceSub, Int.reduceMul, eq_self, k0, l0, hs.2, x0.1, e1]
  rw [sg_277_534 (by omega)]
  simp (disch := omega) only [↓reduceIte, not_false_eq_true, not_true_eq_false, and_self, and_true, true_and, false_and, and_false, or_true, true_or, or_false, false_or, or_self, reduceCtorEq, mm_q, Option.getD_some, cI_some, cJ_some, cV_some, cS_some, kd_sI, kd_sL, kd_sR, kd_cp, ln_sI, ln_sL, ln_sR, ln_cp, gR_sI, gR_sL, gR_sR, gR_cp, gL_sI, gL_sR, gL_cp, gI_sL, gI_sR, iI_add, iI_sub, iI_mul, iI_neg, iI_in, iI_tn, iI_lt, iI_eq, Nat.reduceLeDiff, Nat.reduceEqDiff, Nat.reduceAdd, Int.reduceEq, Int.reduceLT, Int.reduceLE, Int.reduceNeg, Int.reduceAdd, Int.reduceSub, Int.reduceMul, eq_self, k1, l1, s1.2, x1.2.1, e2]
theorem lc_9 (hw : Wd m) (hs : SC f n t m) (hd : 80 ≤ d) (i0 : 0 ≤ i) (i1 : i + 7 ≤ (n : Int)) (n1 : n ≤ 3584) : LC f n t d 543 i m := by
  intro z5 z6
  obtain ⟨D, E, s, p, h⟩ := hw
  obtain ⟨k0, l0⟩ := hs.kd
  have x0 := scF0.rf.kd h.1.1.1
  obtain ⟨v, c1, c2, e1, e2, w2⟩ := T9 (d := d - 1) h (by omega)
  have f1 := s0_ev e1 (by decide)
  have f2 := s0_ev e2 (by decide)
  have s1 := hs.to f1
  obtain ⟨k1, l1⟩ := s1.kd
  have x1 := f1.kd h.1.1.1
  refine ⟨c2, z5, z6, t, ?_, w2, s1.to f2, by omega⟩
  rw [sg_277_543 (by omega)]
  simp (disch := omega) only [↓reduceIte, not_false_eq_true, not_true_eq_false, and_self, and_true, true_and, false_and, and_false, or_true, true_or, or_false, false_or, or_self, reduceCtorEq, mm_q, Option.getD_some, cI_some, cJ_some, cV_some, cS_some, kd_sI, kd_sL, kd_sR, kd_cp, ln_sI, ln_sL, ln_sR, ln_cp, gR_sI, gR_sL, gR_sR, gR_cp, gL_sI, gL_sR, gL_cp, gI_sL, gI_sR, iI_add, iI_sub, iI_mul, iI_neg, iI_in, iI_tn, iI_lt, iI_eq, Nat.reduceLeDiff, Nat.reduceEqDiff, Nat.reduceAdd, Int.reduceEq, Int.reduceLT, Int.reduceLE, Int.reduceNeg, Int.reduceAdd, Int.reduceSub, Int.reduceMul, eq_self, k0, l0, hs.2, x0.1, e1]
  rw [sg_277_547 (by omega)]
  simp (disch := omega) only [↓reduceIte, not_false_eq_true, not_true_eq_false, and_self, and_true, true_and, false_and, and_false, or_true, true_or, or_false, false_or, or_self, reduceCtorEq, mm_q, Option.getD_some, cI_some, cJ_some, cV_some, cS_some, kd_sI, kd_sL, kd_sR, kd_cp, ln_sI, ln_sL, ln_sR, ln_cp, gR_sI, gR_sL, gR_sR, gR_cp, gL_sI, gL_sR, gL_cp, gI_sL, gI_sR, iI_add, iI_sub, iI_mul, iI_neg, iI_in, iI_tn, iI_lt, iI_eq, Nat.reduceLeDiff, Nat.reduceEqDiff, Nat.reduceAdd, Int.reduceEq, Int.reduceLT, Int.reduceLE, Int.reduceNeg, Int.reduceAdd, Int.reduceSub, Int.reduceMul, eq_self, k1, l1, s1.2, x1.2.1, e2]
theorem lc_10 (hw : Wd m) (hs : SC f n t m) (hd : 80 ≤ d) (i0 : 0 ≤ i) (i1 : i + 7 ≤ (n : Int)) (n1 : n ≤ 3584) : LC f n t d 556 i m := by
  intro z5 z6
  obtain ⟨D, E, s, p, h⟩ := hw
  obtain ⟨k0, l0⟩ := hs.kd
  have x0 := scF0.rf.kd h.1.1.1
  obtain ⟨v, c1, c2, e1, e2, w2⟩ := T10 (d := d - 1) h (by omega) (x := f (i + 1).toNat)
  have f1 := s0_ev e1 (by decide)
  have f2 := s0_ev e2 (by decide)
  have s1 := hs.to f1
  obtain ⟨k1, l1⟩ := s1.kd
  have x1 := f1.kd h.1.1.1
  refine ⟨c2, z5, z6, t, ?_, w2, s1.to f2, by omega⟩
  rw [sg_277_556 (by omega)]
  simp (disch := omega) only [↓reduceIte, not_false_eq_true, not_true_eq_false, and_self, and_true, true_and, false_and, and_false, or_true, true_or, or_false, false_or, or_self, reduceCtorEq, mm_q, Option.getD_some, cI_some, cJ_some, cV_some, cS_some, kd_sI, kd_sL, kd_sR, kd_cp, ln_sI, ln_sL, ln_sR, ln_cp, gR_sI, gR_sL, gR_sR, gR_cp, gL_sI, gL_sR, gL_cp, gI_sL, gI_sR, iI_add, iI_sub, iI_mul, iI_neg, iI_in, iI_tn, iI_lt, iI_eq, Nat.reduceLeDiff, Nat.reduceEqDiff, Nat.reduceAdd, Int.reduceEq, Int.reduceLT, Int.reduceLE, Int.reduceNeg, Int.reduceAdd, Int.reduceSub, Int.reduceMul, eq_self, k0, l0, hs.2, x0.1, e1]
  rw [sg_277_566 (by omega)]
  simp (disch := omega) only [↓reduceIte, not_false_eq_true, not_true_eq_false, and_self, and_true, true_and, false_and, and_false, or_true, true_or, or_false, false_or, or_self, reduceCtorEq, mm_q, Option.getD_some, cI_some, cJ_some, cV_some, cS_some, kd_sI, kd_sL, kd_sR, kd_cp, ln_sI, ln_sL, ln_sR, ln_cp, gR_sI, gR_sL, gR_sR, gR_cp, gL_sI, gL_sR, gL_cp, gI_sL, gI_sR, iI_add, iI_sub, iI_mul, iI_neg, iI_in, iI_tn, iI_lt, iI_eq, Nat.reduceLeDiff, Nat.reduceEqDiff, Nat.reduceAdd, Int.reduceEq, Int.reduceLT, Int.reduceLE, Int.reduceNeg, Int.reduceAdd, Int.reduceSub, Int.reduceMul, eq_self, k1, l1, s1.2, x1.2.1, e2]
theorem lc_11 (hw : Wd m) (hs : SC f n t m) (hd : 80 ≤ d) (i0 : 0 ≤ i) (i1 : i + 7 ≤ (n : Int)) (n1 : n ≤ 3584) : LC f n t d 581 i m := by
  intro z5 z6
  obtain ⟨D, E, s, p, h⟩ := hw
  obtain ⟨k0, l0⟩ := hs.kd
  have x0 := scF0.rf.kd h.1.1.1
  obtain ⟨v, c1, c2, e1, e2, w2⟩ := T11 (d := d - 1) h (by omega) (x := f (i + 1).toNat) (y := f (i + 2).toNat)
  have f1 := s0_ev e1 (by decide)
  have f2 := s0_ev e2 (by decide)
  have s1 := hs.to f1
  obtain ⟨k1, l1⟩ := s1.kd
  have x1 := f1.kd h.1.1.1
  refine ⟨c2, z5, z6, t, ?_, w2, s1.to f2, by omega⟩
  rw [sg_277_581 (by omega)]
  simp (disch := omega) only [↓reduceIte, not_false_eq_true, not_true_eq_false, and_self, and_true, true_and, false_and, and_false, or_true, true_or, or_false, false_or, or_self, reduceCtorEq, mm_q, Option.getD_some, cI_some, cJ_some, cV_some, cS_some, kd_sI, kd_sL, kd_sR, kd_cp, ln_sI, ln_sL, ln_sR, ln_cp, gR_sI, gR_sL, gR_sR, gR_cp, gL_sI, gL_sR, gL_cp, gI_sL, gI_sR, iI_add, iI_sub, iI_mul, iI_neg, iI_in, iI_tn, iI_lt, iI_eq, Nat.reduceLeDiff, Nat.reduceEqDiff, Nat.reduceAdd, Int.reduceEq, Int.reduceLT, Int.reduceLE, Int.reduceNeg, Int.reduceAdd, Int.reduceSub, Int.reduceMul, eq_self, k0, l0, hs.2, x0.1, e1]
  rw [sg_277_597 (by omega)]
  simp (disch := omega) only [↓reduceIte, not_false_eq_true, not_true_eq_false, and_self, and_true, true_and, false_and, and_false, or_true, true_or, or_false, false_or, or_self, reduceCtorEq, mm_q, Option.getD_some, cI_some, cJ_some, cV_some, cS_some, kd_sI, kd_sL, kd_sR, kd_cp, ln_sI, ln_sL, ln_sR, ln_cp, gR_sI, gR_sL, gR_sR, gR_cp, gL_sI, gL_sR, gL_cp, gI_sL, gI_sR, iI_add, iI_sub, iI_mul, iI_neg, iI_in, iI_tn, iI_lt, iI_eq, Nat.reduceLeDiff, Nat.reduceEqDiff, Nat.reduceAdd, Int.reduceEq, Int.reduceLT, Int.reduceLE, Int.reduceNeg, Int.reduceAdd, Int.reduceSub, Int.reduceMul, eq_self, k1, l1, s1.2, x1.2.1, e2]
theorem lc_12 (hw : Wd m) (hs : SC f n t m) (hd : 80 ≤ d) (i0 : 0 ≤ i) (i1 : i + 7 ≤ (n : Int)) (n1 : n ≤ 3584) : LC f n t d 618 i m := by
  intro z5 z6
  obtain ⟨D, E, s, p, h⟩ := hw
  obtain ⟨k0, l0⟩ := hs.kd
  have x0 := scF0.rf.kd h.1.1.1
  obtain ⟨v, c1, c2, e1, e2, w2⟩ := T12 (d := d - 1) h (by omega) (x := f (i + 1).toNat) (y := f (i + 2).toNat)
  have f1 := s0_ev e1 (by decide)
  have f2 := s0_ev e2 (by decide)
  have s1 := hs.to f1
  obtain ⟨k1, l1⟩ := s1.kd
  have x1 := f1.kd h.1.1.1
  refine ⟨c2, z5, z6, t, ?_, w2, s1.to f2, by omega⟩
  rw [sg_277_618 (by omega)]
  simp (disch := omega) only [↓reduceIte, not_false_eq_true, not_true_eq_false, and_self, and_true, true_and, false_and, and_false, or_true, true_or, or_false, false_or, or_self, reduceCtorEq, mm_q, Option.getD_some, cI_some, cJ_some, cV_some, cS_some, kd_sI, kd_sL, kd_sR, kd_cp, ln_sI, ln_sL, ln_sR, ln_cp, gR_sI, gR_sL, gR_sR, gR_cp, gL_sI, gL_sR, gL_cp, gI_sL, gI_sR, iI_add, iI_sub, iI_mul, iI_neg, iI_in, iI_tn, iI_lt, iI_eq, Nat.reduceLeDiff, Nat.reduceEqDiff, Nat.reduceAdd, Int.reduceEq, Int.reduceLT, Int.reduceLE, Int.reduceNeg, Int.reduceAdd, Int.reduceSub, Int.reduceMul, eq_self, k0, l0, hs.2, x0.1, e1]
  rw [sg_277_634 (by omega)]
  simp (disch := omega) only [↓reduceIte, not_false_eq_true, not_true_eq_false, and_self, and_true, true_and, false_and, and_false, or_true, true_or, or_false, false_or, or_self, reduceCtorEq, mm_q, Option.getD_some, cI_some, cJ_some, cV_some, cS_some, kd_sI, kd_sL, kd_sR, kd_cp, ln_sI, ln_sL, ln_sR, ln_cp, gR_sI, gR_sL, gR_sR, gR_cp, gL_sI, gL_sR, gL_cp, gI_sL, gI_sR, iI_add, iI_sub, iI_mul, iI_neg, iI_in, iI_tn, iI_lt, iI_eq, Nat.reduceLeDiff, Nat.reduceEqDiff, Nat.reduceAdd, Int.reduceEq, Int.reduceLT, Int.reduceLE, Int.reduceNeg, Int.reduceAdd, Int.reduceSub, Int.reduceMul, eq_self, k1, l1, s1.2, x1.2.1, e2]
theorem lc_13 (hw : Wd m) (hs : SC f n t m) (hd : 80 ≤ d) (i0 : 0 ≤ i) (i1 : i + 7 ≤ (n : Int)) (n1 : n ≤ 3584) : LC f n t d 655 i m := by
  intro z5 z6
  obtain ⟨D, E, s, p, h⟩ := hw
  obtain ⟨k0, l0⟩ := hs.kd
  have x0 := scF0.rf.kd h.1.1.1
  obtain ⟨v, c1, c2, e1, e2, w2⟩ := T13 (d := d - 1) h (by omega) (x := f (i + 1).toNat) (y := f (i + 2).toNat)
  have f1 := s0_ev e1 (by decide)
  have f2 := s0_ev e2 (by decide)
  have s1 := hs.to f1
  obtain ⟨k1, l1⟩ := s1.kd
  have x1 := f1.kd h.1.1.1
  refine ⟨c2, z5, z6, t, ?_, w2, s1.to f2, by omega⟩
  rw [sg_277_655 (by omega)]
  simp (disch := omega) only [↓reduceIte, not_false_eq_true, not_true_eq_false, and_self, and_true, true_and, false_and, and_false, or_true, true_or, or_false, false_or, or_self, reduceCtorEq, mm_q, Option.getD_some, cI_some, cJ_some, cV_some, cS_some, kd_sI, kd_sL, kd_sR, kd_cp, ln_sI, ln_sL, ln_sR, ln_cp, gR_sI, gR_sL, gR_sR, gR_cp, gL_sI, gL_sR, gL_cp, gI_sL, gI_sR, iI_add, iI_sub, iI_mul, iI_neg, iI_in, iI_tn, iI_lt, iI_eq, Nat.reduceLeDiff, Nat.reduceEqDiff, Nat.reduceAdd, Int.reduceEq, Int.reduceLT, Int.reduceLE, Int.reduceNeg, Int.reduceAdd, Int.reduceSub, Int.reduceMul, eq_self, k0, l0, hs.2, x0.1, e1]
  rw [sg_277_671 (by omega)]
  simp (disch := omega) only [↓reduceIte, not_false_eq_true, not_true_eq_false, and_self, and_true, true_and, false_and, and_false, or_true, true_or, or_false, false_or, or_self, reduceCtorEq, mm_q, Option.getD_some, cI_some, cJ_some, cV_some, cS_some, kd_sI, kd_sL, kd_sR, kd_cp, ln_sI, ln_sL, ln_sR, ln_cp, gR_sI, gR_sL, gR_sR, gR_cp, gL_sI, gL_sR, gL_cp, gI_sL, gI_sR, iI_add, iI_sub, iI_mul, iI_neg, iI_in, iI_tn, iI_lt, iI_eq, Nat.reduceLeDiff, Nat.reduceEqDiff, Nat.reduceAdd, Int.reduceEq, Int.reduceLT, Int.reduceLE, Int.reduceNeg, Int.reduceAdd, Int.reduceSub, Int.reduceMul, eq_self, k1, l1, s1.2, x1.2.1, e2]
theorem lc_14 (hw : Wd m) (hs : SC f n t m) (hd : 80 ≤ d) (i0 : 0 ≤ i) (i1 : i + 7 ≤ (n : Int)) (n1 : n ≤ 3584) : LC f n t d 692 i m := by
  intro z5 z6
  obtain ⟨D, E, s, p, h⟩ := hw
  obtain ⟨k0, l0⟩ := hs.kd
  have x0 := scF0.rf.kd h.1.1.1
  obtain ⟨v, c1, c2, e1, e2, w2⟩ := T14 (d := d - 1) h (by omega)
  have f1 := s0_ev e1 (by decide)
  have f2 := s0_ev e2 (by decide)
  have s1 := hs.to f1
  obtain ⟨k1, l1⟩ := s1.kd
  have x1 := f1.kd h.1.1.1
  refine ⟨c2, z5, z6, t, ?_, w2, s1.to f2, by omega⟩
  rw [sg_277_692 (by omega)]
  simp (disch := omega) only [↓reduceIte, not_false_eq_true, not_true_eq_false, and_self, and_true, true_and, false_and, and_false, or_true, true_or, or_false, false_or, or_self, reduceCtorEq, mm_q, Option.getD_some, cI_some, cJ_some, cV_some, cS_some, kd_sI, kd_sL, kd_sR, kd_cp, ln_sI, ln_sL, ln_sR, ln_cp, gR_sI, gR_sL, gR_sR, gR_cp, gL_sI, gL_sR, gL_cp, gI_sL, gI_sR, iI_add, iI_sub, iI_mul, iI_neg, iI_in, iI_tn, iI_lt, iI_eq, Nat.reduceLeDiff, Nat.reduceEqDiff, Nat.reduceAdd, Int.reduceEq, Int.reduceLT, Int.reduceLE, Int.reduceNeg, Int.reduceAdd, Int.reduceSub, Int.reduceMul, eq_self, k0, l0, hs.2, x0.1, e1]
  rw [sg_277_696 (by omega)]
  simp (disch := omega) only [↓reduceIte, not_false_eq_true, not_true_eq_false, and_self, and_true, true_and, false_and, and_false, or_true, true_or, or_false, false_or, or_self, reduceCtorEq, mm_q, Option.getD_some, cI_some, cJ_some, cV_some, cS_some, kd_sI, kd_sL, kd_sR, kd_cp, ln_sI, ln_sL, ln_sR, ln_cp, gR_sI, gR_sL, gR_sR, gR_cp, gL_sI, gL_sR, gL_cp, gI_sL, gI_sR, iI_add, iI_sub, iI_mul, iI_neg, iI_in, iI_tn, iI_lt, iI_eq, Nat.reduceLeDiff, Nat.reduceEqDiff, Nat.reduceAdd, Int.reduceEq, Int.reduceLT, Int.reduceLE, Int.reduceNeg, Int.reduceAdd, Int.reduceSub, Int.reduceMul, eq_self, k1, l1, s1.2, x1.2.1, e2]
theorem lc_15 (hw : Wd m) (hs : SC f n t m) (hd : 80 ≤ d) (i0 : 0 ≤ i) (i1 : i + 7 ≤ (n : Int)) (n1 : n ≤ 3584) : LC f n t d 705 i m := by
  intro z5 z6
  obtain ⟨D, E, s, p, h⟩ := hw
  obtain ⟨k0, l0⟩ := hs.kd
  have x0 := scF0.rf.kd h.1.1.1
  obtain ⟨v, c1, c2, e1, e2, w2⟩ := T15 (d := d - 1) h (by omega) (x := f (i + 1).toNat)
  have f1 := s0_ev e1 (by decide)
  have f2 := s0_ev e2 (by decide)
  have s1 := hs.to f1
  obtain ⟨k1, l1⟩ := s1.kd
  have x1 := f1.kd h.1.1.1
  refine ⟨c2, z5, z6, t, ?_, w2, s1.to f2, by omega⟩
  rw [sg_277_705 (by omega)]
  simp (disch := omega) only [↓reduceIte, not_false_eq_true, not_true_eq_false, and_self, and_true, true_and, false_and, and_false, or_true, true_or, or_false, false_or, or_self, reduceCtorEq, mm_q, Option.getD_some, cI_some, cJ_some, cV_some, cS_some, kd_sI, kd_sL, kd_sR, kd_cp, ln_sI, ln_sL, ln_sR, ln_cp, gR_sI, gR_sL, gR_sR, gR_cp, gL_sI, gL_sR, gL_cp, gI_sL, gI_sR, iI_add, iI_sub, iI_mul, iI_neg, iI_in, iI_tn, iI_lt, iI_eq, Nat.reduceLeDiff, Nat.reduceEqDiff, Nat.reduceAdd, Int.reduceEq, Int.reduceLT, Int.reduceLE, Int.reduceNeg, Int.reduceAdd, Int.reduceSub, Int.reduceMul, eq_self, k0, l0, hs.2, x0.1, e1]
  rw [sg_277_715 (by omega)]
  simp (disch := omega) only [↓reduceIte, not_false_eq_true, not_true_eq_false, and_self, and_true, true_and, false_and, and_false, or_true, true_or, or_false, false_or, or_self, reduceCtorEq, mm_q, Option.getD_some, cI_some, cJ_some, cV_some, cS_some, kd_sI, kd_sL, kd_sR, kd_cp, ln_sI, ln_sL, ln_sR, ln_cp, gR_sI, gR_sL, gR_sR, gR_cp, gL_sI, gL_sR, gL_cp, gI_sL, gI_sR, iI_add, iI_sub, iI_mul, iI_neg, iI_in, iI_tn, iI_lt, iI_eq, Nat.reduceLeDiff, Nat.reduceEqDiff, Nat.reduceAdd, Int.reduceEq, Int.reduceLT, Int.reduceLE, Int.reduceNeg, Int.reduceAdd, Int.reduceSub, Int.reduceMul, eq_self, k1, l1, s1.2, x1.2.1, e2]
theorem lc_16 (hw : Wd m) (hs : SC f n t m) (hd : 80 ≤ d) (i0 : 0 ≤ i) (i1 : i + 7 ≤ (n : Int)) (n1 : n ≤ 3584) : LC f n t d 730 i m := by
  intro z5 z6
  obtain ⟨D, E, s, p, h⟩ := hw
  obtain ⟨k0, l0⟩ := hs.kd
  have x0 := scF0.rf.kd h.1.1.1
  obtain ⟨v, c1, c2, e1, e2, w2⟩ := T16 (d := d - 1) h (by omega) (x := f (i + 1).toNat) (y := f (i + 2).toNat)
  have f1 := s0_ev e1 (by decide)
  have f2 := s0_ev e2 (by decide)
  have s1 := hs.to f1
  obtain ⟨k1, l1⟩ := s1.kd
  have x1 := f1.kd h.1.1.1
  refine ⟨c2, z5, z6, t, ?_, w2, s1.to f2, by omega⟩
  rw [sg_277_730 (by omega)]
  simp (disch := omega) only [↓reduceIte, not_false_eq_true, not_true_eq_false, and_self, and_true, true_and, false_and, and_false, or_true, true_or, or_false, false_or, or_self, reduceCtorEq, mm_q, Option.getD_some, cI_some, cJ_some, cV_some, cS_some, kd_sI, kd_sL, kd_sR, kd_cp, ln_sI, ln_sL, ln_sR, ln_cp, gR_sI, gR_sL, gR_sR, gR_cp, gL_sI, gL_sR, gL_cp, gI_sL, gI_sR, iI_add, iI_sub, iI_mul, iI_neg, iI_in, iI_tn, iI_lt, iI_eq, Nat.reduceLeDiff, Nat.reduceEqDiff, Nat.reduceAdd, Int.reduceEq, Int.reduceLT, Int.reduceLE, Int.reduceNeg, Int.reduceAdd, Int.reduceSub, Int.reduceMul, eq_self, k0, l0, hs.2, x0.1, e1]
  rw [sg_277_746 (by omega)]
  simp (disch := omega) only [↓reduceIte, not_false_eq_true, not_true_eq_false, and_self, and_true, true_and, false_and, and_false, or_true, true_or, or_false, false_or, or_self, reduceCtorEq, mm_q, Option.getD_some, cI_some, cJ_some, cV_some, cS_some, kd_sI, kd_sL, kd_sR, kd_cp, ln_sI, ln_sL, ln_sR, ln_cp, gR_sI, gR_sL, gR_sR, gR_cp, gL_sI, gL_sR, gL_cp, gI_sL, gI_sR, iI_add, iI_sub, iI_mul, iI_neg, iI_in, iI_tn, iI_lt, iI_eq, Nat.reduceLeDiff, Nat.reduceEqDiff, Nat.reduceAdd, Int.reduceEq, Int.reduceLT, Int.reduceLE, Int.reduceNeg, Int.reduceAdd, Int.reduceSub, Int.reduceMul, eq_self, k1, l1, s1.2, x1.2.1, e2]
theorem lc_17 (hw : Wd m) (hs : SC f n t m) (hd : 80 ≤ d) (i0 : 0 ≤ i) (i1 : i + 7 ≤ (n : Int)) (n1 : n ≤ 3584) : LC f n t d 767 i m := by
  intro z5 z6
  obtain ⟨D, E, s, p, h⟩ := hw
  obtain ⟨k0, l0⟩ := hs.kd
  have x0 := scF0.rf.kd h.1.1.1
  obtain ⟨v, c1, c2, e1, e2, w2⟩ := T17 (d := d - 1) h (by omega)
  have f1 := s0_ev e1 (by decide)
  have f2 := s0_ev e2 (by decide)
  have s1 := hs.to f1
  obtain ⟨k1, l1⟩ := s1.kd
  have x1 := f1.kd h.1.1.1
  refine ⟨c2, z5, z6, t, ?_, w2, s1.to f2, by omega⟩
  rw [sg_277_767 (by omega)]
  simp (disch := omega) only [↓reduceIte, not_false_eq_true, not_true_eq_false, and_self, and_true, true_and, false_and, and_false, or_true, true_or, or_false, false_or, or_self, reduceCtorEq, mm_q, Option.getD_some, cI_some, cJ_some, cV_some, cS_some, kd_sI, kd_sL, kd_sR, kd_cp, ln_sI, ln_sL, ln_sR, ln_cp, gR_sI, gR_sL, gR_sR, gR_cp, gL_sI, gL_sR, gL_cp, gI_sL, gI_sR, iI_add, iI_sub, iI_mul, iI_neg, iI_in, iI_tn, iI_lt, iI_eq, Nat.reduceLeDiff, Nat.reduceEqDiff, Nat.reduceAdd, Int.reduceEq, Int.reduceLT, Int.reduceLE, Int.reduceNeg, Int.reduceAdd, Int.reduceSub, Int.reduceMul, eq_self, k0, l0, hs.2, x0.1, e1]
  rw [sg_277_771 (by omega)]
  simp (disch := omega) only [↓reduceIte, not_false_eq_true, not_true_eq_false, and_self, and_true, true_and, false_and, and_false, or_true, true_or, or_false, false_or, or_self, reduceCtorEq, mm_q, Option.getD_some, cI_some, cJ_some, cV_some, cS_some, kd_sI, kd_sL, kd_sR, kd_cp, ln_sI, ln_sL, ln_sR, ln_cp, gR_sI, gR_sL, gR_sR, gR_cp, gL_sI, gL_sR, gL_cp, gI_sL, gI_sR, iI_add, iI_sub, iI_mul, iI_neg, iI_in, iI_tn, iI_lt, iI_eq, Nat.reduceLeDiff, Nat.reduceEqDiff, Nat.reduceAdd, Int.reduceEq, Int.reduceLT, Int.reduceLE, Int.reduceNeg, Int.reduceAdd, Int.reduceSub, Int.reduceMul, eq_self, k1, l1, s1.2, x1.2.1, e2]
theorem lc_18 (hw : Wd m) (hs : SC f n t m) (hd : 80 ≤ d) (i0 : 0 ≤ i) (i1 : i + 7 ≤ (n : Int)) (n1 : n ≤ 3584) : LC f n t d 780 i m := by
  intro z5 z6
  obtain ⟨D, E, s, p, h⟩ := hw
  obtain ⟨k0, l0⟩ := hs.kd
  have x0 := scF0.rf.kd h.1.1.1
  obtain ⟨v, c1, c2, e1, e2, w2⟩ := T18 (d := d - 1) h (by omega) (x := f (i + 1).toNat) (y := f (i + 2).toNat)
  have f1 := s0_ev e1 (by decide)
  have f2 := s0_ev e2 (by decide)
  have s1 := hs.to f1
  obtain ⟨k1, l1⟩ := s1.kd
  have x1 := f1.kd h.1.1.1
  refine ⟨c2, z5, z6, t, ?_, w2, s1.to f2, by omega⟩
  rw [sg_277_780 (by omega)]
  simp (disch := omega) only [↓reduceIte, not_false_eq_true, not_true_eq_false, and_self, and_true, true_and, false_and, and_false, or_true, true_or, or_false, false_or, or_self, reduceCtorEq, mm_q, Option.getD_some, cI_some, cJ_some, cV_some, cS_some, kd_sI, kd_sL, kd_sR, kd_cp, ln_sI, ln_sL, ln_sR, ln_cp, gR_sI, gR_sL, gR_sR, gR_cp, gL_sI, gL_sR, gL_cp, gI_sL, gI_sR, iI_add, iI_sub, iI_mul, iI_neg, iI_in, iI_tn, iI_lt, iI_eq, Nat.reduceLeDiff, Nat.reduceEqDiff, Nat.reduceAdd, Int.reduceEq, Int.reduceLT, Int.reduceLE, Int.reduceNeg, Int.reduceAdd, Int.reduceSub, Int.reduceMul, eq_self, k0, l0, hs.2, x0.1, e1]
  rw [sg_277_796 (by omega)]
  simp (disch := omega) only [↓reduceIte, not_false_eq_true, not_true_eq_false, and_self, and_true, true_and, false_and, and_false, or_true, true_or, or_false, false_or, or_self, reduceCtorEq, mm_q, Option.getD_some, cI_some, cJ_some, cV_some, cS_some, kd_sI, kd_sL, kd_sR, kd_cp, ln_sI, ln_sL, ln_sR, ln_cp, gR_sI, gR_sL, gR_sR, gR_cp, gL_sI, gL_sR, gL_cp, gI_sL, gI_sR, iI_add, iI_sub, iI_mul, iI_neg, iI_in, iI_tn, iI_lt, iI_eq, Nat.reduceLeDiff, Nat.reduceEqDiff, Nat.reduceAdd, Int.reduceEq, Int.reduceLT, Int.reduceLE, Int.reduceNeg, Int.reduceAdd, Int.reduceSub, Int.reduceMul, eq_self, k1, l1, s1.2, x1.2.1, e2]
theorem lc_19 (hw : Wd m) (hs : SC f n t m) (hd : 80 ≤ d) (i0 : 0 ≤ i) (i1 : i + 7 ≤ (n : Int)) (n1 : n ≤ 3584) : LC f n t d 817 i m := by
  intro z5 z6
  obtain ⟨D, E, s, p, h⟩ := hw
  obtain ⟨k0, l0⟩ := hs.kd
  have x0 := scF0.rf.kd h.1.1.1
  obtain ⟨v, c1, c2, e1, e2, w2⟩ := T19 (d := d - 1) h (by omega) (x := f (i + 1).toNat)
  have f1 := s0_ev e1 (by decide)
  have f2 := s0_ev e2 (by decide)
  have s1 := hs.to f1
  obtain ⟨k1, l1⟩ := s1.kd
  have x1 := f1.kd h.1.1.1
  refine ⟨c2, z5, z6, t, ?_, w2, s1.to f2, by omega⟩
  rw [sg_277_817 (by omega)]
  simp (disch := omega) only [↓reduceIte, not_false_eq_true, not_true_eq_false, and_self, and_true, true_and, false_and, and_false, or_true, true_or, or_false, false_or, or_self, reduceCtorEq, mm_q, Option.getD_some, cI_some, cJ_some, cV_some, cS_some, kd_sI, kd_sL, kd_sR, kd_cp, ln_sI, ln_sL, ln_sR, ln_cp, gR_sI, gR_sL, gR_sR, gR_cp, gL_sI, gL_sR, gL_cp, gI_sL, gI_sR, iI_add, iI_sub, iI_mul, iI_neg, iI_in, iI_tn, iI_lt, iI_eq, Nat.reduceLeDiff, Nat.reduceEqDiff, Nat.reduceAdd, Int.reduceEq, Int.reduceLT, Int.reduceLE, Int.reduceNeg, Int.reduceAdd, Int.reduceSub, Int.reduceMul, eq_self, k0, l0, hs.2, x0.1, e1]
  rw [sg_277_827 (by omega)]
  simp (disch := omega) only [↓reduceIte, not_false_eq_true, not_true_eq_false, and_self, and_true, true_and, false_and, and_false, or_true, true_or, or_false, false_or, or_self, reduceCtorEq, mm_q, Option.getD_some, cI_some, cJ_some, cV_some, cS_some, kd_sI, kd_sL, kd_sR, kd_cp, ln_sI, ln_sL, ln_sR, ln_cp, gR_sI, gR_sL, gR_sR, gR_cp, gL_sI, gL_sR, gL_cp, gI_sL, gI_sR, iI_add, iI_sub, iI_mul, iI_neg, iI_in, iI_tn, iI_lt, iI_eq, Nat.reduceLeDiff, Nat.reduceEqDiff, Nat.reduceAdd, Int.reduceEq, Int.reduceLT, Int.reduceLE, Int.reduceNeg, Int.reduceAdd, Int.reduceSub, Int.reduceMul, eq_self, k1, l1, s1.2, x1.2.1, e2]
theorem lc_20 (hw : Wd m) (hs : SC f n t m) (hd : 80 ≤ d) (i0 : 0 ≤ i) (i1 : i + 7 ≤ (n : Int)) (n1 : n ≤ 3584) : LC f n t d 842 i m := by
  intro z5 z6
  obtain ⟨D, E, s, p, h⟩ := hw
  obtain ⟨k0, l0⟩ := hs.kd
  have x0 := scF0.rf.kd h.1.1.1
  obtain ⟨v, c1, c2, e1, e2, w2⟩ := T20 (d := d - 1) h (by omega) (x := f (i + 1).toNat) (y := f (i + 2).toNat) (z := f (i + 3).toNat) (u := f (i + 4).toNat) (w := f (i + 5).toNat)
  have f1 := s0_ev e1 (by decide)
  have f2 := s0_ev e2 (by decide)
  have s1 := hs.to f1
  obtain ⟨k1, l1⟩ := s1.kd
  have x1 := f1.kd h.1.1.1
  refine ⟨c2, z5, z6, t, ?_, w2, s1.to f2, by omega⟩
  rw [sg_277_842 (by omega)]
  simp (disch := omega) only [↓reduceIte, not_false_eq_true, not_true_eq_false, and_self, and_true, true_and, false_and, and_false, or_true, true_or, or_false, false_or, or_self, reduceCtorEq, mm_q, Option.getD_some, cI_some, cJ_some, cV_some, cS_some, kd_sI, kd_sL, kd_sR, kd_cp, ln_sI, ln_sL, ln_sR, ln_cp, gR_sI, gR_sL, gR_sR, gR_cp, gL_sI, gL_sR, gL_cp, gI_sL, gI_sR, iI_add, iI_sub, iI_mul, iI_neg, iI_in, iI_tn, iI_lt, iI_eq, Nat.reduceLeDiff, Nat.reduceEqDiff, Nat.reduceAdd, Int.reduceEq, Int.reduceLT, Int.reduceLE, Int.reduceNeg, Int.reduceAdd, Int.reduceSub, Int.reduceMul, eq_self, k0, l0, hs.2, x0.1, e1]
  rw [sg_277_876 (by omega)]
  simp (disch := omega) only [↓reduceIte, not_false_eq_true, not_true_eq_false, and_self, and_true, true_and, false_and, and_false, or_true, true_or, or_false, false_or, or_self, reduceCtorEq, mm_q, Option.getD_some, cI_some, cJ_some, cV_some, cS_some, kd_sI, kd_sL, kd_sR, kd_cp, ln_sI, ln_sL, ln_sR, ln_cp, gR_sI, gR_sL, gR_sR, gR_cp, gL_sI, gL_sR, gL_cp, gI_sL, gI_sR, iI_add, iI_sub, iI_mul, iI_neg, iI_in, iI_tn, iI_lt, iI_eq, Nat.reduceLeDiff, Nat.reduceEqDiff, Nat.reduceAdd, Int.reduceEq, Int.reduceLT, Int.reduceLE, Int.reduceNeg, Int.reduceAdd, Int.reduceSub, Int.reduceMul, eq_self, k1, l1, s1.2, x1.2.1, e2]
theorem lc_21 (hw : Wd m) (hs : SC f n t m) (hd : 80 ≤ d) (i0 : 0 ≤ i) (i1 : i + 7 ≤ (n : Int)) (n1 : n ≤ 3584) : LC f n t d 915 i m := by
  intro z5 z6
  obtain ⟨D, E, s, p, h⟩ := hw
  obtain ⟨k0, l0⟩ := hs.kd
  have x0 := scF0.rf.kd h.1.1.1
  obtain ⟨v, c1, c2, e1, e2, w2⟩ := T21 (d := d - 1) h (by omega) (x := f (i + 1).toNat) (y := f (i + 2).toNat)
  have f1 := s0_ev e1 (by decide)
  have f2 := s0_ev e2 (by decide)
  have s1 := hs.to f1
  obtain ⟨k1, l1⟩ := s1.kd
  have x1 := f1.kd h.1.1.1
  refine ⟨c2, z5, z6, t, ?_, w2, s1.to f2, by omega⟩
  rw [sg_277_915 (by omega)]
  simp (disch := omega) only [↓reduceIte, not_false_eq_true, not_true_eq_false, and_self, and_true, true_and, false_and, and_false, or_true, true_or, or_false, false_or, or_self, reduceCtorEq, mm_q, Option.getD_some, cI_some, cJ_some, cV_some, cS_some, kd_sI, kd_sL, kd_sR, kd_cp, ln_sI, ln_sL, ln_sR, ln_cp, gR_sI, gR_sL, gR_sR, gR_cp, gL_sI, gL_sR, gL_cp, gI_sL, gI_sR, iI_add, iI_sub, iI_mul, iI_neg, iI_in, iI_tn, iI_lt, iI_eq, Nat.reduceLeDiff, Nat.reduceEqDiff, Nat.reduceAdd, Int.reduceEq, Int.reduceLT, Int.reduceLE, Int.reduceNeg, Int.reduceAdd, Int.reduceSub, Int.reduceMul, eq_self, k0, l0, hs.2, x0.1, e1]
  rw [sg_277_931 (by omega)]
  simp (disch := omega) only [↓reduceIte, not_false_eq_true, not_true_eq_false, and_self, and_true, true_and, false_and, and_false, or_true, true_or, or_false, false_or, or_self, reduceCtorEq, mm_q, Option.getD_some, cI_some, cJ_some, cV_some, cS_some, kd_sI, kd_sL, kd_sR, kd_cp, ln_sI, ln_sL, ln_sR, ln_cp, gR_sI, gR_sL, gR_sR, gR_cp, gL_sI, gL_sR, gL_cp, gI_sL, gI_sR, iI_add, iI_sub, iI_mul, iI_neg, iI_in, iI_tn, iI_lt, iI_eq, Nat.reduceLeDiff, Nat.reduceEqDiff, Nat.reduceAdd, Int.reduceEq, Int.reduceLT, Int.reduceLE, Int.reduceNeg, Int.reduceAdd, Int.reduceSub, Int.reduceMul, eq_self, k1, l1, s1.2, x1.2.1, e2]
theorem lc_22 (hw : Wd m) (hs : SC f n t m) (hd : 80 ≤ d) (i0 : 0 ≤ i) (i1 : i + 7 ≤ (n : Int)) (n1 : n ≤ 3584) : LC f n t d 952 i m := by
  intro z5 z6
  obtain ⟨D, E, s, p, h⟩ := hw
  obtain ⟨k0, l0⟩ := hs.kd
  have x0 := scF0.rf.kd h.1.1.1
  obtain ⟨v, c1, c2, e1, e2, w2⟩ := T22 (d := d - 1) h (by omega) (x := f (i + 1).toNat) (y := f (i + 2).toNat)
  have f1 := s0_ev e1 (by decide)
  have f2 := s0_ev e2 (by decide)
  have s1 := hs.to f1
  obtain ⟨k1, l1⟩ := s1.kd
  have x1 := f1.kd h.1.1.1
  refine ⟨c2, z5, z6, t, ?_, w2, s1.to f2, by omega⟩
  rw [sg_277_952 (by omega)]
  simp (disch := omega) only [↓reduceIte, not_false_eq_true, not_true_eq_false, and_self, and_true, true_and, false_and, and_false, or_true, true_or, or_false, false_or, or_self, reduceCtorEq, mm_q, Option.getD_some, cI_some, cJ_some, cV_some, cS_some, kd_sI, kd_sL, kd_sR, kd_cp, ln_sI, ln_sL, ln_sR, ln_cp, gR_sI, gR_sL, gR_sR, gR_cp, gL_sI, gL_sR, gL_cp, gI_sL, gI_sR, iI_add, iI_sub, iI_mul, iI_neg, iI_in, iI_tn, iI_lt, iI_eq, Nat.reduceLeDiff, Nat.reduceEqDiff, Nat.reduceAdd, Int.reduceEq, Int.reduceLT, Int.reduceLE, Int.reduceNeg, Int.reduceAdd, Int.reduceSub, Int.reduceMul, eq_self, k0, l0, hs.2, x0.1, e1]
  rw [sg_277_968 (by omega)]
  simp (disch := omega) only [↓reduceIte, not_false_eq_true, not_true_eq_false, and_self, and_true, true_and, false_and, and_false, or_true, true_or, or_false, false_or, or_self, reduceCtorEq, mm_q, Option.getD_some, cI_some, cJ_some, cV_some, cS_some, kd_sI, kd_sL, kd_sR, kd_cp, ln_sI, ln_sL, ln_sR, ln_cp, gR_sI, gR_sL, gR_sR, gR_cp, gL_sI, gL_sR, gL_cp, gI_sL, gI_sR, iI_add, iI_sub, iI_mul, iI_neg, iI_in, iI_tn, iI_lt, iI_eq, Nat.reduceLeDiff, Nat.reduceEqDiff, Nat.reduceAdd, Int.reduceEq, Int.reduceLT, Int.reduceLE, Int.reduceNeg, Int.reduceAdd, Int.reduceSub, Int.reduceMul, eq_self, k1, l1, s1.2, x1.2.1, e2, lg_self]
theorem lc_23 (hw : Wd m) (hs : SC f n t m) (hd : 80 ≤ d) (i0 : 0 ≤ i) (i1 : i + 7 ≤ (n : Int)) (n1 : n ≤ 3584) : LC f n t d 990 i m := by
  intro z5 z6
  obtain ⟨D, E, s, p, h⟩ := hw
  obtain ⟨k0, l0⟩ := hs.kd
  have x0 := scF0.rf.kd h.1.1.1
  obtain ⟨v, c1, c2, e1, e2, w2⟩ := T23 (d := d - 1) h (by omega)
  have f1 := s0_ev e1 (by decide)
  have f2 := s0_ev e2 (by decide)
  have s1 := hs.to f1
  obtain ⟨k1, l1⟩ := s1.kd
  have x1 := f1.kd h.1.1.1
  refine ⟨c2, z5, z6, t, ?_, w2, s1.to f2, by omega⟩
  rw [sg_277_990 (by omega)]
  simp (disch := omega) only [↓reduceIte, not_false_eq_true, not_true_eq_false, and_self, and_true, true_and, false_and, and_false, or_true, true_or, or_false, false_or, or_self, reduceCtorEq, mm_q, Option.getD_some, cI_some, cJ_some, cV_some, cS_some, kd_sI, kd_sL, kd_sR, kd_cp, ln_sI, ln_sL, ln_sR, ln_cp, gR_sI, gR_sL, gR_sR, gR_cp, gL_sI, gL_sR, gL_cp, gI_sL, gI_sR, iI_add, iI_sub, iI_mul, iI_neg, iI_in, iI_tn, iI_lt, iI_eq, Nat.reduceLeDiff, Nat.reduceEqDiff, Nat.reduceAdd, Int.reduceEq, Int.reduceLT, Int.reduceLE, Int.reduceNeg, Int.reduceAdd, Int.reduceSub, Int.reduceMul, eq_self, k0, l0, hs.2, x0.1, e1]
  rw [sg_277_994 (by omega)]
  simp (disch := omega) only [↓reduceIte, not_false_eq_true, not_true_eq_false, and_self, and_true, true_and, false_and, and_false, or_true, true_or, or_false, false_or, or_self, reduceCtorEq, mm_q, Option.getD_some, cI_some, cJ_some, cV_some, cS_some, kd_sI, kd_sL, kd_sR, kd_cp, ln_sI, ln_sL, ln_sR, ln_cp, gR_sI, gR_sL, gR_sR, gR_cp, gL_sI, gL_sR, gL_cp, gI_sL, gI_sR, iI_add, iI_sub, iI_mul, iI_neg, iI_in, iI_tn, iI_lt, iI_eq, Nat.reduceLeDiff, Nat.reduceEqDiff, Nat.reduceAdd, Int.reduceEq, Int.reduceLT, Int.reduceLE, Int.reduceNeg, Int.reduceAdd, Int.reduceSub, Int.reduceMul, eq_self, k1, l1, s1.2, x1.2.1, e2]
theorem lc_24 (hw : Wd m) (hs : SC f n t m) (hd : 80 ≤ d) (i0 : 0 ≤ i) (i1 : i + 7 ≤ (n : Int)) (n1 : n ≤ 3584) : LC f n t d 1003 i m := by
  intro z5 z6
  obtain ⟨D, E, s, p, h⟩ := hw
  obtain ⟨k0, l0⟩ := hs.kd
  have x0 := scF0.rf.kd h.1.1.1
  obtain ⟨v, c1, c2, e1, e2, w2⟩ := T24 (d := d - 1) h (by omega) (x := f (i + 1).toNat) (y := f (i + 2).toNat)
  have f1 := s0_ev e1 (by decide)
  have f2 := s0_ev e2 (by decide)
  have s1 := hs.to f1
  obtain ⟨k1, l1⟩ := s1.kd
  have x1 := f1.kd h.1.1.1
  refine ⟨c2, z5, z6, t, ?_, w2, s1.to f2, by omega⟩
  rw [sg_277_1003 (by omega)]
  simp (disch := omega) only [↓reduceIte, not_false_eq_true, not_true_eq_false, and_self, and_true, true_and, false_and, and_false, or_true, true_or, or_false, false_or, or_self, reduceCtorEq, mm_q, Option.getD_some, cI_some, cJ_some, cV_some, cS_some, kd_sI, kd_sL, kd_sR, kd_cp, ln_sI, ln_sL, ln_sR, ln_cp, gR_sI, gR_sL, gR_sR, gR_cp, gL_sI, gL_sR, gL_cp, gI_sL, gI_sR, iI_add, iI_sub, iI_mul, iI_neg, iI_in, iI_tn, iI_lt, iI_eq, Nat.reduceLeDiff, Nat.reduceEqDiff, Nat.reduceAdd, Int.reduceEq, Int.reduceLT, Int.reduceLE, Int.reduceNeg, Int.reduceAdd, Int.reduceSub, Int.reduceMul, eq_self, k0, l0, hs.2, x0.1, e1]
  rw [sg_277_1019 (by omega)]
  simp (disch := omega) only [↓reduceIte, not_false_eq_true, not_true_eq_false, and_self, and_true, true_and, false_and, and_false, or_true, true_or, or_false, false_or, or_self, reduceCtorEq, mm_q, Option.getD_some, cI_some, cJ_some, cV_some, cS_some, kd_sI, kd_sL, kd_sR, kd_cp, ln_sI, ln_sL, ln_sR, ln_cp, gR_sI, gR_sL, gR_sR, gR_cp, gL_sI, gL_sR, gL_cp, gI_sL, gI_sR, iI_add, iI_sub, iI_mul, iI_neg, iI_in, iI_tn, iI_lt, iI_eq, Nat.reduceLeDiff, Nat.reduceEqDiff, Nat.reduceAdd, Int.reduceEq, Int.reduceLT, Int.reduceLE, Int.reduceNeg, Int.reduceAdd, Int.reduceSub, Int.reduceMul, eq_self, k1, l1, s1.2, x1.2.1, e2]
theorem lc_25 (hw : Wd m) (hs : SC f n t m) (hd : 80 ≤ d) (i0 : 0 ≤ i) (i1 : i + 7 ≤ (n : Int)) (n1 : n ≤ 3584) : LC f n t d 1040 i m := by
  intro z5 z6
  obtain ⟨D, E, s, p, h⟩ := hw
  obtain ⟨k0, l0⟩ := hs.kd
  have x0 := scF0.rf.kd h.1.1.1
  obtain ⟨v, c1, c2, e1, e2, w2⟩ := T25 (d := d - 1) h (by omega) (x := f (i + 1).toNat) (y := f (i + 2).toNat) (z := f (i + 3).toNat)
  have f1 := s0_ev e1 (by decide)
  have f2 := s0_ev e2 (by decide)
  have s1 := hs.to f1
  obtain ⟨k1, l1⟩ := s1.kd
  have x1 := f1.kd h.1.1.1
  refine ⟨c2, z5, z6, t, ?_, w2, s1.to f2, by omega⟩
  rw [sg_277_1040 (by omega)]
  simp (disch := omega) only [↓reduceIte, not_false_eq_true, not_true_eq_false, and_self, and_true, true_and, false_and, and_false, or_true, true_or, or_false, false_or, or_self, reduceCtorEq, mm_q, Option.getD_some, cI_some, cJ_some, cV_some, cS_some, kd_sI, kd_sL, kd_sR, kd_cp, ln_sI, ln_sL, ln_sR, ln_cp, gR_sI, gR_sL, gR_sR, gR_cp, gL_sI, gL_sR, gL_cp, gI_sL, gI_sR, iI_add, iI_sub, iI_mul, iI_neg, iI_in, iI_tn, iI_lt, iI_eq, Nat.reduceLeDiff, Nat.reduceEqDiff, Nat.reduceAdd, Int.reduceEq, Int.reduceLT, Int.reduceLE, Int.reduceNeg, Int.reduceAdd, Int.reduceSub, Int.reduceMul, eq_self, k0, l0, hs.2, x0.1, e1]
  rw [sg_277_1062 (by omega)]
  simp (disch := omega) only [↓reduceIte, not_false_eq_true, not_true_eq_false, and_self, and_true, true_and, false_and, and_false, or_true, true_or, or_false, false_or, or_self, reduceCtorEq, mm_q, Option.getD_some, cI_some, cJ_some, cV_some, cS_some, kd_sI, kd_sL, kd_sR, kd_cp, ln_sI, ln_sL, ln_sR, ln_cp, gR_sI, gR_sL, gR_sR, gR_cp, gL_sI, gL_sR, gL_cp, gI_sL, gI_sR, iI_add, iI_sub, iI_mul, iI_neg, iI_in, iI_tn, iI_lt, iI_eq, Nat.reduceLeDiff, Nat.reduceEqDiff, Nat.reduceAdd, Int.reduceEq, Int.reduceLT, Int.reduceLE, Int.reduceNeg, Int.reduceAdd, Int.reduceSub, Int.reduceMul, eq_self, k1, l1, s1.2, x1.2.1, e2]
theorem lc_26 (hw : Wd m) (hs : SC f n t m) (hd : 80 ≤ d) (i0 : 0 ≤ i) (i1 : i + 7 ≤ (n : Int)) (n1 : n ≤ 3584) : LC f n t d 1089 i m := by
  intro z5 z6
  obtain ⟨D, E, s, p, h⟩ := hw
  obtain ⟨k0, l0⟩ := hs.kd
  have x0 := scF0.rf.kd h.1.1.1
  obtain ⟨v, c1, c2, e1, e2, w2⟩ := T26 (d := d - 1) h (by omega) (x := f (i + 1).toNat) (y := f (i + 2).toNat)
  have f1 := s0_ev e1 (by decide)
  have f2 := s0_ev e2 (by decide)
  have s1 := hs.to f1
  obtain ⟨k1, l1⟩ := s1.kd
  have x1 := f1.kd h.1.1.1
  refine ⟨c2, z5, z6, t, ?_, w2, s1.to f2, by omega⟩
  rw [sg_277_1089 (by omega)]
  simp (disch := omega) only [↓reduceIte, not_false_eq_true, not_true_eq_false, and_self, and_true, true_and, false_and, and_false, or_true, true_or, or_false, false_or, or_self, reduceCtorEq, mm_q, Option.getD_some, cI_some, cJ_some, cV_some, cS_some, kd_sI, kd_sL, kd_sR, kd_cp, ln_sI, ln_sL, ln_sR, ln_cp, gR_sI, gR_sL, gR_sR, gR_cp, gL_sI, gL_sR, gL_cp, gI_sL, gI_sR, iI_add, iI_sub, iI_mul, iI_neg, iI_in, iI_tn, iI_lt, iI_eq, Nat.reduceLeDiff, Nat.reduceEqDiff, Nat.reduceAdd, Int.reduceEq, Int.reduceLT, Int.reduceLE, Int.reduceNeg, Int.reduceAdd, Int.reduceSub, Int.reduceMul, eq_self, k0, l0, hs.2, x0.1, e1]
  rw [sg_277_1105 (by omega)]
  simp (disch := omega) only [↓reduceIte, not_false_eq_true, not_true_eq_false, and_self, and_true, true_and, false_and, and_false, or_true, true_or, or_false, false_or, or_self, reduceCtorEq, mm_q, Option.getD_some, cI_some, cJ_some, cV_some, cS_some, kd_sI, kd_sL, kd_sR, kd_cp, ln_sI, ln_sL, ln_sR, ln_cp, gR_sI, gR_sL, gR_sR, gR_cp, gL_sI, gL_sR, gL_cp, gI_sL, gI_sR, iI_add, iI_sub, iI_mul, iI_neg, iI_in, iI_tn, iI_lt, iI_eq, Nat.reduceLeDiff, Nat.reduceEqDiff, Nat.reduceAdd, Int.reduceEq, Int.reduceLT, Int.reduceLE, Int.reduceNeg, Int.reduceAdd, Int.reduceSub, Int.reduceMul, eq_self, k1, l1, s1.2, x1.2.1, e2]
theorem lc_28 (hw : Wd m) (hs : SC f n t m) (hd : 80 ≤ d) (i0 : 0 ≤ i) (i1 : i + 7 ≤ (n : Int)) (n1 : n ≤ 3584) : LC f n t d 1182 i m := by
  intro z5 z6
  obtain ⟨D, E, s, p, h⟩ := hw
  obtain ⟨k0, l0⟩ := hs.kd
  have x0 := scF0.rf.kd h.1.1.1
  obtain ⟨v, c1, c2, e1, e2, w2⟩ := T28 (d := d - 1) h (by omega) (x := f (i + 1).toNat)
  have f1 := s0_ev e1 (by decide)
  have f2 := s0_ev e2 (by decide)
  have s1 := hs.to f1
  obtain ⟨k1, l1⟩ := s1.kd
  have x1 := f1.kd h.1.1.1
  refine ⟨c2, z5, z6, t, ?_, w2, s1.to f2, by omega⟩
  rw [sg_277_1182 (by omega)]
  simp (disch := omega) only [↓reduceIte, not_false_eq_true, not_true_eq_false, and_self, and_true, true_and, false_and, and_false, or_true, true_or, or_false, false_or, or_self, reduceCtorEq, mm_q, Option.getD_some, cI_some, cJ_some, cV_some, cS_some, kd_sI, kd_sL, kd_sR, kd_cp, ln_sI, ln_sL, ln_sR, ln_cp, gR_sI, gR_sL, gR_sR, gR_cp, gL_sI, gL_sR, gL_cp, gI_sL, gI_sR, iI_add, iI_sub, iI_mul, iI_neg, iI_in, iI_tn, iI_lt, iI_eq, Nat.reduceLeDiff, Nat.reduceEqDiff, Nat.reduceAdd, Int.reduceEq, Int.reduceLT, Int.reduceLE, Int.reduceNeg, Int.reduceAdd, Int.reduceSub, Int.reduceMul, eq_self, k0, l0, hs.2, x0.1, e1]
  rw [sg_277_1192 (by omega)]
  simp (disch := omega) only [↓reduceIte, not_false_eq_true, not_true_eq_false, and_self, and_true, true_and, false_and, and_false, or_true, true_or, or_false, false_or, or_self, reduceCtorEq, mm_q, Option.getD_some, cI_some, cJ_some, cV_some, cS_some, kd_sI, kd_sL, kd_sR, kd_cp, ln_sI, ln_sL, ln_sR, ln_cp, gR_sI, gR_sL, gR_sR, gR_cp, gL_sI, gL_sR, gL_cp, gI_sL, gI_sR, iI_add, iI_sub, iI_mul, iI_neg, iI_in, iI_tn, iI_lt, iI_eq, Nat.reduceLeDiff, Nat.reduceEqDiff, Nat.reduceAdd, Int.reduceEq, Int.reduceLT, Int.reduceLE, Int.reduceNeg, Int.reduceAdd, Int.reduceSub, Int.reduceMul, eq_self, k1, l1, s1.2, x1.2.1, e2]
theorem lc_29 (hw : Wd m) (hs : SC f n t m) (hd : 80 ≤ d) (i0 : 0 ≤ i) (i1 : i + 7 ≤ (n : Int)) (n1 : n ≤ 3584) : LC f n t d 1207 i m := by
  intro z5 z6
  obtain ⟨D, E, s, p, h⟩ := hw
  obtain ⟨k0, l0⟩ := hs.kd
  have x0 := scF0.rf.kd h.1.1.1
  obtain ⟨v, c1, c2, e1, e2, w2⟩ := T29 (d := d - 1) h (by omega) (x := f (i + 1).toNat) (y := f (i + 2).toNat) (z := f (i + 3).toNat)
  have f1 := s0_ev e1 (by decide)
  have f2 := s0_ev e2 (by decide)
  have s1 := hs.to f1
  obtain ⟨k1, l1⟩ := s1.kd
  have x1 := f1.kd h.1.1.1
  refine ⟨c2, z5, z6, t, ?_, w2, s1.to f2, by omega⟩
  rw [sg_277_1207 (by omega)]
  simp (disch := omega) only [↓reduceIte, not_false_eq_true, not_true_eq_false, and_self, and_true, true_and, false_and, and_false, or_true, true_or, or_false, false_or, or_self, reduceCtorEq, mm_q, Option.getD_some, cI_some, cJ_some, cV_some, cS_some, kd_sI, kd_sL, kd_sR, kd_cp, ln_sI, ln_sL, ln_sR, ln_cp, gR_sI, gR_sL, gR_sR, gR_cp, gL_sI, gL_sR, gL_cp, gI_sL, gI_sR, iI_add, iI_sub, iI_mul, iI_neg, iI_in, iI_tn, iI_lt, iI_eq, Nat.reduceLeDiff, Nat.reduceEqDiff, Nat.reduceAdd, Int.reduceEq, Int.reduceLT, Int.reduceLE, Int.reduceNeg, Int.reduceAdd, Int.reduceSub, Int.reduceMul, eq_self, k0, l0, hs.2, x0.1, e1]
  rw [sg_277_1229 (by omega)]
  simp (disch := omega) only [↓reduceIte, not_false_eq_true, not_true_eq_false, and_self, and_true, true_and, false_and, and_false, or_true, true_or, or_false, false_or, or_self, reduceCtorEq, mm_q, Option.getD_some, cI_some, cJ_some, cV_some, cS_some, kd_sI, kd_sL, kd_sR, kd_cp, ln_sI, ln_sL, ln_sR, ln_cp, gR_sI, gR_sL, gR_sR, gR_cp, gL_sI, gL_sR, gL_cp, gI_sL, gI_sR, iI_add, iI_sub, iI_mul, iI_neg, iI_in, iI_tn, iI_lt, iI_eq, Nat.reduceLeDiff, Nat.reduceEqDiff, Nat.reduceAdd, Int.reduceEq, Int.reduceLT, Int.reduceLE, Int.reduceNeg, Int.reduceAdd, Int.reduceSub, Int.reduceMul, eq_self, k1, l1, s1.2, x1.2.1, e2]
theorem lc_31 (hw : Wd m) (hs : SC f n t m) (hd : 80 ≤ d) (i0 : 0 ≤ i) (i1 : i + 7 ≤ (n : Int)) (n1 : n ≤ 3584) : LC f n t d 1321 i m := by
  intro z5 z6
  obtain ⟨D, E, s, p, h⟩ := hw
  obtain ⟨k0, l0⟩ := hs.kd
  have x0 := scF0.rf.kd h.1.1.1
  obtain ⟨v, c1, c2, e1, e2, w2⟩ := T31 (d := d - 1) h (by omega) (x := f (i + 1).toNat)
  have f1 := s0_ev e1 (by decide)
  have f2 := s0_ev e2 (by decide)
  have s1 := hs.to f1
  obtain ⟨k1, l1⟩ := s1.kd
  have x1 := f1.kd h.1.1.1
  refine ⟨c2, z5, z6, t, ?_, w2, s1.to f2, by omega⟩
  rw [sg_277_1321 (by omega)]
  simp (disch := omega) only [↓reduceIte, not_false_eq_true, not_true_eq_false, and_self, and_true, true_and, false_and, and_false, or_true, true_or, or_false, false_or, or_self, reduceCtorEq, mm_q, Option.getD_some, cI_some, cJ_some, cV_some, cS_some, kd_sI, kd_sL, kd_sR, kd_cp, ln_sI, ln_sL, ln_sR, ln_cp, gR_sI, gR_sL, gR_sR, gR_cp, gL_sI, gL_sR, gL_cp, gI_sL, gI_sR, iI_add, iI_sub, iI_mul, iI_neg, iI_in, iI_tn, iI_lt, iI_eq, Nat.reduceLeDiff, Nat.reduceEqDiff, Nat.reduceAdd, Int.reduceEq, Int.reduceLT, Int.reduceLE, Int.reduceNeg, Int.reduceAdd, Int.reduceSub, Int.reduceMul, eq_self, k0, l0, hs.2, x0.1, e1]
  rw [sg_277_1331 (by omega)]
  simp (disch := omega) only [↓reduceIte, not_false_eq_true, not_true_eq_false, and_self, and_true, true_and, false_and, and_false, or_true, true_or, or_false, false_or, or_self, reduceCtorEq, mm_q, Option.getD_some, cI_some, cJ_some, cV_some, cS_some, kd_sI, kd_sL, kd_sR, kd_cp, ln_sI, ln_sL, ln_sR, ln_cp, gR_sI, gR_sL, gR_sR, gR_cp, gL_sI, gL_sR, gL_cp, gI_sL, gI_sR, iI_add, iI_sub, iI_mul, iI_neg, iI_in, iI_tn, iI_lt, iI_eq, Nat.reduceLeDiff, Nat.reduceEqDiff, Nat.reduceAdd, Int.reduceEq, Int.reduceLT, Int.reduceLE, Int.reduceNeg, Int.reduceAdd, Int.reduceSub, Int.reduceMul, eq_self, k1, l1, s1.2, x1.2.1, e2]
theorem lc_32 (hw : Wd m) (hs : SC f n t m) (hd : 80 ≤ d) (i0 : 0 ≤ i) (i1 : i + 7 ≤ (n : Int)) (n1 : n ≤ 3584) : LC f n t d 1346 i m := by
  intro z5 z6
  obtain ⟨D, E, s, p, h⟩ := hw
  obtain ⟨k0, l0⟩ := hs.kd
  have x0 := scF0.rf.kd h.1.1.1
  obtain ⟨v, c1, c2, e1, e2, w2⟩ := T32 (d := d - 1) h (by omega) (x := f (i + 1).toNat) (y := f (i + 2).toNat) (z := f (i + 3).toNat)
  have f1 := s0_ev e1 (by decide)
  have f2 := s0_ev e2 (by decide)
  have s1 := hs.to f1
  obtain ⟨k1, l1⟩ := s1.kd
  have x1 := f1.kd h.1.1.1
  refine ⟨c2, z5, z6, t, ?_, w2, s1.to f2, by omega⟩
  rw [sg_277_1346 (by omega)]
  simp (disch := omega) only [↓reduceIte, not_false_eq_true, not_true_eq_false, and_self, and_true, true_and, false_and, and_false, or_true, true_or, or_false, false_or, or_self, reduceCtorEq, mm_q, Option.getD_some, cI_some, cJ_some, cV_some, cS_some, kd_sI, kd_sL, kd_sR, kd_cp, ln_sI, ln_sL, ln_sR, ln_cp, gR_sI, gR_sL, gR_sR, gR_cp, gL_sI, gL_sR, gL_cp, gI_sL, gI_sR, iI_add, iI_sub, iI_mul, iI_neg, iI_in, iI_tn, iI_lt, iI_eq, Nat.reduceLeDiff, Nat.reduceEqDiff, Nat.reduceAdd, Int.reduceEq, Int.reduceLT, Int.reduceLE, Int.reduceNeg, Int.reduceAdd, Int.reduceSub, Int.reduceMul, eq_self, k0, l0, hs.2, x0.1, e1]
  rw [sg_277_1368 (by omega)]
  simp (disch := omega) only [↓reduceIte, not_false_eq_true, not_true_eq_false, and_self, and_true, true_and, false_and, and_false, or_true, true_or, or_false, false_or, or_self, reduceCtorEq, mm_q, Option.getD_some, cI_some, cJ_some, cV_some, cS_some, kd_sI, kd_sL, kd_sR, kd_cp, ln_sI, ln_sL, ln_sR, ln_cp, gR_sI, gR_sL, gR_sR, gR_cp, gL_sI, gL_sR, gL_cp, gI_sL, gI_sR, iI_add, iI_sub, iI_mul, iI_neg, iI_in, iI_tn, iI_lt, iI_eq, Nat.reduceLeDiff, Nat.reduceEqDiff, Nat.reduceAdd, Int.reduceEq, Int.reduceLT, Int.reduceLE, Int.reduceNeg, Int.reduceAdd, Int.reduceSub, Int.reduceMul, eq_self, k1, l1, s1.2, x1.2.1, e2]
theorem lc_34 (hw : Wd m) (hs : SC f n t m) (hd : 80 ≤ d) (i0 : 0 ≤ i) (i1 : i + 7 ≤ (n : Int)) (n1 : n ≤ 3584) : LC f n t d 1448 i m := by
  intro z5 z6
  obtain ⟨D, E, s, p, h⟩ := hw
  obtain ⟨k0, l0⟩ := hs.kd
  have x0 := scF0.rf.kd h.1.1.1
  obtain ⟨v, c1, c2, e1, e2, w2⟩ := T34 (d := d - 1) h (by omega) (x := f (i + 1).toNat)
  have f1 := s0_ev e1 (by decide)
  have f2 := s0_ev e2 (by decide)
  have s1 := hs.to f1
  obtain ⟨k1, l1⟩ := s1.kd
  have x1 := f1.kd h.1.1.1
  refine ⟨c2, z5, z6, t, ?_, w2, s1.to f2, by omega⟩
  rw [sg_277_1448 (by omega)]
  simp (disch := omega) only [↓reduceIte, not_false_eq_true, not_true_eq_false, and_self, and_true, true_and, false_and, and_false, or_true, true_or, or_false, false_or, or_self, reduceCtorEq, mm_q, Option.getD_some, cI_some, cJ_some, cV_some, cS_some, kd_sI, kd_sL, kd_sR, kd_cp, ln_sI, ln_sL, ln_sR, ln_cp, gR_sI, gR_sL, gR_sR, gR_cp, gL_sI, gL_sR, gL_cp, gI_sL, gI_sR, iI_add, iI_sub, iI_mul, iI_neg, iI_in, iI_tn, iI_lt, iI_eq, Nat.reduceLeDiff, Nat.reduceEqDiff, Nat.reduceAdd, Int.reduceEq, Int.reduceLT, Int.reduceLE, Int.reduceNeg, Int.reduceAdd, Int.reduceSub, Int.reduceMul, eq_self, k0, l0, hs.2, x0.1, e1]
  rw [sg_277_1458 (by omega)]
  simp (disch := omega) only [↓reduceIte, not_false_eq_true, not_true_eq_false, and_self, and_true, true_and, false_and, and_false, or_true, true_or, or_false, false_or, or_self, reduceCtorEq, mm_q, Option.getD_some, cI_some, cJ_some, cV_some, cS_some, kd_sI, kd_sL, kd_sR, kd_cp, ln_sI, ln_sL, ln_sR, ln_cp, gR_sI, gR_sL, gR_sR, gR_cp, gL_sI, gL_sR, gL_cp, gI_sL, gI_sR, iI_add, iI_sub, iI_mul, iI_neg, iI_in, iI_tn, iI_lt, iI_eq, Nat.reduceLeDiff, Nat.reduceEqDiff, Nat.reduceAdd, Int.reduceEq, Int.reduceLT, Int.reduceLE, Int.reduceNeg, Int.reduceAdd, Int.reduceSub, Int.reduceMul, eq_self, k1, l1, s1.2, x1.2.1, e2]
theorem lc_30f (hw : Wd m) (hs : SC f n t m) (hd : 80 ≤ d) (i0 : 0 ≤ i) (i1 : i + 7 ≤ (n : Int)) (n1 : n ≤ 3584) (y : f (i + 3).toNat = iI 0) : LC f n t d 1256 i m := by
  intro z5 z6
  obtain ⟨D, E, s, p, h⟩ := hw
  obtain ⟨k0, l0⟩ := hs.kd
  have x0 := scF0.rf.kd h.1.1.1
  obtain ⟨v, c1, c2, e1, e2, w2⟩ := T30 (d := d - 1) h (by omega) (x := f (i + 1).toNat) (y := f (i + 2).toNat) (r := false)
  have f1 := s0_ev e1 (by decide)
  have f2 := s0_ev e2 (by decide)
  have s1 := hs.to f1
  obtain ⟨k1, l1⟩ := s1.kd
  have x1 := f1.kd h.1.1.1
  rw [bI_f] at e1 e2
  refine ⟨c2, z5, z6, t, ?_, w2, s1.to f2, by omega⟩
  rw [sg_277_1256]
  simp (disch := omega) only [↓reduceIte, not_false_eq_true, not_true_eq_false, and_self, and_true, true_and, false_and, and_false, or_true, true_or, or_false, false_or, or_self, reduceCtorEq, mm_q, Option.getD_some, cI_some, cJ_some, cV_some, cS_some, kd_sI, kd_sL, kd_sR, kd_cp, ln_sI, ln_sL, ln_sR, ln_cp, gR_sI, gR_sL, gR_sR, gR_cp, gL_sI, gL_sR, gL_cp, gI_sL, gI_sR, iI_add, iI_sub, iI_mul, iI_neg, iI_in, iI_tn, iI_lt, iI_eq, Nat.reduceLeDiff, Nat.reduceEqDiff, Nat.reduceAdd, Int.reduceEq, Int.reduceLT, Int.reduceLE, Int.reduceNeg, Int.reduceAdd, Int.reduceSub, Int.reduceMul, eq_self, k0, l0, hs.2, x0.1, y]
  rw [sg_277_1283 (by omega)]
  simp (disch := omega) only [↓reduceIte, not_false_eq_true, not_true_eq_false, and_self, and_true, true_and, false_and, and_false, or_true, true_or, or_false, false_or, or_self, reduceCtorEq, mm_q, Option.getD_some, cI_some, cJ_some, cV_some, cS_some, kd_sI, kd_sL, kd_sR, kd_cp, ln_sI, ln_sL, ln_sR, ln_cp, gR_sI, gR_sL, gR_sR, gR_cp, gL_sI, gL_sR, gL_cp, gI_sL, gI_sR, iI_add, iI_sub, iI_mul, iI_neg, iI_in, iI_tn, iI_lt, iI_eq, Nat.reduceLeDiff, Nat.reduceEqDiff, Nat.reduceAdd, Int.reduceEq, Int.reduceLT, Int.reduceLE, Int.reduceNeg, Int.reduceAdd, Int.reduceSub, Int.reduceMul, eq_self, x0.1, e1]
  rw [sg_277_1286]
  simp (disch := omega) only [↓reduceIte, not_false_eq_true, not_true_eq_false, and_self, and_true, true_and, false_and, and_false, or_true, true_or, or_false, false_or, or_self, reduceCtorEq, mm_q, Option.getD_some, cI_some, cJ_some, cV_some, cS_some, kd_sI, kd_sL, kd_sR, kd_cp, ln_sI, ln_sL, ln_sR, ln_cp, gR_sI, gR_sL, gR_sR, gR_cp, gL_sI, gL_sR, gL_cp, gI_sL, gI_sR, iI_add, iI_sub, iI_mul, iI_neg, iI_in, iI_tn, iI_lt, iI_eq, Nat.reduceLeDiff, Nat.reduceEqDiff, Nat.reduceAdd, Int.reduceEq, Int.reduceLT, Int.reduceLE, Int.reduceNeg, Int.reduceAdd, Int.reduceSub, Int.reduceMul, eq_self, k1, l1, s1.2, y]
  rw [sg_277_1313 (by omega)]
  simp (disch := omega) only [↓reduceIte, not_false_eq_true, not_true_eq_false, and_self, and_true, true_and, false_and, and_false, or_true, true_or, or_false, false_or, or_self, reduceCtorEq, mm_q, Option.getD_some, cI_some, cJ_some, cV_some, cS_some, kd_sI, kd_sL, kd_sR, kd_cp, ln_sI, ln_sL, ln_sR, ln_cp, gR_sI, gR_sL, gR_sR, gR_cp, gL_sI, gL_sR, gL_cp, gI_sL, gI_sR, iI_add, iI_sub, iI_mul, iI_neg, iI_in, iI_tn, iI_lt, iI_eq, Nat.reduceLeDiff, Nat.reduceEqDiff, Nat.reduceAdd, Int.reduceEq, Int.reduceLT, Int.reduceLE, Int.reduceNeg, Int.reduceAdd, Int.reduceSub, Int.reduceMul, eq_self, x1.2.1, e2]
theorem lc_33f (hw : Wd m) (hs : SC f n t m) (hd : 80 ≤ d) (i0 : 0 ≤ i) (i1 : i + 7 ≤ (n : Int)) (n1 : n ≤ 3584) (y : f (i + 2).toNat = iI 0) : LC f n t d 1395 i m := by
  intro z5 z6
  obtain ⟨D, E, s, p, h⟩ := hw
  obtain ⟨k0, l0⟩ := hs.kd
  have x0 := scF0.rf.kd h.1.1.1
  obtain ⟨v, c1, c2, e1, e2, w2⟩ := T33 (d := d - 1) h (by omega) (x := f (i + 1).toNat) (r := false)
  have f1 := s0_ev e1 (by decide)
  have f2 := s0_ev e2 (by decide)
  have s1 := hs.to f1
  obtain ⟨k1, l1⟩ := s1.kd
  have x1 := f1.kd h.1.1.1
  rw [bI_f] at e1 e2
  refine ⟨c2, z5, z6, t, ?_, w2, s1.to f2, by omega⟩
  rw [sg_277_1395]
  simp (disch := omega) only [↓reduceIte, not_false_eq_true, not_true_eq_false, and_self, and_true, true_and, false_and, and_false, or_true, true_or, or_false, false_or, or_self, reduceCtorEq, mm_q, Option.getD_some, cI_some, cJ_some, cV_some, cS_some, kd_sI, kd_sL, kd_sR, kd_cp, ln_sI, ln_sL, ln_sR, ln_cp, gR_sI, gR_sL, gR_sR, gR_cp, gL_sI, gL_sR, gL_cp, gI_sL, gI_sR, iI_add, iI_sub, iI_mul, iI_neg, iI_in, iI_tn, iI_lt, iI_eq, Nat.reduceLeDiff, Nat.reduceEqDiff, Nat.reduceAdd, Int.reduceEq, Int.reduceLT, Int.reduceLE, Int.reduceNeg, Int.reduceAdd, Int.reduceSub, Int.reduceMul, eq_self, k0, l0, hs.2, x0.1, y]
  rw [sg_277_1416 (by omega)]
  simp (disch := omega) only [↓reduceIte, not_false_eq_true, not_true_eq_false, and_self, and_true, true_and, false_and, and_false, or_true, true_or, or_false, false_or, or_self, reduceCtorEq, mm_q, Option.getD_some, cI_some, cJ_some, cV_some, cS_some, kd_sI, kd_sL, kd_sR, kd_cp, ln_sI, ln_sL, ln_sR, ln_cp, gR_sI, gR_sL, gR_sR, gR_cp, gL_sI, gL_sR, gL_cp, gI_sL, gI_sR, iI_add, iI_sub, iI_mul, iI_neg, iI_in, iI_tn, iI_lt, iI_eq, Nat.reduceLeDiff, Nat.reduceEqDiff, Nat.reduceAdd, Int.reduceEq, Int.reduceLT, Int.reduceLE, Int.reduceNeg, Int.reduceAdd, Int.reduceSub, Int.reduceMul, eq_self, x0.1, e1, k1, l1, s1.2, y]
  rw [sg_277_1440 (by omega)]
  simp (disch := omega) only [↓reduceIte, not_false_eq_true, not_true_eq_false, and_self, and_true, true_and, false_and, and_false, or_true, true_or, or_false, false_or, or_self, reduceCtorEq, mm_q, Option.getD_some, cI_some, cJ_some, cV_some, cS_some, kd_sI, kd_sL, kd_sR, kd_cp, ln_sI, ln_sL, ln_sR, ln_cp, gR_sI, gR_sL, gR_sR, gR_cp, gL_sI, gL_sR, gL_cp, gI_sL, gI_sR, iI_add, iI_sub, iI_mul, iI_neg, iI_in, iI_tn, iI_lt, iI_eq, Nat.reduceLeDiff, Nat.reduceEqDiff, Nat.reduceAdd, Int.reduceEq, Int.reduceLT, Int.reduceLE, Int.reduceNeg, Int.reduceAdd, Int.reduceSub, Int.reduceMul, eq_self, x1.2.1, e2]
theorem lc_30t (hw : Wd m) (hs : SC f n t m) (hd : 80 ≤ d) (i0 : 0 ≤ i) (i1 : i + 7 ≤ (n : Int)) (n1 : n ≤ 3584) (y : ¬ f (i + 3).toNat = iI 0) : LC f n t d 1256 i m := by
  intro z5 z6
  obtain ⟨D, E, s, p, h⟩ := hw
  obtain ⟨k0, l0⟩ := hs.kd
  have x0 := scF0.rf.kd h.1.1.1
  obtain ⟨v, c1, c2, e1, e2, w2⟩ := T30 (d := d - 1) h (by omega) (x := f (i + 1).toNat) (y := f (i + 2).toNat) (r := true)
  have f1 := s0_ev e1 (by decide)
  have f2 := s0_ev e2 (by decide)
  have s1 := hs.to f1
  obtain ⟨k1, l1⟩ := s1.kd
  have x1 := f1.kd h.1.1.1
  rw [bI_t] at e1 e2
  refine ⟨c2, z5, z6, t, ?_, w2, s1.to f2, by omega⟩
  rw [sg_277_1256]
  simp (disch := omega) only [↓reduceIte, not_false_eq_true, not_true_eq_false, and_self, and_true, true_and, false_and, and_false, or_true, true_or, or_false, false_or, or_self, reduceCtorEq, mm_q, Option.getD_some, cI_some, cJ_some, cV_some, cS_some, kd_sI, kd_sL, kd_sR, kd_cp, ln_sI, ln_sL, ln_sR, ln_cp, gR_sI, gR_sL, gR_sR, gR_cp, gL_sI, gL_sR, gL_cp, gI_sL, gI_sR, iI_add, iI_sub, iI_mul, iI_neg, iI_in, iI_tn, iI_lt, iI_eq, Nat.reduceLeDiff, Nat.reduceEqDiff, Nat.reduceAdd, Int.reduceEq, Int.reduceLT, Int.reduceLE, Int.reduceNeg, Int.reduceAdd, Int.reduceSub, Int.reduceMul, eq_self, k0, l0, hs.2, x0.1, y]
  rw [sg_277_1283 (by omega)]
  simp (disch := omega) only [↓reduceIte, not_false_eq_true, not_true_eq_false, and_self, and_true, true_and, false_and, and_false, or_true, true_or, or_false, false_or, or_self, reduceCtorEq, mm_q, Option.getD_some, cI_some, cJ_some, cV_some, cS_some, kd_sI, kd_sL, kd_sR, kd_cp, ln_sI, ln_sL, ln_sR, ln_cp, gR_sI, gR_sL, gR_sR, gR_cp, gL_sI, gL_sR, gL_cp, gI_sL, gI_sR, iI_add, iI_sub, iI_mul, iI_neg, iI_in, iI_tn, iI_lt, iI_eq, Nat.reduceLeDiff, Nat.reduceEqDiff, Nat.reduceAdd, Int.reduceEq, Int.reduceLT, Int.reduceLE, Int.reduceNeg, Int.reduceAdd, Int.reduceSub, Int.reduceMul, eq_self, x0.1, e1]
  rw [sg_277_1286]
  simp (disch := omega) only [↓reduceIte, not_false_eq_true, not_true_eq_false, and_self, and_true, true_and, false_and, and_false, or_true, true_or, or_false, false_or, or_self, reduceCtorEq, mm_q, Option.getD_some, cI_some, cJ_some, cV_some, cS_some, kd_sI, kd_sL, kd_sR, kd_cp, ln_sI, ln_sL, ln_sR, ln_cp, gR_sI, gR_sL, gR_sR, gR_cp, gL_sI, gL_sR, gL_cp, gI_sL, gI_sR, iI_add, iI_sub, iI_mul, iI_neg, iI_in, iI_tn, iI_lt, iI_eq, Nat.reduceLeDiff, Nat.reduceEqDiff, Nat.reduceAdd, Int.reduceEq, Int.reduceLT, Int.reduceLE, Int.reduceNeg, Int.reduceAdd, Int.reduceSub, Int.reduceMul, eq_self, k1, l1, s1.2, y]
  rw [sg_277_1313 (by omega)]
  simp (disch := omega) only [↓reduceIte, not_false_eq_true, not_true_eq_false, and_self, and_true, true_and, false_and, and_false, or_true, true_or, or_false, false_or, or_self, reduceCtorEq, mm_q, Option.getD_some, cI_some, cJ_some, cV_some, cS_some, kd_sI, kd_sL, kd_sR, kd_cp, ln_sI, ln_sL, ln_sR, ln_cp, gR_sI, gR_sL, gR_sR, gR_cp, gL_sI, gL_sR, gL_cp, gI_sL, gI_sR, iI_add, iI_sub, iI_mul, iI_neg, iI_in, iI_tn, iI_lt, iI_eq, Nat.reduceLeDiff, Nat.reduceEqDiff, Nat.reduceAdd, Int.reduceEq, Int.reduceLT, Int.reduceLE, Int.reduceNeg, Int.reduceAdd, Int.reduceSub, Int.reduceMul, eq_self, x1.2.1, e2]
theorem lc_33t (hw : Wd m) (hs : SC f n t m) (hd : 80 ≤ d) (i0 : 0 ≤ i) (i1 : i + 7 ≤ (n : Int)) (n1 : n ≤ 3584) (y : ¬ f (i + 2).toNat = iI 0) : LC f n t d 1395 i m := by
  intro z5 z6
  obtain ⟨D, E, s, p, h⟩ := hw
  obtain ⟨k0, l0⟩ := hs.kd
  have x0 := scF0.rf.kd h.1.1.1
  obtain ⟨v, c1, c2, e1, e2, w2⟩ := T33 (d := d - 1) h (by omega) (x := f (i + 1).toNat) (r := true)
  have f1 := s0_ev e1 (by decide)
  have f2 := s0_ev e2 (by decide)
  have s1 := hs.to f1
  obtain ⟨k1, l1⟩ := s1.kd
  have x1 := f1.kd h.1.1.1
  rw [bI_t] at e1 e2
  refine ⟨c2, z5, z6, t, ?_, w2, s1.to f2, by omega⟩
  rw [sg_277_1395]
  simp (disch := omega) only [↓reduceIte, not_false_eq_true, not_true_eq_false, and_self, and_true, true_and, false_and, and_false, or_true, true_or, or_false, false_or, or_self, reduceCtorEq, mm_q, Option.getD_some, cI_some, cJ_some, cV_some, cS_some, kd_sI, kd_sL, kd_sR, kd_cp, ln_sI, ln_sL, ln_sR, ln_cp, gR_sI, gR_sL, gR_sR, gR_cp, gL_sI, gL_sR, gL_cp, gI_sL, gI_sR, iI_add, iI_sub, iI_mul, iI_neg, iI_in, iI_tn, iI_lt, iI_eq, Nat.reduceLeDiff, Nat.reduceEqDiff, Nat.reduceAdd, Int.reduceEq, Int.reduceLT, Int.reduceLE, Int.reduceNeg, Int.reduceAdd, Int.reduceSub, Int.reduceMul, eq_self, k0, l0, hs.2, x0.1, y]
  rw [sg_277_1416 (by omega)]
  simp (disch := omega) only [↓reduceIte, not_false_eq_true, not_true_eq_false, and_self, and_true, true_and, false_and, and_false, or_true, true_or, or_false, false_or, or_self, reduceCtorEq, mm_q, Option.getD_some, cI_some, cJ_some, cV_some, cS_some, kd_sI, kd_sL, kd_sR, kd_cp, ln_sI, ln_sL, ln_sR, ln_cp, gR_sI, gR_sL, gR_sR, gR_cp, gL_sI, gL_sR, gL_cp, gI_sL, gI_sR, iI_add, iI_sub, iI_mul, iI_neg, iI_in, iI_tn, iI_lt, iI_eq, Nat.reduceLeDiff, Nat.reduceEqDiff, Nat.reduceAdd, Int.reduceEq, Int.reduceLT, Int.reduceLE, Int.reduceNeg, Int.reduceAdd, Int.reduceSub, Int.reduceMul, eq_self, x0.1, e1, k1, l1, s1.2, y]
  rw [sg_277_1440 (by omega)]
  simp (disch := omega) only [↓reduceIte, not_false_eq_true, not_true_eq_false, and_self, and_true, true_and, false_and, and_false, or_true, true_or, or_false, false_or, or_self, reduceCtorEq, mm_q, Option.getD_some, cI_some, cJ_some, cV_some, cS_some, kd_sI, kd_sL, kd_sR, kd_cp, ln_sI, ln_sL, ln_sR, ln_cp, gR_sI, gR_sL, gR_sR, gR_cp, gL_sI, gL_sR, gL_cp, gI_sL, gI_sR, iI_add, iI_sub, iI_mul, iI_neg, iI_in, iI_tn, iI_lt, iI_eq, Nat.reduceLeDiff, Nat.reduceEqDiff, Nat.reduceAdd, Int.reduceEq, Int.reduceLT, Int.reduceLE, Int.reduceNeg, Int.reduceAdd, Int.reduceSub, Int.reduceMul, eq_self, x1.2.1, e2]
end
