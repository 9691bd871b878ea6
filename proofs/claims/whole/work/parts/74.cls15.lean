section
variable {D : Nat → Nat → Int32} {m m' m'' : mm_M} {d s W L H p n : Nat} {B : Int → Int} {take : Int} {late : Bool}
theorem C32S (hs : Sh m) (hP : RP D m) (hT : InvT D) (hd : 2 ≤ d) {q : Int × Int × Int32 × Bool} (hq : LSt m q) (q0 : 0 ≤ q.1) (q1 : q.1 ≤ 7000) {a b t l3 l4 : Int} (a0 : 0 ≤ a) (a1 : a ≤ 600) (b0 : 0 ≤ b) (b1 : b < 10) (h4 : a ≤ l4) (h5 : l4 ≤ 600) : ∃ m', mm_ev d 32 70 [some (.ref 163), some (.int (iI (t))), some (.int (iI (b))), some (.int (iI (l3))), some (.int (iI (l4))), some (.int (iI (a)))] [] m = mm_ev d 32 70 [some (.ref 163), some (.int (iI (t))), some (.int (iI (b))), some (.int (iI (l3))), some (.int (iI (l4))), some (.int (iI (a + 1)))] [] m' ∧ Fr scP m m' ∧ LSt m' (lawStep D t b a q) := by
  have pf := shP hs
  rw [sg_32_70 (by omega)]
  simp (disch := omega) only [pf, ↓reduceIte, not_false_eq_true, not_true_eq_false, and_self, and_true, true_and, false_and, and_false, or_true, true_or, or_false, false_or, or_self, reduceCtorEq, mm_q, Option.getD_some, cI_some, cJ_some, cV_some, cS_some, kd_sI, kd_sL, kd_sR, kd_cp, ln_sI, ln_sL, ln_sR, ln_cp, gR_sI, gR_sL, gR_sR, gR_cp, gL_sI, gL_sR, gL_cp, gI_sL, gI_sR, iI_add, iI_sub, iI_mul, iI_neg, iI_in, iI_tn, iI_lt, iI_eq, Nat.reduceLeDiff, Nat.reduceEqDiff, Nat.reduceAdd, Int.reduceEq, Int.reduceLT, Int.reduceLE, Int.reduceNeg, Int.reduceAdd, Int.reduceSub, Int.reduceMul, show ¬ l4 < a by omega, C33 hs hP hT a0 a1 b0 b1]
  rw [sg_32_84 (by omega)]
  cases z : lawB D a b
  · refine ⟨m, ?_, Fr.rf, by rw [lawStep_f z]; exact hq⟩
    simp (disch := omega) only [↓reduceIte, not_false_eq_true, not_true_eq_false, and_self, and_true, true_and, false_and, and_false, or_true, true_or, or_false, false_or, or_self, reduceCtorEq, mm_q, Option.getD_some, cI_some, cJ_some, cV_some, cS_some, kd_sI, kd_sL, kd_sR, kd_cp, ln_sI, ln_sL, ln_sR, ln_cp, gR_sI, gR_sL, gR_sR, gR_cp, gL_sI, gL_sR, gL_cp, gI_sL, gI_sR, iI_add, iI_sub, iI_mul, iI_neg, iI_in, iI_tn, iI_lt, iI_eq, Nat.reduceLeDiff, Nat.reduceEqDiff, Nat.reduceAdd, Int.reduceEq, Int.reduceLT, Int.reduceLE, Int.reduceNeg, Int.reduceAdd, Int.reduceSub, Int.reduceMul, bI_t, bI_f, decide_true, decide_false, Bool.and_true, Bool.and_false, Bool.true_and, Bool.false_and, Bool.false_eq_true, Bool.and_self, Bool.not_true, Bool.not_false, Bool.true_or, Bool.false_or, Bool.or_true, Bool.or_false, sg_32_95]
  · obtain ⟨m', e, f, r⟩ := C34 (d := d - 1) hs hq q0 q1 (t := t) z
    refine ⟨m', ?_, f, r⟩
    simp (disch := omega) only [pf, ↓reduceIte, not_false_eq_true, not_true_eq_false, and_self, and_true, true_and, false_and, and_false, or_true, true_or, or_false, false_or, or_self, reduceCtorEq, mm_q, Option.getD_some, cI_some, cJ_some, cV_some, cS_some, kd_sI, kd_sL, kd_sR, kd_cp, ln_sI, ln_sL, ln_sR, ln_cp, gR_sI, gR_sL, gR_sR, gR_cp, gL_sI, gL_sR, gL_cp, gI_sL, gI_sR, iI_add, iI_sub, iI_mul, iI_neg, iI_in, iI_tn, iI_lt, iI_eq, Nat.reduceLeDiff, Nat.reduceEqDiff, Nat.reduceAdd, Int.reduceEq, Int.reduceLT, Int.reduceLE, Int.reduceNeg, Int.reduceAdd, Int.reduceSub, Int.reduceMul, bI_t, bI_f, decide_true, decide_false, Bool.and_true, Bool.and_false, Bool.true_and, Bool.false_and, Bool.false_eq_true, Bool.and_self, Bool.not_true, Bool.not_false, Bool.true_or, Bool.false_or, Bool.or_true, Bool.or_false, e, sg_32_95]
theorem C32I (hT : InvT D) (hd : 2 ≤ d) {b t l3 : Int} (b0 : 0 ≤ b) (b1 : b < 10) : ∀ (r : Nat) (a : Int) (q : Int × Int × Int32 × Bool) (m : mm_M), a = 601 - r → 0 ≤ a → Sh m → RP D m → LSt m q → 0 ≤ q.1 → q.1 ≤ 601 * b + a → ∃ m', mm_ev d 32 70 [some (.ref 163), some (.int (iI (t))), some (.int (iI (b))), some (.int (iI (l3))), some (.int (iI (600))), some (.int (iI (a)))] [] m = mm_ev d 32 12 [some (.ref 163), some (.int (iI (t))), some (.int (iI (b + 1))), some (.int (iI (l3))), some (.int (iI (600))), some (.int (iI (601)))] [] m' ∧ Fr scP m m' ∧ LSt m' (lawI D t b r a q) ∧ 0 ≤ (lawI D t b r a q).1 ∧ (lawI D t b r a q).1 ≤ 601 * (b + 1)
  | 0, a, q, m, ha, a0, hs, hP, hq, q0, q1 => by
    refine ⟨m, ?_, Fr.rf, hq, q0, by unfold lawI; omega⟩
    rw [sg_32_70 (by omega), show a = 601 by omega]
    simp (disch := omega) only [↓reduceIte, not_false_eq_true, not_true_eq_false, and_self, and_true, true_and, false_and, and_false, or_true, true_or, or_false, false_or, or_self, reduceCtorEq, mm_q, Option.getD_some, cI_some, cJ_some, cV_some, cS_some, kd_sI, kd_sL, kd_sR, kd_cp, ln_sI, ln_sL, ln_sR, ln_cp, gR_sI, gR_sL, gR_sR, gR_cp, gL_sI, gL_sR, gL_cp, gI_sL, gI_sR, iI_add, iI_sub, iI_mul, iI_neg, iI_in, iI_tn, iI_lt, iI_eq, Nat.reduceLeDiff, Nat.reduceEqDiff, Nat.reduceAdd, Int.reduceEq, Int.reduceLT, Int.reduceLE, Int.reduceNeg, Int.reduceAdd, Int.reduceSub, Int.reduceMul]
  | r + 1, a, q, m, ha, a0, hs, hP, hq, q0, q1 => by
    have lr := lawStep_r (D := D) (what := t) (b := b) (a := a) q0
    obtain ⟨m1, e1, f1, r1⟩ := C32S hs hP hT hd hq q0 (by omega) (t := t) (l3 := l3) (l4 := 600) a0 (by omega) b0 b1 (by omega) (by omega)
    obtain ⟨m', e2, f2, r2⟩ := C32I hT hd (t := t) (l3 := l3) b0 b1 r (a + 1) (lawStep D t b a q) m1 (by omega) (by omega) (f1.sh hs) (hP.fP f1) r1 (by omega) (by omega)
    exact ⟨m', e1.trans e2, f1.tr f2, r2⟩
/-- seekLaws' loop -/
theorem C32L (hT : InvT D) (hd : 2 ≤ d) {t : Int} : ∀ (r : Nat) (b : Int) (q : Int × Int × Int32 × Bool) (z3 z4 z5 : Option Value) (m : mm_M), b = 10 - r → 0 ≤ b → Sh m → RP D m → LSt m q → 0 ≤ q.1 → q.1 ≤ 601 * b → ∃ m', mm_ev d 32 12 [some (.ref 163), some (.int (iI (t))), some (.int (iI (b))), z3, z4, z5] [] m = some (some none, m') ∧ Fr scP m m' ∧ LSt m' (lawO D t r b q) ∧ 0 ≤ (lawO D t r b q).1 ∧ (lawO D t r b q).1 ≤ 6010
  | 0, b, q, z3, z4, z5, m, hb, b0, hs, hP, hq, q0, q1 => by
    refine ⟨m, ?_, Fr.rf, hq, q0, by unfold lawO; omega⟩
    rw [sg_32_12]
    simp (disch := omega) only [↓reduceIte, not_false_eq_true, not_true_eq_false, and_self, and_true, true_and, false_and, and_false, or_true, true_or, or_false, false_or, or_self, reduceCtorEq, mm_q, Option.getD_some, cI_some, cJ_some, cV_some, cS_some, kd_sI, kd_sL, kd_sR, kd_cp, ln_sI, ln_sL, ln_sR, ln_cp, gR_sI, gR_sL, gR_sR, gR_cp, gL_sI, gL_sR, gL_cp, gI_sL, gI_sR, iI_add, iI_sub, iI_mul, iI_neg, iI_in, iI_tn, iI_lt, iI_eq, Nat.reduceLeDiff, Nat.reduceEqDiff, Nat.reduceAdd, Int.reduceEq, Int.reduceLT, Int.reduceLE, Int.reduceNeg, Int.reduceAdd, Int.reduceSub, Int.reduceMul, show 9 < b by omega]
  | r + 1, b, q, z3, z4, z5, m, hb, b0, hs, hP, hq, q0, q1 => by
    have pf := shP hs
    obtain ⟨c0, c1⟩ := hT.1
    have b1 : b < 10 := by omega
    unfold lawO
    by_cases z : sa D 25 = 0
    · obtain ⟨m1, e1, f1, r1, r2, r3⟩ := C32I hT hd (t := t) (l3 := 0) b0 b1 601 0 q m (by omega) (by omega) hs hP hq q0 (by omega)
      obtain ⟨m', e2, f2, r4⟩ := C32L hT hd r (b + 1) _ (some (.int (iI (0)))) (some (.int (iI (600)))) (some (.int (iI (601)))) m1 (by omega) (by omega) (f1.sh hs) (hP.fP f1) r1 r2 r3
      refine ⟨m', ?_, f1.tr f2, r4⟩
      rw [← e2, ← e1, sg_32_12]
      simp (disch := omega) only [pf, ↓reduceIte, not_false_eq_true, not_true_eq_false, and_self, and_true, true_and, false_and, and_false, or_true, true_or, or_false, false_or, or_self, reduceCtorEq, mm_q, Option.getD_some, cI_some, cJ_some, cV_some, cS_some, kd_sI, kd_sL, kd_sR, kd_cp, ln_sI, ln_sL, ln_sR, ln_cp, gR_sI, gR_sL, gR_sR, gR_cp, gL_sI, gL_sR, gL_cp, gI_sL, gI_sR, iI_add, iI_sub, iI_mul, iI_neg, iI_in, iI_tn, iI_lt, iI_eq, Nat.reduceLeDiff, Nat.reduceEqDiff, Nat.reduceAdd, Int.reduceEq, Int.reduceLT, Int.reduceLE, Int.reduceNeg, Int.reduceAdd, Int.reduceSub, Int.reduceMul, show ¬ 9 < b by omega, hP.e.1, z]
      rw [sg_32_44]
      simp (disch := omega) only [pf, ↓reduceIte, not_false_eq_true, not_true_eq_false, and_self, and_true, true_and, false_and, and_false, or_true, true_or, or_false, false_or, or_self, reduceCtorEq, mm_q, Option.getD_some, cI_some, cJ_some, cV_some, cS_some, kd_sI, kd_sL, kd_sR, kd_cp, ln_sI, ln_sL, ln_sR, ln_cp, gR_sI, gR_sL, gR_sR, gR_cp, gL_sI, gL_sR, gL_cp, gI_sL, gI_sR, iI_add, iI_sub, iI_mul, iI_neg, iI_in, iI_tn, iI_lt, iI_eq, Nat.reduceLeDiff, Nat.reduceEqDiff, Nat.reduceAdd, Int.reduceEq, Int.reduceLT, Int.reduceLE, Int.reduceNeg, Int.reduceAdd, Int.reduceSub, Int.reduceMul, hP.e.1, z, sg_32_65]
    · obtain ⟨⟨t0, t1⟩, ⟨u0, u1⟩⟩ := hT.2 0 (by omega) (by omega)
      obtain ⟨g1, g2⟩ := hP.e.2.2.1 0 (by omega) (by omega)
      rw [show (26 : Int) + 2 * 0 = 26 from rfl] at t0 t1 u0 u1 g1 g2
      rw [show (26 : Int) + 1 = 27 from rfl] at u0 u1 g2
      have p0 : 0 ≤ b * sa D 26 := Int.mul_nonneg b0 t0
      have p1 : b * sa D 26 ≤ 10 * 60 := Int.mul_le_mul (by omega) t1 t0 (by omega)
      have hno : ∀ y, ¬ y = sa D 27 + b * sa D 26 → lawB D y b = false := fun y hy => law_1 hT z hy
      have en : mm_ev d 32 12 [some (.ref 163), some (.int (iI (t))), some (.int (iI (b))), z3, z4, z5] [] m = mm_ev d 32 70 [some (.ref 163), some (.int (iI (t))), some (.int (iI (b))), some (.int (iI (sa D 27 + b * sa D 26))), some (.int (iI (min (sa D 27 + b * sa D 26) 600))), some (.int (iI (sa D 27 + b * sa D 26)))] [] m := by
        rw [sg_32_12]
        simp (disch := omega) only [pf, ↓reduceIte, not_false_eq_true, not_true_eq_false, and_self, and_true, true_and, false_and, and_false, or_true, true_or, or_false, false_or, or_self, reduceCtorEq, mm_q, Option.getD_some, cI_some, cJ_some, cV_some, cS_some, kd_sI, kd_sL, kd_sR, kd_cp, ln_sI, ln_sL, ln_sR, ln_cp, gR_sI, gR_sL, gR_sR, gR_cp, gL_sI, gL_sR, gL_cp, gI_sL, gI_sR, iI_add, iI_sub, iI_mul, iI_neg, iI_in, iI_tn, iI_lt, iI_eq, Nat.reduceLeDiff, Nat.reduceEqDiff, Nat.reduceAdd, Int.reduceEq, Int.reduceLT, Int.reduceLE, Int.reduceNeg, Int.reduceAdd, Int.reduceSub, Int.reduceMul, show ¬ 9 < b by omega, hP.e.1, z, g1, g2]
        rw [sg_32_44]
        simp (disch := omega) only [pf, ↓reduceIte, not_false_eq_true, not_true_eq_false, and_self, and_true, true_and, false_and, and_false, or_true, true_or, or_false, false_or, or_self, reduceCtorEq, mm_q, Option.getD_some, cI_some, cJ_some, cV_some, cS_some, kd_sI, kd_sL, kd_sR, kd_cp, ln_sI, ln_sL, ln_sR, ln_cp, gR_sI, gR_sL, gR_sR, gR_cp, gL_sI, gL_sR, gL_cp, gI_sL, gI_sR, iI_add, iI_sub, iI_mul, iI_neg, iI_in, iI_tn, iI_lt, iI_eq, Nat.reduceLeDiff, Nat.reduceEqDiff, Nat.reduceAdd, Int.reduceEq, Int.reduceLT, Int.reduceLE, Int.reduceNeg, Int.reduceAdd, Int.reduceSub, Int.reduceMul, hP.e.1, z, iI_min, sg_32_65]
      by_cases w : sa D 27 + b * sa D 26 ≤ 600
      · have em : min (sa D 27 + b * sa D 26) 600 = sa D 27 + b * sa D 26 := by omega
        rw [em] at en
        have lr := lawStep_r (D := D) (what := t) (b := b) (a := sa D 27 + b * sa D 26) q0
        obtain ⟨m1, e1, f1, r1⟩ := C32S hs hP hT hd hq q0 (by omega) (t := t) (l3 := sa D 27 + b * sa D 26) (l4 := sa D 27 + b * sa D 26) (by omega) w b0 b1 (by omega) w
        have el := lawI_1 (D := D) (what := t) (b := b) (q := q) (show 0 ≤ sa D 27 + b * sa D 26 by omega) w hno
        obtain ⟨m', e2, f2, r4⟩ := C32L hT hd r (b + 1) (lawStep D t b (sa D 27 + b * sa D 26) q) (some (.int (iI (sa D 27 + b * sa D 26)))) (some (.int (iI (sa D 27 + b * sa D 26)))) (some (.int (iI (sa D 27 + b * sa D 26 + 1)))) m1 (by omega) (by omega) (f1.sh hs) (hP.fP f1) r1 (by omega) (by omega)
        rw [el]
        refine ⟨m', ?_, f1.tr f2, r4⟩
        rw [← e2, en, e1, sg_32_70 (by omega)]
        simp (disch := omega) only [↓reduceIte, not_false_eq_true, not_true_eq_false, and_self, and_true, true_and, false_and, and_false, or_true, true_or, or_false, false_or, or_self, reduceCtorEq, mm_q, Option.getD_some, cI_some, cJ_some, cV_some, cS_some, kd_sI, kd_sL, kd_sR, kd_cp, ln_sI, ln_sL, ln_sR, ln_cp, gR_sI, gR_sL, gR_sR, gR_cp, gL_sI, gL_sR, gL_cp, gI_sL, gI_sR, iI_add, iI_sub, iI_mul, iI_neg, iI_in, iI_tn, iI_lt, iI_eq, Nat.reduceLeDiff, Nat.reduceEqDiff, Nat.reduceAdd, Int.reduceEq, Int.reduceLT, Int.reduceLE, Int.reduceNeg, Int.reduceAdd, Int.reduceSub, Int.reduceMul, show sa D 27 + b * sa D 26 < sa D 27 + b * sa D 26 + 1 by omega]
      · have em : min (sa D 27 + b * sa D 26) 600 = 600 := by omega
        rw [em] at en
        have el : lawI D t b 601 0 q = q := lawI_s 601 0 q (fun y y0 y1 => hno y (by omega))
        rw [el]
        obtain ⟨m', e2, f2, r4⟩ := C32L hT hd r (b + 1) q (some (.int (iI (sa D 27 + b * sa D 26)))) (some (.int (iI (600)))) (some (.int (iI (sa D 27 + b * sa D 26)))) m (by omega) (by omega) hs hP hq q0 (by omega)
        refine ⟨m', ?_, f2, r4⟩
        rw [← e2, en, sg_32_70 (by omega)]
        simp (disch := omega) only [↓reduceIte, not_false_eq_true, not_true_eq_false, and_self, and_true, true_and, false_and, and_false, or_true, true_or, or_false, false_or, or_self, reduceCtorEq, mm_q, Option.getD_some, cI_some, cJ_some, cV_some, cS_some, kd_sI, kd_sL, kd_sR, kd_cp, ln_sI, ln_sL, ln_sR, ln_cp, gR_sI, gR_sL, gR_sR, gR_cp, gL_sI, gL_sR, gL_cp, gI_sL, gI_sR, iI_add, iI_sub, iI_mul, iI_neg, iI_in, iI_tn, iI_lt, iI_eq, Nat.reduceLeDiff, Nat.reduceEqDiff, Nat.reduceAdd, Int.reduceEq, Int.reduceLT, Int.reduceLE, Int.reduceNeg, Int.reduceAdd, Int.reduceSub, Int.reduceMul, show 600 < sa D 27 + b * sa D 26 by omega]
theorem C32 (hs : Sh m) (hP : RP D m) (hT : InvT D) (hd : 2 ≤ d) {t : Int} : ∃ m', mm_ev d 32 0 [some (.ref 163), some (.int (iI (t))), none, none, none, none] [] m = some (some none, m') ∧ Fr scP m m' ∧ LSt m' (lawsQ D t) ∧ 0 ≤ (lawsQ D t).1 ∧ (lawsQ D t).1 ≤ 6010 := by
  have pf := shP hs
  have f1 : Fr scP m (mm_sI (mm_sI m 163 7 (iI 0)) 163 10 (iI 1)) := Fr.tr (Fr.sI rfl) (Fr.sI rfl)
  obtain ⟨m', e, f, r⟩ := C32L (d := d) hT hd (t := t) 10 0 (0, 0, iI 0, true) none none none _ (by omega) (by omega) (f1.sh hs) (hP.fP f1) ⟨by rw [gI_sI, gI_sI, if_neg (by omega), if_pos ⟨rfl, rfl⟩], by rw [gI_sI, if_pos ⟨rfl, rfl⟩]; rfl, fun q => absurd q (by simp), fun q => absurd q (by simp)⟩ (by simp) (by simp)
  refine ⟨m', ?_, f1.tr f, r⟩
  rw [sg_32_0]
  simp (disch := omega) only [pf, ↓reduceIte, not_false_eq_true, not_true_eq_false, and_self, and_true, true_and, false_and, and_false, or_true, true_or, or_false, false_or, or_self, reduceCtorEq, mm_q, Option.getD_some, cI_some, cJ_some, cV_some, cS_some, kd_sI, kd_sL, kd_sR, kd_cp, ln_sI, ln_sL, ln_sR, ln_cp, gR_sI, gR_sL, gR_sR, gR_cp, gL_sI, gL_sR, gL_cp, gI_sL, gI_sR, iI_add, iI_sub, iI_mul, iI_neg, iI_in, iI_tn, iI_lt, iI_eq, Nat.reduceLeDiff, Nat.reduceEqDiff, Nat.reduceAdd, Int.reduceEq, Int.reduceLT, Int.reduceLE, Int.reduceNeg, Int.reduceAdd, Int.reduceSub, Int.reduceMul]
  exact e
theorem lawI_w {x y b : Int} : ∀ (k : Nat) (a : Int) (q r : Int × Int × Int32 × Bool), q.1 = r.1 → q.2.1 = r.2.1 → (lawI D x b k a q).1 = (lawI D y b k a r).1 ∧ (lawI D x b k a q).2.1 = (lawI D y b k a r).2.1
  | 0, _, _, _, h1, h2 => ⟨h1, h2⟩
  | k + 1, a, q, r, h1, h2 => by
    unfold lawI
    refine lawI_w k (a + 1) _ _ ?_ ?_
    · unfold lawStep
      split
      · dsimp only; rw [h1]
      · exact h1
    · unfold lawStep
      split
      · dsimp only; rw [h1, h2]
      · exact h2
theorem lawO_w {x y : Int} : ∀ (k : Nat) (b : Int) (q r : Int × Int × Int32 × Bool), q.1 = r.1 → q.2.1 = r.2.1 → (lawO D x k b q).1 = (lawO D y k b r).1 ∧ (lawO D x k b q).2.1 = (lawO D y k b r).2.1
  | 0, _, _, _, h1, h2 => ⟨h1, h2⟩
  | k + 1, b, q, r, h1, h2 => by
    unfold lawO
    have := lawI_w (D := D) (x := x) (y := y) (b := b) 601 0 q r h1 h2
    exact lawO_w k (b + 1) _ _ this.1 this.2
/-- laws -/
theorem C154 (hs : Sh m) (hP : RP D m) (hT : InvT D) (hd : 8 ≤ d) {what : Int} (what_0 : -2147483648 ≤ what) (what_1 : what < 2147483648) : ∃ m', (lawsOk D what = true → mm_ev d 154 0 [some (.ref 100), some (.int (iI (what)))] [] m = some (some (some (.int (lawsS D what))), m')) ∧ (lawsOk D what = false → mm_ev d 154 0 [some (.ref 100), some (.int (iI (what)))] [] m = some (none, mm_exc m')) ∧ FC m m' := by
  have xf := shX hs
  have pf := shP hs
  by_cases z1 : what < -2
  · have hn : lawsOk D what = false := by
      unfold lawsOk inB
      rw [decide_eq_false (show ¬ what = -1 by omega), decide_eq_false (show ¬ what = -2 by omega), decide_eq_false (show ¬ 0 ≤ what by omega)]
      simp
    refine ⟨m, fun q => absurd (q.symm.trans hn) (by decide), fun _ => ?_, FC.rf⟩
    rw [sg_154_0 (by omega)]
    simp (disch := omega) only [↓reduceIte, not_false_eq_true, not_true_eq_false, and_self, and_true, true_and, false_and, and_false, or_true, true_or, or_false, false_or, or_self, reduceCtorEq, mm_q, Option.getD_some, cI_some, cJ_some, cV_some, cS_some, kd_sI, kd_sL, kd_sR, kd_cp, ln_sI, ln_sL, ln_sR, ln_cp, gR_sI, gR_sL, gR_sR, gR_cp, gL_sI, gL_sR, gL_cp, gI_sL, gI_sR, iI_add, iI_sub, iI_mul, iI_neg, iI_in, iI_tn, iI_lt, iI_eq, Nat.reduceLeDiff, Nat.reduceEqDiff, Nat.reduceAdd, Int.reduceEq, Int.reduceLT, Int.reduceLE, Int.reduceNeg, Int.reduceAdd, Int.reduceSub, Int.reduceMul, z1, sg_154_12]
  · by_cases z2 : 60 < what
    · have hn : lawsOk D what = false := by
        unfold lawsOk inB
        rw [decide_eq_false (show ¬ what = -1 by omega), decide_eq_false (show ¬ what = -2 by omega), decide_eq_false (show ¬ what ≤ 60 by omega)]
        simp
      refine ⟨m, fun q => absurd (q.symm.trans hn) (by decide), fun _ => ?_, FC.rf⟩
      rw [sg_154_0 (by omega)]
      simp (disch := omega) only [↓reduceIte, not_false_eq_true, not_true_eq_false, and_self, and_true, true_and, false_and, and_false, or_true, true_or, or_false, false_or, or_self, reduceCtorEq, mm_q, Option.getD_some, cI_some, cJ_some, cV_some, cS_some, kd_sI, kd_sL, kd_sR, kd_cp, ln_sI, ln_sL, ln_sR, ln_cp, gR_sI, gR_sL, gR_sR, gR_cp, gL_sI, gL_sR, gL_cp, gI_sL, gI_sR, iI_add, iI_sub, iI_mul, iI_neg, iI_in, iI_tn, iI_lt, iI_eq, Nat.reduceLeDiff, Nat.reduceEqDiff, Nat.reduceAdd, Int.reduceEq, Int.reduceLT, Int.reduceLE, Int.reduceNeg, Int.reduceAdd, Int.reduceSub, Int.reduceMul, z1, z2, sg_154_12]
    · obtain ⟨m', e, f, ⟨h7, h10, h8, h9⟩, r0, r1⟩ := C32 (d := d - 1) hs hP hT (by omega) (t := max what 0)
      have hs' := f.sh hs
      have xf' := shX hs'
      have pf' := shP hs'
      have ew := lawO_w (D := D) (x := max what 0) (y := what) 10 0 (0, 0, iI 0, true) (0, 0, iI 0, true) rfl rfl
      rw [show lawO D (max what 0) 10 0 (0, 0, iI 0, true) = lawsQ D (max what 0) from rfl, show lawO D what 10 0 (0, 0, iI 0, true) = lawsQ D what from rfl] at ew
      rw [ew.1] at h7 r0 r1
      have en : mm_ev d 154 0 [some (.ref 100), some (.int (iI (what)))] [] m = mm_ev d 154 35 [some (.ref 100), some (.int (iI (what)))] [] m' := by
        rw [sg_154_0 (by omega)]
        simp (disch := omega) only [xf, pf, ↓reduceIte, not_false_eq_true, not_true_eq_false, and_self, and_true, true_and, false_and, and_false, or_true, true_or, or_false, false_or, or_self, reduceCtorEq, mm_q, Option.getD_some, cI_some, cJ_some, cV_some, cS_some, kd_sI, kd_sL, kd_sR, kd_cp, ln_sI, ln_sL, ln_sR, ln_cp, gR_sI, gR_sL, gR_sR, gR_cp, gL_sI, gL_sR, gL_cp, gI_sL, gI_sR, iI_add, iI_sub, iI_mul, iI_neg, iI_in, iI_tn, iI_lt, iI_eq, Nat.reduceLeDiff, Nat.reduceEqDiff, Nat.reduceAdd, Int.reduceEq, Int.reduceLT, Int.reduceLE, Int.reduceNeg, Int.reduceAdd, Int.reduceSub, Int.reduceMul, z1, z2, iI_max, e]
      have hi : inB what 0 60 = decide (0 ≤ what) := by
        unfold inB
        rw [decide_eq_true (show what ≤ 60 by omega), Bool.and_true]
      refine ⟨m', ?_, ?_, f.PC⟩
      · intro ok
        rw [en, sg_154_35]
        unfold lawsS
        rw [if_pos ok]
        unfold lawsOk at ok
        by_cases y1 : what = -1
        · simp (disch := omega) only [xf', pf', ↓reduceIte, not_false_eq_true, not_true_eq_false, and_self, and_true, true_and, false_and, and_false, or_true, true_or, or_false, false_or, or_self, reduceCtorEq, mm_q, Option.getD_some, cI_some, cJ_some, cV_some, cS_some, kd_sI, kd_sL, kd_sR, kd_cp, ln_sI, ln_sL, ln_sR, ln_cp, gR_sI, gR_sL, gR_sR, gR_cp, gL_sI, gL_sR, gL_cp, gI_sL, gI_sR, iI_add, iI_sub, iI_mul, iI_neg, iI_in, iI_tn, iI_lt, iI_eq, Nat.reduceLeDiff, Nat.reduceEqDiff, Nat.reduceAdd, Int.reduceEq, Int.reduceLT, Int.reduceLE, Int.reduceNeg, Int.reduceAdd, Int.reduceSub, Int.reduceMul, h7, y1] at h7 ⊢
        · rw [decide_eq_false y1, Bool.false_or, Bool.and_eq_true, decide_eq_true_eq] at ok
          have g8 := h8 (by rw [ew.1]; exact ok.1)
          rw [ew.2] at g8
          by_cases y2 : what = -2
          · rw [if_neg (by rw [iI_eq] <;> omega), if_neg y1, if_pos y2]
            simp (disch := omega) only [xf', pf', ↓reduceIte, not_false_eq_true, not_true_eq_false, and_self, and_true, true_and, false_and, and_false, or_true, true_or, or_false, false_or, or_self, reduceCtorEq, mm_q, Option.getD_some, cI_some, cJ_some, cV_some, cS_some, kd_sI, kd_sL, kd_sR, kd_cp, ln_sI, ln_sL, ln_sR, ln_cp, gR_sI, gR_sL, gR_sR, gR_cp, gL_sI, gL_sR, gL_cp, gI_sL, gI_sR, iI_add, iI_sub, iI_mul, iI_neg, iI_in, iI_tn, iI_lt, iI_eq, Nat.reduceLeDiff, Nat.reduceEqDiff, Nat.reduceAdd, Int.reduceEq, Int.reduceLT, Int.reduceLE, Int.reduceNeg, Int.reduceAdd, Int.reduceSub, Int.reduceMul, h7, show ¬ (lawsQ D what).1 = 0 by omega]
            rw [if_pos y2, g8]
          · have hm : max what 0 = what := by omega
            rw [decide_eq_false y2, Bool.false_or, hi, Bool.and_eq_true] at ok
            rw [hm] at h10 h9
            have g9 := h9 ok.1 ok.2.2
            rw [ok.2.2] at h10
            simp (disch := omega) only [xf', pf', ↓reduceIte, not_false_eq_true, not_true_eq_false, and_self, and_true, true_and, false_and, and_false, or_true, true_or, or_false, false_or, or_self, reduceCtorEq, mm_q, Option.getD_some, cI_some, cJ_some, cV_some, cS_some, kd_sI, kd_sL, kd_sR, kd_cp, ln_sI, ln_sL, ln_sR, ln_cp, gR_sI, gR_sL, gR_sR, gR_cp, gL_sI, gL_sR, gL_cp, gI_sL, gI_sR, iI_add, iI_sub, iI_mul, iI_neg, iI_in, iI_tn, iI_lt, iI_eq, Nat.reduceLeDiff, Nat.reduceEqDiff, Nat.reduceAdd, Int.reduceEq, Int.reduceLT, Int.reduceLE, Int.reduceNeg, Int.reduceAdd, Int.reduceSub, Int.reduceMul, bI_t, bI_f, decide_true, decide_false, Bool.and_true, Bool.and_false, Bool.true_and, Bool.false_and, Bool.false_eq_true, Bool.and_self, Bool.not_true, Bool.not_false, Bool.true_or, Bool.false_or, Bool.or_true, Bool.or_false, h7, y1, y2, show ¬ (lawsQ D what).1 = 0 by omega, h10, g9]
      · intro bad
        rw [en, sg_154_35]
        unfold lawsOk at bad
        simp only [Bool.or_eq_false_iff, decide_eq_false_iff_not, Bool.and_eq_false_iff] at bad
        obtain ⟨y1, y3⟩ := bad
        by_cases y4 : (lawsQ D what).1 = 0
        · simp (disch := omega) only [xf', pf', ↓reduceIte, not_false_eq_true, not_true_eq_false, and_self, and_true, true_and, false_and, and_false, or_true, true_or, or_false, false_or, or_self, reduceCtorEq, mm_q, Option.getD_some, cI_some, cJ_some, cV_some, cS_some, kd_sI, kd_sL, kd_sR, kd_cp, ln_sI, ln_sL, ln_sR, ln_cp, gR_sI, gR_sL, gR_sR, gR_cp, gL_sI, gL_sR, gL_cp, gI_sL, gI_sR, iI_add, iI_sub, iI_mul, iI_neg, iI_in, iI_tn, iI_lt, iI_eq, Nat.reduceLeDiff, Nat.reduceEqDiff, Nat.reduceAdd, Int.reduceEq, Int.reduceLT, Int.reduceLE, Int.reduceNeg, Int.reduceAdd, Int.reduceSub, Int.reduceMul, h7, y1, y4]
        · rcases y3 with y3 | ⟨y5, y6⟩
          · omega
          · rw [hi] at y6
            have hp : 0 ≤ what := by omega
            have hm : max what 0 = what := by omega
            rw [decide_eq_true hp] at y6
            have y7 : (lawsQ D what).2.2.2 = false := by
              rcases y6 with y6 | y6
              · cases y6
              · exact y6
            rw [hm, y7] at h10
            simp (disch := omega) only [xf', pf', ↓reduceIte, not_false_eq_true, not_true_eq_false, and_self, and_true, true_and, false_and, and_false, or_true, true_or, or_false, false_or, or_self, reduceCtorEq, mm_q, Option.getD_some, cI_some, cJ_some, cV_some, cS_some, kd_sI, kd_sL, kd_sR, kd_cp, ln_sI, ln_sL, ln_sR, ln_cp, gR_sI, gR_sL, gR_sR, gR_cp, gL_sI, gL_sR, gL_cp, gI_sL, gI_sR, iI_add, iI_sub, iI_mul, iI_neg, iI_in, iI_tn, iI_lt, iI_eq, Nat.reduceLeDiff, Nat.reduceEqDiff, Nat.reduceAdd, Int.reduceEq, Int.reduceLT, Int.reduceLE, Int.reduceNeg, Int.reduceAdd, Int.reduceSub, Int.reduceMul, bI_t, bI_f, decide_true, decide_false, Bool.and_true, Bool.and_false, Bool.true_and, Bool.false_and, Bool.false_eq_true, Bool.and_self, Bool.not_true, Bool.not_false, Bool.true_or, Bool.false_or, Bool.or_true, Bool.or_false, h7, y1, y4, y5, h10]
end
