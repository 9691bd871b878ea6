section
variable {D : Nat → Nat → Int32} {E : Nat → Nat → Int64} {m m' : mm_M} {d : Nat}
theorem sight_f (hI : InvS D) {w c : Int} : 0 < sightS D w c ↔ framedS D c = true := by
  obtain ⟨f0, f1, f2⟩ := hI.2.2.1
  unfold sightS
  by_cases z : c < 0
  · rw [if_pos z]
    unfold framedS
    simp
    omega
  · rw [if_neg z]
    cases z1 : framedS D c
    · simp
    · simp
      split <;> omega
theorem jumpP_r (hI : InvS D) {a b : Int} (a0 : -1 ≤ a) (a1 : a < st D 0) (b0 : -1 ≤ b) (b1 : b < st D 0) : 0 ≤ jumpP D a b ∧ jumpP D a b ≤ 41 := by
  obtain ⟨f0, f1, f2⟩ := hI.2.2.1
  obtain ⟨c0, c1⟩ := hI.1
  unfold jumpP
  split
  · split
    · split <;> omega
    · omega
  · split <;> omega
theorem jumpS_r (hI : InvS D) (hIB : InvB D (sa D)) {w ta s tb t : Int} (w0 : 0 ≤ w) (w1 : w < st D 6) : 0 ≤ jumpS D w ta s tb t ∧ jumpS D w ta s tb t ≤ 41 := by
  have p1 := placeB_r hI hIB (take := ta) (tenth := te D s) (late := false) w0 w1
  have p2 := placeB_r hI hIB (take := tb) (tenth := te D t) (late := false) w0 w1
  exact jumpP_r hI p1.1 p1.2 p2.1 p2.2
/-- jumpOf -/
theorem M255 (h : MD D E m) (hI : InvS D) (hL : InvL D) (hIB : InvB D (sa D)) (hd : 6 ≤ d) {w ta s tb t : Int} (w0 : 0 ≤ w) (w1 : w < st D 6) (s0 : 0 ≤ s) (s1 : s < st D 5) (t0 : 0 ≤ t) (t1 : t < st D 5) : ∃ m', mm_ev d 255 0 [some (.ref 316), some (.int (iI (w))), some (.int (iI (ta))), some (.int (iI (s))), some (.int (iI (tb))), some (.int (iI (t))), none, none, none, none, none] [] m = some (some (some (.int (iI (jumpS D w ta s tb t)))), m') ∧ Fr scL m m' := by
  obtain ⟨f0, f1, f2⟩ := hI.2.2.1
  obtain ⟨c0, c1⟩ := hI.1
  obtain ⟨y0, y1⟩ := hI.2.2.2.2.1
  obtain ⟨k0, k1⟩ := hI.2.2.2.2.2.1
  obtain ⟨u0, u1⟩ := hI.2.2.2.2.2.2.2.2.1 s s0 s1
  obtain ⟨v0, v1⟩ := hI.2.2.2.2.2.2.2.2.1 t t0 t1
  obtain ⟨m1, e1, g1⟩ := M231 (d := d - 1) h (Blk.now h) hI hL hIB (by omega) false (take := ta) w0 w1 u0 u1
  have h1 := h.frL g1
  obtain ⟨m2, e2, g2⟩ := M231 (d := d - 1) h1 (Blk.now h1) hI hL hIB (by omega) false (take := tb) w0 w1 v0 v1
  have h2 := h1.frL g2
  refine ⟨m2, ?_, g1.tr g2⟩
  have p1 := placeB_r hI hIB (take := ta) (tenth := te D s) (late := false) w0 w1
  have p2 := placeB_r hI hIB (take := tb) (tenth := te D t) (late := false) w0 w1
  unfold jumpS
  rw [bI_f] at e1 e2
  rw [sg_255_0 (by omega)]
  simp (disch := omega) only [shM h.1, ↓reduceIte, not_false_eq_true, not_true_eq_false, and_self, and_true, true_and, reduceCtorEq, mm_q, Option.getD_some, cI_some, cJ_some, cV_some, cS_some, Nat.reduceLeDiff, Nat.reduceEqDiff, M210 h]
  rw [sg_255_10 (by omega)]
  simp (disch := omega) only [shM h.1, ↓reduceIte, not_false_eq_true, not_true_eq_false, and_self, and_true, true_and, reduceCtorEq, mm_q, Option.getD_some, cI_some, cJ_some, cV_some, cS_some, Nat.reduceLeDiff, Nat.reduceEqDiff, e1]
  rw [sg_255_13 (by omega)]
  simp (disch := omega) only [shM h1.1, ↓reduceIte, not_false_eq_true, not_true_eq_false, and_self, and_true, true_and, reduceCtorEq, mm_q, Option.getD_some, cI_some, cJ_some, cV_some, cS_some, Nat.reduceLeDiff, Nat.reduceEqDiff, M210 h1]
  rw [sg_255_27 (by omega)]
  simp (disch := omega) only [shM h1.1, ↓reduceIte, not_false_eq_true, not_true_eq_false, and_self, and_true, true_and, reduceCtorEq, mm_q, Option.getD_some, cI_some, cJ_some, cV_some, cS_some, Nat.reduceLeDiff, Nat.reduceEqDiff, e2]
  rw [sg_255_30 (by omega)]
  generalize placeB D (sa D) ta false w (te D s) = a at p1
  generalize placeB D (sa D) tb false w (te D t) = b at p2
  have q1 := sight_f hI (w := w) (c := a)
  have q2 := sight_f hI (w := w) (c := b)
  have r1 := sightS_r (D := D) (w := w) (c := a)
  have r2 := sightS_r (D := D) (w := w) (c := b)
  unfold jumpP
  simp (disch := omega) only [shM h2.1, ↓reduceIte, not_false_eq_true, not_true_eq_false, and_self, and_true, true_and, reduceCtorEq, mm_q, Option.getD_some, cI_some, cJ_some, cV_some, cS_some, Nat.reduceLeDiff, Nat.reduceEqDiff, M211 h2 hI, iI_lt]
  cases z1 : framedS D a
  · rw [z1] at q1
    have z3 : ¬ 0 < sightS D w a := by simp at q1; omega
    cases z2 : framedS D b
    · rw [z2] at q2
      have z4 : ¬ 0 < sightS D w b := by simp at q2; omega
      simp (disch := omega) only [z3, ↓reduceIte, not_false_eq_true, not_true_eq_false, and_self, and_true, true_and, reduceCtorEq, mm_q, Option.getD_some, cI_some, cJ_some, cV_some, cS_some, Nat.reduceLeDiff, Nat.reduceEqDiff]
      rw [sg_255_47 (by omega)]
      simp (disch := omega) only [shM h2.1, ↓reduceIte, not_false_eq_true, not_true_eq_false, and_self, and_true, true_and, reduceCtorEq, mm_q, Option.getD_some, cI_some, cJ_some, cV_some, cS_some, Nat.reduceLeDiff, Nat.reduceEqDiff, M211 h2 hI, iI_lt, z4, bI_t, bI_f, decide_true, decide_false, Bool.and_true, Bool.and_false, Bool.true_and, Bool.false_and, Bool.false_eq_true, Bool.and_self, Bool.not_true, Bool.not_false]
      rw [sg_255_64]
      simp (disch := omega) only [↓reduceIte, not_false_eq_true, not_true_eq_false, and_self, and_true, true_and, false_and, and_false, or_true, true_or, or_false, false_or, or_self, reduceCtorEq, mm_q, Option.getD_some, cI_some, cJ_some, cV_some, cS_some, kd_sI, kd_sL, kd_sR, kd_cp, ln_sI, ln_sL, ln_sR, ln_cp, gR_sI, gR_sL, gR_sR, gR_cp, gL_sI, gL_sR, gL_cp, gI_sL, gI_sR, iI_add, iI_sub, iI_mul, iI_neg, iI_in, iI_tn, iI_lt, iI_eq, Nat.reduceLeDiff, Nat.reduceEqDiff, Nat.reduceAdd, Int.reduceEq, Int.reduceLT, Int.reduceLE, Int.reduceNeg, Int.reduceAdd, Int.reduceSub, Int.reduceMul, sg_255_99]
    · rw [z2] at q2
      have z4 : 0 < sightS D w b := q2.mpr rfl
      simp (disch := omega) only [z3, ↓reduceIte, not_false_eq_true, not_true_eq_false, and_self, and_true, true_and, reduceCtorEq, mm_q, Option.getD_some, cI_some, cJ_some, cV_some, cS_some, Nat.reduceLeDiff, Nat.reduceEqDiff]
      rw [sg_255_47 (by omega)]
      simp (disch := omega) only [shM h2.1, ↓reduceIte, not_false_eq_true, not_true_eq_false, and_self, and_true, true_and, reduceCtorEq, mm_q, Option.getD_some, cI_some, cJ_some, cV_some, cS_some, Nat.reduceLeDiff, Nat.reduceEqDiff, M211 h2 hI, iI_lt, z4, bI_t, bI_f, decide_true, decide_false, Bool.and_true, Bool.and_false, Bool.true_and, Bool.false_and, Bool.false_eq_true, Bool.and_self, Bool.not_true, Bool.not_false]
      rw [sg_255_64]
      simp (disch := omega) only [shM h2.1, ↓reduceIte, not_false_eq_true, not_true_eq_false, and_self, and_true, true_and, false_and, and_false, or_true, true_or, or_false, false_or, or_self, reduceCtorEq, mm_q, Option.getD_some, cI_some, cJ_some, cV_some, cS_some, kd_sI, kd_sL, kd_sR, kd_cp, ln_sI, ln_sL, ln_sR, ln_cp, gR_sI, gR_sL, gR_sR, gR_cp, gL_sI, gL_sR, gL_cp, gI_sL, gI_sR, iI_add, iI_sub, iI_mul, iI_neg, iI_in, iI_tn, iI_lt, iI_eq, Nat.reduceLeDiff, Nat.reduceEqDiff, Nat.reduceAdd, Int.reduceEq, Int.reduceLT, Int.reduceLE, Int.reduceNeg, Int.reduceAdd, Int.reduceSub, Int.reduceMul, sg_255_99, sg_255_109, MD_st h2]
  · have z3 : 0 < sightS D w a := q1.mpr z1
    cases z2 : framedS D b
    · rw [z2] at q2
      have z4 : ¬ 0 < sightS D w b := by simp at q2; omega
      simp (disch := omega) only [z3, ↓reduceIte, not_false_eq_true, not_true_eq_false, and_self, and_true, true_and, reduceCtorEq, mm_q, Option.getD_some, cI_some, cJ_some, cV_some, cS_some, Nat.reduceLeDiff, Nat.reduceEqDiff]
      rw [sg_255_47 (by omega)]
      simp (disch := omega) only [shM h2.1, ↓reduceIte, not_false_eq_true, not_true_eq_false, and_self, and_true, true_and, reduceCtorEq, mm_q, Option.getD_some, cI_some, cJ_some, cV_some, cS_some, Nat.reduceLeDiff, Nat.reduceEqDiff, M211 h2 hI, iI_lt, z4, bI_t, bI_f, decide_true, decide_false, Bool.and_true, Bool.and_false, Bool.true_and, Bool.false_and, Bool.false_eq_true, Bool.and_self, Bool.not_true, Bool.not_false]
      rw [sg_255_64]
      simp (disch := omega) only [shM h2.1, ↓reduceIte, not_false_eq_true, not_true_eq_false, and_self, and_true, true_and, false_and, and_false, or_true, true_or, or_false, false_or, or_self, reduceCtorEq, mm_q, Option.getD_some, cI_some, cJ_some, cV_some, cS_some, kd_sI, kd_sL, kd_sR, kd_cp, ln_sI, ln_sL, ln_sR, ln_cp, gR_sI, gR_sL, gR_sR, gR_cp, gL_sI, gL_sR, gL_cp, gI_sL, gI_sR, iI_add, iI_sub, iI_mul, iI_neg, iI_in, iI_tn, iI_lt, iI_eq, Nat.reduceLeDiff, Nat.reduceEqDiff, Nat.reduceAdd, Int.reduceEq, Int.reduceLT, Int.reduceLE, Int.reduceNeg, Int.reduceAdd, Int.reduceSub, Int.reduceMul, sg_255_99, sg_255_109, MD_st h2]
    · have z4 : 0 < sightS D w b := q2.mpr z2
      simp (disch := omega) only [z3, ↓reduceIte, not_false_eq_true, not_true_eq_false, and_self, and_true, true_and, reduceCtorEq, mm_q, Option.getD_some, cI_some, cJ_some, cV_some, cS_some, Nat.reduceLeDiff, Nat.reduceEqDiff]
      rw [sg_255_47 (by omega)]
      simp (disch := omega) only [shM h2.1, ↓reduceIte, not_false_eq_true, not_true_eq_false, and_self, and_true, true_and, reduceCtorEq, mm_q, Option.getD_some, cI_some, cJ_some, cV_some, cS_some, Nat.reduceLeDiff, Nat.reduceEqDiff, M211 h2 hI, iI_lt, z4, bI_t, bI_f, decide_true, decide_false, Bool.and_true, Bool.and_false, Bool.true_and, Bool.false_and, Bool.false_eq_true, Bool.and_self, Bool.not_true, Bool.not_false]
      rw [sg_255_64]
      by_cases z5 : a - b < 0
      · simp (disch := omega) only [↓reduceIte, not_false_eq_true, not_true_eq_false, and_self, and_true, true_and, false_and, and_false, or_true, true_or, or_false, false_or, or_self, reduceCtorEq, mm_q, Option.getD_some, cI_some, cJ_some, cV_some, cS_some, kd_sI, kd_sL, kd_sR, kd_cp, ln_sI, ln_sL, ln_sR, ln_cp, gR_sI, gR_sL, gR_sR, gR_cp, gL_sI, gL_sR, gL_cp, gI_sL, gI_sR, iI_add, iI_sub, iI_mul, iI_neg, iI_in, iI_tn, iI_lt, iI_eq, Nat.reduceLeDiff, Nat.reduceEqDiff, Nat.reduceAdd, Int.reduceEq, Int.reduceLT, Int.reduceLE, Int.reduceNeg, Int.reduceAdd, Int.reduceSub, Int.reduceMul, z5]
      · simp (disch := omega) only [↓reduceIte, not_false_eq_true, not_true_eq_false, and_self, and_true, true_and, false_and, and_false, or_true, true_or, or_false, false_or, or_self, reduceCtorEq, mm_q, Option.getD_some, cI_some, cJ_some, cV_some, cS_some, kd_sI, kd_sL, kd_sR, kd_cp, ln_sI, ln_sL, ln_sR, ln_cp, gR_sI, gR_sL, gR_sR, gR_cp, gL_sI, gL_sR, gL_cp, gI_sL, gI_sR, iI_add, iI_sub, iI_mul, iI_neg, iI_in, iI_tn, iI_lt, iI_eq, Nat.reduceLeDiff, Nat.reduceEqDiff, Nat.reduceAdd, Int.reduceEq, Int.reduceLT, Int.reduceLE, Int.reduceNeg, Int.reduceAdd, Int.reduceSub, Int.reduceMul, z5]
theorem sumGo_r (f : Int → Int) (c : Int) (c0 : 0 ≤ c) : ∀ (k : Nat) (w n : Int), (∀ x, w ≤ x → x < w + k → 0 ≤ f x ∧ f x ≤ c) → n ≤ sumGo f k w n ∧ sumGo f k w n ≤ n + c * k
  | 0, _, n, _ => by
    unfold sumGo
    simp
  | k + 1, w, n, h => by
    unfold sumGo
    have h1 := sumGo_r f c c0 k (w + 1) (n + f w) (fun x x0 x1 => h x (by omega) (by omega))
    have h2 := h w (by omega) (by omega)
    have h3 : c * ((k + 1 : Nat) : Int) = c * k + c := by
      rw [Int.natCast_add, Int.mul_add]; simp
    omega
theorem allJ_r (hI : InvS D) (hIB : InvB D (sa D)) {ta s tb t : Int} : 0 ≤ allJ D ta s tb t ∧ allJ D ta s tb t ≤ 400 := by
  obtain ⟨k0, k1⟩ := hI.2.2.2.2.2.1
  have := sumGo_r (fun w => jumpS D w ta s tb t) 41 (by omega) (st D 6).toNat 0 0 (fun x x0 x1 => jumpS_r hI hIB x0 (by omega))
  unfold allJ
  omega
/-- allJumps' loop -/
theorem M254L (hI : InvS D) (hL : InvL D) (hIB : InvB D (sa D)) (hd : 7 ≤ d) {ta s tb t : Int} (s0 : 0 ≤ s) (s1 : s < st D 5) (t0 : 0 ≤ t) (t1 : t < st D 5) : ∀ (k : Nat) (w n : Int) (m : mm_M), w = st D 6 - k → 0 ≤ w → MD D E m → ∃ m', mm_ev d 254 6 [some (.ref 316), some (.int (iI (ta))), some (.int (iI (s))), some (.int (iI (tb))), some (.int (iI (t))), some (.int (iI (n))), some (.int (iI (w)))] [] m = some (some (some (.int (iI (sumGo (fun w => jumpS D w ta s tb t) k w n)))), m') ∧ Fr scL m m'
  | 0, w, n, m, he, w0, h => by
    obtain ⟨k0, k1⟩ := hI.2.2.2.2.2.1
    refine ⟨m, ?_, Fr.rf⟩
    unfold sumGo
    rw [sg_254_6 (by omega)]
    simp (disch := omega) only [shM h.1, ↓reduceIte, not_false_eq_true, not_true_eq_false, and_self, and_true, true_and, reduceCtorEq, mm_q, Option.getD_some, cI_some, cJ_some, cV_some, cS_some, Nat.reduceLeDiff, Nat.reduceEqDiff, M201 h]
    rw [sg_254_12 (by omega)]
    simp (disch := omega) only [↓reduceIte, not_false_eq_true, not_true_eq_false, and_self, and_true, true_and, false_and, and_false, or_true, true_or, or_false, false_or, or_self, reduceCtorEq, mm_q, Option.getD_some, cI_some, cJ_some, cV_some, cS_some, kd_sI, kd_sL, kd_sR, kd_cp, ln_sI, ln_sL, ln_sR, ln_cp, gR_sI, gR_sL, gR_sR, gR_cp, gL_sI, gL_sR, gL_cp, gI_sL, gI_sR, iI_add, iI_sub, iI_mul, iI_neg, iI_in, iI_tn, iI_lt, iI_eq, Nat.reduceLeDiff, Nat.reduceEqDiff, Nat.reduceAdd, Int.reduceEq, Int.reduceLT, Int.reduceLE, Int.reduceNeg, Int.reduceAdd, Int.reduceSub, Int.reduceMul, show ¬ w < st D 6 by omega]
  | k + 1, w, n, m, he, w0, h => by
    obtain ⟨k0, k1⟩ := hI.2.2.2.2.2.1
    have w1 : w < st D 6 := by omega
    obtain ⟨m1, e1, f1⟩ := M255 (d := d - 1) h hI hL hIB (by omega) (ta := ta) (tb := tb) w0 w1 s0 s1 t0 t1
    obtain ⟨m', e2, f2⟩ := M254L hI hL hIB hd (ta := ta) (tb := tb) s0 s1 t0 t1 k (w + 1) (n + jumpS D w ta s tb t) m1 (by omega) (by omega) (h.frL f1)
    refine ⟨m', ?_, f1.tr f2⟩
    unfold sumGo
    rw [sg_254_6 (by omega)]
    simp (disch := omega) only [shM h.1, ↓reduceIte, not_false_eq_true, not_true_eq_false, and_self, and_true, true_and, reduceCtorEq, mm_q, Option.getD_some, cI_some, cJ_some, cV_some, cS_some, Nat.reduceLeDiff, Nat.reduceEqDiff, M201 h]
    rw [sg_254_12 (by omega)]
    simp (disch := omega) only [shM h.1, ↓reduceIte, not_false_eq_true, not_true_eq_false, and_self, and_true, true_and, false_and, and_false, or_true, true_or, or_false, false_or, or_self, reduceCtorEq, mm_q, Option.getD_some, cI_some, cJ_some, cV_some, cS_some, kd_sI, kd_sL, kd_sR, kd_cp, ln_sI, ln_sL, ln_sR, ln_cp, gR_sI, gR_sL, gR_sR, gR_cp, gL_sI, gL_sR, gL_cp, gI_sL, gI_sR, iI_add, iI_sub, iI_mul, iI_neg, iI_in, iI_tn, iI_lt, iI_eq, Nat.reduceLeDiff, Nat.reduceEqDiff, Nat.reduceAdd, Int.reduceEq, Int.reduceLT, Int.reduceLE, Int.reduceNeg, Int.reduceAdd, Int.reduceSub, Int.reduceMul, w1, e1]
    exact e2
theorem M254 (h : MD D E m) (hI : InvS D) (hL : InvL D) (hIB : InvB D (sa D)) (hd : 7 ≤ d) {ta s tb t : Int} (s0 : 0 ≤ s) (s1 : s < st D 5) (t0 : 0 ≤ t) (t1 : t < st D 5) : ∃ m', mm_ev d 254 0 [some (.ref 316), some (.int (iI (ta))), some (.int (iI (s))), some (.int (iI (tb))), some (.int (iI (t))), none, none] [] m = some (some (some (.int (iI (allJ D ta s tb t)))), m') ∧ Fr scL m m' := by
  obtain ⟨k0, k1⟩ := hI.2.2.2.2.2.1
  obtain ⟨m', e2, f2⟩ := M254L hI hL hIB hd (ta := ta) (tb := tb) s0 s1 t0 t1 (st D 6).toNat 0 0 m (by omega) (by omega) h
  exact ⟨m', by rw [sg_254_0]; exact e2, f2⟩
/-- jump -/
theorem M253 (h : MD D E m) (hI : InvS D) (hL : InvL D) (hIB : InvB D (sa D)) (hd : 8 ≤ d) {w ta s tb t : Int} (w_0 : -2147483648 ≤ w) (w_1 : w < 2147483648) (ta_0 : -2147483648 ≤ ta) (ta_1 : ta < 2147483648) (s_0 : -2147483648 ≤ s) (s_1 : s < 2147483648) (tb_0 : -2147483648 ≤ tb) (tb_1 : tb < 2147483648) (t_0 : -2147483648 ≤ t) (t_1 : t < 2147483648) : ∃ m', mm_ev d 253 0 [some (.ref 316), some (.int (iI (w))), some (.int (iI (ta))), some (.int (iI (s))), some (.int (iI (tb))), some (.int (iI (t))), none] [] m = some (some (some (.int (iI (jumpQ D w ta s tb t)))), m') ∧ Fr scM m m' := by
  have h1 := h.fr thr0
  rw [sg_253_0 (by omega)]
  simp (disch := omega) only [shM h.1, ↓reduceIte, not_false_eq_true, not_true_eq_false, and_self, and_true, true_and, reduceCtorEq, mm_q, Option.getD_some, cI_some, cJ_some, cV_some, cS_some, Nat.reduceLeDiff, Nat.reduceEqDiff]
  have bad : mayJ D w ta s tb t = false → mm_ev d 253 60 [some (.ref 316), some (.int (iI (w))), some (.int (iI (ta))), some (.int (iI (s))), some (.int (iI (tb))), some (.int (iI (t))), none] [] (mm_sI m 316 0 (iI 0)) = some (some (some (.int (iI (jumpQ D w ta s tb t)))), mm_sI m 316 0 (iI 0)) := by
    intro z
    rw [sg_253_60, sg_253_61 (by omega)]
    unfold jumpQ
    simp (disch := omega) only [↓reduceIte, not_false_eq_true, not_true_eq_false, and_self, and_true, true_and, false_and, and_false, or_true, true_or, or_false, false_or, or_self, reduceCtorEq, mm_q, Option.getD_some, cI_some, cJ_some, cV_some, cS_some, kd_sI, kd_sL, kd_sR, kd_cp, ln_sI, ln_sL, ln_sR, ln_cp, gR_sI, gR_sL, gR_sR, gR_cp, gL_sI, gL_sR, gL_cp, gI_sL, gI_sR, iI_add, iI_sub, iI_mul, iI_neg, iI_in, iI_tn, iI_lt, iI_eq, Nat.reduceLeDiff, Nat.reduceEqDiff, Nat.reduceAdd, Int.reduceEq, Int.reduceLT, Int.reduceLE, Int.reduceNeg, Int.reduceAdd, Int.reduceSub, Int.reduceMul, z, bI_t, bI_f, decide_true, decide_false, Bool.and_true, Bool.and_false, Bool.true_and, Bool.false_and, Bool.false_eq_true, Bool.and_self, Bool.not_true, Bool.not_false]
  have good : (w = -1 ∨ isWk D w = true) → ∃ m', mm_ev d 253 18 [some (.ref 316), some (.int (iI (w))), some (.int (iI (ta))), some (.int (iI (s))), some (.int (iI (tb))), some (.int (iI (t))), none] [] (mm_sI m 316 0 (iI 0)) = some (some (some (.int (iI (jumpQ D w ta s tb t)))), m') ∧ Fr scM m m' := by
    intro z
    have zz : (decide (w = -1) || isWk D w) = true := by simpa using z
    rw [sg_253_18 (by omega)]
    simp (disch := omega) only [↓reduceIte, not_false_eq_true, not_true_eq_false, and_self, and_true, true_and, reduceCtorEq, mm_q, Option.getD_some, cI_some, cJ_some, cV_some, cS_some, Nat.reduceLeDiff, Nat.reduceEqDiff, M188']
    rw [sg_253_25 (by omega)]
    cases z1 : inB ta 0 60
    · exact ⟨_, by simp (disch := omega) only [↓reduceIte, not_false_eq_true, not_true_eq_false, and_self, and_true, true_and, false_and, and_false, or_true, true_or, or_false, false_or, or_self, reduceCtorEq, mm_q, Option.getD_some, cI_some, cJ_some, cV_some, cS_some, kd_sI, kd_sL, kd_sR, kd_cp, ln_sI, ln_sL, ln_sR, ln_cp, gR_sI, gR_sL, gR_sR, gR_cp, gL_sI, gL_sR, gL_cp, gI_sL, gI_sR, iI_add, iI_sub, iI_mul, iI_neg, iI_in, iI_tn, iI_lt, iI_eq, Nat.reduceLeDiff, Nat.reduceEqDiff, Nat.reduceAdd, Int.reduceEq, Int.reduceLT, Int.reduceLE, Int.reduceNeg, Int.reduceAdd, Int.reduceSub, Int.reduceMul, bI_t, bI_f, decide_true, decide_false, Bool.and_true, Bool.and_false, Bool.true_and, Bool.false_and, Bool.false_eq_true, Bool.and_self, Bool.not_true, Bool.not_false, bad (show mayJ D w ta s tb t = false by unfold mayJ; simp [z1])], thr0⟩
    · simp (disch := omega) only [↓reduceIte, not_false_eq_true, not_true_eq_false, and_self, and_true, true_and, false_and, and_false, or_true, true_or, or_false, false_or, or_self, reduceCtorEq, mm_q, Option.getD_some, cI_some, cJ_some, cV_some, cS_some, kd_sI, kd_sL, kd_sR, kd_cp, ln_sI, ln_sL, ln_sR, ln_cp, gR_sI, gR_sL, gR_sR, gR_cp, gL_sI, gL_sR, gL_cp, gI_sL, gI_sR, iI_add, iI_sub, iI_mul, iI_neg, iI_in, iI_tn, iI_lt, iI_eq, Nat.reduceLeDiff, Nat.reduceEqDiff, Nat.reduceAdd, Int.reduceEq, Int.reduceLT, Int.reduceLE, Int.reduceNeg, Int.reduceAdd, Int.reduceSub, Int.reduceMul, bI_t, bI_f, decide_true, decide_false, Bool.and_true, Bool.and_false, Bool.true_and, Bool.false_and, Bool.false_eq_true, Bool.and_self, Bool.not_true, Bool.not_false, M188']
      rw [sg_253_36 (by omega)]
      cases z2 : inB tb 0 60
      · exact ⟨_, by simp (disch := omega) only [↓reduceIte, not_false_eq_true, not_true_eq_false, and_self, and_true, true_and, false_and, and_false, or_true, true_or, or_false, false_or, or_self, reduceCtorEq, mm_q, Option.getD_some, cI_some, cJ_some, cV_some, cS_some, kd_sI, kd_sL, kd_sR, kd_cp, ln_sI, ln_sL, ln_sR, ln_cp, gR_sI, gR_sL, gR_sR, gR_cp, gL_sI, gL_sR, gL_cp, gI_sL, gI_sR, iI_add, iI_sub, iI_mul, iI_neg, iI_in, iI_tn, iI_lt, iI_eq, Nat.reduceLeDiff, Nat.reduceEqDiff, Nat.reduceAdd, Int.reduceEq, Int.reduceLT, Int.reduceLE, Int.reduceNeg, Int.reduceAdd, Int.reduceSub, Int.reduceMul, bI_t, bI_f, decide_true, decide_false, Bool.and_true, Bool.and_false, Bool.true_and, Bool.false_and, Bool.false_eq_true, Bool.and_self, Bool.not_true, Bool.not_false, bad (show mayJ D w ta s tb t = false by unfold mayJ; simp [z2])], thr0⟩
      · simp (disch := omega) only [shM h1.1, ↓reduceIte, not_false_eq_true, not_true_eq_false, and_self, and_true, true_and, false_and, and_false, or_true, true_or, or_false, false_or, or_self, reduceCtorEq, mm_q, Option.getD_some, cI_some, cJ_some, cV_some, cS_some, kd_sI, kd_sL, kd_sR, kd_cp, ln_sI, ln_sL, ln_sR, ln_cp, gR_sI, gR_sL, gR_sR, gR_cp, gL_sI, gL_sR, gL_cp, gI_sL, gI_sR, iI_add, iI_sub, iI_mul, iI_neg, iI_in, iI_tn, iI_lt, iI_eq, Nat.reduceLeDiff, Nat.reduceEqDiff, Nat.reduceAdd, Int.reduceEq, Int.reduceLT, Int.reduceLE, Int.reduceNeg, Int.reduceAdd, Int.reduceSub, Int.reduceMul, bI_t, bI_f, decide_true, decide_false, Bool.and_true, Bool.and_false, Bool.true_and, Bool.false_and, Bool.false_eq_true, Bool.and_self, Bool.not_true, Bool.not_false, M215' h1 hI]
        rw [sg_253_44 (by omega)]
        cases z3 : isWd D s
        · exact ⟨_, by simp (disch := omega) only [↓reduceIte, not_false_eq_true, not_true_eq_false, and_self, and_true, true_and, false_and, and_false, or_true, true_or, or_false, false_or, or_self, reduceCtorEq, mm_q, Option.getD_some, cI_some, cJ_some, cV_some, cS_some, kd_sI, kd_sL, kd_sR, kd_cp, ln_sI, ln_sL, ln_sR, ln_cp, gR_sI, gR_sL, gR_sR, gR_cp, gL_sI, gL_sR, gL_cp, gI_sL, gI_sR, iI_add, iI_sub, iI_mul, iI_neg, iI_in, iI_tn, iI_lt, iI_eq, Nat.reduceLeDiff, Nat.reduceEqDiff, Nat.reduceAdd, Int.reduceEq, Int.reduceLT, Int.reduceLE, Int.reduceNeg, Int.reduceAdd, Int.reduceSub, Int.reduceMul, bI_t, bI_f, decide_true, decide_false, Bool.and_true, Bool.and_false, Bool.true_and, Bool.false_and, Bool.false_eq_true, Bool.and_self, Bool.not_true, Bool.not_false, bad (show mayJ D w ta s tb t = false by unfold mayJ; simp [z3])], thr0⟩
        · simp (disch := omega) only [shM h1.1, ↓reduceIte, not_false_eq_true, not_true_eq_false, and_self, and_true, true_and, false_and, and_false, or_true, true_or, or_false, false_or, or_self, reduceCtorEq, mm_q, Option.getD_some, cI_some, cJ_some, cV_some, cS_some, kd_sI, kd_sL, kd_sR, kd_cp, ln_sI, ln_sL, ln_sR, ln_cp, gR_sI, gR_sL, gR_sR, gR_cp, gL_sI, gL_sR, gL_cp, gI_sL, gI_sR, iI_add, iI_sub, iI_mul, iI_neg, iI_in, iI_tn, iI_lt, iI_eq, Nat.reduceLeDiff, Nat.reduceEqDiff, Nat.reduceAdd, Int.reduceEq, Int.reduceLT, Int.reduceLE, Int.reduceNeg, Int.reduceAdd, Int.reduceSub, Int.reduceMul, bI_t, bI_f, decide_true, decide_false, Bool.and_true, Bool.and_false, Bool.true_and, Bool.false_and, Bool.false_eq_true, Bool.and_self, Bool.not_true, Bool.not_false, M215' h1 hI]
          cases z4 : isWd D t
          · exact ⟨_, by simp (disch := omega) only [↓reduceIte, not_false_eq_true, not_true_eq_false, and_self, and_true, true_and, false_and, and_false, or_true, true_or, or_false, false_or, or_self, reduceCtorEq, mm_q, Option.getD_some, cI_some, cJ_some, cV_some, cS_some, kd_sI, kd_sL, kd_sR, kd_cp, ln_sI, ln_sL, ln_sR, ln_cp, gR_sI, gR_sL, gR_sR, gR_cp, gL_sI, gL_sR, gL_cp, gI_sL, gI_sR, iI_add, iI_sub, iI_mul, iI_neg, iI_in, iI_tn, iI_lt, iI_eq, Nat.reduceLeDiff, Nat.reduceEqDiff, Nat.reduceAdd, Int.reduceEq, Int.reduceLT, Int.reduceLE, Int.reduceNeg, Int.reduceAdd, Int.reduceSub, Int.reduceMul, bI_t, bI_f, decide_true, decide_false, Bool.and_true, Bool.and_false, Bool.true_and, Bool.false_and, Bool.false_eq_true, Bool.and_self, Bool.not_true, Bool.not_false, bad (show mayJ D w ta s tb t = false by unfold mayJ; simp [z4])], thr0⟩
          · have ok : mayJ D w ta s tb t = true := by unfold mayJ; rw [zz, z1, z2, z3, z4]; rfl
            obtain ⟨a0, a1⟩ := isWd_t.mp z3
            obtain ⟨b0, b1⟩ := isWd_t.mp z4
            simp (disch := omega) only [↓reduceIte, not_false_eq_true, not_true_eq_false, and_self, and_true, true_and, false_and, and_false, or_true, true_or, or_false, false_or, or_self, reduceCtorEq, mm_q, Option.getD_some, cI_some, cJ_some, cV_some, cS_some, kd_sI, kd_sL, kd_sR, kd_cp, ln_sI, ln_sL, ln_sR, ln_cp, gR_sI, gR_sL, gR_sR, gR_cp, gL_sI, gL_sR, gL_cp, gI_sL, gI_sR, iI_add, iI_sub, iI_mul, iI_neg, iI_in, iI_tn, iI_lt, iI_eq, Nat.reduceLeDiff, Nat.reduceEqDiff, Nat.reduceAdd, Int.reduceEq, Int.reduceLT, Int.reduceLE, Int.reduceNeg, Int.reduceAdd, Int.reduceSub, Int.reduceMul, bI_t, bI_f, decide_true, decide_false, Bool.and_true, Bool.and_false, Bool.true_and, Bool.false_and, Bool.false_eq_true, Bool.and_self, Bool.not_true, Bool.not_false]
            rw [sg_253_61 (by omega)]
            unfold jumpQ
            by_cases z5 : w < 0
            · obtain ⟨m', e1, f1⟩ := M254 (d := d - 1) h1 hI hL hIB (by omega) (ta := ta) (tb := tb) a0 a1 b0 b1
              refine ⟨m', ?_, thr0.tr f1.LM⟩
              simp (disch := omega) only [shM h1.1, ↓reduceIte, not_false_eq_true, not_true_eq_false, and_self, and_true, true_and, false_and, and_false, or_true, true_or, or_false, false_or, or_self, reduceCtorEq, mm_q, Option.getD_some, cI_some, cJ_some, cV_some, cS_some, kd_sI, kd_sL, kd_sR, kd_cp, ln_sI, ln_sL, ln_sR, ln_cp, gR_sI, gR_sL, gR_sR, gR_cp, gL_sI, gL_sR, gL_cp, gI_sL, gI_sR, iI_add, iI_sub, iI_mul, iI_neg, iI_in, iI_tn, iI_lt, iI_eq, Nat.reduceLeDiff, Nat.reduceEqDiff, Nat.reduceAdd, Int.reduceEq, Int.reduceLT, Int.reduceLE, Int.reduceNeg, Int.reduceAdd, Int.reduceSub, Int.reduceMul, ok, z5, e1]
            · have z6 : 0 ≤ w ∧ w < st D 6 := by
                rcases z with z | z
                · omega
                · exact isWk_t.mp z
              obtain ⟨m', e1, f1⟩ := M255 (d := d - 1) h1 hI hL hIB (by omega) (ta := ta) (tb := tb) z6.1 z6.2 a0 a1 b0 b1
              refine ⟨m', ?_, thr0.tr f1.LM⟩
              simp (disch := omega) only [shM h1.1, ↓reduceIte, not_false_eq_true, not_true_eq_false, and_self, and_true, true_and, false_and, and_false, or_true, true_or, or_false, false_or, or_self, reduceCtorEq, mm_q, Option.getD_some, cI_some, cJ_some, cV_some, cS_some, kd_sI, kd_sL, kd_sR, kd_cp, ln_sI, ln_sL, ln_sR, ln_cp, gR_sI, gR_sL, gR_sR, gR_cp, gL_sI, gL_sR, gL_cp, gI_sL, gI_sR, iI_add, iI_sub, iI_mul, iI_neg, iI_in, iI_tn, iI_lt, iI_eq, Nat.reduceLeDiff, Nat.reduceEqDiff, Nat.reduceAdd, Int.reduceEq, Int.reduceLT, Int.reduceLE, Int.reduceNeg, Int.reduceAdd, Int.reduceSub, Int.reduceMul, ok, z5, e1]
  by_cases z : w = -1
  · obtain ⟨m', e1, f1⟩ := good (Or.inl z)
    refine ⟨m', ?_, f1⟩
    rw [if_pos (by rw [z])]
    exact e1
  · cases z1 : isWk D w
    · refine ⟨_, ?_, thr0⟩
      simp (disch := omega) only [shM h1.1, ↓reduceIte, not_false_eq_true, not_true_eq_false, and_self, and_true, true_and, false_and, and_false, or_true, true_or, or_false, false_or, or_self, reduceCtorEq, mm_q, Option.getD_some, cI_some, cJ_some, cV_some, cS_some, kd_sI, kd_sL, kd_sR, kd_cp, ln_sI, ln_sL, ln_sR, ln_cp, gR_sI, gR_sL, gR_sR, gR_cp, gL_sI, gL_sR, gL_cp, gI_sL, gI_sR, iI_add, iI_sub, iI_mul, iI_neg, iI_in, iI_tn, iI_lt, iI_eq, Nat.reduceLeDiff, Nat.reduceEqDiff, Nat.reduceAdd, Int.reduceEq, Int.reduceLT, Int.reduceLE, Int.reduceNeg, Int.reduceAdd, Int.reduceSub, Int.reduceMul, z, M200' h1 hI, z1, bI_t, bI_f, decide_true, decide_false, Bool.and_true, Bool.and_false, Bool.true_and, Bool.false_and, Bool.false_eq_true, Bool.and_self, Bool.not_true, Bool.not_false]
      exact bad (by unfold mayJ; simp [z, z1])
    · obtain ⟨m', e1, f1⟩ := good (Or.inr z1)
      refine ⟨m', ?_, f1⟩
      simp (disch := omega) only [shM h1.1, ↓reduceIte, not_false_eq_true, not_true_eq_false, and_self, and_true, true_and, false_and, and_false, or_true, true_or, or_false, false_or, or_self, reduceCtorEq, mm_q, Option.getD_some, cI_some, cJ_some, cV_some, cS_some, kd_sI, kd_sL, kd_sR, kd_cp, ln_sI, ln_sL, ln_sR, ln_cp, gR_sI, gR_sL, gR_sR, gR_cp, gL_sI, gL_sR, gL_cp, gI_sL, gI_sR, iI_add, iI_sub, iI_mul, iI_neg, iI_in, iI_tn, iI_lt, iI_eq, Nat.reduceLeDiff, Nat.reduceEqDiff, Nat.reduceAdd, Int.reduceEq, Int.reduceLT, Int.reduceLE, Int.reduceNeg, Int.reduceAdd, Int.reduceSub, Int.reduceMul, z, M200' h1 hI, z1, bI_t, bI_f, decide_true, decide_false, Bool.and_true, Bool.and_false, Bool.true_and, Bool.false_and, Bool.false_eq_true, Bool.and_self, Bool.not_true, Bool.not_false]
      exact e1
/-- best's inner loop -/
theorem M256I (hI : InvS D) (hL : InvL D) (hIB : InvB D (sa D)) (hd : 8 ≤ d) {s what a : Int} (s0 : 0 ≤ s) (s1 : s < st D 5) (a0 : 0 ≤ a) (a1 : a < 12) : ∀ (k : Nat) (b : Int) (x : Int × Int × Int) (z : Option Value) (m : mm_M), b = 12 - k → 0 ≤ b → -1 ≤ x.1 → x.1 ≤ 1000 → MD D E m → ∃ m' z', mm_ev d 256 48 [some (.ref 316), some (.int (iI (s))), some (.int (iI (what))), some (.int (iI (x.1))), some (.int (iI (x.2.1))), some (.int (iI (x.2.2))), some (.int (iI (a))), some (.int (iI (b))), z] [] m = mm_ev d 256 35 [some (.ref 316), some (.int (iI (s))), some (.int (iI (what))), some (.int (iI ((bestI (fun a b => allJ D a s b s) a k b x).1))), some (.int (iI ((bestI (fun a b => allJ D a s b s) a k b x).2.1))), some (.int (iI ((bestI (fun a b => allJ D a s b s) a k b x).2.2))), some (.int (iI (a + 1))), some (.int (iI (12))), z'] [] m' ∧ Fr scL m m' ∧ -1 ≤ (bestI (fun a b => allJ D a s b s) a k b x).1 ∧ (bestI (fun a b => allJ D a s b s) a k b x).1 ≤ 1000
  | 0, b, x, z, m, he, b0, x0, x1, h => by
    refine ⟨m, z, ?_, Fr.rf, x0, x1⟩
    rw [sg_256_48 (by omega), show b = 12 by omega]
    unfold bestI
    simp (disch := omega) only [↓reduceIte, not_false_eq_true, not_true_eq_false, and_self, and_true, true_and, false_and, and_false, or_true, true_or, or_false, false_or, or_self, reduceCtorEq, mm_q, Option.getD_some, cI_some, cJ_some, cV_some, cS_some, kd_sI, kd_sL, kd_sR, kd_cp, ln_sI, ln_sL, ln_sR, ln_cp, gR_sI, gR_sL, gR_sR, gR_cp, gL_sI, gL_sR, gL_cp, gI_sL, gI_sR, iI_add, iI_sub, iI_mul, iI_neg, iI_in, iI_tn, iI_lt, iI_eq, Nat.reduceLeDiff, Nat.reduceEqDiff, Nat.reduceAdd, Int.reduceEq, Int.reduceLT, Int.reduceLE, Int.reduceNeg, Int.reduceAdd, Int.reduceSub, Int.reduceMul, Int.lt_irrefl]
  | k + 1, b, x, z, m, he, b0, x0, x1, h => by
    obtain ⟨m1, e1, f1⟩ := M254 (d := d - 1) h hI hL hIB (by omega) (ta := a) (tb := b) s0 s1 s0 s1
    have r := allJ_r hI hIB (ta := a) (s := s) (tb := b) (t := s)
    unfold bestI
    rw [sg_256_48 (by omega)]
    by_cases z1 : x.1 < 0
    · obtain ⟨m', z', e2, f2, y0, y1⟩ := M256I hI hL hIB hd s0 s1 (what := what) a0 a1 k (b + 1) (allJ D a s b s, a, b) (some (.int (iI (allJ D a s b s)))) m1 (by omega) (by omega) (by simp only; omega) (by simp only; omega) (h.frL f1)
      refine ⟨m', z', ?_, f1.tr f2, ?_⟩
      · simp only [z1, if_true]
        rw [← e2]
        simp (disch := omega) only [shM h.1, ↓reduceIte, not_false_eq_true, not_true_eq_false, and_self, and_true, true_and, false_and, and_false, or_true, true_or, or_false, false_or, or_self, reduceCtorEq, mm_q, Option.getD_some, cI_some, cJ_some, cV_some, cS_some, kd_sI, kd_sL, kd_sR, kd_cp, ln_sI, ln_sL, ln_sR, ln_cp, gR_sI, gR_sL, gR_sR, gR_cp, gL_sI, gL_sR, gL_cp, gI_sL, gI_sR, iI_add, iI_sub, iI_mul, iI_neg, iI_in, iI_tn, iI_lt, iI_eq, Nat.reduceLeDiff, Nat.reduceEqDiff, Nat.reduceAdd, Int.reduceEq, Int.reduceLT, Int.reduceLE, Int.reduceNeg, Int.reduceAdd, Int.reduceSub, Int.reduceMul, e1, show b < 12 by omega, z1, sg_256_77, sg_256_88]
      · simp only [z1, if_true]
        exact ⟨y0, y1⟩
    · by_cases z2 : allJ D a s b s < x.1
      · obtain ⟨m', z', e2, f2, y0, y1⟩ := M256I hI hL hIB hd s0 s1 (what := what) a0 a1 k (b + 1) (allJ D a s b s, a, b) (some (.int (iI (allJ D a s b s)))) m1 (by omega) (by omega) (by simp only; omega) (by simp only; omega) (h.frL f1)
        refine ⟨m', z', ?_, f1.tr f2, ?_⟩
        · simp only [z1, z2, if_true, if_false]
          rw [← e2]
          simp (disch := omega) only [shM h.1, ↓reduceIte, not_false_eq_true, not_true_eq_false, and_self, and_true, true_and, false_and, and_false, or_true, true_or, or_false, false_or, or_self, reduceCtorEq, mm_q, Option.getD_some, cI_some, cJ_some, cV_some, cS_some, kd_sI, kd_sL, kd_sR, kd_cp, ln_sI, ln_sL, ln_sR, ln_cp, gR_sI, gR_sL, gR_sR, gR_cp, gL_sI, gL_sR, gL_cp, gI_sL, gI_sR, iI_add, iI_sub, iI_mul, iI_neg, iI_in, iI_tn, iI_lt, iI_eq, Nat.reduceLeDiff, Nat.reduceEqDiff, Nat.reduceAdd, Int.reduceEq, Int.reduceLT, Int.reduceLE, Int.reduceNeg, Int.reduceAdd, Int.reduceSub, Int.reduceMul, e1, show b < 12 by omega, z1, z2, sg_256_77, sg_256_88]
        · simp only [z1, z2, if_true, if_false]
          exact ⟨y0, y1⟩
      · obtain ⟨m', z', e2, f2, y0, y1⟩ := M256I hI hL hIB hd s0 s1 (what := what) a0 a1 k (b + 1) x (some (.int (iI (allJ D a s b s)))) m1 (by omega) (by omega) x0 x1 (h.frL f1)
        refine ⟨m', z', ?_, f1.tr f2, ?_⟩
        · simp only [z1, z2, if_false]
          rw [← e2]
          simp (disch := omega) only [shM h.1, ↓reduceIte, not_false_eq_true, not_true_eq_false, and_self, and_true, true_and, false_and, and_false, or_true, true_or, or_false, false_or, or_self, reduceCtorEq, mm_q, Option.getD_some, cI_some, cJ_some, cV_some, cS_some, kd_sI, kd_sL, kd_sR, kd_cp, ln_sI, ln_sL, ln_sR, ln_cp, gR_sI, gR_sL, gR_sR, gR_cp, gL_sI, gL_sR, gL_cp, gI_sL, gI_sR, iI_add, iI_sub, iI_mul, iI_neg, iI_in, iI_tn, iI_lt, iI_eq, Nat.reduceLeDiff, Nat.reduceEqDiff, Nat.reduceAdd, Int.reduceEq, Int.reduceLT, Int.reduceLE, Int.reduceNeg, Int.reduceAdd, Int.reduceSub, Int.reduceMul, e1, show b < 12 by omega, z1, z2, sg_256_77, sg_256_88]
        · simp only [z1, z2, if_false]
          exact ⟨y0, y1⟩
/-- best's outer loop -/
theorem M256L (hI : InvS D) (hL : InvL D) (hIB : InvB D (sa D)) (hd : 8 ≤ d) {s what : Int} (what_0 : -2147483648 ≤ what) (what_1 : what < 2147483648) (s0 : 0 ≤ s) (s1 : s < st D 5) : ∀ (k : Nat) (a : Int) (x : Int × Int × Int) (z7 z8 : Option Value) (m : mm_M), a = 12 - k → 0 ≤ a → -1 ≤ x.1 → x.1 ≤ 1000 → MD D E m → ∃ m', mm_ev d 256 35 [some (.ref 316), some (.int (iI (s))), some (.int (iI (what))), some (.int (iI (x.1))), some (.int (iI (x.2.1))), some (.int (iI (x.2.2))), some (.int (iI (a))), z7, z8] [] m = some (some (some (.int (iI (pick3 (bestO (fun a b => allJ D a s b s) k a x) what)))), m') ∧ Fr scL m m'
  | 0, a, x, z7, z8, m, he, a0, x0, x1, h => by
    refine ⟨m, ?_, Fr.rf⟩
    rw [sg_256_35]
    unfold bestO pick3
    by_cases z1 : what = 0
    · simp (disch := omega) only [↓reduceIte, not_false_eq_true, not_true_eq_false, and_self, and_true, true_and, false_and, and_false, or_true, true_or, or_false, false_or, or_self, reduceCtorEq, mm_q, Option.getD_some, cI_some, cJ_some, cV_some, cS_some, kd_sI, kd_sL, kd_sR, kd_cp, ln_sI, ln_sL, ln_sR, ln_cp, gR_sI, gR_sL, gR_sR, gR_cp, gL_sI, gL_sR, gL_cp, gI_sL, gI_sR, iI_add, iI_sub, iI_mul, iI_neg, iI_in, iI_tn, iI_lt, iI_eq, Nat.reduceLeDiff, Nat.reduceEqDiff, Nat.reduceAdd, Int.reduceEq, Int.reduceLT, Int.reduceLE, Int.reduceNeg, Int.reduceAdd, Int.reduceSub, Int.reduceMul, show ¬ a < 12 by omega, z1]
    · by_cases z2 : what = 1
      · simp (disch := omega) only [↓reduceIte, not_false_eq_true, not_true_eq_false, and_self, and_true, true_and, false_and, and_false, or_true, true_or, or_false, false_or, or_self, reduceCtorEq, mm_q, Option.getD_some, cI_some, cJ_some, cV_some, cS_some, kd_sI, kd_sL, kd_sR, kd_cp, ln_sI, ln_sL, ln_sR, ln_cp, gR_sI, gR_sL, gR_sR, gR_cp, gL_sI, gL_sR, gL_cp, gI_sL, gI_sR, iI_add, iI_sub, iI_mul, iI_neg, iI_in, iI_tn, iI_lt, iI_eq, Nat.reduceLeDiff, Nat.reduceEqDiff, Nat.reduceAdd, Int.reduceEq, Int.reduceLT, Int.reduceLE, Int.reduceNeg, Int.reduceAdd, Int.reduceSub, Int.reduceMul, show ¬ a < 12 by omega, z2]
      · simp (disch := omega) only [↓reduceIte, not_false_eq_true, not_true_eq_false, and_self, and_true, true_and, false_and, and_false, or_true, true_or, or_false, false_or, or_self, reduceCtorEq, mm_q, Option.getD_some, cI_some, cJ_some, cV_some, cS_some, kd_sI, kd_sL, kd_sR, kd_cp, ln_sI, ln_sL, ln_sR, ln_cp, gR_sI, gR_sL, gR_sR, gR_cp, gL_sI, gL_sR, gL_cp, gI_sL, gI_sR, iI_add, iI_sub, iI_mul, iI_neg, iI_in, iI_tn, iI_lt, iI_eq, Nat.reduceLeDiff, Nat.reduceEqDiff, Nat.reduceAdd, Int.reduceEq, Int.reduceLT, Int.reduceLE, Int.reduceNeg, Int.reduceAdd, Int.reduceSub, Int.reduceMul, show ¬ a < 12 by omega, z1, z2]
  | k + 1, a, x, z7, z8, m, he, a0, x0, x1, h => by
    obtain ⟨m1, z', e1, f1, y0, y1⟩ := M256I hI hL hIB hd s0 s1 (what := what) a0 (by omega) k (a + 1) x z8 m (by omega) (by omega) x0 x1 h
    obtain ⟨m', e2, f2⟩ := M256L hI hL hIB hd what_0 what_1 s0 s1 k (a + 1) (bestI (fun a b => allJ D a s b s) a k (a + 1) x) (some (.int (iI (12)))) z' m1 (by omega) (by omega) y0 y1 (h.frL f1)
    refine ⟨m', ?_, f1.tr f2⟩
    rw [sg_256_35]
    unfold bestO
    rw [← e2, ← e1]
    simp (disch := omega) only [↓reduceIte, not_false_eq_true, not_true_eq_false, and_self, and_true, true_and, false_and, and_false, or_true, true_or, or_false, false_or, or_self, reduceCtorEq, mm_q, Option.getD_some, cI_some, cJ_some, cV_some, cS_some, kd_sI, kd_sL, kd_sR, kd_cp, ln_sI, ln_sL, ln_sR, ln_cp, gR_sI, gR_sL, gR_sR, gR_cp, gL_sI, gL_sR, gL_cp, gI_sL, gI_sR, iI_add, iI_sub, iI_mul, iI_neg, iI_in, iI_tn, iI_lt, iI_eq, Nat.reduceLeDiff, Nat.reduceEqDiff, Nat.reduceAdd, Int.reduceEq, Int.reduceLT, Int.reduceLE, Int.reduceNeg, Int.reduceAdd, Int.reduceSub, Int.reduceMul, show a < 12 by omega]
/-- best -/
theorem M256 (h : MD D E m) (hI : InvS D) (hL : InvL D) (hIB : InvB D (sa D)) (hd : 8 ≤ d) {s what : Int} (s_0 : -2147483648 ≤ s) (s_1 : s < 2147483648) (what_0 : -2147483648 ≤ what) (what_1 : what < 2147483648) : ∃ m', mm_ev d 256 0 [some (.ref 316), some (.int (iI (s))), some (.int (iI (what))), none, none, none, none, none, none] [] m = some (some (some (.int (iI (bestS D s what)))), m') ∧ Fr scM m m' := by
  have h1 := h.fr thr0
  rw [sg_256_0 (by omega)]
  simp (disch := omega) only [shM h.1, ↓reduceIte, not_false_eq_true, not_true_eq_false, and_self, and_true, true_and, reduceCtorEq, mm_q, Option.getD_some, cI_some, cJ_some, cV_some, cS_some, Nat.reduceLeDiff, Nat.reduceEqDiff, kd_sI, M215' h1 hI]
  rw [sg_256_10 (by omega)]
  unfold bestS
  cases z1 : isWd D s
  · exact ⟨_, by simp (disch := omega) only [↓reduceIte, not_false_eq_true, not_true_eq_false, and_self, and_true, true_and, false_and, and_false, or_true, true_or, or_false, false_or, or_self, reduceCtorEq, mm_q, Option.getD_some, cI_some, cJ_some, cV_some, cS_some, kd_sI, kd_sL, kd_sR, kd_cp, ln_sI, ln_sL, ln_sR, ln_cp, gR_sI, gR_sL, gR_sR, gR_cp, gL_sI, gL_sR, gL_cp, gI_sL, gI_sR, iI_add, iI_sub, iI_mul, iI_neg, iI_in, iI_tn, iI_lt, iI_eq, Nat.reduceLeDiff, Nat.reduceEqDiff, Nat.reduceAdd, Int.reduceEq, Int.reduceLT, Int.reduceLE, Int.reduceNeg, Int.reduceAdd, Int.reduceSub, Int.reduceMul, bI_t, bI_f, decide_true, decide_false, Bool.and_true, Bool.and_false, Bool.true_and, Bool.false_and, Bool.false_eq_true, Bool.and_self, Bool.not_true, Bool.not_false], thr0⟩
  · cases z2 : inB what 0 2
    · exact ⟨_, by simp (disch := omega) only [↓reduceIte, not_false_eq_true, not_true_eq_false, and_self, and_true, true_and, false_and, and_false, or_true, true_or, or_false, false_or, or_self, reduceCtorEq, mm_q, Option.getD_some, cI_some, cJ_some, cV_some, cS_some, kd_sI, kd_sL, kd_sR, kd_cp, ln_sI, ln_sL, ln_sR, ln_cp, gR_sI, gR_sL, gR_sR, gR_cp, gL_sI, gL_sR, gL_cp, gI_sL, gI_sR, iI_add, iI_sub, iI_mul, iI_neg, iI_in, iI_tn, iI_lt, iI_eq, Nat.reduceLeDiff, Nat.reduceEqDiff, Nat.reduceAdd, Int.reduceEq, Int.reduceLT, Int.reduceLE, Int.reduceNeg, Int.reduceAdd, Int.reduceSub, Int.reduceMul, bI_t, bI_f, decide_true, decide_false, Bool.and_true, Bool.and_false, Bool.true_and, Bool.false_and, Bool.false_eq_true, Bool.and_self, Bool.not_true, Bool.not_false, M188', z2], thr0⟩
    · obtain ⟨a0, a1⟩ := isWd_t.mp z1
      obtain ⟨m', e1, f1⟩ := M256L hI hL hIB hd what_0 what_1 a0 a1 12 0 (-1, 0, 0) none none _ (by omega) (by omega) (by decide) (by decide) h1
      refine ⟨m', ?_, thr0.tr f1.LM⟩
      simp (disch := omega) only [↓reduceIte, not_false_eq_true, not_true_eq_false, and_self, and_true, true_and, false_and, and_false, or_true, true_or, or_false, false_or, or_self, reduceCtorEq, mm_q, Option.getD_some, cI_some, cJ_some, cV_some, cS_some, kd_sI, kd_sL, kd_sR, kd_cp, ln_sI, ln_sL, ln_sR, ln_cp, gR_sI, gR_sL, gR_sR, gR_cp, gL_sI, gL_sR, gL_cp, gI_sL, gI_sR, iI_add, iI_sub, iI_mul, iI_neg, iI_in, iI_tn, iI_lt, iI_eq, Nat.reduceLeDiff, Nat.reduceEqDiff, Nat.reduceAdd, Int.reduceEq, Int.reduceLT, Int.reduceLE, Int.reduceNeg, Int.reduceAdd, Int.reduceSub, Int.reduceMul, bI_t, bI_f, decide_true, decide_false, Bool.and_true, Bool.and_false, Bool.true_and, Bool.false_and, Bool.false_eq_true, Bool.and_self, Bool.not_true, Bool.not_false, M188', z2]
      exact e1
end
