def clL (q : Int × Int × Int) : Int := if q.1 < 0 then 321 else q.1
section
variable {D : Nat → Nat → Int32}
theorem jumpP_rF (hI : InvS D) {a b : Int} (a0 : -1 ≤ a) (a1 : a < st D 0) (b0 : -1 ≤ b) (b1 : b < st D 0) : 0 ≤ jumpP D a b ∧ jumpP D a b ≤ 40 := by
  obtain ⟨f0, f1, f2⟩ := hI.2.2.1
  obtain ⟨c0, c1⟩ := hI.1
  unfold jumpP
  split
  · split
    · split <;> omega
    · omega
  · split <;> omega
theorem jumpS_rF (hI : InvS D) (hIB : InvB D (sa D)) {w ta s tb t : Int} (w0 : 0 ≤ w) (w1 : w < st D 6) : 0 ≤ jumpS D w ta s tb t ∧ jumpS D w ta s tb t ≤ 40 := by
  have p1 := placeB_r hI hIB (take := ta) (tenth := te D s) (late := false) w0 w1
  have p2 := placeB_r hI hIB (take := tb) (tenth := te D t) (late := false) w0 w1
  exact jumpP_rF hI p1.1 p1.2 p2.1 p2.2
/-- all jumps together stay below the class's bound -/
theorem allJ_rF (hI : InvS D) (hIB : InvB D (sa D)) {ta s tb t : Int} : 0 ≤ allJ D ta s tb t ∧ allJ D ta s tb t ≤ 320 := by
  obtain ⟨k0, k1⟩ := hI.2.2.2.2.2.1
  have := sumGo_r (fun w => jumpS D w ta s tb t) 40 (by omega) (st D 6).toNat 0 0 (fun x x0 x1 => jumpS_rF hI hIB x0 (by omega))
  unfold allJ
  omega
end
section
variable {D : Nat → Nat → Int32} {m m' m'' : mm_M} {d s W L H n : Nat} {B : Int → Int} {take : Int} {late : Bool}
theorem C135a (hI : InvS D) (hL : InvL D) (hIB : InvB D (sa D)) (hd : 8 ≤ d) {x what : Int} {l3 l4 l5 : Int32} (x0 : 0 ≤ x) (x1 : x < st D 5) : ∀ (r : Nat) (k : Int) (m : mm_M), k = 12 - r → 0 ≤ k → RQ D m s → (∀ j, 0 ≤ j → j < k → SHo D m j j x) → ∃ m', mm_ev d 135 32 [some (.ref 100), (some (.int (iI (x)))), (some (.int (iI (what)))), some (.int l3), some (.int l4), some (.int l5), (some (.int (iI (k)))), none, none] [] m = mm_ev d 135 57 [some (.ref 100), (some (.int (iI (x)))), (some (.int (iI (what)))), some (.int l3), some (.int l4), some (.int l5), (some (.int (iI (0)))), none, none] [] m' ∧ FC m m' ∧ (∀ j, 0 ≤ j → j < 12 → SHo D m' j j x)
  | 0, k, m, hk, k0, h, hj => by
    refine ⟨m, ?_, FC.rf, fun j j0 j1 => hj j j0 (by omega)⟩
    rw [sg_135_32 (by omega)]
    simp (disch := omega) only [↓reduceIte, not_false_eq_true, not_true_eq_false, and_self, and_true, true_and, false_and, and_false, or_true, true_or, or_false, false_or, or_self, reduceCtorEq, mm_q, Option.getD_some, cI_some, cJ_some, cV_some, cS_some, kd_sI, kd_sL, kd_sR, kd_cp, ln_sI, ln_sL, ln_sR, ln_cp, gR_sI, gR_sL, gR_sR, gR_cp, gL_sI, gL_sR, gL_cp, gI_sL, gI_sR, iI_add, iI_sub, iI_mul, iI_neg, iI_in, iI_tn, iI_lt, iI_eq, Nat.reduceLeDiff, Nat.reduceEqDiff, Nat.reduceAdd, Int.reduceEq, Int.reduceLT, Int.reduceLE, Int.reduceNeg, Int.reduceAdd, Int.reduceSub, Int.reduceMul, show ¬ k < 12 by omega]
  | r + 1, k, m, hk, k0, h, hj => by
    obtain ⟨q0, q1⟩ := hI.2.2.2.2.2.1
    have xf := shX h.1
    obtain ⟨m1, e1, f1, s1, k1⟩ := C134 (d := d - 1) h hI hL hIB (by omega) (k := k) (ta := k) k0 (by omega) x0 x1
    obtain ⟨m', e2, f2, r2⟩ := C135a hI hL hIB hd (what := what) (l3 := l3) (l4 := l4) (l5 := l5) x0 x1 r (k + 1) m1 (by omega) (by omega) (h.fc f1 q1) (fun j j0 j1 => by
      by_cases y : j = k
      · rw [y]; exact s1
      · exact k1 j j x j0 (by omega) y (hj j j0 (by omega)))
    refine ⟨m', ?_, f1.tr f2, r2⟩
    rw [sg_135_32 (by omega)]
    simp (disch := omega) only [xf, ↓reduceIte, not_false_eq_true, not_true_eq_false, and_self, and_true, true_and, false_and, and_false, or_true, true_or, or_false, false_or, or_self, reduceCtorEq, mm_q, Option.getD_some, cI_some, cJ_some, cV_some, cS_some, kd_sI, kd_sL, kd_sR, kd_cp, ln_sI, ln_sL, ln_sR, ln_cp, gR_sI, gR_sL, gR_sR, gR_cp, gL_sI, gL_sR, gL_cp, gI_sL, gI_sR, iI_add, iI_sub, iI_mul, iI_neg, iI_in, iI_tn, iI_lt, iI_eq, Nat.reduceLeDiff, Nat.reduceEqDiff, Nat.reduceAdd, Int.reduceEq, Int.reduceLT, Int.reduceLE, Int.reduceNeg, Int.reduceAdd, Int.reduceSub, Int.reduceMul, show k < 12 by omega, e1]
    exact e2
theorem C135I (h : RQ D m s) (hI : InvS D) (hIB : InvB D (sa D)) (hd : 8 ≤ d) {x what a : Int} (hS : ∀ j, 0 ≤ j → j < 12 → SHo D m j j x) (a0 : 0 ≤ a) (a1 : a < 12) : ∀ (r : Nat) (b : Int) (q : Int × Int × Int) (z : Option Value), b = 12 - r → 0 ≤ b → -1 ≤ q.1 → q.1 ≤ 1000 → ∃ z', mm_ev d 135 70 [some (.ref 100), (some (.int (iI (x)))), (some (.int (iI (what)))), (some (.int (iI (clL q)))), (some (.int (iI (q.2.1)))), (some (.int (iI (q.2.2)))), (some (.int (iI (a)))), (some (.int (iI (b)))), z] [] m = mm_ev d 135 57 [some (.ref 100), (some (.int (iI (x)))), (some (.int (iI (what)))), (some (.int (iI (clL (bestI (fun a b => allJ D a x b x) a r b q))))), (some (.int (iI ((bestI (fun a b => allJ D a x b x) a r b q).2.1)))), (some (.int (iI ((bestI (fun a b => allJ D a x b x) a r b q).2.2)))), (some (.int (iI (a + 1)))), (some (.int (iI (12)))), z'] [] m ∧ -1 ≤ (bestI (fun a b => allJ D a x b x) a r b q).1 ∧ (bestI (fun a b => allJ D a x b x) a r b q).1 ≤ 1000 ∧ ((0 < r ∨ 0 ≤ q.1) → 0 ≤ (bestI (fun a b => allJ D a x b x) a r b q).1)
  | 0, b, q, z, hb, b0, q0, q1 => by
    refine ⟨z, ?_, q0, q1, fun c => by unfold bestI; omega⟩
    rw [sg_135_70 (by omega), show b = 12 by omega]
    unfold bestI
    simp (disch := omega) only [↓reduceIte, not_false_eq_true, not_true_eq_false, and_self, and_true, true_and, false_and, and_false, or_true, true_or, or_false, false_or, or_self, reduceCtorEq, mm_q, Option.getD_some, cI_some, cJ_some, cV_some, cS_some, kd_sI, kd_sL, kd_sR, kd_cp, ln_sI, ln_sL, ln_sR, ln_cp, gR_sI, gR_sL, gR_sR, gR_cp, gL_sI, gL_sR, gL_cp, gI_sL, gI_sR, iI_add, iI_sub, iI_mul, iI_neg, iI_in, iI_tn, iI_lt, iI_eq, Nat.reduceLeDiff, Nat.reduceEqDiff, Nat.reduceAdd, Int.reduceEq, Int.reduceLT, Int.reduceLE, Int.reduceNeg, Int.reduceAdd, Int.reduceSub, Int.reduceMul, Int.lt_irrefl]
  | r + 1, b, q, z, hb, b0, q0, q1 => by
    have xf := shX h.1
    have ff := shF h.1
    have vr := allJ_rF hI hIB (ta := a) (s := x) (tb := b) (t := x)
    have e2 := C2 h hI hIB (d := d - 1) (by omega) a0 a1 b0 (show b < 12 by omega) (hS a a0 a1) (hS b b0 (by omega))
    have cr : -1 ≤ clL q ∧ clL q ≤ 1000 := by unfold clL; split <;> omega
    unfold bestI
    by_cases z1 : allJ D a x b x < clL q
    · have eq : (if q.1 < 0 then (allJ D a x b x, a, b) else if allJ D a x b x < q.1 then (allJ D a x b x, a, b) else q) = (allJ D a x b x, a, b) := by
        unfold clL at z1
        split
        · rfl
        · next y => rw [if_neg y] at z1; rw [if_pos z1]
      have ec : clL (allJ D a x b x, a, b) = allJ D a x b x := by unfold clL; rw [if_neg (by simp only; omega)]
      obtain ⟨z', e3, r1, r2, r3⟩ := C135I h hI hIB hd (what := what) hS a0 a1 r (b + 1) (allJ D a x b x, a, b) ((some (.int (iI (allJ D a x b x))))) (by omega) (by omega) (by simp only; omega) (by simp only; omega)
      refine ⟨z', ?_, ?_⟩
      · rw [eq, ← e3, ec, sg_135_70 (by omega)]
        simp (disch := omega) only [xf, ff, h.2.2.1, ↓reduceIte, not_false_eq_true, not_true_eq_false, and_self, and_true, true_and, false_and, and_false, or_true, true_or, or_false, false_or, or_self, reduceCtorEq, mm_q, Option.getD_some, cI_some, cJ_some, cV_some, cS_some, kd_sI, kd_sL, kd_sR, kd_cp, ln_sI, ln_sL, ln_sR, ln_cp, gR_sI, gR_sL, gR_sR, gR_cp, gL_sI, gL_sR, gL_cp, gI_sL, gI_sR, iI_add, iI_sub, iI_mul, iI_neg, iI_in, iI_tn, iI_lt, iI_eq, Nat.reduceLeDiff, Nat.reduceEqDiff, Nat.reduceAdd, Int.reduceEq, Int.reduceLT, Int.reduceLE, Int.reduceNeg, Int.reduceAdd, Int.reduceSub, Int.reduceMul, show b < 12 by omega, e2, z1, sg_135_111]
      · rw [eq]
        exact ⟨r1, r2, fun _ => r3 (Or.inr (by simp only; omega))⟩
    · have z2 : ¬ q.1 < 0 := fun y => by unfold clL at z1; rw [if_pos y] at z1; omega
      have eq : (if q.1 < 0 then (allJ D a x b x, a, b) else if allJ D a x b x < q.1 then (allJ D a x b x, a, b) else q) = q := by
        unfold clL at z1
        rw [if_neg z2] at z1
        rw [if_neg z2, if_neg z1]
      obtain ⟨z', e3, r1, r2, r3⟩ := C135I h hI hIB hd (what := what) hS a0 a1 r (b + 1) q ((some (.int (iI (allJ D a x b x))))) (by omega) (by omega) q0 q1
      refine ⟨z', ?_, ?_⟩
      · rw [eq, ← e3, sg_135_70 (by omega)]
        simp (disch := omega) only [xf, ff, h.2.2.1, ↓reduceIte, not_false_eq_true, not_true_eq_false, and_self, and_true, true_and, false_and, and_false, or_true, true_or, or_false, false_or, or_self, reduceCtorEq, mm_q, Option.getD_some, cI_some, cJ_some, cV_some, cS_some, kd_sI, kd_sL, kd_sR, kd_cp, ln_sI, ln_sL, ln_sR, ln_cp, gR_sI, gR_sL, gR_sR, gR_cp, gL_sI, gL_sR, gL_cp, gI_sL, gI_sR, iI_add, iI_sub, iI_mul, iI_neg, iI_in, iI_tn, iI_lt, iI_eq, Nat.reduceLeDiff, Nat.reduceEqDiff, Nat.reduceAdd, Int.reduceEq, Int.reduceLT, Int.reduceLE, Int.reduceNeg, Int.reduceAdd, Int.reduceSub, Int.reduceMul, show b < 12 by omega, e2, z1, sg_135_111]
      · rw [eq]
        exact ⟨r1, r2, fun _ => r3 (Or.inr (by omega))⟩
theorem C135L (h : RQ D m s) (hI : InvS D) (hIB : InvB D (sa D)) (hd : 8 ≤ d) {x what : Int} (what_0 : -2147483648 ≤ what) (what_1 : what < 2147483648) (hS : ∀ j, 0 ≤ j → j < 12 → SHo D m j j x) : ∀ (r : Nat) (a : Int) (q : Int × Int × Int) (z7 z8 : Option Value), a = 12 - r → 0 ≤ a → -1 ≤ q.1 → q.1 ≤ 1000 → (2 ≤ r ∨ 0 ≤ q.1) → mm_ev d 135 57 [some (.ref 100), (some (.int (iI (x)))), (some (.int (iI (what)))), (some (.int (iI (clL q)))), (some (.int (iI (q.2.1)))), (some (.int (iI (q.2.2)))), (some (.int (iI (a)))), z7, z8] [] m = some (some (some (.int (iI (pick3 (bestO (fun a b => allJ D a x b x) r a q) what)))), m)
  | 0, a, q, z7, z8, ha, a0, q0, q1, hp => by
    have ec : clL q = q.1 := by unfold clL; rw [if_neg (by omega)]
    rw [sg_135_57, ec]
    unfold bestO pick3
    by_cases y1 : what = 0
    · simp (disch := omega) only [↓reduceIte, not_false_eq_true, not_true_eq_false, and_self, and_true, true_and, false_and, and_false, or_true, true_or, or_false, false_or, or_self, reduceCtorEq, mm_q, Option.getD_some, cI_some, cJ_some, cV_some, cS_some, kd_sI, kd_sL, kd_sR, kd_cp, ln_sI, ln_sL, ln_sR, ln_cp, gR_sI, gR_sL, gR_sR, gR_cp, gL_sI, gL_sR, gL_cp, gI_sL, gI_sR, iI_add, iI_sub, iI_mul, iI_neg, iI_in, iI_tn, iI_lt, iI_eq, Nat.reduceLeDiff, Nat.reduceEqDiff, Nat.reduceAdd, Int.reduceEq, Int.reduceLT, Int.reduceLE, Int.reduceNeg, Int.reduceAdd, Int.reduceSub, Int.reduceMul, show ¬ a < 12 by omega, y1]
    · by_cases y2 : what = 1
      · simp (disch := omega) only [↓reduceIte, not_false_eq_true, not_true_eq_false, and_self, and_true, true_and, false_and, and_false, or_true, true_or, or_false, false_or, or_self, reduceCtorEq, mm_q, Option.getD_some, cI_some, cJ_some, cV_some, cS_some, kd_sI, kd_sL, kd_sR, kd_cp, ln_sI, ln_sL, ln_sR, ln_cp, gR_sI, gR_sL, gR_sR, gR_cp, gL_sI, gL_sR, gL_cp, gI_sL, gI_sR, iI_add, iI_sub, iI_mul, iI_neg, iI_in, iI_tn, iI_lt, iI_eq, Nat.reduceLeDiff, Nat.reduceEqDiff, Nat.reduceAdd, Int.reduceEq, Int.reduceLT, Int.reduceLE, Int.reduceNeg, Int.reduceAdd, Int.reduceSub, Int.reduceMul, show ¬ a < 12 by omega, y2]
      · simp (disch := omega) only [↓reduceIte, not_false_eq_true, not_true_eq_false, and_self, and_true, true_and, false_and, and_false, or_true, true_or, or_false, false_or, or_self, reduceCtorEq, mm_q, Option.getD_some, cI_some, cJ_some, cV_some, cS_some, kd_sI, kd_sL, kd_sR, kd_cp, ln_sI, ln_sL, ln_sR, ln_cp, gR_sI, gR_sL, gR_sR, gR_cp, gL_sI, gL_sR, gL_cp, gI_sL, gI_sR, iI_add, iI_sub, iI_mul, iI_neg, iI_in, iI_tn, iI_lt, iI_eq, Nat.reduceLeDiff, Nat.reduceEqDiff, Nat.reduceAdd, Int.reduceEq, Int.reduceLT, Int.reduceLE, Int.reduceNeg, Int.reduceAdd, Int.reduceSub, Int.reduceMul, show ¬ a < 12 by omega, y1, y2]
  | r + 1, a, q, z7, z8, ha, a0, q0, q1, hp => by
    obtain ⟨z', e1, r1, r2, r3⟩ := C135I h hI hIB hd (what := what) hS a0 (show a < 12 by omega) r (a + 1) q z8 (by omega) (by omega) q0 q1
    have e2 := C135L h hI hIB hd what_0 what_1 hS r (a + 1) (bestI (fun a b => allJ D a x b x) a r (a + 1) q) ((some (.int (iI (12))))) z' (by omega) (by omega) r1 r2 (Or.inr (r3 (by omega)))
    unfold bestO
    rw [← e2, ← e1, sg_135_57]
    simp (disch := omega) only [↓reduceIte, not_false_eq_true, not_true_eq_false, and_self, and_true, true_and, false_and, and_false, or_true, true_or, or_false, false_or, or_self, reduceCtorEq, mm_q, Option.getD_some, cI_some, cJ_some, cV_some, cS_some, kd_sI, kd_sL, kd_sR, kd_cp, ln_sI, ln_sL, ln_sR, ln_cp, gR_sI, gR_sL, gR_sR, gR_cp, gL_sI, gL_sR, gL_cp, gI_sL, gI_sR, iI_add, iI_sub, iI_mul, iI_neg, iI_in, iI_tn, iI_lt, iI_eq, Nat.reduceLeDiff, Nat.reduceEqDiff, Nat.reduceAdd, Int.reduceEq, Int.reduceLT, Int.reduceLE, Int.reduceNeg, Int.reduceAdd, Int.reduceSub, Int.reduceMul, show a < 12 by omega]
/-- best -/
theorem C135 (h : RQ D m s) (hI : InvS D) (hL : InvL D) (hIB : InvB D (sa D)) (hd : 8 ≤ d) {x what : Int} (x_0 : -2147483648 ≤ x) (x_1 : x < 2147483648) (what_0 : -2147483648 ≤ what) (what_1 : what < 2147483648) : ∃ m', mm_ev d 135 0 [some (.ref 100), (some (.int (iI (x)))), (some (.int (iI (what)))), none, none, none, none, none, none] [] m = some (some (some (.int (iI (bestS D x what)))), m') ∧ FC m m' := by
  obtain ⟨q0, q1⟩ := hI.2.2.2.2.2.1
  have xf := shX h.1
  rw [sg_135_0 (by omega)]
  unfold bestS
  cases z1 : isWd D x
  · exact ⟨m, by simp (disch := omega) only [xf, ↓reduceIte, not_false_eq_true, not_true_eq_false, and_self, and_true, true_and, false_and, and_false, or_true, true_or, or_false, false_or, or_self, reduceCtorEq, mm_q, Option.getD_some, cI_some, cJ_some, cV_some, cS_some, kd_sI, kd_sL, kd_sR, kd_cp, ln_sI, ln_sL, ln_sR, ln_cp, gR_sI, gR_sL, gR_sR, gR_cp, gL_sI, gL_sR, gL_cp, gI_sL, gI_sR, iI_add, iI_sub, iI_mul, iI_neg, iI_in, iI_tn, iI_lt, iI_eq, Nat.reduceLeDiff, Nat.reduceEqDiff, Nat.reduceAdd, Int.reduceEq, Int.reduceLT, Int.reduceLE, Int.reduceNeg, Int.reduceAdd, Int.reduceSub, Int.reduceMul, bI_t, bI_f, decide_true, decide_false, Bool.and_true, Bool.and_false, Bool.true_and, Bool.false_and, Bool.false_eq_true, Bool.and_self, Bool.not_true, Bool.not_false, Bool.true_or, Bool.false_or, Bool.or_true, Bool.or_false, C109 h hI, z1], FC.rf⟩
  · cases z2 : inB what 0 2
    · have z3 : ¬ (0 ≤ what ∧ what ≤ 2) := fun y => by rw [inB_t.mpr y] at z2; cases z2
      refine ⟨m, ?_, FC.rf⟩
      by_cases z4 : what < 0
      · simp (disch := omega) only [xf, ↓reduceIte, not_false_eq_true, not_true_eq_false, and_self, and_true, true_and, false_and, and_false, or_true, true_or, or_false, false_or, or_self, reduceCtorEq, mm_q, Option.getD_some, cI_some, cJ_some, cV_some, cS_some, kd_sI, kd_sL, kd_sR, kd_cp, ln_sI, ln_sL, ln_sR, ln_cp, gR_sI, gR_sL, gR_sR, gR_cp, gL_sI, gL_sR, gL_cp, gI_sL, gI_sR, iI_add, iI_sub, iI_mul, iI_neg, iI_in, iI_tn, iI_lt, iI_eq, Nat.reduceLeDiff, Nat.reduceEqDiff, Nat.reduceAdd, Int.reduceEq, Int.reduceLT, Int.reduceLE, Int.reduceNeg, Int.reduceAdd, Int.reduceSub, Int.reduceMul, bI_t, bI_f, decide_true, decide_false, Bool.and_true, Bool.and_false, Bool.true_and, Bool.false_and, Bool.false_eq_true, Bool.and_self, Bool.not_true, Bool.not_false, Bool.true_or, Bool.false_or, Bool.or_true, Bool.or_false, C109 h hI, z1, z4]
      · simp (disch := omega) only [xf, ↓reduceIte, not_false_eq_true, not_true_eq_false, and_self, and_true, true_and, false_and, and_false, or_true, true_or, or_false, false_or, or_self, reduceCtorEq, mm_q, Option.getD_some, cI_some, cJ_some, cV_some, cS_some, kd_sI, kd_sL, kd_sR, kd_cp, ln_sI, ln_sL, ln_sR, ln_cp, gR_sI, gR_sL, gR_sR, gR_cp, gL_sI, gL_sR, gL_cp, gI_sL, gI_sR, iI_add, iI_sub, iI_mul, iI_neg, iI_in, iI_tn, iI_lt, iI_eq, Nat.reduceLeDiff, Nat.reduceEqDiff, Nat.reduceAdd, Int.reduceEq, Int.reduceLT, Int.reduceLE, Int.reduceNeg, Int.reduceAdd, Int.reduceSub, Int.reduceMul, bI_t, bI_f, decide_true, decide_false, Bool.and_true, Bool.and_false, Bool.true_and, Bool.false_and, Bool.false_eq_true, Bool.and_self, Bool.not_true, Bool.not_false, Bool.true_or, Bool.false_or, Bool.or_true, Bool.or_false, C109 h hI, z1, z4, show 2 < what by omega]
    · obtain ⟨a0, a1⟩ := isWd_t.mp z1
      obtain ⟨b0, b1⟩ := inB_t.mp z2
      obtain ⟨m1, e1, f1, r1⟩ := C135a (s := s) hI hL hIB hd (what := what) (l3 := iI 321) (l4 := iI 0) (l5 := iI 0) a0 a1 12 0 m (by omega) (by omega) h (fun j j0 j1 => by omega)
      have e2 := C135L (h.fc f1 q1) hI hIB hd what_0 what_1 r1 12 0 (-1, 0, 0) none none (by omega) (by omega) (by decide) (by decide) (by omega)
      refine ⟨m1, ?_, f1⟩
      simp (disch := omega) only [xf, ↓reduceIte, not_false_eq_true, not_true_eq_false, and_self, and_true, true_and, false_and, and_false, or_true, true_or, or_false, false_or, or_self, reduceCtorEq, mm_q, Option.getD_some, cI_some, cJ_some, cV_some, cS_some, kd_sI, kd_sL, kd_sR, kd_cp, ln_sI, ln_sL, ln_sR, ln_cp, gR_sI, gR_sL, gR_sR, gR_cp, gL_sI, gL_sR, gL_cp, gI_sL, gI_sR, iI_add, iI_sub, iI_mul, iI_neg, iI_in, iI_tn, iI_lt, iI_eq, Nat.reduceLeDiff, Nat.reduceEqDiff, Nat.reduceAdd, Int.reduceEq, Int.reduceLT, Int.reduceLE, Int.reduceNeg, Int.reduceAdd, Int.reduceSub, Int.reduceMul, bI_t, bI_f, decide_true, decide_false, Bool.and_true, Bool.and_false, Bool.true_and, Bool.false_and, Bool.false_eq_true, Bool.and_self, Bool.not_true, Bool.not_false, Bool.true_or, Bool.false_or, Bool.or_true, Bool.or_false, C109 h hI, z1, show ¬ what < 0 by omega, show ¬ 2 < what by omega]
      rw [e1]
      exact e2
/-- secondsOf -/
theorem C144L (h : RQ D m s) (hI : InvS D) {set : Int} : ∀ (r : Nat) (w n : Int), w = st D 6 - r → 0 ≤ w → mm_ev d 144 4 [some (.ref 100), (some (.int (iI (set)))), (some (.int (iI (n)))), (some (.int (iI (w))))] [] m = some (some (some (.int (iI (sumGo (fun w => if hasW set w = true then 1 + wk D w 1 else 0) r w n)))), m)
  | 0, w, n, hr, w0 => by
    have xf := shX h.1
    have sf := stF h.1 h.2.1
    obtain ⟨q0, q1⟩ := hI.2.2.2.2.2.1
    rw [sg_144_4]
    unfold sumGo
    simp (disch := omega) only [xf, sf, h.2.2.1, h.2.2.2.1.1.2.2.2.2.2.2.2.1, ↓reduceIte, not_false_eq_true, not_true_eq_false, and_self, and_true, true_and, false_and, and_false, or_true, true_or, or_false, false_or, or_self, reduceCtorEq, mm_q, Option.getD_some, cI_some, cJ_some, cV_some, cS_some, kd_sI, kd_sL, kd_sR, kd_cp, ln_sI, ln_sL, ln_sR, ln_cp, gR_sI, gR_sL, gR_sR, gR_cp, gL_sI, gL_sR, gL_cp, gI_sL, gI_sR, iI_add, iI_sub, iI_mul, iI_neg, iI_in, iI_tn, iI_lt, iI_eq, Nat.reduceLeDiff, Nat.reduceEqDiff, Nat.reduceAdd, Int.reduceEq, Int.reduceLT, Int.reduceLE, Int.reduceNeg, Int.reduceAdd, Int.reduceSub, Int.reduceMul, show ¬ w < st D 6 by omega]
  | r + 1, w, n, hr, w0 => by
    have xf := shX h.1
    have sf := stF h.1 h.2.1
    obtain ⟨q0, q1⟩ := hI.2.2.2.2.2.1
    have w1 : w < st D 6 := by omega
    have wkf := wkF h.1 h.2.1 w0 (show w < 8 by omega)
    have a2 := (h.2.2.2.1.2.2.1 w w0 w1).2.1
    have ih := fun n => C144L h hI (set := set) r (w + 1) n (by omega) (by omega)
    rw [sg_144_4]
    unfold sumGo
    rw [hasW_0]
    by_cases z : (iShr (iI set) (iI w) &&& iI 1) = iI 0
    · have e := ih (n + 0)
      rw [show n + 0 = n by omega] at e
      simp (disch := omega) only [xf, sf, h.2.2.1, h.2.2.2.1.1.2.2.2.2.2.2.2.1, ↓reduceIte, not_false_eq_true, not_true_eq_false, and_self, and_true, true_and, false_and, and_false, or_true, true_or, or_false, false_or, or_self, reduceCtorEq, mm_q, Option.getD_some, cI_some, cJ_some, cV_some, cS_some, kd_sI, kd_sL, kd_sR, kd_cp, ln_sI, ln_sL, ln_sR, ln_cp, gR_sI, gR_sL, gR_sR, gR_cp, gL_sI, gL_sR, gL_cp, gI_sL, gI_sR, iI_add, iI_sub, iI_mul, iI_neg, iI_in, iI_tn, iI_lt, iI_eq, Nat.reduceLeDiff, Nat.reduceEqDiff, Nat.reduceAdd, Int.reduceEq, Int.reduceLT, Int.reduceLE, Int.reduceNeg, Int.reduceAdd, Int.reduceSub, Int.reduceMul, bI_t, bI_f, decide_true, decide_false, Bool.and_true, Bool.and_false, Bool.true_and, Bool.false_and, Bool.false_eq_true, Bool.and_self, Bool.not_true, Bool.not_false, Bool.true_or, Bool.false_or, Bool.or_true, Bool.or_false, w1, z, sg_144_40]
      rw [show n + 0 = n by omega]
      exact e
    · simp (disch := omega) only [xf, sf, wkf, h.2.2.1, h.2.2.2.1.1.2.2.2.2.2.2.2.1, ↓reduceIte, not_false_eq_true, not_true_eq_false, and_self, and_true, true_and, false_and, and_false, or_true, true_or, or_false, false_or, or_self, reduceCtorEq, mm_q, Option.getD_some, cI_some, cJ_some, cV_some, cS_some, kd_sI, kd_sL, kd_sR, kd_cp, ln_sI, ln_sL, ln_sR, ln_cp, gR_sI, gR_sL, gR_sR, gR_cp, gL_sI, gL_sR, gL_cp, gI_sL, gI_sR, iI_add, iI_sub, iI_mul, iI_neg, iI_in, iI_tn, iI_lt, iI_eq, Nat.reduceLeDiff, Nat.reduceEqDiff, Nat.reduceAdd, Int.reduceEq, Int.reduceLT, Int.reduceLE, Int.reduceNeg, Int.reduceAdd, Int.reduceSub, Int.reduceMul, bI_t, bI_f, decide_true, decide_false, Bool.and_true, Bool.and_false, Bool.true_and, Bool.false_and, Bool.false_eq_true, Bool.and_self, Bool.not_true, Bool.not_false, Bool.true_or, Bool.false_or, Bool.or_true, Bool.or_false, w1, z, a2, sg_144_40]
      exact ih _
theorem C144 (h : RQ D m s) (hI : InvS D) {set : Int} : mm_ev d 144 0 [some (.ref 100), (some (.int (iI (set)))), none, none] [] m = some (some (some (.int (iI (secS D set)))), m) := by
  obtain ⟨q0, q1⟩ := hI.2.2.2.2.2.1
  rw [sg_144_0]
  exact C144L h hI (st D 6).toNat 0 0 (by omega) (by omega)
/-- worthOf -/
theorem C145L (h : RQ D m s) (hI : InvS D) (hIB : InvB D (sa D)) (hd : 3 ≤ d) (s0 : SHo D m 0 0 0) (s1 : SHo D m 1 (sa D 0) 0) {set : Int} : ∀ (r : Nat) (w n : Int), w = st D 6 - r → 0 ≤ w → mm_ev d 145 4 [some (.ref 100), (some (.int (iI (set)))), (some (.int (iI (n)))), (some (.int (iI (w))))] [] m = some (some (some (.int (iI (sumGo (fun w => if hasW set w = true then jumpS D w 0 0 (sa D 0) 0 else 0) r w n)))), m)
  | 0, w, n, hr, w0 => by
    have xf := shX h.1
    have sf := stF h.1 h.2.1
    obtain ⟨q0, q1⟩ := hI.2.2.2.2.2.1
    rw [sg_145_4 (by omega)]
    unfold sumGo
    simp (disch := omega) only [xf, sf, h.2.2.1, h.2.2.2.1.1.2.2.2.2.2.2.2.1, ↓reduceIte, not_false_eq_true, not_true_eq_false, and_self, and_true, true_and, false_and, and_false, or_true, true_or, or_false, false_or, or_self, reduceCtorEq, mm_q, Option.getD_some, cI_some, cJ_some, cV_some, cS_some, kd_sI, kd_sL, kd_sR, kd_cp, ln_sI, ln_sL, ln_sR, ln_cp, gR_sI, gR_sL, gR_sR, gR_cp, gL_sI, gL_sR, gL_cp, gI_sL, gI_sR, iI_add, iI_sub, iI_mul, iI_neg, iI_in, iI_tn, iI_lt, iI_eq, Nat.reduceLeDiff, Nat.reduceEqDiff, Nat.reduceAdd, Int.reduceEq, Int.reduceLT, Int.reduceLE, Int.reduceNeg, Int.reduceAdd, Int.reduceSub, Int.reduceMul, show ¬ w < st D 6 by omega]
  | r + 1, w, n, hr, w0 => by
    have xf := shX h.1
    have sf := stF h.1 h.2.1
    have ff := shF h.1
    obtain ⟨q0, q1⟩ := hI.2.2.2.2.2.1
    have w1 : w < st D 6 := by omega
    have ih := fun n => C145L h hI hIB hd s0 s1 (set := set) r (w + 1) n (by omega) (by omega)
    rw [sg_145_4 (by omega)]
    unfold sumGo
    rw [hasW_0]
    by_cases z : (iShr (iI set) (iI w) &&& iI 1) = iI 0
    · have e := ih (n + 0)
      rw [show n + 0 = n by omega] at e
      simp (disch := omega) only [xf, sf, h.2.2.1, h.2.2.2.1.1.2.2.2.2.2.2.2.1, ↓reduceIte, not_false_eq_true, not_true_eq_false, and_self, and_true, true_and, false_and, and_false, or_true, true_or, or_false, false_or, or_self, reduceCtorEq, mm_q, Option.getD_some, cI_some, cJ_some, cV_some, cS_some, kd_sI, kd_sL, kd_sR, kd_cp, ln_sI, ln_sL, ln_sR, ln_cp, gR_sI, gR_sL, gR_sR, gR_cp, gL_sI, gL_sR, gL_cp, gI_sL, gI_sR, iI_add, iI_sub, iI_mul, iI_neg, iI_in, iI_tn, iI_lt, iI_eq, Nat.reduceLeDiff, Nat.reduceEqDiff, Nat.reduceAdd, Int.reduceEq, Int.reduceLT, Int.reduceLE, Int.reduceNeg, Int.reduceAdd, Int.reduceSub, Int.reduceMul, bI_t, bI_f, decide_true, decide_false, Bool.and_true, Bool.and_false, Bool.true_and, Bool.false_and, Bool.false_eq_true, Bool.and_self, Bool.not_true, Bool.not_false, Bool.true_or, Bool.false_or, Bool.or_true, Bool.or_false, w1, z, sg_145_40]
      rw [show n + 0 = n by omega]
      exact e
    · simp (disch := omega) only [xf, sf, ff, h.2.2.1, h.2.2.2.1.1.2.2.2.2.2.2.2.1, ↓reduceIte, not_false_eq_true, not_true_eq_false, and_self, and_true, true_and, false_and, and_false, or_true, true_or, or_false, false_or, or_self, reduceCtorEq, mm_q, Option.getD_some, cI_some, cJ_some, cV_some, cS_some, kd_sI, kd_sL, kd_sR, kd_cp, ln_sI, ln_sL, ln_sR, ln_cp, gR_sI, gR_sL, gR_sR, gR_cp, gL_sI, gL_sR, gL_cp, gI_sL, gI_sR, iI_add, iI_sub, iI_mul, iI_neg, iI_in, iI_tn, iI_lt, iI_eq, Nat.reduceLeDiff, Nat.reduceEqDiff, Nat.reduceAdd, Int.reduceEq, Int.reduceLT, Int.reduceLE, Int.reduceNeg, Int.reduceAdd, Int.reduceSub, Int.reduceMul, bI_t, bI_f, decide_true, decide_false, Bool.and_true, Bool.and_false, Bool.true_and, Bool.false_and, Bool.false_eq_true, Bool.and_self, Bool.not_true, Bool.not_false, Bool.true_or, Bool.false_or, Bool.or_true, Bool.or_false, w1, z, C3 h hI hIB (d := d - 1) (by omega) w0 w1 (show (0 : Int) ≤ 0 by omega) (by omega) (show (0 : Int) ≤ 1 by omega) (by omega) s0 s1, sg_145_40]
      exact ih _
theorem C145 (h : RQ D m s) (hI : InvS D) (hIB : InvB D (sa D)) (hd : 3 ≤ d) (s0 : SHo D m 0 0 0) (s1 : SHo D m 1 (sa D 0) 0) {set : Int} : mm_ev d 145 0 [some (.ref 100), (some (.int (iI (set)))), none, none] [] m = some (some (some (.int (iI (worS D set)))), m) := by
  obtain ⟨q0, q1⟩ := hI.2.2.2.2.2.1
  rw [sg_145_0]
  exact C145L h hI hIB hd s0 s1 (st D 6).toNat 0 0 (by omega) (by omega)
/-- notes -/
theorem C143L (h : RQ D m s) (hI : InvS D) (hIB : InvB D (sa D)) (hd : 4 ≤ d) (s0 : SHo D m 0 0 0) (s1 : SHo D m 1 (sa D 0) 0) {sec : Int} (y0 : 0 ≤ sec) (y1 : sec ≤ 30) : ∀ (r : Nat) (x b v : Int) (z : Option Value), x = ((2 ^ (st D 6).toNat : Nat) : Int) - r → 1 ≤ x → 0 ≤ v → v ≤ 1000 → mm_ev d 143 60 [some (.ref 100), (some (.int (iI (sec)))), (some (.int (iI (b)))), (some (.int (iI (v)))), (some (.int (iI (((2 ^ (st D 6).toNat : Nat) : Int))))), (some (.int (iI (x)))), z] [] m = some (some (some (.int (iI (noteGo D sec r x b v)))), m)
  | 0, x, b, v, z, hx, x0, v0, v1 => by
    obtain ⟨q0, q1⟩ := hI.2.2.2.2.2.1
    have pw := pow_r q1
    rw [sg_143_60 (by omega)]
    unfold noteGo
    simp (disch := omega) only [↓reduceIte, not_false_eq_true, not_true_eq_false, and_self, and_true, true_and, false_and, and_false, or_true, true_or, or_false, false_or, or_self, reduceCtorEq, mm_q, Option.getD_some, cI_some, cJ_some, cV_some, cS_some, kd_sI, kd_sL, kd_sR, kd_cp, ln_sI, ln_sL, ln_sR, ln_cp, gR_sI, gR_sL, gR_sR, gR_cp, gL_sI, gL_sR, gL_cp, gI_sL, gI_sR, iI_add, iI_sub, iI_mul, iI_neg, iI_in, iI_tn, iI_lt, iI_eq, Nat.reduceLeDiff, Nat.reduceEqDiff, Nat.reduceAdd, Int.reduceEq, Int.reduceLT, Int.reduceLE, Int.reduceNeg, Int.reduceAdd, Int.reduceSub, Int.reduceMul, show ¬ x < ((2 ^ (st D 6).toNat : Nat) : Int) by omega]
  | r + 1, x, b, v, z, hx, x0, v0, v1 => by
    have xf := shX h.1
    obtain ⟨q0, q1⟩ := hI.2.2.2.2.2.1
    have pw := pow_r q1
    have r1 := secS_r hI (set := x)
    have r2 := worS_r hI hIB (set := x)
    have ih := fun b v z => C143L h hI hIB hd s0 s1 y0 y1 r (x + 1) b v z (by omega) (by omega)
    rw [sg_143_60 (by omega)]
    unfold noteGo
    simp (disch := omega) only [xf, ↓reduceIte, not_false_eq_true, not_true_eq_false, and_self, and_true, true_and, false_and, and_false, or_true, true_or, or_false, false_or, or_self, reduceCtorEq, mm_q, Option.getD_some, cI_some, cJ_some, cV_some, cS_some, kd_sI, kd_sL, kd_sR, kd_cp, ln_sI, ln_sL, ln_sR, ln_cp, gR_sI, gR_sL, gR_sR, gR_cp, gL_sI, gL_sR, gL_cp, gI_sL, gI_sR, iI_add, iI_sub, iI_mul, iI_neg, iI_in, iI_tn, iI_lt, iI_eq, Nat.reduceLeDiff, Nat.reduceEqDiff, Nat.reduceAdd, Int.reduceEq, Int.reduceLT, Int.reduceLE, Int.reduceNeg, Int.reduceAdd, Int.reduceSub, Int.reduceMul, show x < ((2 ^ (st D 6).toNat : Nat) : Int) by omega, C144 h hI]
    rw [sg_143_73 (by omega)]
    by_cases z1 : sec < secS D x
    · rw [if_neg (show ¬ (secS D x ≤ sec ∧ v < worS D x) by omega)]
      simp (disch := omega) only [↓reduceIte, not_false_eq_true, not_true_eq_false, and_self, and_true, true_and, false_and, and_false, or_true, true_or, or_false, false_or, or_self, reduceCtorEq, mm_q, Option.getD_some, cI_some, cJ_some, cV_some, cS_some, kd_sI, kd_sL, kd_sR, kd_cp, ln_sI, ln_sL, ln_sR, ln_cp, gR_sI, gR_sL, gR_sR, gR_cp, gL_sI, gL_sR, gL_cp, gI_sL, gI_sR, iI_add, iI_sub, iI_mul, iI_neg, iI_in, iI_tn, iI_lt, iI_eq, Nat.reduceLeDiff, Nat.reduceEqDiff, Nat.reduceAdd, Int.reduceEq, Int.reduceLT, Int.reduceLE, Int.reduceNeg, Int.reduceAdd, Int.reduceSub, Int.reduceMul, z1, sg_143_97]
      exact ih _ _ _ v0 v1
    · by_cases z2 : v < worS D x
      · rw [if_pos (show secS D x ≤ sec ∧ v < worS D x by omega)]
        simp (disch := omega) only [xf, ↓reduceIte, not_false_eq_true, not_true_eq_false, and_self, and_true, true_and, false_and, and_false, or_true, true_or, or_false, false_or, or_self, reduceCtorEq, mm_q, Option.getD_some, cI_some, cJ_some, cV_some, cS_some, kd_sI, kd_sL, kd_sR, kd_cp, ln_sI, ln_sL, ln_sR, ln_cp, gR_sI, gR_sL, gR_sR, gR_cp, gL_sI, gL_sR, gL_cp, gI_sL, gI_sR, iI_add, iI_sub, iI_mul, iI_neg, iI_in, iI_tn, iI_lt, iI_eq, Nat.reduceLeDiff, Nat.reduceEqDiff, Nat.reduceAdd, Int.reduceEq, Int.reduceLT, Int.reduceLE, Int.reduceNeg, Int.reduceAdd, Int.reduceSub, Int.reduceMul, z1, C145 h hI hIB (d := d - 1) (by omega) s0 s1, z2, sg_143_97]
        exact ih _ _ _ (by omega) (by omega)
      · rw [if_neg (show ¬ (secS D x ≤ sec ∧ v < worS D x) by omega)]
        simp (disch := omega) only [xf, ↓reduceIte, not_false_eq_true, not_true_eq_false, and_self, and_true, true_and, false_and, and_false, or_true, true_or, or_false, false_or, or_self, reduceCtorEq, mm_q, Option.getD_some, cI_some, cJ_some, cV_some, cS_some, kd_sI, kd_sL, kd_sR, kd_cp, ln_sI, ln_sL, ln_sR, ln_cp, gR_sI, gR_sL, gR_sR, gR_cp, gL_sI, gL_sR, gL_cp, gI_sL, gI_sR, iI_add, iI_sub, iI_mul, iI_neg, iI_in, iI_tn, iI_lt, iI_eq, Nat.reduceLeDiff, Nat.reduceEqDiff, Nat.reduceAdd, Int.reduceEq, Int.reduceLT, Int.reduceLE, Int.reduceNeg, Int.reduceAdd, Int.reduceSub, Int.reduceMul, z1, C145 h hI hIB (d := d - 1) (by omega) s0 s1, z2, sg_143_97]
        exact ih _ _ _ v0 v1
theorem C143 (h : RQ D m s) (hI : InvS D) (hL : InvL D) (hIB : InvB D (sa D)) (hd : 8 ≤ d) {sec : Int} (sec_0 : -2147483648 ≤ sec) (sec_1 : sec < 2147483648) : ∃ m', mm_ev d 143 0 [some (.ref 100), (some (.int (iI (sec)))), none, none, none, none, none] [] m = some (some (some (.int (iI (notesS D sec)))), m') ∧ FC m m' := by
  obtain ⟨q0, q1⟩ := hI.2.2.2.2.2.1
  obtain ⟨v0, v1⟩ := hI.2.2.2.2.1
  have pw := pow_r q1
  have xf := shX h.1
  have sf := stF h.1 h.2.1
  rw [sg_143_0 (by omega)]
  unfold notesS
  cases z2 : inB sec 0 30
  · have z3 : ¬ (0 ≤ sec ∧ sec ≤ 30) := fun y => by rw [inB_t.mpr y] at z2; cases z2
    refine ⟨m, ?_, FC.rf⟩
    by_cases z4 : sec < 0
    · simp (disch := omega) only [↓reduceIte, not_false_eq_true, not_true_eq_false, and_self, and_true, true_and, false_and, and_false, or_true, true_or, or_false, false_or, or_self, reduceCtorEq, mm_q, Option.getD_some, cI_some, cJ_some, cV_some, cS_some, kd_sI, kd_sL, kd_sR, kd_cp, ln_sI, ln_sL, ln_sR, ln_cp, gR_sI, gR_sL, gR_sR, gR_cp, gL_sI, gL_sR, gL_cp, gI_sL, gI_sR, iI_add, iI_sub, iI_mul, iI_neg, iI_in, iI_tn, iI_lt, iI_eq, Nat.reduceLeDiff, Nat.reduceEqDiff, Nat.reduceAdd, Int.reduceEq, Int.reduceLT, Int.reduceLE, Int.reduceNeg, Int.reduceAdd, Int.reduceSub, Int.reduceMul, bI_t, bI_f, decide_true, decide_false, Bool.and_true, Bool.and_false, Bool.true_and, Bool.false_and, Bool.false_eq_true, Bool.and_self, Bool.not_true, Bool.not_false, Bool.true_or, Bool.false_or, Bool.or_true, Bool.or_false, z4]
    · simp (disch := omega) only [↓reduceIte, not_false_eq_true, not_true_eq_false, and_self, and_true, true_and, false_and, and_false, or_true, true_or, or_false, false_or, or_self, reduceCtorEq, mm_q, Option.getD_some, cI_some, cJ_some, cV_some, cS_some, kd_sI, kd_sL, kd_sR, kd_cp, ln_sI, ln_sL, ln_sR, ln_cp, gR_sI, gR_sL, gR_sR, gR_cp, gL_sI, gL_sR, gL_cp, gI_sL, gI_sR, iI_add, iI_sub, iI_mul, iI_neg, iI_in, iI_tn, iI_lt, iI_eq, Nat.reduceLeDiff, Nat.reduceEqDiff, Nat.reduceAdd, Int.reduceEq, Int.reduceLT, Int.reduceLE, Int.reduceNeg, Int.reduceAdd, Int.reduceSub, Int.reduceMul, bI_t, bI_f, decide_true, decide_false, Bool.and_true, Bool.and_false, Bool.true_and, Bool.false_and, Bool.false_eq_true, Bool.and_self, Bool.not_true, Bool.not_false, Bool.true_or, Bool.false_or, Bool.or_true, Bool.or_false, z4, show 30 < sec by omega]
  · obtain ⟨b0, b1⟩ := inB_t.mp z2
    by_cases z5 : st D 5 = 0
    · refine ⟨m, ?_, FC.rf⟩
      simp (disch := omega) only [xf, sf, h.2.2.1, h.2.2.2.1.1.2.2.2.2.2.2.1, ↓reduceIte, not_false_eq_true, not_true_eq_false, and_self, and_true, true_and, false_and, and_false, or_true, true_or, or_false, false_or, or_self, reduceCtorEq, mm_q, Option.getD_some, cI_some, cJ_some, cV_some, cS_some, kd_sI, kd_sL, kd_sR, kd_cp, ln_sI, ln_sL, ln_sR, ln_cp, gR_sI, gR_sL, gR_sR, gR_cp, gL_sI, gL_sR, gL_cp, gI_sL, gI_sR, iI_add, iI_sub, iI_mul, iI_neg, iI_in, iI_tn, iI_lt, iI_eq, Nat.reduceLeDiff, Nat.reduceEqDiff, Nat.reduceAdd, Int.reduceEq, Int.reduceLT, Int.reduceLE, Int.reduceNeg, Int.reduceAdd, Int.reduceSub, Int.reduceMul, bI_t, bI_f, decide_true, decide_false, Bool.and_true, Bool.and_false, Bool.true_and, Bool.false_and, Bool.false_eq_true, Bool.and_self, Bool.not_true, Bool.not_false, Bool.true_or, Bool.false_or, Bool.or_true, Bool.or_false, show ¬ sec < 0 by omega, show ¬ 30 < sec by omega, z5]
    · obtain ⟨m1, e1, f1, s1, -⟩ := C134 (d := d - 1) h hI hL hIB (by omega) (k := 0) (ta := 0) (x := 0) (by omega) (by omega) (by omega) (by omega)
      have h1 := h.fc f1 q1
      obtain ⟨m2, e2, f2, s2, k2⟩ := C134 (d := d - 1) h1 hI hL hIB (by omega) (k := 1) (ta := sa D 0) (x := 0) (by omega) (by omega) (by omega) (by omega)
      have h2 := h1.fc f2 q1
      have s1' := k2 0 0 0 (by omega) (by omega) (by omega) s1
      have xf1 := shX h1.1
      have hf1 := hF h1.1 h155
      have xf2 := shX h2.1
      have sf2 := stF h2.1 h2.2.1
      refine ⟨m2, ?_, f1.tr f2⟩
      simp (disch := omega) only [xf, sf, h.2.2.1, h.2.2.2.1.1.2.2.2.2.2.2.1, ↓reduceIte, not_false_eq_true, not_true_eq_false, and_self, and_true, true_and, false_and, and_false, or_true, true_or, or_false, false_or, or_self, reduceCtorEq, mm_q, Option.getD_some, cI_some, cJ_some, cV_some, cS_some, kd_sI, kd_sL, kd_sR, kd_cp, ln_sI, ln_sL, ln_sR, ln_cp, gR_sI, gR_sL, gR_sR, gR_cp, gL_sI, gL_sR, gL_cp, gI_sL, gI_sR, iI_add, iI_sub, iI_mul, iI_neg, iI_in, iI_tn, iI_lt, iI_eq, Nat.reduceLeDiff, Nat.reduceEqDiff, Nat.reduceAdd, Int.reduceEq, Int.reduceLT, Int.reduceLE, Int.reduceNeg, Int.reduceAdd, Int.reduceSub, Int.reduceMul, bI_t, bI_f, decide_true, decide_false, Bool.and_true, Bool.and_false, Bool.true_and, Bool.false_and, Bool.false_eq_true, Bool.and_self, Bool.not_true, Bool.not_false, Bool.true_or, Bool.false_or, Bool.or_true, Bool.or_false, show ¬ sec < 0 by omega, show ¬ 30 < sec by omega, z5, e1]
      rw [sg_143_29 (by omega)]
      simp (disch := omega) only [xf1, hf1, h1.2.2.2.2.2.2, ↓reduceIte, not_false_eq_true, not_true_eq_false, and_self, and_true, true_and, false_and, and_false, or_true, true_or, or_false, false_or, or_self, reduceCtorEq, mm_q, Option.getD_some, cI_some, cJ_some, cV_some, cS_some, kd_sI, kd_sL, kd_sR, kd_cp, ln_sI, ln_sL, ln_sR, ln_cp, gR_sI, gR_sL, gR_sR, gR_cp, gL_sI, gL_sR, gL_cp, gI_sL, gI_sR, iI_add, iI_sub, iI_mul, iI_neg, iI_in, iI_tn, iI_lt, iI_eq, Nat.reduceLeDiff, Nat.reduceEqDiff, Nat.reduceAdd, Int.reduceEq, Int.reduceLT, Int.reduceLE, Int.reduceNeg, Int.reduceAdd, Int.reduceSub, Int.reduceMul, e2, xf2, sf2, h2.2.2.1, h2.2.2.2.1.1.2.2.2.2.2.2.2.1, shl_p q0 q1]
      exact C143L h2 hI hIB (d := d) (by omega) s1' s2 b0 b1 (2 ^ (st D 6).toNat - 1) 1 0 0 none (by omega) (by omega) (by omega) (by omega)
end
