section
variable {D : Nat → Nat → Int32} {m m' m'' : mm_M} {d s W L H p n : Nat} {B : Int → Int} {take : Int} {late : Bool}
theorem RN.cg (h : RN D m p) (e : ∀ a k, p ≤ a → a ≤ p + 3 → mm_gI m' a k = mm_gI m a k) : RN D m' p := ⟨(e _ _ (by omega) (by omega)).trans h.1, fun k k0 k1 => by
  obtain ⟨a, b, c⟩ := h.2 k k0 k1
  exact ⟨(e _ _ (by omega) (by omega)).trans a, fun z => (e _ _ (by omega) (by omega)).trans (b z), fun z => (e _ _ (by omega) (by omega)).trans (c z)⟩⟩
theorem sc_sp {a k : Nat} (hp : isSc p) (h0 : p ≤ a) (h1 : a ≤ p + 3) : scC a k = false := by
  have g : p = 146 ∨ p = 150 := hp
  have : a = 146 ∨ a = 147 ∨ a = 148 ∨ a = 149 ∨ a = 150 ∨ a = 151 ∨ a = 152 ∨ a = 153 := by omega
  rcases this with rfl | rfl | rfl | rfl | rfl | rfl | rfl | rfl <;> rfl
theorem RN.fc (h : RN D m p) (hp : isSc p) (f : FC m m') : RN D m' p := h.cg (fun _ _ a b => f.gI (sc_sp hp a b))
theorem HD.fT (h : HD D m 159 B) (f : Fr (scT 178) m m') : HD D m' 159 B := fun w w0 w1 => by
  obtain ⟨a, b, c⟩ := h w w0 w1
  exact ⟨(f.gI rfl).trans a, (f.gI rfl).trans b, (f.gI rfl).trans c⟩
theorem lineB_0 {k : Int} (hNN : InvN D) (k0 : 0 ≤ k) (k1 : k < li D 0) : lineB D k B 0 ≤ B 0 + 1 ∧ B 0 ≤ lineB D k B 0 := by
  obtain ⟨⟨n0, n1⟩, hn⟩ := hNN
  obtain ⟨⟨y0, y1⟩, y2, -⟩ := hn k k0 k1
  unfold lineB updB nextB
  split
  · dsimp only; rw [if_neg (by have := y2 (by omega); omega)]; omega
  · split
    · dsimp only; rw [if_neg (by have := y2 (by omega); omega)]; omega
    · split
      · dsimp only; rw [if_neg (by have := y2 (by omega); omega)]; omega
      · dsimp only; rw [if_pos rfl]; omega
theorem InvB.line (h : InvB D B) {k : Int} (hI : InvS D) (hNN : InvN D) (k0 : 0 ≤ k) (k1 : k < li D 0) (h9 : B 0 < 1000) : InvB D (lineB D k B) := by
  obtain ⟨q0, q1⟩ := hI.2.2.2.2.2.1
  obtain ⟨⟨n0, n1⟩, hn⟩ := hNN
  obtain ⟨⟨y0, y1⟩, y2, y3, y4⟩ := hn k k0 k1
  unfold lineB
  split
  · next z =>
    obtain ⟨i0, i1⟩ := y2 (by omega)
    have := y3 z
    exact h.upd (by omega) (by omega) (by omega) (by omega) q1
  · split
    · obtain ⟨i0, i1⟩ := y2 (by omega)
      obtain ⟨-, r, -⟩ := h.2 _ i0 i1
      exact h.upd (by omega) (by omega) (by omega) (by omega) q1
    · split
      · next z =>
        obtain ⟨i0, i1⟩ := y2 (by omega)
        have := y4 z
        exact h.upd (by omega) (by omega) (by omega) (by omega) q1
      · exact h.next h9 q1
/-- judged's loop -/
theorem C117L (hI : InvS D) (hL : InvL D) (hNN : InvN D) (hp : isSc p) (hd : 8 ≤ d) {what : Int} (what_0 : -2147483648 ≤ what) (what_1 : what < 2147483648) : ∀ (r : Nat) (k bad good : Int) (B : Int → Int) (m : mm_M), k = li D 0 - r → 0 ≤ k → -1 ≤ bad → bad ≤ 30 → RQ D m s → mm_gR m 100 3 = some p → RN D m p → HD D m 159 B → mm_gI m 159 0 = iI (B 0) → InvB D B → B 0 ≤ k → ∃ m', mm_ev d 117 30 [some (.ref 100), some (.int (iI (what))), some (.int (iI (bad))), some (.int (iI (good))), some (.int (iI (k)))] [] m = some (some (some (.int (iI (pick3 (judGo D r k bad good B) what)))), m') ∧ FC m m'
  | 0, k, bad, good, B, m, hk, k0, b0, b1, h, hg, hN, hh, h0, hIB, hB0 => by
    have xf := shX h.1
    have pf := spF h.1 hp
    have hf := hF h.1 h159
    obtain ⟨⟨n0, n1⟩, -⟩ := hNN
    refine ⟨m, ?_, FC.rf⟩
    rw [sg_117_30 (by omega)]
    unfold judGo pick3
    by_cases y1 : what = 0
    · simp (disch := omega) only [xf, pf, hg, hN.1, ↓reduceIte, not_false_eq_true, not_true_eq_false, and_self, and_true, true_and, false_and, and_false, or_true, true_or, or_false, false_or, or_self, reduceCtorEq, mm_q, Option.getD_some, cI_some, cJ_some, cV_some, cS_some, kd_sI, kd_sL, kd_sR, kd_cp, ln_sI, ln_sL, ln_sR, ln_cp, gR_sI, gR_sL, gR_sR, gR_cp, gL_sI, gL_sR, gL_cp, gI_sL, gI_sR, iI_add, iI_sub, iI_mul, iI_neg, iI_in, iI_tn, iI_lt, iI_eq, Nat.reduceLeDiff, Nat.reduceEqDiff, Nat.reduceAdd, Int.reduceEq, Int.reduceLT, Int.reduceLE, Int.reduceNeg, Int.reduceAdd, Int.reduceSub, Int.reduceMul, show ¬ k < li D 0 by omega, y1]
    · by_cases y2 : what = 1
      · simp (disch := omega) only [xf, pf, hg, hN.1, ↓reduceIte, not_false_eq_true, not_true_eq_false, and_self, and_true, true_and, false_and, and_false, or_true, true_or, or_false, false_or, or_self, reduceCtorEq, mm_q, Option.getD_some, cI_some, cJ_some, cV_some, cS_some, kd_sI, kd_sL, kd_sR, kd_cp, ln_sI, ln_sL, ln_sR, ln_cp, gR_sI, gR_sL, gR_sR, gR_cp, gL_sI, gL_sR, gL_cp, gI_sL, gI_sR, iI_add, iI_sub, iI_mul, iI_neg, iI_in, iI_tn, iI_lt, iI_eq, Nat.reduceLeDiff, Nat.reduceEqDiff, Nat.reduceAdd, Int.reduceEq, Int.reduceLT, Int.reduceLE, Int.reduceNeg, Int.reduceAdd, Int.reduceSub, Int.reduceMul, show ¬ k < li D 0 by omega, y2]
      · simp (disch := omega) only [xf, pf, hf, hg, hN.1, ↓reduceIte, not_false_eq_true, not_true_eq_false, and_self, and_true, true_and, false_and, and_false, or_true, true_or, or_false, false_or, or_self, reduceCtorEq, mm_q, Option.getD_some, cI_some, cJ_some, cV_some, cS_some, kd_sI, kd_sL, kd_sR, kd_cp, ln_sI, ln_sL, ln_sR, ln_cp, gR_sI, gR_sL, gR_sR, gR_cp, gL_sI, gL_sR, gL_cp, gI_sL, gI_sR, iI_add, iI_sub, iI_mul, iI_neg, iI_in, iI_tn, iI_lt, iI_eq, Nat.reduceLeDiff, Nat.reduceEqDiff, Nat.reduceAdd, Int.reduceEq, Int.reduceLT, Int.reduceLE, Int.reduceNeg, Int.reduceAdd, Int.reduceSub, Int.reduceMul, show ¬ k < li D 0 by omega, y1, y2, h0]
  | r + 1, k, bad, good, B, m, hk, k0, b0, b1, h, hg, hN, hh, h0, hIB, hB0 => by
    obtain ⟨q0, q1⟩ := hI.2.2.2.2.2.1
    have xf := shX h.1
    have sf := stF h.1 h.2.1
    have pf := spF h.1 hp
    have hf := hF h.1 h159
    have k1 : k < li D 0 := by omega
    obtain ⟨⟨n0, n1⟩, hn⟩ := id hNN
    obtain ⟨⟨y0, y1⟩, -⟩ := hn k k0 k1
    obtain ⟨ac, -⟩ := hN.2 k k0 k1
    have l0 := lineB_0 (B := B) hNN k0 k1
    rw [sg_117_30 (by omega)]
    have fin : ∀ (bad' good' : Int) (m1 : mm_M), FC m m1 → RQ D m1 s → HD D m1 159 B → mm_gI m1 159 0 = iI (B 0) → -1 ≤ bad' → bad' ≤ 30 → ∃ m', mm_ev d 117 104 [some (.ref 100), some (.int (iI (what))), some (.int (iI (bad'))), some (.int (iI (good'))), some (.int (iI (k)))] [] m1 = some (some (some (.int (iI (pick3 (judGo D r (k + 1) bad' good' (lineB D k B)) what)))), m') ∧ FC m m' := by
      intro bad' good' m1 f1 h1 hh1 h01 c0 c1
      have xf1 := shX h1.1
      have hg1 := (f1.gR (a := 100) (k := 3) rfl).trans hg
      have hN1 := hN.fc hp f1
      have pf1 := spF h1.1 hp
      obtain ⟨m2, e2, f2, hh2, h02⟩ := C63 (d := d - 1) h1.1 hp hN1 hNN hh1 h01 hI hIB (by omega) k0 k1
      have c2 := FrD_C f2
      obtain ⟨m', e3, f3⟩ := C117L hI hL hNN hp hd what_0 what_1 r (k + 1) bad' good' (lineB D k B) m2 (by omega) (by omega) c0 c1 (h1.fc c2 q1) ((c2.gR (a := 100) (k := 3) rfl).trans hg1) (hN1.fc hp c2) hh2 h02 (hIB.line hI hNN k0 k1 (by omega)) (by omega)
      refine ⟨m', ?_, (f1.tr c2).tr f3⟩
      rw [sg_117_104 (by omega)]
      simp (disch := omega) only [xf1, pf1, hg1, ↓reduceIte, not_false_eq_true, not_true_eq_false, and_self, and_true, true_and, false_and, and_false, or_true, true_or, or_false, false_or, or_self, reduceCtorEq, mm_q, Option.getD_some, cI_some, cJ_some, cV_some, cS_some, kd_sI, kd_sL, kd_sR, kd_cp, ln_sI, ln_sL, ln_sR, ln_cp, gR_sI, gR_sL, gR_sR, gR_cp, gL_sI, gL_sR, gL_cp, gI_sL, gI_sR, iI_add, iI_sub, iI_mul, iI_neg, iI_in, iI_tn, iI_lt, iI_eq, Nat.reduceLeDiff, Nat.reduceEqDiff, Nat.reduceAdd, Int.reduceEq, Int.reduceLT, Int.reduceLE, Int.reduceNeg, Int.reduceAdd, Int.reduceSub, Int.reduceMul, e2]
      exact e3
    unfold judGo
    by_cases z : li D (1 + 3 * k) = 3
    · obtain ⟨m1, e1, f1, r1⟩ := C85 (d := d - 1) (take := B 0) (late := true) h.1 h.2.1 here2 h159 h.2.2.2.1 hh hI hL (by omega)
      have h1 := h.fc f1.C q1
      obtain ⟨m2, e2, f2⟩ := C91 (d := d - 1) h1.1 h1.2.1 here2 h1.2.2.2.1 r1 hI hIB (by omega)
      have c2 := f2.TC here2
      have h2 := h1.fc c2 q1
      have xf1 := shX h1.1
      have wf1 := wF h1.1 here2
      have hh2 : HD D m2 159 B := (hh.fw h159 here2 f1).fT f2
      have h02 : mm_gI m2 159 0 = iI (B 0) := ((f2.gI rfl).trans (f1.2.2.2.1 159 0 rfl)).trans h0
      obtain ⟨m', e3, f3⟩ := fin (if goodS D B = true then bad else if bad < 0 then k else bad) (good + bI (goodS D B)) m2 (f1.C.tr c2) h2 hh2 h02 (by split; omega; split <;> omega) (by split; omega; split <;> omega)
      refine ⟨m', ?_, f3⟩
      rw [bI_t] at e1
      rw [if_pos z]
      have el : lineB D k B = nextB B := by unfold lineB; rw [if_neg (by omega), if_neg (by omega), if_neg (by omega)]
      rw [el] at e3
      rw [← e3]
      have wf := wF h.1 here2
      simp (disch := omega) only [xf, sf, pf, hf, wf, h.2.2.1, hg, hN.1, ↓reduceIte, not_false_eq_true, not_true_eq_false, and_self, and_true, true_and, false_and, and_false, or_true, true_or, or_false, false_or, or_self, reduceCtorEq, mm_q, Option.getD_some, cI_some, cJ_some, cV_some, cS_some, kd_sI, kd_sL, kd_sR, kd_cp, ln_sI, ln_sL, ln_sR, ln_cp, gR_sI, gR_sL, gR_sR, gR_cp, gL_sI, gL_sR, gL_cp, gI_sL, gI_sR, iI_add, iI_sub, iI_mul, iI_neg, iI_in, iI_tn, iI_lt, iI_eq, Nat.reduceLeDiff, Nat.reduceEqDiff, Nat.reduceAdd, Int.reduceEq, Int.reduceLT, Int.reduceLE, Int.reduceNeg, Int.reduceAdd, Int.reduceSub, Int.reduceMul, k1, ac, z, h0, e1]
      rw [sg_117_80 (by omega)]
      cases g : goodS D B
      · rw [g] at e2
        by_cases y : bad < 0
        · simp (disch := omega) only [xf1, wf1, ↓reduceIte, not_false_eq_true, not_true_eq_false, and_self, and_true, true_and, false_and, and_false, or_true, true_or, or_false, false_or, or_self, reduceCtorEq, mm_q, Option.getD_some, cI_some, cJ_some, cV_some, cS_some, kd_sI, kd_sL, kd_sR, kd_cp, ln_sI, ln_sL, ln_sR, ln_cp, gR_sI, gR_sL, gR_sR, gR_cp, gL_sI, gL_sR, gL_cp, gI_sL, gI_sR, iI_add, iI_sub, iI_mul, iI_neg, iI_in, iI_tn, iI_lt, iI_eq, Nat.reduceLeDiff, Nat.reduceEqDiff, Nat.reduceAdd, Int.reduceEq, Int.reduceLT, Int.reduceLE, Int.reduceNeg, Int.reduceAdd, Int.reduceSub, Int.reduceMul, bI_t, bI_f, decide_true, decide_false, Bool.and_true, Bool.and_false, Bool.true_and, Bool.false_and, Bool.false_eq_true, Bool.and_self, Bool.not_true, Bool.not_false, Bool.true_or, Bool.false_or, Bool.or_true, Bool.or_false, e2, y, show bad = -1 by omega]
          rw [show good + 0 = good by omega]
        · simp (disch := omega) only [xf1, wf1, ↓reduceIte, not_false_eq_true, not_true_eq_false, and_self, and_true, true_and, false_and, and_false, or_true, true_or, or_false, false_or, or_self, reduceCtorEq, mm_q, Option.getD_some, cI_some, cJ_some, cV_some, cS_some, kd_sI, kd_sL, kd_sR, kd_cp, ln_sI, ln_sL, ln_sR, ln_cp, gR_sI, gR_sL, gR_sR, gR_cp, gL_sI, gL_sR, gL_cp, gI_sL, gI_sR, iI_add, iI_sub, iI_mul, iI_neg, iI_in, iI_tn, iI_lt, iI_eq, Nat.reduceLeDiff, Nat.reduceEqDiff, Nat.reduceAdd, Int.reduceEq, Int.reduceLT, Int.reduceLE, Int.reduceNeg, Int.reduceAdd, Int.reduceSub, Int.reduceMul, bI_t, bI_f, decide_true, decide_false, Bool.and_true, Bool.and_false, Bool.true_and, Bool.false_and, Bool.false_eq_true, Bool.and_self, Bool.not_true, Bool.not_false, Bool.true_or, Bool.false_or, Bool.or_true, Bool.or_false, e2, y, show ¬ bad = -1 by omega]
          rw [show good + 0 = good by omega]
      · rw [g] at e2
        simp (disch := omega) only [xf1, wf1, ↓reduceIte, not_false_eq_true, not_true_eq_false, and_self, and_true, true_and, false_and, and_false, or_true, true_or, or_false, false_or, or_self, reduceCtorEq, mm_q, Option.getD_some, cI_some, cJ_some, cV_some, cS_some, kd_sI, kd_sL, kd_sR, kd_cp, ln_sI, ln_sL, ln_sR, ln_cp, gR_sI, gR_sL, gR_sR, gR_cp, gL_sI, gL_sR, gL_cp, gI_sL, gI_sR, iI_add, iI_sub, iI_mul, iI_neg, iI_in, iI_tn, iI_lt, iI_eq, Nat.reduceLeDiff, Nat.reduceEqDiff, Nat.reduceAdd, Int.reduceEq, Int.reduceLT, Int.reduceLE, Int.reduceNeg, Int.reduceAdd, Int.reduceSub, Int.reduceMul, bI_t, bI_f, decide_true, decide_false, Bool.and_true, Bool.and_false, Bool.true_and, Bool.false_and, Bool.false_eq_true, Bool.and_self, Bool.not_true, Bool.not_false, Bool.true_or, Bool.false_or, Bool.or_true, Bool.or_false, e2]
    · obtain ⟨m', e3, f3⟩ := fin bad good m FC.rf h hh h0 b0 b1
      refine ⟨m', ?_, f3⟩
      rw [if_neg z]
      simp (disch := omega) only [xf, sf, pf, hg, hN.1, ↓reduceIte, not_false_eq_true, not_true_eq_false, and_self, and_true, true_and, false_and, and_false, or_true, true_or, or_false, false_or, or_self, reduceCtorEq, mm_q, Option.getD_some, cI_some, cJ_some, cV_some, cS_some, kd_sI, kd_sL, kd_sR, kd_cp, ln_sI, ln_sL, ln_sR, ln_cp, gR_sI, gR_sL, gR_sR, gR_cp, gL_sI, gL_sR, gL_cp, gI_sL, gI_sR, iI_add, iI_sub, iI_mul, iI_neg, iI_in, iI_tn, iI_lt, iI_eq, Nat.reduceLeDiff, Nat.reduceEqDiff, Nat.reduceAdd, Int.reduceEq, Int.reduceLT, Int.reduceLE, Int.reduceNeg, Int.reduceAdd, Int.reduceSub, Int.reduceMul, k1, ac, show ¬ 17 + li D (1 + 3 * k) = 20 by omega]
      exact e3
/-- judged -/
theorem C117 (h : RQ D m s) (hI : InvS D) (hL : InvL D) (hNN : InvN D) (hp : isSc p) (hg : mm_gR m 100 3 = some p) (hN : RN D m p) (hd : 8 ≤ d) {what : Int} (what_0 : -2147483648 ≤ what) (what_1 : what < 2147483648) : ∃ m', mm_ev d 117 0 [some (.ref 100), some (.int (iI (what))), none, none, none] [] m = some (some (some (.int (iI (judS D what)))), m') ∧ FC m m' := by
  obtain ⟨q0, q1⟩ := hI.2.2.2.2.2.1
  have xf := shX h.1
  have hf := hF h.1 h159
  rw [sg_117_0 (by omega)]
  unfold judS
  cases z2 : inB what 0 2
  · have z3 : ¬ (0 ≤ what ∧ what ≤ 2) := fun y => by rw [inB_t.mpr y] at z2; cases z2
    refine ⟨m, ?_, FC.rf⟩
    by_cases z4 : what < 0
    · simp (disch := omega) only [↓reduceIte, not_false_eq_true, not_true_eq_false, and_self, and_true, true_and, false_and, and_false, or_true, true_or, or_false, false_or, or_self, reduceCtorEq, mm_q, Option.getD_some, cI_some, cJ_some, cV_some, cS_some, kd_sI, kd_sL, kd_sR, kd_cp, ln_sI, ln_sL, ln_sR, ln_cp, gR_sI, gR_sL, gR_sR, gR_cp, gL_sI, gL_sR, gL_cp, gI_sL, gI_sR, iI_add, iI_sub, iI_mul, iI_neg, iI_in, iI_tn, iI_lt, iI_eq, Nat.reduceLeDiff, Nat.reduceEqDiff, Nat.reduceAdd, Int.reduceEq, Int.reduceLT, Int.reduceLE, Int.reduceNeg, Int.reduceAdd, Int.reduceSub, Int.reduceMul, bI_t, bI_f, decide_true, decide_false, Bool.and_true, Bool.and_false, Bool.true_and, Bool.false_and, Bool.false_eq_true, Bool.and_self, Bool.not_true, Bool.not_false, Bool.true_or, Bool.false_or, Bool.or_true, Bool.or_false, z4]
    · simp (disch := omega) only [↓reduceIte, not_false_eq_true, not_true_eq_false, and_self, and_true, true_and, false_and, and_false, or_true, true_or, or_false, false_or, or_self, reduceCtorEq, mm_q, Option.getD_some, cI_some, cJ_some, cV_some, cS_some, kd_sI, kd_sL, kd_sR, kd_cp, ln_sI, ln_sL, ln_sR, ln_cp, gR_sI, gR_sL, gR_sR, gR_cp, gL_sI, gL_sR, gL_cp, gI_sL, gI_sR, iI_add, iI_sub, iI_mul, iI_neg, iI_in, iI_tn, iI_lt, iI_eq, Nat.reduceLeDiff, Nat.reduceEqDiff, Nat.reduceAdd, Int.reduceEq, Int.reduceLT, Int.reduceLE, Int.reduceNeg, Int.reduceAdd, Int.reduceSub, Int.reduceMul, bI_t, bI_f, decide_true, decide_false, Bool.and_true, Bool.and_false, Bool.true_and, Bool.false_and, Bool.false_eq_true, Bool.and_self, Bool.not_true, Bool.not_false, Bool.true_or, Bool.false_or, Bool.or_true, Bool.or_false, z4, show 2 < what by omega]
  · obtain ⟨b0, b1⟩ := inB_t.mp z2
    obtain ⟨n0, n1⟩ := hNN.1
    obtain ⟨m1, e1, f1, g1, hh1⟩ := C10 (d := d - 1) h.1 h.2.1 h159 (by rcases h.2.1 with e | e <;> omega) h.2.2.2.1 hI (by omega)
    have c1 := FrD_C f1
    obtain ⟨m', e2, f2⟩ := C117L (s := s) hI hL hNN hp hd what_0 what_1 (li D 0).toNat 0 (-1) 0 (begB D) m1 (by omega) (by omega) (by omega) (by omega) (h.fc c1 q1) ((c1.gR (a := 100) (k := 3) rfl).trans hg) (hN.fc hp c1) hh1 (by rw [g1]; rfl) (begB_ok hI) (by unfold begB; rw [if_pos rfl]; omega)
    refine ⟨m', ?_, c1.tr f2⟩
    simp (disch := omega) only [xf, hf, h.2.2.1, ↓reduceIte, not_false_eq_true, not_true_eq_false, and_self, and_true, true_and, false_and, and_false, or_true, true_or, or_false, false_or, or_self, reduceCtorEq, mm_q, Option.getD_some, cI_some, cJ_some, cV_some, cS_some, kd_sI, kd_sL, kd_sR, kd_cp, ln_sI, ln_sL, ln_sR, ln_cp, gR_sI, gR_sL, gR_sR, gR_cp, gL_sI, gL_sR, gL_cp, gI_sL, gI_sR, iI_add, iI_sub, iI_mul, iI_neg, iI_in, iI_tn, iI_lt, iI_eq, Nat.reduceLeDiff, Nat.reduceEqDiff, Nat.reduceAdd, Int.reduceEq, Int.reduceLT, Int.reduceLE, Int.reduceNeg, Int.reduceAdd, Int.reduceSub, Int.reduceMul, bI_t, bI_f, decide_true, decide_false, Bool.and_true, Bool.and_false, Bool.true_and, Bool.false_and, Bool.false_eq_true, Bool.and_self, Bool.not_true, Bool.not_false, Bool.true_or, Bool.false_or, Bool.or_true, Bool.or_false, show ¬ what < 0 by omega, show ¬ 2 < what by omega, e1]
    exact e2
theorem C151 {G : Int} (g0 : 0 ≤ G) (g1 : G < 2147483648) : mm_ev d 151 0 [some (.long (lI G)), none] [] m = some (some (some (.long (lI (nx G)))), m) := by
  have n1 : ¬ lI 2147483648 = lI 0 := by decide
  rw [sg_151_0, if_neg n1, lI_mul, lI_add, lI_rem (by omega) (by omega) (by omega) (by omega)]
  rfl
theorem lg_lt {a b : Int} (a0 : -9223372036854775808 ≤ a) (a1 : a < 9223372036854775808) (b0 : -9223372036854775808 ≤ b) (b1 : b < 9223372036854775808) : (iI 0 < lg_cmp (lI a) (lI b)) = (b < a) := by
  apply propext
  unfold lg_cmp
  have e : (lI a > lI b) ↔ b < a := by
    show lI b < lI a ↔ _
    rw [Int64.lt_iff_toInt_lt, lI_val a0 a1, lI_val b0 b1]
  split
  · next z => exact ⟨fun _ => e.mp z, fun _ => by decide⟩
  · next z =>
    refine ⟨fun q => ?_, fun q => absurd (e.mpr q) z⟩
    split at q
    · exact absurd q (by decide)
    · exact absurd q (by decide)
/-- drawLates -/
theorem C150L (hI : InvS D) (hd : 2 ≤ d) {g0 : Int64} : ∀ (r : Nat) (w : Int) (q : Int × (Int → Int)) (z : Option Value) (m : mm_M), w = st D 6 - r → 0 ≤ w → RQ D m s → HD D m 159 q.2 → InvB D q.2 → 0 ≤ q.1 → q.1 < 2147483648 → ∃ m', mm_ev d 150 5 [some (.ref 100), some (.long g0), none, some (.long (lI q.1)), none, some (.int (iI (w))), z] [] m = some (some (some (.long (lI (latesGo r w q).1))), m') ∧ Fr (scD 159) m m' ∧ HD D m' 159 (latesGo r w q).2 ∧ InvB D (latesGo r w q).2 ∧ 0 ≤ (latesGo r w q).1 ∧ (latesGo r w q).1 < 2147483648
  | 0, w, q, z, m, hr, w0, h, hh, hIB, G0, G1 => by
    have xf := shX h.1
    have sf := stF h.1 h.2.1
    obtain ⟨q0, q1⟩ := hI.2.2.2.2.2.1
    refine ⟨m, ?_, Fr.rf, hh, hIB, G0, G1⟩
    rw [sg_150_5 (by omega)]
    unfold latesGo
    simp (disch := omega) only [xf, sf, h.2.2.1, h.2.2.2.1.1.2.2.2.2.2.2.2.1, ↓reduceIte, not_false_eq_true, not_true_eq_false, and_self, and_true, true_and, false_and, and_false, or_true, true_or, or_false, false_or, or_self, reduceCtorEq, mm_q, Option.getD_some, cI_some, cJ_some, cV_some, cS_some, kd_sI, kd_sL, kd_sR, kd_cp, ln_sI, ln_sL, ln_sR, ln_cp, gR_sI, gR_sL, gR_sR, gR_cp, gL_sI, gL_sR, gL_cp, gI_sL, gI_sR, iI_add, iI_sub, iI_mul, iI_neg, iI_in, iI_tn, iI_lt, iI_eq, Nat.reduceLeDiff, Nat.reduceEqDiff, Nat.reduceAdd, Int.reduceEq, Int.reduceLT, Int.reduceLE, Int.reduceNeg, Int.reduceAdd, Int.reduceSub, Int.reduceMul, show ¬ w < st D 6 by omega]
  | r + 1, w, q, z, m, hr, w0, h, hh, hIB, G0, G1 => by
    have xf := shX h.1
    have sf := stF h.1 h.2.1
    have hf := hF h.1 h159
    obtain ⟨q0, q1⟩ := hI.2.2.2.2.2.1
    have w1 : w < st D 6 := by omega
    have r1 := nx_r (G := q.1)
    have r2 := nx_r (G := nx q.1)
    have n1 : ¬ lI 65536 = lI 0 := by decide
    have n2 : ¬ lI 10 = lI 0 := by decide
    have n3 : ¬ lI 9 = lI 0 := by decide
    have d0 := Int.ediv_nonneg r1.1 (show (0 : Int) ≤ 65536 by omega)
    have d1 := Int.ediv_le_self (65536 : Int) r1.1
    have v0 := Int.emod_nonneg (nx q.1 / 65536) (show (10 : Int) ≠ 0 by omega)
    have v1 := Int.emod_lt_of_pos (nx q.1 / 65536) (show (0 : Int) < 10 by omega)
    have e1 : lRem (lI (nx q.1) / lI 65536) (lI 10) = lI (nx q.1 / 65536 % 10) := by
      rw [lI_div r1.1 (by omega) (by omega) (by omega), lI_rem d0 (by omega) (by omega) (by omega)]
    have key : ∀ v : Int, 0 ≤ v → v ≤ 99 → HD D (mm_sI m 162 w.toNat (iI v)) 159 (updB q.2 (17 + w) v) ∧ InvB D (updB q.2 (17 + w) v) ∧ Fr (scD 159) m (mm_sI m 162 w.toNat (iI v)) := fun v x0 x1 => ⟨fun j j0 j1 => by
      obtain ⟨a, b, c⟩ := hh j j0 j1
      rw [gI_sI, gI_sI, gI_sI]
      unfold updB
      rw [if_neg (by omega), if_neg (by omega), if_neg (by omega), if_neg (by omega)]
      refine ⟨a, b, ?_⟩
      by_cases y : j = w
      · rw [if_pos (by omega), if_pos (by omega)]
      · rw [if_neg (by omega), if_neg (by omega)]; exact c, hIB.upd (by omega) (by omega) (by omega) (by omega) q1, Fr.sI (scD_t (by omega) (by omega))⟩
    unfold latesGo
    rw [sg_150_5 (by omega)]
    simp (disch := omega) only [xf, sf, h.2.2.1, h.2.2.2.1.1.2.2.2.2.2.2.2.1, ↓reduceIte, not_false_eq_true, not_true_eq_false, and_self, and_true, true_and, false_and, and_false, or_true, true_or, or_false, false_or, or_self, reduceCtorEq, mm_q, Option.getD_some, cI_some, cJ_some, cV_some, cS_some, kd_sI, kd_sL, kd_sR, kd_cp, ln_sI, ln_sL, ln_sR, ln_cp, gR_sI, gR_sL, gR_sR, gR_cp, gL_sI, gL_sR, gL_cp, gI_sL, gI_sR, iI_add, iI_sub, iI_mul, iI_neg, iI_in, iI_tn, iI_lt, iI_eq, Nat.reduceLeDiff, Nat.reduceEqDiff, Nat.reduceAdd, Int.reduceEq, Int.reduceLT, Int.reduceLE, Int.reduceNeg, Int.reduceAdd, Int.reduceSub, Int.reduceMul, w1, C151 G0 G1]
    rw [sg_150_24 (by omega), e1]
    unfold lateStep
    by_cases z1 : nx q.1 / 65536 % 10 < 2
    · have d2 := Int.ediv_nonneg r2.1 (show (0 : Int) ≤ 65536 by omega)
      have d3 := Int.ediv_le_self (65536 : Int) r2.1
      have y0 := Int.emod_nonneg (nx (nx q.1) / 65536) (show (9 : Int) ≠ 0 by omega)
      have y1 := Int.emod_lt_of_pos (nx (nx q.1) / 65536) (show (0 : Int) < 9 by omega)
      have e2 : lRem (lI (nx (nx q.1)) / lI 65536) (lI 9) = lI (nx (nx q.1) / 65536 % 9) := by
        rw [lI_div r2.1 (by omega) (by omega) (by omega), lI_rem d2 (by omega) (by omega) (by omega)]
      obtain ⟨k1, k2, k3⟩ := key (nx (nx q.1) / 65536 % 9 + 1) (by omega) (by omega)
      obtain ⟨m', e3, f3, r3⟩ := C150L hI hd (g0 := g0) r (w + 1) (nx (nx q.1), updB q.2 (17 + w) (nx (nx q.1) / 65536 % 9 + 1)) (some (.int (iI (nx (nx q.1) / 65536 % 9 + 1)))) _ (by omega) (by omega) (h.fc (FrD_C k3) q1) k1 k2 r2.1 r2.2
      rw [if_pos z1]
      refine ⟨m', ?_, k3.tr f3, r3⟩
      rw [if_neg n1, if_neg n2, if_neg (by rw [lg_lt (by omega) (by omega) (by omega) (by omega)]; omega), C151 r1.1 r1.2]
      simp (disch := omega) only [↓reduceIte, not_false_eq_true, not_true_eq_false, and_self, and_true, true_and, reduceCtorEq, mm_q, Option.getD_some, cI_some, cJ_some, cV_some, cS_some, Nat.reduceLeDiff, Nat.reduceEqDiff, n1, n3, e2, lI_i, iI_add]
      rw [sg_150_58]
      simp (disch := omega) only [xf, hf, ↓reduceIte, not_false_eq_true, not_true_eq_false, and_self, and_true, true_and, false_and, and_false, or_true, true_or, or_false, false_or, or_self, reduceCtorEq, mm_q, Option.getD_some, cI_some, cJ_some, cV_some, cS_some, kd_sI, kd_sL, kd_sR, kd_cp, ln_sI, ln_sL, ln_sR, ln_cp, gR_sI, gR_sL, gR_sR, gR_cp, gL_sI, gL_sR, gL_cp, gI_sL, gI_sR, iI_add, iI_sub, iI_mul, iI_neg, iI_in, iI_tn, iI_lt, iI_eq, Nat.reduceLeDiff, Nat.reduceEqDiff, Nat.reduceAdd, Int.reduceEq, Int.reduceLT, Int.reduceLE, Int.reduceNeg, Int.reduceAdd, Int.reduceSub, Int.reduceMul]
      exact e3
    · obtain ⟨k1, k2, k3⟩ := key 0 (by omega) (by omega)
      obtain ⟨m', e3, f3, r3⟩ := C150L hI hd (g0 := g0) r (w + 1) (nx q.1, updB q.2 (17 + w) 0) (some (.int (iI (0)))) _ (by omega) (by omega) (h.fc (FrD_C k3) q1) k1 k2 r1.1 r1.2
      rw [if_neg z1]
      refine ⟨m', ?_, k3.tr f3, r3⟩
      rw [if_neg n1, if_neg n2, if_pos (by rw [lg_lt (by omega) (by omega) (by omega) (by omega)]; omega), sg_150_58]
      simp (disch := omega) only [xf, hf, ↓reduceIte, not_false_eq_true, not_true_eq_false, and_self, and_true, true_and, false_and, and_false, or_true, true_or, or_false, false_or, or_self, reduceCtorEq, mm_q, Option.getD_some, cI_some, cJ_some, cV_some, cS_some, kd_sI, kd_sL, kd_sR, kd_cp, ln_sI, ln_sL, ln_sR, ln_cp, gR_sI, gR_sL, gR_sR, gR_cp, gL_sI, gL_sR, gL_cp, gI_sL, gI_sR, iI_add, iI_sub, iI_mul, iI_neg, iI_in, iI_tn, iI_lt, iI_eq, Nat.reduceLeDiff, Nat.reduceEqDiff, Nat.reduceAdd, Int.reduceEq, Int.reduceLT, Int.reduceLE, Int.reduceNeg, Int.reduceAdd, Int.reduceSub, Int.reduceMul]
      exact e3
end
