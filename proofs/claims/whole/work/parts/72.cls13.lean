section
variable {D : Nat → Nat → Int32} {m m' m'' : mm_M} {d s W L H p n : Nat} {B : Int → Int} {take : Int} {late : Bool}
theorem latesGo_0 : ∀ (r : Nat) (w : Int) (q : Int × (Int → Int)), 0 ≤ w → (latesGo r w q).2 0 = q.2 0
  | 0, _, _, _ => rfl
  | r + 1, w, q, w0 => by
    unfold latesGo
    rw [latesGo_0 r (w + 1) _ (by omega)]
    unfold lateStep
    split
    · simp only [updB]; rw [if_neg (by omega)]
    · simp only [updB]; rw [if_neg (by omega)]
theorem HD.e (h : HD D m H B) {C : Int → Int} (e : ∀ j, 1 ≤ j → B j = C j) : HD D m H C := fun w w0 w1 => by
  obtain ⟨a, b, c⟩ := h w w0 w1
  rw [e _ (by omega)] at a
  rw [e _ (by omega)] at b
  rw [e _ (by omega)] at c
  exact ⟨a, b, c⟩
/-- days' loop -/
theorem C149L (hI : InvS D) (hL : InvL D) (hIB0 : InvB D (sa D)) (hd : 8 ≤ d) {seed takes what : Int} (y0 : 1 ≤ takes) (y1 : takes ≤ 20) (x0 : 0 ≤ what) (x1 : what ≤ 2) : ∀ (r : Nat) (n : Int) (q : Int × Int × Int × Int) (gc fw : Int) (c : Int × (Int → Int)) (z : Option Value) (m : mm_M), n = takes - r → 0 ≤ n → (what = 0 → gc = q.1) → (n = 0 → fw = 9) → (0 < n → fw = q.2.2.2) → 0 ≤ fw → fw ≤ 9 → RQ D m s → HD D m 159 c.2 → InvB D c.2 → c.2 0 = sa D 0 + n → sa D 0 ≤ 60 → 0 ≤ c.1 → c.1 < 2147483648 → ∃ m', mm_ev d 149 76 [some (.ref 100), some (.int (iI (seed))), some (.int (iI (takes))), some (.int (iI (what))), some (.int (iI (1))), some (.int (iI (gc))), some (.int (iI (q.2.1))), some (.int (iI (q.2.2.1))), some (.int (iI (fw))), some (.long (lI c.1)), none, some (.int (iI (n))), z] [] m = some (some (some (.int (iI (pick3 (daysGo D r n q c) what)))), m') ∧ FC m m'
  | 0, n, q, gc, fw, c, z, m, hn, n0, h1, h2, h3, f0, f1, h, hh, hIB, hB0, s60, G0, G1 => by
    refine ⟨m, ?_, FC.rf⟩
    rw [sg_149_76 (by omega)]
    unfold daysGo pick3
    by_cases w1 : what = 0
    · simp (disch := omega) only [↓reduceIte, not_false_eq_true, not_true_eq_false, and_self, and_true, true_and, false_and, and_false, or_true, true_or, or_false, false_or, or_self, reduceCtorEq, mm_q, Option.getD_some, cI_some, cJ_some, cV_some, cS_some, kd_sI, kd_sL, kd_sR, kd_cp, ln_sI, ln_sL, ln_sR, ln_cp, gR_sI, gR_sL, gR_sR, gR_cp, gL_sI, gL_sR, gL_cp, gI_sL, gI_sR, iI_add, iI_sub, iI_mul, iI_neg, iI_in, iI_tn, iI_lt, iI_eq, Nat.reduceLeDiff, Nat.reduceEqDiff, Nat.reduceAdd, Int.reduceEq, Int.reduceLT, Int.reduceLE, Int.reduceNeg, Int.reduceAdd, Int.reduceSub, Int.reduceMul, show ¬ n < takes by omega, w1, h1 w1]
    · by_cases w2 : what = 1
      · simp (disch := omega) only [↓reduceIte, not_false_eq_true, not_true_eq_false, and_self, and_true, true_and, false_and, and_false, or_true, true_or, or_false, false_or, or_self, reduceCtorEq, mm_q, Option.getD_some, cI_some, cJ_some, cV_some, cS_some, kd_sI, kd_sL, kd_sR, kd_cp, ln_sI, ln_sL, ln_sR, ln_cp, gR_sI, gR_sL, gR_sR, gR_cp, gL_sI, gL_sR, gL_cp, gI_sL, gI_sR, iI_add, iI_sub, iI_mul, iI_neg, iI_in, iI_tn, iI_lt, iI_eq, Nat.reduceLeDiff, Nat.reduceEqDiff, Nat.reduceAdd, Int.reduceEq, Int.reduceLT, Int.reduceLE, Int.reduceNeg, Int.reduceAdd, Int.reduceSub, Int.reduceMul, show ¬ n < takes by omega, w2]
      · simp (disch := omega) only [↓reduceIte, not_false_eq_true, not_true_eq_false, and_self, and_true, true_and, false_and, and_false, or_true, true_or, or_false, false_or, or_self, reduceCtorEq, mm_q, Option.getD_some, cI_some, cJ_some, cV_some, cS_some, kd_sI, kd_sL, kd_sR, kd_cp, ln_sI, ln_sL, ln_sR, ln_cp, gR_sI, gR_sL, gR_sR, gR_cp, gL_sI, gL_sR, gL_cp, gI_sL, gI_sR, iI_add, iI_sub, iI_mul, iI_neg, iI_in, iI_tn, iI_lt, iI_eq, Nat.reduceLeDiff, Nat.reduceEqDiff, Nat.reduceAdd, Int.reduceEq, Int.reduceLT, Int.reduceLE, Int.reduceNeg, Int.reduceAdd, Int.reduceSub, Int.reduceMul, show ¬ n < takes by omega, w1, w2]
  | r + 1, n, q, gc, fw, c, z, m, hn, n0, h1, h2, h3, f0, f1, h, hh, hIB, hB0, s60, G0, G1 => by
    obtain ⟨k8, k9⟩ := hI.2.2.2.2.2.1
    have xf := shX h.1
    have n1 : n < takes := by omega
    obtain ⟨m1, e1, g1, hh1, hIB1, G2, G3⟩ := C150L (d := d - 1) (s := s) hI (by omega) (g0 := lI c.1) (st D 6).toNat 0 c none m (by omega) (by omega) h hh hIB G0 G1
    have l0 := latesGo_0 (st D 6).toNat 0 c (by omega)
    have c1 := FrD_C g1
    have hq1 := h.fc c1 k9
    have e1' : mm_ev (d - 1) 150 0 [some (.ref 100), some (.long (lI c.1)), none, none, none, none, none] [] m = some (some (some (.long (lI (latesGo (st D 6).toNat 0 c).1))), m1) := by rw [sg_150_0]; exact e1
    unfold daysGo
    generalize hcc : latesGo (st D 6).toNat 0 c = c2 at e1' hh1 hIB1 G2 G3 l0 ⊢
    have xf1 := shX hq1.1
    have hf1 := hF hq1.1 h155
    have wf1 := wF hq1.1 here2
    obtain ⟨m2, e2, f2, r2⟩ := C85 (d := d - 1) (take := sa D 0 + n) (late := true) hq1.1 hq1.2.1 here2 h159 hq1.2.2.2.1 hh1 hI hL (by omega)
    rw [← hB0, ← l0] at r2
    have hq2 := hq1.fc f2.C k9
    have xf2 := shX hq2.1
    have wf2 := wF hq2.1 here2
    have e3 := C92 (d := d - 1) hq2.1 hq2.2.1 here2 hq2.2.2.2.1 r2 hI hIB1 (by omega)
    have mr := missedB_r hI (B := c2.2)
    obtain ⟨m3, rb, e4, f4, c4⟩ := C94 (d := d - 1) hq2.1 hq2.2.1 here2 hq2.2.2.2.1 r2 hI hIB1 (by omega)
    have hgd : GoodB D c2.2 ↔ missedB D c2.2 = 0 ∧ rb = false := by
      unfold GoodB
      rw [bump_e hI, ← c4]
      cases rb <;> simp
    have hh2 : HD D m2 159 c2.2 := hh1.fw h159 here2 f2
    have ge : ∀ b : Bool, (b = true ↔ (missedB D c2.2 = 0 ∧ rb = false)) → goodS D c2.2 = b := fun b hb => (good_b (by rw [hgd]; exact hb)).symm
    have fin : ∀ (gc' : Int) (m4 : mm_M), (what = 0 → gc' = q.1 + bI (goodS D c2.2)) → FC m2 m4 → HD D m4 159 c2.2 → ∃ m', mm_ev d 149 169 [some (.ref 100), some (.int (iI (seed))), some (.int (iI (takes))), some (.int (iI (what))), some (.int (iI (1))), some (.int (iI (gc'))), some (.int (iI (q.2.1 + missedB D c2.2))), some (.int (iI (if missedB D c2.2 < fw then n else q.2.2.1))), some (.int (iI (if missedB D c2.2 < fw then missedB D c2.2 else fw))), some (.long (lI c2.1)), none, some (.int (iI (n))), some (.int (iI (missedB D c2.2)))] [] m4 = some (some (some (.int (iI (pick3 (daysGo D r (n + 1) (dayStep D n q c2.2) (c2.1, updB c2.2 0 (c2.2 0 + 1))) what)))), m') ∧ FC m m' := by
      intro gc' m4 hg' f4 hh4
      have hq4 := hq2.fc f4 k9
      obtain ⟨m', e5, f5⟩ := C149L hI hL hIB0 hd (seed := seed) y0 y1 x0 x1 r (n + 1) (dayStep D n q c2.2) gc' (if missedB D c2.2 < fw then missedB D c2.2 else fw) (c2.1, updB c2.2 0 (c2.2 0 + 1)) (some (.int (iI (missedB D c2.2)))) m4 (by omega) (by omega) hg' (by omega) (by
        intro _
        unfold dayStep
        dsimp only
        by_cases y : n = 0
        · rw [if_pos y, if_pos (by have := h2 y; omega)]
        · rw [if_neg y, h3 (by omega)]) (by split <;> omega) (by split <;> omega) hq4 (hh4.e (fun j j1 => by show c2.2 j = updB c2.2 0 (c2.2 0 + 1) j; unfold updB; rw [if_neg (by omega)])) (hIB1.upd (by have := hIB1.1; omega) (by omega) (by omega) (by omega) k9) (by show updB c2.2 0 (c2.2 0 + 1) 0 = _; unfold updB; rw [if_pos rfl]; omega) s60 G2 G3
      refine ⟨m', ?_, ((c1.tr f2.C).tr f4).tr f5⟩
      rw [← e5, sg_149_169]
      have e6 : (dayStep D n q c2.2).2.2.1 = if missedB D c2.2 < fw then n else q.2.2.1 := by
        unfold dayStep
        dsimp only
        by_cases y : n = 0
        · rw [if_pos y, if_pos (by have := h2 y; omega)]
        · rw [if_neg y, ← h3 (by omega)]
      rw [e6]
      simp (disch := omega) only [↓reduceIte, not_false_eq_true, not_true_eq_false, and_self, and_true, true_and, false_and, and_false, or_true, true_or, or_false, false_or, or_self, reduceCtorEq, mm_q, Option.getD_some, cI_some, cJ_some, cV_some, cS_some, kd_sI, kd_sL, kd_sR, kd_cp, ln_sI, ln_sL, ln_sR, ln_cp, gR_sI, gR_sL, gR_sR, gR_cp, gL_sI, gL_sR, gL_cp, gI_sL, gI_sR, iI_add, iI_sub, iI_mul, iI_neg, iI_in, iI_tn, iI_lt, iI_eq, Nat.reduceLeDiff, Nat.reduceEqDiff, Nat.reduceAdd, Int.reduceEq, Int.reduceLT, Int.reduceLE, Int.reduceNeg, Int.reduceAdd, Int.reduceSub, Int.reduceMul]
      rfl
    have e116 : mm_ev d 149 76 [some (.ref 100), some (.int (iI (seed))), some (.int (iI (takes))), some (.int (iI (what))), some (.int (iI (1))), some (.int (iI (gc))), some (.int (iI (q.2.1))), some (.int (iI (q.2.2.1))), some (.int (iI (fw))), some (.long (lI c.1)), none, some (.int (iI (n))), z] [] m = mm_ev d 149 147 [some (.ref 100), some (.int (iI (seed))), some (.int (iI (takes))), some (.int (iI (what))), some (.int (iI (1))), some (.int (iI (gc))), some (.int (iI (q.2.1 + missedB D c2.2))), some (.int (iI (if missedB D c2.2 < fw then n else q.2.2.1))), some (.int (iI (if missedB D c2.2 < fw then missedB D c2.2 else fw))), some (.long (lI c2.1)), none, some (.int (iI (n))), some (.int (iI (missedB D c2.2)))] [] m2 := by
      rw [sg_149_76 (by omega)]
      simp (disch := omega) only [xf, ↓reduceIte, not_false_eq_true, not_true_eq_false, and_self, and_true, true_and, false_and, and_false, or_true, true_or, or_false, false_or, or_self, reduceCtorEq, mm_q, Option.getD_some, cI_some, cJ_some, cV_some, cS_some, kd_sI, kd_sL, kd_sR, kd_cp, ln_sI, ln_sL, ln_sR, ln_cp, gR_sI, gR_sL, gR_sR, gR_cp, gL_sI, gL_sR, gL_cp, gI_sL, gI_sR, iI_add, iI_sub, iI_mul, iI_neg, iI_in, iI_tn, iI_lt, iI_eq, Nat.reduceLeDiff, Nat.reduceEqDiff, Nat.reduceAdd, Int.reduceEq, Int.reduceLT, Int.reduceLE, Int.reduceNeg, Int.reduceAdd, Int.reduceSub, Int.reduceMul, n1, e1']
      rw [sg_149_88 (by omega)]
      rw [bI_t] at e2
      simp (disch := omega) only [xf1, hf1, wf1, hq1.2.2.1, hq1.2.2.2.2.2.2, ↓reduceIte, not_false_eq_true, not_true_eq_false, and_self, and_true, true_and, false_and, and_false, or_true, true_or, or_false, false_or, or_self, reduceCtorEq, mm_q, Option.getD_some, cI_some, cJ_some, cV_some, cS_some, kd_sI, kd_sL, kd_sR, kd_cp, ln_sI, ln_sL, ln_sR, ln_cp, gR_sI, gR_sL, gR_sR, gR_cp, gL_sI, gL_sR, gL_cp, gI_sL, gI_sR, iI_add, iI_sub, iI_mul, iI_neg, iI_in, iI_tn, iI_lt, iI_eq, Nat.reduceLeDiff, Nat.reduceEqDiff, Nat.reduceAdd, Int.reduceEq, Int.reduceLT, Int.reduceLE, Int.reduceNeg, Int.reduceAdd, Int.reduceSub, Int.reduceMul, e2]
      rw [sg_149_116 (by omega)]
      by_cases y : missedB D c2.2 < fw
      · simp (disch := omega) only [xf2, wf2, ↓reduceIte, not_false_eq_true, not_true_eq_false, and_self, and_true, true_and, false_and, and_false, or_true, true_or, or_false, false_or, or_self, reduceCtorEq, mm_q, Option.getD_some, cI_some, cJ_some, cV_some, cS_some, kd_sI, kd_sL, kd_sR, kd_cp, ln_sI, ln_sL, ln_sR, ln_cp, gR_sI, gR_sL, gR_sR, gR_cp, gL_sI, gL_sR, gL_cp, gI_sL, gI_sR, iI_add, iI_sub, iI_mul, iI_neg, iI_in, iI_tn, iI_lt, iI_eq, Nat.reduceLeDiff, Nat.reduceEqDiff, Nat.reduceAdd, Int.reduceEq, Int.reduceLT, Int.reduceLE, Int.reduceNeg, Int.reduceAdd, Int.reduceSub, Int.reduceMul, e3, y]
      · simp (disch := omega) only [xf2, wf2, ↓reduceIte, not_false_eq_true, not_true_eq_false, and_self, and_true, true_and, false_and, and_false, or_true, true_or, or_false, false_or, or_self, reduceCtorEq, mm_q, Option.getD_some, cI_some, cJ_some, cV_some, cS_some, kd_sI, kd_sL, kd_sR, kd_cp, ln_sI, ln_sL, ln_sR, ln_cp, gR_sI, gR_sL, gR_sR, gR_cp, gL_sI, gL_sR, gL_cp, gI_sL, gI_sR, iI_add, iI_sub, iI_mul, iI_neg, iI_in, iI_tn, iI_lt, iI_eq, Nat.reduceLeDiff, Nat.reduceEqDiff, Nat.reduceAdd, Int.reduceEq, Int.reduceLT, Int.reduceLE, Int.reduceNeg, Int.reduceAdd, Int.reduceSub, Int.reduceMul, e3, y]
    rw [e116, sg_149_147 (by omega)]
    by_cases u1 : missedB D c2.2 = 0
    · by_cases u2 : what = 0
      · cases rb
        · have g := ge true (by simp [u1])
          obtain ⟨m', e7, f7⟩ := fin (gc + 1) m3 (fun _ => by rw [h1 u2, g]; rfl) (f4.TC here2) (hh2.fT f4)
          refine ⟨m', ?_, f7⟩
          rw [bI_f] at e4
          rw [u1] at e7 ⊢
          simp (disch := omega) only [xf2, wf2, ↓reduceIte, not_false_eq_true, not_true_eq_false, and_self, and_true, true_and, false_and, and_false, or_true, true_or, or_false, false_or, or_self, reduceCtorEq, mm_q, Option.getD_some, cI_some, cJ_some, cV_some, cS_some, kd_sI, kd_sL, kd_sR, kd_cp, ln_sI, ln_sL, ln_sR, ln_cp, gR_sI, gR_sL, gR_sR, gR_cp, gL_sI, gL_sR, gL_cp, gI_sL, gI_sR, iI_add, iI_sub, iI_mul, iI_neg, iI_in, iI_tn, iI_lt, iI_eq, Nat.reduceLeDiff, Nat.reduceEqDiff, Nat.reduceAdd, Int.reduceEq, Int.reduceLT, Int.reduceLE, Int.reduceNeg, Int.reduceAdd, Int.reduceSub, Int.reduceMul, e4, u2] at e7 ⊢
          exact e7
        · have g := ge false (by simp)
          obtain ⟨m', e7, f7⟩ := fin gc m3 (fun _ => by rw [h1 u2, g]; simp [bI_f]) (f4.TC here2) (hh2.fT f4)
          refine ⟨m', ?_, f7⟩
          rw [bI_t] at e4
          rw [u1] at e7 ⊢
          simp (disch := omega) only [xf2, wf2, ↓reduceIte, not_false_eq_true, not_true_eq_false, and_self, and_true, true_and, false_and, and_false, or_true, true_or, or_false, false_or, or_self, reduceCtorEq, mm_q, Option.getD_some, cI_some, cJ_some, cV_some, cS_some, kd_sI, kd_sL, kd_sR, kd_cp, ln_sI, ln_sL, ln_sR, ln_cp, gR_sI, gR_sL, gR_sR, gR_cp, gL_sI, gL_sR, gL_cp, gI_sL, gI_sR, iI_add, iI_sub, iI_mul, iI_neg, iI_in, iI_tn, iI_lt, iI_eq, Nat.reduceLeDiff, Nat.reduceEqDiff, Nat.reduceAdd, Int.reduceEq, Int.reduceLT, Int.reduceLE, Int.reduceNeg, Int.reduceAdd, Int.reduceSub, Int.reduceMul, e4, u2] at e7 ⊢
          exact e7
      · obtain ⟨m', e7, f7⟩ := fin gc m2 (fun q => absurd q u2) FC.rf hh2
        refine ⟨m', ?_, f7⟩
        rw [if_pos (by rw [u1]), if_neg (by rw [iI_eq] <;> omega)]
        exact e7
    · have g := ge false (by simp [u1])
      obtain ⟨m', e7, f7⟩ := fin gc m2 (fun w => by rw [h1 w, g]; simp [bI_f]) FC.rf hh2
      refine ⟨m', ?_, f7⟩
      rw [if_neg (by rw [iI_eq] <;> omega)]
      exact e7
/-- days -/
theorem C149 (h : RQ D m s) (hI : InvS D) (hL : InvL D) (hIB : InvB D (sa D)) (s60 : sa D 0 ≤ 60) (hd : 8 ≤ d) {seed takes what : Int} (seed_0 : -2147483648 ≤ seed) (seed_1 : seed < 2147483648) (takes_0 : -2147483648 ≤ takes) (takes_1 : takes < 2147483648) (what_0 : -2147483648 ≤ what) (what_1 : what < 2147483648) : ∃ m', mm_ev d 149 0 [some (.ref 100), some (.int (iI (seed))), some (.int (iI (takes))), some (.int (iI (what))), none, none, none, none, none, none, none, none, none] [] m = some (some (some (.int (iI (daysS D seed takes what)))), m') ∧ FC m m' := by
  obtain ⟨k8, k9⟩ := hI.2.2.2.2.2.1
  have xf := shX h.1
  have hf := hF h.1 h159
  have hf2 := hF h.1 h155
  have e27 : ∀ b : Bool, b = (inB seed 0 9999 && inB takes 1 20) → ∃ m', mm_ev d 149 27 [some (.ref 100), some (.int (iI (seed))), some (.int (iI (takes))), some (.int (iI (what))), none, none, none, none, none, none, none, none, none] [.int (iI (bI b))] m = some (some (some (.int (iI (daysS D seed takes what)))), m') ∧ FC m m' := by
    intro b hb
    unfold daysS
    rw [sg_149_27 (by omega)]
    cases z1 : inB seed 0 9999
    · rw [z1] at hb
      exact ⟨m, by rw [hb]; simp (disch := omega) only [↓reduceIte, not_false_eq_true, not_true_eq_false, and_self, and_true, true_and, false_and, and_false, or_true, true_or, or_false, false_or, or_self, reduceCtorEq, mm_q, Option.getD_some, cI_some, cJ_some, cV_some, cS_some, kd_sI, kd_sL, kd_sR, kd_cp, ln_sI, ln_sL, ln_sR, ln_cp, gR_sI, gR_sL, gR_sR, gR_cp, gL_sI, gL_sR, gL_cp, gI_sL, gI_sR, iI_add, iI_sub, iI_mul, iI_neg, iI_in, iI_tn, iI_lt, iI_eq, Nat.reduceLeDiff, Nat.reduceEqDiff, Nat.reduceAdd, Int.reduceEq, Int.reduceLT, Int.reduceLE, Int.reduceNeg, Int.reduceAdd, Int.reduceSub, Int.reduceMul, bI_t, bI_f, decide_true, decide_false, Bool.and_true, Bool.and_false, Bool.true_and, Bool.false_and, Bool.false_eq_true, Bool.and_self, Bool.not_true, Bool.not_false, Bool.true_or, Bool.false_or, Bool.or_true, Bool.or_false], FC.rf⟩
    · cases z2 : inB takes 1 20
      · rw [z1, z2] at hb
        exact ⟨m, by rw [hb]; simp (disch := omega) only [↓reduceIte, not_false_eq_true, not_true_eq_false, and_self, and_true, true_and, false_and, and_false, or_true, true_or, or_false, false_or, or_self, reduceCtorEq, mm_q, Option.getD_some, cI_some, cJ_some, cV_some, cS_some, kd_sI, kd_sL, kd_sR, kd_cp, ln_sI, ln_sL, ln_sR, ln_cp, gR_sI, gR_sL, gR_sR, gR_cp, gL_sI, gL_sR, gL_cp, gI_sL, gI_sR, iI_add, iI_sub, iI_mul, iI_neg, iI_in, iI_tn, iI_lt, iI_eq, Nat.reduceLeDiff, Nat.reduceEqDiff, Nat.reduceAdd, Int.reduceEq, Int.reduceLT, Int.reduceLE, Int.reduceNeg, Int.reduceAdd, Int.reduceSub, Int.reduceMul, bI_t, bI_f, decide_true, decide_false, Bool.and_true, Bool.and_false, Bool.true_and, Bool.false_and, Bool.false_eq_true, Bool.and_self, Bool.not_true, Bool.not_false, Bool.true_or, Bool.false_or, Bool.or_true, Bool.or_false], FC.rf⟩
      · rw [z1, z2] at hb
        rw [hb]
        cases z3 : inB what 0 2
        · have z4 : ¬ (0 ≤ what ∧ what ≤ 2) := fun y => by rw [inB_t.mpr y] at z3; cases z3
          refine ⟨m, ?_, FC.rf⟩
          by_cases z5 : what < 0
          · simp (disch := omega) only [↓reduceIte, not_false_eq_true, not_true_eq_false, and_self, and_true, true_and, false_and, and_false, or_true, true_or, or_false, false_or, or_self, reduceCtorEq, mm_q, Option.getD_some, cI_some, cJ_some, cV_some, cS_some, kd_sI, kd_sL, kd_sR, kd_cp, ln_sI, ln_sL, ln_sR, ln_cp, gR_sI, gR_sL, gR_sR, gR_cp, gL_sI, gL_sR, gL_cp, gI_sL, gI_sR, iI_add, iI_sub, iI_mul, iI_neg, iI_in, iI_tn, iI_lt, iI_eq, Nat.reduceLeDiff, Nat.reduceEqDiff, Nat.reduceAdd, Int.reduceEq, Int.reduceLT, Int.reduceLE, Int.reduceNeg, Int.reduceAdd, Int.reduceSub, Int.reduceMul, bI_t, bI_f, decide_true, decide_false, Bool.and_true, Bool.and_false, Bool.true_and, Bool.false_and, Bool.false_eq_true, Bool.and_self, Bool.not_true, Bool.not_false, Bool.true_or, Bool.false_or, Bool.or_true, Bool.or_false, z5]
          · simp (disch := omega) only [↓reduceIte, not_false_eq_true, not_true_eq_false, and_self, and_true, true_and, false_and, and_false, or_true, true_or, or_false, false_or, or_self, reduceCtorEq, mm_q, Option.getD_some, cI_some, cJ_some, cV_some, cS_some, kd_sI, kd_sL, kd_sR, kd_cp, ln_sI, ln_sL, ln_sR, ln_cp, gR_sI, gR_sL, gR_sR, gR_cp, gL_sI, gL_sR, gL_cp, gI_sL, gI_sR, iI_add, iI_sub, iI_mul, iI_neg, iI_in, iI_tn, iI_lt, iI_eq, Nat.reduceLeDiff, Nat.reduceEqDiff, Nat.reduceAdd, Int.reduceEq, Int.reduceLT, Int.reduceLE, Int.reduceNeg, Int.reduceAdd, Int.reduceSub, Int.reduceMul, bI_t, bI_f, decide_true, decide_false, Bool.and_true, Bool.and_false, Bool.true_and, Bool.false_and, Bool.false_eq_true, Bool.and_self, Bool.not_true, Bool.not_false, Bool.true_or, Bool.false_or, Bool.or_true, Bool.or_false, z5, show 2 < what by omega]
        · obtain ⟨a0, a1⟩ := inB_t.mp z1
          obtain ⟨b0, b1⟩ := inB_t.mp z2
          obtain ⟨c0, c1⟩ := inB_t.mp z3
          obtain ⟨m1, e1, u1⟩ := C11 (d := d - 1) h.1 (H := 159) (G := 155) h159 h155 (by omega) (by omega)
          have g1 : Fr (scD 159) m m1 := u1.hd (fun a k z => by rw [if_neg (by omega), if_neg (by omega), if_neg (by omega), if_neg (by omega)])
          have hh : HD D m1 159 (sa D) := fun w w0 w1 => by
            obtain ⟨p1, p2, p3⟩ := h.2.2.2.2.2.1 w w0 w1
            rw [u1.2.2.2.2, u1.2.2.2.2, u1.2.2.2.2]
            dsimp only
            rw [if_neg (by omega), if_pos (show 159 + 1 = 159 + 1 ∧ w.toNat < 8 by omega), if_neg (by omega), if_neg (by omega), if_pos (show 159 + 2 = 159 + 2 ∧ w.toNat < 8 by omega), if_neg (by omega), if_neg (by omega), if_neg (by omega), if_pos (show 159 + 3 = 159 + 3 ∧ w.toNat < 8 by omega)]
            exact ⟨p1, p2, p3⟩
          obtain ⟨m', e2, f2⟩ := C149L (s := s) hI hL hIB hd (seed := seed) b0 b1 c0 c1 takes.toNat 0 (0, 0, 0, 0) 0 9 (seed, sa D) none m1 (by omega) (by omega) (fun _ => rfl) (fun _ => rfl) (fun q => absurd q (by omega)) (by omega) (by omega) (h.fc (FrD_C g1) k9) hh hIB (by simp) s60 a0 (by simp only; omega)
          refine ⟨m', ?_, (FrD_C g1).tr f2⟩
          simp (disch := omega) only [xf, hf, hf2, ↓reduceIte, not_false_eq_true, not_true_eq_false, and_self, and_true, true_and, false_and, and_false, or_true, true_or, or_false, false_or, or_self, reduceCtorEq, mm_q, Option.getD_some, cI_some, cJ_some, cV_some, cS_some, kd_sI, kd_sL, kd_sR, kd_cp, ln_sI, ln_sL, ln_sR, ln_cp, gR_sI, gR_sL, gR_sR, gR_cp, gL_sI, gL_sR, gL_cp, gI_sL, gI_sR, iI_add, iI_sub, iI_mul, iI_neg, iI_in, iI_tn, iI_lt, iI_eq, Nat.reduceLeDiff, Nat.reduceEqDiff, Nat.reduceAdd, Int.reduceEq, Int.reduceLT, Int.reduceLE, Int.reduceNeg, Int.reduceAdd, Int.reduceSub, Int.reduceMul, bI_t, bI_f, decide_true, decide_false, Bool.and_true, Bool.and_false, Bool.true_and, Bool.false_and, Bool.false_eq_true, Bool.and_self, Bool.not_true, Bool.not_false, Bool.true_or, Bool.false_or, Bool.or_true, Bool.or_false, show ¬ what < 0 by omega, show ¬ 2 < what by omega, e1, iI_l]
          exact e2
  have bad : (inB seed 0 9999 && inB takes 1 20) = false → ∃ m', mm_ev d 149 26 [some (.ref 100), some (.int (iI (seed))), some (.int (iI (takes))), some (.int (iI (what))), none, none, none, none, none, none, none, none, none] [] m = some (some (some (.int (iI (daysS D seed takes what)))), m') ∧ FC m m' := by
    intro hb
    rw [sg_149_26]
    exact e27 false hb.symm
  rw [sg_149_0]
  by_cases w1 : seed < 0
  · simp (disch := omega) only [↓reduceIte, not_false_eq_true, not_true_eq_false, and_self, and_true, true_and, false_and, and_false, or_true, true_or, or_false, false_or, or_self, reduceCtorEq, mm_q, Option.getD_some, cI_some, cJ_some, cV_some, cS_some, kd_sI, kd_sL, kd_sR, kd_cp, ln_sI, ln_sL, ln_sR, ln_cp, gR_sI, gR_sL, gR_sR, gR_cp, gL_sI, gL_sR, gL_cp, gI_sL, gI_sR, iI_add, iI_sub, iI_mul, iI_neg, iI_in, iI_tn, iI_lt, iI_eq, Nat.reduceLeDiff, Nat.reduceEqDiff, Nat.reduceAdd, Int.reduceEq, Int.reduceLT, Int.reduceLE, Int.reduceNeg, Int.reduceAdd, Int.reduceSub, Int.reduceMul, w1]
    exact bad (by unfold inB; simp [show ¬ 0 ≤ seed by omega])
  · by_cases w2 : 9999 < seed
    · simp (disch := omega) only [↓reduceIte, not_false_eq_true, not_true_eq_false, and_self, and_true, true_and, false_and, and_false, or_true, true_or, or_false, false_or, or_self, reduceCtorEq, mm_q, Option.getD_some, cI_some, cJ_some, cV_some, cS_some, kd_sI, kd_sL, kd_sR, kd_cp, ln_sI, ln_sL, ln_sR, ln_cp, gR_sI, gR_sL, gR_sR, gR_cp, gL_sI, gL_sR, gL_cp, gI_sL, gI_sR, iI_add, iI_sub, iI_mul, iI_neg, iI_in, iI_tn, iI_lt, iI_eq, Nat.reduceLeDiff, Nat.reduceEqDiff, Nat.reduceAdd, Int.reduceEq, Int.reduceLT, Int.reduceLE, Int.reduceNeg, Int.reduceAdd, Int.reduceSub, Int.reduceMul, w1, w2]
      exact bad (by unfold inB; simp [show ¬ seed ≤ 9999 by omega])
    · by_cases w3 : takes < 1
      · simp (disch := omega) only [↓reduceIte, not_false_eq_true, not_true_eq_false, and_self, and_true, true_and, false_and, and_false, or_true, true_or, or_false, false_or, or_self, reduceCtorEq, mm_q, Option.getD_some, cI_some, cJ_some, cV_some, cS_some, kd_sI, kd_sL, kd_sR, kd_cp, ln_sI, ln_sL, ln_sR, ln_cp, gR_sI, gR_sL, gR_sR, gR_cp, gL_sI, gL_sR, gL_cp, gI_sL, gI_sR, iI_add, iI_sub, iI_mul, iI_neg, iI_in, iI_tn, iI_lt, iI_eq, Nat.reduceLeDiff, Nat.reduceEqDiff, Nat.reduceAdd, Int.reduceEq, Int.reduceLT, Int.reduceLE, Int.reduceNeg, Int.reduceAdd, Int.reduceSub, Int.reduceMul, w1, w2, w3]
        exact bad (by unfold inB; simp [show ¬ 1 ≤ takes by omega])
      · by_cases w4 : 20 < takes
        · simp (disch := omega) only [↓reduceIte, not_false_eq_true, not_true_eq_false, and_self, and_true, true_and, false_and, and_false, or_true, true_or, or_false, false_or, or_self, reduceCtorEq, mm_q, Option.getD_some, cI_some, cJ_some, cV_some, cS_some, kd_sI, kd_sL, kd_sR, kd_cp, ln_sI, ln_sL, ln_sR, ln_cp, gR_sI, gR_sL, gR_sR, gR_cp, gL_sI, gL_sR, gL_cp, gI_sL, gI_sR, iI_add, iI_sub, iI_mul, iI_neg, iI_in, iI_tn, iI_lt, iI_eq, Nat.reduceLeDiff, Nat.reduceEqDiff, Nat.reduceAdd, Int.reduceEq, Int.reduceLT, Int.reduceLE, Int.reduceNeg, Int.reduceAdd, Int.reduceSub, Int.reduceMul, w1, w2, w3, w4]
          exact bad (by unfold inB; simp [show ¬ takes ≤ 20 by omega])
        · simp (disch := omega) only [↓reduceIte, not_false_eq_true, not_true_eq_false, and_self, and_true, true_and, false_and, and_false, or_true, true_or, or_false, false_or, or_self, reduceCtorEq, mm_q, Option.getD_some, cI_some, cJ_some, cV_some, cS_some, kd_sI, kd_sL, kd_sR, kd_cp, ln_sI, ln_sL, ln_sR, ln_cp, gR_sI, gR_sL, gR_sR, gR_cp, gL_sI, gL_sR, gL_cp, gI_sL, gI_sR, iI_add, iI_sub, iI_mul, iI_neg, iI_in, iI_tn, iI_lt, iI_eq, Nat.reduceLeDiff, Nat.reduceEqDiff, Nat.reduceAdd, Int.reduceEq, Int.reduceLT, Int.reduceLE, Int.reduceNeg, Int.reduceAdd, Int.reduceSub, Int.reduceMul, w1, w2, w3, w4]
          exact e27 true (by rw [inB_t.mpr ⟨by omega, by omega⟩, inB_t.mpr ⟨by omega, by omega⟩]; rfl)
end
