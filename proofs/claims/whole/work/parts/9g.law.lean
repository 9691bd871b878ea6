section
variable {D : Nat → Nat → Int32} {E : Nat → Nat → Int64} {m m' c c' c'' : mm_M} {d s L : Nat} {n N i f : Int} {T : TK} {X X' X'' : Nat → Nat → Int32} {Y : Nat → Int64} {lo start fh a b : Int} {h : Nat} {δ : Int}
theorem fc_v (hlo : lo = 0 ∨ lo = 2) : fcS T lo i = -1 ∨ fcS T lo i = lo ∨ fcS T lo i = lo + 1 := by
  unfold fcS
  split <;> omega
/-- in faults takePart returns -/
theorem M195r (hP : PF D E T N i f m) (hf : 0 < f) (hd : 2 ≤ d) {x y : Int32} : mm_ev d 195 101 [some (.ref 316), some (.int (iI (δ))), some (.int x), some (.int y)] [] m = some (some none, m) := by
  have := hP.2.2.2.2.2
  rw [sg_195_101 (by omega)]
  simp (disch := omega) only [shM hP.1.1, ↓reduceIte, not_false_eq_true, not_true_eq_false, and_self, and_true, true_and, false_and, and_false, or_true, true_or, or_false, false_or, or_self, reduceCtorEq, mm_q, Option.getD_some, cI_some, cJ_some, cV_some, cS_some, kd_sI, kd_sL, kd_sR, kd_cp, ln_sI, ln_sL, ln_sR, ln_cp, gR_sI, gR_sL, gR_sR, gR_cp, gL_sI, gL_sR, gL_cp, gI_sL, gI_sR, iI_add, iI_sub, iI_mul, iI_neg, iI_in, iI_tn, iI_lt, iI_eq, Nat.reduceLeDiff, Nat.reduceEqDiff, Nat.reduceAdd, Int.reduceEq, Int.reduceLT, Int.reduceLE, Int.reduceNeg, Int.reduceAdd, Int.reduceSub, Int.reduceMul, hP.2.2.2.1, hf]
theorem cdm (hM : EM D E T N Y fh X i m) : mm_gI m 316 13 = iI (cdX X) := by rw [hM.2.1.2.1.1]; unfold cdX; rw [iI_toInt]
/-- a PART -/
theorem Lpart (hT : TS D n T N) (hE : EK E) (hlo : lo = 0 ∨ lo = 2) (hfh : fh = if lo = 0 then 3 else 12) (δ0 : 0 ≤ δ) (δ5 : δ ≤ 5) {p B : Nat} (hp : 10 ≤ p) (hB : B < 32)
    (subP : δ < 5 → ∀ X i h, CD N start X i → h ≤ B → EX D E n T N Y fh lo start s L 195 [some (.ref 316), some (.int (iI (δ + 1))), none, none] 55 [some (.ref 154), some (.ref L), some (.int (iI (δ + 1))), none, none] (p - 1) X i h)
    (subA : δ < 5 → ∀ X i h, CD N start X i → h ≤ B → EX D E n T N Y fh lo start s L 191 [some (.ref 316), some (.int (iI (δ + 1))), none] 54 [some (.ref 154), some (.ref L), some (.int (iI (0))), some (.int (iI (δ + 1))), none, none, none] (p - 1) X i h)
    (hh : h ≤ B) (hc : CD N start X i) : EX D E n T N Y fh lo start s L 195 [some (.ref 316), some (.int (iI (δ))), none, none] 55 [some (.ref 154), some (.ref L), some (.int (iI (δ))), none, none] p X i h := by
  obtain ⟨⟨j0, j1⟩, ⟨s0, s1⟩, ci⟩ := hc
  obtain ⟨pr, hk⟩ := hT.k j0 j1
  have tr := hT.tyr j0 j1
  have nn := hT.1
  have fv := fc_v (T := T) (i := i) hlo
  by_cases hg : paS T lo i = -1
  · have hg' := hg
    unfold paS at hg'
    have n31 : ¬ ty T i = 31 := fun q => by rw [if_pos q] at hg'; omega
    rw [if_neg n31] at hg'
    have n27 : ¬ ty T i = 27 := fun q => by rw [if_pos q] at hg'; omega
    rw [if_neg n27] at hg'
    have n40 : ¬ ty T i = 40 := fun q => by rw [if_pos q] at hg'; omega
    rw [if_neg n40] at hg'
    have nf0 : ¬ fcS T lo i = lo := fun q => by rw [if_pos q] at hg'; omega
    rw [if_neg nf0] at hg'
    have nf1 : ¬ fcS T lo i = lo + 1 := fun q => by rw [if_pos q] at hg'; omega
    have fm : fcS T lo i = -1 := by omega
    refine ⟨i, 1 + 16 * tP T i, X, ⟨by omega, j1⟩, fun m d hd hM => ?_, fun c d hd hC => ?_, by omega, by omega⟩
    · obtain ⟨m2, e2, h2, g2⟩ := M172 (d := d - 1) hT hM.1 (k := 1) (by omega) (by omega)
      rw [if_pos rfl] at h2
      have e3 := M176 (d := d - 1) hT hM.1 g40
      rw [bI_0 (fun q => n40 q.2)] at e3
      have e4 := M171 (d := d - 1) hT hE hM.1 (w := 27) (by omega) (by omega)
      rw [bI_0 (fun q => n27 q.2)] at e4
      refine ⟨m2, ?_, h2, by omega, g2.AtM, cdX X, (g2.gI (scAt_o (by omega))).trans (cdm hM), by omega, by omega⟩
      rw [M195h hT hE hlo hfh hM (by omega), sg_195_56 (by omega), decide_eq_false n31]
      simp (disch := omega) only [shM hM.1.1.1, ↓reduceIte, not_false_eq_true, not_true_eq_false, and_self, and_true, true_and, false_and, and_false, or_true, true_or, or_false, false_or, or_self, reduceCtorEq, mm_q, Option.getD_some, cI_some, cJ_some, cV_some, cS_some, kd_sI, kd_sL, kd_sR, kd_cp, ln_sI, ln_sL, ln_sR, ln_cp, gR_sI, gR_sL, gR_sR, gR_cp, gL_sI, gL_sR, gL_cp, gI_sL, gI_sR, iI_add, iI_sub, iI_mul, iI_neg, iI_in, iI_tn, iI_lt, iI_eq, Nat.reduceLeDiff, Nat.reduceEqDiff, Nat.reduceAdd, Int.reduceEq, Int.reduceLT, Int.reduceLE, Int.reduceNeg, Int.reduceAdd, Int.reduceSub, Int.reduceMul, bI_t, bI_f, decide_true, decide_false, Bool.and_true, Bool.and_false, Bool.true_and, Bool.false_and, Bool.false_eq_true, Bool.and_self, Bool.not_true, Bool.not_false, Bool.true_or, Bool.false_or, Bool.or_true, Bool.or_false, fm, e3]
      rw [sg_195_71 (by omega)]
      simp (disch := omega) only [shM hM.1.1.1, ↓reduceIte, not_false_eq_true, not_true_eq_false, and_self, and_true, true_and, false_and, and_false, or_true, true_or, or_false, false_or, or_self, reduceCtorEq, mm_q, Option.getD_some, cI_some, cJ_some, cV_some, cS_some, kd_sI, kd_sL, kd_sR, kd_cp, ln_sI, ln_sL, ln_sR, ln_cp, gR_sI, gR_sL, gR_sR, gR_cp, gL_sI, gL_sR, gL_cp, gI_sL, gI_sR, iI_add, iI_sub, iI_mul, iI_neg, iI_in, iI_tn, iI_lt, iI_eq, Nat.reduceLeDiff, Nat.reduceEqDiff, Nat.reduceAdd, Int.reduceEq, Int.reduceLT, Int.reduceLE, Int.reduceNeg, Int.reduceAdd, Int.reduceSub, Int.reduceMul, e4]
      rw [sg_195_80 (by omega)]
      simp (disch := omega) only [shM hM.1.1.1, ↓reduceIte, not_false_eq_true, not_true_eq_false, and_self, and_true, true_and, false_and, and_false, or_true, true_or, or_false, false_or, or_self, reduceCtorEq, mm_q, Option.getD_some, cI_some, cJ_some, cV_some, cS_some, kd_sI, kd_sL, kd_sR, kd_cp, ln_sI, ln_sL, ln_sR, ln_cp, gR_sI, gR_sL, gR_sR, gR_cp, gL_sI, gL_sR, gL_cp, gI_sL, gI_sR, iI_add, iI_sub, iI_mul, iI_neg, iI_in, iI_tn, iI_lt, iI_eq, Nat.reduceLeDiff, Nat.reduceEqDiff, Nat.reduceAdd, Int.reduceEq, Int.reduceLT, Int.reduceLE, Int.reduceNeg, Int.reduceAdd, Int.reduceSub, Int.reduceMul, e2]
      exact M195r h2 (by omega) (by omega)
    · refine ⟨mm_sI c 154 3 (iI (1 + 16 * tP T i)), ?_, Fr.r154.BLw, by omega, fun _ => by simp [gI_sI]⟩
      have e1 := C56 (d := d - 1) hT hlo hC
      rw [hg] at e1
      rw [sg_55_0 (by omega), bI_0 (by omega)]
      simp (disch := omega) only [shP hC.1.1.1, ↓reduceIte, not_false_eq_true, not_true_eq_false, and_self, and_true, true_and, false_and, and_false, or_true, true_or, or_false, false_or, or_self, reduceCtorEq, mm_q, Option.getD_some, cI_some, cJ_some, cV_some, cS_some, kd_sI, kd_sL, kd_sR, kd_cp, ln_sI, ln_sL, ln_sR, ln_cp, gR_sI, gR_sL, gR_sR, gR_cp, gL_sI, gL_sR, gL_cp, gI_sL, gI_sR, iI_add, iI_sub, iI_mul, iI_neg, iI_in, iI_tn, iI_lt, iI_eq, Nat.reduceLeDiff, Nat.reduceEqDiff, Nat.reduceAdd, Int.reduceEq, Int.reduceLT, Int.reduceLE, Int.reduceNeg, Int.reduceAdd, Int.reduceSub, Int.reduceMul, e1]
      rw [sg_55_5 (by omega)]
      simp (disch := omega) only [shP hC.1.1.1, ↓reduceIte, not_false_eq_true, not_true_eq_false, and_self, and_true, true_and, false_and, and_false, or_true, true_or, or_false, false_or, or_self, reduceCtorEq, mm_q, Option.getD_some, cI_some, cJ_some, cV_some, cS_some, kd_sI, kd_sL, kd_sR, kd_cp, ln_sI, ln_sL, ln_sR, ln_cp, gR_sI, gR_sL, gR_sR, gR_cp, gL_sI, gL_sR, gL_cp, gI_sL, gI_sR, iI_add, iI_sub, iI_mul, iI_neg, iI_in, iI_tn, iI_lt, iI_eq, Nat.reduceLeDiff, Nat.reduceEqDiff, Nat.reduceAdd, Int.reduceEq, Int.reduceLT, Int.reduceLE, Int.reduceNeg, Int.reduceAdd, Int.reduceSub, Int.reduceMul, C40 hT hC.1]
  · have pa_r : -3 ≤ paS T lo i ∧ paS T lo i ≤ 40 := by
      unfold paS
      (repeat' split) <;> omega
    by_cases hδ : δ = 5
    · subst hδ
      refine ⟨i, 5 + 16 * tP T i, X, ⟨by omega, j1⟩, fun m d hd hM => ?_, fun c d hd hC => ?_, by omega, by omega⟩
      · obtain ⟨m2, e2, h2, g2⟩ := M172 (d := d - 1) hT hM.1 (k := 5) (by omega) (by omega)
        rw [if_pos rfl] at h2
        refine ⟨m2, ?_, h2, by omega, g2.AtM, cdX X, (g2.gI (scAt_o (by omega))).trans (cdm hM), by omega, by omega⟩
        rw [M195g hT hE hlo hfh hM (by omega) hg, sg_195_91 (by omega)]
        simp (disch := omega) only [shM hM.1.1.1, ↓reduceIte, not_false_eq_true, not_true_eq_false, and_self, and_true, true_and, false_and, and_false, or_true, true_or, or_false, false_or, or_self, reduceCtorEq, mm_q, Option.getD_some, cI_some, cJ_some, cV_some, cS_some, kd_sI, kd_sL, kd_sR, kd_cp, ln_sI, ln_sL, ln_sR, ln_cp, gR_sI, gR_sL, gR_sR, gR_cp, gL_sI, gL_sR, gL_cp, gI_sL, gI_sR, iI_add, iI_sub, iI_mul, iI_neg, iI_in, iI_tn, iI_lt, iI_eq, Nat.reduceLeDiff, Nat.reduceEqDiff, Nat.reduceAdd, Int.reduceEq, Int.reduceLT, Int.reduceLE, Int.reduceNeg, Int.reduceAdd, Int.reduceSub, Int.reduceMul, e2]
        exact M195r h2 (by omega) (by omega)
      · refine ⟨mm_sI c 154 3 (iI (5 + 16 * tP T i)), ?_, Fr.r154.BLw, by omega, fun _ => by simp [gI_sI]⟩
        have e1 := C56 (d := d - 1) hT hlo hC
        rw [sg_55_0 (by omega), bI_0 (by omega)]
        simp (disch := omega) only [shP hC.1.1.1, ↓reduceIte, not_false_eq_true, not_true_eq_false, and_self, and_true, true_and, false_and, and_false, or_true, true_or, or_false, false_or, or_self, reduceCtorEq, mm_q, Option.getD_some, cI_some, cJ_some, cV_some, cS_some, kd_sI, kd_sL, kd_sR, kd_cp, ln_sI, ln_sL, ln_sR, ln_cp, gR_sI, gR_sL, gR_sR, gR_cp, gL_sI, gL_sR, gL_cp, gI_sL, gI_sR, iI_add, iI_sub, iI_mul, iI_neg, iI_in, iI_tn, iI_lt, iI_eq, Nat.reduceLeDiff, Nat.reduceEqDiff, Nat.reduceAdd, Int.reduceEq, Int.reduceLT, Int.reduceLE, Int.reduceNeg, Int.reduceAdd, Int.reduceSub, Int.reduceMul, e1]
        rw [sg_55_5 (by omega)]
        simp (disch := omega) only [shP hC.1.1.1, ↓reduceIte, not_false_eq_true, not_true_eq_false, and_self, and_true, true_and, false_and, and_false, or_true, true_or, or_false, false_or, or_self, reduceCtorEq, mm_q, Option.getD_some, cI_some, cJ_some, cV_some, cS_some, kd_sI, kd_sL, kd_sR, kd_cp, ln_sI, ln_sL, ln_sR, ln_cp, gR_sI, gR_sL, gR_sR, gR_cp, gL_sI, gL_sR, gL_cp, gI_sL, gI_sR, iI_add, iI_sub, iI_mul, iI_neg, iI_in, iI_tn, iI_lt, iI_eq, Nat.reduceLeDiff, Nat.reduceEqDiff, Nat.reduceAdd, Int.reduceEq, Int.reduceLT, Int.reduceLE, Int.reduceNeg, Int.reduceAdd, Int.reduceSub, Int.reduceMul, hg, C40 hT hC.1]
    · have hδ5 : δ < 5 := by omega
      have iN : i < N := by
        refine hT.lt j0 j1 (fun q => hg ?_)
        unfold paS
        rw [if_neg (by omega), if_neg (by omega), if_neg (by omega)]
        rcases fc_w (lo := lo) hT j0 j1 hlo with ⟨f1, f2, f3⟩ | ⟨f1, f2, f3, f4⟩ | ⟨f1, f2⟩
        · omega
        · omega
        · rw [if_neg (by omega), if_neg (by omega)]
      -- the model as far as its choice
      have mo : ∀ (m : mm_M) (d : Nat), p ≤ d → EM D E T N Y fh X i m → ∃ m1, mm_ev d 195 0 [some (.ref 316), some (.int (iI (δ))), none, none] [] m = mm_ev d 195 115 [some (.ref 316), some (.int (iI (δ))), some (.int (iI (bI (decide (ty T i = 31))))), some (.int (iI (fcS T lo i)))] [.int (iI (bI (decide (ty T i = 27))))] m1 ∧ EM D E T N Y fh X (if ty T i = 27 then i + 1 else i) m1 ∧ Fr scM m m1 := fun m d hd hM => by
        obtain ⟨m1, e1, h1, g1⟩ := M170 (d := d - 1) hT hE hM.1 (by omega) (w := 27) (by omega) (by omega)
        simp only [true_and] at e1 h1
        refine ⟨m1, ?_, hM.at g1 h1, g1.AtM⟩
        rw [M195g hT hE hlo hfh hM (by omega) hg, sg_195_91 (by omega)]
        simp (disch := omega) only [↓reduceIte, not_false_eq_true, not_true_eq_false, and_self, and_true, true_and, false_and, and_false, or_true, true_or, or_false, false_or, or_self, reduceCtorEq, mm_q, Option.getD_some, cI_some, cJ_some, cV_some, cS_some, kd_sI, kd_sL, kd_sR, kd_cp, ln_sI, ln_sL, ln_sR, ln_cp, gR_sI, gR_sL, gR_sR, gR_cp, gL_sI, gL_sR, gL_cp, gI_sL, gI_sR, iI_add, iI_sub, iI_mul, iI_neg, iI_in, iI_tn, iI_lt, iI_eq, Nat.reduceLeDiff, Nat.reduceEqDiff, Nat.reduceAdd, Int.reduceEq, Int.reduceLT, Int.reduceLE, Int.reduceNeg, Int.reduceAdd, Int.reduceSub, Int.reduceMul, hδ]
        rw [sg_195_101 (by omega)]
        simp (disch := omega) only [shM hM.1.1.1, ↓reduceIte, not_false_eq_true, not_true_eq_false, and_self, and_true, true_and, false_and, and_false, or_true, true_or, or_false, false_or, or_self, reduceCtorEq, mm_q, Option.getD_some, cI_some, cJ_some, cV_some, cS_some, kd_sI, kd_sL, kd_sR, kd_cp, ln_sI, ln_sL, ln_sR, ln_cp, gR_sI, gR_sL, gR_sR, gR_cp, gL_sI, gL_sR, gL_cp, gI_sL, gI_sR, iI_add, iI_sub, iI_mul, iI_neg, iI_in, iI_tn, iI_lt, iI_eq, Nat.reduceLeDiff, Nat.reduceEqDiff, Nat.reduceAdd, Int.reduceEq, Int.reduceLT, Int.reduceLE, Int.reduceNeg, Int.reduceAdd, Int.reduceSub, Int.reduceMul, hM.1.2.2.2.1, e1]
      -- the class as far as its choice
      have co : ∀ (c : mm_M) (d : Nat), p ≤ d → EC D n T N s L lo start X i c → ∃ c1, mm_ev d 55 0 [some (.ref 154), some (.ref L), some (.int (iI (δ))), none, none] [] c = mm_ev d 55 60 [some (.ref 154), some (.ref L), some (.int (iI (δ))), some (.int (iI (paS T lo i))), some (.int (iI (if ty T i = 31 then tN T i else paS T lo i)))] [] c1 ∧ EC D n T N s L lo start X (i + 1) c1 ∧ Fr (scLw L) c c1 := fun c d hd hC => by
        obtain ⟨c1, e1, g1, t1, -⟩ := CR.nx (d := d - 1) hT hC.1 (by omega) iN
        refine ⟨c1, ?_, hC.br g1 t1, g1.BLw⟩
        have e0 := C56 (d := d - 1) hT hlo hC
        have e51 : ∀ v : Int32, mm_ev d 55 51 [some (.ref 154), some (.ref L), some (.int (iI (δ))), some (.int (iI (paS T lo i))), none] [.int v] c = mm_ev d 55 60 [some (.ref 154), some (.ref L), some (.int (iI (δ))), some (.int (iI (paS T lo i))), some (.int v)] [] c1 := fun v => by
          rw [sg_55_51 (by omega)]
          simp (disch := omega) only [shP hC.1.1.1, shT hC.1.1.1, ↓reduceIte, not_false_eq_true, not_true_eq_false, and_self, and_true, true_and, false_and, and_false, or_true, true_or, or_false, false_or, or_self, reduceCtorEq, mm_q, Option.getD_some, cI_some, cJ_some, cV_some, cS_some, kd_sI, kd_sL, kd_sR, kd_cp, ln_sI, ln_sL, ln_sR, ln_cp, gR_sI, gR_sL, gR_sR, gR_cp, gL_sI, gL_sR, gL_cp, gI_sL, gI_sR, iI_add, iI_sub, iI_mul, iI_neg, iI_in, iI_tn, iI_lt, iI_eq, Nat.reduceLeDiff, Nat.reduceEqDiff, Nat.reduceAdd, Int.reduceEq, Int.reduceLT, Int.reduceLE, Int.reduceNeg, Int.reduceAdd, Int.reduceSub, Int.reduceMul, e1]
        rw [sg_55_0 (by omega)]
        simp (disch := omega) only [shP hC.1.1.1, ↓reduceIte, not_false_eq_true, not_true_eq_false, and_self, and_true, true_and, false_and, and_false, or_true, true_or, or_false, false_or, or_self, reduceCtorEq, mm_q, Option.getD_some, cI_some, cJ_some, cV_some, cS_some, kd_sI, kd_sL, kd_sR, kd_cp, ln_sI, ln_sL, ln_sR, ln_cp, gR_sI, gR_sL, gR_sR, gR_cp, gL_sI, gL_sR, gL_cp, gI_sL, gI_sR, iI_add, iI_sub, iI_mul, iI_neg, iI_in, iI_tn, iI_lt, iI_eq, Nat.reduceLeDiff, Nat.reduceEqDiff, Nat.reduceAdd, Int.reduceEq, Int.reduceLT, Int.reduceLE, Int.reduceNeg, Int.reduceAdd, Int.reduceSub, Int.reduceMul, e0]
        rw [sg_55_5 (by omega)]
        by_cases y : ty T i = 31
        · have h6 : mm_gI c 101 6 = iI (tN T i) := hC.1.2.1.2.2.2.1 (by
            rcases hk with ⟨-, q, y⟩ | ⟨iN, ⟨q, y, y', w⟩ | ⟨q, y, y', v⟩ | ⟨q, y, g, v⟩ | ⟨q, y⟩⟩
            · omega
            · omega
            · exact q
            · unfold sgn at g; omega
            · omega)
          rw [if_pos y]
          simp (disch := omega) only [shP hC.1.1.1, shT hC.1.1.1, ↓reduceIte, not_false_eq_true, not_true_eq_false, and_self, and_true, true_and, false_and, and_false, or_true, true_or, or_false, false_or, or_self, reduceCtorEq, mm_q, Option.getD_some, cI_some, cJ_some, cV_some, cS_some, kd_sI, kd_sL, kd_sR, kd_cp, ln_sI, ln_sL, ln_sR, ln_cp, gR_sI, gR_sL, gR_sR, gR_cp, gL_sI, gL_sR, gL_cp, gI_sL, gI_sR, iI_add, iI_sub, iI_mul, iI_neg, iI_in, iI_tn, iI_lt, iI_eq, Nat.reduceLeDiff, Nat.reduceEqDiff, Nat.reduceAdd, Int.reduceEq, Int.reduceLT, Int.reduceLE, Int.reduceNeg, Int.reduceAdd, Int.reduceSub, Int.reduceMul, hg, hδ5, hC.1.2.1.2.1, y, h6]
          exact e51 _
        · rw [if_neg y]
          simp (disch := omega) only [shP hC.1.1.1, shT hC.1.1.1, ↓reduceIte, not_false_eq_true, not_true_eq_false, and_self, and_true, true_and, false_and, and_false, or_true, true_or, or_false, false_or, or_self, reduceCtorEq, mm_q, Option.getD_some, cI_some, cJ_some, cV_some, cS_some, kd_sI, kd_sL, kd_sR, kd_cp, ln_sI, ln_sL, ln_sR, ln_cp, gR_sI, gR_sL, gR_sR, gR_cp, gL_sI, gL_sR, gL_cp, gI_sL, gI_sR, iI_add, iI_sub, iI_mul, iI_neg, iI_in, iI_tn, iI_lt, iI_eq, Nat.reduceLeDiff, Nat.reduceEqDiff, Nat.reduceAdd, Int.reduceEq, Int.reduceLT, Int.reduceLE, Int.reduceNeg, Int.reduceAdd, Int.reduceSub, Int.reduceMul, hg, hδ5, hC.1.2.1.2.1, y]
          exact e51 _
      by_cases y27 : ty T i = 27
      · -- not
        have pa27 : paS T lo i = 27 := by unfold paS; rw [if_neg (by omega), if_pos y27]
        obtain ⟨i1, f1, X1, ⟨a1, a2⟩, sm, sc, sx, sf⟩ := subP hδ5 X (i + 1) h ⟨⟨by omega, by omega⟩, ⟨s0, s1⟩, by omega⟩ hh
        by_cases y : f1 = 0
        · obtain ⟨x1, x2, x3, x4⟩ := sx y
          have ec := emX_c (X := X1) (o := 3) (y := 0) (by omega) (by omega)
          have eo := emX_op (X := X1) (o := 3) (y := 0) (by omega) (by omega) (by omega) (by omega) (by omega)
          refine ⟨i1, 0, emX X1 3 0, ⟨by omega, a2⟩, fun m d hd hM => ?_, fun c d hd hC => ?_, fun _ => ⟨fun x k q1 q2 => ?_, by omega, by omega, ?_⟩, by omega⟩
          · obtain ⟨m1, e1, h1, g1⟩ := mo m d hd hM
            rw [if_pos y27] at h1
            obtain ⟨m2, e2, -, h2, g2, -⟩ := sm m1 (d - 1) (by omega) h1
            obtain ⟨m3, e3, h3, g3⟩ := M196 (d := d - 1) (h2 y) (by omega) (by omega) (o := 3) (y := 0)
            refine ⟨m3, ?_, h3.1, fun _ => h3, (g1.tr g2).tr g3, cdX X1 + 1, by rw [cdm h3, ec], by omega, by omega⟩
            rw [e1, bI_1 y27, sg_195_115 (by omega)]
            simp (disch := omega) only [shM h1.1.1.1, shM (h2 y).1.1.1, ↓reduceIte, not_false_eq_true, not_true_eq_false, and_self, and_true, true_and, false_and, and_false, or_true, true_or, or_false, false_or, or_self, reduceCtorEq, mm_q, Option.getD_some, cI_some, cJ_some, cV_some, cS_some, kd_sI, kd_sL, kd_sR, kd_cp, ln_sI, ln_sL, ln_sR, ln_cp, gR_sI, gR_sL, gR_sR, gR_cp, gL_sI, gL_sR, gL_cp, gI_sL, gI_sR, iI_add, iI_sub, iI_mul, iI_neg, iI_in, iI_tn, iI_lt, iI_eq, Nat.reduceLeDiff, Nat.reduceEqDiff, Nat.reduceAdd, Int.reduceEq, Int.reduceLT, Int.reduceLE, Int.reduceNeg, Int.reduceAdd, Int.reduceSub, Int.reduceMul, e2, e3]
          · obtain ⟨c1, e1, t1, g1⟩ := co c d hd hC
            obtain ⟨c2, e2, g2, t2, -⟩ := sc c1 (d - 1) (by omega) t1
            rw [bI_1 y] at e2
            obtain ⟨c3, e3, t3, g3⟩ := C25 (d := d - 1) (t2 y) (by omega) hT (o := 3) (y := 0) (v := -4) (by unfold encS; rw [eo.1]; rfl) (by omega) (by omega) (by omega) (by omega) (by omega) (by omega) (by omega)
            refine ⟨c3, ?_, (g1.tr g2).tr g3, fun _ => t3, fun q => absurd rfl q⟩
            rw [e1, pa27, sg_55_60 (by omega)]
            simp (disch := omega) only [shP t1.1.1.1, ↓reduceIte, not_false_eq_true, not_true_eq_false, and_self, and_true, true_and, false_and, and_false, or_true, true_or, or_false, false_or, or_self, reduceCtorEq, mm_q, Option.getD_some, cI_some, cJ_some, cV_some, cS_some, kd_sI, kd_sL, kd_sR, kd_cp, ln_sI, ln_sL, ln_sR, ln_cp, gR_sI, gR_sL, gR_sR, gR_cp, gL_sI, gL_sR, gL_cp, gI_sL, gI_sR, iI_add, iI_sub, iI_mul, iI_neg, iI_in, iI_tn, iI_lt, iI_eq, Nat.reduceLeDiff, Nat.reduceEqDiff, Nat.reduceAdd, Int.reduceEq, Int.reduceLT, Int.reduceLE, Int.reduceNeg, Int.reduceAdd, Int.reduceSub, Int.reduceMul, e2]
            rw [sg_55_126]
            simp (disch := omega) only [↓reduceIte, not_false_eq_true, not_true_eq_false, and_self, and_true, true_and, false_and, and_false, or_true, true_or, or_false, false_or, or_self, reduceCtorEq, mm_q, Option.getD_some, cI_some, cJ_some, cV_some, cS_some, kd_sI, kd_sL, kd_sR, kd_cp, ln_sI, ln_sL, ln_sR, ln_cp, gR_sI, gR_sL, gR_sR, gR_cp, gL_sI, gL_sR, gL_cp, gI_sL, gI_sR, iI_add, iI_sub, iI_mul, iI_neg, iI_in, iI_tn, iI_lt, iI_eq, Nat.reduceLeDiff, Nat.reduceEqDiff, Nat.reduceAdd, Int.reduceEq, Int.reduceLT, Int.reduceLE, Int.reduceNeg, Int.reduceAdd, Int.reduceSub, Int.reduceMul]
            rw [sg_55_140 (by omega)]
            simp (disch := omega) only [lwF (t2 y).1.1.1 hC.2.1, ↓reduceIte, not_false_eq_true, not_true_eq_false, and_self, and_true, true_and, false_and, and_false, or_true, true_or, or_false, false_or, or_self, reduceCtorEq, mm_q, Option.getD_some, cI_some, cJ_some, cV_some, cS_some, kd_sI, kd_sL, kd_sR, kd_cp, ln_sI, ln_sL, ln_sR, ln_cp, gR_sI, gR_sL, gR_sR, gR_cp, gL_sI, gL_sR, gL_cp, gI_sL, gI_sR, iI_add, iI_sub, iI_mul, iI_neg, iI_in, iI_tn, iI_lt, iI_eq, Nat.reduceLeDiff, Nat.reduceEqDiff, Nat.reduceAdd, Int.reduceEq, Int.reduceLT, Int.reduceLE, Int.reduceNeg, Int.reduceAdd, Int.reduceSub, Int.reduceMul, e3]
            rfl
          · rw [emX_o (by omega) q2]; exact x1 x k q1 q2
          · rw [ec]
            exact LK.not (x4.cg (fun k k0 k1 => emX_lo (by omega) k1)) (by omega) (by omega) (by omega) eo.1
        · refine ⟨i1, f1, X1, ⟨by omega, a2⟩, fun m d hd hM => ?_, fun c d hd hC => ?_, fun q => absurd q y, sf⟩
          · obtain ⟨m1, e1, h1, g1⟩ := mo m d hd hM
            rw [if_pos y27] at h1
            obtain ⟨m2, e2, h2, -, g2, k, kk, k0, k9⟩ := sm m1 (d - 1) (by omega) h1
            obtain ⟨m3, e3, h3, g3, q3, -⟩ := M196f (d := d - 1) h2 kk (by omega) (by omega) (o := 3) (y := 0)
            refine ⟨m3, ?_, h3, fun q => absurd q y, (g1.tr g2).tr g3, k + 1, q3, by omega, by omega⟩
            rw [e1, bI_1 y27, sg_195_115 (by omega)]
            simp (disch := omega) only [shM h1.1.1.1, shM h2.1.1, ↓reduceIte, not_false_eq_true, not_true_eq_false, and_self, and_true, true_and, false_and, and_false, or_true, true_or, or_false, false_or, or_self, reduceCtorEq, mm_q, Option.getD_some, cI_some, cJ_some, cV_some, cS_some, kd_sI, kd_sL, kd_sR, kd_cp, ln_sI, ln_sL, ln_sR, ln_cp, gR_sI, gR_sL, gR_sR, gR_cp, gL_sI, gL_sR, gL_cp, gI_sL, gI_sR, iI_add, iI_sub, iI_mul, iI_neg, iI_in, iI_tn, iI_lt, iI_eq, Nat.reduceLeDiff, Nat.reduceEqDiff, Nat.reduceAdd, Int.reduceEq, Int.reduceLT, Int.reduceLE, Int.reduceNeg, Int.reduceAdd, Int.reduceSub, Int.reduceMul, e2, e3]
          · obtain ⟨c1, e1, t1, g1⟩ := co c d hd hC
            obtain ⟨c2, e2, g2, -, u2⟩ := sc c1 (d - 1) (by omega) t1
            rw [bI_0 y] at e2
            refine ⟨c2, ?_, g1.tr g2, fun q => absurd q y, u2⟩
            rw [e1, pa27, sg_55_60 (by omega), bI_0 y]
            simp (disch := omega) only [shP t1.1.1.1, ↓reduceIte, not_false_eq_true, not_true_eq_false, and_self, and_true, true_and, false_and, and_false, or_true, true_or, or_false, false_or, or_self, reduceCtorEq, mm_q, Option.getD_some, cI_some, cJ_some, cV_some, cS_some, kd_sI, kd_sL, kd_sR, kd_cp, ln_sI, ln_sL, ln_sR, ln_cp, gR_sI, gR_sL, gR_sR, gR_cp, gL_sI, gL_sR, gL_cp, gI_sL, gI_sR, iI_add, iI_sub, iI_mul, iI_neg, iI_in, iI_tn, iI_lt, iI_eq, Nat.reduceLeDiff, Nat.reduceEqDiff, Nat.reduceAdd, Int.reduceEq, Int.reduceLT, Int.reduceLE, Int.reduceNeg, Int.reduceAdd, Int.reduceSub, Int.reduceMul, e2]
      · -- no not
        have mo2 : ∀ (m : mm_M) (d : Nat), p ≤ d → EM D E T N Y fh X i m → ∃ m1, mm_ev d 195 0 [some (.ref 316), some (.int (iI (δ))), none, none] [] m = mm_ev d 195 140 [some (.ref 316), some (.int (iI (δ))), some (.int (iI (bI (decide (ty T i = 31))))), some (.int (iI (fcS T lo i)))] [.int (iI (bI (decide (ty T i = 40))))] m1 ∧ EM D E T N Y fh X (if ty T i = 40 then i + 1 else i) m1 ∧ Fr scM m m1 := fun m d hd hM => by
          obtain ⟨m1, e1, h1, g1⟩ := mo m d hd hM
          rw [if_neg y27] at h1
          obtain ⟨m2, e2, h2, g2⟩ := M197 (d := d - 1) hT h1.1 (by omega) g40
          simp only [true_and] at e2 h2
          refine ⟨m2, ?_, h1.at g2 h2, g1.tr g2.AtM⟩
          rw [e1, bI_0 y27, sg_195_115 (by omega)]
          simp (disch := omega) only [shM h1.1.1.1, ↓reduceIte, not_false_eq_true, not_true_eq_false, and_self, and_true, true_and, false_and, and_false, or_true, true_or, or_false, false_or, or_self, reduceCtorEq, mm_q, Option.getD_some, cI_some, cJ_some, cV_some, cS_some, kd_sI, kd_sL, kd_sR, kd_cp, ln_sI, ln_sL, ln_sR, ln_cp, gR_sI, gR_sL, gR_sR, gR_cp, gL_sI, gL_sR, gL_cp, gI_sL, gI_sR, iI_add, iI_sub, iI_mul, iI_neg, iI_in, iI_tn, iI_lt, iI_eq, Nat.reduceLeDiff, Nat.reduceEqDiff, Nat.reduceAdd, Int.reduceEq, Int.reduceLT, Int.reduceLE, Int.reduceNeg, Int.reduceAdd, Int.reduceSub, Int.reduceMul, e2]
        by_cases y40 : ty T i = 40
        · -- in brackets
          have pa40 : paS T lo i = 40 := by unfold paS; rw [if_neg (by omega), if_neg (by omega), if_pos y40]
          obtain ⟨i1, f1, X1, ⟨a1, a2⟩, sm, sc, sx, sf⟩ := subA hδ5 X (i + 1) h ⟨⟨by omega, by omega⟩, ⟨s0, s1⟩, by omega⟩ hh
          by_cases y : f1 = 0
          · obtain ⟨x1, x2, x3, x4⟩ := sx y
            have tr1 := hT.tyr (i := i1) (by omega) a2
            have pr1 := (hT.k (i := i1) (by omega) a2).1
            have moq : ∀ (m : mm_M) (d : Nat), p ≤ d → EM D E T N Y fh X i m → ∃ m3, mm_ev d 195 0 [some (.ref 316), some (.int (iI (δ))), none, none] [] m = some (some none, m3) ∧ PF D E T N (twS T 41 i1 0).1 (twS T 41 i1 0).2 m3 ∧ ((twS T 41 i1 0).2 = 0 → EM D E T N Y fh X1 (twS T 41 i1 0).1 m3) ∧ Fr scM m m3 ∧ mm_gI m3 316 13 = iI (cdX X1) := fun m d hd hM => by
              obtain ⟨m1, e1, h1, g1⟩ := mo2 m d hd hM
              rw [if_pos y40] at h1
              obtain ⟨m2, e2, -, h2, g2, -⟩ := sm m1 (d - 1) (by omega) h1
              obtain ⟨m3, e3, h3, g3⟩ := M175 (d := d - 1) hT (h2 y).1 (by omega) g41
              refine ⟨m3, ?_, h3, fun q => ?_, (g1.tr g2).tr g3.AtM, (g3.gI (scAt_o (by omega))).trans (cdm (h2 y))⟩
              · rw [e1, bI_1 y40, sg_195_140 (by omega)]
                simp (disch := omega) only [shM h1.1.1.1, shM (h2 y).1.1.1, ↓reduceIte, not_false_eq_true, not_true_eq_false, and_self, and_true, true_and, false_and, and_false, or_true, true_or, or_false, false_or, or_self, reduceCtorEq, mm_q, Option.getD_some, cI_some, cJ_some, cV_some, cS_some, kd_sI, kd_sL, kd_sR, kd_cp, ln_sI, ln_sL, ln_sR, ln_cp, gR_sI, gR_sL, gR_sR, gR_cp, gL_sI, gL_sR, gL_cp, gI_sL, gI_sR, iI_add, iI_sub, iI_mul, iI_neg, iI_in, iI_tn, iI_lt, iI_eq, Nat.reduceLeDiff, Nat.reduceEqDiff, Nat.reduceAdd, Int.reduceEq, Int.reduceLT, Int.reduceLE, Int.reduceNeg, Int.reduceAdd, Int.reduceSub, Int.reduceMul, e2, e3]
              · rw [q] at h3
                exact (h2 y).at g3 h3
            have coq : ∀ (c : mm_M) (d : Nat), p ≤ d → EC D n T N s L lo start X i c → ∃ c1, mm_ev d 55 0 [some (.ref 154), some (.ref L), some (.int (iI (δ))), none, none] [] c = mm_ev d 55 75 [some (.ref 154), some (.ref L), some (.int (iI (δ))), some (.int (iI 40)), some (.int (iI 40))] [.int (iI 1)] c1 ∧ EC D n T N s L lo start X1 i1 c1 ∧ Fr (scLw L) c c1 := fun c d hd hC => by
              obtain ⟨c1, e1, t1, g1⟩ := co c d hd hC
              obtain ⟨c2, e2, g2, t2, -⟩ := sc c1 (d - 1) (by omega) t1
              rw [bI_1 y] at e2
              refine ⟨c2, ?_, t2 y, g1.tr g2⟩
              rw [e1, pa40, if_neg (by omega), sg_55_60 (by omega)]
              simp (disch := omega) only [shP t1.1.1.1, ↓reduceIte, not_false_eq_true, not_true_eq_false, and_self, and_true, true_and, false_and, and_false, or_true, true_or, or_false, false_or, or_self, reduceCtorEq, mm_q, Option.getD_some, cI_some, cJ_some, cV_some, cS_some, kd_sI, kd_sL, kd_sR, kd_cp, ln_sI, ln_sL, ln_sR, ln_cp, gR_sI, gR_sL, gR_sR, gR_cp, gL_sI, gL_sR, gL_cp, gI_sL, gI_sR, iI_add, iI_sub, iI_mul, iI_neg, iI_in, iI_tn, iI_lt, iI_eq, Nat.reduceLeDiff, Nat.reduceEqDiff, Nat.reduceAdd, Int.reduceEq, Int.reduceLT, Int.reduceLE, Int.reduceNeg, Int.reduceAdd, Int.reduceSub, Int.reduceMul, e2]
            by_cases z : ty T i1 = 41
            · have tw : twS T 41 i1 0 = (i1 + 1, 0) := by unfold twS; rw [if_pos rfl, if_pos z]
              have iN1 := hT.lt (i := i1) (by omega) a2 (by omega)
              rw [tw] at moq
              refine ⟨i1 + 1, 0, X1, ⟨by omega, by omega⟩, fun m d hd hM => ?_, fun c d hd hC => ?_, fun _ => ⟨x1, x2, by omega, x4⟩, by omega⟩
              · obtain ⟨m3, e3, h3, q3, g3, k3⟩ := moq m d hd hM
                exact ⟨m3, e3, h3, fun _ => q3 rfl, g3, cdX X1, k3, by omega, by omega⟩
              · obtain ⟨c1, e1, t1, g1⟩ := coq c d hd hC
                obtain ⟨c2, e2, g2, t2, -⟩ := CR.nx (d := d - 1) hT t1.1 (by omega) iN1
                refine ⟨c2, ?_, g1.tr g2.BLw, fun _ => t1.br g2 t2, fun q => absurd rfl q⟩
                rw [e1, sg_55_75 (by omega)]
                simp (disch := omega) only [shP t1.1.1.1, shT t1.1.1.1, ↓reduceIte, not_false_eq_true, not_true_eq_false, and_self, and_true, true_and, false_and, and_false, or_true, true_or, or_false, false_or, or_self, reduceCtorEq, mm_q, Option.getD_some, cI_some, cJ_some, cV_some, cS_some, kd_sI, kd_sL, kd_sR, kd_cp, ln_sI, ln_sL, ln_sR, ln_cp, gR_sI, gR_sL, gR_sR, gR_cp, gL_sI, gL_sR, gL_cp, gI_sL, gI_sR, iI_add, iI_sub, iI_mul, iI_neg, iI_in, iI_tn, iI_lt, iI_eq, Nat.reduceLeDiff, Nat.reduceEqDiff, Nat.reduceAdd, Int.reduceEq, Int.reduceLT, Int.reduceLE, Int.reduceNeg, Int.reduceAdd, Int.reduceSub, Int.reduceMul, t1.1.2.1.2.1, z, e2]
                rfl
            · have tw : twS T 41 i1 0 = (i1, 1 + 16 * tP T i1) := by unfold twS; rw [if_pos rfl, if_neg z]
              rw [tw] at moq
              refine ⟨i1, 1 + 16 * tP T i1, X1, ⟨by omega, a2⟩, fun m d hd hM => ?_, fun c d hd hC => ?_, by omega, by omega⟩
              · obtain ⟨m3, e3, h3, q3, g3, k3⟩ := moq m d hd hM
                exact ⟨m3, e3, h3, by omega, g3, cdX X1, k3, by omega, by omega⟩
              · obtain ⟨c1, e1, t1, g1⟩ := coq c d hd hC
                refine ⟨mm_sI c1 154 3 (iI (1 + 16 * tP T i1)), ?_, g1.tr Fr.r154.BLw, by omega, fun _ => by simp [gI_sI]⟩
                rw [e1, sg_55_75 (by omega), bI_0 (by omega)]
                simp (disch := omega) only [shP t1.1.1.1, shT t1.1.1.1, ↓reduceIte, not_false_eq_true, not_true_eq_false, and_self, and_true, true_and, false_and, and_false, or_true, true_or, or_false, false_or, or_self, reduceCtorEq, mm_q, Option.getD_some, cI_some, cJ_some, cV_some, cS_some, kd_sI, kd_sL, kd_sR, kd_cp, ln_sI, ln_sL, ln_sR, ln_cp, gR_sI, gR_sL, gR_sR, gR_cp, gL_sI, gL_sR, gL_cp, gI_sL, gI_sR, iI_add, iI_sub, iI_mul, iI_neg, iI_in, iI_tn, iI_lt, iI_eq, Nat.reduceLeDiff, Nat.reduceEqDiff, Nat.reduceAdd, Int.reduceEq, Int.reduceLT, Int.reduceLE, Int.reduceNeg, Int.reduceAdd, Int.reduceSub, Int.reduceMul, t1.1.2.1.2.1, z, C40 hT t1.1]
          · refine ⟨i1, f1, X1, ⟨by omega, a2⟩, fun m d hd hM => ?_, fun c d hd hC => ?_, fun q => absurd q y, sf⟩
            · obtain ⟨m1, e1, h1, g1⟩ := mo2 m d hd hM
              rw [if_pos y40] at h1
              obtain ⟨m2, e2, h2, -, g2, k, kk, k0, k9⟩ := sm m1 (d - 1) (by omega) h1
              obtain ⟨m3, e3, h3, g3⟩ := M175 (d := d - 1) hT h2 (by omega) g41
              have tw : twS T 41 i1 f1 = (i1, f1) := by unfold twS; rw [if_neg y]
              rw [tw] at h3
              refine ⟨m3, ?_, h3, fun q => absurd q y, (g1.tr g2).tr g3.AtM, k, (g3.gI (scAt_o (by omega))).trans kk, by omega, by omega⟩
              rw [e1, bI_1 y40, sg_195_140 (by omega)]
              simp (disch := omega) only [shM h1.1.1.1, shM h2.1.1, ↓reduceIte, not_false_eq_true, not_true_eq_false, and_self, and_true, true_and, false_and, and_false, or_true, true_or, or_false, false_or, or_self, reduceCtorEq, mm_q, Option.getD_some, cI_some, cJ_some, cV_some, cS_some, kd_sI, kd_sL, kd_sR, kd_cp, ln_sI, ln_sL, ln_sR, ln_cp, gR_sI, gR_sL, gR_sR, gR_cp, gL_sI, gL_sR, gL_cp, gI_sL, gI_sR, iI_add, iI_sub, iI_mul, iI_neg, iI_in, iI_tn, iI_lt, iI_eq, Nat.reduceLeDiff, Nat.reduceEqDiff, Nat.reduceAdd, Int.reduceEq, Int.reduceLT, Int.reduceLE, Int.reduceNeg, Int.reduceAdd, Int.reduceSub, Int.reduceMul, e2, e3]
            · obtain ⟨c1, e1, t1, g1⟩ := co c d hd hC
              obtain ⟨c2, e2, g2, -, u2⟩ := sc c1 (d - 1) (by omega) t1
              rw [bI_0 y] at e2
              refine ⟨c2, ?_, g1.tr g2, fun q => absurd q y, u2⟩
              rw [e1, pa40, if_neg (by omega), sg_55_60 (by omega), bI_0 y]
              simp (disch := omega) only [shP t1.1.1.1, ↓reduceIte, not_false_eq_true, not_true_eq_false, and_self, and_true, true_and, false_and, and_false, or_true, true_or, or_false, false_or, or_self, reduceCtorEq, mm_q, Option.getD_some, cI_some, cJ_some, cV_some, cS_some, kd_sI, kd_sL, kd_sR, kd_cp, ln_sI, ln_sL, ln_sR, ln_cp, gR_sI, gR_sL, gR_sR, gR_cp, gL_sI, gL_sR, gL_cp, gI_sL, gI_sR, iI_add, iI_sub, iI_mul, iI_neg, iI_in, iI_tn, iI_lt, iI_eq, Nat.reduceLeDiff, Nat.reduceEqDiff, Nat.reduceAdd, Int.reduceEq, Int.reduceLT, Int.reduceLE, Int.reduceNeg, Int.reduceAdd, Int.reduceSub, Int.reduceMul, e2]
              rw [sg_55_75 (by omega)]
              simp (disch := omega) only [↓reduceIte, not_false_eq_true, not_true_eq_false, and_self, and_true, true_and, false_and, and_false, or_true, true_or, or_false, false_or, or_self, reduceCtorEq, mm_q, Option.getD_some, cI_some, cJ_some, cV_some, cS_some, kd_sI, kd_sL, kd_sR, kd_cp, ln_sI, ln_sL, ln_sR, ln_cp, gR_sI, gR_sL, gR_sR, gR_cp, gL_sI, gL_sR, gL_cp, gI_sL, gI_sR, iI_add, iI_sub, iI_mul, iI_neg, iI_in, iI_tn, iI_lt, iI_eq, Nat.reduceLeDiff, Nat.reduceEqDiff, Nat.reduceAdd, Int.reduceEq, Int.reduceLT, Int.reduceLE, Int.reduceNeg, Int.reduceAdd, Int.reduceSub, Int.reduceMul]
        · -- a number or a fact
          have leaf : ∀ (o y v : Int), (o = 1 ∧ 0 ≤ y ∧ y ≤ 9999 ∧ v = y) ∨ (o = 2 ∧ ((y = lo ∧ v = -2) ∨ (y = lo + 1 ∧ v = -3))) → (∀ (m : mm_M) (d : Nat), p ≤ d → EM D E T N Y fh X i m → ∃ m1, EM D E T N Y fh X i m1 ∧ Fr scM m m1 ∧ mm_ev d 195 0 [some (.ref 316), some (.int (iI (δ))), none, none] [] m = mm_ev d 195 187 [some (.ref 316), some (.int (iI (δ))), some (.int (iI (bI (decide (ty T i = 31))))), some (.int (iI (fcS T lo i)))] [.int (iI y), .int (iI o), .ref 316] m1) → (if ty T i = 31 then tN T i else paS T lo i) = v → ¬ paS T lo i = 40 → ¬ paS T lo i = 27 → EX D E n T N Y fh lo start s L 195 [some (.ref 316), some (.int (iI (δ))), none, none] 55 [some (.ref 154), some (.ref L), some (.int (iI (δ))), none, none] p X i h := fun o y v hov hm hv hp1 hp2 => by
            have ec := emX_c (X := X) (o := o) (y := y) (by omega) (by omega)
            have eo := emX_op (X := X) (o := o) (y := y) (by omega) (by omega) (by omega) (by omega) (by omega)
            have en : encS (emX X o y) lo (cdX X) = v := by
              unfold encS
              rw [eo.1, eo.2]
              rcases hov with ⟨rfl, q0, q1, q2⟩ | ⟨rfl, ⟨q0, q1⟩ | ⟨q0, q1⟩⟩
              · rw [if_pos rfl, q2]
              · rw [if_neg (by omega), if_pos rfl, if_pos q0, q1]
              · rw [if_neg (by omega), if_pos rfl, if_neg (by omega), q1]
            refine ⟨i + 1, 0, emX X o y, ⟨by omega, by omega⟩, fun m d hd hM => ?_, fun c d hd hC => ?_, fun _ => ⟨fun x k q1 q2 => emX_o (by omega) q2, by omega, by omega, ?_⟩, by omega⟩
            · obtain ⟨m1, h1, g1, e1⟩ := hm m d hd hM
              obtain ⟨m2, e2, h2, g2⟩ := M196 (d := d - 1) h1 (by omega) (by omega) (o := o) (y := y)
              have h3 := h2.1.at (j := i + 1) (by omega) (by omega)
              refine ⟨mm_sI m2 316 7 (iI (i + 1)), ?_, h3, fun _ => h2.at Fr.at7 h3, (g1.tr g2).tr Fr.at7.AtM, cdX X + 1, ?_, by omega, by omega⟩
              · rw [e1, sg_195_187 (by omega)]
                simp (disch := omega) only [shM h1.1.1.1, shM h2.1.1.1, ↓reduceIte, not_false_eq_true, not_true_eq_false, and_self, and_true, true_and, false_and, and_false, or_true, true_or, or_false, false_or, or_self, reduceCtorEq, mm_q, Option.getD_some, cI_some, cJ_some, cV_some, cS_some, kd_sI, kd_sL, kd_sR, kd_cp, ln_sI, ln_sL, ln_sR, ln_cp, gR_sI, gR_sL, gR_sR, gR_cp, gL_sI, gL_sR, gL_cp, gI_sL, gI_sR, iI_add, iI_sub, iI_mul, iI_neg, iI_in, iI_tn, iI_lt, iI_eq, Nat.reduceLeDiff, Nat.reduceEqDiff, Nat.reduceAdd, Int.reduceEq, Int.reduceLT, Int.reduceLE, Int.reduceNeg, Int.reduceAdd, Int.reduceSub, Int.reduceMul, e2, h2.1.2.2.1]
              · rw [gI_sI, if_neg (by omega), cdm h2, ec]
            · obtain ⟨c1, e1, t1, g1⟩ := co c d hd hC
              obtain ⟨c2, e2, t2, g2⟩ := C25 (d := d - 1) t1 (by omega) hT (o := o) (y := y) (v := v) en (by omega) (by omega) (by omega) (by omega) (by omega) (by omega) (by omega)
              refine ⟨c2, ?_, g1.tr g2, fun _ => t2, fun q => absurd rfl q⟩
              rw [e1, hv, sg_55_60 (by omega)]
              simp (disch := omega) only [↓reduceIte, not_false_eq_true, not_true_eq_false, and_self, and_true, true_and, false_and, and_false, or_true, true_or, or_false, false_or, or_self, reduceCtorEq, mm_q, Option.getD_some, cI_some, cJ_some, cV_some, cS_some, kd_sI, kd_sL, kd_sR, kd_cp, ln_sI, ln_sL, ln_sR, ln_cp, gR_sI, gR_sL, gR_sR, gR_cp, gL_sI, gL_sR, gL_cp, gI_sL, gI_sR, iI_add, iI_sub, iI_mul, iI_neg, iI_in, iI_tn, iI_lt, iI_eq, Nat.reduceLeDiff, Nat.reduceEqDiff, Nat.reduceAdd, Int.reduceEq, Int.reduceLT, Int.reduceLE, Int.reduceNeg, Int.reduceAdd, Int.reduceSub, Int.reduceMul, hp1, hp2]
              rw [sg_55_126]
              simp (disch := omega) only [↓reduceIte, not_false_eq_true, not_true_eq_false, and_self, and_true, true_and, false_and, and_false, or_true, true_or, or_false, false_or, or_self, reduceCtorEq, mm_q, Option.getD_some, cI_some, cJ_some, cV_some, cS_some, kd_sI, kd_sL, kd_sR, kd_cp, ln_sI, ln_sL, ln_sR, ln_cp, gR_sI, gR_sL, gR_sR, gR_cp, gL_sI, gL_sR, gL_cp, gI_sL, gI_sR, iI_add, iI_sub, iI_mul, iI_neg, iI_in, iI_tn, iI_lt, iI_eq, Nat.reduceLeDiff, Nat.reduceEqDiff, Nat.reduceAdd, Int.reduceEq, Int.reduceLT, Int.reduceLE, Int.reduceNeg, Int.reduceAdd, Int.reduceSub, Int.reduceMul, hp2]
              rw [sg_55_140 (by omega)]
              simp (disch := omega) only [lwF t1.1.1.1 hC.2.1, ↓reduceIte, not_false_eq_true, not_true_eq_false, and_self, and_true, true_and, false_and, and_false, or_true, true_or, or_false, false_or, or_self, reduceCtorEq, mm_q, Option.getD_some, cI_some, cJ_some, cV_some, cS_some, kd_sI, kd_sL, kd_sR, kd_cp, ln_sI, ln_sL, ln_sR, ln_cp, gR_sI, gR_sL, gR_sR, gR_cp, gL_sI, gL_sR, gL_cp, gI_sL, gI_sR, iI_add, iI_sub, iI_mul, iI_neg, iI_in, iI_tn, iI_lt, iI_eq, Nat.reduceLeDiff, Nat.reduceEqDiff, Nat.reduceAdd, Int.reduceEq, Int.reduceLT, Int.reduceLE, Int.reduceNeg, Int.reduceAdd, Int.reduceSub, Int.reduceMul, e2]
              rfl
            · rw [ec]
              refine LK.push (by omega) (by omega) (by omega) ?_
              rw [eo.1, eo.2]
              rcases hov with ⟨rfl, q0, q1, q2⟩ | ⟨rfl, ⟨q0, q1⟩ | ⟨q0, q1⟩⟩
              · exact Or.inl ⟨rfl, q0⟩
              · exact Or.inr ⟨rfl, Or.inl q0⟩
              · exact Or.inr ⟨rfl, Or.inr q0⟩
          by_cases y31 : ty T i = 31
          · have hk2 : tS T i = 2 ∧ (0 ≤ tN T i ∧ tN T i ≤ 9999) ∧ tV T i = lI (tN T i) := by
              rcases hk with ⟨-, q, y⟩ | ⟨iN, ⟨q, y, y', w⟩ | ⟨q, y, y', v⟩ | ⟨q, y, g, v⟩ | ⟨q, y⟩⟩
              · omega
              · omega
              · exact ⟨q, y', v⟩
              · unfold sgn at g; omega
              · omega
            have pa31 : paS T lo i = 31 := by unfold paS; rw [if_pos y31]
            refine leaf 1 (tN T i) (tN T i) (Or.inl ⟨rfl, hk2.2.1.1, hk2.2.1.2, rfl⟩) (fun m d hd hM => ?_) (by rw [if_pos y31]) (by omega) (by omega)
            obtain ⟨m1, e1, h1, g1⟩ := mo2 m d hd hM
            rw [if_neg y40] at h1
            refine ⟨m1, h1, g1, ?_⟩
            obtain ⟨k1, k2, k3⟩ := h1.1.2.1 i j0 j1
            rw [e1, bI_0 y40, sg_195_140 (by omega), decide_eq_true y31]
            simp (disch := omega) only [↓reduceIte, not_false_eq_true, not_true_eq_false, and_self, and_true, true_and, false_and, and_false, or_true, true_or, or_false, false_or, or_self, reduceCtorEq, mm_q, Option.getD_some, cI_some, cJ_some, cV_some, cS_some, kd_sI, kd_sL, kd_sR, kd_cp, ln_sI, ln_sL, ln_sR, ln_cp, gR_sI, gR_sL, gR_sR, gR_cp, gL_sI, gL_sR, gL_cp, gI_sL, gI_sR, iI_add, iI_sub, iI_mul, iI_neg, iI_in, iI_tn, iI_lt, iI_eq, Nat.reduceLeDiff, Nat.reduceEqDiff, Nat.reduceAdd, Int.reduceEq, Int.reduceLT, Int.reduceLE, Int.reduceNeg, Int.reduceAdd, Int.reduceSub, Int.reduceMul, bI_t, bI_f, decide_true, decide_false, Bool.and_true, Bool.and_false, Bool.true_and, Bool.false_and, Bool.false_eq_true, Bool.and_self, Bool.not_true, Bool.not_false, Bool.true_or, Bool.false_or, Bool.or_true, Bool.or_false]
            rw [sg_195_169]
            simp (disch := omega) only [shM h1.1.1.1, ↓reduceIte, not_false_eq_true, not_true_eq_false, and_self, and_true, true_and, false_and, and_false, or_true, true_or, or_false, false_or, or_self, reduceCtorEq, mm_q, Option.getD_some, cI_some, cJ_some, cV_some, cS_some, kd_sI, kd_sL, kd_sR, kd_cp, ln_sI, ln_sL, ln_sR, ln_cp, gR_sI, gR_sL, gR_sR, gR_cp, gL_sI, gL_sR, gL_cp, gI_sL, gI_sR, iI_add, iI_sub, iI_mul, iI_neg, iI_in, iI_tn, iI_lt, iI_eq, Nat.reduceLeDiff, Nat.reduceEqDiff, Nat.reduceAdd, Int.reduceEq, Int.reduceLT, Int.reduceLE, Int.reduceNeg, Int.reduceAdd, Int.reduceSub, Int.reduceMul, bI_t, bI_f, decide_true, decide_false, Bool.and_true, Bool.and_false, Bool.true_and, Bool.false_and, Bool.false_eq_true, Bool.and_self, Bool.not_true, Bool.not_false, Bool.true_or, Bool.false_or, Bool.or_true, Bool.or_false, h1.1.2.2.1, k3 iN, hk2.2.2, lI_i]
          · have fq : fcS T lo i = lo ∨ fcS T lo i = lo + 1 := by
              rcases fv with q | q | q
              · exfalso
                apply hg
                unfold paS
                rw [if_neg y31, if_neg y27, if_neg y40, if_neg (by omega), if_neg (by omega)]
              · exact Or.inl q
              · exact Or.inr q
            have paf : paS T lo i = if fcS T lo i = lo then -2 else -3 := by
              unfold paS
              rw [if_neg y31, if_neg y27, if_neg y40]
              rcases fq with q | q
              · rw [if_pos q, if_pos q]
              · rw [if_neg (by omega), if_pos q, if_neg (by omega)]
            refine leaf 2 (fcS T lo i) (paS T lo i) (Or.inr ⟨rfl, ?_⟩) (fun m d hd hM => ?_) (by rw [if_neg y31]) (by rw [paf]; split <;> omega) (by rw [paf]; split <;> omega)
            · rw [paf]
              rcases fq with q | q
              · exact Or.inl ⟨q, by rw [if_pos q]⟩
              · exact Or.inr ⟨q, by rw [if_neg (by omega)]⟩
            · obtain ⟨m1, e1, h1, g1⟩ := mo2 m d hd hM
              rw [if_neg y40] at h1
              refine ⟨m1, h1, g1, ?_⟩
              rw [e1, bI_0 y40, sg_195_140 (by omega), decide_eq_false y31]
              simp (disch := omega) only [↓reduceIte, not_false_eq_true, not_true_eq_false, and_self, and_true, true_and, false_and, and_false, or_true, true_or, or_false, false_or, or_self, reduceCtorEq, mm_q, Option.getD_some, cI_some, cJ_some, cV_some, cS_some, kd_sI, kd_sL, kd_sR, kd_cp, ln_sI, ln_sL, ln_sR, ln_cp, gR_sI, gR_sL, gR_sR, gR_cp, gL_sI, gL_sR, gL_cp, gI_sL, gI_sR, iI_add, iI_sub, iI_mul, iI_neg, iI_in, iI_tn, iI_lt, iI_eq, Nat.reduceLeDiff, Nat.reduceEqDiff, Nat.reduceAdd, Int.reduceEq, Int.reduceLT, Int.reduceLE, Int.reduceNeg, Int.reduceAdd, Int.reduceSub, Int.reduceMul, bI_t, bI_f, decide_true, decide_false, Bool.and_true, Bool.and_false, Bool.true_and, Bool.false_and, Bool.false_eq_true, Bool.and_self, Bool.not_true, Bool.not_false, Bool.true_or, Bool.false_or, Bool.or_true, Bool.or_false]
              rw [sg_195_169]
              simp (disch := omega) only [↓reduceIte, not_false_eq_true, not_true_eq_false, and_self, and_true, true_and, false_and, and_false, or_true, true_or, or_false, false_or, or_self, reduceCtorEq, mm_q, Option.getD_some, cI_some, cJ_some, cV_some, cS_some, kd_sI, kd_sL, kd_sR, kd_cp, ln_sI, ln_sL, ln_sR, ln_cp, gR_sI, gR_sL, gR_sR, gR_cp, gL_sI, gL_sR, gL_cp, gI_sL, gI_sR, iI_add, iI_sub, iI_mul, iI_neg, iI_in, iI_tn, iI_lt, iI_eq, Nat.reduceLeDiff, Nat.reduceEqDiff, Nat.reduceAdd, Int.reduceEq, Int.reduceLT, Int.reduceLE, Int.reduceNeg, Int.reduceAdd, Int.reduceSub, Int.reduceMul, bI_t, bI_f, decide_true, decide_false, Bool.and_true, Bool.and_false, Bool.true_and, Bool.false_and, Bool.false_eq_true, Bool.and_self, Bool.not_true, Bool.not_false, Bool.true_or, Bool.false_or, Bool.or_true, Bool.or_false]
/-- a PART, through the last level -/
theorem Lpart4 {p B : Nat} (sub : ∀ X i h, CD N start X i → h ≤ B → EX D E n T N Y fh lo start s L 195 [some (.ref 316), some (.int (iI (δ))), none, none] 55 [some (.ref 154), some (.ref L), some (.int (iI (δ))), none, none] (p - 1) X i h) (hp : 1 ≤ p) : ∀ X i h, CD N start X i → h ≤ B → EX D E n T N Y fh lo start s L 195 [some (.ref 316), some (.int (iI (δ))), none, none] 54 [some (.ref 154), some (.ref L), some (.int (iI (3 + 1))), some (.int (iI (δ))), none, none, none] p X i h := fun X i h hc hh => by
  obtain ⟨i1, f1, X1, a, sm, sc, sx, sf⟩ := sub X i h hc hh
  refine ⟨i1, f1, X1, a, fun m d hd hM => sm m d (by omega) hM, fun c d hd hC => ?_, sx, sf⟩
  obtain ⟨c1, e1, g1, t1, u1⟩ := sc c (d - 1) (by omega) hC
  refine ⟨c1, ?_, g1, t1, u1⟩
  rw [sg_54_0 (by omega)]
  by_cases y : f1 = 0
  · rw [bI_1 y] at e1 ⊢
    simp (disch := omega) only [shP hC.1.1.1, ↓reduceIte, not_false_eq_true, not_true_eq_false, and_self, and_true, true_and, false_and, and_false, or_true, true_or, or_false, false_or, or_self, reduceCtorEq, mm_q, Option.getD_some, cI_some, cJ_some, cV_some, cS_some, kd_sI, kd_sL, kd_sR, kd_cp, ln_sI, ln_sL, ln_sR, ln_cp, gR_sI, gR_sL, gR_sR, gR_cp, gL_sI, gL_sR, gL_cp, gI_sL, gI_sR, iI_add, iI_sub, iI_mul, iI_neg, iI_in, iI_tn, iI_lt, iI_eq, Nat.reduceLeDiff, Nat.reduceEqDiff, Nat.reduceAdd, Int.reduceEq, Int.reduceLT, Int.reduceLE, Int.reduceNeg, Int.reduceAdd, Int.reduceSub, Int.reduceMul, e1]
  · rw [bI_0 y] at e1 ⊢
    simp (disch := omega) only [shP hC.1.1.1, ↓reduceIte, not_false_eq_true, not_true_eq_false, and_self, and_true, true_and, false_and, and_false, or_true, true_or, or_false, false_or, or_self, reduceCtorEq, mm_q, Option.getD_some, cI_some, cJ_some, cV_some, cS_some, kd_sI, kd_sL, kd_sR, kd_cp, ln_sI, ln_sL, ln_sR, ln_cp, gR_sI, gR_sL, gR_sR, gR_cp, gL_sI, gL_sR, gL_cp, gI_sL, gI_sR, iI_add, iI_sub, iI_mul, iI_neg, iI_in, iI_tn, iI_lt, iI_eq, Nat.reduceLeDiff, Nat.reduceEqDiff, Nat.reduceAdd, Int.reduceEq, Int.reduceLT, Int.reduceLE, Int.reduceNeg, Int.reduceAdd, Int.reduceSub, Int.reduceMul, e1]
/-- E at the depth δ -/
theorem Lexpr (hT : TS D n T N) (hE : EK E) (hlo : lo = 0 ∨ lo = 2) (hfh : fh = if lo = 0 then 3 else 12) : ∀ (r : Nat) (δ : Int), δ = 5 - r → 0 ≤ δ → (∀ X i h, CD N start X i → h ≤ (4 * δ + 4).toNat → EX D E n T N Y fh lo start s L 195 [some (.ref 316), some (.int (iI (δ))), none, none] 55 [some (.ref 154), some (.ref L), some (.int (iI (δ))), none, none] (10 + 7 * r) X i h) ∧ (∀ X i h, CD N start X i → h ≤ (4 * δ).toNat → EX D E n T N Y fh lo start s L 191 [some (.ref 316), some (.int (iI (δ))), none] 54 [some (.ref 154), some (.ref L), some (.int (iI (0))), some (.int (iI (δ))), none, none, none] (15 + 7 * r) X i h)
  | r, δ, hr, δ0 => by
    have hP : ∀ X i h, CD N start X i → h ≤ (4 * δ + 4).toNat → EX D E n T N Y fh lo start s L 195 [some (.ref 316), some (.int (iI (δ))), none, none] 55 [some (.ref 154), some (.ref L), some (.int (iI (δ))), none, none] (10 + 7 * r) X i h := fun X i h hc hh => by
      match r with
      | 0 => exact Lpart (B := (4 * δ + 4).toNat) hT hE hlo hfh δ0 (by omega) (by omega) (by omega) (fun q => by omega) (fun q => by omega) hh hc
      | r + 1 =>
        obtain ⟨ih1, ih2⟩ := Lexpr hT hE hlo hfh r (δ + 1) (by omega) (by omega)
        have mono : ∀ {jm jc : Nat} {Lm Lc : mm_L} {p q : Nat} {X : Nat → Nat → Int32} {i : Int} {h : Nat}, p ≤ q → EX D E n T N Y fh lo start s L jm Lm jc Lc p X i h → EX D E n T N Y fh lo start s L jm Lm jc Lc q X i h := fun {jm jc Lm Lc p q X i h} pq e => by
          obtain ⟨i1, f1, X1, a, sm, sc, sx, sf⟩ := e
          exact ⟨i1, f1, X1, a, fun m d hd => sm m d (by omega), fun c d hd => sc c d (by omega), sx, sf⟩
        exact Lpart (B := (4 * δ + 4).toNat) hT hE hlo hfh δ0 (by omega) (by omega) (by omega) (fun q X i h hc hh => mono (by omega) (ih1 X i h hc (by omega))) (fun q X i h hc hh => mono (by omega) (ih2 X i h hc (by omega))) hh hc
    refine ⟨hP, ?_⟩
    have h4 := Lpart4 (p := 11 + 7 * r) (B := (4 * δ + 4).toNat) (fun X i h hc hh => by rw [show 11 + 7 * r - 1 = 10 + 7 * r by omega]; exact hP X i h hc hh) (by omega)
    have h3 : ∀ X i h, CD N start X i → h ≤ (4 * δ + 3).toNat → EX D E n T N Y fh lo start s L 194 [some (.ref 316), some (.int (iI (δ)))] 54 [some (.ref 154), some (.ref L), some (.int (iI (2 + 1))), some (.int (iI (δ))), none, none, none] (12 + 7 * r) X i h := fun X i h hc hh => Lprod (p := 12 + 7 * r) hT (by omega) (B := (4 * δ + 4).toNat) (fun X i h hc hh => by rw [show 12 + 7 * r - 1 = 11 + 7 * r by omega]; exact h4 X i h hc hh) (by omega) hc
    have h2 : ∀ X i h, CD N start X i → h ≤ (4 * δ + 2).toNat → EX D E n T N Y fh lo start s L 193 [some (.ref 316), some (.int (iI (δ))), none] 54 [some (.ref 154), some (.ref L), some (.int (iI (1 + 1))), some (.int (iI (δ))), none, none, none] (13 + 7 * r) X i h := fun X i h hc hh => Lsum (p := 13 + 7 * r) hT (by omega) (B := (4 * δ + 3).toNat) (fun X i h hc hh => by rw [show 13 + 7 * r - 1 = 12 + 7 * r by omega]; exact h3 X i h hc hh) (by omega) hc
    have h1 : ∀ X i h, CD N start X i → h ≤ (4 * δ + 1).toNat → EX D E n T N Y fh lo start s L 192 [some (.ref 316), some (.int (iI (δ))), none] 54 [some (.ref 154), some (.ref L), some (.int (iI (0 + 1))), some (.int (iI (δ))), none, none, none] (14 + 7 * r) X i h := fun X i h hc hh => Ltest (p := 14 + 7 * r) hT (by omega) (B := (4 * δ + 2).toNat) (fun X i h hc hh => by rw [show 14 + 7 * r - 1 = 13 + 7 * r by omega]; exact h2 X i h hc hh) (by omega) hc
    exact fun X i h hc hh => Lall (p := 15 + 7 * r) hT hE (by omega) (B := (4 * δ + 1).toNat) (fun X i h hc hh => by rw [show 15 + 7 * r - 1 = 14 + 7 * r by omega]; exact h1 X i h hc hh) (by omega) hc
end
