section
variable {D : Nat → Nat → Int32} {E : Nat → Nat → Int64} {m m' c c' c'' : mm_M} {d s L : Nat} {n N i f : Int} {T : TK} {X X' X'' : Nat → Nat → Int32} {Y : Nat → Int64} {lo start fh a b : Int} {h : Nat} {δ : Int}
theorem EM.at {j : Int} (h : EM D E T N Y fh X i m) (g : Fr scAt m m') (t : PF D E T N j 0 m') : EM D E T N Y fh X j m' := ⟨t, h.2.1.at g, (g.gI (scAt_o (by omega))).trans h.2.2⟩
theorem lv3 {t : Int} : lvS t = 3 ↔ t = 42 := by
  unfold lvS
  constructor
  · intro q
    (repeat' split at q) <;> omega
  · intro q; subst q; rfl
theorem lv2 {t : Int} : lvS t = 2 ↔ (t = 43 ∨ t = 45) := by
  unfold lvS
  constructor
  · intro q
    (repeat' split at q) <;> omega
  · rintro (q | q) <;> subst q <;> rfl
theorem lv1 {t : Int} : lvS t = 1 ↔ (t = 60 ∨ t = 61) := by
  unfold lvS
  constructor
  · intro q
    (repeat' split at q) <;> omega
  · rintro (q | q) <;> subst q <;> rfl
theorem lv0 {t : Int} : lvS t = 0 ↔ (t = 28 ∨ t = 29) := by
  unfold lvS
  constructor
  · intro q
    (repeat' split at q) <;> omega
  · rintro (q | q) <;> subst q <;> rfl
theorem g42 : sgn 42 := by unfold sgn; omega
theorem g43 : sgn 43 := by unfold sgn; omega
theorem g45 : sgn 45 := by unfold sgn; omega
theorem g60 : sgn 60 := by unfold sgn; omega
theorem g61 : sgn 61 := by unfold sgn; omega
theorem g40 : sgn 40 := by unfold sgn; omega
theorem g41 : sgn 41 := by unfold sgn; omega
theorem g59 : sgn 59 := by unfold sgn; omega
/-- products -/
theorem Lprod (hT : TS D n T N) {p : Nat} (hp : 10 ≤ p) {B : Nat}
    (sub : ∀ X i h, CD N start X i → h ≤ B → EX D E n T N Y fh lo start s L 195 [some (.ref 316), some (.int (iI (δ))), none, none] 54 [some (.ref 154), some (.ref L), some (.int (iI (3 + 1))), some (.int (iI (δ))), none, none, none] (p - 1) X i h) (hB : h + 1 ≤ B) (hc : CD N start X i) : EX D E n T N Y fh lo start s L 194 [some (.ref 316), some (.int (iI (δ)))] 54 [some (.ref 154), some (.ref L), some (.int (iI (3))), some (.int (iI (δ))), none, none, none] p X i h := by
  refine LPa (Lf := fun _ => [some (.ref 316), some (.int (iI (δ)))]) hT (Or.inr (Or.inr rfl)) hp sub ?_ ?_ ?_ ?_ hB hc
  · intro m m1 d hd hs hs1 e
    rw [sg_194_0 (by omega)]
    simp (disch := omega) only [shM hs, ↓reduceIte, not_false_eq_true, not_true_eq_false, and_self, and_true, true_and, false_and, and_false, or_true, true_or, or_false, false_or, or_self, reduceCtorEq, mm_q, Option.getD_some, cI_some, cJ_some, cV_some, cS_some, kd_sI, kd_sL, kd_sR, kd_cp, ln_sI, ln_sL, ln_sR, ln_cp, gR_sI, gR_sL, gR_sR, gR_cp, gL_sI, gL_sR, gL_cp, gI_sL, gI_sR, iI_add, iI_sub, iI_mul, iI_neg, iI_in, iI_tn, iI_lt, iI_eq, Nat.reduceLeDiff, Nat.reduceEqDiff, Nat.reduceAdd, Int.reduceEq, Int.reduceLT, Int.reduceLE, Int.reduceNeg, Int.reduceAdd, Int.reduceSub, Int.reduceMul, e]
  · intro X i m d z hd hM hl
    have z42 : ¬ ty T i = 42 := fun q => hl (lv3.mpr q)
    obtain ⟨m1, e1, h1, g1⟩ := M197 (d := d - 1) hT hM.1 (by omega) g42
    rw [bI_0 (fun q => z42 q.2)] at e1
    rw [if_neg (fun q => z42 q.2)] at h1
    refine ⟨m1, ?_, hM.at g1 h1, g1.AtM⟩
    rw [sg_194_5 (by omega)]
    simp (disch := omega) only [shM hM.1.1.1, ↓reduceIte, not_false_eq_true, not_true_eq_false, and_self, and_true, true_and, false_and, and_false, or_true, true_or, or_false, false_or, or_self, reduceCtorEq, mm_q, Option.getD_some, cI_some, cJ_some, cV_some, cS_some, kd_sI, kd_sL, kd_sR, kd_cp, ln_sI, ln_sL, ln_sR, ln_cp, gR_sI, gR_sL, gR_sR, gR_cp, gL_sI, gL_sR, gL_cp, gI_sL, gI_sR, iI_add, iI_sub, iI_mul, iI_neg, iI_in, iI_tn, iI_lt, iI_eq, Nat.reduceLeDiff, Nat.reduceEqDiff, Nat.reduceAdd, Int.reduceEq, Int.reduceLT, Int.reduceLE, Int.reduceNeg, Int.reduceAdd, Int.reduceSub, Int.reduceMul, e1]
    rw [sg_194_11 (by omega)]
    simp (disch := omega) only [↓reduceIte, not_false_eq_true, not_true_eq_false, and_self, and_true, true_and, false_and, and_false, or_true, true_or, or_false, false_or, or_self, reduceCtorEq, mm_q, Option.getD_some, cI_some, cJ_some, cV_some, cS_some, kd_sI, kd_sL, kd_sR, kd_cp, ln_sI, ln_sL, ln_sR, ln_cp, gR_sI, gR_sL, gR_sR, gR_cp, gL_sI, gL_sR, gL_cp, gI_sL, gI_sR, iI_add, iI_sub, iI_mul, iI_neg, iI_in, iI_tn, iI_lt, iI_eq, Nat.reduceLeDiff, Nat.reduceEqDiff, Nat.reduceAdd, Int.reduceEq, Int.reduceLT, Int.reduceLE, Int.reduceNeg, Int.reduceAdd, Int.reduceSub, Int.reduceMul]
  · intro i f m d z hd hP hf
    obtain ⟨m1, e1, h1, g1⟩ := M197 (d := d - 1) hT hP (by omega) g42
    rw [bI_0 (by omega)] at e1
    rw [if_neg (by omega)] at h1
    refine ⟨m1, ?_, h1, g1⟩
    rw [sg_194_5 (by omega)]
    simp (disch := omega) only [shM hP.1.1, ↓reduceIte, not_false_eq_true, not_true_eq_false, and_self, and_true, true_and, false_and, and_false, or_true, true_or, or_false, false_or, or_self, reduceCtorEq, mm_q, Option.getD_some, cI_some, cJ_some, cV_some, cS_some, kd_sI, kd_sL, kd_sR, kd_cp, ln_sI, ln_sL, ln_sR, ln_cp, gR_sI, gR_sL, gR_sR, gR_cp, gL_sI, gL_sR, gL_cp, gI_sL, gI_sR, iI_add, iI_sub, iI_mul, iI_neg, iI_in, iI_tn, iI_lt, iI_eq, Nat.reduceLeDiff, Nat.reduceEqDiff, Nat.reduceAdd, Int.reduceEq, Int.reduceLT, Int.reduceLE, Int.reduceNeg, Int.reduceAdd, Int.reduceSub, Int.reduceMul, e1]
    rw [sg_194_11 (by omega)]
    simp (disch := omega) only [↓reduceIte, not_false_eq_true, not_true_eq_false, and_self, and_true, true_and, false_and, and_false, or_true, true_or, or_false, false_or, or_self, reduceCtorEq, mm_q, Option.getD_some, cI_some, cJ_some, cV_some, cS_some, kd_sI, kd_sL, kd_sR, kd_cp, ln_sI, ln_sL, ln_sR, ln_cp, gR_sI, gR_sL, gR_sR, gR_cp, gL_sI, gL_sR, gL_cp, gI_sL, gI_sR, iI_add, iI_sub, iI_mul, iI_neg, iI_in, iI_tn, iI_lt, iI_eq, Nat.reduceLeDiff, Nat.reduceEqDiff, Nat.reduceAdd, Int.reduceEq, Int.reduceLT, Int.reduceLE, Int.reduceNeg, Int.reduceAdd, Int.reduceSub, Int.reduceMul]
  · intro X i m d z hd hM hl iN
    have z42 : ty T i = 42 := lv3.mp hl
    obtain ⟨m1, e1, h1, g1⟩ := M197 (d := d - 1) hT hM.1 (by omega) g42
    rw [bI_1 ⟨rfl, z42⟩] at e1
    rw [if_pos ⟨rfl, z42⟩] at h1
    refine ⟨m1, none, hM.at g1 h1, g1.AtM, fun m2 m3 s2 s3 e2 e3 => ?_⟩
    have co : coS (ty T i) = 6 := by rw [z42]; rfl
    rw [co] at e3
    rw [sg_194_5 (by omega)]
    simp (disch := omega) only [shM hM.1.1.1, ↓reduceIte, not_false_eq_true, not_true_eq_false, and_self, and_true, true_and, false_and, and_false, or_true, true_or, or_false, false_or, or_self, reduceCtorEq, mm_q, Option.getD_some, cI_some, cJ_some, cV_some, cS_some, kd_sI, kd_sL, kd_sR, kd_cp, ln_sI, ln_sL, ln_sR, ln_cp, gR_sI, gR_sL, gR_sR, gR_cp, gL_sI, gL_sR, gL_cp, gI_sL, gI_sR, iI_add, iI_sub, iI_mul, iI_neg, iI_in, iI_tn, iI_lt, iI_eq, Nat.reduceLeDiff, Nat.reduceEqDiff, Nat.reduceAdd, Int.reduceEq, Int.reduceLT, Int.reduceLE, Int.reduceNeg, Int.reduceAdd, Int.reduceSub, Int.reduceMul, e1]
    rw [sg_194_11 (by omega)]
    simp (disch := omega) only [shM h1.1.1, shM s2, ↓reduceIte, not_false_eq_true, not_true_eq_false, and_self, and_true, true_and, false_and, and_false, or_true, true_or, or_false, false_or, or_self, reduceCtorEq, mm_q, Option.getD_some, cI_some, cJ_some, cV_some, cS_some, kd_sI, kd_sL, kd_sR, kd_cp, ln_sI, ln_sL, ln_sR, ln_cp, gR_sI, gR_sL, gR_sR, gR_cp, gL_sI, gL_sR, gL_cp, gI_sL, gI_sR, iI_add, iI_sub, iI_mul, iI_neg, iI_in, iI_tn, iI_lt, iI_eq, Nat.reduceLeDiff, Nat.reduceEqDiff, Nat.reduceAdd, Int.reduceEq, Int.reduceLT, Int.reduceLE, Int.reduceNeg, Int.reduceAdd, Int.reduceSub, Int.reduceMul, e2, e3]
/-- sums -/
theorem Lsum (hT : TS D n T N) {p : Nat} (hp : 10 ≤ p) {B : Nat}
    (sub : ∀ X i h, CD N start X i → h ≤ B → EX D E n T N Y fh lo start s L 194 [some (.ref 316), some (.int (iI (δ)))] 54 [some (.ref 154), some (.ref L), some (.int (iI (2 + 1))), some (.int (iI (δ))), none, none, none] (p - 1) X i h) (hB : h + 1 ≤ B) (hc : CD N start X i) : EX D E n T N Y fh lo start s L 193 [some (.ref 316), some (.int (iI (δ))), none] 54 [some (.ref 154), some (.ref L), some (.int (iI (2))), some (.int (iI (δ))), none, none, none] p X i h := by
  refine LPa (Lf := fun z => [some (.ref 316), some (.int (iI (δ))), z]) hT (Or.inr (Or.inl rfl)) hp sub ?_ ?_ ?_ ?_ hB hc
  · intro m m1 d hd hs hs1 e
    rw [sg_193_0 (by omega)]
    simp (disch := omega) only [shM hs, ↓reduceIte, not_false_eq_true, not_true_eq_false, and_self, and_true, true_and, false_and, and_false, or_true, true_or, or_false, false_or, or_self, reduceCtorEq, mm_q, Option.getD_some, cI_some, cJ_some, cV_some, cS_some, kd_sI, kd_sL, kd_sR, kd_cp, ln_sI, ln_sL, ln_sR, ln_cp, gR_sI, gR_sL, gR_sR, gR_cp, gL_sI, gL_sR, gL_cp, gI_sL, gI_sR, iI_add, iI_sub, iI_mul, iI_neg, iI_in, iI_tn, iI_lt, iI_eq, Nat.reduceLeDiff, Nat.reduceEqDiff, Nat.reduceAdd, Int.reduceEq, Int.reduceLT, Int.reduceLE, Int.reduceNeg, Int.reduceAdd, Int.reduceSub, Int.reduceMul, e]
  · intro X i m d z hd hM hl
    have z43 : ¬ ty T i = 43 := fun q => hl (lv2.mpr (Or.inl q))
    have z45 : ¬ ty T i = 45 := fun q => hl (lv2.mpr (Or.inr q))
    have e1 := M176 (d := d - 1) hT hM.1 g43
    have e2 := M176 (d := d - 1) hT hM.1 g45
    rw [bI_0 (fun q => z43 q.2)] at e1
    rw [bI_0 (fun q => z45 q.2)] at e2
    refine ⟨m, ?_, hM, Fr.rf⟩
    rw [sg_193_5 (by omega)]
    simp (disch := omega) only [shM hM.1.1.1, ↓reduceIte, not_false_eq_true, not_true_eq_false, and_self, and_true, true_and, false_and, and_false, or_true, true_or, or_false, false_or, or_self, reduceCtorEq, mm_q, Option.getD_some, cI_some, cJ_some, cV_some, cS_some, kd_sI, kd_sL, kd_sR, kd_cp, ln_sI, ln_sL, ln_sR, ln_cp, gR_sI, gR_sL, gR_sR, gR_cp, gL_sI, gL_sR, gL_cp, gI_sL, gI_sR, iI_add, iI_sub, iI_mul, iI_neg, iI_in, iI_tn, iI_lt, iI_eq, Nat.reduceLeDiff, Nat.reduceEqDiff, Nat.reduceAdd, Int.reduceEq, Int.reduceLT, Int.reduceLE, Int.reduceNeg, Int.reduceAdd, Int.reduceSub, Int.reduceMul, e1]
    rw [sg_193_11 (by omega)]
    simp (disch := omega) only [shM hM.1.1.1, ↓reduceIte, not_false_eq_true, not_true_eq_false, and_self, and_true, true_and, false_and, and_false, or_true, true_or, or_false, false_or, or_self, reduceCtorEq, mm_q, Option.getD_some, cI_some, cJ_some, cV_some, cS_some, kd_sI, kd_sL, kd_sR, kd_cp, ln_sI, ln_sL, ln_sR, ln_cp, gR_sI, gR_sL, gR_sR, gR_cp, gL_sI, gL_sR, gL_cp, gI_sL, gI_sR, iI_add, iI_sub, iI_mul, iI_neg, iI_in, iI_tn, iI_lt, iI_eq, Nat.reduceLeDiff, Nat.reduceEqDiff, Nat.reduceAdd, Int.reduceEq, Int.reduceLT, Int.reduceLE, Int.reduceNeg, Int.reduceAdd, Int.reduceSub, Int.reduceMul, e2]
  · intro i f m d z hd hP hf
    have e1 := M176 (d := d - 1) hT hP g43
    have e2 := M176 (d := d - 1) hT hP g45
    rw [bI_0 (by omega)] at e1 e2
    refine ⟨m, ?_, hP, Fr.rf⟩
    rw [sg_193_5 (by omega)]
    simp (disch := omega) only [shM hP.1.1, ↓reduceIte, not_false_eq_true, not_true_eq_false, and_self, and_true, true_and, false_and, and_false, or_true, true_or, or_false, false_or, or_self, reduceCtorEq, mm_q, Option.getD_some, cI_some, cJ_some, cV_some, cS_some, kd_sI, kd_sL, kd_sR, kd_cp, ln_sI, ln_sL, ln_sR, ln_cp, gR_sI, gR_sL, gR_sR, gR_cp, gL_sI, gL_sR, gL_cp, gI_sL, gI_sR, iI_add, iI_sub, iI_mul, iI_neg, iI_in, iI_tn, iI_lt, iI_eq, Nat.reduceLeDiff, Nat.reduceEqDiff, Nat.reduceAdd, Int.reduceEq, Int.reduceLT, Int.reduceLE, Int.reduceNeg, Int.reduceAdd, Int.reduceSub, Int.reduceMul, e1]
    rw [sg_193_11 (by omega)]
    simp (disch := omega) only [shM hP.1.1, ↓reduceIte, not_false_eq_true, not_true_eq_false, and_self, and_true, true_and, false_and, and_false, or_true, true_or, or_false, false_or, or_self, reduceCtorEq, mm_q, Option.getD_some, cI_some, cJ_some, cV_some, cS_some, kd_sI, kd_sL, kd_sR, kd_cp, ln_sI, ln_sL, ln_sR, ln_cp, gR_sI, gR_sL, gR_sR, gR_cp, gL_sI, gL_sR, gL_cp, gI_sL, gI_sR, iI_add, iI_sub, iI_mul, iI_neg, iI_in, iI_tn, iI_lt, iI_eq, Nat.reduceLeDiff, Nat.reduceEqDiff, Nat.reduceAdd, Int.reduceEq, Int.reduceLT, Int.reduceLE, Int.reduceNeg, Int.reduceAdd, Int.reduceSub, Int.reduceMul, e2]
  · intro X i m d z hd hM hl iN
    have hi := hM.1.2.2.2.2.1
    have h1 := hM.1.at (j := i + 1) (by omega) (by omega)
    have hl' := lv2.mp hl
    have e1 := M176 (d := d - 1) hT hM.1 g43
    have e2 := M176 (d := d - 1) hT hM.1 g45
    by_cases z43 : ty T i = 43
    · rw [bI_1 ⟨rfl, z43⟩] at e1
      refine ⟨_, some (.int (iI 1)), hM.at Fr.at7 h1, Fr.at7.AtM, fun m2 m3 s2 s3 e3 e4 => ?_⟩
      have co : coS (ty T i) = 4 := by rw [z43]; rfl
      rw [co] at e4
      rw [sg_193_5 (by omega)]
      simp (disch := omega) only [shM hM.1.1.1, ↓reduceIte, not_false_eq_true, not_true_eq_false, and_self, and_true, true_and, false_and, and_false, or_true, true_or, or_false, false_or, or_self, reduceCtorEq, mm_q, Option.getD_some, cI_some, cJ_some, cV_some, cS_some, kd_sI, kd_sL, kd_sR, kd_cp, ln_sI, ln_sL, ln_sR, ln_cp, gR_sI, gR_sL, gR_sR, gR_cp, gL_sI, gL_sR, gL_cp, gI_sL, gI_sR, iI_add, iI_sub, iI_mul, iI_neg, iI_in, iI_tn, iI_lt, iI_eq, Nat.reduceLeDiff, Nat.reduceEqDiff, Nat.reduceAdd, Int.reduceEq, Int.reduceLT, Int.reduceLE, Int.reduceNeg, Int.reduceAdd, Int.reduceSub, Int.reduceMul, e1]
      rw [sg_193_11 (by omega)]
      simp (disch := omega) only [↓reduceIte, not_false_eq_true, not_true_eq_false, and_self, and_true, true_and, false_and, and_false, or_true, true_or, or_false, false_or, or_self, reduceCtorEq, mm_q, Option.getD_some, cI_some, cJ_some, cV_some, cS_some, kd_sI, kd_sL, kd_sR, kd_cp, ln_sI, ln_sL, ln_sR, ln_cp, gR_sI, gR_sL, gR_sR, gR_cp, gL_sI, gL_sR, gL_cp, gI_sL, gI_sR, iI_add, iI_sub, iI_mul, iI_neg, iI_in, iI_tn, iI_lt, iI_eq, Nat.reduceLeDiff, Nat.reduceEqDiff, Nat.reduceAdd, Int.reduceEq, Int.reduceLT, Int.reduceLE, Int.reduceNeg, Int.reduceAdd, Int.reduceSub, Int.reduceMul]
      rw [sg_193_23 (by omega)]
      simp (disch := omega) only [shM hM.1.1.1, ↓reduceIte, not_false_eq_true, not_true_eq_false, and_self, and_true, true_and, false_and, and_false, or_true, true_or, or_false, false_or, or_self, reduceCtorEq, mm_q, Option.getD_some, cI_some, cJ_some, cV_some, cS_some, kd_sI, kd_sL, kd_sR, kd_cp, ln_sI, ln_sL, ln_sR, ln_cp, gR_sI, gR_sL, gR_sR, gR_cp, gL_sI, gL_sR, gL_cp, gI_sL, gI_sR, iI_add, iI_sub, iI_mul, iI_neg, iI_in, iI_tn, iI_lt, iI_eq, Nat.reduceLeDiff, Nat.reduceEqDiff, Nat.reduceAdd, Int.reduceEq, Int.reduceLT, Int.reduceLE, Int.reduceNeg, Int.reduceAdd, Int.reduceSub, Int.reduceMul, e1]
      rw [sg_193_29 (by omega)]
      simp (disch := omega) only [shM hM.1.1.1, ↓reduceIte, not_false_eq_true, not_true_eq_false, and_self, and_true, true_and, false_and, and_false, or_true, true_or, or_false, false_or, or_self, reduceCtorEq, mm_q, Option.getD_some, cI_some, cJ_some, cV_some, cS_some, kd_sI, kd_sL, kd_sR, kd_cp, ln_sI, ln_sL, ln_sR, ln_cp, gR_sI, gR_sL, gR_sR, gR_cp, gL_sI, gL_sR, gL_cp, gI_sL, gI_sR, iI_add, iI_sub, iI_mul, iI_neg, iI_in, iI_tn, iI_lt, iI_eq, Nat.reduceLeDiff, Nat.reduceEqDiff, Nat.reduceAdd, Int.reduceEq, Int.reduceLT, Int.reduceLE, Int.reduceNeg, Int.reduceAdd, Int.reduceSub, Int.reduceMul, hM.1.2.2.1, e3]
      rw [sg_193_55 (by omega)]
      simp (disch := omega) only [shM s2, ↓reduceIte, not_false_eq_true, not_true_eq_false, and_self, and_true, true_and, false_and, and_false, or_true, true_or, or_false, false_or, or_self, reduceCtorEq, mm_q, Option.getD_some, cI_some, cJ_some, cV_some, cS_some, kd_sI, kd_sL, kd_sR, kd_cp, ln_sI, ln_sL, ln_sR, ln_cp, gR_sI, gR_sL, gR_sR, gR_cp, gL_sI, gL_sR, gL_cp, gI_sL, gI_sR, iI_add, iI_sub, iI_mul, iI_neg, iI_in, iI_tn, iI_lt, iI_eq, Nat.reduceLeDiff, Nat.reduceEqDiff, Nat.reduceAdd, Int.reduceEq, Int.reduceLT, Int.reduceLE, Int.reduceNeg, Int.reduceAdd, Int.reduceSub, Int.reduceMul, e4]
    · have z45 : ty T i = 45 := by omega
      rw [bI_0 (fun q => z43 q.2)] at e1
      rw [bI_1 ⟨rfl, z45⟩] at e2
      refine ⟨_, some (.int (iI 0)), hM.at Fr.at7 h1, Fr.at7.AtM, fun m2 m3 s2 s3 e3 e4 => ?_⟩
      have co : coS (ty T i) = 5 := by rw [z45]; rfl
      rw [co] at e4
      rw [sg_193_5 (by omega)]
      simp (disch := omega) only [shM hM.1.1.1, ↓reduceIte, not_false_eq_true, not_true_eq_false, and_self, and_true, true_and, false_and, and_false, or_true, true_or, or_false, false_or, or_self, reduceCtorEq, mm_q, Option.getD_some, cI_some, cJ_some, cV_some, cS_some, kd_sI, kd_sL, kd_sR, kd_cp, ln_sI, ln_sL, ln_sR, ln_cp, gR_sI, gR_sL, gR_sR, gR_cp, gL_sI, gL_sR, gL_cp, gI_sL, gI_sR, iI_add, iI_sub, iI_mul, iI_neg, iI_in, iI_tn, iI_lt, iI_eq, Nat.reduceLeDiff, Nat.reduceEqDiff, Nat.reduceAdd, Int.reduceEq, Int.reduceLT, Int.reduceLE, Int.reduceNeg, Int.reduceAdd, Int.reduceSub, Int.reduceMul, e1]
      rw [sg_193_11 (by omega)]
      simp (disch := omega) only [shM hM.1.1.1, ↓reduceIte, not_false_eq_true, not_true_eq_false, and_self, and_true, true_and, false_and, and_false, or_true, true_or, or_false, false_or, or_self, reduceCtorEq, mm_q, Option.getD_some, cI_some, cJ_some, cV_some, cS_some, kd_sI, kd_sL, kd_sR, kd_cp, ln_sI, ln_sL, ln_sR, ln_cp, gR_sI, gR_sL, gR_sR, gR_cp, gL_sI, gL_sR, gL_cp, gI_sL, gI_sR, iI_add, iI_sub, iI_mul, iI_neg, iI_in, iI_tn, iI_lt, iI_eq, Nat.reduceLeDiff, Nat.reduceEqDiff, Nat.reduceAdd, Int.reduceEq, Int.reduceLT, Int.reduceLE, Int.reduceNeg, Int.reduceAdd, Int.reduceSub, Int.reduceMul, e2]
      rw [sg_193_23 (by omega)]
      simp (disch := omega) only [shM hM.1.1.1, ↓reduceIte, not_false_eq_true, not_true_eq_false, and_self, and_true, true_and, false_and, and_false, or_true, true_or, or_false, false_or, or_self, reduceCtorEq, mm_q, Option.getD_some, cI_some, cJ_some, cV_some, cS_some, kd_sI, kd_sL, kd_sR, kd_cp, ln_sI, ln_sL, ln_sR, ln_cp, gR_sI, gR_sL, gR_sR, gR_cp, gL_sI, gL_sR, gL_cp, gI_sL, gI_sR, iI_add, iI_sub, iI_mul, iI_neg, iI_in, iI_tn, iI_lt, iI_eq, Nat.reduceLeDiff, Nat.reduceEqDiff, Nat.reduceAdd, Int.reduceEq, Int.reduceLT, Int.reduceLE, Int.reduceNeg, Int.reduceAdd, Int.reduceSub, Int.reduceMul, e1]
      rw [sg_193_29 (by omega)]
      simp (disch := omega) only [shM hM.1.1.1, ↓reduceIte, not_false_eq_true, not_true_eq_false, and_self, and_true, true_and, false_and, and_false, or_true, true_or, or_false, false_or, or_self, reduceCtorEq, mm_q, Option.getD_some, cI_some, cJ_some, cV_some, cS_some, kd_sI, kd_sL, kd_sR, kd_cp, ln_sI, ln_sL, ln_sR, ln_cp, gR_sI, gR_sL, gR_sR, gR_cp, gL_sI, gL_sR, gL_cp, gI_sL, gI_sR, iI_add, iI_sub, iI_mul, iI_neg, iI_in, iI_tn, iI_lt, iI_eq, Nat.reduceLeDiff, Nat.reduceEqDiff, Nat.reduceAdd, Int.reduceEq, Int.reduceLT, Int.reduceLE, Int.reduceNeg, Int.reduceAdd, Int.reduceSub, Int.reduceMul, hM.1.2.2.1, e3]
      rw [sg_193_55 (by omega)]
      simp (disch := omega) only [shM s2, ↓reduceIte, not_false_eq_true, not_true_eq_false, and_self, and_true, true_and, false_and, and_false, or_true, true_or, or_false, false_or, or_self, reduceCtorEq, mm_q, Option.getD_some, cI_some, cJ_some, cV_some, cS_some, kd_sI, kd_sL, kd_sR, kd_cp, ln_sI, ln_sL, ln_sR, ln_cp, gR_sI, gR_sL, gR_sR, gR_cp, gL_sI, gL_sR, gL_cp, gI_sL, gI_sR, iI_add, iI_sub, iI_mul, iI_neg, iI_in, iI_tn, iI_lt, iI_eq, Nat.reduceLeDiff, Nat.reduceEqDiff, Nat.reduceAdd, Int.reduceEq, Int.reduceLT, Int.reduceLE, Int.reduceNeg, Int.reduceAdd, Int.reduceSub, Int.reduceMul, e4]
/-- all -/
theorem Lall (hT : TS D n T N) (hE : EK E) {p : Nat} (hp : 10 ≤ p) {B : Nat}
    (sub : ∀ X i h, CD N start X i → h ≤ B → EX D E n T N Y fh lo start s L 192 [some (.ref 316), some (.int (iI (δ))), none] 54 [some (.ref 154), some (.ref L), some (.int (iI (0 + 1))), some (.int (iI (δ))), none, none, none] (p - 1) X i h) (hB : h + 1 ≤ B) (hc : CD N start X i) : EX D E n T N Y fh lo start s L 191 [some (.ref 316), some (.int (iI (δ))), none] 54 [some (.ref 154), some (.ref L), some (.int (iI (0))), some (.int (iI (δ))), none, none, none] p X i h := by
  refine LPa (Lf := fun z => [some (.ref 316), some (.int (iI (δ))), z]) hT (Or.inl rfl) hp sub ?_ ?_ ?_ ?_ hB hc
  · intro m m1 d hd hs hs1 e
    rw [sg_191_0 (by omega)]
    simp (disch := omega) only [shM hs, ↓reduceIte, not_false_eq_true, not_true_eq_false, and_self, and_true, true_and, false_and, and_false, or_true, true_or, or_false, false_or, or_self, reduceCtorEq, mm_q, Option.getD_some, cI_some, cJ_some, cV_some, cS_some, kd_sI, kd_sL, kd_sR, kd_cp, ln_sI, ln_sL, ln_sR, ln_cp, gR_sI, gR_sL, gR_sR, gR_cp, gL_sI, gL_sR, gL_cp, gI_sL, gI_sR, iI_add, iI_sub, iI_mul, iI_neg, iI_in, iI_tn, iI_lt, iI_eq, Nat.reduceLeDiff, Nat.reduceEqDiff, Nat.reduceAdd, Int.reduceEq, Int.reduceLT, Int.reduceLE, Int.reduceNeg, Int.reduceAdd, Int.reduceSub, Int.reduceMul, e]
  · intro X i m d z hd hM hl
    have z43 : ¬ ty T i = 28 := fun q => hl (lv0.mpr (Or.inl q))
    have z45 : ¬ ty T i = 29 := fun q => hl (lv0.mpr (Or.inr q))
    have e1 := M171 (d := d - 1) hT hE hM.1 (w := 28) (by omega) (by omega)
    have e2 := M171 (d := d - 1) hT hE hM.1 (w := 29) (by omega) (by omega)
    rw [bI_0 (fun q => z43 q.2)] at e1
    rw [bI_0 (fun q => z45 q.2)] at e2
    refine ⟨m, ?_, hM, Fr.rf⟩
    rw [sg_191_5 (by omega)]
    simp (disch := omega) only [shM hM.1.1.1, ↓reduceIte, not_false_eq_true, not_true_eq_false, and_self, and_true, true_and, false_and, and_false, or_true, true_or, or_false, false_or, or_self, reduceCtorEq, mm_q, Option.getD_some, cI_some, cJ_some, cV_some, cS_some, kd_sI, kd_sL, kd_sR, kd_cp, ln_sI, ln_sL, ln_sR, ln_cp, gR_sI, gR_sL, gR_sR, gR_cp, gL_sI, gL_sR, gL_cp, gI_sL, gI_sR, iI_add, iI_sub, iI_mul, iI_neg, iI_in, iI_tn, iI_lt, iI_eq, Nat.reduceLeDiff, Nat.reduceEqDiff, Nat.reduceAdd, Int.reduceEq, Int.reduceLT, Int.reduceLE, Int.reduceNeg, Int.reduceAdd, Int.reduceSub, Int.reduceMul, e1]
    rw [sg_191_11 (by omega)]
    simp (disch := omega) only [shM hM.1.1.1, ↓reduceIte, not_false_eq_true, not_true_eq_false, and_self, and_true, true_and, false_and, and_false, or_true, true_or, or_false, false_or, or_self, reduceCtorEq, mm_q, Option.getD_some, cI_some, cJ_some, cV_some, cS_some, kd_sI, kd_sL, kd_sR, kd_cp, ln_sI, ln_sL, ln_sR, ln_cp, gR_sI, gR_sL, gR_sR, gR_cp, gL_sI, gL_sR, gL_cp, gI_sL, gI_sR, iI_add, iI_sub, iI_mul, iI_neg, iI_in, iI_tn, iI_lt, iI_eq, Nat.reduceLeDiff, Nat.reduceEqDiff, Nat.reduceAdd, Int.reduceEq, Int.reduceLT, Int.reduceLE, Int.reduceNeg, Int.reduceAdd, Int.reduceSub, Int.reduceMul, e2]
  · intro i f m d z hd hP hf
    have e1 := M171 (d := d - 1) hT hE hP (w := 28) (by omega) (by omega)
    have e2 := M171 (d := d - 1) hT hE hP (w := 29) (by omega) (by omega)
    rw [bI_0 (by omega)] at e1 e2
    refine ⟨m, ?_, hP, Fr.rf⟩
    rw [sg_191_5 (by omega)]
    simp (disch := omega) only [shM hP.1.1, ↓reduceIte, not_false_eq_true, not_true_eq_false, and_self, and_true, true_and, false_and, and_false, or_true, true_or, or_false, false_or, or_self, reduceCtorEq, mm_q, Option.getD_some, cI_some, cJ_some, cV_some, cS_some, kd_sI, kd_sL, kd_sR, kd_cp, ln_sI, ln_sL, ln_sR, ln_cp, gR_sI, gR_sL, gR_sR, gR_cp, gL_sI, gL_sR, gL_cp, gI_sL, gI_sR, iI_add, iI_sub, iI_mul, iI_neg, iI_in, iI_tn, iI_lt, iI_eq, Nat.reduceLeDiff, Nat.reduceEqDiff, Nat.reduceAdd, Int.reduceEq, Int.reduceLT, Int.reduceLE, Int.reduceNeg, Int.reduceAdd, Int.reduceSub, Int.reduceMul, e1]
    rw [sg_191_11 (by omega)]
    simp (disch := omega) only [shM hP.1.1, ↓reduceIte, not_false_eq_true, not_true_eq_false, and_self, and_true, true_and, false_and, and_false, or_true, true_or, or_false, false_or, or_self, reduceCtorEq, mm_q, Option.getD_some, cI_some, cJ_some, cV_some, cS_some, kd_sI, kd_sL, kd_sR, kd_cp, ln_sI, ln_sL, ln_sR, ln_cp, gR_sI, gR_sL, gR_sR, gR_cp, gL_sI, gL_sR, gL_cp, gI_sL, gI_sR, iI_add, iI_sub, iI_mul, iI_neg, iI_in, iI_tn, iI_lt, iI_eq, Nat.reduceLeDiff, Nat.reduceEqDiff, Nat.reduceAdd, Int.reduceEq, Int.reduceLT, Int.reduceLE, Int.reduceNeg, Int.reduceAdd, Int.reduceSub, Int.reduceMul, e2]
  · intro X i m d z hd hM hl iN
    have hi := hM.1.2.2.2.2.1
    have h1 := hM.1.at (j := i + 1) (by omega) (by omega)
    have hl' := lv0.mp hl
    have e1 := M171 (d := d - 1) hT hE hM.1 (w := 28) (by omega) (by omega)
    have e2 := M171 (d := d - 1) hT hE hM.1 (w := 29) (by omega) (by omega)
    by_cases z43 : ty T i = 28
    · rw [bI_1 ⟨rfl, z43⟩] at e1
      refine ⟨_, some (.int (iI 1)), hM.at Fr.at7 h1, Fr.at7.AtM, fun m2 m3 s2 s3 e3 e4 => ?_⟩
      have co : coS (ty T i) = 9 := by rw [z43]; rfl
      rw [co] at e4
      rw [sg_191_5 (by omega)]
      simp (disch := omega) only [shM hM.1.1.1, ↓reduceIte, not_false_eq_true, not_true_eq_false, and_self, and_true, true_and, false_and, and_false, or_true, true_or, or_false, false_or, or_self, reduceCtorEq, mm_q, Option.getD_some, cI_some, cJ_some, cV_some, cS_some, kd_sI, kd_sL, kd_sR, kd_cp, ln_sI, ln_sL, ln_sR, ln_cp, gR_sI, gR_sL, gR_sR, gR_cp, gL_sI, gL_sR, gL_cp, gI_sL, gI_sR, iI_add, iI_sub, iI_mul, iI_neg, iI_in, iI_tn, iI_lt, iI_eq, Nat.reduceLeDiff, Nat.reduceEqDiff, Nat.reduceAdd, Int.reduceEq, Int.reduceLT, Int.reduceLE, Int.reduceNeg, Int.reduceAdd, Int.reduceSub, Int.reduceMul, e1]
      rw [sg_191_11 (by omega)]
      simp (disch := omega) only [↓reduceIte, not_false_eq_true, not_true_eq_false, and_self, and_true, true_and, false_and, and_false, or_true, true_or, or_false, false_or, or_self, reduceCtorEq, mm_q, Option.getD_some, cI_some, cJ_some, cV_some, cS_some, kd_sI, kd_sL, kd_sR, kd_cp, ln_sI, ln_sL, ln_sR, ln_cp, gR_sI, gR_sL, gR_sR, gR_cp, gL_sI, gL_sR, gL_cp, gI_sL, gI_sR, iI_add, iI_sub, iI_mul, iI_neg, iI_in, iI_tn, iI_lt, iI_eq, Nat.reduceLeDiff, Nat.reduceEqDiff, Nat.reduceAdd, Int.reduceEq, Int.reduceLT, Int.reduceLE, Int.reduceNeg, Int.reduceAdd, Int.reduceSub, Int.reduceMul]
      rw [sg_191_23 (by omega)]
      simp (disch := omega) only [shM hM.1.1.1, ↓reduceIte, not_false_eq_true, not_true_eq_false, and_self, and_true, true_and, false_and, and_false, or_true, true_or, or_false, false_or, or_self, reduceCtorEq, mm_q, Option.getD_some, cI_some, cJ_some, cV_some, cS_some, kd_sI, kd_sL, kd_sR, kd_cp, ln_sI, ln_sL, ln_sR, ln_cp, gR_sI, gR_sL, gR_sR, gR_cp, gL_sI, gL_sR, gL_cp, gI_sL, gI_sR, iI_add, iI_sub, iI_mul, iI_neg, iI_in, iI_tn, iI_lt, iI_eq, Nat.reduceLeDiff, Nat.reduceEqDiff, Nat.reduceAdd, Int.reduceEq, Int.reduceLT, Int.reduceLE, Int.reduceNeg, Int.reduceAdd, Int.reduceSub, Int.reduceMul, e1]
      rw [sg_191_29 (by omega)]
      simp (disch := omega) only [shM hM.1.1.1, ↓reduceIte, not_false_eq_true, not_true_eq_false, and_self, and_true, true_and, false_and, and_false, or_true, true_or, or_false, false_or, or_self, reduceCtorEq, mm_q, Option.getD_some, cI_some, cJ_some, cV_some, cS_some, kd_sI, kd_sL, kd_sR, kd_cp, ln_sI, ln_sL, ln_sR, ln_cp, gR_sI, gR_sL, gR_sR, gR_cp, gL_sI, gL_sR, gL_cp, gI_sL, gI_sR, iI_add, iI_sub, iI_mul, iI_neg, iI_in, iI_tn, iI_lt, iI_eq, Nat.reduceLeDiff, Nat.reduceEqDiff, Nat.reduceAdd, Int.reduceEq, Int.reduceLT, Int.reduceLE, Int.reduceNeg, Int.reduceAdd, Int.reduceSub, Int.reduceMul, hM.1.2.2.1, e3]
      rw [sg_191_57 (by omega)]
      simp (disch := omega) only [shM s2, ↓reduceIte, not_false_eq_true, not_true_eq_false, and_self, and_true, true_and, false_and, and_false, or_true, true_or, or_false, false_or, or_self, reduceCtorEq, mm_q, Option.getD_some, cI_some, cJ_some, cV_some, cS_some, kd_sI, kd_sL, kd_sR, kd_cp, ln_sI, ln_sL, ln_sR, ln_cp, gR_sI, gR_sL, gR_sR, gR_cp, gL_sI, gL_sR, gL_cp, gI_sL, gI_sR, iI_add, iI_sub, iI_mul, iI_neg, iI_in, iI_tn, iI_lt, iI_eq, Nat.reduceLeDiff, Nat.reduceEqDiff, Nat.reduceAdd, Int.reduceEq, Int.reduceLT, Int.reduceLE, Int.reduceNeg, Int.reduceAdd, Int.reduceSub, Int.reduceMul, e4]
    · have z45 : ty T i = 29 := by omega
      rw [bI_0 (fun q => z43 q.2)] at e1
      rw [bI_1 ⟨rfl, z45⟩] at e2
      refine ⟨_, some (.int (iI 0)), hM.at Fr.at7 h1, Fr.at7.AtM, fun m2 m3 s2 s3 e3 e4 => ?_⟩
      have co : coS (ty T i) = 10 := by rw [z45]; rfl
      rw [co] at e4
      rw [sg_191_5 (by omega)]
      simp (disch := omega) only [shM hM.1.1.1, ↓reduceIte, not_false_eq_true, not_true_eq_false, and_self, and_true, true_and, false_and, and_false, or_true, true_or, or_false, false_or, or_self, reduceCtorEq, mm_q, Option.getD_some, cI_some, cJ_some, cV_some, cS_some, kd_sI, kd_sL, kd_sR, kd_cp, ln_sI, ln_sL, ln_sR, ln_cp, gR_sI, gR_sL, gR_sR, gR_cp, gL_sI, gL_sR, gL_cp, gI_sL, gI_sR, iI_add, iI_sub, iI_mul, iI_neg, iI_in, iI_tn, iI_lt, iI_eq, Nat.reduceLeDiff, Nat.reduceEqDiff, Nat.reduceAdd, Int.reduceEq, Int.reduceLT, Int.reduceLE, Int.reduceNeg, Int.reduceAdd, Int.reduceSub, Int.reduceMul, e1]
      rw [sg_191_11 (by omega)]
      simp (disch := omega) only [shM hM.1.1.1, ↓reduceIte, not_false_eq_true, not_true_eq_false, and_self, and_true, true_and, false_and, and_false, or_true, true_or, or_false, false_or, or_self, reduceCtorEq, mm_q, Option.getD_some, cI_some, cJ_some, cV_some, cS_some, kd_sI, kd_sL, kd_sR, kd_cp, ln_sI, ln_sL, ln_sR, ln_cp, gR_sI, gR_sL, gR_sR, gR_cp, gL_sI, gL_sR, gL_cp, gI_sL, gI_sR, iI_add, iI_sub, iI_mul, iI_neg, iI_in, iI_tn, iI_lt, iI_eq, Nat.reduceLeDiff, Nat.reduceEqDiff, Nat.reduceAdd, Int.reduceEq, Int.reduceLT, Int.reduceLE, Int.reduceNeg, Int.reduceAdd, Int.reduceSub, Int.reduceMul, e2]
      rw [sg_191_23 (by omega)]
      simp (disch := omega) only [shM hM.1.1.1, ↓reduceIte, not_false_eq_true, not_true_eq_false, and_self, and_true, true_and, false_and, and_false, or_true, true_or, or_false, false_or, or_self, reduceCtorEq, mm_q, Option.getD_some, cI_some, cJ_some, cV_some, cS_some, kd_sI, kd_sL, kd_sR, kd_cp, ln_sI, ln_sL, ln_sR, ln_cp, gR_sI, gR_sL, gR_sR, gR_cp, gL_sI, gL_sR, gL_cp, gI_sL, gI_sR, iI_add, iI_sub, iI_mul, iI_neg, iI_in, iI_tn, iI_lt, iI_eq, Nat.reduceLeDiff, Nat.reduceEqDiff, Nat.reduceAdd, Int.reduceEq, Int.reduceLT, Int.reduceLE, Int.reduceNeg, Int.reduceAdd, Int.reduceSub, Int.reduceMul, e1]
      rw [sg_191_29 (by omega)]
      simp (disch := omega) only [shM hM.1.1.1, ↓reduceIte, not_false_eq_true, not_true_eq_false, and_self, and_true, true_and, false_and, and_false, or_true, true_or, or_false, false_or, or_self, reduceCtorEq, mm_q, Option.getD_some, cI_some, cJ_some, cV_some, cS_some, kd_sI, kd_sL, kd_sR, kd_cp, ln_sI, ln_sL, ln_sR, ln_cp, gR_sI, gR_sL, gR_sR, gR_cp, gL_sI, gL_sR, gL_cp, gI_sL, gI_sR, iI_add, iI_sub, iI_mul, iI_neg, iI_in, iI_tn, iI_lt, iI_eq, Nat.reduceLeDiff, Nat.reduceEqDiff, Nat.reduceAdd, Int.reduceEq, Int.reduceLT, Int.reduceLE, Int.reduceNeg, Int.reduceAdd, Int.reduceSub, Int.reduceMul, hM.1.2.2.1, e3]
      rw [sg_191_57 (by omega)]
      simp (disch := omega) only [shM s2, ↓reduceIte, not_false_eq_true, not_true_eq_false, and_self, and_true, true_and, false_and, and_false, or_true, true_or, or_false, false_or, or_self, reduceCtorEq, mm_q, Option.getD_some, cI_some, cJ_some, cV_some, cS_some, kd_sI, kd_sL, kd_sR, kd_cp, ln_sI, ln_sL, ln_sR, ln_cp, gR_sI, gR_sL, gR_sR, gR_cp, gL_sI, gL_sR, gL_cp, gI_sL, gI_sR, iI_add, iI_sub, iI_mul, iI_neg, iI_in, iI_tn, iI_lt, iI_eq, Nat.reduceLeDiff, Nat.reduceEqDiff, Nat.reduceAdd, Int.reduceEq, Int.reduceLT, Int.reduceLE, Int.reduceNeg, Int.reduceAdd, Int.reduceSub, Int.reduceMul, e4]
/-- test -/
theorem Ltest (hT : TS D n T N) {p : Nat} (hp : 10 ≤ p) {B : Nat}
    (sub : ∀ X i h, CD N start X i → h ≤ B → EX D E n T N Y fh lo start s L 193 [some (.ref 316), some (.int (iI (δ))), none] 54 [some (.ref 154), some (.ref L), some (.int (iI (1 + 1))), some (.int (iI (δ))), none, none, none] (p - 1) X i h) (hB : h + 1 ≤ B) (hc : CD N start X i) : EX D E n T N Y fh lo start s L 192 [some (.ref 316), some (.int (iI (δ))), none] 54 [some (.ref 154), some (.ref L), some (.int (iI (1))), some (.int (iI (δ))), none, none, none] p X i h := by
  obtain ⟨i1, f1, X1, ⟨a1, a2⟩, sm, sc, sx, sf⟩ := sub X i h hc (by omega)
  obtain ⟨⟨j0, j1⟩, ⟨s0, s1⟩, ci⟩ := hc
  have nn := hT.1
  -- the model behind the first sum
  have m0 : ∀ (m m1 : mm_M) (d : Nat), p ≤ d → Sh m → mm_ev (d - 1) 193 0 [some (.ref 316), some (.int (iI (δ))), none] [] m = some (some none, m1) → mm_ev d 192 0 [some (.ref 316), some (.int (iI (δ))), none] [] m = mm_ev d 192 5 [some (.ref 316), some (.int (iI (δ))), none] [] m1 := fun m m1 d hd hs e => by
    rw [sg_192_0 (by omega)]
    simp (disch := omega) only [shM hs, ↓reduceIte, not_false_eq_true, not_true_eq_false, and_self, and_true, true_and, false_and, and_false, or_true, true_or, or_false, false_or, or_self, reduceCtorEq, mm_q, Option.getD_some, cI_some, cJ_some, cV_some, cS_some, kd_sI, kd_sL, kd_sR, kd_cp, ln_sI, ln_sL, ln_sR, ln_cp, gR_sI, gR_sL, gR_sR, gR_cp, gL_sI, gL_sR, gL_cp, gI_sL, gI_sR, iI_add, iI_sub, iI_mul, iI_neg, iI_in, iI_tn, iI_lt, iI_eq, Nat.reduceLeDiff, Nat.reduceEqDiff, Nat.reduceAdd, Int.reduceEq, Int.reduceLT, Int.reduceLE, Int.reduceNeg, Int.reduceAdd, Int.reduceSub, Int.reduceMul, e]
  have mf : ∀ (j f : Int) (m : mm_M) (d : Nat), p ≤ d → PF D E T N j f m → ¬ (f = 0 ∧ (ty T j = 60 ∨ ty T j = 61)) → ∃ m', mm_ev d 192 5 [some (.ref 316), some (.int (iI (δ))), none] [] m = some (some none, m') ∧ PF D E T N j f m' ∧ Fr scAt m m' := fun j f m d hd hP hn => by
    have e1 := M176 (d := d - 1) hT hP g60
    obtain ⟨m2, e2, h2, g2⟩ := M197 (d := d - 1) hT hP (by omega) g60
    rw [bI_0 (fun q => hn ⟨q.1, Or.inl q.2⟩)] at e1 e2
    rw [if_neg (fun q => hn ⟨q.1, Or.inl q.2⟩)] at h2
    obtain ⟨m3, e3, h3, g3⟩ := M197 (d := d - 1) hT h2 (by omega) g61
    rw [bI_0 (fun q => hn ⟨q.1, Or.inr q.2⟩)] at e3
    rw [if_neg (fun q => hn ⟨q.1, Or.inr q.2⟩)] at h3
    refine ⟨m3, ?_, h3, g2.tr g3⟩
    rw [sg_192_5 (by omega)]
    simp (disch := omega) only [shM hP.1.1, ↓reduceIte, not_false_eq_true, not_true_eq_false, and_self, and_true, true_and, false_and, and_false, or_true, true_or, or_false, false_or, or_self, reduceCtorEq, mm_q, Option.getD_some, cI_some, cJ_some, cV_some, cS_some, kd_sI, kd_sL, kd_sR, kd_cp, ln_sI, ln_sL, ln_sR, ln_cp, gR_sI, gR_sL, gR_sR, gR_cp, gL_sI, gL_sR, gL_cp, gI_sL, gI_sR, iI_add, iI_sub, iI_mul, iI_neg, iI_in, iI_tn, iI_lt, iI_eq, Nat.reduceLeDiff, Nat.reduceEqDiff, Nat.reduceAdd, Int.reduceEq, Int.reduceLT, Int.reduceLE, Int.reduceNeg, Int.reduceAdd, Int.reduceSub, Int.reduceMul, e1, e2]
    rw [sg_192_18 (by omega)]
    simp (disch := omega) only [shM h2.1.1, ↓reduceIte, not_false_eq_true, not_true_eq_false, and_self, and_true, true_and, false_and, and_false, or_true, true_or, or_false, false_or, or_self, reduceCtorEq, mm_q, Option.getD_some, cI_some, cJ_some, cV_some, cS_some, kd_sI, kd_sL, kd_sR, kd_cp, ln_sI, ln_sL, ln_sR, ln_cp, gR_sI, gR_sL, gR_sR, gR_cp, gL_sI, gL_sR, gL_cp, gI_sL, gI_sR, iI_add, iI_sub, iI_mul, iI_neg, iI_in, iI_tn, iI_lt, iI_eq, Nat.reduceLeDiff, Nat.reduceEqDiff, Nat.reduceAdd, Int.reduceEq, Int.reduceLT, Int.reduceLE, Int.reduceNeg, Int.reduceAdd, Int.reduceSub, Int.reduceMul, e3]
  have cl : ∀ (c : mm_M) (d : Nat), p ≤ d → EC D n T N s L lo start X i c → ∃ c1, mm_ev d 54 0 [some (.ref 154), some (.ref L), some (.int (iI (1))), some (.int (iI (δ))), none, none, none] [] c = (if f1 = 0 then mm_ev d 54 43 [some (.ref 154), some (.ref L), some (.int (iI (1))), some (.int (iI (δ))), some (.int (iI 1)), some (.int (iI 0)), none] [] c1 else some (some (some (.int (iI 0))), c1)) ∧ Fr (scLw L) c c1 ∧ (f1 = 0 → EC D n T N s L lo start X1 i1 c1) ∧ (¬ f1 = 0 → mm_gI c1 154 3 = iI f1) := fun c d hd hC => by
    obtain ⟨c1, e1, g1, t1, u1⟩ := sc c (d - 1) (by omega) hC
    refine ⟨c1, ?_, g1, t1, u1⟩
    rw [sg_54_0 (by omega)]
    by_cases y : f1 = 0
    · rw [bI_1 y] at e1
      rw [if_pos y]
      simp (disch := omega) only [shP hC.1.1.1, ↓reduceIte, not_false_eq_true, not_true_eq_false, and_self, and_true, true_and, false_and, and_false, or_true, true_or, or_false, false_or, or_self, reduceCtorEq, mm_q, Option.getD_some, cI_some, cJ_some, cV_some, cS_some, kd_sI, kd_sL, kd_sR, kd_cp, ln_sI, ln_sL, ln_sR, ln_cp, gR_sI, gR_sL, gR_sR, gR_cp, gL_sI, gL_sR, gL_cp, gI_sL, gI_sR, iI_add, iI_sub, iI_mul, iI_neg, iI_in, iI_tn, iI_lt, iI_eq, Nat.reduceLeDiff, Nat.reduceEqDiff, Nat.reduceAdd, Int.reduceEq, Int.reduceLT, Int.reduceLE, Int.reduceNeg, Int.reduceAdd, Int.reduceSub, Int.reduceMul, e1] at e1 ⊢
      rw [sg_54_38]
    · rw [bI_0 y] at e1
      rw [if_neg y]
      simp (disch := omega) only [shP hC.1.1.1, ↓reduceIte, not_false_eq_true, not_true_eq_false, and_self, and_true, true_and, false_and, and_false, or_true, true_or, or_false, false_or, or_self, reduceCtorEq, mm_q, Option.getD_some, cI_some, cJ_some, cV_some, cS_some, kd_sI, kd_sL, kd_sR, kd_cp, ln_sI, ln_sL, ln_sR, ln_cp, gR_sI, gR_sL, gR_sR, gR_cp, gL_sI, gL_sR, gL_cp, gI_sL, gI_sR, iI_add, iI_sub, iI_mul, iI_neg, iI_in, iI_tn, iI_lt, iI_eq, Nat.reduceLeDiff, Nat.reduceEqDiff, Nat.reduceAdd, Int.reduceEq, Int.reduceLT, Int.reduceLE, Int.reduceNeg, Int.reduceAdd, Int.reduceSub, Int.reduceMul, e1] at e1 ⊢
  by_cases y : f1 = 0
  · obtain ⟨x1, x2, x3, x4⟩ := sx y
    have tr := hT.tyr (i := i1) (by omega) a2
    by_cases z : lvS (ty T i1) = 1
    · have iN := lv_i hT (i := i1) (by omega) a2 (by omega)
      have z' := lv1.mp z
      have cr := coS_r (t := ty T i1)
      have ar := acS_r (t := ty T i1)
      obtain ⟨i2, f2, X2, ⟨b1, b2⟩, tm, tc, tx, tf⟩ := sub X1 (i1 + 1) (h + 1) ⟨⟨by omega, by omega⟩, ⟨s0, by omega⟩, by omega⟩ hB
      -- the model, over the sign
      have mo : ∀ (m : mm_M) (d : Nat), p ≤ d → EM D E T N Y fh X1 i1 m → ∃ m1, EM D E T N Y fh X1 (i1 + 1) m1 ∧ Fr scM m m1 ∧ ∀ m2 m3, Sh m2 → Sh m3 → mm_ev (d - 1) 193 0 [some (.ref 316), some (.int (iI (δ))), none] [] m1 = some (some none, m2) → mm_ev (d - 1) 196 0 [some (.ref 316), some (.int (iI (coS (ty T i1)))), some (.int (iI (0)))] [] m2 = some (some none, m3) → mm_ev d 192 5 [some (.ref 316), some (.int (iI (δ))), none] [] m = some (some none, m3) := fun m d hd hM => by
        have e1 := M176 (d := d - 1) hT hM.1 g60
        obtain ⟨m2, e2, h2, g2⟩ := M197 (d := d - 1) hT hM.1 (by omega) g60
        by_cases z60 : ty T i1 = 60
        · rw [bI_1 ⟨rfl, z60⟩] at e1 e2
          rw [if_pos ⟨rfl, z60⟩] at h2
          refine ⟨m2, hM.at g2 h2, g2.AtM, fun m3 m4 s3 s4 e3 e4 => ?_⟩
          have co : coS (ty T i1) = 7 := by rw [z60]; rfl
          rw [co] at e4
          rw [sg_192_5 (by omega)]
          simp (disch := omega) only [shM hM.1.1.1, ↓reduceIte, not_false_eq_true, not_true_eq_false, and_self, and_true, true_and, false_and, and_false, or_true, true_or, or_false, false_or, or_self, reduceCtorEq, mm_q, Option.getD_some, cI_some, cJ_some, cV_some, cS_some, kd_sI, kd_sL, kd_sR, kd_cp, ln_sI, ln_sL, ln_sR, ln_cp, gR_sI, gR_sL, gR_sR, gR_cp, gL_sI, gL_sR, gL_cp, gI_sL, gI_sR, iI_add, iI_sub, iI_mul, iI_neg, iI_in, iI_tn, iI_lt, iI_eq, Nat.reduceLeDiff, Nat.reduceEqDiff, Nat.reduceAdd, Int.reduceEq, Int.reduceLT, Int.reduceLE, Int.reduceNeg, Int.reduceAdd, Int.reduceSub, Int.reduceMul, e1, e2]
          rw [sg_192_18 (by omega)]
          simp (disch := omega) only [↓reduceIte, not_false_eq_true, not_true_eq_false, and_self, and_true, true_and, false_and, and_false, or_true, true_or, or_false, false_or, or_self, reduceCtorEq, mm_q, Option.getD_some, cI_some, cJ_some, cV_some, cS_some, kd_sI, kd_sL, kd_sR, kd_cp, ln_sI, ln_sL, ln_sR, ln_cp, gR_sI, gR_sL, gR_sR, gR_cp, gL_sI, gL_sR, gL_cp, gI_sL, gI_sR, iI_add, iI_sub, iI_mul, iI_neg, iI_in, iI_tn, iI_lt, iI_eq, Nat.reduceLeDiff, Nat.reduceEqDiff, Nat.reduceAdd, Int.reduceEq, Int.reduceLT, Int.reduceLE, Int.reduceNeg, Int.reduceAdd, Int.reduceSub, Int.reduceMul]
          rw [sg_192_30 (by omega)]
          simp (disch := omega) only [shM h2.1.1, ↓reduceIte, not_false_eq_true, not_true_eq_false, and_self, and_true, true_and, false_and, and_false, or_true, true_or, or_false, false_or, or_self, reduceCtorEq, mm_q, Option.getD_some, cI_some, cJ_some, cV_some, cS_some, kd_sI, kd_sL, kd_sR, kd_cp, ln_sI, ln_sL, ln_sR, ln_cp, gR_sI, gR_sL, gR_sR, gR_cp, gL_sI, gL_sR, gL_cp, gI_sL, gI_sR, iI_add, iI_sub, iI_mul, iI_neg, iI_in, iI_tn, iI_lt, iI_eq, Nat.reduceLeDiff, Nat.reduceEqDiff, Nat.reduceAdd, Int.reduceEq, Int.reduceLT, Int.reduceLE, Int.reduceNeg, Int.reduceAdd, Int.reduceSub, Int.reduceMul, e3]
          rw [sg_192_47 (by omega)]
          simp (disch := omega) only [shM s3, ↓reduceIte, not_false_eq_true, not_true_eq_false, and_self, and_true, true_and, false_and, and_false, or_true, true_or, or_false, false_or, or_self, reduceCtorEq, mm_q, Option.getD_some, cI_some, cJ_some, cV_some, cS_some, kd_sI, kd_sL, kd_sR, kd_cp, ln_sI, ln_sL, ln_sR, ln_cp, gR_sI, gR_sL, gR_sR, gR_cp, gL_sI, gL_sR, gL_cp, gI_sL, gI_sR, iI_add, iI_sub, iI_mul, iI_neg, iI_in, iI_tn, iI_lt, iI_eq, Nat.reduceLeDiff, Nat.reduceEqDiff, Nat.reduceAdd, Int.reduceEq, Int.reduceLT, Int.reduceLE, Int.reduceNeg, Int.reduceAdd, Int.reduceSub, Int.reduceMul, e4]
        · have z61 : ty T i1 = 61 := by omega
          rw [bI_0 (fun q => z60 q.2)] at e1 e2
          rw [if_neg (fun q => z60 q.2)] at h2
          obtain ⟨m3, e3, h3, g3⟩ := M197 (d := d - 1) hT h2 (by omega) g61
          rw [bI_1 ⟨rfl, z61⟩] at e3
          rw [if_pos ⟨rfl, z61⟩] at h3
          refine ⟨m3, hM.at (g2.tr g3) h3, (g2.tr g3).AtM, fun m4 m5 s4 s5 e4 e5 => ?_⟩
          have co : coS (ty T i1) = 8 := by rw [z61]; rfl
          rw [co] at e5
          rw [sg_192_5 (by omega)]
          simp (disch := omega) only [shM hM.1.1.1, ↓reduceIte, not_false_eq_true, not_true_eq_false, and_self, and_true, true_and, false_and, and_false, or_true, true_or, or_false, false_or, or_self, reduceCtorEq, mm_q, Option.getD_some, cI_some, cJ_some, cV_some, cS_some, kd_sI, kd_sL, kd_sR, kd_cp, ln_sI, ln_sL, ln_sR, ln_cp, gR_sI, gR_sL, gR_sR, gR_cp, gL_sI, gL_sR, gL_cp, gI_sL, gI_sR, iI_add, iI_sub, iI_mul, iI_neg, iI_in, iI_tn, iI_lt, iI_eq, Nat.reduceLeDiff, Nat.reduceEqDiff, Nat.reduceAdd, Int.reduceEq, Int.reduceLT, Int.reduceLE, Int.reduceNeg, Int.reduceAdd, Int.reduceSub, Int.reduceMul, e1, e2]
          rw [sg_192_18 (by omega)]
          simp (disch := omega) only [shM h2.1.1, ↓reduceIte, not_false_eq_true, not_true_eq_false, and_self, and_true, true_and, false_and, and_false, or_true, true_or, or_false, false_or, or_self, reduceCtorEq, mm_q, Option.getD_some, cI_some, cJ_some, cV_some, cS_some, kd_sI, kd_sL, kd_sR, kd_cp, ln_sI, ln_sL, ln_sR, ln_cp, gR_sI, gR_sL, gR_sR, gR_cp, gL_sI, gL_sR, gL_cp, gI_sL, gI_sR, iI_add, iI_sub, iI_mul, iI_neg, iI_in, iI_tn, iI_lt, iI_eq, Nat.reduceLeDiff, Nat.reduceEqDiff, Nat.reduceAdd, Int.reduceEq, Int.reduceLT, Int.reduceLE, Int.reduceNeg, Int.reduceAdd, Int.reduceSub, Int.reduceMul, e3]
          rw [sg_192_30 (by omega)]
          simp (disch := omega) only [shM h3.1.1, ↓reduceIte, not_false_eq_true, not_true_eq_false, and_self, and_true, true_and, false_and, and_false, or_true, true_or, or_false, false_or, or_self, reduceCtorEq, mm_q, Option.getD_some, cI_some, cJ_some, cV_some, cS_some, kd_sI, kd_sL, kd_sR, kd_cp, ln_sI, ln_sL, ln_sR, ln_cp, gR_sI, gR_sL, gR_sR, gR_cp, gL_sI, gL_sR, gL_cp, gI_sL, gI_sR, iI_add, iI_sub, iI_mul, iI_neg, iI_in, iI_tn, iI_lt, iI_eq, Nat.reduceLeDiff, Nat.reduceEqDiff, Nat.reduceAdd, Int.reduceEq, Int.reduceLT, Int.reduceLE, Int.reduceNeg, Int.reduceAdd, Int.reduceSub, Int.reduceMul, e4]
          rw [sg_192_47 (by omega)]
          simp (disch := omega) only [shM s4, ↓reduceIte, not_false_eq_true, not_true_eq_false, and_self, and_true, true_and, false_and, and_false, or_true, true_or, or_false, false_or, or_self, reduceCtorEq, mm_q, Option.getD_some, cI_some, cJ_some, cV_some, cS_some, kd_sI, kd_sL, kd_sR, kd_cp, ln_sI, ln_sL, ln_sR, ln_cp, gR_sI, gR_sL, gR_sR, gR_cp, gL_sI, gL_sR, gL_cp, gI_sL, gI_sR, iI_add, iI_sub, iI_mul, iI_neg, iI_in, iI_tn, iI_lt, iI_eq, Nat.reduceLeDiff, Nat.reduceEqDiff, Nat.reduceAdd, Int.reduceEq, Int.reduceLT, Int.reduceLE, Int.reduceNeg, Int.reduceAdd, Int.reduceSub, Int.reduceMul, e5]
      have cm : ∀ (c : mm_M) (d : Nat), p ≤ d → EC D n T N s L lo start X1 i1 c → ∃ c1, mm_ev d 54 43 [some (.ref 154), some (.ref L), some (.int (iI (1))), some (.int (iI (δ))), some (.int (iI 1)), some (.int (iI 0)), none] [] c = mm_ev d 54 92 [some (.ref 154), some (.ref L), some (.int (iI (1))), some (.int (iI (δ))), some (.int (iI 1)), some (.int (iI 0)), some (.int (iI (acS (ty T i1))))] [.int (iI (bI (decide (f2 = 0))))] c1 ∧ Fr (scLw L) c c1 ∧ (f2 = 0 → EC D n T N s L lo start X2 i2 c1) ∧ (¬ f2 = 0 → mm_gI c1 154 3 = iI f2) := fun c d hd hC => by
        obtain ⟨c1, e1, g1, t1, -⟩ := CR.nx (d := d - 1) hT hC.1 (by omega) iN
        obtain ⟨c2, e2, g2, t2, u2⟩ := tc c1 (d - 1) (by omega) (hC.br g1 t1)
        refine ⟨c2, ?_, g1.BLw.tr g2, t2, u2⟩
        rw [sg_54_43 (by omega)]
        simp (disch := omega) only [shP hC.1.1.1, shT hC.1.1.1, ↓reduceIte, not_false_eq_true, not_true_eq_false, and_self, and_true, true_and, false_and, and_false, or_true, true_or, or_false, false_or, or_self, reduceCtorEq, mm_q, Option.getD_some, cI_some, cJ_some, cV_some, cS_some, kd_sI, kd_sL, kd_sR, kd_cp, ln_sI, ln_sL, ln_sR, ln_cp, gR_sI, gR_sL, gR_sR, gR_cp, gL_sI, gL_sR, gL_cp, gI_sL, gI_sR, iI_add, iI_sub, iI_mul, iI_neg, iI_in, iI_tn, iI_lt, iI_eq, Nat.reduceLeDiff, Nat.reduceEqDiff, Nat.reduceAdd, Int.reduceEq, Int.reduceLT, Int.reduceLE, Int.reduceNeg, Int.reduceAdd, Int.reduceSub, Int.reduceMul, hC.1.2.1.2.1, C57 (show -2147483648 ≤ ty T i1 by omega) (by omega)]
        rw [sg_54_60 (by omega)]
        simp (disch := omega) only [shP hC.1.1.1, shT hC.1.1.1, ↓reduceIte, not_false_eq_true, not_true_eq_false, and_self, and_true, true_and, false_and, and_false, or_true, true_or, or_false, false_or, or_self, reduceCtorEq, mm_q, Option.getD_some, cI_some, cJ_some, cV_some, cS_some, kd_sI, kd_sL, kd_sR, kd_cp, ln_sI, ln_sL, ln_sR, ln_cp, gR_sI, gR_sL, gR_sR, gR_cp, gL_sI, gL_sR, gL_cp, gI_sL, gI_sR, iI_add, iI_sub, iI_mul, iI_neg, iI_in, iI_tn, iI_lt, iI_eq, Nat.reduceLeDiff, Nat.reduceEqDiff, Nat.reduceAdd, Int.reduceEq, Int.reduceLT, Int.reduceLE, Int.reduceNeg, Int.reduceAdd, Int.reduceSub, Int.reduceMul, z, hC.1.2.1.2.1, C58 (show -2147483648 ≤ ty T i1 by omega) (by omega)]
        rw [sg_54_74 (by omega)]
        simp (disch := omega) only [shP hC.1.1.1, shT hC.1.1.1, ↓reduceIte, not_false_eq_true, not_true_eq_false, and_self, and_true, true_and, false_and, and_false, or_true, true_or, or_false, false_or, or_self, reduceCtorEq, mm_q, Option.getD_some, cI_some, cJ_some, cV_some, cS_some, kd_sI, kd_sL, kd_sR, kd_cp, ln_sI, ln_sL, ln_sR, ln_cp, gR_sI, gR_sL, gR_sR, gR_cp, gL_sI, gL_sR, gL_cp, gI_sL, gI_sR, iI_add, iI_sub, iI_mul, iI_neg, iI_in, iI_tn, iI_lt, iI_eq, Nat.reduceLeDiff, Nat.reduceEqDiff, Nat.reduceAdd, Int.reduceEq, Int.reduceLT, Int.reduceLE, Int.reduceNeg, Int.reduceAdd, Int.reduceSub, Int.reduceMul, e1]
        rw [sg_54_83 (by omega)]
        simp (disch := omega) only [shP t1.1.1, ↓reduceIte, not_false_eq_true, not_true_eq_false, and_self, and_true, true_and, false_and, and_false, or_true, true_or, or_false, false_or, or_self, reduceCtorEq, mm_q, Option.getD_some, cI_some, cJ_some, cV_some, cS_some, kd_sI, kd_sL, kd_sR, kd_cp, ln_sI, ln_sL, ln_sR, ln_cp, gR_sI, gR_sL, gR_sR, gR_cp, gL_sI, gL_sR, gL_cp, gI_sL, gI_sR, iI_add, iI_sub, iI_mul, iI_neg, iI_in, iI_tn, iI_lt, iI_eq, Nat.reduceLeDiff, Nat.reduceEqDiff, Nat.reduceAdd, Int.reduceEq, Int.reduceLT, Int.reduceLE, Int.reduceNeg, Int.reduceAdd, Int.reduceSub, Int.reduceMul] at e2 ⊢
        rw [e2, cI_some]
      by_cases y2 : f2 = 0
      · obtain ⟨w1, w2, w3, w4⟩ := tx y2
        have ec := emX_c (X := X2) (o := coS (ty T i1)) (y := 0) (by omega) (by omega)
        refine ⟨i2, 0, emX X2 (coS (ty T i1)) 0, ⟨by omega, b2⟩, fun m d hd hM => ?_, fun c d hd hC => ?_, fun _ => (sx y).step (tx y2) (by omega) (by omega) cr.1 cr.2, by omega⟩
        · obtain ⟨m1, e1, -, h1, g1, -⟩ := sm m (d - 1) (by omega) hM
          obtain ⟨m2, h2, g2, k2⟩ := mo m1 d hd (h1 y)
          obtain ⟨m3, e3, -, h3, g3, -⟩ := tm m2 (d - 1) (by omega) h2
          obtain ⟨m4, e4, h4, g4⟩ := M196 (d := d - 1) (h3 y2) (by omega) (by omega) (o := coS (ty T i1)) (y := 0)
          refine ⟨m4, ?_, h4.1, fun _ => h4, ((g1.tr g2).tr g3).tr g4, cdX X2 + 1, ?_, by omega, by omega⟩
          · rw [m0 m m1 d hd hM.1.1.1 e1, k2 m3 m4 (h3 y2).1.1.1 h4.1.1.1 e3 e4]
          · rw [h4.2.1.2.1.1, ← ec]; unfold cdX; rw [iI_toInt]
        · obtain ⟨c1, e1, g1, t1, -⟩ := cl c d hd hC
          obtain ⟨c2, e2, g2, t2, -⟩ := cm c1 d hd (t1 y)
          obtain ⟨c3, e3, t3, g3⟩ := C25 (d := d - 1) (t2 y2) (by omega) hT (o := coS (ty T i1)) (y := 0) (v := acS (ty T i1)) (enc_co (by omega)) (by omega) (by omega) (by omega) (by omega) (by omega) (by omega) (by omega)
          refine ⟨c3, ?_, (g1.tr g2).tr g3, fun _ => t3, fun q => absurd rfl q⟩
          rw [e1, if_pos y, e2, bI_1 y2, sg_54_92 (by omega)]
          simp (disch := omega) only [lwF (t2 y2).1.1.1 hC.2.1, ↓reduceIte, not_false_eq_true, not_true_eq_false, and_self, and_true, true_and, false_and, and_false, or_true, true_or, or_false, false_or, or_self, reduceCtorEq, mm_q, Option.getD_some, cI_some, cJ_some, cV_some, cS_some, kd_sI, kd_sL, kd_sR, kd_cp, ln_sI, ln_sL, ln_sR, ln_cp, gR_sI, gR_sL, gR_sR, gR_cp, gL_sI, gL_sR, gL_cp, gI_sL, gI_sR, iI_add, iI_sub, iI_mul, iI_neg, iI_in, iI_tn, iI_lt, iI_eq, Nat.reduceLeDiff, Nat.reduceEqDiff, Nat.reduceAdd, Int.reduceEq, Int.reduceLT, Int.reduceLE, Int.reduceNeg, Int.reduceAdd, Int.reduceSub, Int.reduceMul, e3]
          rw [sg_54_43 (by omega)]
          simp (disch := omega) only [↓reduceIte, not_false_eq_true, not_true_eq_false, and_self, and_true, true_and, false_and, and_false, or_true, true_or, or_false, false_or, or_self, reduceCtorEq, mm_q, Option.getD_some, cI_some, cJ_some, cV_some, cS_some, kd_sI, kd_sL, kd_sR, kd_cp, ln_sI, ln_sL, ln_sR, ln_cp, gR_sI, gR_sL, gR_sR, gR_cp, gL_sI, gL_sR, gL_cp, gI_sL, gI_sR, iI_add, iI_sub, iI_mul, iI_neg, iI_in, iI_tn, iI_lt, iI_eq, Nat.reduceLeDiff, Nat.reduceEqDiff, Nat.reduceAdd, Int.reduceEq, Int.reduceLT, Int.reduceLE, Int.reduceNeg, Int.reduceAdd, Int.reduceSub, Int.reduceMul]
          rfl
      · refine ⟨i2, f2, X2, ⟨by omega, b2⟩, fun m d hd hM => ?_, fun c d hd hC => ?_, fun q => absurd q y2, tf⟩
        · obtain ⟨m1, e1, -, h1, g1, -⟩ := sm m (d - 1) (by omega) hM
          obtain ⟨m2, h2, g2, k2⟩ := mo m1 d hd (h1 y)
          obtain ⟨m3, e3, h3, -, g3, k, kk, k0, k9⟩ := tm m2 (d - 1) (by omega) h2
          obtain ⟨m4, e4, h4, g4, q4, -⟩ := M196f (d := d - 1) h3 kk (by omega) (by omega) (o := coS (ty T i1)) (y := 0)
          refine ⟨m4, ?_, h4, fun q => absurd q y2, ((g1.tr g2).tr g3).tr g4, k + 1, q4, by omega, by omega⟩
          rw [m0 m m1 d hd hM.1.1.1 e1, k2 m3 m4 h3.1.1 h4.1.1 e3 e4]
        · obtain ⟨c1, e1, g1, t1, -⟩ := cl c d hd hC
          obtain ⟨c2, e2, g2, -, u2⟩ := cm c1 d hd (t1 y)
          refine ⟨c2, ?_, g1.tr g2, fun q => absurd q y2, u2⟩
          rw [e1, if_pos y, e2, bI_0 y2, sg_54_92 (by omega)]
          simp (disch := omega) only [↓reduceIte, not_false_eq_true, not_true_eq_false, and_self, and_true, true_and, false_and, and_false, or_true, true_or, or_false, false_or, or_self, reduceCtorEq, mm_q, Option.getD_some, cI_some, cJ_some, cV_some, cS_some, kd_sI, kd_sL, kd_sR, kd_cp, ln_sI, ln_sL, ln_sR, ln_cp, gR_sI, gR_sL, gR_sR, gR_cp, gL_sI, gL_sR, gL_cp, gI_sL, gI_sR, iI_add, iI_sub, iI_mul, iI_neg, iI_in, iI_tn, iI_lt, iI_eq, Nat.reduceLeDiff, Nat.reduceEqDiff, Nat.reduceAdd, Int.reduceEq, Int.reduceLT, Int.reduceLE, Int.reduceNeg, Int.reduceAdd, Int.reduceSub, Int.reduceMul]
    · have zn : ¬ (ty T i1 = 60 ∨ ty T i1 = 61) := fun q => z (lv1.mpr q)
      refine ⟨i1, 0, X1, ⟨a1, a2⟩, fun m d hd hM => ?_, fun c d hd hC => ?_, fun _ => sx y, by omega⟩
      · obtain ⟨m1, e1, -, h1, g1, k, kk, k0, k9⟩ := sm m (d - 1) (by omega) hM
        obtain ⟨m2, e2, h2, g2⟩ := mf i1 0 m1 d hd (h1 y).1 (fun q => zn q.2)
        refine ⟨m2, ?_, h2, fun _ => (h1 y).at g2 h2, g1.tr g2.AtM, k, (g2.gI (scAt_o (by omega))).trans kk, k0, k9⟩
        rw [m0 m m1 d hd hM.1.1.1 e1, e2]
      · obtain ⟨c1, e1, g1, t1, -⟩ := cl c d hd hC
        refine ⟨c1, ?_, g1, fun _ => t1 y, fun q => absurd rfl q⟩
        rw [e1, if_pos y, sg_54_43 (by omega)]
        have hC1 := t1 y
        simp (disch := omega) only [shP hC1.1.1.1, shT hC1.1.1.1, ↓reduceIte, not_false_eq_true, not_true_eq_false, and_self, and_true, true_and, false_and, and_false, or_true, true_or, or_false, false_or, or_self, reduceCtorEq, mm_q, Option.getD_some, cI_some, cJ_some, cV_some, cS_some, kd_sI, kd_sL, kd_sR, kd_cp, ln_sI, ln_sL, ln_sR, ln_cp, gR_sI, gR_sL, gR_sR, gR_cp, gL_sI, gL_sR, gL_cp, gI_sL, gI_sR, iI_add, iI_sub, iI_mul, iI_neg, iI_in, iI_tn, iI_lt, iI_eq, Nat.reduceLeDiff, Nat.reduceEqDiff, Nat.reduceAdd, Int.reduceEq, Int.reduceLT, Int.reduceLE, Int.reduceNeg, Int.reduceAdd, Int.reduceSub, Int.reduceMul, hC1.1.2.1.2.1, C57 (show -2147483648 ≤ ty T i1 by omega) (by omega)]
        rw [sg_54_60 (by omega)]
        have lr := lvS_r (t := ty T i1)
        simp (disch := omega) only [↓reduceIte, not_false_eq_true, not_true_eq_false, and_self, and_true, true_and, false_and, and_false, or_true, true_or, or_false, false_or, or_self, reduceCtorEq, mm_q, Option.getD_some, cI_some, cJ_some, cV_some, cS_some, kd_sI, kd_sL, kd_sR, kd_cp, ln_sI, ln_sL, ln_sR, ln_cp, gR_sI, gR_sL, gR_sR, gR_cp, gL_sI, gL_sR, gL_cp, gI_sL, gI_sR, iI_add, iI_sub, iI_mul, iI_neg, iI_in, iI_tn, iI_lt, iI_eq, Nat.reduceLeDiff, Nat.reduceEqDiff, Nat.reduceAdd, Int.reduceEq, Int.reduceLT, Int.reduceLE, Int.reduceNeg, Int.reduceAdd, Int.reduceSub, Int.reduceMul, z]
        rfl
  · refine ⟨i1, f1, X1, ⟨a1, a2⟩, fun m d hd hM => ?_, fun c d hd hC => ?_, fun q => absurd q y, sf⟩
    · obtain ⟨m1, e1, h1, -, g1, k, kk, k0, k9⟩ := sm m (d - 1) (by omega) hM
      obtain ⟨m2, e2, h2, g2⟩ := mf i1 f1 m1 d hd h1 (fun q => y q.1)
      refine ⟨m2, ?_, h2, fun q => absurd q y, g1.tr g2.AtM, k, (g2.gI (scAt_o (by omega))).trans kk, k0, k9⟩
      rw [m0 m m1 d hd hM.1.1.1 e1, e2]
    · obtain ⟨c1, e1, g1, -, u1⟩ := cl c d hd hC
      refine ⟨c1, ?_, g1, fun q => absurd q y, u1⟩
      rw [e1, if_neg y, bI_0 y]
end
