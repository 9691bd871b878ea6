section
variable {D : Nat → Nat → Int32} {E : Nat → Nat → Int64} {m m' c c' c'' : mm_M} {d s L : Nat} {n N i f : Int} {T : TK} {X X' X'' : Nat → Nat → Int32} {Y : Nat → Int64} {v1 v2 v3 v4 v5 : Int}
/-- a field of the street is set while it is read -/
theorem CR.fs (h : CR D n T N i s c) {k : Nat} {v : Int32} : CR D n T N i s (mm_sI c s k v) := h.oq (Fr.sI (scO_t (by omega) (by omega) (by omega)))
/-- the ground, read by the class -/
theorem Cground (hT : TS D n T N) (hC : CR D n T N 0 s c) (hD : DC alX Y c s) (hd : 12 ≤ d) {a1 a2 a3 a4 a5 : Int × Int × Int} {t6 : Int × Int} (h1 : a1 = taS T 0 4 40 0 0) (h2 : a2 = taS T 1 1 4 a1.2.1 a1.2.2) (h3 : a3 = taS T 2 0 (a1.1 - 1) a2.2.1 a2.2.2) (h4 : a4 = taS T 3 a3.1 (a1.1 - 1) a3.2.1 a3.2.2) (h5 : a5 = taS T 4 0 a2.1 a4.2.1 a4.2.2) (h6 : t6 = twS T 59 a5.2.1 a5.2.2) : (∃ c', mm_ev d 37 0 [some (.ref 154)] [] c = some (some (some (.int (iI (bI (decide (t6.2 = 0)))))), c') ∧ Fr (scQs s) c c' ∧ (t6.2 = 0 → CR D n T N t6.1 s c' ∧ DC (grX a1.1 a2.1 a3.1 a4.1 a5.1) Y c' s) ∧ (¬ t6.2 = 0 → mm_gI c' 154 3 = iI t6.2)) ∧ (t6.2 = 0 → LX (grX a1.1 a2.1 a3.1 a4.1 a5.1) t6.1 ∧ 0 ≤ t6.1 ∧ t6.1 ≤ N) := by
  have hst := hC.2.2.2.1
  have hst' : s = 104 ∨ s = 125 := hst
  have nn := hT.1
  have r1 := ta_v (T := T) (i := 0) (f := 0) (w := 0) (lo := 4) (hi := 40)
  rw [← h1] at r1
  have r2 := ta_v (T := T) (i := a1.2.1) (f := a1.2.2) (w := 1) (lo := 1) (hi := 4)
  rw [← h2] at r2
  have r3 := ta_v (T := T) (i := a2.2.1) (f := a2.2.2) (w := 2) (lo := 0) (hi := a1.1 - 1)
  rw [← h3] at r3
  have fq : ∀ {x : mm_M} {k : Nat} {v : Int32}, Fr (scQs s) x (mm_sI x s k v) := fun {x k v} => Fr.sI (scQ_t (by omega) (by omega) (by omega))
  obtain ⟨c1, e1, g1, t1, u1⟩ := C38 (d := d - 1) hT hC (by omega) (w := 0) (lo := 4) (hi := 40) (by omega) (by omega) (by omega) (by omega) (by omega) (by omega)
  rw [← h1] at e1 t1 u1
  have run1 : mm_ev d 37 0 [some (.ref 154)] [] c = mm_ev d 37 8 [some (.ref 154)] [.int (iI (bI (decide (a1.2.2 = 0))))] c1 := by
    rw [sg_37_0 (by omega)]
    simp (disch := omega) only [shP hC.1.1, ↓reduceIte, not_false_eq_true, not_true_eq_false, and_self, and_true, true_and, false_and, and_false, or_true, true_or, or_false, false_or, or_self, reduceCtorEq, mm_q, Option.getD_some, cI_some, cJ_some, cV_some, cS_some, kd_sI, kd_sL, kd_sR, kd_cp, ln_sI, ln_sL, ln_sR, ln_cp, gR_sI, gR_sL, gR_sR, gR_cp, gL_sI, gL_sR, gL_cp, gI_sL, gI_sR, iI_add, iI_sub, iI_mul, iI_neg, iI_in, iI_tn, iI_lt, iI_eq, Nat.reduceLeDiff, Nat.reduceEqDiff, Nat.reduceAdd, Int.reduceEq, Int.reduceLT, Int.reduceLE, Int.reduceNeg, Int.reduceAdd, Int.reduceSub, Int.reduceMul, e1]
  have A1 := ta_r (f := 0) (i := 0) (w := 0) (lo := 4) (hi := 40) hT (by omega) (by omega) (by omega) (by omega)
  rw [← h1] at A1
  rw [run1, sg_37_8 (by omega)]
  by_cases y1 : a1.2.2 = 0
  rotate_left
  · have z2 : a2 = (0, a1.2.1, a1.2.2) := by rw [h2]; exact ta_f y1
    have z3 : a3 = (0, a1.2.1, a1.2.2) := by rw [h3, z2]; exact ta_f y1
    have z4 : a4 = (0, a1.2.1, a1.2.2) := by rw [h4, z3]; exact ta_f y1
    have z5 : a5 = (0, a1.2.1, a1.2.2) := by rw [h5, z4]; exact ta_f y1
    have z6 : t6 = (a1.2.1, a1.2.2) := by rw [h6, z5]; unfold twS; rw [if_neg y1]
    rw [z6]
    dsimp only
    rw [bI_0 y1]
    exact ⟨⟨c1, by simp (disch := omega) only [↓reduceIte, not_false_eq_true, not_true_eq_false, and_self, and_true, true_and, false_and, and_false, or_true, true_or, or_false, false_or, or_self, reduceCtorEq, mm_q, Option.getD_some, cI_some, cJ_some, cV_some, cS_some, kd_sI, kd_sL, kd_sR, kd_cp, ln_sI, ln_sL, ln_sR, ln_cp, gR_sI, gR_sL, gR_sR, gR_cp, gL_sI, gL_sR, gL_cp, gI_sL, gI_sR, iI_add, iI_sub, iI_mul, iI_neg, iI_in, iI_tn, iI_lt, iI_eq, Nat.reduceLeDiff, Nat.reduceEqDiff, Nat.reduceAdd, Int.reduceEq, Int.reduceLT, Int.reduceLE, Int.reduceNeg, Int.reduceAdd, Int.reduceSub, Int.reduceMul], g1.BQ, fun q => absurd q y1, u1⟩, fun q => absurd q y1⟩
  · obtain ⟨t1, v1, -, -⟩ := t1 y1
    obtain ⟨-, B0, B1, B2, B3⟩ := A1 y1
    rw [bI_1 y1]
    have t1' := t1.fs (k := 0) (v := iI a1.1)
    obtain ⟨c2, e2, g2, t2, u2⟩ := C38 (d := d - 1) hT t1' (by omega) (w := 1) (lo := 1) (hi := 4) (by omega) (by omega) (by omega) (by omega) (by omega) (by omega)
    rw [show taS T 1 1 4 a1.2.1 0 = a2 by rw [h2, y1]] at e2 t2 u2
    have A2 := ta_r (f := 0) (i := a1.2.1) (w := 1) (lo := 1) (hi := 4) hT (by omega) (by omega) (by omega) (by omega)
    rw [show taS T 1 1 4 a1.2.1 0 = a2 by rw [h2, y1]] at A2
    have run2 : mm_ev d 37 8 [some (.ref 154)] [.int (iI 1)] c1 = mm_ev d 37 31 [some (.ref 154)] [.int (iI (bI (decide (a2.2.2 = 0))))] c2 := by
      rw [sg_37_8 (by omega)]
      simp (disch := omega) only [shP t1.1.1, shP t1'.1.1, stF t1.1.1 hst, ↓reduceIte, not_false_eq_true, not_true_eq_false, and_self, and_true, true_and, false_and, and_false, or_true, true_or, or_false, false_or, or_self, reduceCtorEq, mm_q, Option.getD_some, cI_some, cJ_some, cV_some, cS_some, kd_sI, kd_sL, kd_sR, kd_cp, ln_sI, ln_sL, ln_sR, ln_cp, gR_sI, gR_sL, gR_sR, gR_cp, gL_sI, gL_sR, gL_cp, gI_sL, gI_sR, iI_add, iI_sub, iI_mul, iI_neg, iI_in, iI_tn, iI_lt, iI_eq, Nat.reduceLeDiff, Nat.reduceEqDiff, Nat.reduceAdd, Int.reduceEq, Int.reduceLT, Int.reduceLE, Int.reduceNeg, Int.reduceAdd, Int.reduceSub, Int.reduceMul, t1.2.2.2.2.1, v1, e2]
    rw [← sg_37_8 (by omega), run2, sg_37_31 (by omega)]
    by_cases y2 : a2.2.2 = 0
    rotate_left
    · have z3 : a3 = (0, a2.2.1, a2.2.2) := by rw [h3]; exact ta_f y2
      have z4 : a4 = (0, a2.2.1, a2.2.2) := by rw [h4, z3]; exact ta_f y2
      have z5 : a5 = (0, a2.2.1, a2.2.2) := by rw [h5, z4]; exact ta_f y2
      have z6 : t6 = (a2.2.1, a2.2.2) := by rw [h6, z5]; unfold twS; rw [if_neg y2]
      rw [z6]
      dsimp only
      rw [bI_0 y2]
      exact ⟨⟨c2, by simp (disch := omega) only [↓reduceIte, not_false_eq_true, not_true_eq_false, and_self, and_true, true_and, false_and, and_false, or_true, true_or, or_false, false_or, or_self, reduceCtorEq, mm_q, Option.getD_some, cI_some, cJ_some, cV_some, cS_some, kd_sI, kd_sL, kd_sR, kd_cp, ln_sI, ln_sL, ln_sR, ln_cp, gR_sI, gR_sL, gR_sR, gR_cp, gL_sI, gL_sR, gL_cp, gI_sL, gI_sR, iI_add, iI_sub, iI_mul, iI_neg, iI_in, iI_tn, iI_lt, iI_eq, Nat.reduceLeDiff, Nat.reduceEqDiff, Nat.reduceAdd, Int.reduceEq, Int.reduceLT, Int.reduceLE, Int.reduceNeg, Int.reduceAdd, Int.reduceSub, Int.reduceMul], (g1.BQ.tr fq).tr g2.BQ, fun q => absurd q y2, u2⟩, fun q => absurd q y2⟩
    · obtain ⟨t2, v2, -, -⟩ := t2 y2
      obtain ⟨-, C0, C1, C2, C3⟩ := A2 y2
      rw [bI_1 y2]
      have t2' := t2.fs (k := 1) (v := iI a2.1)
      have s20 : mm_gI (mm_sI c2 s 1 (iI a2.1)) s 0 = iI a1.1 := by
        rw [gI_sI, if_neg (by omega), g2.gI (scB_st hst (by omega) (by omega)), gI_sI, if_pos ⟨rfl, rfl⟩]
      obtain ⟨c3, e3, g3, t3, u3⟩ := C38 (d := d - 1) hT t2' (by omega) (w := 2) (lo := 0) (hi := a1.1 - 1) (by omega) (by omega) (by omega) (by omega) (by omega) (by omega)
      rw [show taS T 2 0 (a1.1 - 1) a2.2.1 0 = a3 by rw [h3, y2]] at e3 t3 u3
      have A3 := ta_r (f := 0) (i := a2.2.1) (w := 2) (lo := 0) (hi := a1.1 - 1) hT (by omega) (by omega) (by omega) (by omega)
      rw [show taS T 2 0 (a1.1 - 1) a2.2.1 0 = a3 by rw [h3, y2]] at A3
      have run3 : mm_ev d 37 31 [some (.ref 154)] [.int (iI 1)] c2 = mm_ev d 37 62 [some (.ref 154)] [.int (iI (bI (decide (a3.2.2 = 0))))] c3 := by
        rw [sg_37_31 (by omega)]
        simp (disch := omega) only [shP t2.1.1, shP t2'.1.1, stF t2.1.1 hst, stF t2'.1.1 hst, ↓reduceIte, not_false_eq_true, not_true_eq_false, and_self, and_true, true_and, false_and, and_false, or_true, true_or, or_false, false_or, or_self, reduceCtorEq, mm_q, Option.getD_some, cI_some, cJ_some, cV_some, cS_some, kd_sI, kd_sL, kd_sR, kd_cp, ln_sI, ln_sL, ln_sR, ln_cp, gR_sI, gR_sL, gR_sR, gR_cp, gL_sI, gL_sR, gL_cp, gI_sL, gI_sR, iI_add, iI_sub, iI_mul, iI_neg, iI_in, iI_tn, iI_lt, iI_eq, Nat.reduceLeDiff, Nat.reduceEqDiff, Nat.reduceAdd, Int.reduceEq, Int.reduceLT, Int.reduceLE, Int.reduceNeg, Int.reduceAdd, Int.reduceSub, Int.reduceMul, t2.2.2.2.2.1, v2, s20, e3]
      rw [← sg_37_31 (by omega), run3, sg_37_62 (by omega)]
      by_cases y3 : a3.2.2 = 0
      rotate_left
      · have z4 : a4 = (0, a3.2.1, a3.2.2) := by rw [h4]; exact ta_f y3
        have z5 : a5 = (0, a3.2.1, a3.2.2) := by rw [h5, z4]; exact ta_f y3
        have z6 : t6 = (a3.2.1, a3.2.2) := by rw [h6, z5]; unfold twS; rw [if_neg y3]
        rw [z6]
        dsimp only
        rw [bI_0 y3]
        exact ⟨⟨c3, by simp (disch := omega) only [↓reduceIte, not_false_eq_true, not_true_eq_false, and_self, and_true, true_and, false_and, and_false, or_true, true_or, or_false, false_or, or_self, reduceCtorEq, mm_q, Option.getD_some, cI_some, cJ_some, cV_some, cS_some, kd_sI, kd_sL, kd_sR, kd_cp, ln_sI, ln_sL, ln_sR, ln_cp, gR_sI, gR_sL, gR_sR, gR_cp, gL_sI, gL_sR, gL_cp, gI_sL, gI_sR, iI_add, iI_sub, iI_mul, iI_neg, iI_in, iI_tn, iI_lt, iI_eq, Nat.reduceLeDiff, Nat.reduceEqDiff, Nat.reduceAdd, Int.reduceEq, Int.reduceLT, Int.reduceLE, Int.reduceNeg, Int.reduceAdd, Int.reduceSub, Int.reduceMul], (((g1.BQ.tr fq).tr g2.BQ).tr fq).tr g3.BQ, fun q => absurd q y3, u3⟩, fun q => absurd q y3⟩
      · obtain ⟨t3, v3, -, -⟩ := t3 y3
        obtain ⟨-, D0, D1, D2, D3⟩ := A3 y3
        rw [bI_1 y3]
        have t3' := t3.fs (k := 2) (v := iI a3.1)
        have s30 : mm_gI (mm_sI c3 s 2 (iI a3.1)) s 0 = iI a1.1 := by
          rw [gI_sI, if_neg (by omega), g3.gI (scB_st hst (by omega) (by omega))]; exact s20
        have s31 : mm_gI (mm_sI c3 s 2 (iI a3.1)) s 1 = iI a2.1 := by
          rw [gI_sI, if_neg (by omega), g3.gI (scB_st hst (by omega) (by omega)), gI_sI, if_pos ⟨rfl, rfl⟩]
        have s32 : mm_gI (mm_sI c3 s 2 (iI a3.1)) s 2 = iI a3.1 := by rw [gI_sI, if_pos ⟨rfl, rfl⟩]
        obtain ⟨c4, e4, g4, t4, u4⟩ := C38 (d := d - 1) hT t3' (by omega) (w := 3) (lo := a3.1) (hi := a1.1 - 1) (by omega) (by omega) (by omega) (by omega) (by omega) (by omega)
        rw [show taS T 3 a3.1 (a1.1 - 1) a3.2.1 0 = a4 by rw [h4, y3]] at e4 t4 u4
        have A4 := ta_r (f := 0) (i := a3.2.1) (w := 3) (lo := a3.1) (hi := a1.1 - 1) hT (by omega) (by omega) (by omega) (by omega)
        rw [show taS T 3 a3.1 (a1.1 - 1) a3.2.1 0 = a4 by rw [h4, y3]] at A4
        have run4 : mm_ev d 37 62 [some (.ref 154)] [.int (iI 1)] c3 = mm_ev d 37 99 [some (.ref 154)] [.int (iI (bI (decide (a4.2.2 = 0))))] c4 := by
          rw [sg_37_62 (by omega)]
          simp (disch := omega) only [shP t3.1.1, shP t3'.1.1, stF t3.1.1 hst, stF t3'.1.1 hst, ↓reduceIte, not_false_eq_true, not_true_eq_false, and_self, and_true, true_and, false_and, and_false, or_true, true_or, or_false, false_or, or_self, reduceCtorEq, mm_q, Option.getD_some, cI_some, cJ_some, cV_some, cS_some, kd_sI, kd_sL, kd_sR, kd_cp, ln_sI, ln_sL, ln_sR, ln_cp, gR_sI, gR_sL, gR_sR, gR_cp, gL_sI, gL_sR, gL_cp, gI_sL, gI_sR, iI_add, iI_sub, iI_mul, iI_neg, iI_in, iI_tn, iI_lt, iI_eq, Nat.reduceLeDiff, Nat.reduceEqDiff, Nat.reduceAdd, Int.reduceEq, Int.reduceLT, Int.reduceLE, Int.reduceNeg, Int.reduceAdd, Int.reduceSub, Int.reduceMul, t3.2.2.2.2.1, v3, s30, s32, e4]
        rw [← sg_37_62 (by omega), run4, sg_37_99 (by omega)]
        by_cases y4 : a4.2.2 = 0
        rotate_left
        · have z5 : a5 = (0, a4.2.1, a4.2.2) := by rw [h5]; exact ta_f y4
          have z6 : t6 = (a4.2.1, a4.2.2) := by rw [h6, z5]; unfold twS; rw [if_neg y4]
          rw [z6]
          dsimp only
          rw [bI_0 y4]
          exact ⟨⟨c4, by simp (disch := omega) only [↓reduceIte, not_false_eq_true, not_true_eq_false, and_self, and_true, true_and, false_and, and_false, or_true, true_or, or_false, false_or, or_self, reduceCtorEq, mm_q, Option.getD_some, cI_some, cJ_some, cV_some, cS_some, kd_sI, kd_sL, kd_sR, kd_cp, ln_sI, ln_sL, ln_sR, ln_cp, gR_sI, gR_sL, gR_sR, gR_cp, gL_sI, gL_sR, gL_cp, gI_sL, gI_sR, iI_add, iI_sub, iI_mul, iI_neg, iI_in, iI_tn, iI_lt, iI_eq, Nat.reduceLeDiff, Nat.reduceEqDiff, Nat.reduceAdd, Int.reduceEq, Int.reduceLT, Int.reduceLE, Int.reduceNeg, Int.reduceAdd, Int.reduceSub, Int.reduceMul], (((((g1.BQ.tr fq).tr g2.BQ).tr fq).tr g3.BQ).tr fq).tr g4.BQ, fun q => absurd q y4, u4⟩, fun q => absurd q y4⟩
        · obtain ⟨t4, v4, -, -⟩ := t4 y4
          obtain ⟨-, E0, E1, E2, E3⟩ := A4 y4
          rw [bI_1 y4]
          have t4' := t4.fs (k := 3) (v := iI a4.1)
          have k4 : ∀ k, ¬ k = 3 → mm_gI (mm_sI c4 s 3 (iI a4.1)) s k = mm_gI (mm_sI c3 s 2 (iI a3.1)) s k := fun k hk => by
            rw [gI_sI, if_neg (by omega), g4.gI (scB_st hst (by omega) (by omega))]
          have s41 : mm_gI (mm_sI c4 s 3 (iI a4.1)) s 1 = iI a2.1 := (k4 1 (by omega)).trans s31
          obtain ⟨c5, e5, g5, t5, u5⟩ := C38 (d := d - 1) hT t4' (by omega) (w := 4) (lo := 0) (hi := a2.1) (by omega) (by omega) (by omega) (by omega) (by omega) (by omega)
          rw [show taS T 4 0 a2.1 a4.2.1 0 = a5 by rw [h5, y4]] at e5 t5 u5
          have A5 := ta_r (f := 0) (i := a4.2.1) (w := 4) (lo := 0) (hi := a2.1) hT (by omega) (by omega) (by omega) (by omega)
          rw [show taS T 4 0 a2.1 a4.2.1 0 = a5 by rw [h5, y4]] at A5
          have run5 : mm_ev d 37 99 [some (.ref 154)] [.int (iI 1)] c4 = mm_ev d 37 128 [some (.ref 154)] [.int (iI (bI (decide (a5.2.2 = 0))))] c5 := by
            rw [sg_37_99 (by omega)]
            simp (disch := omega) only [shP t4.1.1, shP t4'.1.1, stF t4.1.1 hst, stF t4'.1.1 hst, ↓reduceIte, not_false_eq_true, not_true_eq_false, and_self, and_true, true_and, false_and, and_false, or_true, true_or, or_false, false_or, or_self, reduceCtorEq, mm_q, Option.getD_some, cI_some, cJ_some, cV_some, cS_some, kd_sI, kd_sL, kd_sR, kd_cp, ln_sI, ln_sL, ln_sR, ln_cp, gR_sI, gR_sL, gR_sR, gR_cp, gL_sI, gL_sR, gL_cp, gI_sL, gI_sR, iI_add, iI_sub, iI_mul, iI_neg, iI_in, iI_tn, iI_lt, iI_eq, Nat.reduceLeDiff, Nat.reduceEqDiff, Nat.reduceAdd, Int.reduceEq, Int.reduceLT, Int.reduceLE, Int.reduceNeg, Int.reduceAdd, Int.reduceSub, Int.reduceMul, t4.2.2.2.2.1, v4, s41, e5]
          rw [← sg_37_99 (by omega), run5, sg_37_128 (by omega)]
          by_cases y5 : a5.2.2 = 0
          rotate_left
          · have z6 : t6 = (a5.2.1, a5.2.2) := by rw [h6]; unfold twS; rw [if_neg y5]
            rw [z6]
            dsimp only
            rw [bI_0 y5]
            exact ⟨⟨c5, by simp (disch := omega) only [↓reduceIte, not_false_eq_true, not_true_eq_false, and_self, and_true, true_and, false_and, and_false, or_true, true_or, or_false, false_or, or_self, reduceCtorEq, mm_q, Option.getD_some, cI_some, cJ_some, cV_some, cS_some, kd_sI, kd_sL, kd_sR, kd_cp, ln_sI, ln_sL, ln_sR, ln_cp, gR_sI, gR_sL, gR_sR, gR_cp, gL_sI, gL_sR, gL_cp, gI_sL, gI_sR, iI_add, iI_sub, iI_mul, iI_neg, iI_in, iI_tn, iI_lt, iI_eq, Nat.reduceLeDiff, Nat.reduceEqDiff, Nat.reduceAdd, Int.reduceEq, Int.reduceLT, Int.reduceLE, Int.reduceNeg, Int.reduceAdd, Int.reduceSub, Int.reduceMul], (((((((g1.BQ.tr fq).tr g2.BQ).tr fq).tr g3.BQ).tr fq).tr g4.BQ).tr fq).tr g5.BQ, fun q => absurd q y5, u5⟩, fun q => absurd q y5⟩
          · obtain ⟨t5, v5, -, -⟩ := t5 y5
            obtain ⟨-, F0, F1, F2, F3⟩ := A5 y5
            rw [bI_1 y5]
            have t5' := t5.fs (k := 4) (v := iI a5.1)
            obtain ⟨c6, e6, g6, t6', u6⟩ := C39 (d := d - 1) hT t5' (by omega) (w := 59) (by omega) (by omega)
            have h6' : twS T 59 a5.2.1 0 = t6 := by rw [h6, y5]
            rw [h6'] at e6 t6' u6
            have T6 := tw_r (f := 0) (i := a5.2.1) (w := 59) hT (by omega) (by omega) (by omega)
            rw [h6'] at T6
            have gq : Fr (scQs s) c c6 := (((((((((g1.BQ.tr fq).tr g2.BQ).tr fq).tr g3.BQ).tr fq).tr g4.BQ).tr fq).tr g5.BQ).tr fq).tr g6.BQ
            have e6' : mm_ev d 37 128 [some (.ref 154)] [.int (iI 1)] c5 = some (some (some (.int (iI (bI (decide (t6.2 = 0)))))), c6) := by
              rw [sg_37_128 (by omega)]
              by_cases y6 : t6.2 = 0
              · rw [bI_1 y6] at e6 ⊢
                simp (disch := omega) only [shP t5.1.1, shP t5'.1.1, stF t5.1.1 hst, ↓reduceIte, not_false_eq_true, not_true_eq_false, and_self, and_true, true_and, false_and, and_false, or_true, true_or, or_false, false_or, or_self, reduceCtorEq, mm_q, Option.getD_some, cI_some, cJ_some, cV_some, cS_some, kd_sI, kd_sL, kd_sR, kd_cp, ln_sI, ln_sL, ln_sR, ln_cp, gR_sI, gR_sL, gR_sR, gR_cp, gL_sI, gL_sR, gL_cp, gI_sL, gI_sR, iI_add, iI_sub, iI_mul, iI_neg, iI_in, iI_tn, iI_lt, iI_eq, Nat.reduceLeDiff, Nat.reduceEqDiff, Nat.reduceAdd, Int.reduceEq, Int.reduceLT, Int.reduceLE, Int.reduceNeg, Int.reduceAdd, Int.reduceSub, Int.reduceMul, t5.2.2.2.2.1, v5, e6]
              · rw [bI_0 y6] at e6 ⊢
                simp (disch := omega) only [shP t5.1.1, shP t5'.1.1, stF t5.1.1 hst, ↓reduceIte, not_false_eq_true, not_true_eq_false, and_self, and_true, true_and, false_and, and_false, or_true, true_or, or_false, false_or, or_self, reduceCtorEq, mm_q, Option.getD_some, cI_some, cJ_some, cV_some, cS_some, kd_sI, kd_sL, kd_sR, kd_cp, ln_sI, ln_sL, ln_sR, ln_cp, gR_sI, gR_sL, gR_sR, gR_cp, gL_sI, gL_sR, gL_cp, gI_sL, gI_sR, iI_add, iI_sub, iI_mul, iI_neg, iI_in, iI_tn, iI_lt, iI_eq, Nat.reduceLeDiff, Nat.reduceEqDiff, Nat.reduceAdd, Int.reduceEq, Int.reduceLT, Int.reduceLE, Int.reduceNeg, Int.reduceAdd, Int.reduceSub, Int.reduceMul, t5.2.2.2.2.1, v5, e6]
            rw [← sg_37_128 (by omega), e6']
            have w1 : gR0 a1.1 := ⟨by omega, by omega⟩
            have w2 : gR0 a2.1 := ⟨by omega, by omega⟩
            have w3 : gR0 a3.1 := ⟨by omega, by omega⟩
            have w4 : gR0 a4.1 := ⟨by omega, by omega⟩
            have w5 : gR0 a5.1 := ⟨by omega, by omega⟩
            have sx := grX_st w1 w2 w3 w4 w5
            have hi : ∀ j : Int, 5 ≤ j → st (grX a1.1 a2.1 a3.1 a4.1 a5.1) j = st alX j := fun j hj => by
              rw [sx, if_neg (by omega), if_neg (by omega), if_neg (by omega), if_neg (by omega), if_neg (by omega), st_a]
            have st9 : st alX 9 = -1 := by decide
            have st10 : st alX 10 = -1 := by decide
            have st5 : st alX 5 = 0 := by decide
            have st6 : st alX 6 = 0 := by decide
            have st7 : st alX 7 = 0 := by decide
            have st8 : st alX 8 = 20 := by decide
            have rm0 : rmX (grX a1.1 a2.1 a3.1 a4.1 a5.1) = 0 := by unfold rmX; rw [grX_o (by omega)]; rfl
            have cd0 : cdX (grX a1.1 a2.1 a3.1 a4.1 a5.1) = 0 := by unfold cdX; rw [grX_o (by omega)]; rfl
            have hr0 : hrX (grX a1.1 a2.1 a3.1 a4.1 a5.1) = 0 := by unfold hrX; rw [grX_o (by omega)]; rfl
            refine ⟨⟨c6, rfl, gq, fun y6 => ⟨t6' y6, ?_⟩, u6⟩, fun y6 => ?_⟩
            · have k5 : ∀ k, ¬ k = 4 → mm_gI (mm_sI c5 s 4 (iI a5.1)) s k = mm_gI (mm_sI c4 s 3 (iI a4.1)) s k := fun k hk => by
                rw [gI_sI, if_neg (by omega), g5.gI (scB_st hst (by omega) (by omega))]
              have k6 : ∀ k, mm_gI c6 s k = mm_gI (mm_sI c5 s 4 (iI a5.1)) s k := fun k => g6.gI (scB_st hst (by omega) (by omega))
              have ko : ∀ x k, s ≤ x → x ≤ s + 20 → ¬ (x = s ∧ k ≤ 4) → mm_gI c6 x k = mm_gI c x k := fun x k x0 x1 x2 => by
                have b := fun {a : mm_M} {b : mm_M} (g : Fr scBr a b) => g.gI (a := x) (k := k) (scB_st hst x0 x1)
                rw [b g6, gI_sI, if_neg (by omega), b g5, gI_sI, if_neg (by omega), b g4, gI_sI, if_neg (by omega), b g3, gI_sI, if_neg (by omega), b g2, gI_sI, if_neg (by omega), b g1]
              obtain ⟨⟨b0, b1, b2, b3, b4, b5, b6, b7, b8⟩, bt, bw, bq, la, lb⟩ := hD.1
              refine ⟨⟨⟨?_, ?_, ?_, ?_, ?_, ?_, ?_, ?_, ?_⟩, fun x z0 z1 => ?_, fun x z0 z1 => ?_, fun x z0 z1 => ?_, ?_, ?_⟩, ?_, ?_, ?_, ?_⟩
              · rw [sx, if_neg (by omega), if_neg (by omega), if_neg (by omega), if_neg (by omega), if_pos (by omega), k6, k5 0 (by omega), k4 0 (by omega)]; exact s30
              · rw [sx, if_neg (by omega), if_neg (by omega), if_neg (by omega), if_pos (by omega), k6, k5 1 (by omega)]; exact s41
              · rw [sx, if_neg (by omega), if_neg (by omega), if_pos (by omega), k6, k5 2 (by omega), k4 2 (by omega)]; exact s32
              · rw [sx, if_neg (by omega), if_pos (by omega), k6, k5 3 (by omega), gI_sI, if_pos ⟨rfl, rfl⟩]
              · rw [sx, if_pos (by omega), k6, gI_sI, if_pos ⟨rfl, rfl⟩]
              · rw [hi 8 (by omega), ko _ _ (by omega) (by omega) (by omega)]; exact b5
              · rw [hi 5 (by omega), ko _ _ (by omega) (by omega) (by omega)]; exact b6
              · rw [hi 6 (by omega), ko _ _ (by omega) (by omega) (by omega)]; exact b7
              · rw [hi 7 (by omega), ko _ _ (by omega) (by omega) (by omega)]; exact b8
              · rw [hi 5 (by omega), st5] at z1; omega
              · rw [hi 6 (by omega), st6] at z1; omega
              · rw [hi 7 (by omega), st7] at z1; omega
              · rw [hi 9 (by omega)]
                exact (la.cg (ko _ _ (by omega) (by omega) (by omega)) (fun k => ko _ _ (by omega) (by omega) (by omega))).cX (by funext k; rw [grX_o (by omega)]; rfl) (by funext k; rw [grX_o (by omega)]; rfl)
              · rw [hi 10 (by omega)]
                exact (lb.cg (ko _ _ (by omega) (by omega) (by omega)) (fun k => ko _ _ (by omega) (by omega) (by omega))).cX (by funext k; rw [grX_o (by omega)]; rfl) (by funext k; rw [grX_o (by omega)]; rfl)
              · rw [hr0, ko _ _ (by omega) (by omega) (by omega)]; exact hD.2.1
              · rw [hi 9 (by omega), ko _ _ (by omega) (by omega) (by omega)]; exact hD.2.2.1
              · rw [hi 10 (by omega), ko _ _ (by omega) (by omega) (by omega)]; exact hD.2.2.2.1
              · rw [rm0, hi 5 (by omega), hi 6 (by omega), st5, st6]
                exact ⟨rfl, ⟨by omega, by omega⟩, ⟨by omega, by omega⟩, fun k hk => by omega, fun k j hk => by omega, fun w w0 w1 => by omega, fun w w0 w1 => by omega⟩
            · obtain ⟨-, G1, G2, -⟩ := T6 y6
              refine ⟨⟨⟨?_, ?_, ?_, ?_, ?_, ?_, ?_, ?_, fun x z0 z1 => ?_, fun x z0 z1 => ?_, fun x z0 z1 => ?_⟩, ⟨Or.inl ?_, Or.inl ?_⟩, ⟨fun q => ?_, fun q => ?_⟩, ⟨by omega, by omega⟩, Or.inl hr0, fun k hk => by omega, ?_⟩, by omega, by omega⟩
              · rw [sx, if_neg (by omega), if_neg (by omega), if_neg (by omega), if_neg (by omega), if_pos (by omega)]; omega
              · rw [sx, if_neg (by omega), if_neg (by omega), if_neg (by omega), if_pos (by omega)]; omega
              · rw [sx 2, if_neg (by omega), if_neg (by omega), if_pos (by omega), sx 3, if_neg (by omega), if_pos (by omega), sx 0, if_neg (by omega), if_neg (by omega), if_neg (by omega), if_neg (by omega), if_pos (by omega)]; omega
              · rw [sx 4, if_pos (by omega), sx 1, if_neg (by omega), if_neg (by omega), if_neg (by omega), if_pos (by omega)]; omega
              · rw [hi 5 (by omega), st5]; omega
              · rw [hi 6 (by omega), st6]; omega
              · rw [hi 7 (by omega), st7]; omega
              · rw [hi 8 (by omega), st8]; omega
              · rw [hi 5 (by omega), st5] at z1; omega
              · rw [hi 6 (by omega), st6] at z1; omega
              · rw [hi 7 (by omega), st7] at z1; omega
              · rw [hi 9 (by omega), st9]
              · rw [hi 10 (by omega), st10]
              · rw [hi 9 (by omega), st9] at q; omega
              · rw [hi 10 (by omega), st10] at q; omega
              · rw [rm0, hi 5 (by omega), hi 6 (by omega), st5, st6]; rfl
end
