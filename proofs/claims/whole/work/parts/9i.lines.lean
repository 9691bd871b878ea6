def jmS (t : Int) : Nat := if t = 5 then 178 else if t = 7 then 183 else if t = 13 then 189 else 190
def LmS (t : Int) : mm_L := if t = 5 then [some (.ref 316), none] else if t = 7 then [some (.ref 316), none, none] else if t = 13 then [some (.ref 316), none, none, none, none] else [some (.ref 316), none]
def jcS (t : Int) : Nat := if t = 5 then 42 else if t = 7 then 44 else if t = 13 then 50 else if t = 14 then 52 else if t = 15 then 53 else if t = 16 then 53 else 40
def LcS (s : Nat) (t : Int) : mm_L := if t = 5 then [some (.ref 154)] else if t = 7 then [some (.ref 154), none, none] else if t = 13 then [some (.ref 154), none, none] else if t = 14 then [some (.ref 154)] else if t = 15 then [some (.ref 154), some (.ref (s + 7))] else if t = 16 then [some (.ref 154), some (.ref (s + 10))] else [some (.ref 154), some (.int (iI 1))]
section
variable {D : Nat → Nat → Int32} {E : Nat → Nat → Int64} {m m' c c' c'' : mm_M} {d s L : Nat} {n N i f : Int} {T : TK} {X X' X'' : Nat → Nat → Int32} {Y : Nat → Int64}
/-- a line of any sort -/
theorem L_any (hT : TS D n T N) (hE : EK E) (hX : LX X i) (i0 : 0 ≤ i) (iN : i < N) (hst : isSt s) : LNs D E n T N X Y i s (jmS (ty T i)) (LmS (ty T i)) (jcS (ty T i)) (LcS s (ty T i)) := by
  unfold jmS LmS jcS LcS
  by_cases z5 : ty T i = 5
  · simp only [if_pos z5]; exact (L_say hT hE hX i0 iN z5).toS s
  · simp only [if_neg z5]
    by_cases z7 : ty T i = 7
    · simp only [if_pos z7]; exact (L_walker hT hE hX i0 iN z7).toS s
    · simp only [if_neg z7]
      by_cases z13 : ty T i = 13
      · simp only [if_pos z13]; exact (L_must hT hE hX i0 iN z13).toS s
      · simp only [if_neg z13]
        by_cases z14 : ty T i = 14
        · simp only [if_pos z14]; exact (L_round hT hE hX i0 iN z14).toS s
        · simp only [if_neg z14]
          by_cases z15 : ty T i = 15
          · simp only [if_pos z15]; exact L_law (lo := 0) (fh := 3) hT hE hX i0 iN (Or.inl ⟨rfl, rfl, rfl, rfl⟩) z15 hst
          · simp only [if_neg z15]
            by_cases z16 : ty T i = 16
            · simp only [if_pos z16]; exact L_law (lo := 2) (fh := 12) hT hE hX i0 iN (Or.inr ⟨rfl, rfl, rfl, rfl⟩) z16 hst
            · simp only [if_neg z16]; exact (L_bad hT hE i0 iN z14 z15 z16).toS s
/-- readLine -/
theorem M177 (hT : TS D n T N) (hE : EK E) (hP : PF D E T N i 0 m) (hd : 2 ≤ d) (e : mm_ev (d - 1) (jmS (ty T i)) 0 (LmS (ty T i)) [] m = some (some none, m')) : mm_ev d 177 0 [some (.ref 316)] [] m = some (some none, m') := by
  have e5 := M171 (d := d - 1) hT hE hP (w := 5) (by omega) (by omega)
  have e7 := M171 (d := d - 1) hT hE hP (w := 7) (by omega) (by omega)
  have e13 := M171 (d := d - 1) hT hE hP (w := 13) (by omega) (by omega)
  unfold jmS LmS at e
  rw [sg_177_0 (by omega)]
  by_cases z5 : ty T i = 5
  · simp only [if_pos z5] at e
    rw [bI_1 ⟨rfl, z5⟩] at e5
    simp (disch := omega) only [shM hP.1.1, ↓reduceIte, not_false_eq_true, not_true_eq_false, and_self, and_true, true_and, false_and, and_false, or_true, true_or, or_false, false_or, or_self, reduceCtorEq, mm_q, Option.getD_some, cI_some, cJ_some, cV_some, cS_some, kd_sI, kd_sL, kd_sR, kd_cp, ln_sI, ln_sL, ln_sR, ln_cp, gR_sI, gR_sL, gR_sR, gR_cp, gL_sI, gL_sR, gL_cp, gI_sL, gI_sR, iI_add, iI_sub, iI_mul, iI_neg, iI_in, iI_tn, iI_lt, iI_eq, Nat.reduceLeDiff, Nat.reduceEqDiff, Nat.reduceAdd, Int.reduceEq, Int.reduceLT, Int.reduceLE, Int.reduceNeg, Int.reduceAdd, Int.reduceSub, Int.reduceMul, e5]
    rw [sg_177_5 (by omega)]
    simp (disch := omega) only [shM hP.1.1, ↓reduceIte, not_false_eq_true, not_true_eq_false, and_self, and_true, true_and, false_and, and_false, or_true, true_or, or_false, false_or, or_self, reduceCtorEq, mm_q, Option.getD_some, cI_some, cJ_some, cV_some, cS_some, kd_sI, kd_sL, kd_sR, kd_cp, ln_sI, ln_sL, ln_sR, ln_cp, gR_sI, gR_sL, gR_sR, gR_cp, gL_sI, gL_sR, gL_cp, gI_sL, gI_sR, iI_add, iI_sub, iI_mul, iI_neg, iI_in, iI_tn, iI_lt, iI_eq, Nat.reduceLeDiff, Nat.reduceEqDiff, Nat.reduceAdd, Int.reduceEq, Int.reduceLT, Int.reduceLE, Int.reduceNeg, Int.reduceAdd, Int.reduceSub, Int.reduceMul, e]
  · simp only [if_neg z5] at e
    rw [bI_0 (fun q => z5 q.2)] at e5
    simp (disch := omega) only [shM hP.1.1, ↓reduceIte, not_false_eq_true, not_true_eq_false, and_self, and_true, true_and, false_and, and_false, or_true, true_or, or_false, false_or, or_self, reduceCtorEq, mm_q, Option.getD_some, cI_some, cJ_some, cV_some, cS_some, kd_sI, kd_sL, kd_sR, kd_cp, ln_sI, ln_sL, ln_sR, ln_cp, gR_sI, gR_sL, gR_sR, gR_cp, gL_sI, gL_sR, gL_cp, gI_sL, gI_sR, iI_add, iI_sub, iI_mul, iI_neg, iI_in, iI_tn, iI_lt, iI_eq, Nat.reduceLeDiff, Nat.reduceEqDiff, Nat.reduceAdd, Int.reduceEq, Int.reduceLT, Int.reduceLE, Int.reduceNeg, Int.reduceAdd, Int.reduceSub, Int.reduceMul, e5]
    rw [sg_177_5 (by omega)]
    by_cases z7 : ty T i = 7
    · simp only [if_pos z7] at e
      rw [bI_1 ⟨rfl, z7⟩] at e7
      simp (disch := omega) only [shM hP.1.1, ↓reduceIte, not_false_eq_true, not_true_eq_false, and_self, and_true, true_and, false_and, and_false, or_true, true_or, or_false, false_or, or_self, reduceCtorEq, mm_q, Option.getD_some, cI_some, cJ_some, cV_some, cS_some, kd_sI, kd_sL, kd_sR, kd_cp, ln_sI, ln_sL, ln_sR, ln_cp, gR_sI, gR_sL, gR_sR, gR_cp, gL_sI, gL_sR, gL_cp, gI_sL, gI_sR, iI_add, iI_sub, iI_mul, iI_neg, iI_in, iI_tn, iI_lt, iI_eq, Nat.reduceLeDiff, Nat.reduceEqDiff, Nat.reduceAdd, Int.reduceEq, Int.reduceLT, Int.reduceLE, Int.reduceNeg, Int.reduceAdd, Int.reduceSub, Int.reduceMul, e7]
      rw [sg_177_21 (by omega)]
      simp (disch := omega) only [shM hP.1.1, ↓reduceIte, not_false_eq_true, not_true_eq_false, and_self, and_true, true_and, false_and, and_false, or_true, true_or, or_false, false_or, or_self, reduceCtorEq, mm_q, Option.getD_some, cI_some, cJ_some, cV_some, cS_some, kd_sI, kd_sL, kd_sR, kd_cp, ln_sI, ln_sL, ln_sR, ln_cp, gR_sI, gR_sL, gR_sR, gR_cp, gL_sI, gL_sR, gL_cp, gI_sL, gI_sR, iI_add, iI_sub, iI_mul, iI_neg, iI_in, iI_tn, iI_lt, iI_eq, Nat.reduceLeDiff, Nat.reduceEqDiff, Nat.reduceAdd, Int.reduceEq, Int.reduceLT, Int.reduceLE, Int.reduceNeg, Int.reduceAdd, Int.reduceSub, Int.reduceMul, e]
    · simp only [if_neg z7] at e
      rw [bI_0 (fun q => z7 q.2)] at e7
      simp (disch := omega) only [shM hP.1.1, ↓reduceIte, not_false_eq_true, not_true_eq_false, and_self, and_true, true_and, false_and, and_false, or_true, true_or, or_false, false_or, or_self, reduceCtorEq, mm_q, Option.getD_some, cI_some, cJ_some, cV_some, cS_some, kd_sI, kd_sL, kd_sR, kd_cp, ln_sI, ln_sL, ln_sR, ln_cp, gR_sI, gR_sL, gR_sR, gR_cp, gL_sI, gL_sR, gL_cp, gI_sL, gI_sR, iI_add, iI_sub, iI_mul, iI_neg, iI_in, iI_tn, iI_lt, iI_eq, Nat.reduceLeDiff, Nat.reduceEqDiff, Nat.reduceAdd, Int.reduceEq, Int.reduceLT, Int.reduceLE, Int.reduceNeg, Int.reduceAdd, Int.reduceSub, Int.reduceMul, e7]
      rw [sg_177_21 (by omega)]
      by_cases z13 : ty T i = 13
      · simp only [if_pos z13] at e
        rw [bI_1 ⟨rfl, z13⟩] at e13
        simp (disch := omega) only [shM hP.1.1, ↓reduceIte, not_false_eq_true, not_true_eq_false, and_self, and_true, true_and, false_and, and_false, or_true, true_or, or_false, false_or, or_self, reduceCtorEq, mm_q, Option.getD_some, cI_some, cJ_some, cV_some, cS_some, kd_sI, kd_sL, kd_sR, kd_cp, ln_sI, ln_sL, ln_sR, ln_cp, gR_sI, gR_sL, gR_sR, gR_cp, gL_sI, gL_sR, gL_cp, gI_sL, gI_sR, iI_add, iI_sub, iI_mul, iI_neg, iI_in, iI_tn, iI_lt, iI_eq, Nat.reduceLeDiff, Nat.reduceEqDiff, Nat.reduceAdd, Int.reduceEq, Int.reduceLT, Int.reduceLE, Int.reduceNeg, Int.reduceAdd, Int.reduceSub, Int.reduceMul, e13]
        rw [sg_177_37 (by omega)]
        simp (disch := omega) only [shM hP.1.1, ↓reduceIte, not_false_eq_true, not_true_eq_false, and_self, and_true, true_and, false_and, and_false, or_true, true_or, or_false, false_or, or_self, reduceCtorEq, mm_q, Option.getD_some, cI_some, cJ_some, cV_some, cS_some, kd_sI, kd_sL, kd_sR, kd_cp, ln_sI, ln_sL, ln_sR, ln_cp, gR_sI, gR_sL, gR_sR, gR_cp, gL_sI, gL_sR, gL_cp, gI_sL, gI_sR, iI_add, iI_sub, iI_mul, iI_neg, iI_in, iI_tn, iI_lt, iI_eq, Nat.reduceLeDiff, Nat.reduceEqDiff, Nat.reduceAdd, Int.reduceEq, Int.reduceLT, Int.reduceLE, Int.reduceNeg, Int.reduceAdd, Int.reduceSub, Int.reduceMul, e]
      · simp only [if_neg z13] at e
        rw [bI_0 (fun q => z13 q.2)] at e13
        simp (disch := omega) only [shM hP.1.1, ↓reduceIte, not_false_eq_true, not_true_eq_false, and_self, and_true, true_and, false_and, and_false, or_true, true_or, or_false, false_or, or_self, reduceCtorEq, mm_q, Option.getD_some, cI_some, cJ_some, cV_some, cS_some, kd_sI, kd_sL, kd_sR, kd_cp, ln_sI, ln_sL, ln_sR, ln_cp, gR_sI, gR_sL, gR_sR, gR_cp, gL_sI, gL_sR, gL_cp, gI_sL, gI_sR, iI_add, iI_sub, iI_mul, iI_neg, iI_in, iI_tn, iI_lt, iI_eq, Nat.reduceLeDiff, Nat.reduceEqDiff, Nat.reduceAdd, Int.reduceEq, Int.reduceLT, Int.reduceLE, Int.reduceNeg, Int.reduceAdd, Int.reduceSub, Int.reduceMul, e13]
        rw [sg_177_37 (by omega)]
        simp (disch := omega) only [shM hP.1.1, ↓reduceIte, not_false_eq_true, not_true_eq_false, and_self, and_true, true_and, false_and, and_false, or_true, true_or, or_false, false_or, or_self, reduceCtorEq, mm_q, Option.getD_some, cI_some, cJ_some, cV_some, cS_some, kd_sI, kd_sL, kd_sR, kd_cp, ln_sI, ln_sL, ln_sR, ln_cp, gR_sI, gR_sL, gR_sR, gR_cp, gL_sI, gL_sR, gL_cp, gI_sL, gI_sR, iI_add, iI_sub, iI_mul, iI_neg, iI_in, iI_tn, iI_lt, iI_eq, Nat.reduceLeDiff, Nat.reduceEqDiff, Nat.reduceAdd, Int.reduceEq, Int.reduceLT, Int.reduceLE, Int.reduceNeg, Int.reduceAdd, Int.reduceSub, Int.reduceMul, e]
/-- readStreet's switch -/
theorem C36s (hT : TS D n T N) (hC : CR D n T N i s c) (iN : i < N) (hd : 2 ≤ d) {cnt : Int} (k0 : 0 ≤ cnt) (k1 : cnt < 1000) {v : Int32} (e : mm_ev (d - 1) (jcS (ty T i)) 0 (LcS s (ty T i)) [] c = some (some (some (.int v)), c')) : mm_ev d 36 31 [some (.ref 154), some (.ref s), some (.int (iI 1)), some (.int (iI (cnt)))] [] c = mm_ev d 36 192 [some (.ref 154), some (.ref s), some (.int v), some (.int (iI (cnt)))] [] c' := by
  obtain ⟨i0, i1⟩ := hC.2.2.1
  have tr := hT.tyr i0 i1
  have n128 : ¬ ty T i = 128 := by
    rcases (hT.k i0 i1).2 with ⟨q, -⟩ | ⟨-, ⟨-, -, y, -⟩ | ⟨-, y, -⟩ | ⟨-, y, z, -⟩ | ⟨-, y⟩⟩
    · omega
    · omega
    · omega
    · unfold sgn at z; omega
    · omega
  unfold jcS LcS at e
  rw [sg_36_31 (by omega)]
  have hs := stF hC.1.1 hC.2.2.2.1
  have kd5 : mm_kd c 154 = 5 := (shP hC.1.1).2.2.2.2.2.2.2.2.2.2.2.2.2.2.1
  have r0 : mm_gR c 154 0 = some 101 := hC.1.1.gR (by decide) (by decide +kernel) (by decide +kernel)
  have q0 : mm_q c 154 0 = 101 := by unfold mm_q; rw [r0]; rfl
  have q1 : mm_q c 154 1 = s := by unfold mm_q; rw [hC.2.2.2.2.1]; rfl
  have q16 : mm_q c s 16 = s + 7 := by unfold mm_q; rw [hs.2.2.2.2.2.2.2.2.2.2.2.2.2.2.2.2.2.2.2.2.2.1]; rfl
  have q17 : mm_q c s 17 = s + 10 := by unfold mm_q; rw [hs.2.2.2.2.2.2.2.2.2.2.2.2.2.2.2.2.2.2.2.2.2.2]; rfl
  have kd8 : mm_kd c 101 = 8 := (shT hC.1.1).1
  have ne : ∀ x, 0 ≤ x → x ≤ 200 → ¬ ty T i = x → ¬ iI (ty T i) = iI x := fun x x0 x1 q => by rw [iI_eq] <;> omega
  rw [if_neg (by decide), if_pos (by rw [iI_lt] <;> omega), if_pos ⟨kd5, by rw [r0]; simp⟩, q0, if_pos kd8, hC.2.1.2.1, if_neg (ne 128 (by omega) (by omega) n128), if_pos ⟨kd5, by rw [r0]; simp⟩, if_pos kd8]
  dsimp only
  by_cases z5 : ty T i = 5
  · simp only [if_pos z5] at e
    rw [if_pos (by rw [z5]), if_pos kd5, e, cI_some]
  · rw [if_neg (ne 5 (by omega) (by omega) z5)]
    by_cases z6 : ty T i = 6
    · simp only [if_neg (show ¬ ty T i = 5 by omega)] at e; simp only [if_neg (show ¬ ty T i = 7 by omega)] at e; simp only [if_neg (show ¬ ty T i = 13 by omega)] at e; simp only [if_neg (show ¬ ty T i = 14 by omega)] at e; simp only [if_neg (show ¬ ty T i = 15 by omega)] at e; simp only [if_neg (show ¬ ty T i = 16 by omega)] at e
      rw [if_pos (by rw [z6]), if_pos kd5, e, cI_some]
    · rw [if_neg (ne 6 (by omega) (by omega) z6)]
      by_cases z7 : ty T i = 7
      · simp only [if_neg z5] at e; simp only [if_pos z7] at e
        rw [if_pos (by rw [z7]), if_pos kd5, e, cI_some]
      · rw [if_neg (ne 7 (by omega) (by omega) z7)]
        by_cases z8 : ty T i = 8
        · simp only [if_neg (show ¬ ty T i = 5 by omega)] at e; simp only [if_neg (show ¬ ty T i = 7 by omega)] at e; simp only [if_neg (show ¬ ty T i = 13 by omega)] at e; simp only [if_neg (show ¬ ty T i = 14 by omega)] at e; simp only [if_neg (show ¬ ty T i = 15 by omega)] at e; simp only [if_neg (show ¬ ty T i = 16 by omega)] at e
          rw [if_pos (by rw [z8]), if_pos kd5, e, cI_some]
        · rw [if_neg (ne 8 (by omega) (by omega) z8)]
          by_cases z9 : ty T i = 9
          · simp only [if_neg (show ¬ ty T i = 5 by omega)] at e; simp only [if_neg (show ¬ ty T i = 7 by omega)] at e; simp only [if_neg (show ¬ ty T i = 13 by omega)] at e; simp only [if_neg (show ¬ ty T i = 14 by omega)] at e; simp only [if_neg (show ¬ ty T i = 15 by omega)] at e; simp only [if_neg (show ¬ ty T i = 16 by omega)] at e
            rw [if_pos (by rw [z9]), if_pos kd5, e, cI_some]
          · rw [if_neg (ne 9 (by omega) (by omega) z9)]
            by_cases z10 : ty T i = 10
            · simp only [if_neg (show ¬ ty T i = 5 by omega)] at e; simp only [if_neg (show ¬ ty T i = 7 by omega)] at e; simp only [if_neg (show ¬ ty T i = 13 by omega)] at e; simp only [if_neg (show ¬ ty T i = 14 by omega)] at e; simp only [if_neg (show ¬ ty T i = 15 by omega)] at e; simp only [if_neg (show ¬ ty T i = 16 by omega)] at e
              rw [if_pos (by rw [z10]), if_pos kd5, e, cI_some]
            · rw [if_neg (ne 10 (by omega) (by omega) z10)]
              by_cases z11 : ty T i = 11
              · simp only [if_neg (show ¬ ty T i = 5 by omega)] at e; simp only [if_neg (show ¬ ty T i = 7 by omega)] at e; simp only [if_neg (show ¬ ty T i = 13 by omega)] at e; simp only [if_neg (show ¬ ty T i = 14 by omega)] at e; simp only [if_neg (show ¬ ty T i = 15 by omega)] at e; simp only [if_neg (show ¬ ty T i = 16 by omega)] at e
                rw [if_pos (by rw [z11]), if_pos kd5, e, cI_some]
              · rw [if_neg (ne 11 (by omega) (by omega) z11)]
                by_cases z12 : ty T i = 12
                · simp only [if_neg (show ¬ ty T i = 5 by omega)] at e; simp only [if_neg (show ¬ ty T i = 7 by omega)] at e; simp only [if_neg (show ¬ ty T i = 13 by omega)] at e; simp only [if_neg (show ¬ ty T i = 14 by omega)] at e; simp only [if_neg (show ¬ ty T i = 15 by omega)] at e; simp only [if_neg (show ¬ ty T i = 16 by omega)] at e
                  rw [if_pos (by rw [z12]), if_pos kd5, e, cI_some]
                · rw [if_neg (ne 12 (by omega) (by omega) z12)]
                  by_cases z13 : ty T i = 13
                  · simp only [if_neg z5] at e; simp only [if_neg z7] at e; simp only [if_pos z13] at e
                    rw [if_pos (by rw [z13]), if_pos kd5, e, cI_some]
                  · rw [if_neg (ne 13 (by omega) (by omega) z13)]
                    by_cases z14 : ty T i = 14
                    · simp only [if_neg z5] at e; simp only [if_neg z7] at e; simp only [if_neg z13] at e; simp only [if_pos z14] at e
                      rw [if_pos (by rw [z14]), if_pos kd5, e, cI_some]
                    · rw [if_neg (ne 14 (by omega) (by omega) z14)]
                      by_cases z15 : ty T i = 15
                      · simp only [if_neg z5] at e; simp only [if_neg z7] at e; simp only [if_neg z13] at e; simp only [if_neg z14] at e; simp only [if_pos z15] at e
                        rw [if_pos (by rw [z15]), if_pos ⟨kd5, by rw [hC.2.2.2.2.1]; simp⟩, q1, if_pos ⟨hs.1, by rw [hs.2.2.2.2.2.2.2.2.2.2.2.2.2.2.2.2.2.2.2.2.2.1]; simp⟩, q16, if_pos kd5, e, cI_some]
                      · rw [if_neg (ne 15 (by omega) (by omega) z15)]
                        by_cases z16 : ty T i = 16
                        · simp only [if_neg z5] at e; simp only [if_neg z7] at e; simp only [if_neg z13] at e; simp only [if_neg z14] at e; simp only [if_neg z15] at e; simp only [if_pos z16] at e
                          rw [if_pos (by rw [z16]), if_pos ⟨kd5, by rw [hC.2.2.2.2.1]; simp⟩, q1, if_pos ⟨hs.1, by rw [hs.2.2.2.2.2.2.2.2.2.2.2.2.2.2.2.2.2.2.2.2.2.2]; simp⟩, q17, if_pos kd5, e, cI_some]
                        · rw [if_neg (ne 16 (by omega) (by omega) z16)]
                          simp only [if_neg z5] at e; simp only [if_neg z7] at e; simp only [if_neg z13] at e; simp only [if_neg z14] at e; simp only [if_neg z15] at e; simp only [if_neg z16] at e
                          rw [if_pos kd5, e, cI_some]
/-- all lines -/
theorem Llines (hT : TS D n T N) (hE : EK E) (hst : isSt s) : ∀ (r : Nat) (X : Nat → Nat → Int32) (Y : Nat → Int64) (i : Int), N - i ≤ r → LX X i → 0 ≤ i → i ≤ N → ∃ (i' f' : Int) (X' : Nat → Nat → Int32) (Y' : Nat → Int64), (∀ (m : mm_M) (d : Nat), 62 ≤ d → PF D E T N i 0 m → DM X Y m → ∃ m', mm_ev d 163 139 [some (.ref 316), none] [] m = mm_ev d 163 171 [some (.ref 316), none] [] m' ∧ PF D E T N i' f' m' ∧ (f' = 0 → DM X' Y' m') ∧ Fr scM m m') ∧ (∀ (c : mm_M) (d : Nat) (cnt : Int), 62 ≤ d → 0 ≤ cnt → cnt ≤ i → CR D n T N i s c → DC X Y c s → FN c → ∃ (c' : mm_M) (b k : Int), mm_ev d 36 31 [some (.ref 154), some (.ref s), some (.int (iI 1)), some (.int (iI (cnt)))] [] c = mm_ev d 36 217 [some (.ref 154), some (.ref s), some (.int (iI (b))), some (.int (iI (k)))] [] c' ∧ Fr (scQs s) c c' ∧ (f' = 0 → CR D n T N i' s c' ∧ DC X' Y' c' s) ∧ mm_gI c' 154 3 = iI f') ∧ (f' = 0 → LX X' i' ∧ 0 ≤ i' ∧ i' ≤ N)
  | r, X, Y, i, hr, hX, i0, i1 => by
    have nn := hT.1
    have k8 := hX.1.2.2.2.2.2.1.2
    by_cases iN : i = N
    · have t128 : ty T i = 128 ∧ tS T i = 0 := by
        rcases (hT.k i0 i1).2 with ⟨-, q, y⟩ | ⟨q, -⟩
        · exact ⟨y, q⟩
        · omega
      refine ⟨i, 0, X, Y, fun m d hd hP hM => ⟨m, ?_, hP, fun _ => hM, Fr.rf⟩, fun c d cnt hd hc0 hc1 hC hD hF => ⟨c, 1, cnt, ?_, Fr.rf, fun _ => ⟨hC, hD⟩, hC.2.2.2.2.2⟩, fun _ => ⟨hX, i0, i1⟩⟩
      · have k1 := (hP.2.1 i i0 i1).1
        rw [sg_163_139 (by omega)]
        simp (disch := omega) only [shM hP.1.1, ↓reduceIte, not_false_eq_true, not_true_eq_false, and_self, and_true, true_and, false_and, and_false, or_true, true_or, or_false, false_or, or_self, reduceCtorEq, mm_q, Option.getD_some, cI_some, cJ_some, cV_some, cS_some, kd_sI, kd_sL, kd_sR, kd_cp, ln_sI, ln_sL, ln_sR, ln_cp, gR_sI, gR_sL, gR_sR, gR_cp, gL_sI, gL_sR, gL_cp, gI_sL, gI_sR, iI_add, iI_sub, iI_mul, iI_neg, iI_in, iI_tn, iI_lt, iI_eq, Nat.reduceLeDiff, Nat.reduceEqDiff, Nat.reduceAdd, Int.reduceEq, Int.reduceLT, Int.reduceLE, Int.reduceNeg, Int.reduceAdd, Int.reduceSub, Int.reduceMul, hP.2.2.2.1, hP.2.2.1, k1, t128.2]
      · rw [sg_36_31 (by omega)]
        by_cases y : cnt < 1000
        · simp (disch := omega) only [shP hC.1.1, shT hC.1.1, ↓reduceIte, not_false_eq_true, not_true_eq_false, and_self, and_true, true_and, false_and, and_false, or_true, true_or, or_false, false_or, or_self, reduceCtorEq, mm_q, Option.getD_some, cI_some, cJ_some, cV_some, cS_some, kd_sI, kd_sL, kd_sR, kd_cp, ln_sI, ln_sL, ln_sR, ln_cp, gR_sI, gR_sL, gR_sR, gR_cp, gL_sI, gL_sR, gL_cp, gI_sL, gI_sR, iI_add, iI_sub, iI_mul, iI_neg, iI_in, iI_tn, iI_lt, iI_eq, Nat.reduceLeDiff, Nat.reduceEqDiff, Nat.reduceAdd, Int.reduceEq, Int.reduceLT, Int.reduceLE, Int.reduceNeg, Int.reduceAdd, Int.reduceSub, Int.reduceMul, y, hC.2.1.2.1, t128.1]
        · simp (disch := omega) only [↓reduceIte, not_false_eq_true, not_true_eq_false, and_self, and_true, true_and, false_and, and_false, or_true, true_or, or_false, false_or, or_self, reduceCtorEq, mm_q, Option.getD_some, cI_some, cJ_some, cV_some, cS_some, kd_sI, kd_sL, kd_sR, kd_cp, ln_sI, ln_sL, ln_sR, ln_cp, gR_sI, gR_sL, gR_sR, gR_cp, gL_sI, gL_sR, gL_cp, gI_sL, gI_sR, iI_add, iI_sub, iI_mul, iI_neg, iI_in, iI_tn, iI_lt, iI_eq, Nat.reduceLeDiff, Nat.reduceEqDiff, Nat.reduceAdd, Int.reduceEq, Int.reduceLT, Int.reduceLE, Int.reduceNeg, Int.reduceAdd, Int.reduceSub, Int.reduceMul, y]
    · match r with
      | 0 => omega
      | r + 1 =>
        obtain ⟨i1', f1, X1, Y1, lm, lc, lx⟩ := L_any (Y := Y) hT hE hX i0 (by omega) hst
        have ts : ¬ tS T i = 0 ∧ 0 ≤ tS T i ∧ tS T i ≤ 4 := by
          rcases (hT.k i0 i1).2 with ⟨q, -⟩ | ⟨-, ⟨q, -⟩ | ⟨q, -⟩ | ⟨q, -⟩ | ⟨q, -⟩⟩ <;> omega
        -- the model, one line on
        have mo : ∀ (m : mm_M) (d : Nat), 62 ≤ d → PF D E T N i 0 m → DM X Y m → ∃ m2, mm_ev d 163 139 [some (.ref 316), none] [] m = mm_ev d 163 139 [some (.ref 316), none] [] m2 ∧ PF D E T N (twS T 59 i1' f1).1 (twS T 59 i1' f1).2 m2 ∧ (f1 = 0 → DM X1 Y1 m2) ∧ Fr scM m m2 := fun m d hd hP hM => by
          have k1 := (hP.2.1 i i0 i1).1
          obtain ⟨m1, e1, h1, q1, g1⟩ := lm m (d - 1 - 1) (by omega) hP hM
          have e1' := M177 (d := d - 1) hT hE hP (by omega) e1
          obtain ⟨m2, e2, h2, g2⟩ := M175 (d := d - 1) hT h1 (by omega) g59
          refine ⟨m2, ?_, h2, fun y => (q1 y).at g2, g1.tr g2.AtM⟩
          rw [sg_163_139 (by omega)]
          simp (disch := omega) only [shM hP.1.1, shM h1.1.1, ↓reduceIte, not_false_eq_true, not_true_eq_false, and_self, and_true, true_and, false_and, and_false, or_true, true_or, or_false, false_or, or_self, reduceCtorEq, mm_q, Option.getD_some, cI_some, cJ_some, cV_some, cS_some, kd_sI, kd_sL, kd_sR, kd_cp, ln_sI, ln_sL, ln_sR, ln_cp, gR_sI, gR_sL, gR_sR, gR_cp, gL_sI, gL_sR, gL_cp, gI_sL, gI_sR, iI_add, iI_sub, iI_mul, iI_neg, iI_in, iI_tn, iI_lt, iI_eq, Nat.reduceLeDiff, Nat.reduceEqDiff, Nat.reduceAdd, Int.reduceEq, Int.reduceLT, Int.reduceLE, Int.reduceNeg, Int.reduceAdd, Int.reduceSub, Int.reduceMul, hP.2.2.2.1, hP.2.2.1, k1, ts.1, e1', e2]
        have out : ∀ (m : mm_M) (d : Nat) (j g : Int), 62 ≤ d → PF D E T N j g m → 0 < g → mm_ev d 163 139 [some (.ref 316), none] [] m = mm_ev d 163 171 [some (.ref 316), none] [] m := fun m d j g hd hP hg => by
          have := hP.2.2.2.2.2
          rw [sg_163_139 (by omega)]
          simp (disch := omega) only [shM hP.1.1, ↓reduceIte, not_false_eq_true, not_true_eq_false, and_self, and_true, true_and, false_and, and_false, or_true, true_or, or_false, false_or, or_self, reduceCtorEq, mm_q, Option.getD_some, cI_some, cJ_some, cV_some, cS_some, kd_sI, kd_sL, kd_sR, kd_cp, ln_sI, ln_sL, ln_sR, ln_cp, gR_sI, gR_sL, gR_sR, gR_cp, gL_sI, gL_sR, gL_cp, gI_sL, gI_sR, iI_add, iI_sub, iI_mul, iI_neg, iI_in, iI_tn, iI_lt, iI_eq, Nat.reduceLeDiff, Nat.reduceEqDiff, Nat.reduceAdd, Int.reduceEq, Int.reduceLT, Int.reduceLE, Int.reduceNeg, Int.reduceAdd, Int.reduceSub, Int.reduceMul, hP.2.2.2.1, show ¬ g = 0 by omega]
        have outc : ∀ (c : mm_M) (d : Nat) (cnt : Int) (v : Int), 62 ≤ d → Sh c → ∃ k, mm_ev d 36 209 [some (.ref 154), some (.ref s), some (.int (iI (v))), some (.int (iI (cnt)))] [] c = mm_ev d 36 217 [some (.ref 154), some (.ref s), some (.int (iI (0))), some (.int (iI (k)))] [] c := fun c d cnt v hd hs => by
          refine ⟨cnt + 1, ?_⟩
          rw [sg_36_209, sg_36_210, sg_36_31 (by omega)]
          simp (disch := omega) only [↓reduceIte, not_false_eq_true, not_true_eq_false, and_self, and_true, true_and, false_and, and_false, or_true, true_or, or_false, false_or, or_self, reduceCtorEq, mm_q, Option.getD_some, cI_some, cJ_some, cV_some, cS_some, kd_sI, kd_sL, kd_sR, kd_cp, ln_sI, ln_sL, ln_sR, ln_cp, gR_sI, gR_sL, gR_sR, gR_cp, gL_sI, gL_sR, gL_cp, gI_sL, gI_sR, iI_add, iI_sub, iI_mul, iI_neg, iI_in, iI_tn, iI_lt, iI_eq, Nat.reduceLeDiff, Nat.reduceEqDiff, Nat.reduceAdd, Int.reduceEq, Int.reduceLT, Int.reduceLE, Int.reduceNeg, Int.reduceAdd, Int.reduceSub, Int.reduceMul]
        by_cases y : f1 = 0
        · obtain ⟨lx1, lx2⟩ := lx y
          have k8' := lx1.1.2.2.2.2.2.1.2
          by_cases i1n : ¬ i1' ≤ N
          · refine ⟨i, 0, X, Y, fun m d hd hP hM => ?_, fun c d cnt hd hc0 hc1 hC hD hF => ?_, fun _ => ⟨hX, i0, i1⟩⟩
            · obtain ⟨m1, e1, h1, q1, g1⟩ := lm m (d - 1 - 1) (by omega) hP hM
              exact absurd h1.2.2.2.2.1.2 i1n
            · obtain ⟨c1, e1, g1, t1, -⟩ := lc c (d - 1) (by omega) hC hD hF
              exact absurd (t1 y).1.2.2.1.2 i1n
          have i1r : 0 ≤ i1' ∧ i1' ≤ N := by omega
          have tw0 := tw_r (f := f1) (w := 59) hT i1r.1 i1r.2 (by omega)
          have clx : ∀ (c : mm_M) (d : Nat) (cnt : Int), 62 ≤ d → 0 ≤ cnt → cnt ≤ i → CR D n T N i s c → DC X Y c s → FN c → ∃ c2, mm_ev d 36 31 [some (.ref 154), some (.ref s), some (.int (iI 1)), some (.int (iI (cnt)))] [] c = (if (twS T 59 i1' f1).2 = 0 then mm_ev d 36 31 [some (.ref 154), some (.ref s), some (.int (iI 1)), some (.int (iI (cnt + 1)))] [] c2 else mm_ev d 36 209 [some (.ref 154), some (.ref s), some (.int (iI (1))), some (.int (iI (cnt)))] [] c2) ∧ Fr (scQs s) c c2 ∧ ((twS T 59 i1' f1).2 = 0 → CR D n T N (twS T 59 i1' f1).1 s c2) ∧ DC X1 Y1 c2 s ∧ (¬ (twS T 59 i1' f1).2 = 0 → mm_gI c2 154 3 = iI (twS T 59 i1' f1).2) ∧ Sh c2 := fun c d cnt hd hc0 hc1 hC hD hF => by
            obtain ⟨c1, e1, g1, t1, -⟩ := lc c (d - 1) (by omega) hC hD hF
            obtain ⟨t1, d1⟩ := t1 y
            rw [bI_1 y] at e1
            have e1' := C36s hT hC (by omega) (by omega) hc0 (by omega) e1
            obtain ⟨c2, e2, g2, t2, u2⟩ := C39 (d := d - 1) hT t1 (by omega) (w := 59) (by omega) (by omega)
            rw [show twS T 59 i1' 0 = twS T 59 i1' f1 by rw [y]] at e2 t2 u2
            refine ⟨c2, ?_, g1.tr g2.BQ, t2, d1.br hst k8' g2, u2, g2.sh t1.1.1⟩
            rw [e1', sg_36_192 (by omega)]
            by_cases y2 : (twS T 59 i1' f1).2 = 0
            · rw [bI_1 y2] at e2
              rw [if_pos y2]
              simp (disch := omega) only [shP t1.1.1, ↓reduceIte, not_false_eq_true, not_true_eq_false, and_self, and_true, true_and, false_and, and_false, or_true, true_or, or_false, false_or, or_self, reduceCtorEq, mm_q, Option.getD_some, cI_some, cJ_some, cV_some, cS_some, kd_sI, kd_sL, kd_sR, kd_cp, ln_sI, ln_sL, ln_sR, ln_cp, gR_sI, gR_sL, gR_sR, gR_cp, gL_sI, gL_sR, gL_cp, gI_sL, gI_sR, iI_add, iI_sub, iI_mul, iI_neg, iI_in, iI_tn, iI_lt, iI_eq, Nat.reduceLeDiff, Nat.reduceEqDiff, Nat.reduceAdd, Int.reduceEq, Int.reduceLT, Int.reduceLE, Int.reduceNeg, Int.reduceAdd, Int.reduceSub, Int.reduceMul, e2]
              rw [sg_36_210]
              simp (disch := omega) only [↓reduceIte, not_false_eq_true, not_true_eq_false, and_self, and_true, true_and, false_and, and_false, or_true, true_or, or_false, false_or, or_self, reduceCtorEq, mm_q, Option.getD_some, cI_some, cJ_some, cV_some, cS_some, kd_sI, kd_sL, kd_sR, kd_cp, ln_sI, ln_sL, ln_sR, ln_cp, gR_sI, gR_sL, gR_sR, gR_cp, gL_sI, gL_sR, gL_cp, gI_sL, gI_sR, iI_add, iI_sub, iI_mul, iI_neg, iI_in, iI_tn, iI_lt, iI_eq, Nat.reduceLeDiff, Nat.reduceEqDiff, Nat.reduceAdd, Int.reduceEq, Int.reduceLT, Int.reduceLE, Int.reduceNeg, Int.reduceAdd, Int.reduceSub, Int.reduceMul]
            · rw [bI_0 y2] at e2
              rw [if_neg y2]
              simp (disch := omega) only [shP t1.1.1, ↓reduceIte, not_false_eq_true, not_true_eq_false, and_self, and_true, true_and, false_and, and_false, or_true, true_or, or_false, false_or, or_self, reduceCtorEq, mm_q, Option.getD_some, cI_some, cJ_some, cV_some, cS_some, kd_sI, kd_sL, kd_sR, kd_cp, ln_sI, ln_sL, ln_sR, ln_cp, gR_sI, gR_sL, gR_sR, gR_cp, gL_sI, gL_sR, gL_cp, gI_sL, gI_sR, iI_add, iI_sub, iI_mul, iI_neg, iI_in, iI_tn, iI_lt, iI_eq, Nat.reduceLeDiff, Nat.reduceEqDiff, Nat.reduceAdd, Int.reduceEq, Int.reduceLT, Int.reduceLE, Int.reduceNeg, Int.reduceAdd, Int.reduceSub, Int.reduceMul, e2]
          by_cases y2 : (twS T 59 i1' f1).2 = 0
          · obtain ⟨-, ti, tn, -⟩ := tw0 y2
            have lx3 : LX X1 (twS T 59 i1' f1).1 := by
              rw [ti]
              obtain ⟨v1, v2, v3, v4, v5⟩ := lx1
              exact ⟨v1, v2, v3, ⟨v4.1, by omega⟩, v5⟩
            obtain ⟨i', f', X', Y', bm, bc, bx⟩ := Llines hT hE hst r X1 Y1 (twS T 59 i1' f1).1 (by omega) lx3 (by omega) (by omega)
            refine ⟨i', f', X', Y', fun m d hd hP hM => ?_, fun c d cnt hd hc0 hc1 hC hD hF => ?_, bx⟩
            · obtain ⟨m2, e2, h2, q2, g2⟩ := mo m d hd hP hM
              rw [y2] at h2
              obtain ⟨m3, e3, h3, q3, g3⟩ := bm m2 d hd h2 (q2 y)
              exact ⟨m3, e2.trans e3, h3, q3, g2.tr g3⟩
            · obtain ⟨c2, e2, g2, t2, d2, -, -⟩ := clx c d cnt hd hc0 hc1 hC hD hF
              rw [if_pos y2] at e2
              obtain ⟨c3, b, k, e3, g3, t3, u3⟩ := bc c2 d (cnt + 1) hd (by omega) (by omega) (t2 y2) d2 (hF.q hst g2)
              exact ⟨c3, b, k, e2.trans e3, g2.tr g3, t3, u3⟩
          · refine ⟨(twS T 59 i1' f1).1, (twS T 59 i1' f1).2, X1, Y1, fun m d hd hP hM => ?_, fun c d cnt hd hc0 hc1 hC hD hF => ?_, fun q => absurd q y2⟩
            · obtain ⟨m2, e2, h2, q2, g2⟩ := mo m d hd hP hM
              have p9 := h2.2.2.2.2.2
              exact ⟨m2, e2.trans (out m2 d _ _ hd h2 (by omega)), h2, fun q => absurd q y2, g2⟩
            · obtain ⟨c2, e2, g2, -, d2, u2, s2⟩ := clx c d cnt hd hc0 hc1 hC hD hF
              rw [if_neg y2] at e2
              obtain ⟨k, e3⟩ := outc c2 d cnt 1 hd s2
              exact ⟨c2, 0, k, e2.trans e3, g2, fun q => absurd q y2, u2 y2⟩
        · have tw : twS T 59 i1' f1 = (i1', f1) := by unfold twS; rw [if_neg y]
          refine ⟨i1', f1, X1, Y1, fun m d hd hP hM => ?_, fun c d cnt hd hc0 hc1 hC hD hF => ?_, fun q => absurd q y⟩
          · obtain ⟨m2, e2, h2, q2, g2⟩ := mo m d hd hP hM
            rw [tw] at h2
            have p9 := h2.2.2.2.2.2
            dsimp only at p9 h2
            exact ⟨m2, e2.trans (out m2 d _ _ hd h2 (by omega)), h2, fun q => absurd q y, g2⟩
          · obtain ⟨c1, e1, g1, -, u1⟩ := lc c (d - 1) (by omega) hC hD hF
            rw [bI_0 y] at e1
            have e1' := C36s hT hC (by omega) (by omega) hc0 (by omega) e1
            have s1 := g1.sh hC.1.1
            obtain ⟨k, e3⟩ := outc c1 d cnt 0 hd s1
            refine ⟨c1, 0, k, ?_, g1, fun q => absurd q y, u1 y⟩
            rw [e1', sg_36_192 (by omega)]
            simp (disch := omega) only [↓reduceIte, not_false_eq_true, not_true_eq_false, and_self, and_true, true_and, false_and, and_false, or_true, true_or, or_false, false_or, or_self, reduceCtorEq, mm_q, Option.getD_some, cI_some, cJ_some, cV_some, cS_some, kd_sI, kd_sL, kd_sR, kd_cp, ln_sI, ln_sL, ln_sR, ln_cp, gR_sI, gR_sL, gR_sR, gR_cp, gL_sI, gL_sR, gL_cp, gI_sL, gI_sR, iI_add, iI_sub, iI_mul, iI_neg, iI_in, iI_tn, iI_lt, iI_eq, Nat.reduceLeDiff, Nat.reduceEqDiff, Nat.reduceAdd, Int.reduceEq, Int.reduceLT, Int.reduceLE, Int.reduceNeg, Int.reduceAdd, Int.reduceSub, Int.reduceMul]
            exact e3
end
