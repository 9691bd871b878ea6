def CD (N start : Int) (X : Nat → Nat → Int32) (i : Int) : Prop := (0 ≤ i ∧ i ≤ N) ∧ (0 ≤ start ∧ start ≤ cdX X) ∧ cdX X ≤ i
section
variable {D : Nat → Nat → Int32} {E : Nat → Nat → Int64} {m m' c c' c'' : mm_M} {d s L : Nat} {n N i f : Int} {T : TK} {X X' X'' : Nat → Nat → Int32} {Y : Nat → Int64} {lo start fh a b : Int} {h : Nat}
theorem C57 {t : Int} (t_0 : -2147483648 ≤ t) (t_1 : t < 2147483648) : mm_ev d 57 0 [some (.int (iI (t)))] [] c = some (some (some (.int (iI (lvS t)))), c) := by
  rw [sg_57_0]
  unfold lvS
  dsimp only
  by_cases z1 : t = 28
  · simp (disch := omega) only [↓reduceIte, not_false_eq_true, not_true_eq_false, and_self, and_true, true_and, false_and, and_false, or_true, true_or, or_false, false_or, or_self, reduceCtorEq, mm_q, Option.getD_some, cI_some, cJ_some, cV_some, cS_some, kd_sI, kd_sL, kd_sR, kd_cp, ln_sI, ln_sL, ln_sR, ln_cp, gR_sI, gR_sL, gR_sR, gR_cp, gL_sI, gL_sR, gL_cp, gI_sL, gI_sR, iI_add, iI_sub, iI_mul, iI_neg, iI_in, iI_tn, iI_lt, iI_eq, Nat.reduceLeDiff, Nat.reduceEqDiff, Nat.reduceAdd, Int.reduceEq, Int.reduceLT, Int.reduceLE, Int.reduceNeg, Int.reduceAdd, Int.reduceSub, Int.reduceMul, z1]
  · by_cases z2 : t = 29
    · simp (disch := omega) only [↓reduceIte, not_false_eq_true, not_true_eq_false, and_self, and_true, true_and, false_and, and_false, or_true, true_or, or_false, false_or, or_self, reduceCtorEq, mm_q, Option.getD_some, cI_some, cJ_some, cV_some, cS_some, kd_sI, kd_sL, kd_sR, kd_cp, ln_sI, ln_sL, ln_sR, ln_cp, gR_sI, gR_sL, gR_sR, gR_cp, gL_sI, gL_sR, gL_cp, gI_sL, gI_sR, iI_add, iI_sub, iI_mul, iI_neg, iI_in, iI_tn, iI_lt, iI_eq, Nat.reduceLeDiff, Nat.reduceEqDiff, Nat.reduceAdd, Int.reduceEq, Int.reduceLT, Int.reduceLE, Int.reduceNeg, Int.reduceAdd, Int.reduceSub, Int.reduceMul, z1, z2]
    · by_cases z3 : t = 42
      · simp (disch := omega) only [↓reduceIte, not_false_eq_true, not_true_eq_false, and_self, and_true, true_and, false_and, and_false, or_true, true_or, or_false, false_or, or_self, reduceCtorEq, mm_q, Option.getD_some, cI_some, cJ_some, cV_some, cS_some, kd_sI, kd_sL, kd_sR, kd_cp, ln_sI, ln_sL, ln_sR, ln_cp, gR_sI, gR_sL, gR_sR, gR_cp, gL_sI, gL_sR, gL_cp, gI_sL, gI_sR, iI_add, iI_sub, iI_mul, iI_neg, iI_in, iI_tn, iI_lt, iI_eq, Nat.reduceLeDiff, Nat.reduceEqDiff, Nat.reduceAdd, Int.reduceEq, Int.reduceLT, Int.reduceLE, Int.reduceNeg, Int.reduceAdd, Int.reduceSub, Int.reduceMul, z1, z2, z3]
      · by_cases z4 : t = 43
        · simp (disch := omega) only [↓reduceIte, not_false_eq_true, not_true_eq_false, and_self, and_true, true_and, false_and, and_false, or_true, true_or, or_false, false_or, or_self, reduceCtorEq, mm_q, Option.getD_some, cI_some, cJ_some, cV_some, cS_some, kd_sI, kd_sL, kd_sR, kd_cp, ln_sI, ln_sL, ln_sR, ln_cp, gR_sI, gR_sL, gR_sR, gR_cp, gL_sI, gL_sR, gL_cp, gI_sL, gI_sR, iI_add, iI_sub, iI_mul, iI_neg, iI_in, iI_tn, iI_lt, iI_eq, Nat.reduceLeDiff, Nat.reduceEqDiff, Nat.reduceAdd, Int.reduceEq, Int.reduceLT, Int.reduceLE, Int.reduceNeg, Int.reduceAdd, Int.reduceSub, Int.reduceMul, z1, z2, z3, z4]
        · by_cases z5 : t = 45
          · simp (disch := omega) only [↓reduceIte, not_false_eq_true, not_true_eq_false, and_self, and_true, true_and, false_and, and_false, or_true, true_or, or_false, false_or, or_self, reduceCtorEq, mm_q, Option.getD_some, cI_some, cJ_some, cV_some, cS_some, kd_sI, kd_sL, kd_sR, kd_cp, ln_sI, ln_sL, ln_sR, ln_cp, gR_sI, gR_sL, gR_sR, gR_cp, gL_sI, gL_sR, gL_cp, gI_sL, gI_sR, iI_add, iI_sub, iI_mul, iI_neg, iI_in, iI_tn, iI_lt, iI_eq, Nat.reduceLeDiff, Nat.reduceEqDiff, Nat.reduceAdd, Int.reduceEq, Int.reduceLT, Int.reduceLE, Int.reduceNeg, Int.reduceAdd, Int.reduceSub, Int.reduceMul, z1, z2, z3, z4, z5]
          · by_cases z6 : t = 60
            · simp (disch := omega) only [↓reduceIte, not_false_eq_true, not_true_eq_false, and_self, and_true, true_and, false_and, and_false, or_true, true_or, or_false, false_or, or_self, reduceCtorEq, mm_q, Option.getD_some, cI_some, cJ_some, cV_some, cS_some, kd_sI, kd_sL, kd_sR, kd_cp, ln_sI, ln_sL, ln_sR, ln_cp, gR_sI, gR_sL, gR_sR, gR_cp, gL_sI, gL_sR, gL_cp, gI_sL, gI_sR, iI_add, iI_sub, iI_mul, iI_neg, iI_in, iI_tn, iI_lt, iI_eq, Nat.reduceLeDiff, Nat.reduceEqDiff, Nat.reduceAdd, Int.reduceEq, Int.reduceLT, Int.reduceLE, Int.reduceNeg, Int.reduceAdd, Int.reduceSub, Int.reduceMul, z1, z2, z3, z4, z5, z6]
            · by_cases z7 : t = 61
              · simp (disch := omega) only [↓reduceIte, not_false_eq_true, not_true_eq_false, and_self, and_true, true_and, false_and, and_false, or_true, true_or, or_false, false_or, or_self, reduceCtorEq, mm_q, Option.getD_some, cI_some, cJ_some, cV_some, cS_some, kd_sI, kd_sL, kd_sR, kd_cp, ln_sI, ln_sL, ln_sR, ln_cp, gR_sI, gR_sL, gR_sR, gR_cp, gL_sI, gL_sR, gL_cp, gI_sL, gI_sR, iI_add, iI_sub, iI_mul, iI_neg, iI_in, iI_tn, iI_lt, iI_eq, Nat.reduceLeDiff, Nat.reduceEqDiff, Nat.reduceAdd, Int.reduceEq, Int.reduceLT, Int.reduceLE, Int.reduceNeg, Int.reduceAdd, Int.reduceSub, Int.reduceMul, z1, z2, z3, z4, z5, z6, z7]
              · simp (disch := omega) only [↓reduceIte, not_false_eq_true, not_true_eq_false, and_self, and_true, true_and, false_and, and_false, or_true, true_or, or_false, false_or, or_self, reduceCtorEq, mm_q, Option.getD_some, cI_some, cJ_some, cV_some, cS_some, kd_sI, kd_sL, kd_sR, kd_cp, ln_sI, ln_sL, ln_sR, ln_cp, gR_sI, gR_sL, gR_sR, gR_cp, gL_sI, gL_sR, gL_cp, gI_sL, gI_sR, iI_add, iI_sub, iI_mul, iI_neg, iI_in, iI_tn, iI_lt, iI_eq, Nat.reduceLeDiff, Nat.reduceEqDiff, Nat.reduceAdd, Int.reduceEq, Int.reduceLT, Int.reduceLE, Int.reduceNeg, Int.reduceAdd, Int.reduceSub, Int.reduceMul, z1, z2, z3, z4, z5, z6, z7]
theorem C58 {t : Int} (t_0 : -2147483648 ≤ t) (t_1 : t < 2147483648) : mm_ev d 58 0 [some (.int (iI (t)))] [] c = some (some (some (.int (iI (acS t)))), c) := by
  rw [sg_58_0]
  unfold acS
  dsimp only
  by_cases z1 : t = 28
  · simp (disch := omega) only [↓reduceIte, not_false_eq_true, not_true_eq_false, and_self, and_true, true_and, false_and, and_false, or_true, true_or, or_false, false_or, or_self, reduceCtorEq, mm_q, Option.getD_some, cI_some, cJ_some, cV_some, cS_some, kd_sI, kd_sL, kd_sR, kd_cp, ln_sI, ln_sL, ln_sR, ln_cp, gR_sI, gR_sL, gR_sR, gR_cp, gL_sI, gL_sR, gL_cp, gI_sL, gI_sR, iI_add, iI_sub, iI_mul, iI_neg, iI_in, iI_tn, iI_lt, iI_eq, Nat.reduceLeDiff, Nat.reduceEqDiff, Nat.reduceAdd, Int.reduceEq, Int.reduceLT, Int.reduceLE, Int.reduceNeg, Int.reduceAdd, Int.reduceSub, Int.reduceMul, z1]
  · by_cases z2 : t = 29
    · simp (disch := omega) only [↓reduceIte, not_false_eq_true, not_true_eq_false, and_self, and_true, true_and, false_and, and_false, or_true, true_or, or_false, false_or, or_self, reduceCtorEq, mm_q, Option.getD_some, cI_some, cJ_some, cV_some, cS_some, kd_sI, kd_sL, kd_sR, kd_cp, ln_sI, ln_sL, ln_sR, ln_cp, gR_sI, gR_sL, gR_sR, gR_cp, gL_sI, gL_sR, gL_cp, gI_sL, gI_sR, iI_add, iI_sub, iI_mul, iI_neg, iI_in, iI_tn, iI_lt, iI_eq, Nat.reduceLeDiff, Nat.reduceEqDiff, Nat.reduceAdd, Int.reduceEq, Int.reduceLT, Int.reduceLE, Int.reduceNeg, Int.reduceAdd, Int.reduceSub, Int.reduceMul, z1, z2]
    · by_cases z4 : t = 43
      · simp (disch := omega) only [↓reduceIte, not_false_eq_true, not_true_eq_false, and_self, and_true, true_and, false_and, and_false, or_true, true_or, or_false, false_or, or_self, reduceCtorEq, mm_q, Option.getD_some, cI_some, cJ_some, cV_some, cS_some, kd_sI, kd_sL, kd_sR, kd_cp, ln_sI, ln_sL, ln_sR, ln_cp, gR_sI, gR_sL, gR_sR, gR_cp, gL_sI, gL_sR, gL_cp, gI_sL, gI_sR, iI_add, iI_sub, iI_mul, iI_neg, iI_in, iI_tn, iI_lt, iI_eq, Nat.reduceLeDiff, Nat.reduceEqDiff, Nat.reduceAdd, Int.reduceEq, Int.reduceLT, Int.reduceLE, Int.reduceNeg, Int.reduceAdd, Int.reduceSub, Int.reduceMul, z1, z2, z4]
      · by_cases z5 : t = 45
        · simp (disch := omega) only [↓reduceIte, not_false_eq_true, not_true_eq_false, and_self, and_true, true_and, false_and, and_false, or_true, true_or, or_false, false_or, or_self, reduceCtorEq, mm_q, Option.getD_some, cI_some, cJ_some, cV_some, cS_some, kd_sI, kd_sL, kd_sR, kd_cp, ln_sI, ln_sL, ln_sR, ln_cp, gR_sI, gR_sL, gR_sR, gR_cp, gL_sI, gL_sR, gL_cp, gI_sL, gI_sR, iI_add, iI_sub, iI_mul, iI_neg, iI_in, iI_tn, iI_lt, iI_eq, Nat.reduceLeDiff, Nat.reduceEqDiff, Nat.reduceAdd, Int.reduceEq, Int.reduceLT, Int.reduceLE, Int.reduceNeg, Int.reduceAdd, Int.reduceSub, Int.reduceMul, z1, z2, z4, z5]
        · by_cases z6 : t = 60
          · simp (disch := omega) only [↓reduceIte, not_false_eq_true, not_true_eq_false, and_self, and_true, true_and, false_and, and_false, or_true, true_or, or_false, false_or, or_self, reduceCtorEq, mm_q, Option.getD_some, cI_some, cJ_some, cV_some, cS_some, kd_sI, kd_sL, kd_sR, kd_cp, ln_sI, ln_sL, ln_sR, ln_cp, gR_sI, gR_sL, gR_sR, gR_cp, gL_sI, gL_sR, gL_cp, gI_sL, gI_sR, iI_add, iI_sub, iI_mul, iI_neg, iI_in, iI_tn, iI_lt, iI_eq, Nat.reduceLeDiff, Nat.reduceEqDiff, Nat.reduceAdd, Int.reduceEq, Int.reduceLT, Int.reduceLE, Int.reduceNeg, Int.reduceAdd, Int.reduceSub, Int.reduceMul, z1, z2, z4, z5, z6]
          · by_cases z7 : t = 61
            · simp (disch := omega) only [↓reduceIte, not_false_eq_true, not_true_eq_false, and_self, and_true, true_and, false_and, and_false, or_true, true_or, or_false, false_or, or_self, reduceCtorEq, mm_q, Option.getD_some, cI_some, cJ_some, cV_some, cS_some, kd_sI, kd_sL, kd_sR, kd_cp, ln_sI, ln_sL, ln_sR, ln_cp, gR_sI, gR_sL, gR_sR, gR_cp, gL_sI, gL_sR, gL_cp, gI_sL, gI_sR, iI_add, iI_sub, iI_mul, iI_neg, iI_in, iI_tn, iI_lt, iI_eq, Nat.reduceLeDiff, Nat.reduceEqDiff, Nat.reduceAdd, Int.reduceEq, Int.reduceLT, Int.reduceLE, Int.reduceNeg, Int.reduceAdd, Int.reduceSub, Int.reduceMul, z1, z2, z4, z5, z6, z7]
            · simp (disch := omega) only [↓reduceIte, not_false_eq_true, not_true_eq_false, and_self, and_true, true_and, false_and, and_false, or_true, true_or, or_false, false_or, or_self, reduceCtorEq, mm_q, Option.getD_some, cI_some, cJ_some, cV_some, cS_some, kd_sI, kd_sL, kd_sR, kd_cp, ln_sI, ln_sL, ln_sR, ln_cp, gR_sI, gR_sL, gR_sR, gR_cp, gL_sI, gL_sR, gL_cp, gI_sL, gI_sR, iI_add, iI_sub, iI_mul, iI_neg, iI_in, iI_tn, iI_lt, iI_eq, Nat.reduceLeDiff, Nat.reduceEqDiff, Nat.reduceAdd, Int.reduceEq, Int.reduceLT, Int.reduceLE, Int.reduceNeg, Int.reduceAdd, Int.reduceSub, Int.reduceMul, z1, z2, z4, z5, z6, z7]
theorem lvS_r {t : Int} : -1 ≤ lvS t ∧ lvS t ≤ 3 := by
  unfold lvS
  split
  · omega
  · split
    · omega
    · split
      · omega
      · split
        · omega
        · split
          · omega
          · split
            · omega
            · split <;> omega
theorem acS_r {t : Int} : -11 ≤ acS t ∧ acS t ≤ -5 := by
  unfold acS
  split
  · omega
  · split
    · omega
    · split
      · omega
      · split
        · omega
        · split
          · omega
          · split <;> omega
theorem coS_r {t : Int} : 4 ≤ coS t ∧ coS t ≤ 10 := by
  unfold coS
  split
  · omega
  · split
    · omega
    · split
      · omega
      · split
        · omega
        · split
          · omega
          · split <;> omega
theorem coS_e {t : Int} : encO (coS t) = acS t := by
  unfold coS acS
  split
  · rfl
  · split
    · rfl
    · split
      · rfl
      · split
        · rfl
        · split
          · rfl
          · split <;> rfl
theorem enc_co {t : Int} (c0 : 0 ≤ cdX X) : encS (emX X (coS t) 0) lo (cdX X) = acS t := by
  have r := coS_r (t := t)
  obtain ⟨q, -⟩ := emX_op (X := X) (o := coS t) (y := 0) c0 (by omega) (by omega) (by omega) (by omega)
  unfold encS
  rw [q, if_neg (by omega), if_neg (by omega), if_neg (by omega), coS_e]
theorem lv_i (hT : TS D n T N) (i0 : 0 ≤ i) (i1 : i ≤ N) (z : 0 ≤ lvS (ty T i)) : i < N := by
  refine hT.lt i0 i1 (fun q => ?_)
  rw [q] at z
  exact absurd z (by decide)
theorem XE.refl_like (x : XE X X' i f lo h) : XE X X' i f lo h := x
/-- one operand more, and its sign -/
theorem XE.step {X0 X1 : Nat → Nat → Int32} {i0 i1 o : Int} (x0 : XE X0 X i0 i lo h) (x1 : XE X X1 (i + 1) i1 lo (h + 1)) (c0 : 0 ≤ cdX X0) (c1 : cdX X1 < 1100) (o0 : 4 ≤ o) (o1 : o ≤ 10) : XE X0 (emX X1 o 0) i0 i1 lo h := by
  obtain ⟨a1, a2, a3, a4⟩ := x0
  obtain ⟨b1, b2, b3, b4⟩ := x1
  have ec := emX_c (X := X1) (o := o) (y := 0) (by omega) (by omega)
  refine ⟨fun x k y1 y2 => ?_, by omega, by omega, ?_⟩
  · rw [emX_o (by omega) y2, b1 x k (by omega) y2]
    exact a1 x k y1 y2
  · rw [ec]
    have lo2 := fun {k : Int} (k0 : 0 ≤ k) (k1 : k < cdX X1) => emX_lo (X := X1) (o := o) (y := 0) k0 k1
    have op := emX_op (X := X1) (o := o) (y := 0) (by omega) (by omega) (by omega) (by omega) (by omega)
    refine LK.bin (b := cdX X) (k := cdX X1) (a4.cg (fun k k0 k1 => ?_)) (b4.cg (fun k k0 k1 => lo2 (by omega) k1)) (by omega) (by omega) c0 c1 (by rw [op.1]; exact o0) (by rw [op.1]; exact o1)
    have e1 := lo2 (k := k) (by omega) (by omega)
    rw [e1.1, e1.2]
    unfold opS arS
    rw [b1 _ _ (by omega) (by omega), b1 _ _ (by omega) (by omega)]
    exact ⟨rfl, rfl⟩
/-- operands of a level, one behind another -/
theorem LPl (hT : TS D n T N) {ℓ : Int} (hℓ : ℓ = 0 ∨ ℓ = 2 ∨ ℓ = 3) {jm jsub : Nat} {Lf : Option Value → mm_L} {Lsub : mm_L} {δ : Int} {p : Nat} (hp : 10 ≤ p) {B : Nat}
    (sub : ∀ X i h, CD N start X i → h ≤ B → EX D E n T N Y fh lo start s L jsub Lsub 54 [some (.ref 154), some (.ref L), some (.int (iI (ℓ + 1))), some (.int (iI (δ))), none, none, none] (p - 1) X i h)
    (M1 : ∀ X i m d z, p ≤ d → EM D E T N Y fh X i m → ¬ lvS (ty T i) = ℓ → ∃ m', mm_ev d jm 5 (Lf z) [] m = some (some none, m') ∧ EM D E T N Y fh X i m' ∧ Fr scM m m')
    (M1f : ∀ i f m d z, p ≤ d → PF D E T N i f m → 0 < f → ∃ m', mm_ev d jm 5 (Lf z) [] m = some (some none, m') ∧ PF D E T N i f m' ∧ Fr scAt m m')
    (M2 : ∀ X i m d z, p ≤ d → EM D E T N Y fh X i m → lvS (ty T i) = ℓ → i < N → ∃ m1 z', EM D E T N Y fh X (i + 1) m1 ∧ Fr scM m m1 ∧ ∀ m2 m3, Sh m2 → Sh m3 → mm_ev (d - 1) jsub 0 Lsub [] m1 = some (some none, m2) → mm_ev (d - 1) 196 0 [some (.ref 316), some (.int (iI (coS (ty T i)))), some (.int (iI (0)))] [] m2 = some (some none, m3) → mm_ev d jm 5 (Lf z) [] m = mm_ev d jm 5 (Lf z') [] m3)
    {X0 : Nat → Nat → Int32} {i0 : Int} (hX0 : 0 ≤ cdX X0) (hB : h + 1 ≤ B) : ∀ (r : Nat) (X : Nat → Nat → Int32) (i : Int), N - i ≤ r → CD N start X i → XE X0 X i0 i lo h → ∃ (i' f' : Int) (X' : Nat → Nat → Int32), (i ≤ i' ∧ i' ≤ N) ∧ (∀ (m : mm_M) (d : Nat) (z : Option Value), p ≤ d → EM D E T N Y fh X i m → ∃ m', mm_ev d jm 5 (Lf z) [] m = some (some none, m') ∧ PF D E T N i' f' m' ∧ (f' = 0 → EM D E T N Y fh X' i' m') ∧ Fr scM m m' ∧ ∃ k, mm_gI m' 316 13 = iI k ∧ cdX X ≤ k ∧ k - cdX X ≤ i' - i) ∧ (∀ (c : mm_M) (d : Nat) (cnt : Int) (z : Option Value), p ≤ d → 0 ≤ cnt → cnt ≤ i → EC D n T N s L lo start X i c → ∃ c', mm_ev d 54 43 [some (.ref 154), some (.ref L), some (.int (iI (ℓ))), some (.int (iI (δ))), some (.int (iI 1000)), some (.int (iI (cnt))), z] [] c = some (some (some (.int (iI (bI (decide (f' = 0)))))), c') ∧ Fr (scLw L) c c' ∧ (f' = 0 → EC D n T N s L lo start X' i' c') ∧ (¬ f' = 0 → mm_gI c' 154 3 = iI f')) ∧ (f' = 0 → XE X0 X' i0 i' lo h) ∧ 0 ≤ f'
  | r, X, i, hr, hc, hx => by
    obtain ⟨⟨j0, j1⟩, ⟨s0, s1⟩, ci⟩ := hc
    have tr := hT.tyr j0 j1
    have nn := hT.1
    have lr := lvS_r (t := ty T i)
    by_cases z : lvS (ty T i) = ℓ
    · have iN := lv_i hT j0 j1 (by omega)
      match r with
      | 0 => omega
      | r + 1 =>
        obtain ⟨i1, f1, X1, ⟨a1, a2⟩, sm, sc, sx, sf⟩ := sub X (i + 1) (h + 1) ⟨⟨by omega, by omega⟩, ⟨s0, s1⟩, by omega⟩ hB
        have cr := coS_r (t := ty T i)
        have ar := acS_r (t := ty T i)
        -- the class, one operand on
        have cl : ∀ (c : mm_M) (d : Nat) (cnt : Int) (z9 : Option Value), p ≤ d → 0 ≤ cnt → cnt ≤ i → EC D n T N s L lo start X i c → ∃ c1, mm_ev d 54 43 [some (.ref 154), some (.ref L), some (.int (iI (ℓ))), some (.int (iI (δ))), some (.int (iI 1000)), some (.int (iI (cnt))), z9] [] c = mm_ev d 54 92 [some (.ref 154), some (.ref L), some (.int (iI (ℓ))), some (.int (iI (δ))), some (.int (iI 1000)), some (.int (iI (cnt))), some (.int (iI (acS (ty T i))))] [.int (iI (bI (decide (f1 = 0))))] c1 ∧ Fr (scLw L) c c1 ∧ (f1 = 0 → EC D n T N s L lo start X1 i1 c1) ∧ (¬ f1 = 0 → mm_gI c1 154 3 = iI f1) := fun c d cnt z9 hd hc0 hc1 hC => by
          obtain ⟨c1, e1, g1, t1, -⟩ := CR.nx (d := d - 1) hT hC.1 (by omega) iN
          obtain ⟨c2, e2, g2, t2, u2⟩ := sc c1 (d - 1) (by omega) (hC.br g1 t1)
          refine ⟨c2, ?_, g1.BLw.tr g2, t2, u2⟩
          rw [sg_54_43 (by omega)]
          simp (disch := omega) only [shP hC.1.1.1, shT hC.1.1.1, ↓reduceIte, not_false_eq_true, not_true_eq_false, and_self, and_true, true_and, false_and, and_false, or_true, true_or, or_false, false_or, or_self, reduceCtorEq, mm_q, Option.getD_some, cI_some, cJ_some, cV_some, cS_some, kd_sI, kd_sL, kd_sR, kd_cp, ln_sI, ln_sL, ln_sR, ln_cp, gR_sI, gR_sL, gR_sR, gR_cp, gL_sI, gL_sR, gL_cp, gI_sL, gI_sR, iI_add, iI_sub, iI_mul, iI_neg, iI_in, iI_tn, iI_lt, iI_eq, Nat.reduceLeDiff, Nat.reduceEqDiff, Nat.reduceAdd, Int.reduceEq, Int.reduceLT, Int.reduceLE, Int.reduceNeg, Int.reduceAdd, Int.reduceSub, Int.reduceMul, show cnt < 1000 by omega, hC.1.2.1.2.1, C57 (show -2147483648 ≤ ty T i by omega) (by omega)]
          rw [sg_54_60 (by omega)]
          simp (disch := omega) only [shP hC.1.1.1, shT hC.1.1.1, ↓reduceIte, not_false_eq_true, not_true_eq_false, and_self, and_true, true_and, false_and, and_false, or_true, true_or, or_false, false_or, or_self, reduceCtorEq, mm_q, Option.getD_some, cI_some, cJ_some, cV_some, cS_some, kd_sI, kd_sL, kd_sR, kd_cp, ln_sI, ln_sL, ln_sR, ln_cp, gR_sI, gR_sL, gR_sR, gR_cp, gL_sI, gL_sR, gL_cp, gI_sL, gI_sR, iI_add, iI_sub, iI_mul, iI_neg, iI_in, iI_tn, iI_lt, iI_eq, Nat.reduceLeDiff, Nat.reduceEqDiff, Nat.reduceAdd, Int.reduceEq, Int.reduceLT, Int.reduceLE, Int.reduceNeg, Int.reduceAdd, Int.reduceSub, Int.reduceMul, z, hC.1.2.1.2.1, C58 (show -2147483648 ≤ ty T i by omega) (by omega)]
          rw [sg_54_74 (by omega)]
          simp (disch := omega) only [shP hC.1.1.1, shT hC.1.1.1, ↓reduceIte, not_false_eq_true, not_true_eq_false, and_self, and_true, true_and, false_and, and_false, or_true, true_or, or_false, false_or, or_self, reduceCtorEq, mm_q, Option.getD_some, cI_some, cJ_some, cV_some, cS_some, kd_sI, kd_sL, kd_sR, kd_cp, ln_sI, ln_sL, ln_sR, ln_cp, gR_sI, gR_sL, gR_sR, gR_cp, gL_sI, gL_sR, gL_cp, gI_sL, gI_sR, iI_add, iI_sub, iI_mul, iI_neg, iI_in, iI_tn, iI_lt, iI_eq, Nat.reduceLeDiff, Nat.reduceEqDiff, Nat.reduceAdd, Int.reduceEq, Int.reduceLT, Int.reduceLE, Int.reduceNeg, Int.reduceAdd, Int.reduceSub, Int.reduceMul, e1]
          rw [sg_54_83 (by omega)]
          simp (disch := omega) only [shP t1.1.1, ↓reduceIte, not_false_eq_true, not_true_eq_false, and_self, and_true, true_and, false_and, and_false, or_true, true_or, or_false, false_or, or_self, reduceCtorEq, mm_q, Option.getD_some, cI_some, cJ_some, cV_some, cS_some, kd_sI, kd_sL, kd_sR, kd_cp, ln_sI, ln_sL, ln_sR, ln_cp, gR_sI, gR_sL, gR_sR, gR_cp, gL_sI, gL_sR, gL_cp, gI_sL, gI_sR, iI_add, iI_sub, iI_mul, iI_neg, iI_in, iI_tn, iI_lt, iI_eq, Nat.reduceLeDiff, Nat.reduceEqDiff, Nat.reduceAdd, Int.reduceEq, Int.reduceLT, Int.reduceLE, Int.reduceNeg, Int.reduceAdd, Int.reduceSub, Int.reduceMul, e2]
        by_cases y : f1 = 0
        · obtain ⟨x1, x2, x3, x4⟩ := sx y
          have ec := emX_c (X := X1) (o := coS (ty T i)) (y := 0) (by omega) (by omega)
          obtain ⟨i', f', X', ⟨b1, b2⟩, bm, bc, bx, bf⟩ := LPl hT hℓ hp sub M1 M1f M2 hX0 hB r (emX X1 (coS (ty T i)) 0) i1 (by omega) ⟨⟨by omega, by omega⟩, ⟨s0, by omega⟩, by omega⟩ (hx.step (sx y) hX0 (by omega) cr.1 cr.2)
          refine ⟨i', f', X', ⟨by omega, b2⟩, fun m d z9 hd hM => ?_, fun c d cnt z9 hd hc0 hc1 hC => ?_, bx, bf⟩
          · obtain ⟨m1, z', h1, g1, k1⟩ := M2 X i m d z9 hd hM z iN
            obtain ⟨m2, e2, -, h2, g2, -⟩ := sm m1 (d - 1) (by omega) h1
            obtain ⟨m3, e3, h3, g3⟩ := M196 (d := d - 1) (h2 y) (by omega) (by omega) (o := coS (ty T i)) (y := 0)
            obtain ⟨m4, e4, h4, q4, g4, k, kk, k0, k9⟩ := bm m3 d z' hd h3
            refine ⟨m4, ?_, h4, q4, ((g1.tr g2).tr g3).tr g4, k, kk, by omega, by omega⟩
            rw [k1 m2 m3 (h2 y).1.1.1 h3.1.1.1 e2 e3, e4]
          · obtain ⟨c1, e1, g1, t1, -⟩ := cl c d cnt z9 hd hc0 hc1 hC
            obtain ⟨c2, e2, t2, g2⟩ := C25 (d := d - 1) (t1 y) (by omega) hT (o := coS (ty T i)) (y := 0) (v := acS (ty T i)) (enc_co (by omega)) (by omega) (by omega) (by omega) (by omega) (by omega) (by omega) (by omega)
            obtain ⟨c3, e3, g3, t3, u3⟩ := bc c2 d (cnt + 1) (some (.int (iI (acS (ty T i))))) hd (by omega) (by omega) t2
            refine ⟨c3, ?_, (g1.tr g2).tr g3, t3, u3⟩
            rw [e1, bI_1 y, sg_54_92 (by omega)]
            simp (disch := omega) only [lwF (t1 y).1.1.1 hC.2.1, ↓reduceIte, not_false_eq_true, not_true_eq_false, and_self, and_true, true_and, false_and, and_false, or_true, true_or, or_false, false_or, or_self, reduceCtorEq, mm_q, Option.getD_some, cI_some, cJ_some, cV_some, cS_some, kd_sI, kd_sL, kd_sR, kd_cp, ln_sI, ln_sL, ln_sR, ln_cp, gR_sI, gR_sL, gR_sR, gR_cp, gL_sI, gL_sR, gL_cp, gI_sL, gI_sR, iI_add, iI_sub, iI_mul, iI_neg, iI_in, iI_tn, iI_lt, iI_eq, Nat.reduceLeDiff, Nat.reduceEqDiff, Nat.reduceAdd, Int.reduceEq, Int.reduceLT, Int.reduceLE, Int.reduceNeg, Int.reduceAdd, Int.reduceSub, Int.reduceMul, e2]
            exact e3
        · refine ⟨i1, f1, X1, ⟨by omega, a2⟩, fun m d z9 hd hM => ?_, fun c d cnt z9 hd hc0 hc1 hC => ?_, fun q => absurd q y, sf⟩
          · obtain ⟨m1, z', h1, g1, k1⟩ := M2 X i m d z9 hd hM z iN
            obtain ⟨m2, e2, h2, -, g2, k, kk, k0, k9⟩ := sm m1 (d - 1) (by omega) h1
            obtain ⟨m3, e3, h3, g3, q3, -⟩ := M196f (d := d - 1) h2 kk (by omega) (by omega) (o := coS (ty T i)) (y := 0)
            obtain ⟨m4, e4, h4, g4⟩ := M1f i1 f1 m3 d z' hd h3 (by omega)
            refine ⟨m4, ?_, h4, fun q => absurd q y, ((g1.tr g2).tr g3).tr g4.AtM, k + 1, (g4.gI (scAt_o (by omega))).trans q3, by omega, by omega⟩
            rw [k1 m2 m3 h2.1.1 h3.1.1 e2 e3, e4]
          · obtain ⟨c1, e1, g1, -, u1⟩ := cl c d cnt z9 hd hc0 hc1 hC
            refine ⟨c1, ?_, g1, fun q => absurd q y, u1⟩
            rw [e1, bI_0 y, sg_54_92 (by omega)]
            simp (disch := omega) only [↓reduceIte, not_false_eq_true, not_true_eq_false, and_self, and_true, true_and, false_and, and_false, or_true, true_or, or_false, false_or, or_self, reduceCtorEq, mm_q, Option.getD_some, cI_some, cJ_some, cV_some, cS_some, kd_sI, kd_sL, kd_sR, kd_cp, ln_sI, ln_sL, ln_sR, ln_cp, gR_sI, gR_sL, gR_sR, gR_cp, gL_sI, gL_sR, gL_cp, gI_sL, gI_sR, iI_add, iI_sub, iI_mul, iI_neg, iI_in, iI_tn, iI_lt, iI_eq, Nat.reduceLeDiff, Nat.reduceEqDiff, Nat.reduceAdd, Int.reduceEq, Int.reduceLT, Int.reduceLE, Int.reduceNeg, Int.reduceAdd, Int.reduceSub, Int.reduceMul]
    · refine ⟨i, 0, X, ⟨by omega, j1⟩, fun m d z9 hd hM => ?_, fun c d cnt z9 hd hc0 hc1 hC => ?_, fun _ => hx, by omega⟩
      · obtain ⟨m1, e1, h1, g1⟩ := M1 X i m d z9 hd hM z
        refine ⟨m1, e1, h1.1, fun _ => h1, g1, cdX X, ?_, by omega, by omega⟩
        rw [h1.2.1.2.1.1]; unfold cdX; rw [iI_toInt]
      · refine ⟨c, ?_, Fr.rf, fun _ => hC, fun q => absurd rfl q⟩
        rw [sg_54_43 (by omega)]
        by_cases y : cnt < 1000
        · simp (disch := omega) only [shP hC.1.1.1, shT hC.1.1.1, ↓reduceIte, not_false_eq_true, not_true_eq_false, and_self, and_true, true_and, false_and, and_false, or_true, true_or, or_false, false_or, or_self, reduceCtorEq, mm_q, Option.getD_some, cI_some, cJ_some, cV_some, cS_some, kd_sI, kd_sL, kd_sR, kd_cp, ln_sI, ln_sL, ln_sR, ln_cp, gR_sI, gR_sL, gR_sR, gR_cp, gL_sI, gL_sR, gL_cp, gI_sL, gI_sR, iI_add, iI_sub, iI_mul, iI_neg, iI_in, iI_tn, iI_lt, iI_eq, Nat.reduceLeDiff, Nat.reduceEqDiff, Nat.reduceAdd, Int.reduceEq, Int.reduceLT, Int.reduceLE, Int.reduceNeg, Int.reduceAdd, Int.reduceSub, Int.reduceMul, y, hC.1.2.1.2.1, C57 (show -2147483648 ≤ ty T i by omega) (by omega)]
          rw [sg_54_60 (by omega)]
          simp (disch := omega) only [↓reduceIte, not_false_eq_true, not_true_eq_false, and_self, and_true, true_and, false_and, and_false, or_true, true_or, or_false, false_or, or_self, reduceCtorEq, mm_q, Option.getD_some, cI_some, cJ_some, cV_some, cS_some, kd_sI, kd_sL, kd_sR, kd_cp, ln_sI, ln_sL, ln_sR, ln_cp, gR_sI, gR_sL, gR_sR, gR_cp, gL_sI, gL_sR, gL_cp, gI_sL, gI_sR, iI_add, iI_sub, iI_mul, iI_neg, iI_in, iI_tn, iI_lt, iI_eq, Nat.reduceLeDiff, Nat.reduceEqDiff, Nat.reduceAdd, Int.reduceEq, Int.reduceLT, Int.reduceLE, Int.reduceNeg, Int.reduceAdd, Int.reduceSub, Int.reduceMul, z]
          rfl
        · simp (disch := omega) only [↓reduceIte, not_false_eq_true, not_true_eq_false, and_self, and_true, true_and, false_and, and_false, or_true, true_or, or_false, false_or, or_self, reduceCtorEq, mm_q, Option.getD_some, cI_some, cJ_some, cV_some, cS_some, kd_sI, kd_sL, kd_sR, kd_cp, ln_sI, ln_sL, ln_sR, ln_cp, gR_sI, gR_sL, gR_sR, gR_cp, gL_sI, gL_sR, gL_cp, gI_sL, gI_sR, iI_add, iI_sub, iI_mul, iI_neg, iI_in, iI_tn, iI_lt, iI_eq, Nat.reduceLeDiff, Nat.reduceEqDiff, Nat.reduceAdd, Int.reduceEq, Int.reduceLT, Int.reduceLE, Int.reduceNeg, Int.reduceAdd, Int.reduceSub, Int.reduceMul, y]
          rfl
/-- a level -/
theorem LPa (hT : TS D n T N) {ℓ : Int} (hℓ : ℓ = 0 ∨ ℓ = 2 ∨ ℓ = 3) {jm jsub : Nat} {Lf : Option Value → mm_L} {Lm Lsub : mm_L} {δ : Int} {p : Nat} (hp : 10 ≤ p) {B : Nat}
    (sub : ∀ X i h, CD N start X i → h ≤ B → EX D E n T N Y fh lo start s L jsub Lsub 54 [some (.ref 154), some (.ref L), some (.int (iI (ℓ + 1))), some (.int (iI (δ))), none, none, none] (p - 1) X i h)
    (M0 : ∀ m m1 d, p ≤ d → Sh m → Sh m1 → mm_ev (d - 1) jsub 0 Lsub [] m = some (some none, m1) → mm_ev d jm 0 Lm [] m = mm_ev d jm 5 (Lf none) [] m1)
    (M1 : ∀ X i m d z, p ≤ d → EM D E T N Y fh X i m → ¬ lvS (ty T i) = ℓ → ∃ m', mm_ev d jm 5 (Lf z) [] m = some (some none, m') ∧ EM D E T N Y fh X i m' ∧ Fr scM m m')
    (M1f : ∀ i f m d z, p ≤ d → PF D E T N i f m → 0 < f → ∃ m', mm_ev d jm 5 (Lf z) [] m = some (some none, m') ∧ PF D E T N i f m' ∧ Fr scAt m m')
    (M2 : ∀ X i m d z, p ≤ d → EM D E T N Y fh X i m → lvS (ty T i) = ℓ → i < N → ∃ m1 z', EM D E T N Y fh X (i + 1) m1 ∧ Fr scM m m1 ∧ ∀ m2 m3, Sh m2 → Sh m3 → mm_ev (d - 1) jsub 0 Lsub [] m1 = some (some none, m2) → mm_ev (d - 1) 196 0 [some (.ref 316), some (.int (iI (coS (ty T i)))), some (.int (iI (0)))] [] m2 = some (some none, m3) → mm_ev d jm 5 (Lf z) [] m = mm_ev d jm 5 (Lf z') [] m3)
    {X : Nat → Nat → Int32} {i : Int} (hB : h + 1 ≤ B) (hc : CD N start X i) : EX D E n T N Y fh lo start s L jm Lm 54 [some (.ref 154), some (.ref L), some (.int (iI (ℓ))), some (.int (iI (δ))), none, none, none] p X i h := by
  obtain ⟨i1, f1, X1, ⟨a1, a2⟩, sm, sc, sx, sf⟩ := sub X i h hc (by omega)
  obtain ⟨⟨j0, j1⟩, ⟨s0, s1⟩, ci⟩ := hc
  have cl : ∀ (c : mm_M) (d : Nat), p ≤ d → EC D n T N s L lo start X i c → ∃ c1, mm_ev d 54 0 [some (.ref 154), some (.ref L), some (.int (iI (ℓ))), some (.int (iI (δ))), none, none, none] [] c = (if f1 = 0 then mm_ev d 54 43 [some (.ref 154), some (.ref L), some (.int (iI (ℓ))), some (.int (iI (δ))), some (.int (iI 1000)), some (.int (iI 0)), none] [] c1 else some (some (some (.int (iI 0))), c1)) ∧ Fr (scLw L) c c1 ∧ (f1 = 0 → EC D n T N s L lo start X1 i1 c1) ∧ (¬ f1 = 0 → mm_gI c1 154 3 = iI f1) := fun c d hd hC => by
    obtain ⟨c1, e1, g1, t1, u1⟩ := sc c (d - 1) (by omega) hC
    refine ⟨c1, ?_, g1, t1, u1⟩
    rw [sg_54_0 (by omega)]
    by_cases y : f1 = 0
    · rw [bI_1 y] at e1
      rw [if_pos y]
      simp (disch := omega) only [shP hC.1.1.1, ↓reduceIte, not_false_eq_true, not_true_eq_false, and_self, and_true, true_and, false_and, and_false, or_true, true_or, or_false, false_or, or_self, reduceCtorEq, mm_q, Option.getD_some, cI_some, cJ_some, cV_some, cS_some, kd_sI, kd_sL, kd_sR, kd_cp, ln_sI, ln_sL, ln_sR, ln_cp, gR_sI, gR_sL, gR_sR, gR_cp, gL_sI, gL_sR, gL_cp, gI_sL, gI_sR, iI_add, iI_sub, iI_mul, iI_neg, iI_in, iI_tn, iI_lt, iI_eq, Nat.reduceLeDiff, Nat.reduceEqDiff, Nat.reduceAdd, Int.reduceEq, Int.reduceLT, Int.reduceLE, Int.reduceNeg, Int.reduceAdd, Int.reduceSub, Int.reduceMul, show ℓ < 4 by omega, show ¬ ℓ = 1 by omega, e1]
      rw [sg_54_38]
    · rw [bI_0 y] at e1
      rw [if_neg y]
      simp (disch := omega) only [shP hC.1.1.1, ↓reduceIte, not_false_eq_true, not_true_eq_false, and_self, and_true, true_and, false_and, and_false, or_true, true_or, or_false, false_or, or_self, reduceCtorEq, mm_q, Option.getD_some, cI_some, cJ_some, cV_some, cS_some, kd_sI, kd_sL, kd_sR, kd_cp, ln_sI, ln_sL, ln_sR, ln_cp, gR_sI, gR_sL, gR_sR, gR_cp, gL_sI, gL_sR, gL_cp, gI_sL, gI_sR, iI_add, iI_sub, iI_mul, iI_neg, iI_in, iI_tn, iI_lt, iI_eq, Nat.reduceLeDiff, Nat.reduceEqDiff, Nat.reduceAdd, Int.reduceEq, Int.reduceLT, Int.reduceLE, Int.reduceNeg, Int.reduceAdd, Int.reduceSub, Int.reduceMul, show ℓ < 4 by omega, e1]
  by_cases y : f1 = 0
  · obtain ⟨x1, x2, x3, x4⟩ := sx y
    obtain ⟨i', f', X', ⟨b1, b2⟩, bm, bc, bx, bf⟩ := LPl (h := h) hT hℓ hp sub M1 M1f M2 (X0 := X) (i0 := i) (by omega) hB (N - i1).toNat X1 i1 (by omega) ⟨⟨by omega, by omega⟩, ⟨s0, by omega⟩, by omega⟩ (sx y)
    refine ⟨i', f', X', ⟨by omega, b2⟩, fun m d hd hM => ?_, fun c d hd hC => ?_, bx, bf⟩
    · obtain ⟨m1, e1, -, h1, g1, -⟩ := sm m (d - 1) (by omega) hM
      obtain ⟨m2, e2, h2, q2, g2, k, kk, k0, k9⟩ := bm m1 d none hd (h1 y)
      refine ⟨m2, ?_, h2, q2, g1.tr g2, k, kk, by omega, by omega⟩
      rw [M0 m m1 d hd hM.1.1.1 (h1 y).1.1.1 e1, e2]
    · obtain ⟨c1, e1, g1, t1, -⟩ := cl c d hd hC
      obtain ⟨c2, e2, g2, t2, u2⟩ := bc c1 d 0 none hd (by omega) (by omega) (t1 y)
      refine ⟨c2, ?_, g1.tr g2, t2, u2⟩
      rw [e1, if_pos y, e2]
  · refine ⟨i1, f1, X1, ⟨a1, a2⟩, fun m d hd hM => ?_, fun c d hd hC => ?_, fun q => absurd q y, sf⟩
    · obtain ⟨m1, e1, h1, -, g1, k, kk, k0, k9⟩ := sm m (d - 1) (by omega) hM
      obtain ⟨m2, e2, h2, g2⟩ := M1f i1 f1 m1 d none hd h1 (by omega)
      refine ⟨m2, ?_, h2, fun q => absurd q y, g1.tr g2.AtM, k, (g2.gI (scAt_o (by omega))).trans kk, k0, k9⟩
      rw [M0 m m1 d hd hM.1.1.1 h1.1.1 e1, e2]
    · obtain ⟨c1, e1, g1, -, u1⟩ := cl c d hd hC
      refine ⟨c1, ?_, g1, fun q => absurd q y, u1⟩
      rw [e1, if_neg y, bI_0 y]
end
