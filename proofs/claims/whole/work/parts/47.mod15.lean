def lawB (D : Nat → Nat → Int32) (a b : Int) : Bool := allB (fun k => decide (a - b * sa D (26 + 2 * k) = sa D (26 + 2 * k + 1))) (sa D 25).toNat 0
/-- many, first, says, same -/
def lawStep (D : Nat → Nat → Int32) (what b a : Int) (s : Int × Int × Int32 × Bool) : Int × Int × Int32 × Bool := if lawB D a b = true then (s.1 + 1, if s.1 = 0 then 1000 * b + a else s.2.1, iI (a - b * what), s.2.2.2 && (decide (s.1 = 0) || decide (iI (a - b * what) = s.2.2.1))) else s
def lawI (D : Nat → Nat → Int32) (what b : Int) : Nat → Int → Int × Int × Int32 × Bool → Int × Int × Int32 × Bool
  | 0, _, s => s
  | k + 1, a, s => lawI D what b k (a + 1) (lawStep D what b a s)
def lawO (D : Nat → Nat → Int32) (what : Int) : Nat → Int → Int × Int × Int32 × Bool → Int × Int × Int32 × Bool
  | 0, _, s => s
  | k + 1, b, s => lawO D what k (b + 1) (lawI D what b 601 0 s)
def lawsQ (D : Nat → Nat → Int32) (what : Int) : Int × Int × Int32 × Bool := lawO D what 10 0 (0, 0, iI 0, true)
def lawsOk (D : Nat → Nat → Int32) (what : Int) : Bool := decide (what = -1) || (decide (0 < (lawsQ D what).1) && (decide (what = -2) || (inB what 0 60 && (lawsQ D what).2.2.2)))
def lawsS (D : Nat → Nat → Int32) (what : Int) : Int32 := if lawsOk D what = true then (if what = -1 then iI (lawsQ D what).1 else if what = -2 then iI (lawsQ D what).2.1 else (lawsQ D what).2.2.1) else iI 0
def InvT (D : Nat → Nat → Int32) : Prop := (0 ≤ sa D 25 ∧ sa D 25 ≤ 10) ∧ ∀ k, 0 ≤ k → k < sa D 25 → (0 ≤ sa D (26 + 2 * k) ∧ sa D (26 + 2 * k) ≤ 60) ∧ (0 ≤ sa D (26 + 2 * k + 1) ∧ sa D (26 + 2 * k + 1) ≤ 600)
section
variable {D : Nat → Nat → Int32} {E : Nat → Nat → Int64} {m m' m'' : mm_M} {d : Nat}
theorem M263L (h : MD D E m) (hT : InvT D) {a b : Int} (a0 : 0 ≤ a) (a1 : a ≤ 600) (b0 : 0 ≤ b) (b1 : b < 10) : ∀ (k : Nat) (i : Int) (is : Bool), i = sa D 25 - k → 0 ≤ i → mm_ev d 263 5 [some (.ref 316), some (.int (iI (a))), some (.int (iI (b))), some (.int (iI (bI is))), some (.int (iI (i)))] [] m = some (some (some (.int (iI (bI (is && allB (fun k => decide (a - b * sa D (26 + 2 * k) = sa D (26 + 2 * k + 1))) k i))))), m)
  | 0, i, is, hi, i0 => by
    obtain ⟨⟨c0, c1⟩, -⟩ := hT
    rw [sg_263_5]
    unfold allB
    cases is <;> simp (disch := omega) only [shM h.1, ↓reduceIte, not_false_eq_true, not_true_eq_false, and_self, and_true, true_and, false_and, and_false, or_true, true_or, or_false, false_or, or_self, reduceCtorEq, mm_q, Option.getD_some, cI_some, cJ_some, cV_some, cS_some, kd_sI, kd_sL, kd_sR, kd_cp, ln_sI, ln_sL, ln_sR, ln_cp, gR_sI, gR_sL, gR_sR, gR_cp, gL_sI, gL_sR, gL_cp, gI_sL, gI_sR, iI_add, iI_sub, iI_mul, iI_neg, iI_in, iI_tn, iI_lt, iI_eq, Nat.reduceLeDiff, Nat.reduceEqDiff, Nat.reduceAdd, Int.reduceEq, Int.reduceLT, Int.reduceLE, Int.reduceNeg, Int.reduceAdd, Int.reduceSub, Int.reduceMul, bI_t, bI_f, decide_true, decide_false, Bool.and_true, Bool.and_false, Bool.true_and, Bool.false_and, Bool.false_eq_true, Bool.and_self, Bool.not_true, Bool.not_false, Bool.true_or, Bool.false_or, Bool.or_true, Bool.or_false, MD_sa h, show ¬ i < sa D 25 by omega]
  | k + 1, i, is, hi, i0 => by
    have hT2 := hT
    obtain ⟨⟨c0, c1⟩, hk⟩ := hT
    obtain ⟨⟨d0, d1⟩, ⟨e0, e1⟩⟩ := hk i i0 (by omega)
    have p0 : 0 ≤ b * sa D (26 + 2 * i) := Int.mul_nonneg b0 d0
    have p1 : b * sa D (26 + 2 * i) ≤ 10 * 60 := Int.mul_le_mul (by omega) d1 d0 (by omega)
    rw [sg_263_5]
    unfold allB
    cases is with
    | false => simp (disch := omega) only [shM h.1, ↓reduceIte, not_false_eq_true, not_true_eq_false, and_self, and_true, true_and, false_and, and_false, or_true, true_or, or_false, false_or, or_self, reduceCtorEq, mm_q, Option.getD_some, cI_some, cJ_some, cV_some, cS_some, kd_sI, kd_sL, kd_sR, kd_cp, ln_sI, ln_sL, ln_sR, ln_cp, gR_sI, gR_sL, gR_sR, gR_cp, gL_sI, gL_sR, gL_cp, gI_sL, gI_sR, iI_add, iI_sub, iI_mul, iI_neg, iI_in, iI_tn, iI_lt, iI_eq, Nat.reduceLeDiff, Nat.reduceEqDiff, Nat.reduceAdd, Int.reduceEq, Int.reduceLT, Int.reduceLE, Int.reduceNeg, Int.reduceAdd, Int.reduceSub, Int.reduceMul, bI_t, bI_f, decide_true, decide_false, Bool.and_true, Bool.and_false, Bool.true_and, Bool.false_and, Bool.false_eq_true, Bool.and_self, Bool.not_true, Bool.not_false, Bool.true_or, Bool.false_or, Bool.or_true, Bool.or_false, MD_sa h, show i < sa D 25 by omega]
    | true =>
      have ih := fun is => M263L h hT2 a0 a1 b0 b1 k (i + 1) is (by omega) (by omega)
      by_cases z : a - b * sa D (26 + 2 * i) = sa D (26 + 2 * i + 1)
      · have e := ih true
        simp (disch := omega) only [shM h.1, ↓reduceIte, not_false_eq_true, not_true_eq_false, and_self, and_true, true_and, false_and, and_false, or_true, true_or, or_false, false_or, or_self, reduceCtorEq, mm_q, Option.getD_some, cI_some, cJ_some, cV_some, cS_some, kd_sI, kd_sL, kd_sR, kd_cp, ln_sI, ln_sL, ln_sR, ln_cp, gR_sI, gR_sL, gR_sR, gR_cp, gL_sI, gL_sR, gL_cp, gI_sL, gI_sR, iI_add, iI_sub, iI_mul, iI_neg, iI_in, iI_tn, iI_lt, iI_eq, Nat.reduceLeDiff, Nat.reduceEqDiff, Nat.reduceAdd, Int.reduceEq, Int.reduceLT, Int.reduceLE, Int.reduceNeg, Int.reduceAdd, Int.reduceSub, Int.reduceMul, bI_t, bI_f, decide_true, decide_false, Bool.and_true, Bool.and_false, Bool.true_and, Bool.false_and, Bool.false_eq_true, Bool.and_self, Bool.not_true, Bool.not_false, Bool.true_or, Bool.false_or, Bool.or_true, Bool.or_false, MD_sa h, show i < sa D 25 by omega, z, sg_263_59] at e ⊢
        exact e
      · have e := ih false
        simp (disch := omega) only [shM h.1, ↓reduceIte, not_false_eq_true, not_true_eq_false, and_self, and_true, true_and, false_and, and_false, or_true, true_or, or_false, false_or, or_self, reduceCtorEq, mm_q, Option.getD_some, cI_some, cJ_some, cV_some, cS_some, kd_sI, kd_sL, kd_sR, kd_cp, ln_sI, ln_sL, ln_sR, ln_cp, gR_sI, gR_sL, gR_sR, gR_cp, gL_sI, gL_sR, gL_cp, gI_sL, gI_sR, iI_add, iI_sub, iI_mul, iI_neg, iI_in, iI_tn, iI_lt, iI_eq, Nat.reduceLeDiff, Nat.reduceEqDiff, Nat.reduceAdd, Int.reduceEq, Int.reduceLT, Int.reduceLE, Int.reduceNeg, Int.reduceAdd, Int.reduceSub, Int.reduceMul, bI_t, bI_f, decide_true, decide_false, Bool.and_true, Bool.and_false, Bool.true_and, Bool.false_and, Bool.false_eq_true, Bool.and_self, Bool.not_true, Bool.not_false, Bool.true_or, Bool.false_or, Bool.or_true, Bool.or_false, MD_sa h, show i < sa D 25 by omega, z, sg_263_59] at e ⊢
        exact e
theorem M263 (h : MD D E m) (hT : InvT D) {a b : Int} (a0 : 0 ≤ a) (a1 : a ≤ 600) (b0 : 0 ≤ b) (b1 : b < 10) : mm_ev d 263 0 [some (.ref 316), some (.int (iI (a))), some (.int (iI (b))), none, none] [] m = some (some (some (.int (iI (bI (lawB D a b))))), m) := by
  obtain ⟨c0, c1⟩ := hT.1
  rw [sg_263_0]
  have e := M263L (d := d) h hT a0 a1 b0 b1 (sa D 25).toNat 0 true (by omega) (by omega)
  rw [Bool.true_and] at e
  exact e
theorem lawStep_r {what b a : Int} {s : Int × Int × Int32 × Bool} (h : 0 ≤ s.1) : s.1 ≤ (lawStep D what b a s).1 ∧ (lawStep D what b a s).1 ≤ s.1 + 1 := by
  unfold lawStep
  split
  · simp only; omega
  · omega
/-- laws' inner loop -/
theorem M262I (h : MD D E m) (hT : InvT D) (hd : 1 ≤ d) {what b : Int} (b0 : 0 ≤ b) (b1 : b < 10) : ∀ (k : Nat) (a : Int) (s : Int × Int × Int32 × Bool) (z : Option Value), a = 601 - k → 0 ≤ a → 0 ≤ s.1 → s.1 ≤ 601 * b + a → ∃ z', mm_ev d 262 23 [some (.ref 316), some (.int (iI (what))), some (.int (iI (s.1))), some (.int (iI (s.2.1))), some (.int s.2.2.1), some (.int (iI (bI s.2.2.2))), some (.int (iI (b))), some (.int (iI (a))), z] [] m = mm_ev d 262 13 [some (.ref 316), some (.int (iI (what))), some (.int (iI ((lawI D what b k a s).1))), some (.int (iI ((lawI D what b k a s).2.1))), some (.int (lawI D what b k a s).2.2.1), some (.int (iI (bI (lawI D what b k a s).2.2.2))), some (.int (iI (b + 1))), some (.int (iI (601))), z'] [] m ∧ 0 ≤ (lawI D what b k a s).1 ∧ (lawI D what b k a s).1 ≤ 601 * (b + 1)
  | 0, a, s, z, ha, a0, s0, s1 => by
    refine ⟨z, ?_, ?_⟩
    · rw [sg_262_23 (by omega), show a = 601 by omega]
      unfold lawI
      simp (disch := omega) only [↓reduceIte, not_false_eq_true, not_true_eq_false, and_self, and_true, true_and, false_and, and_false, or_true, true_or, or_false, false_or, or_self, reduceCtorEq, mm_q, Option.getD_some, cI_some, cJ_some, cV_some, cS_some, kd_sI, kd_sL, kd_sR, kd_cp, ln_sI, ln_sL, ln_sR, ln_cp, gR_sI, gR_sL, gR_sR, gR_cp, gL_sI, gL_sR, gL_cp, gI_sL, gI_sR, iI_add, iI_sub, iI_mul, iI_neg, iI_in, iI_tn, iI_lt, iI_eq, Nat.reduceLeDiff, Nat.reduceEqDiff, Nat.reduceAdd, Int.reduceEq, Int.reduceLT, Int.reduceLE, Int.reduceNeg, Int.reduceAdd, Int.reduceSub, Int.reduceMul]
    · unfold lawI
      omega
  | k + 1, a, s, z, ha, a0, s0, s1 => by
    have r := lawStep_r (D := D) (what := what) (b := b) (a := a) s0
    obtain ⟨z', e1, r1⟩ := M262I h hT hd b0 b1 (what := what) k (a + 1) (lawStep D what b a s) (if lawB D a b = true then some (.int (iI (a - b * what))) else z) (by omega) (by omega) (by omega) (by omega)
    refine ⟨z', ?_, r1⟩
    show _ = mm_ev d 262 13 [some (.ref 316), some (.int (iI (what))), some (.int (iI ((lawI D what b k (a + 1) (lawStep D what b a s)).1))), some (.int (iI ((lawI D what b k (a + 1) (lawStep D what b a s)).2.1))), some (.int (lawI D what b k (a + 1) (lawStep D what b a s)).2.2.1), some (.int (iI (bI (lawI D what b k (a + 1) (lawStep D what b a s)).2.2.2))), some (.int (iI (b + 1))), some (.int (iI (601))), z'] [] m
    rw [← e1, sg_262_23 (by omega)]
    unfold lawStep
    cases z1 : lawB D a b
    · simp (disch := omega) only [shM h.1, ↓reduceIte, not_false_eq_true, not_true_eq_false, and_self, and_true, true_and, false_and, and_false, or_true, true_or, or_false, false_or, or_self, reduceCtorEq, mm_q, Option.getD_some, cI_some, cJ_some, cV_some, cS_some, kd_sI, kd_sL, kd_sR, kd_cp, ln_sI, ln_sL, ln_sR, ln_cp, gR_sI, gR_sL, gR_sR, gR_cp, gL_sI, gL_sR, gL_cp, gI_sL, gI_sR, iI_add, iI_sub, iI_mul, iI_neg, iI_in, iI_tn, iI_lt, iI_eq, Nat.reduceLeDiff, Nat.reduceEqDiff, Nat.reduceAdd, Int.reduceEq, Int.reduceLT, Int.reduceLE, Int.reduceNeg, Int.reduceAdd, Int.reduceSub, Int.reduceMul, bI_t, bI_f, decide_true, decide_false, Bool.and_true, Bool.and_false, Bool.true_and, Bool.false_and, Bool.false_eq_true, Bool.and_self, Bool.not_true, Bool.not_false, Bool.true_or, Bool.false_or, Bool.or_true, Bool.or_false, M263 h hT, z1, show ¬ 600 < a by omega, sg_262_99]
    · by_cases z2 : s.1 = 0
      · simp (disch := omega) only [shM h.1, ↓reduceIte, not_false_eq_true, not_true_eq_false, and_self, and_true, true_and, false_and, and_false, or_true, true_or, or_false, false_or, or_self, reduceCtorEq, mm_q, Option.getD_some, cI_some, cJ_some, cV_some, cS_some, kd_sI, kd_sL, kd_sR, kd_cp, ln_sI, ln_sL, ln_sR, ln_cp, gR_sI, gR_sL, gR_sR, gR_cp, gL_sI, gL_sR, gL_cp, gI_sL, gI_sR, iI_add, iI_sub, iI_mul, iI_neg, iI_in, iI_tn, iI_lt, iI_eq, Nat.reduceLeDiff, Nat.reduceEqDiff, Nat.reduceAdd, Int.reduceEq, Int.reduceLT, Int.reduceLE, Int.reduceNeg, Int.reduceAdd, Int.reduceSub, Int.reduceMul, bI_t, bI_f, decide_true, decide_false, Bool.and_true, Bool.and_false, Bool.true_and, Bool.false_and, Bool.false_eq_true, Bool.and_self, Bool.not_true, Bool.not_false, Bool.true_or, Bool.false_or, Bool.or_true, Bool.or_false, M263 h hT, z1, show ¬ 600 < a by omega, z2]
        rw [sg_262_68]
        cases z3 : s.2.2.2
        · simp (disch := omega) only [↓reduceIte, not_false_eq_true, not_true_eq_false, and_self, and_true, true_and, false_and, and_false, or_true, true_or, or_false, false_or, or_self, reduceCtorEq, mm_q, Option.getD_some, cI_some, cJ_some, cV_some, cS_some, kd_sI, kd_sL, kd_sR, kd_cp, ln_sI, ln_sL, ln_sR, ln_cp, gR_sI, gR_sL, gR_sR, gR_cp, gL_sI, gL_sR, gL_cp, gI_sL, gI_sR, iI_add, iI_sub, iI_mul, iI_neg, iI_in, iI_tn, iI_lt, iI_eq, Nat.reduceLeDiff, Nat.reduceEqDiff, Nat.reduceAdd, Int.reduceEq, Int.reduceLT, Int.reduceLE, Int.reduceNeg, Int.reduceAdd, Int.reduceSub, Int.reduceMul, bI_t, bI_f, decide_true, decide_false, Bool.and_true, Bool.and_false, Bool.true_and, Bool.false_and, Bool.false_eq_true, Bool.and_self, Bool.not_true, Bool.not_false, Bool.true_or, Bool.false_or, Bool.or_true, Bool.or_false, sg_262_89, sg_262_90, sg_262_99]
        · simp (disch := omega) only [↓reduceIte, not_false_eq_true, not_true_eq_false, and_self, and_true, true_and, false_and, and_false, or_true, true_or, or_false, false_or, or_self, reduceCtorEq, mm_q, Option.getD_some, cI_some, cJ_some, cV_some, cS_some, kd_sI, kd_sL, kd_sR, kd_cp, ln_sI, ln_sL, ln_sR, ln_cp, gR_sI, gR_sL, gR_sR, gR_cp, gL_sI, gL_sR, gL_cp, gI_sL, gI_sR, iI_add, iI_sub, iI_mul, iI_neg, iI_in, iI_tn, iI_lt, iI_eq, Nat.reduceLeDiff, Nat.reduceEqDiff, Nat.reduceAdd, Int.reduceEq, Int.reduceLT, Int.reduceLE, Int.reduceNeg, Int.reduceAdd, Int.reduceSub, Int.reduceMul, bI_t, bI_f, decide_true, decide_false, Bool.and_true, Bool.and_false, Bool.true_and, Bool.false_and, Bool.false_eq_true, Bool.and_self, Bool.not_true, Bool.not_false, Bool.true_or, Bool.false_or, Bool.or_true, Bool.or_false, sg_262_85, sg_262_90, sg_262_99, Bool.true_or]
      · simp (disch := omega) only [shM h.1, ↓reduceIte, not_false_eq_true, not_true_eq_false, and_self, and_true, true_and, false_and, and_false, or_true, true_or, or_false, false_or, or_self, reduceCtorEq, mm_q, Option.getD_some, cI_some, cJ_some, cV_some, cS_some, kd_sI, kd_sL, kd_sR, kd_cp, ln_sI, ln_sL, ln_sR, ln_cp, gR_sI, gR_sL, gR_sR, gR_cp, gL_sI, gL_sR, gL_cp, gI_sL, gI_sR, iI_add, iI_sub, iI_mul, iI_neg, iI_in, iI_tn, iI_lt, iI_eq, Nat.reduceLeDiff, Nat.reduceEqDiff, Nat.reduceAdd, Int.reduceEq, Int.reduceLT, Int.reduceLE, Int.reduceNeg, Int.reduceAdd, Int.reduceSub, Int.reduceMul, bI_t, bI_f, decide_true, decide_false, Bool.and_true, Bool.and_false, Bool.true_and, Bool.false_and, Bool.false_eq_true, Bool.and_self, Bool.not_true, Bool.not_false, Bool.true_or, Bool.false_or, Bool.or_true, Bool.or_false, M263 h hT, z1, show ¬ 600 < a by omega, z2]
        rw [sg_262_68]
        cases z3 : s.2.2.2
        · simp (disch := omega) only [↓reduceIte, not_false_eq_true, not_true_eq_false, and_self, and_true, true_and, false_and, and_false, or_true, true_or, or_false, false_or, or_self, reduceCtorEq, mm_q, Option.getD_some, cI_some, cJ_some, cV_some, cS_some, kd_sI, kd_sL, kd_sR, kd_cp, ln_sI, ln_sL, ln_sR, ln_cp, gR_sI, gR_sL, gR_sR, gR_cp, gL_sI, gL_sR, gL_cp, gI_sL, gI_sR, iI_add, iI_sub, iI_mul, iI_neg, iI_in, iI_tn, iI_lt, iI_eq, Nat.reduceLeDiff, Nat.reduceEqDiff, Nat.reduceAdd, Int.reduceEq, Int.reduceLT, Int.reduceLE, Int.reduceNeg, Int.reduceAdd, Int.reduceSub, Int.reduceMul, bI_t, bI_f, decide_true, decide_false, Bool.and_true, Bool.and_false, Bool.true_and, Bool.false_and, Bool.false_eq_true, Bool.and_self, Bool.not_true, Bool.not_false, Bool.true_or, Bool.false_or, Bool.or_true, Bool.or_false, sg_262_89, sg_262_90, sg_262_99]
        · by_cases z4 : iI (a - b * what) = s.2.2.1
          · simp (disch := omega) only [↓reduceIte, not_false_eq_true, not_true_eq_false, and_self, and_true, true_and, false_and, and_false, or_true, true_or, or_false, false_or, or_self, reduceCtorEq, mm_q, Option.getD_some, cI_some, cJ_some, cV_some, cS_some, kd_sI, kd_sL, kd_sR, kd_cp, ln_sI, ln_sL, ln_sR, ln_cp, gR_sI, gR_sL, gR_sR, gR_cp, gL_sI, gL_sR, gL_cp, gI_sL, gI_sR, iI_add, iI_sub, iI_mul, iI_neg, iI_in, iI_tn, iI_lt, iI_eq, Nat.reduceLeDiff, Nat.reduceEqDiff, Nat.reduceAdd, Int.reduceEq, Int.reduceLT, Int.reduceLE, Int.reduceNeg, Int.reduceAdd, Int.reduceSub, Int.reduceMul, bI_t, bI_f, decide_true, decide_false, Bool.and_true, Bool.and_false, Bool.true_and, Bool.false_and, Bool.false_eq_true, Bool.and_self, Bool.not_true, Bool.not_false, Bool.true_or, Bool.false_or, Bool.or_true, Bool.or_false, z2, z4, sg_262_85, sg_262_90, sg_262_99, Bool.false_or]
          · simp (disch := omega) only [↓reduceIte, not_false_eq_true, not_true_eq_false, and_self, and_true, true_and, false_and, and_false, or_true, true_or, or_false, false_or, or_self, reduceCtorEq, mm_q, Option.getD_some, cI_some, cJ_some, cV_some, cS_some, kd_sI, kd_sL, kd_sR, kd_cp, ln_sI, ln_sL, ln_sR, ln_cp, gR_sI, gR_sL, gR_sR, gR_cp, gL_sI, gL_sR, gL_cp, gI_sL, gI_sR, iI_add, iI_sub, iI_mul, iI_neg, iI_in, iI_tn, iI_lt, iI_eq, Nat.reduceLeDiff, Nat.reduceEqDiff, Nat.reduceAdd, Int.reduceEq, Int.reduceLT, Int.reduceLE, Int.reduceNeg, Int.reduceAdd, Int.reduceSub, Int.reduceMul, bI_t, bI_f, decide_true, decide_false, Bool.and_true, Bool.and_false, Bool.true_and, Bool.false_and, Bool.false_eq_true, Bool.and_self, Bool.not_true, Bool.not_false, Bool.true_or, Bool.false_or, Bool.or_true, Bool.or_false, z2, z4, sg_262_89, sg_262_90, sg_262_99, Bool.false_or]
/-- laws' outer loop -/
theorem M262L (h : MD D E m) (hT : InvT D) (hd : 1 ≤ d) {what : Int} : ∀ (k : Nat) (b : Int) (s : Int × Int × Int32 × Bool) (z7 z8 : Option Value), b = 10 - k → 0 ≤ b → 0 ≤ s.1 → s.1 ≤ 601 * b → ∃ z7' z8', mm_ev d 262 13 [some (.ref 316), some (.int (iI (what))), some (.int (iI (s.1))), some (.int (iI (s.2.1))), some (.int s.2.2.1), some (.int (iI (bI s.2.2.2))), some (.int (iI (b))), z7, z8] [] m = mm_ev d 262 13 [some (.ref 316), some (.int (iI (what))), some (.int (iI ((lawO D what k b s).1))), some (.int (iI ((lawO D what k b s).2.1))), some (.int (lawO D what k b s).2.2.1), some (.int (iI (bI (lawO D what k b s).2.2.2))), some (.int (iI (10))), z7', z8'] [] m ∧ 0 ≤ (lawO D what k b s).1 ∧ (lawO D what k b s).1 ≤ 6010
  | 0, b, s, z7, z8, hb, b0, s0, s1 => by
    refine ⟨z7, z8, ?_, ?_⟩
    · rw [show b = 10 by omega]
      unfold lawO
      rfl
    · unfold lawO
      omega
  | k + 1, b, s, z7, z8, hb, b0, s0, s1 => by
    obtain ⟨z', e1, r0, r1⟩ := M262I h hT hd b0 (by omega) (what := what) 601 0 s z8 (by omega) (by omega) s0 (by omega)
    obtain ⟨z7', z8', e2, r⟩ := M262L h hT hd (what := what) k (b + 1) (lawI D what b 601 0 s) (some (.int (iI (601)))) z' (by omega) (by omega) r0 r1
    refine ⟨z7', z8', ?_, r⟩
    refine Eq.trans ?_ e2
    rw [← e1, sg_262_13 (by omega)]
    simp (disch := omega) only [↓reduceIte, not_false_eq_true, not_true_eq_false, and_self, and_true, true_and, false_and, and_false, or_true, true_or, or_false, false_or, or_self, reduceCtorEq, mm_q, Option.getD_some, cI_some, cJ_some, cV_some, cS_some, kd_sI, kd_sL, kd_sR, kd_cp, ln_sI, ln_sL, ln_sR, ln_cp, gR_sI, gR_sL, gR_sR, gR_cp, gL_sI, gL_sR, gL_cp, gI_sL, gI_sR, iI_add, iI_sub, iI_mul, iI_neg, iI_in, iI_tn, iI_lt, iI_eq, Nat.reduceLeDiff, Nat.reduceEqDiff, Nat.reduceAdd, Int.reduceEq, Int.reduceLT, Int.reduceLE, Int.reduceNeg, Int.reduceAdd, Int.reduceSub, Int.reduceMul, show b < 10 by omega]
/-- laws -/
theorem M262 (h : MD D E m) (hT : InvT D) (hd : 1 ≤ d) {what : Int} (what_0 : -2147483648 ≤ what) (what_1 : what < 2147483648) : ∃ m', mm_ev d 262 0 [some (.ref 316), some (.int (iI (what))), none, none, none, none, none, none, none] [] m = some (some (some (.int (lawsS D what))), m') ∧ Fr scM m m' ∧ mm_gI m' 316 0 = iI (bI (!lawsOk D what)) := by
  obtain ⟨z7, z8, e1, r0, r1⟩ := M262L (d := d) h hT hd (what := what) 10 0 (0, 0, iI 0, true) none none (by omega) (by omega) (by decide) (by decide)
  refine ⟨mm_sI m 316 0 (iI (bI (!lawsOk D what))), ?_, Fr.sI rfl, by rw [gI_sI, if_pos ⟨rfl, rfl⟩]⟩
  rw [sg_262_0]
  refine e1.trans ?_
  have g : lawO D what 10 0 (0, 0, iI 0, true) = lawsQ D what := rfl
  rw [g] at r0 r1 ⊢
  rw [sg_262_13 (by omega)]
  have fin : ∀ b : Bool, mm_ev d 262 147 [some (.ref 316), some (.int (iI (what))), some (.int (iI ((lawsQ D what).1))), some (.int (iI ((lawsQ D what).2.1))), some (.int (lawsQ D what).2.2.1), some (.int (iI (bI (lawsQ D what).2.2.2))), some (.int (iI (10))), z7, z8] [.int (iI (bI (!b))), .ref 316] m = some (some (some (.int (if b = true then (if what = -1 then iI (lawsQ D what).1 else if what = -2 then iI (lawsQ D what).2.1 else (lawsQ D what).2.2.1) else iI 0))), mm_sI m 316 0 (iI (bI (!b)))) := by
    intro b
    rw [sg_262_147]
    cases b
    · simp (disch := omega) only [shM h.1, ↓reduceIte, not_false_eq_true, not_true_eq_false, and_self, and_true, true_and, false_and, and_false, or_true, true_or, or_false, false_or, or_self, reduceCtorEq, mm_q, Option.getD_some, cI_some, cJ_some, cV_some, cS_some, kd_sI, kd_sL, kd_sR, kd_cp, ln_sI, ln_sL, ln_sR, ln_cp, gR_sI, gR_sL, gR_sR, gR_cp, gL_sI, gL_sR, gL_cp, gI_sL, gI_sR, iI_add, iI_sub, iI_mul, iI_neg, iI_in, iI_tn, iI_lt, iI_eq, Nat.reduceLeDiff, Nat.reduceEqDiff, Nat.reduceAdd, Int.reduceEq, Int.reduceLT, Int.reduceLE, Int.reduceNeg, Int.reduceAdd, Int.reduceSub, Int.reduceMul, bI_t, bI_f, decide_true, decide_false, Bool.and_true, Bool.and_false, Bool.true_and, Bool.false_and, Bool.false_eq_true, Bool.and_self, Bool.not_true, Bool.not_false, Bool.true_or, Bool.false_or, Bool.or_true, Bool.or_false, gI_sI]
    · by_cases y1 : what = -1
      · simp (disch := omega) only [shM h.1, ↓reduceIte, not_false_eq_true, not_true_eq_false, and_self, and_true, true_and, false_and, and_false, or_true, true_or, or_false, false_or, or_self, reduceCtorEq, mm_q, Option.getD_some, cI_some, cJ_some, cV_some, cS_some, kd_sI, kd_sL, kd_sR, kd_cp, ln_sI, ln_sL, ln_sR, ln_cp, gR_sI, gR_sL, gR_sR, gR_cp, gL_sI, gL_sR, gL_cp, gI_sL, gI_sR, iI_add, iI_sub, iI_mul, iI_neg, iI_in, iI_tn, iI_lt, iI_eq, Nat.reduceLeDiff, Nat.reduceEqDiff, Nat.reduceAdd, Int.reduceEq, Int.reduceLT, Int.reduceLE, Int.reduceNeg, Int.reduceAdd, Int.reduceSub, Int.reduceMul, bI_t, bI_f, decide_true, decide_false, Bool.and_true, Bool.and_false, Bool.true_and, Bool.false_and, Bool.false_eq_true, Bool.and_self, Bool.not_true, Bool.not_false, Bool.true_or, Bool.false_or, Bool.or_true, Bool.or_false, gI_sI, y1, Int.lt_irrefl]
      · by_cases y2 : what = -2
        · simp (disch := omega) only [shM h.1, ↓reduceIte, not_false_eq_true, not_true_eq_false, and_self, and_true, true_and, false_and, and_false, or_true, true_or, or_false, false_or, or_self, reduceCtorEq, mm_q, Option.getD_some, cI_some, cJ_some, cV_some, cS_some, kd_sI, kd_sL, kd_sR, kd_cp, ln_sI, ln_sL, ln_sR, ln_cp, gR_sI, gR_sL, gR_sR, gR_cp, gL_sI, gL_sR, gL_cp, gI_sL, gI_sR, iI_add, iI_sub, iI_mul, iI_neg, iI_in, iI_tn, iI_lt, iI_eq, Nat.reduceLeDiff, Nat.reduceEqDiff, Nat.reduceAdd, Int.reduceEq, Int.reduceLT, Int.reduceLE, Int.reduceNeg, Int.reduceAdd, Int.reduceSub, Int.reduceMul, bI_t, bI_f, decide_true, decide_false, Bool.and_true, Bool.and_false, Bool.true_and, Bool.false_and, Bool.false_eq_true, Bool.and_self, Bool.not_true, Bool.not_false, Bool.true_or, Bool.false_or, Bool.or_true, Bool.or_false, gI_sI, y1, y2, Int.lt_irrefl]
        · simp (disch := omega) only [shM h.1, ↓reduceIte, not_false_eq_true, not_true_eq_false, and_self, and_true, true_and, false_and, and_false, or_true, true_or, or_false, false_or, or_self, reduceCtorEq, mm_q, Option.getD_some, cI_some, cJ_some, cV_some, cS_some, kd_sI, kd_sL, kd_sR, kd_cp, ln_sI, ln_sL, ln_sR, ln_cp, gR_sI, gR_sL, gR_sR, gR_cp, gL_sI, gL_sR, gL_cp, gI_sL, gI_sR, iI_add, iI_sub, iI_mul, iI_neg, iI_in, iI_tn, iI_lt, iI_eq, Nat.reduceLeDiff, Nat.reduceEqDiff, Nat.reduceAdd, Int.reduceEq, Int.reduceLT, Int.reduceLE, Int.reduceNeg, Int.reduceAdd, Int.reduceSub, Int.reduceMul, bI_t, bI_f, decide_true, decide_false, Bool.and_true, Bool.and_false, Bool.true_and, Bool.false_and, Bool.false_eq_true, Bool.and_self, Bool.not_true, Bool.not_false, Bool.true_or, Bool.false_or, Bool.or_true, Bool.or_false, gI_sI, y1, y2, Int.lt_irrefl]
  have fa : lawsOk D what = true → mm_ev d 262 142 [some (.ref 316), some (.int (iI (what))), some (.int (iI ((lawsQ D what).1))), some (.int (iI ((lawsQ D what).2.1))), some (.int (lawsQ D what).2.2.1), some (.int (iI (bI (lawsQ D what).2.2.2))), some (.int (iI (10))), z7, z8] [.ref 316] m = some (some (some (.int (lawsS D what))), mm_sI m 316 0 (iI (bI (!lawsOk D what)))) := by
    intro z
    have := fin true
    unfold lawsS
    rw [z]
    rw [sg_262_142]
    exact this
  have fb : lawsOk D what = false → mm_ev d 262 146 [some (.ref 316), some (.int (iI (what))), some (.int (iI ((lawsQ D what).1))), some (.int (iI ((lawsQ D what).2.1))), some (.int (lawsQ D what).2.2.1), some (.int (iI (bI (lawsQ D what).2.2.2))), some (.int (iI (10))), z7, z8] [.ref 316] m = some (some (some (.int (lawsS D what))), mm_sI m 316 0 (iI (bI (!lawsOk D what)))) := by
    intro z
    have := fin false
    unfold lawsS
    rw [z]
    rw [sg_262_146]
    exact this
  rw [if_neg (by rw [iI_lt] <;> omega)]
  by_cases y1 : what = -1
  · rw [if_pos (by rw [y1]), fa (by unfold lawsOk; simp [y1])]
  · rw [if_neg (by rw [iI_eq] <;> omega)]
    by_cases y2 : 0 < (lawsQ D what).1
    · rw [if_pos (by rw [iI_lt] <;> omega)]
      by_cases y3 : what = -2
      · rw [if_pos (by rw [y3]), fa (by unfold lawsOk; rw [decide_eq_true y2, decide_eq_true y3]; simp)]
      · rw [if_neg (by rw [iI_eq] <;> omega)]
        cases y4 : inB what 0 60
        · simp (disch := omega) only [↓reduceIte, not_false_eq_true, not_true_eq_false, and_self, and_true, true_and, false_and, and_false, or_true, true_or, or_false, false_or, or_self, reduceCtorEq, mm_q, Option.getD_some, cI_some, cJ_some, cV_some, cS_some, kd_sI, kd_sL, kd_sR, kd_cp, ln_sI, ln_sL, ln_sR, ln_cp, gR_sI, gR_sL, gR_sR, gR_cp, gL_sI, gL_sR, gL_cp, gI_sL, gI_sR, iI_add, iI_sub, iI_mul, iI_neg, iI_in, iI_tn, iI_lt, iI_eq, Nat.reduceLeDiff, Nat.reduceEqDiff, Nat.reduceAdd, Int.reduceEq, Int.reduceLT, Int.reduceLE, Int.reduceNeg, Int.reduceAdd, Int.reduceSub, Int.reduceMul, bI_t, bI_f, decide_true, decide_false, Bool.and_true, Bool.and_false, Bool.true_and, Bool.false_and, Bool.false_eq_true, Bool.and_self, Bool.not_true, Bool.not_false, Bool.true_or, Bool.false_or, Bool.or_true, Bool.or_false, M188', y4]
          exact fb (by unfold lawsOk; simp [y1, y3, y4])
        · cases y5 : (lawsQ D what).2.2.2
          · simp (disch := omega) only [↓reduceIte, not_false_eq_true, not_true_eq_false, and_self, and_true, true_and, false_and, and_false, or_true, true_or, or_false, false_or, or_self, reduceCtorEq, mm_q, Option.getD_some, cI_some, cJ_some, cV_some, cS_some, kd_sI, kd_sL, kd_sR, kd_cp, ln_sI, ln_sL, ln_sR, ln_cp, gR_sI, gR_sL, gR_sR, gR_cp, gL_sI, gL_sR, gL_cp, gI_sL, gI_sR, iI_add, iI_sub, iI_mul, iI_neg, iI_in, iI_tn, iI_lt, iI_eq, Nat.reduceLeDiff, Nat.reduceEqDiff, Nat.reduceAdd, Int.reduceEq, Int.reduceLT, Int.reduceLE, Int.reduceNeg, Int.reduceAdd, Int.reduceSub, Int.reduceMul, bI_t, bI_f, decide_true, decide_false, Bool.and_true, Bool.and_false, Bool.true_and, Bool.false_and, Bool.false_eq_true, Bool.and_self, Bool.not_true, Bool.not_false, Bool.true_or, Bool.false_or, Bool.or_true, Bool.or_false, M188', y4]
            have := fb (by unfold lawsOk; simp [y1, y3, y5])
            rw [y5] at this
            exact this
          · simp (disch := omega) only [↓reduceIte, not_false_eq_true, not_true_eq_false, and_self, and_true, true_and, false_and, and_false, or_true, true_or, or_false, false_or, or_self, reduceCtorEq, mm_q, Option.getD_some, cI_some, cJ_some, cV_some, cS_some, kd_sI, kd_sL, kd_sR, kd_cp, ln_sI, ln_sL, ln_sR, ln_cp, gR_sI, gR_sL, gR_sR, gR_cp, gL_sI, gL_sR, gL_cp, gI_sL, gI_sR, iI_add, iI_sub, iI_mul, iI_neg, iI_in, iI_tn, iI_lt, iI_eq, Nat.reduceLeDiff, Nat.reduceEqDiff, Nat.reduceAdd, Int.reduceEq, Int.reduceLT, Int.reduceLE, Int.reduceNeg, Int.reduceAdd, Int.reduceSub, Int.reduceMul, bI_t, bI_f, decide_true, decide_false, Bool.and_true, Bool.and_false, Bool.true_and, Bool.false_and, Bool.false_eq_true, Bool.and_self, Bool.not_true, Bool.not_false, Bool.true_or, Bool.false_or, Bool.or_true, Bool.or_false, M188', y4]
            have := fa (by unfold lawsOk; simp [y2, y4, y5])
            rw [y5] at this
            exact this
    · rw [if_neg (by rw [iI_lt] <;> omega), fb (by unfold lawsOk; simp [y1, y2])]
end
/-- blocks -/
def updB (B : Int → Int) (k v : Int) : Int → Int := fun j => if j = k then v else B j
def nextB (B : Int → Int) : Int → Int := fun j => if j = 0 then B 0 + 1 else if 17 ≤ j ∧ j < 25 then 0 else B j
def begB (D : Nat → Nat → Int32) : Int → Int := fun j => if j = 0 then 0 else if j < 9 then wk D (j - 1) 2 else if j < 17 then wk D (j - 9) 3 else 0
noncomputable def goodS (D : Nat → Nat → Int32) (B : Int → Int) : Bool := @decide (GoodB D B) (Classical.propDecidable _)
def lineB (D : Nat → Nat → Int32) (k : Int) (B : Int → Int) : Int → Int := if li D (1 + 3 * k) = 0 then updB B (1 + li D (2 + 3 * k)) (li D (3 + 3 * k)) else if li D (1 + 3 * k) = 1 then updB B (9 + li D (2 + 3 * k)) (1 - B (9 + li D (2 + 3 * k))) else if li D (1 + 3 * k) = 2 then updB B (17 + li D (2 + 3 * k)) (li D (3 + 3 * k)) else nextB B
noncomputable def judGo (D : Nat → Nat → Int32) : Nat → Int → Int → Int → (Int → Int) → Int × Int × Int
  | 0, _, bad, good, B => (bad, good, B 0)
  | n + 1, k, bad, good, B => if li D (1 + 3 * k) = 3 then judGo D n (k + 1) (if goodS D B = true then bad else if bad < 0 then k else bad) (good + bI (goodS D B)) (nextB B) else judGo D n (k + 1) bad good (lineB D k B)
noncomputable def judS (D : Nat → Nat → Int32) (what : Int) : Int := if inB what 0 2 = true then pick3 (judGo D (li D 0).toNat 0 (-1) 0 (begB D)) what else -2
def InvN (D : Nat → Nat → Int32) : Prop := (0 ≤ li D 0 ∧ li D 0 ≤ 30) ∧ ∀ k, 0 ≤ k → k < li D 0 → (0 ≤ li D (1 + 3 * k) ∧ li D (1 + 3 * k) ≤ 3) ∧ (li D (1 + 3 * k) < 3 → 0 ≤ li D (2 + 3 * k) ∧ li D (2 + 3 * k) < st D 6) ∧ (li D (1 + 3 * k) = 0 → 0 ≤ li D (3 + 3 * k) ∧ li D (3 + 3 * k) < st D 0) ∧ (li D (1 + 3 * k) = 2 → 0 ≤ li D (3 + 3 * k) ∧ li D (3 + 3 * k) ≤ 99)
section
variable {D : Nat → Nat → Int32} {E : Nat → Nat → Int64} {m m' m'' : mm_M} {d : Nat} {B : Int → Int}
theorem scM_hi {k : Nat} (h : 1680 ≤ k) : scM 332 k = true := by
  unfold scM pmI
  have : Nat.blt k 1680 = false := by
    rw [Bool.eq_false_iff]
    intro z
    rw [Nat.blt_eq] at z
    omega
  rw [this]
  rfl
theorem InvB.upd (h : InvB D B) {k v : Int} (h0 : k = 0 → 0 ≤ v ∧ v ≤ 1000) (h1 : 1 ≤ k → k < 9 → 0 ≤ v ∧ v < st D 0) (h2 : 9 ≤ k → k < 17 → 0 ≤ v ∧ v ≤ 1) (h3 : 17 ≤ k → 0 ≤ v ∧ v ≤ 99) (k8 : st D 6 ≤ 8) : InvB D (updB B k v) := by
  refine ⟨?_, fun w w0 w1 => ?_⟩
  · unfold updB
    split
    · next z => exact h0 z.symm
    · exact h.1
  · obtain ⟨a, b, c⟩ := h.2 w w0 w1
    refine ⟨?_, ?_, ?_⟩
    · unfold updB
      split
      · next z => exact h1 (by omega) (by omega)
      · exact a
    · unfold updB
      split
      · next z => exact h2 (by omega) (by omega)
      · exact b
    · unfold updB
      split
      · next z => exact h3 (by omega)
      · exact c
theorem InvB.next (h : InvB D B) (h0 : B 0 < 1000) (k8 : st D 6 ≤ 8) : InvB D (nextB B) := by
  refine ⟨?_, fun w w0 w1 => ?_⟩
  · unfold nextB
    rw [if_pos rfl]
    have := h.1
    omega
  · obtain ⟨a, b, c⟩ := h.2 w w0 w1
    refine ⟨?_, ?_, ?_⟩
    · unfold nextB
      rw [if_neg (by omega), if_neg (by omega)]
      exact a
    · unfold nextB
      rw [if_neg (by omega), if_neg (by omega)]
      exact b
    · unfold nextB
      rw [if_neg (by omega), if_pos (by omega)]
      omega
theorem Blk.sI (h : Blk m 1680 B) {k v : Int} (h0 : 0 ≤ k) : Blk (mm_sI m 332 (1680 + k).toNat (iI v)) 1680 (updB B k v) := ⟨h.1, fun j j0 j1 => by
  rw [gI_sI]
  unfold updB
  by_cases z : j = k
  · rw [if_pos ⟨rfl, by omega⟩, if_pos z]
  · rw [if_neg (by omega), if_neg z, h.2 j j0 j1]⟩
theorem Blk.next (h : Blk m 1680 B) (u : Upd m m' (nextD (mm_gI m) 1680)) : Blk m' 1680 (nextB B) := ⟨h.1, fun j j0 j1 => by
  rw [u.2.2.2.2]
  unfold nextD nextB
  have e0 := h.2 0 (by omega) (by omega)
  by_cases z : j = 0
  · rw [if_pos ⟨rfl, by omega⟩, if_pos z]
    rw [show (1680 + (0 : Int)).toNat = 1680 from rfl] at e0
    rw [e0, iI_add]
  · rw [if_neg (by omega), if_neg z]
    by_cases z2 : 17 ≤ j ∧ j < 25
    · rw [if_pos (by omega), if_pos z2]
    · rw [if_neg (by omega), if_neg z2, h.2 j j0 j1]⟩
theorem next_hi {b : Nat} (hb : 1680 ≤ b) : ∀ a k, scM a k = false → nextD D b a k = D a k := by
  intro a k z
  unfold nextD
  have : ¬ (a = 332 ∧ b ≤ k) := by
    rintro ⟨rfl, q⟩
    rw [scM_hi (by omega)] at z
    cases z
  rw [if_neg (by omega), if_neg (by omega)]
theorem begin_hi {b : Nat} (hb : 1680 ≤ b) : ∀ a k, scM a k = false → beginD D b a k = D a k := by
  intro a k z
  unfold beginD
  have : ¬ (a = 332 ∧ b ≤ k) := by
    rintro ⟨rfl, q⟩
    rw [scM_hi (by omega)] at z
    cases z
  rw [if_neg (by omega), if_neg (by omega), if_neg (by omega), if_neg (by omega)]
theorem good_b {b : Bool} (h : b = true ↔ GoodB D B) : b = goodS D B := by
  unfold goodS
  cases b
  · exact (@decide_eq_false _ (Classical.propDecidable _) (fun g => absurd (h.mpr g) (by decide))).symm
  · exact (@decide_eq_true _ (Classical.propDecidable _) (h.mp rfl)).symm
/-- judged's loop -/
theorem M225L (hI : InvS D) (hL : InvL D) (hN : InvN D) (hd : 8 ≤ d) {what : Int} (what_0 : -2147483648 ≤ what) (what_1 : what < 2147483648) : ∀ (n : Nat) (k bad good : Int) (B : Int → Int) (z5 z6 z7 : Option Value) (m : mm_M), k = li D 0 - n → 0 ≤ k → -1 ≤ bad → bad ≤ 30 → MD D E m → Blk m 1680 B → InvB D B → B 0 ≤ k → ∃ m', mm_ev d 225 31 [some (.ref 316), some (.int (iI (what))), some (.int (iI (bad))), some (.int (iI (good))), some (.int (iI (k))), z5, z6, z7] [] m = some (some (some (.int (iI (pick3 (judGo D n k bad good B) what)))), m') ∧ Fr scM m m'
  | 0, k, bad, good, B, z5, z6, z7, m, hk, k0, b0, b1, h, hB, hIB, hB0 => by
    obtain ⟨⟨n0, n1⟩, -⟩ := hN
    refine ⟨m, ?_, Fr.rf⟩
    have e0 := hB.2 0 (by omega) (by omega)
    rw [show (1680 + (0 : Int)).toNat = 1680 from rfl] at e0
    rw [sg_225_31 (by omega)]
    unfold judGo pick3
    by_cases y1 : what = 0
    · simp (disch := omega) only [shM h.1, ↓reduceIte, not_false_eq_true, not_true_eq_false, and_self, and_true, true_and, false_and, and_false, or_true, true_or, or_false, false_or, or_self, reduceCtorEq, mm_q, Option.getD_some, cI_some, cJ_some, cV_some, cS_some, kd_sI, kd_sL, kd_sR, kd_cp, ln_sI, ln_sL, ln_sR, ln_cp, gR_sI, gR_sL, gR_sR, gR_cp, gL_sI, gL_sR, gL_cp, gI_sL, gI_sR, iI_add, iI_sub, iI_mul, iI_neg, iI_in, iI_tn, iI_lt, iI_eq, Nat.reduceLeDiff, Nat.reduceEqDiff, Nat.reduceAdd, Int.reduceEq, Int.reduceLT, Int.reduceLE, Int.reduceNeg, Int.reduceAdd, Int.reduceSub, Int.reduceMul, MD_li h, show ¬ k < li D 0 by omega, y1]
    · by_cases y2 : what = 1
      · simp (disch := omega) only [shM h.1, ↓reduceIte, not_false_eq_true, not_true_eq_false, and_self, and_true, true_and, false_and, and_false, or_true, true_or, or_false, false_or, or_self, reduceCtorEq, mm_q, Option.getD_some, cI_some, cJ_some, cV_some, cS_some, kd_sI, kd_sL, kd_sR, kd_cp, ln_sI, ln_sL, ln_sR, ln_cp, gR_sI, gR_sL, gR_sR, gR_cp, gL_sI, gL_sR, gL_cp, gI_sL, gI_sR, iI_add, iI_sub, iI_mul, iI_neg, iI_in, iI_tn, iI_lt, iI_eq, Nat.reduceLeDiff, Nat.reduceEqDiff, Nat.reduceAdd, Int.reduceEq, Int.reduceLT, Int.reduceLE, Int.reduceNeg, Int.reduceAdd, Int.reduceSub, Int.reduceMul, MD_li h, show ¬ k < li D 0 by omega, y2]
      · simp (disch := omega) only [shM h.1, ↓reduceIte, not_false_eq_true, not_true_eq_false, and_self, and_true, true_and, false_and, and_false, or_true, true_or, or_false, false_or, or_self, reduceCtorEq, mm_q, Option.getD_some, cI_some, cJ_some, cV_some, cS_some, kd_sI, kd_sL, kd_sR, kd_cp, ln_sI, ln_sL, ln_sR, ln_cp, gR_sI, gR_sL, gR_sR, gR_cp, gL_sI, gL_sR, gL_cp, gI_sL, gI_sR, iI_add, iI_sub, iI_mul, iI_neg, iI_in, iI_tn, iI_lt, iI_eq, Nat.reduceLeDiff, Nat.reduceEqDiff, Nat.reduceAdd, Int.reduceEq, Int.reduceLT, Int.reduceLE, Int.reduceNeg, Int.reduceAdd, Int.reduceSub, Int.reduceMul, MD_li h, show ¬ k < li D 0 by omega, y1, y2, show Int.toNat 1680 = 1680 from rfl, e0]
  | n + 1, k, bad, good, B, z5, z6, z7, m, hk, k0, b0, b1, h, hB, hIB, hB0 => by
    have hN2 := hN
    obtain ⟨⟨n0, n1⟩, hn⟩ := hN
    obtain ⟨⟨a0, a1⟩, a2, a3, a4⟩ := hn k k0 (by omega)
    obtain ⟨k8, k9⟩ := hI.2.2.2.2.2.1
    obtain ⟨q0, q1⟩ := hI.1
    have k1 : k < li D 0 := by omega
    rw [sg_225_31 (by omega)]
    simp (disch := omega) only [shM h.1, ↓reduceIte, not_false_eq_true, not_true_eq_false, and_self, and_true, true_and, false_and, and_false, or_true, true_or, or_false, false_or, or_self, reduceCtorEq, mm_q, Option.getD_some, cI_some, cJ_some, cV_some, cS_some, kd_sI, kd_sL, kd_sR, kd_cp, ln_sI, ln_sL, ln_sR, ln_cp, gR_sI, gR_sL, gR_sR, gR_cp, gL_sI, gL_sR, gL_cp, gI_sL, gI_sR, iI_add, iI_sub, iI_mul, iI_neg, iI_in, iI_tn, iI_lt, iI_eq, Nat.reduceLeDiff, Nat.reduceEqDiff, Nat.reduceAdd, Int.reduceEq, Int.reduceLT, Int.reduceLE, Int.reduceNeg, Int.reduceAdd, Int.reduceSub, Int.reduceMul, MD_li h, k1]
    unfold judGo
    by_cases y0 : li D (1 + 3 * k) = 0
    · obtain ⟨w0, w1⟩ := a2 (by omega)
      obtain ⟨v0, v1⟩ := a3 y0
      have f1 : Fr scM m (mm_sI m 332 (1680 + (1 + li D (2 + 3 * k))).toNat (iI (li D (3 + 3 * k)))) := Fr.sI (scM_hi (by omega))
      obtain ⟨m', e2, f2⟩ := M225L hI hL hN2 hd what_0 what_1 n (k + 1) bad good _ (some (.int (iI (0)))) (some (.int (iI (li D (2 + 3 * k))))) z7 _ (by omega) (by omega) b0 b1 (h.fr f1) (hB.sI (by omega)) (hIB.upd (k := 1 + li D (2 + 3 * k)) (v := li D (3 + 3 * k)) (by omega) (by omega) (by omega) (by omega) k9) (by unfold updB; rw [if_neg (by omega)]; omega)
      refine ⟨m', ?_, f1.tr f2⟩
      unfold lineB
      rw [show (1680 : Int) + (1 + li D (2 + 3 * k)) = 1681 + li D (2 + 3 * k) by omega] at e2
      simp (disch := omega) only [shM h.1, ↓reduceIte, not_false_eq_true, not_true_eq_false, and_self, and_true, true_and, false_and, and_false, or_true, true_or, or_false, false_or, or_self, reduceCtorEq, mm_q, Option.getD_some, cI_some, cJ_some, cV_some, cS_some, kd_sI, kd_sL, kd_sR, kd_cp, ln_sI, ln_sL, ln_sR, ln_cp, gR_sI, gR_sL, gR_sR, gR_cp, gL_sI, gL_sR, gL_cp, gI_sL, gI_sR, iI_add, iI_sub, iI_mul, iI_neg, iI_in, iI_tn, iI_lt, iI_eq, Nat.reduceLeDiff, Nat.reduceEqDiff, Nat.reduceAdd, Int.reduceEq, Int.reduceLT, Int.reduceLE, Int.reduceNeg, Int.reduceAdd, Int.reduceSub, Int.reduceMul, y0, MD_li h, sg_225_207] at e2 ⊢
      exact e2
    · by_cases y1 : li D (1 + 3 * k) = 1
      · obtain ⟨w0, w1⟩ := a2 (by omega)
        obtain ⟨-, ⟨r0, r1⟩, -⟩ := hIB.2 _ w0 w1
        have f1 : Fr scM m (mm_sI m 332 (1680 + (9 + li D (2 + 3 * k))).toNat (iI (1 - B (9 + li D (2 + 3 * k))))) := Fr.sI (scM_hi (by omega))
        have e3 := hB.2 (9 + li D (2 + 3 * k)) (by omega) (by omega)
        obtain ⟨m', e2, f2⟩ := M225L hI hL hN2 hd what_0 what_1 n (k + 1) bad good _ (some (.int (iI (1)))) (some (.int (iI (li D (2 + 3 * k))))) z7 _ (by omega) (by omega) b0 b1 (h.fr f1) (hB.sI (by omega)) (hIB.upd (k := 9 + li D (2 + 3 * k)) (v := 1 - B (9 + li D (2 + 3 * k))) (by omega) (by omega) (by omega) (by omega) k9) (by unfold updB; rw [if_neg (by omega)]; omega)
        refine ⟨m', ?_, f1.tr f2⟩
        unfold lineB
        rw [show (1680 : Int) + (9 + li D (2 + 3 * k)) = 1689 + li D (2 + 3 * k) by omega] at e2 e3
        simp (disch := omega) only [shM h.1, ↓reduceIte, not_false_eq_true, not_true_eq_false, and_self, and_true, true_and, false_and, and_false, or_true, true_or, or_false, false_or, or_self, reduceCtorEq, mm_q, Option.getD_some, cI_some, cJ_some, cV_some, cS_some, kd_sI, kd_sL, kd_sR, kd_cp, ln_sI, ln_sL, ln_sR, ln_cp, gR_sI, gR_sL, gR_sR, gR_cp, gL_sI, gL_sR, gL_cp, gI_sL, gI_sR, iI_add, iI_sub, iI_mul, iI_neg, iI_in, iI_tn, iI_lt, iI_eq, Nat.reduceLeDiff, Nat.reduceEqDiff, Nat.reduceAdd, Int.reduceEq, Int.reduceLT, Int.reduceLE, Int.reduceNeg, Int.reduceAdd, Int.reduceSub, Int.reduceMul, y1, MD_li h, sg_225_207, e3] at e2 ⊢
        exact e2
      · by_cases y2 : li D (1 + 3 * k) = 2
        · obtain ⟨w0, w1⟩ := a2 (by omega)
          obtain ⟨v0, v1⟩ := a4 y2
          have f1 : Fr scM m (mm_sI m 332 (1680 + (17 + li D (2 + 3 * k))).toNat (iI (li D (3 + 3 * k)))) := Fr.sI (scM_hi (by omega))
          obtain ⟨m', e2, f2⟩ := M225L hI hL hN2 hd what_0 what_1 n (k + 1) bad good _ (some (.int (iI (2)))) (some (.int (iI (li D (2 + 3 * k))))) z7 _ (by omega) (by omega) b0 b1 (h.fr f1) (hB.sI (by omega)) (hIB.upd (k := 17 + li D (2 + 3 * k)) (v := li D (3 + 3 * k)) (by omega) (by omega) (by omega) (by omega) k9) (by unfold updB; rw [if_neg (by omega)]; omega)
          refine ⟨m', ?_, f1.tr f2⟩
          unfold lineB
          rw [show (1680 : Int) + (17 + li D (2 + 3 * k)) = 1697 + li D (2 + 3 * k) by omega] at e2
          simp (disch := omega) only [shM h.1, ↓reduceIte, not_false_eq_true, not_true_eq_false, and_self, and_true, true_and, false_and, and_false, or_true, true_or, or_false, false_or, or_self, reduceCtorEq, mm_q, Option.getD_some, cI_some, cJ_some, cV_some, cS_some, kd_sI, kd_sL, kd_sR, kd_cp, ln_sI, ln_sL, ln_sR, ln_cp, gR_sI, gR_sL, gR_sR, gR_cp, gL_sI, gL_sR, gL_cp, gI_sL, gI_sR, iI_add, iI_sub, iI_mul, iI_neg, iI_in, iI_tn, iI_lt, iI_eq, Nat.reduceLeDiff, Nat.reduceEqDiff, Nat.reduceAdd, Int.reduceEq, Int.reduceLT, Int.reduceLE, Int.reduceNeg, Int.reduceAdd, Int.reduceSub, Int.reduceMul, y2, MD_li h, sg_225_207] at e2 ⊢
          exact e2
        · have y3 : li D (1 + 3 * k) = 3 := by omega
          obtain ⟨m1, is, e1, f1, c1⟩ := M226 (d := d - 1) h hB hI hL hIB (by omega)
          have hg := good_b c1
          have h1 := h.frL f1
          have hB1 := hB.frL f1
          obtain ⟨m2, e3, u3⟩ := M223 (d := d - 1) h1.1 (b := 1680) (by omega)
          have f3 : Fr scM m1 m2 := u3.fr (next_hi (by omega))
          have hB2 := hB1.next u3
          obtain ⟨m', e2, f2⟩ := M225L hI hL hN2 hd what_0 what_1 n (k + 1) (if goodS D B = true then bad else if bad < 0 then k else bad) (good + bI (goodS D B)) _ (some (.int (iI (li D (1 + 3 * k))))) (some (.int (iI (li D (2 + 3 * k))))) (some (.int (iI (bI is)))) m2 (by omega) (by omega) (by split; omega; split <;> omega) (by split; omega; split <;> omega) (h1.fr f3) hB2 (hIB.next (by omega) k9) (by unfold nextB; rw [if_pos rfl]; omega)
          refine ⟨m', ?_, (f1.LM.tr f3).tr f2⟩
          rw [if_pos y3, ← e2]
          rw [show ((1680 : Nat) : Int) = 1680 from rfl] at e3
          simp (disch := omega) only [shM h.1, ↓reduceIte, not_false_eq_true, not_true_eq_false, and_self, and_true, true_and, false_and, and_false, or_true, true_or, or_false, false_or, or_self, reduceCtorEq, mm_q, Option.getD_some, cI_some, cJ_some, cV_some, cS_some, kd_sI, kd_sL, kd_sR, kd_cp, ln_sI, ln_sL, ln_sR, ln_cp, gR_sI, gR_sL, gR_sR, gR_cp, gL_sI, gL_sR, gL_cp, gI_sL, gI_sR, iI_add, iI_sub, iI_mul, iI_neg, iI_in, iI_tn, iI_lt, iI_eq, Nat.reduceLeDiff, Nat.reduceEqDiff, Nat.reduceAdd, Int.reduceEq, Int.reduceLT, Int.reduceLE, Int.reduceNeg, Int.reduceAdd, Int.reduceSub, Int.reduceMul, y3, e1, MD_li h]
          rw [← hg]
          cases is
          · simp (disch := omega) only [↓reduceIte, not_false_eq_true, not_true_eq_false, and_self, and_true, true_and, false_and, and_false, or_true, true_or, or_false, false_or, or_self, reduceCtorEq, mm_q, Option.getD_some, cI_some, cJ_some, cV_some, cS_some, kd_sI, kd_sL, kd_sR, kd_cp, ln_sI, ln_sL, ln_sR, ln_cp, gR_sI, gR_sL, gR_sR, gR_cp, gL_sI, gL_sR, gL_cp, gI_sL, gI_sR, iI_add, iI_sub, iI_mul, iI_neg, iI_in, iI_tn, iI_lt, iI_eq, Nat.reduceLeDiff, Nat.reduceEqDiff, Nat.reduceAdd, Int.reduceEq, Int.reduceLT, Int.reduceLE, Int.reduceNeg, Int.reduceAdd, Int.reduceSub, Int.reduceMul, bI_t, bI_f, decide_true, decide_false, Bool.and_true, Bool.and_false, Bool.true_and, Bool.false_and, Bool.false_eq_true, Bool.and_self, Bool.not_true, Bool.not_false, Bool.true_or, Bool.false_or, Bool.or_true, Bool.or_false]
            rw [sg_225_182]
            by_cases y4 : bad < 0
            · simp (disch := omega) only [↓reduceIte, not_false_eq_true, not_true_eq_false, and_self, and_true, true_and, false_and, and_false, or_true, true_or, or_false, false_or, or_self, reduceCtorEq, mm_q, Option.getD_some, cI_some, cJ_some, cV_some, cS_some, kd_sI, kd_sL, kd_sR, kd_cp, ln_sI, ln_sL, ln_sR, ln_cp, gR_sI, gR_sL, gR_sR, gR_cp, gL_sI, gL_sR, gL_cp, gI_sL, gI_sR, iI_add, iI_sub, iI_mul, iI_neg, iI_in, iI_tn, iI_lt, iI_eq, Nat.reduceLeDiff, Nat.reduceEqDiff, Nat.reduceAdd, Int.reduceEq, Int.reduceLT, Int.reduceLE, Int.reduceNeg, Int.reduceAdd, Int.reduceSub, Int.reduceMul, y4]
              rw [sg_225_199 (by omega)]
              simp (disch := omega) only [shM h1.1, ↓reduceIte, not_false_eq_true, not_true_eq_false, and_self, and_true, true_and, false_and, and_false, or_true, true_or, or_false, false_or, or_self, reduceCtorEq, mm_q, Option.getD_some, cI_some, cJ_some, cV_some, cS_some, kd_sI, kd_sL, kd_sR, kd_cp, ln_sI, ln_sL, ln_sR, ln_cp, gR_sI, gR_sL, gR_sR, gR_cp, gL_sI, gL_sR, gL_cp, gI_sL, gI_sR, iI_add, iI_sub, iI_mul, iI_neg, iI_in, iI_tn, iI_lt, iI_eq, Nat.reduceLeDiff, Nat.reduceEqDiff, Nat.reduceAdd, Int.reduceEq, Int.reduceLT, Int.reduceLE, Int.reduceNeg, Int.reduceAdd, Int.reduceSub, Int.reduceMul, e3, sg_225_207]
            · simp (disch := omega) only [↓reduceIte, not_false_eq_true, not_true_eq_false, and_self, and_true, true_and, false_and, and_false, or_true, true_or, or_false, false_or, or_self, reduceCtorEq, mm_q, Option.getD_some, cI_some, cJ_some, cV_some, cS_some, kd_sI, kd_sL, kd_sR, kd_cp, ln_sI, ln_sL, ln_sR, ln_cp, gR_sI, gR_sL, gR_sR, gR_cp, gL_sI, gL_sR, gL_cp, gI_sL, gI_sR, iI_add, iI_sub, iI_mul, iI_neg, iI_in, iI_tn, iI_lt, iI_eq, Nat.reduceLeDiff, Nat.reduceEqDiff, Nat.reduceAdd, Int.reduceEq, Int.reduceLT, Int.reduceLE, Int.reduceNeg, Int.reduceAdd, Int.reduceSub, Int.reduceMul, y4, sg_225_198]
              rw [sg_225_199 (by omega)]
              simp (disch := omega) only [shM h1.1, ↓reduceIte, not_false_eq_true, not_true_eq_false, and_self, and_true, true_and, false_and, and_false, or_true, true_or, or_false, false_or, or_self, reduceCtorEq, mm_q, Option.getD_some, cI_some, cJ_some, cV_some, cS_some, kd_sI, kd_sL, kd_sR, kd_cp, ln_sI, ln_sL, ln_sR, ln_cp, gR_sI, gR_sL, gR_sR, gR_cp, gL_sI, gL_sR, gL_cp, gI_sL, gI_sR, iI_add, iI_sub, iI_mul, iI_neg, iI_in, iI_tn, iI_lt, iI_eq, Nat.reduceLeDiff, Nat.reduceEqDiff, Nat.reduceAdd, Int.reduceEq, Int.reduceLT, Int.reduceLE, Int.reduceNeg, Int.reduceAdd, Int.reduceSub, Int.reduceMul, e3, sg_225_207]
          · simp (disch := omega) only [↓reduceIte, not_false_eq_true, not_true_eq_false, and_self, and_true, true_and, false_and, and_false, or_true, true_or, or_false, false_or, or_self, reduceCtorEq, mm_q, Option.getD_some, cI_some, cJ_some, cV_some, cS_some, kd_sI, kd_sL, kd_sR, kd_cp, ln_sI, ln_sL, ln_sR, ln_cp, gR_sI, gR_sL, gR_sR, gR_cp, gL_sI, gL_sR, gL_cp, gI_sL, gI_sR, iI_add, iI_sub, iI_mul, iI_neg, iI_in, iI_tn, iI_lt, iI_eq, Nat.reduceLeDiff, Nat.reduceEqDiff, Nat.reduceAdd, Int.reduceEq, Int.reduceLT, Int.reduceLE, Int.reduceNeg, Int.reduceAdd, Int.reduceSub, Int.reduceMul, bI_t, bI_f, decide_true, decide_false, Bool.and_true, Bool.and_false, Bool.true_and, Bool.false_and, Bool.false_eq_true, Bool.and_self, Bool.not_true, Bool.not_false, Bool.true_or, Bool.false_or, Bool.or_true, Bool.or_false]
            rw [sg_225_182]
            simp (disch := omega) only [↓reduceIte, not_false_eq_true, not_true_eq_false, and_self, and_true, true_and, false_and, and_false, or_true, true_or, or_false, false_or, or_self, reduceCtorEq, mm_q, Option.getD_some, cI_some, cJ_some, cV_some, cS_some, kd_sI, kd_sL, kd_sR, kd_cp, ln_sI, ln_sL, ln_sR, ln_cp, gR_sI, gR_sL, gR_sR, gR_cp, gL_sI, gL_sR, gL_cp, gI_sL, gI_sR, iI_add, iI_sub, iI_mul, iI_neg, iI_in, iI_tn, iI_lt, iI_eq, Nat.reduceLeDiff, Nat.reduceEqDiff, Nat.reduceAdd, Int.reduceEq, Int.reduceLT, Int.reduceLE, Int.reduceNeg, Int.reduceAdd, Int.reduceSub, Int.reduceMul, sg_225_198]
            rw [sg_225_199 (by omega)]
            simp (disch := omega) only [shM h1.1, ↓reduceIte, not_false_eq_true, not_true_eq_false, and_self, and_true, true_and, false_and, and_false, or_true, true_or, or_false, false_or, or_self, reduceCtorEq, mm_q, Option.getD_some, cI_some, cJ_some, cV_some, cS_some, kd_sI, kd_sL, kd_sR, kd_cp, ln_sI, ln_sL, ln_sR, ln_cp, gR_sI, gR_sL, gR_sR, gR_cp, gL_sI, gL_sR, gL_cp, gI_sL, gI_sR, iI_add, iI_sub, iI_mul, iI_neg, iI_in, iI_tn, iI_lt, iI_eq, Nat.reduceLeDiff, Nat.reduceEqDiff, Nat.reduceAdd, Int.reduceEq, Int.reduceLT, Int.reduceLE, Int.reduceNeg, Int.reduceAdd, Int.reduceSub, Int.reduceMul, e3, sg_225_207]
theorem begB_ok (hI : InvS D) : InvB D (begB D) := by
  obtain ⟨k8, k9⟩ := hI.2.2.2.2.2.1
  refine ⟨by unfold begB; rw [if_pos rfl]; omega, fun w w0 w1 => ?_⟩
  obtain ⟨-, -, c, r, -⟩ := hI.2.2.2.2.2.2.2.2.2.1 w w0 w1
  refine ⟨?_, ?_, ?_⟩
  · unfold begB
    rw [if_neg (by omega), if_pos (by omega), show 1 + w - 1 = w by omega]
    exact c
  · unfold begB
    rw [if_neg (by omega), if_neg (by omega), if_pos (by omega), show 9 + w - 9 = w by omega]
    exact r
  · unfold begB
    rw [if_neg (by omega), if_neg (by omega), if_neg (by omega)]
    omega
/-- judged -/
theorem M225 (h : MD D E m) (hI : InvS D) (hL : InvL D) (hN : InvN D) (hd : 8 ≤ d) {what : Int} (what_0 : -2147483648 ≤ what) (what_1 : what < 2147483648) : ∃ m', mm_ev d 225 0 [some (.ref 316), some (.int (iI (what))), none, none, none, none, none, none] [] m = some (some (some (.int (iI (judS D what)))), m') ∧ Fr scM m m' := by
  have h1 := h.fr thr0
  rw [sg_225_0 (by omega)]
  simp (disch := omega) only [shM h.1, ↓reduceIte, not_false_eq_true, not_true_eq_false, and_self, and_true, true_and, reduceCtorEq, mm_q, Option.getD_some, cI_some, cJ_some, cV_some, cS_some, Nat.reduceLeDiff, Nat.reduceEqDiff, M188']
  rw [sg_225_11 (by omega)]
  unfold judS
  cases z : inB what 0 2
  · exact ⟨_, by simp (disch := omega) only [↓reduceIte, not_false_eq_true, not_true_eq_false, and_self, and_true, true_and, false_and, and_false, or_true, true_or, or_false, false_or, or_self, reduceCtorEq, mm_q, Option.getD_some, cI_some, cJ_some, cV_some, cS_some, kd_sI, kd_sL, kd_sR, kd_cp, ln_sI, ln_sL, ln_sR, ln_cp, gR_sI, gR_sL, gR_sR, gR_cp, gL_sI, gL_sR, gL_cp, gI_sL, gI_sR, iI_add, iI_sub, iI_mul, iI_neg, iI_in, iI_tn, iI_lt, iI_eq, Nat.reduceLeDiff, Nat.reduceEqDiff, Nat.reduceAdd, Int.reduceEq, Int.reduceLT, Int.reduceLE, Int.reduceNeg, Int.reduceAdd, Int.reduceSub, Int.reduceMul, bI_t, bI_f, decide_true, decide_false, Bool.and_true, Bool.and_false, Bool.true_and, Bool.false_and, Bool.false_eq_true, Bool.and_self, Bool.not_true, Bool.not_false, Bool.true_or, Bool.false_or, Bool.or_true, Bool.or_false], thr0⟩
  · obtain ⟨m1, e1, u1⟩ := M161 (d := d - 1) h1.1 (by omega) (b := 1680) (by omega)
    have f1 : Fr scM (mm_sI m 316 0 (iI 0)) m1 := u1.fr (begin_hi (by omega))
    have hB : Blk m1 1680 (begB D) := ⟨by omega, fun j j0 j1 => by
      have g : ∀ i : Nat, i < 100 → mm_gI (mm_sI m 316 0 (iI 0)) 322 i = iI (st D i) := fun i hi => by
        have := MD_st h1 (i := (i : Int)) (by omega) (by omega)
        rw [Int.toNat_natCast] at this
        exact this
      rw [u1.2.2.2.2]
      unfold beginD begB
      by_cases z0 : j = 0
      · rw [if_pos ⟨rfl, by omega⟩, if_pos z0]
      · rw [if_neg (by omega), if_neg z0]
        by_cases z1 : j < 9
        · rw [if_pos (by omega), if_pos z1, g _ (by omega)]
          unfold wk
          congr 2
          omega
        · rw [if_neg (by omega), if_neg z1]
          by_cases z2 : j < 17
          · rw [if_pos (by omega), if_pos z2, g _ (by omega)]
            unfold wk
            congr 2
            omega
          · rw [if_neg (by omega), if_neg z2, if_pos (by omega)]⟩
    obtain ⟨n0, n1⟩ := hN.1
    obtain ⟨m', e2, f2⟩ := M225L hI hL hN hd what_0 what_1 (li D 0).toNat 0 (-1) 0 (begB D) none none none m1 (by omega) (by omega) (by omega) (by omega) (h1.fr f1) hB (begB_ok hI) (by unfold begB; rw [if_pos rfl]; omega)
    refine ⟨m', ?_, (thr0.tr f1).tr f2⟩
    rw [show ((1680 : Nat) : Int) = 1680 from rfl] at e1
    simp (disch := omega) only [shM h1.1, ↓reduceIte, not_false_eq_true, not_true_eq_false, and_self, and_true, true_and, false_and, and_false, or_true, true_or, or_false, false_or, or_self, reduceCtorEq, mm_q, Option.getD_some, cI_some, cJ_some, cV_some, cS_some, kd_sI, kd_sL, kd_sR, kd_cp, ln_sI, ln_sL, ln_sR, ln_cp, gR_sI, gR_sL, gR_sR, gR_cp, gL_sI, gL_sR, gL_cp, gI_sL, gI_sR, iI_add, iI_sub, iI_mul, iI_neg, iI_in, iI_tn, iI_lt, iI_eq, Nat.reduceLeDiff, Nat.reduceEqDiff, Nat.reduceAdd, Int.reduceEq, Int.reduceLT, Int.reduceLE, Int.reduceNeg, Int.reduceAdd, Int.reduceSub, Int.reduceMul, bI_t, bI_f, decide_true, decide_false, Bool.and_true, Bool.and_false, Bool.true_and, Bool.false_and, Bool.false_eq_true, Bool.and_self, Bool.not_true, Bool.not_false, Bool.true_or, Bool.false_or, Bool.or_true, Bool.or_false, e1]
    exact e2
end
