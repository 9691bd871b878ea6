/-- words of letters, numbers of digits -/
def wv (B : Int) (X : Int → Int) (p : Int) : Nat → Int
  | 0 => 0
  | k + 1 => B * wv B X p k + (X (p + k) - 96)
def nv (X : Int → Int) (p : Int) : Nat → Int
  | 0 => 0
  | k + 1 => 10 * nv X p k + (X (p + k) - 48)
theorem wv_s {B : Int} {X : Int → Int} {p : Int} {k : Nat} : wv B X p (k + 1) = B * wv B X p k + (X (p + k) - 96) := rfl
theorem nv_s {X : Int → Int} {p : Int} {k : Nat} : nv X p (k + 1) = 10 * nv X p k + (X (p + k) - 48) := rfl
def isL (c : Int) : Prop := 97 ≤ c ∧ c ≤ 122
def isG (c : Int) : Prop := 48 ≤ c ∧ c ≤ 57
def isB (c : Int) : Prop := c = 10 ∨ c = 32
def sgn (c : Int) : Prop := c = 40 ∨ c = 41 ∨ c = 59 ∨ c = 61 ∨ c = 60 ∨ c = 43 ∨ c = 45 ∨ c = 42
/-- tokens: sort, place, value, the class's word, number, where the search for it began -/
abbrev TK : Type := Int → Int × Int × Int64 × Int64 × Int × Int
def tS (T : TK) (i : Int) : Int := (T i).1
def tP (T : TK) (i : Int) : Int := (T i).2.1
def tV (T : TK) (i : Int) : Int64 := (T i).2.2.1
def tW (T : TK) (i : Int) : Int64 := (T i).2.2.2.1
def tN (T : TK) (i : Int) : Int := (T i).2.2.2.2.1
def tX (T : TK) (i : Int) : Int := (T i).2.2.2.2.2
/-- the value of what is none -/
def bvS (X : Int → Int) (p : Int) : Int64 := if 97 ≤ X p ∧ X p ≤ 122 then lI (wv 37 X p 8) else if 48 ≤ X p ∧ X p ≤ 57 then lI (nv X p 4) else lI (X p)
def Tk1 (X : Int → Int) (n : Int) (T : TK) (i : Int) : Prop :=
  (0 ≤ tX T i ∧ tX T i ≤ tP T i ∧ tP T i < tX T (i + 1) ∧ tX T (i + 1) ≤ n) ∧ (∀ k, tX T i ≤ k → k < tP T i → isB (X k)) ∧ (¬ isB (X (tP T i)) ∧ (tS T i = 4 → tV T i = bvS X (tP T i))) ∧
  ((isL (X (tP T i)) ∧ (∀ k, tP T i ≤ k → k < tX T (i + 1) → isL (X k)) ∧ (tX T (i + 1) < n → ¬ isL (X (tX T (i + 1)))) ∧ ((8 < tX T (i + 1) - tP T i ∧ tS T i = 4) ∨ (tX T (i + 1) - tP T i ≤ 8 ∧ tS T i = 1 ∧ tV T i = lI (wv 37 X (tP T i) (tX T (i + 1) - tP T i).toNat) ∧ tW T i = lI (wv 27 X (tP T i) (tX T (i + 1) - tP T i).toNat)))) ∨
   (isG (X (tP T i)) ∧ (∀ k, tP T i ≤ k → k < tX T (i + 1) → isG (X k)) ∧ (tX T (i + 1) < n → ¬ isG (X (tX T (i + 1)))) ∧ ((4 < tX T (i + 1) - tP T i ∧ tS T i = 4) ∨ (tX T (i + 1) - tP T i ≤ 4 ∧ tS T i = 2 ∧ tN T i = nv X (tP T i) (tX T (i + 1) - tP T i).toNat ∧ tV T i = lI (tN T i)))) ∨
   (¬ isL (X (tP T i)) ∧ ¬ isG (X (tP T i)) ∧ tX T (i + 1) = tP T i + 1 ∧ ((sgn (X (tP T i)) ∧ tS T i = 3 ∧ tN T i = X (tP T i) ∧ tV T i = lI (tN T i)) ∨ (¬ sgn (X (tP T i)) ∧ tS T i = 4))))
def TkE (X : Int → Int) (n : Int) (T : TK) (N : Int) : Prop := tS T N = 0 ∧ tP T N = n ∧ (0 ≤ tX T N ∧ tX T N ≤ n) ∧ ∀ k, tX T N ≤ k → k < n → isB (X k)
theorem Tk1.c {X : Int → Int} {n : Int} {T U : TK} {i : Int} (h : Tk1 X n T i) (e1 : U i = T i) (e2 : U (i + 1) = T (i + 1)) : Tk1 X n U i := by
  unfold Tk1 tS tP tV tW tN tX at *
  rw [e1, e2]
  exact h
theorem TkE.c {X : Int → Int} {n : Int} {T U : TK} {i : Int} (h : TkE X n T i) (e1 : U i = T i) : TkE X n U i := by
  unfold TkE tS tP tX at *
  rw [e1]
  exact h
def tx (D : Nat → Nat → Int32) (k : Int) : Int := (D 317 k.toNat).toInt
/-- the model's tokens in memory, from j to N -/
def TM (T : TK) (j N : Int) (m : mm_M) : Prop := ∀ i, j ≤ i → i ≤ N → mm_gI m 318 i.toNat = iI (tS T i) ∧ mm_gI m 319 i.toNat = iI (tP T i) ∧ (i < N → mm_gL m 320 i.toNat = tV T i)
def scZt (a k : Nat) : Bool := Nat.beq a 318 || Nat.beq a 319 || Nat.beq a 320 || (Nat.beq a 316 && (Nat.beq k 7 || Nat.beq k 8))
section
variable {D : Nat → Nat → Int32} {E : Nat → Nat → Int64} {m m' m'' : mm_M} {d : Nat}
theorem MD_tx (h : MD D E m) {i : Int} : mm_gI m 317 i.toNat = iI (tx D i) := by
  rw [h.2.1 317 i.toNat (by unfold pmI; simp)]
  unfold tx
  rw [iI_toInt]
theorem tx_r (i : Int) : -2147483648 ≤ tx D i ∧ tx D i < 2147483648 := ⟨Int32.le_toInt _, Int32.toInt_lt _⟩
theorem scT_M {a k : Nat} (h : scM a k = false) : scZt a k = false := by
  cases e : scZt a k
  · rfl
  · unfold scZt at e
    simp only [Bool.or_eq_true, Bool.and_eq_true] at e
    exfalso
    rcases e with ((e | e) | e) | ⟨e, e'⟩
    · rw [Nat.eq_of_beq_eq_true e] at h; exact absurd h (by simp [scM, pmI, pmL])
    · rw [Nat.eq_of_beq_eq_true e] at h; exact absurd h (by simp [scM, pmI, pmL])
    · rw [Nat.eq_of_beq_eq_true e] at h; exact absurd h (by simp [scM, pmI, pmL])
    · rw [Nat.eq_of_beq_eq_true e] at h
      rcases e' with e' | e'
      · rw [Nat.eq_of_beq_eq_true e'] at h; exact absurd h (by decide)
      · rw [Nat.eq_of_beq_eq_true e'] at h; exact absurd h (by decide)
theorem Fr.TM (h : Fr scZt m m') : Fr scM m m' := h.mono (fun _ _ => scT_M)
/-- isLetter, isDigit, isSignOf, rank -/
theorem M165 {c : Int} (c_0 : -2147483648 ≤ c) (c_1 : c < 2147483648) : mm_ev d 165 0 [some (.int (iI (c)))] [] m = some (some (some (.int (iI (bI (decide (97 ≤ c) && decide (c ≤ 122)))))), m) := by
  rw [sg_165_0]
  by_cases z1 : c < 97
  · simp (disch := omega) only [↓reduceIte, not_false_eq_true, not_true_eq_false, and_self, and_true, true_and, false_and, and_false, or_true, true_or, or_false, false_or, or_self, reduceCtorEq, mm_q, Option.getD_some, cI_some, cJ_some, cV_some, cS_some, kd_sI, kd_sL, kd_sR, kd_cp, ln_sI, ln_sL, ln_sR, ln_cp, gR_sI, gR_sL, gR_sR, gR_cp, gL_sI, gL_sR, gL_cp, gI_sL, gI_sR, iI_add, iI_sub, iI_mul, iI_neg, iI_in, iI_tn, iI_lt, iI_eq, Nat.reduceLeDiff, Nat.reduceEqDiff, Nat.reduceAdd, Int.reduceEq, Int.reduceLT, Int.reduceLE, Int.reduceNeg, Int.reduceAdd, Int.reduceSub, Int.reduceMul, z1, show ¬ 97 ≤ c by omega, bI_t, bI_f, decide_true, decide_false, Bool.and_true, Bool.and_false, Bool.true_and, Bool.false_and, Bool.false_eq_true, Bool.and_self, Bool.not_true, Bool.not_false, Bool.true_or, Bool.false_or, Bool.or_true, Bool.or_false]
  · by_cases z2 : 122 < c
    · simp (disch := omega) only [↓reduceIte, not_false_eq_true, not_true_eq_false, and_self, and_true, true_and, false_and, and_false, or_true, true_or, or_false, false_or, or_self, reduceCtorEq, mm_q, Option.getD_some, cI_some, cJ_some, cV_some, cS_some, kd_sI, kd_sL, kd_sR, kd_cp, ln_sI, ln_sL, ln_sR, ln_cp, gR_sI, gR_sL, gR_sR, gR_cp, gL_sI, gL_sR, gL_cp, gI_sL, gI_sR, iI_add, iI_sub, iI_mul, iI_neg, iI_in, iI_tn, iI_lt, iI_eq, Nat.reduceLeDiff, Nat.reduceEqDiff, Nat.reduceAdd, Int.reduceEq, Int.reduceLT, Int.reduceLE, Int.reduceNeg, Int.reduceAdd, Int.reduceSub, Int.reduceMul, z1, z2, show 97 ≤ c by omega, show ¬ c ≤ 122 by omega, bI_t, bI_f, decide_true, decide_false, Bool.and_true, Bool.and_false, Bool.true_and, Bool.false_and, Bool.false_eq_true, Bool.and_self, Bool.not_true, Bool.not_false, Bool.true_or, Bool.false_or, Bool.or_true, Bool.or_false]
    · simp (disch := omega) only [↓reduceIte, not_false_eq_true, not_true_eq_false, and_self, and_true, true_and, false_and, and_false, or_true, true_or, or_false, false_or, or_self, reduceCtorEq, mm_q, Option.getD_some, cI_some, cJ_some, cV_some, cS_some, kd_sI, kd_sL, kd_sR, kd_cp, ln_sI, ln_sL, ln_sR, ln_cp, gR_sI, gR_sL, gR_sR, gR_cp, gL_sI, gL_sR, gL_cp, gI_sL, gI_sR, iI_add, iI_sub, iI_mul, iI_neg, iI_in, iI_tn, iI_lt, iI_eq, Nat.reduceLeDiff, Nat.reduceEqDiff, Nat.reduceAdd, Int.reduceEq, Int.reduceLT, Int.reduceLE, Int.reduceNeg, Int.reduceAdd, Int.reduceSub, Int.reduceMul, z1, z2, show 97 ≤ c by omega, show c ≤ 122 by omega, bI_t, bI_f, decide_true, decide_false, Bool.and_true, Bool.and_false, Bool.true_and, Bool.false_and, Bool.false_eq_true, Bool.and_self, Bool.not_true, Bool.not_false, Bool.true_or, Bool.false_or, Bool.or_true, Bool.or_false]
theorem M167 {c : Int} (c_0 : -2147483648 ≤ c) (c_1 : c < 2147483648) : mm_ev d 167 0 [some (.int (iI (c)))] [] m = some (some (some (.int (iI (bI (decide (48 ≤ c) && decide (c ≤ 57)))))), m) := by
  rw [sg_167_0]
  by_cases z1 : c < 48
  · simp (disch := omega) only [↓reduceIte, not_false_eq_true, not_true_eq_false, and_self, and_true, true_and, false_and, and_false, or_true, true_or, or_false, false_or, or_self, reduceCtorEq, mm_q, Option.getD_some, cI_some, cJ_some, cV_some, cS_some, kd_sI, kd_sL, kd_sR, kd_cp, ln_sI, ln_sL, ln_sR, ln_cp, gR_sI, gR_sL, gR_sR, gR_cp, gL_sI, gL_sR, gL_cp, gI_sL, gI_sR, iI_add, iI_sub, iI_mul, iI_neg, iI_in, iI_tn, iI_lt, iI_eq, Nat.reduceLeDiff, Nat.reduceEqDiff, Nat.reduceAdd, Int.reduceEq, Int.reduceLT, Int.reduceLE, Int.reduceNeg, Int.reduceAdd, Int.reduceSub, Int.reduceMul, z1, show ¬ 48 ≤ c by omega, bI_t, bI_f, decide_true, decide_false, Bool.and_true, Bool.and_false, Bool.true_and, Bool.false_and, Bool.false_eq_true, Bool.and_self, Bool.not_true, Bool.not_false, Bool.true_or, Bool.false_or, Bool.or_true, Bool.or_false]
  · by_cases z2 : 57 < c
    · simp (disch := omega) only [↓reduceIte, not_false_eq_true, not_true_eq_false, and_self, and_true, true_and, false_and, and_false, or_true, true_or, or_false, false_or, or_self, reduceCtorEq, mm_q, Option.getD_some, cI_some, cJ_some, cV_some, cS_some, kd_sI, kd_sL, kd_sR, kd_cp, ln_sI, ln_sL, ln_sR, ln_cp, gR_sI, gR_sL, gR_sR, gR_cp, gL_sI, gL_sR, gL_cp, gI_sL, gI_sR, iI_add, iI_sub, iI_mul, iI_neg, iI_in, iI_tn, iI_lt, iI_eq, Nat.reduceLeDiff, Nat.reduceEqDiff, Nat.reduceAdd, Int.reduceEq, Int.reduceLT, Int.reduceLE, Int.reduceNeg, Int.reduceAdd, Int.reduceSub, Int.reduceMul, z1, z2, show 48 ≤ c by omega, show ¬ c ≤ 57 by omega, bI_t, bI_f, decide_true, decide_false, Bool.and_true, Bool.and_false, Bool.true_and, Bool.false_and, Bool.false_eq_true, Bool.and_self, Bool.not_true, Bool.not_false, Bool.true_or, Bool.false_or, Bool.or_true, Bool.or_false]
    · simp (disch := omega) only [↓reduceIte, not_false_eq_true, not_true_eq_false, and_self, and_true, true_and, false_and, and_false, or_true, true_or, or_false, false_or, or_self, reduceCtorEq, mm_q, Option.getD_some, cI_some, cJ_some, cV_some, cS_some, kd_sI, kd_sL, kd_sR, kd_cp, ln_sI, ln_sL, ln_sR, ln_cp, gR_sI, gR_sL, gR_sR, gR_cp, gL_sI, gL_sR, gL_cp, gI_sL, gI_sR, iI_add, iI_sub, iI_mul, iI_neg, iI_in, iI_tn, iI_lt, iI_eq, Nat.reduceLeDiff, Nat.reduceEqDiff, Nat.reduceAdd, Int.reduceEq, Int.reduceLT, Int.reduceLE, Int.reduceNeg, Int.reduceAdd, Int.reduceSub, Int.reduceMul, z1, z2, show 48 ≤ c by omega, show c ≤ 57 by omega, bI_t, bI_f, decide_true, decide_false, Bool.and_true, Bool.and_false, Bool.true_and, Bool.false_and, Bool.false_eq_true, Bool.and_self, Bool.not_true, Bool.not_false, Bool.true_or, Bool.false_or, Bool.or_true, Bool.or_false]
theorem dL (c : Int) : (decide (97 ≤ c) && decide (c ≤ 122)) = true ↔ isL c := by
  unfold isL; simp
theorem dG (c : Int) : (decide (48 ≤ c) && decide (c ≤ 57)) = true ↔ isG c := by
  unfold isG; simp
theorem M165t {c : Int} (h : isL c) : mm_ev d 165 0 [some (.int (iI (c)))] [] m = some (some (some (.int (iI 1))), m) := by
  have h' := h
  unfold isL at h'
  rw [M165 (by omega) (by omega), (dL c).mpr h]
  rfl
theorem M165f {c : Int} (c_0 : -2147483648 ≤ c) (c_1 : c < 2147483648) (h : ¬ isL c) : mm_ev d 165 0 [some (.int (iI (c)))] [] m = some (some (some (.int (iI 0))), m) := by
  rw [M165 c_0 c_1, Bool.eq_false_iff.mpr (fun z => h ((dL c).mp z))]
  rfl
theorem M167t {c : Int} (h : isG c) : mm_ev d 167 0 [some (.int (iI (c)))] [] m = some (some (some (.int (iI 1))), m) := by
  have h' := h
  unfold isG at h'
  rw [M167 (by omega) (by omega), (dG c).mpr h]
  rfl
theorem M167f {c : Int} (c_0 : -2147483648 ≤ c) (c_1 : c < 2147483648) (h : ¬ isG c) : mm_ev d 167 0 [some (.int (iI (c)))] [] m = some (some (some (.int (iI 0))), m) := by
  rw [M167 c_0 c_1, Bool.eq_false_iff.mpr (fun z => h ((dG c).mp z))]
  rfl
theorem M168t {c : Int} (h : sgn c) : mm_ev d 168 0 [some (.int (iI (c)))] [] m = some (some (some (.int (iI 1))), m) := by
  rw [sg_168_0]
  rcases h with rfl | rfl | rfl | rfl | rfl | rfl | rfl | rfl <;> simp (disch := omega) only [↓reduceIte, not_false_eq_true, not_true_eq_false, and_self, and_true, true_and, false_and, and_false, or_true, true_or, or_false, false_or, or_self, reduceCtorEq, mm_q, Option.getD_some, cI_some, cJ_some, cV_some, cS_some, kd_sI, kd_sL, kd_sR, kd_cp, ln_sI, ln_sL, ln_sR, ln_cp, gR_sI, gR_sL, gR_sR, gR_cp, gL_sI, gL_sR, gL_cp, gI_sL, gI_sR, iI_add, iI_sub, iI_mul, iI_neg, iI_in, iI_tn, iI_lt, iI_eq, Nat.reduceLeDiff, Nat.reduceEqDiff, Nat.reduceAdd, Int.reduceEq, Int.reduceLT, Int.reduceLE, Int.reduceNeg, Int.reduceAdd, Int.reduceSub, Int.reduceMul]
theorem M168f {c : Int} (c_0 : -2147483648 ≤ c) (c_1 : c < 2147483648) (h : ¬ sgn c) : mm_ev d 168 0 [some (.int (iI (c)))] [] m = some (some (some (.int (iI 0))), m) := by
  unfold sgn at h
  rw [sg_168_0]
  simp (disch := omega) only [↓reduceIte, not_false_eq_true, not_true_eq_false, and_self, and_true, true_and, false_and, and_false, or_true, true_or, or_false, false_or, or_self, reduceCtorEq, mm_q, Option.getD_some, cI_some, cJ_some, cV_some, cS_some, kd_sI, kd_sL, kd_sR, kd_cp, ln_sI, ln_sL, ln_sR, ln_cp, gR_sI, gR_sL, gR_sR, gR_cp, gL_sI, gL_sR, gL_cp, gI_sL, gI_sR, iI_add, iI_sub, iI_mul, iI_neg, iI_in, iI_tn, iI_lt, iI_eq, Nat.reduceLeDiff, Nat.reduceEqDiff, Nat.reduceAdd, Int.reduceEq, Int.reduceLT, Int.reduceLE, Int.reduceNeg, Int.reduceAdd, Int.reduceSub, Int.reduceMul, show ¬ c = 40 by omega, show ¬ c = 41 by omega, show ¬ c = 59 by omega, show ¬ c = 61 by omega, show ¬ c = 60 by omega, show ¬ c = 43 by omega, show ¬ c = 45 by omega, show ¬ c = 42 by omega]
theorem M166 (hd : 1 ≤ d) {c : Int} (h : isL c) : mm_ev d 166 0 [some (.int (iI (c)))] [] m = some (some (some (.int (iI (c - 96)))), m) := by
  rw [sg_166_0 (by omega), M165t h]
  simp (disch := omega) only [↓reduceIte, not_false_eq_true, not_true_eq_false, and_self, and_true, true_and, false_and, and_false, or_true, true_or, or_false, false_or, or_self, reduceCtorEq, mm_q, Option.getD_some, cI_some, cJ_some, cV_some, cS_some, kd_sI, kd_sL, kd_sR, kd_cp, ln_sI, ln_sL, ln_sR, ln_cp, gR_sI, gR_sL, gR_sR, gR_cp, gL_sI, gL_sR, gL_cp, gI_sL, gI_sR, iI_add, iI_sub, iI_mul, iI_neg, iI_in, iI_tn, iI_lt, iI_eq, Nat.reduceLeDiff, Nat.reduceEqDiff, Nat.reduceAdd, Int.reduceEq, Int.reduceLT, Int.reduceLE, Int.reduceNeg, Int.reduceAdd, Int.reduceSub, Int.reduceMul]
/-- the letters of a word -/
theorem M164W (h : MD D E m) (hd : 3 ≤ d) {n j p : Int} {z3 : Int32} (hn : mm_gI m 316 3 = iI n) (n1 : n ≤ 1000) (p0 : 0 ≤ p) : ∀ (r : Nat) (k : Int), n - k ≤ r → p ≤ k → k ≤ n → (∀ q, p ≤ q → q < k → isL (tx D q)) → ∃ e, mm_ev d 164 70 [some (.ref 316), some (.int (iI (j))), some (.int (iI (k))), some (.int z3), some (.int (iI (p))), some (.long (lI (wv 37 (tx D) p (min (k - p) 8).toNat))), none] [] m = mm_ev d 164 129 [some (.ref 316), some (.int (iI (j))), some (.int (iI (e))), some (.int z3), some (.int (iI (p))), some (.long (lI (wv 37 (tx D) p (min (e - p) 8).toNat))), none] [] m ∧ k ≤ e ∧ e ≤ n ∧ (∀ q, p ≤ q → q < e → isL (tx D q)) ∧ (e < n → ¬ isL (tx D e))
  | 0, k, hr, hk0, hk1, hl => by
    refine ⟨k, ?_, by omega, by omega, hl, by omega⟩
    rw [sg_164_70 (by omega)]
    simp (disch := omega) only [shM h.1, ↓reduceIte, not_false_eq_true, not_true_eq_false, and_self, and_true, true_and, false_and, and_false, or_true, true_or, or_false, false_or, or_self, reduceCtorEq, mm_q, Option.getD_some, cI_some, cJ_some, cV_some, cS_some, kd_sI, kd_sL, kd_sR, kd_cp, ln_sI, ln_sL, ln_sR, ln_cp, gR_sI, gR_sL, gR_sR, gR_cp, gL_sI, gL_sR, gL_cp, gI_sL, gI_sR, iI_add, iI_sub, iI_mul, iI_neg, iI_in, iI_tn, iI_lt, iI_eq, Nat.reduceLeDiff, Nat.reduceEqDiff, Nat.reduceAdd, Int.reduceEq, Int.reduceLT, Int.reduceLE, Int.reduceNeg, Int.reduceAdd, Int.reduceSub, Int.reduceMul, hn, show ¬ k < n by omega]
  | r + 1, k, hr, hk0, hk1, hl => by
    obtain ⟨x0, x1⟩ := tx_r (D := D) k
    by_cases z1 : k < n
    · by_cases z2 : isL (tx D k)
      · obtain ⟨e, e1, a1, a2, a3, a4⟩ := M164W h hd hn n1 p0 r (k + 1) (by omega) (by omega) (by omega) (fun q q0 q1 => by
          by_cases y : q = k
          · rw [y]; exact z2
          · exact hl q q0 (by omega))
        refine ⟨e, ?_, by omega, a2, a3, a4⟩
        rw [← e1, sg_164_70 (by omega)]
        simp (disch := omega) only [shM h.1, ↓reduceIte, not_false_eq_true, not_true_eq_false, and_self, and_true, true_and, false_and, and_false, or_true, true_or, or_false, false_or, or_self, reduceCtorEq, mm_q, Option.getD_some, cI_some, cJ_some, cV_some, cS_some, kd_sI, kd_sL, kd_sR, kd_cp, ln_sI, ln_sL, ln_sR, ln_cp, gR_sI, gR_sL, gR_sR, gR_cp, gL_sI, gL_sR, gL_cp, gI_sL, gI_sR, iI_add, iI_sub, iI_mul, iI_neg, iI_in, iI_tn, iI_lt, iI_eq, Nat.reduceLeDiff, Nat.reduceEqDiff, Nat.reduceAdd, Int.reduceEq, Int.reduceLT, Int.reduceLE, Int.reduceNeg, Int.reduceAdd, Int.reduceSub, Int.reduceMul, hn, z1, MD_tx h, M165t z2]
        rw [sg_164_87 (by omega)]
        by_cases z3 : k - p < 8
        · simp (disch := omega) only [shM h.1, ↓reduceIte, not_false_eq_true, not_true_eq_false, and_self, and_true, true_and, false_and, and_false, or_true, true_or, or_false, false_or, or_self, reduceCtorEq, mm_q, Option.getD_some, cI_some, cJ_some, cV_some, cS_some, kd_sI, kd_sL, kd_sR, kd_cp, ln_sI, ln_sL, ln_sR, ln_cp, gR_sI, gR_sL, gR_sR, gR_cp, gL_sI, gL_sR, gL_cp, gI_sL, gI_sR, iI_add, iI_sub, iI_mul, iI_neg, iI_in, iI_tn, iI_lt, iI_eq, Nat.reduceLeDiff, Nat.reduceEqDiff, Nat.reduceAdd, Int.reduceEq, Int.reduceLT, Int.reduceLE, Int.reduceNeg, Int.reduceAdd, Int.reduceSub, Int.reduceMul, z3, MD_tx h, M166 (d := d - 1) (by omega) z2, iI_l (show -2147483648 ≤ tx D k - 96 by unfold isL at z2; omega) (by omega), lI_mul, lI_add]
          rw [sg_164_121]
          simp (disch := omega) only [↓reduceIte, not_false_eq_true, not_true_eq_false, and_self, and_true, true_and, false_and, and_false, or_true, true_or, or_false, false_or, or_self, reduceCtorEq, mm_q, Option.getD_some, cI_some, cJ_some, cV_some, cS_some, kd_sI, kd_sL, kd_sR, kd_cp, ln_sI, ln_sL, ln_sR, ln_cp, gR_sI, gR_sL, gR_sR, gR_cp, gL_sI, gL_sR, gL_cp, gI_sL, gI_sR, iI_add, iI_sub, iI_mul, iI_neg, iI_in, iI_tn, iI_lt, iI_eq, Nat.reduceLeDiff, Nat.reduceEqDiff, Nat.reduceAdd, Int.reduceEq, Int.reduceLT, Int.reduceLE, Int.reduceNeg, Int.reduceAdd, Int.reduceSub, Int.reduceMul]
          rw [show (min (k + 1 - p) 8).toNat = (min (k - p) 8).toNat + 1 by omega, wv_s]
          rw [show p + (((min (k - p) 8).toNat : Nat) : Int) = k by omega]
        · simp (disch := omega) only [shM h.1, ↓reduceIte, not_false_eq_true, not_true_eq_false, and_self, and_true, true_and, false_and, and_false, or_true, true_or, or_false, false_or, or_self, reduceCtorEq, mm_q, Option.getD_some, cI_some, cJ_some, cV_some, cS_some, kd_sI, kd_sL, kd_sR, kd_cp, ln_sI, ln_sL, ln_sR, ln_cp, gR_sI, gR_sL, gR_sR, gR_cp, gL_sI, gL_sR, gL_cp, gI_sL, gI_sR, iI_add, iI_sub, iI_mul, iI_neg, iI_in, iI_tn, iI_lt, iI_eq, Nat.reduceLeDiff, Nat.reduceEqDiff, Nat.reduceAdd, Int.reduceEq, Int.reduceLT, Int.reduceLE, Int.reduceNeg, Int.reduceAdd, Int.reduceSub, Int.reduceMul, z3]
          rw [sg_164_121]
          simp (disch := omega) only [↓reduceIte, not_false_eq_true, not_true_eq_false, and_self, and_true, true_and, false_and, and_false, or_true, true_or, or_false, false_or, or_self, reduceCtorEq, mm_q, Option.getD_some, cI_some, cJ_some, cV_some, cS_some, kd_sI, kd_sL, kd_sR, kd_cp, ln_sI, ln_sL, ln_sR, ln_cp, gR_sI, gR_sL, gR_sR, gR_cp, gL_sI, gL_sR, gL_cp, gI_sL, gI_sR, iI_add, iI_sub, iI_mul, iI_neg, iI_in, iI_tn, iI_lt, iI_eq, Nat.reduceLeDiff, Nat.reduceEqDiff, Nat.reduceAdd, Int.reduceEq, Int.reduceLT, Int.reduceLE, Int.reduceNeg, Int.reduceAdd, Int.reduceSub, Int.reduceMul]
          rw [show (min (k + 1 - p) 8).toNat = (min (k - p) 8).toNat by omega]
      · refine ⟨k, ?_, by omega, by omega, hl, fun _ => z2⟩
        rw [sg_164_70 (by omega)]
        simp (disch := omega) only [shM h.1, ↓reduceIte, not_false_eq_true, not_true_eq_false, and_self, and_true, true_and, false_and, and_false, or_true, true_or, or_false, false_or, or_self, reduceCtorEq, mm_q, Option.getD_some, cI_some, cJ_some, cV_some, cS_some, kd_sI, kd_sL, kd_sR, kd_cp, ln_sI, ln_sL, ln_sR, ln_cp, gR_sI, gR_sL, gR_sR, gR_cp, gL_sI, gL_sR, gL_cp, gI_sL, gI_sR, iI_add, iI_sub, iI_mul, iI_neg, iI_in, iI_tn, iI_lt, iI_eq, Nat.reduceLeDiff, Nat.reduceEqDiff, Nat.reduceAdd, Int.reduceEq, Int.reduceLT, Int.reduceLE, Int.reduceNeg, Int.reduceAdd, Int.reduceSub, Int.reduceMul, hn, z1, MD_tx h, M165f x0 x1 z2]
        rw [sg_164_87 (by omega)]
        simp (disch := omega) only [↓reduceIte, not_false_eq_true, not_true_eq_false, and_self, and_true, true_and, false_and, and_false, or_true, true_or, or_false, false_or, or_self, reduceCtorEq, mm_q, Option.getD_some, cI_some, cJ_some, cV_some, cS_some, kd_sI, kd_sL, kd_sR, kd_cp, ln_sI, ln_sL, ln_sR, ln_cp, gR_sI, gR_sL, gR_sR, gR_cp, gL_sI, gL_sR, gL_cp, gI_sL, gI_sR, iI_add, iI_sub, iI_mul, iI_neg, iI_in, iI_tn, iI_lt, iI_eq, Nat.reduceLeDiff, Nat.reduceEqDiff, Nat.reduceAdd, Int.reduceEq, Int.reduceLT, Int.reduceLE, Int.reduceNeg, Int.reduceAdd, Int.reduceSub, Int.reduceMul]
    · refine ⟨k, ?_, by omega, by omega, hl, by omega⟩
      rw [sg_164_70 (by omega)]
      simp (disch := omega) only [shM h.1, ↓reduceIte, not_false_eq_true, not_true_eq_false, and_self, and_true, true_and, false_and, and_false, or_true, true_or, or_false, false_or, or_self, reduceCtorEq, mm_q, Option.getD_some, cI_some, cJ_some, cV_some, cS_some, kd_sI, kd_sL, kd_sR, kd_cp, ln_sI, ln_sL, ln_sR, ln_cp, gR_sI, gR_sL, gR_sR, gR_cp, gL_sI, gL_sR, gL_cp, gI_sL, gI_sR, iI_add, iI_sub, iI_mul, iI_neg, iI_in, iI_tn, iI_lt, iI_eq, Nat.reduceLeDiff, Nat.reduceEqDiff, Nat.reduceAdd, Int.reduceEq, Int.reduceLT, Int.reduceLE, Int.reduceNeg, Int.reduceAdd, Int.reduceSub, Int.reduceMul, hn, z1]
/-- the digits of a number -/
theorem M164D (h : MD D E m) (hd : 3 ≤ d) {n j p : Int} {z3 : Int32} (hn : mm_gI m 316 3 = iI n) (n1 : n ≤ 1000) (p0 : 0 ≤ p) : ∀ (r : Nat) (k : Int), n - k ≤ r → p ≤ k → k ≤ n → (∀ q, p ≤ q → q < k → isG (tx D q)) → ∃ e, mm_ev d 164 159 [some (.ref 316), some (.int (iI (j))), some (.int (iI (k))), some (.int z3), some (.int (iI (p))), some (.long (lI (nv (tx D) p (min (k - p) 4).toNat))), none] [] m = mm_ev d 164 218 [some (.ref 316), some (.int (iI (j))), some (.int (iI (e))), some (.int z3), some (.int (iI (p))), some (.long (lI (nv (tx D) p (min (e - p) 4).toNat))), none] [] m ∧ k ≤ e ∧ e ≤ n ∧ (∀ q, p ≤ q → q < e → isG (tx D q)) ∧ (e < n → ¬ isG (tx D e))
  | 0, k, hr, hk0, hk1, hl => by
    refine ⟨k, ?_, by omega, by omega, hl, by omega⟩
    rw [sg_164_159 (by omega)]
    simp (disch := omega) only [shM h.1, ↓reduceIte, not_false_eq_true, not_true_eq_false, and_self, and_true, true_and, false_and, and_false, or_true, true_or, or_false, false_or, or_self, reduceCtorEq, mm_q, Option.getD_some, cI_some, cJ_some, cV_some, cS_some, kd_sI, kd_sL, kd_sR, kd_cp, ln_sI, ln_sL, ln_sR, ln_cp, gR_sI, gR_sL, gR_sR, gR_cp, gL_sI, gL_sR, gL_cp, gI_sL, gI_sR, iI_add, iI_sub, iI_mul, iI_neg, iI_in, iI_tn, iI_lt, iI_eq, Nat.reduceLeDiff, Nat.reduceEqDiff, Nat.reduceAdd, Int.reduceEq, Int.reduceLT, Int.reduceLE, Int.reduceNeg, Int.reduceAdd, Int.reduceSub, Int.reduceMul, hn, show ¬ k < n by omega]
  | r + 1, k, hr, hk0, hk1, hl => by
    obtain ⟨x0, x1⟩ := tx_r (D := D) k
    by_cases z1 : k < n
    · by_cases z2 : isG (tx D k)
      · obtain ⟨e, e1, a1, a2, a3, a4⟩ := M164D h hd hn n1 p0 r (k + 1) (by omega) (by omega) (by omega) (fun q q0 q1 => by
          by_cases y : q = k
          · rw [y]; exact z2
          · exact hl q q0 (by omega))
        refine ⟨e, ?_, by omega, a2, a3, a4⟩
        rw [← e1, sg_164_159 (by omega)]
        simp (disch := omega) only [shM h.1, ↓reduceIte, not_false_eq_true, not_true_eq_false, and_self, and_true, true_and, false_and, and_false, or_true, true_or, or_false, false_or, or_self, reduceCtorEq, mm_q, Option.getD_some, cI_some, cJ_some, cV_some, cS_some, kd_sI, kd_sL, kd_sR, kd_cp, ln_sI, ln_sL, ln_sR, ln_cp, gR_sI, gR_sL, gR_sR, gR_cp, gL_sI, gL_sR, gL_cp, gI_sL, gI_sR, iI_add, iI_sub, iI_mul, iI_neg, iI_in, iI_tn, iI_lt, iI_eq, Nat.reduceLeDiff, Nat.reduceEqDiff, Nat.reduceAdd, Int.reduceEq, Int.reduceLT, Int.reduceLE, Int.reduceNeg, Int.reduceAdd, Int.reduceSub, Int.reduceMul, hn, z1, MD_tx h, M167t z2]
        rw [sg_164_176]
        by_cases z3 : k - p < 4
        · simp (disch := omega) only [shM h.1, ↓reduceIte, not_false_eq_true, not_true_eq_false, and_self, and_true, true_and, false_and, and_false, or_true, true_or, or_false, false_or, or_self, reduceCtorEq, mm_q, Option.getD_some, cI_some, cJ_some, cV_some, cS_some, kd_sI, kd_sL, kd_sR, kd_cp, ln_sI, ln_sL, ln_sR, ln_cp, gR_sI, gR_sL, gR_sR, gR_cp, gL_sI, gL_sR, gL_cp, gI_sL, gI_sR, iI_add, iI_sub, iI_mul, iI_neg, iI_in, iI_tn, iI_lt, iI_eq, Nat.reduceLeDiff, Nat.reduceEqDiff, Nat.reduceAdd, Int.reduceEq, Int.reduceLT, Int.reduceLE, Int.reduceNeg, Int.reduceAdd, Int.reduceSub, Int.reduceMul, z3, MD_tx h, iI_l x0 x1, lI_mul, lI_add, lI_sub]
          rw [sg_164_210]
          simp (disch := omega) only [↓reduceIte, not_false_eq_true, not_true_eq_false, and_self, and_true, true_and, false_and, and_false, or_true, true_or, or_false, false_or, or_self, reduceCtorEq, mm_q, Option.getD_some, cI_some, cJ_some, cV_some, cS_some, kd_sI, kd_sL, kd_sR, kd_cp, ln_sI, ln_sL, ln_sR, ln_cp, gR_sI, gR_sL, gR_sR, gR_cp, gL_sI, gL_sR, gL_cp, gI_sL, gI_sR, iI_add, iI_sub, iI_mul, iI_neg, iI_in, iI_tn, iI_lt, iI_eq, Nat.reduceLeDiff, Nat.reduceEqDiff, Nat.reduceAdd, Int.reduceEq, Int.reduceLT, Int.reduceLE, Int.reduceNeg, Int.reduceAdd, Int.reduceSub, Int.reduceMul]
          rw [show (min (k + 1 - p) 4).toNat = (min (k - p) 4).toNat + 1 by omega, nv_s]
          rw [show p + (((min (k - p) 4).toNat : Nat) : Int) = k by omega, Int.add_sub_assoc]
        · simp (disch := omega) only [shM h.1, ↓reduceIte, not_false_eq_true, not_true_eq_false, and_self, and_true, true_and, false_and, and_false, or_true, true_or, or_false, false_or, or_self, reduceCtorEq, mm_q, Option.getD_some, cI_some, cJ_some, cV_some, cS_some, kd_sI, kd_sL, kd_sR, kd_cp, ln_sI, ln_sL, ln_sR, ln_cp, gR_sI, gR_sL, gR_sR, gR_cp, gL_sI, gL_sR, gL_cp, gI_sL, gI_sR, iI_add, iI_sub, iI_mul, iI_neg, iI_in, iI_tn, iI_lt, iI_eq, Nat.reduceLeDiff, Nat.reduceEqDiff, Nat.reduceAdd, Int.reduceEq, Int.reduceLT, Int.reduceLE, Int.reduceNeg, Int.reduceAdd, Int.reduceSub, Int.reduceMul, z3]
          rw [sg_164_210]
          simp (disch := omega) only [↓reduceIte, not_false_eq_true, not_true_eq_false, and_self, and_true, true_and, false_and, and_false, or_true, true_or, or_false, false_or, or_self, reduceCtorEq, mm_q, Option.getD_some, cI_some, cJ_some, cV_some, cS_some, kd_sI, kd_sL, kd_sR, kd_cp, ln_sI, ln_sL, ln_sR, ln_cp, gR_sI, gR_sL, gR_sR, gR_cp, gL_sI, gL_sR, gL_cp, gI_sL, gI_sR, iI_add, iI_sub, iI_mul, iI_neg, iI_in, iI_tn, iI_lt, iI_eq, Nat.reduceLeDiff, Nat.reduceEqDiff, Nat.reduceAdd, Int.reduceEq, Int.reduceLT, Int.reduceLE, Int.reduceNeg, Int.reduceAdd, Int.reduceSub, Int.reduceMul]
          rw [show (min (k + 1 - p) 4).toNat = (min (k - p) 4).toNat by omega]
      · refine ⟨k, ?_, by omega, by omega, hl, fun _ => z2⟩
        rw [sg_164_159 (by omega)]
        simp (disch := omega) only [shM h.1, ↓reduceIte, not_false_eq_true, not_true_eq_false, and_self, and_true, true_and, false_and, and_false, or_true, true_or, or_false, false_or, or_self, reduceCtorEq, mm_q, Option.getD_some, cI_some, cJ_some, cV_some, cS_some, kd_sI, kd_sL, kd_sR, kd_cp, ln_sI, ln_sL, ln_sR, ln_cp, gR_sI, gR_sL, gR_sR, gR_cp, gL_sI, gL_sR, gL_cp, gI_sL, gI_sR, iI_add, iI_sub, iI_mul, iI_neg, iI_in, iI_tn, iI_lt, iI_eq, Nat.reduceLeDiff, Nat.reduceEqDiff, Nat.reduceAdd, Int.reduceEq, Int.reduceLT, Int.reduceLE, Int.reduceNeg, Int.reduceAdd, Int.reduceSub, Int.reduceMul, hn, z1, MD_tx h, M167f x0 x1 z2]
        rw [sg_164_176]
        simp (disch := omega) only [↓reduceIte, not_false_eq_true, not_true_eq_false, and_self, and_true, true_and, false_and, and_false, or_true, true_or, or_false, false_or, or_self, reduceCtorEq, mm_q, Option.getD_some, cI_some, cJ_some, cV_some, cS_some, kd_sI, kd_sL, kd_sR, kd_cp, ln_sI, ln_sL, ln_sR, ln_cp, gR_sI, gR_sL, gR_sR, gR_cp, gL_sI, gL_sR, gL_cp, gI_sL, gI_sR, iI_add, iI_sub, iI_mul, iI_neg, iI_in, iI_tn, iI_lt, iI_eq, Nat.reduceLeDiff, Nat.reduceEqDiff, Nat.reduceAdd, Int.reduceEq, Int.reduceLT, Int.reduceLE, Int.reduceNeg, Int.reduceAdd, Int.reduceSub, Int.reduceMul]
    · refine ⟨k, ?_, by omega, by omega, hl, by omega⟩
      rw [sg_164_159 (by omega)]
      simp (disch := omega) only [shM h.1, ↓reduceIte, not_false_eq_true, not_true_eq_false, and_self, and_true, true_and, false_and, and_false, or_true, true_or, or_false, false_or, or_self, reduceCtorEq, mm_q, Option.getD_some, cI_some, cJ_some, cV_some, cS_some, kd_sI, kd_sL, kd_sR, kd_cp, ln_sI, ln_sL, ln_sR, ln_cp, gR_sI, gR_sL, gR_sR, gR_cp, gL_sI, gL_sR, gL_cp, gI_sL, gI_sR, iI_add, iI_sub, iI_mul, iI_neg, iI_in, iI_tn, iI_lt, iI_eq, Nat.reduceLeDiff, Nat.reduceEqDiff, Nat.reduceAdd, Int.reduceEq, Int.reduceLT, Int.reduceLE, Int.reduceNeg, Int.reduceAdd, Int.reduceSub, Int.reduceMul, hn, z1]
theorem Fr.s318 {a k : Nat} {v : Int32} (h : a = 318 ∨ a = 319) : Fr scZt m (mm_sI m a k v) := Fr.sI (by rcases h with rfl | rfl <;> rfl)
/-- cutAll, a token laid -/
theorem M164T (h : MD D E m) {n j e p : Int} {z3 : Int32} {v : Int64} {s : Int} (j0 : 0 ≤ j) (j1 : j ≤ 1000) : ∃ m1, mm_ev d 164 265 [some (.ref 316), some (.int (iI (j))), some (.int (iI (e))), some (.int z3), some (.int (iI (p))), some (.long v), none] [] (mm_sI (mm_sI m 319 j.toNat (iI p)) 318 j.toNat (iI s)) = mm_ev d 164 17 [some (.ref 316), some (.int (iI (j + 1))), some (.int (iI (e))), some (.int z3), some (.int (iI (p))), some (.long v), none] [] m1 ∧ Fr scZt m m1 ∧ mm_gI m1 318 j.toNat = iI s ∧ mm_gI m1 319 j.toNat = iI p ∧ mm_gL m1 320 j.toNat = v ∧ (∀ i, ¬ i = j.toNat → mm_gI m1 318 i = mm_gI m 318 i ∧ mm_gI m1 319 i = mm_gI m 319 i ∧ mm_gL m1 320 i = mm_gL m 320 i) := by
  refine ⟨mm_sL (mm_sI (mm_sI m 319 j.toNat (iI p)) 318 j.toNat (iI s)) 320 j.toNat v, ?_, ((Fr.s318 (Or.inr rfl)).tr (Fr.s318 (Or.inl rfl))).tr (Fr.sL rfl), ?_, ?_, ?_, ?_⟩
  · rw [sg_164_265]
    simp (disch := omega) only [shM h.1, ↓reduceIte, not_false_eq_true, not_true_eq_false, and_self, and_true, true_and, false_and, and_false, or_true, true_or, or_false, false_or, or_self, reduceCtorEq, mm_q, Option.getD_some, cI_some, cJ_some, cV_some, cS_some, kd_sI, kd_sL, kd_sR, kd_cp, ln_sI, ln_sL, ln_sR, ln_cp, gR_sI, gR_sL, gR_sR, gR_cp, gL_sI, gL_sR, gL_cp, gI_sL, gI_sR, iI_add, iI_sub, iI_mul, iI_neg, iI_in, iI_tn, iI_lt, iI_eq, Nat.reduceLeDiff, Nat.reduceEqDiff, Nat.reduceAdd, Int.reduceEq, Int.reduceLT, Int.reduceLE, Int.reduceNeg, Int.reduceAdd, Int.reduceSub, Int.reduceMul]
  · simp [gI_sL, gI_sI]
  · simp [gI_sL, gI_sI]
  · simp [gL_sL]
  · intro i hi
    simp [gI_sL, gI_sI, gL_sL, gL_sI, hi]
/-- the tokens that come of one more and the rest -/
def tkC (j so pl : Int) (va wc : Int64) (nu p : Int) (U : TK) : TK := fun i => if i = j then (so, pl, va, wc, nu, p) else U i
theorem tkC_j {j so pl : Int} {va wc : Int64} {nu p : Int} {U : TK} : tkC j so pl va wc nu p U j = (so, pl, va, wc, nu, p) := if_pos rfl
theorem tkC_n {j so pl i : Int} {va wc : Int64} {nu p : Int} {U : TK} (h : ¬ i = j) : tkC j so pl va wc nu p U i = U i := if_neg h
/-- what cutAll comes to -/
def CutR (D : Nat → Nat → Int32) (n j p : Int) (m m' : mm_M) : Prop := ∃ (T : TK) (N : Int), (j ≤ N ∧ N ≤ n) ∧ tX T j = p ∧ (∀ i, j ≤ i → i < N → Tk1 (tx D) n T i) ∧ TkE (tx D) n T N ∧ TM T j N m' ∧ (∀ i, i < j.toNat → mm_gI m' 318 i = mm_gI m 318 i ∧ mm_gI m' 319 i = mm_gI m 319 i ∧ mm_gL m' 320 i = mm_gL m 320 i) ∧ Fr scZt m m' ∧ mm_gI m' 316 7 = iI 0 ∧ mm_gI m' 316 8 = iI 0
theorem CutR.cons {n j p so pl e nu : Int} {va wc : Int64} (h : CutR D n (j + 1) e m m') (j0 : 0 ≤ j) (f : Fr scZt m'' m) (g1 : mm_gI m 318 j.toNat = iI so) (g2 : mm_gI m 319 j.toNat = iI pl) (g3 : mm_gL m 320 j.toNat = va) (g4 : ∀ i, ¬ i = j.toNat → mm_gI m 318 i = mm_gI m'' 318 i ∧ mm_gI m 319 i = mm_gI m'' 319 i ∧ mm_gL m 320 i = mm_gL m'' 320 i) (hk : ∀ T : TK, tX T (j + 1) = e → T j = (so, pl, va, wc, nu, p) → Tk1 (tx D) n T j) : CutR D n j p m'' m' := by
  obtain ⟨U, N, ⟨a1, a2⟩, b, c, t, q, r, f', u, v⟩ := h
  refine ⟨tkC j so pl va wc nu p U, N, ⟨by omega, a2⟩, ?_, ?_, ?_, ?_, ?_, f.tr f', u, v⟩
  · unfold tX
    rw [tkC_j]
  · intro i i0 i1
    by_cases y : i = j
    · subst y
      refine hk _ ?_ tkC_j
      unfold tX at b ⊢
      rw [tkC_n (by omega)]
      exact b
    · exact (c i (by omega) i1).c (tkC_n y) (tkC_n (by omega))
  · exact t.c (tkC_n (by omega))
  · intro i i0 i1
    by_cases y : i = j
    · subst y
      unfold tS tP tV
      rw [tkC_j]
      obtain ⟨w1, w2, w3⟩ := r i.toNat (by omega)
      exact ⟨w1.trans g1, w2.trans g2, fun _ => w3.trans g3⟩
    · have := q i (by omega) i1
      unfold tS tP tV at this ⊢
      rw [tkC_n y]
      exact this
  · intro i hi
    obtain ⟨w1, w2, w3⟩ := r i (by omega)
    obtain ⟨y1, y2, y3⟩ := g4 i (by omega)
    exact ⟨w1.trans y1, w2.trans y2, w3.trans y3⟩
/-- cutAll's loop -/
theorem M164L (hd : 3 ≤ d) {n : Int} (n1 : n ≤ 1000) : ∀ (r : Nat) (j k p : Int) (z3 z4 z5 : Option Value) (m : mm_M), n - k ≤ r → 0 ≤ j → j ≤ p → p ≤ k → k ≤ n → (∀ q, p ≤ q → q < k → isB (tx D q)) → MD D E m → mm_gI m 316 3 = iI n → ∃ m', mm_ev d 164 17 [some (.ref 316), some (.int (iI (j))), some (.int (iI (k))), z3, z4, z5, none] [] m = some (some none, m') ∧ CutR D n j p m m'
  | r, j, k, p, z3, z4, z5, m, hr, j0, jp, pk, kn, hb, h, hn => by
    obtain ⟨x0, x1⟩ := tx_r (D := D) k
    by_cases z1 : k < n
    · match r with
      | 0 => omega
      | r + 1 =>
        by_cases z2 : isB (tx D k)
        · obtain ⟨m', e1, c1⟩ := M164L hd n1 r j (k + 1) p (some (.int (iI (tx D k)))) z4 z5 m (by omega) j0 jp (by omega) (by omega) (fun q q0 q1 => by
            by_cases y : q = k
            · rw [y]; exact z2
            · exact hb q q0 (by omega)) h hn
          refine ⟨m', ?_, c1⟩
          rw [sg_164_17 (by omega)]
          rcases z2 with z2 | z2
          · rw [z2] at e1
            simp (disch := omega) only [shM h.1, ↓reduceIte, not_false_eq_true, not_true_eq_false, and_self, and_true, true_and, false_and, and_false, or_true, true_or, or_false, false_or, or_self, reduceCtorEq, mm_q, Option.getD_some, cI_some, cJ_some, cV_some, cS_some, kd_sI, kd_sL, kd_sR, kd_cp, ln_sI, ln_sL, ln_sR, ln_cp, gR_sI, gR_sL, gR_sR, gR_cp, gL_sI, gL_sR, gL_cp, gI_sL, gI_sR, iI_add, iI_sub, iI_mul, iI_neg, iI_in, iI_tn, iI_lt, iI_eq, Nat.reduceLeDiff, Nat.reduceEqDiff, Nat.reduceAdd, Int.reduceEq, Int.reduceLT, Int.reduceLE, Int.reduceNeg, Int.reduceAdd, Int.reduceSub, Int.reduceMul, hn, z1, MD_tx h, z2]
            rw [sg_164_44]
            simp (disch := omega) only [↓reduceIte, not_false_eq_true, not_true_eq_false, and_self, and_true, true_and, false_and, and_false, or_true, true_or, or_false, false_or, or_self, reduceCtorEq, mm_q, Option.getD_some, cI_some, cJ_some, cV_some, cS_some, kd_sI, kd_sL, kd_sR, kd_cp, ln_sI, ln_sL, ln_sR, ln_cp, gR_sI, gR_sL, gR_sR, gR_cp, gL_sI, gL_sR, gL_cp, gI_sL, gI_sR, iI_add, iI_sub, iI_mul, iI_neg, iI_in, iI_tn, iI_lt, iI_eq, Nat.reduceLeDiff, Nat.reduceEqDiff, Nat.reduceAdd, Int.reduceEq, Int.reduceLT, Int.reduceLE, Int.reduceNeg, Int.reduceAdd, Int.reduceSub, Int.reduceMul]
            exact e1
          · rw [z2] at e1
            simp (disch := omega) only [shM h.1, ↓reduceIte, not_false_eq_true, not_true_eq_false, and_self, and_true, true_and, false_and, and_false, or_true, true_or, or_false, false_or, or_self, reduceCtorEq, mm_q, Option.getD_some, cI_some, cJ_some, cV_some, cS_some, kd_sI, kd_sL, kd_sR, kd_cp, ln_sI, ln_sL, ln_sR, ln_cp, gR_sI, gR_sL, gR_sR, gR_cp, gL_sI, gL_sR, gL_cp, gI_sL, gI_sR, iI_add, iI_sub, iI_mul, iI_neg, iI_in, iI_tn, iI_lt, iI_eq, Nat.reduceLeDiff, Nat.reduceEqDiff, Nat.reduceAdd, Int.reduceEq, Int.reduceLT, Int.reduceLE, Int.reduceNeg, Int.reduceAdd, Int.reduceSub, Int.reduceMul, hn, z1, MD_tx h, z2]
            rw [sg_164_44]
            simp (disch := omega) only [↓reduceIte, not_false_eq_true, not_true_eq_false, and_self, and_true, true_and, false_and, and_false, or_true, true_or, or_false, false_or, or_self, reduceCtorEq, mm_q, Option.getD_some, cI_some, cJ_some, cV_some, cS_some, kd_sI, kd_sL, kd_sR, kd_cp, ln_sI, ln_sL, ln_sR, ln_cp, gR_sI, gR_sL, gR_sR, gR_cp, gL_sI, gL_sR, gL_cp, gI_sL, gI_sR, iI_add, iI_sub, iI_mul, iI_neg, iI_in, iI_tn, iI_lt, iI_eq, Nat.reduceLeDiff, Nat.reduceEqDiff, Nat.reduceAdd, Int.reduceEq, Int.reduceLT, Int.reduceLE, Int.reduceNeg, Int.reduceAdd, Int.reduceSub, Int.reduceMul]
            exact e1
        · have z2' := z2
          unfold isB at z2'
          have h1 : MD D E (mm_sI m 319 j.toNat (iI k)) := h.fr (Fr.s318 (Or.inr rfl)).TM
          have hn1 : mm_gI (mm_sI m 319 j.toNat (iI k)) 316 3 = iI n := hn
          have key : mm_ev d 164 17 [some (.ref 316), some (.int (iI (j))), some (.int (iI (k))), z3, z4, z5, none] [] m = mm_cI (mm_ev (d - 1) 165 0 [some (.int (iI (tx D k)))] [] (mm_sI m 319 j.toNat (iI k))) (fun v1 m1 => mm_ev d 164 67 [some (.ref 316), some (.int (iI (j))), some (.int (iI (k))), some (.int (iI (tx D k))), some (.int (iI (k))), some (.long (lI 0)), none] [.int v1] m1) := by
            rw [sg_164_17 (by omega)]
            simp (disch := omega) only [shM h.1, ↓reduceIte, not_false_eq_true, not_true_eq_false, and_self, and_true, true_and, false_and, and_false, or_true, true_or, or_false, false_or, or_self, reduceCtorEq, mm_q, Option.getD_some, cI_some, cJ_some, cV_some, cS_some, kd_sI, kd_sL, kd_sR, kd_cp, ln_sI, ln_sL, ln_sR, ln_cp, gR_sI, gR_sL, gR_sR, gR_cp, gL_sI, gL_sR, gL_cp, gI_sL, gI_sR, iI_add, iI_sub, iI_mul, iI_neg, iI_in, iI_tn, iI_lt, iI_eq, Nat.reduceLeDiff, Nat.reduceEqDiff, Nat.reduceAdd, Int.reduceEq, Int.reduceLT, Int.reduceLE, Int.reduceNeg, Int.reduceAdd, Int.reduceSub, Int.reduceMul, hn, z1, MD_tx h, show ¬ tx D k = 10 by omega, show ¬ tx D k = 32 by omega]
          rw [key]
          by_cases z4 : isL (tx D k)
          · rw [M165t z4]
            obtain ⟨e, e1, a1, a2, a3, a4⟩ := M164W (j := j) (p := k) (z3 := iI (tx D k)) h1 hd hn1 n1 (by omega) (n - k).toNat k (by omega) (by omega) (by omega) (fun q q0 q1 => by omega)
            have ke : k < e := by
              by_cases y : k = e
              · subst y; exact absurd z4 (a4 z1)
              · omega
            have e1' : mm_ev d 164 67 [some (.ref 316), some (.int (iI (j))), some (.int (iI (k))), some (.int (iI (tx D k))), some (.int (iI (k))), some (.long (lI 0)), none] [.int (iI 1)] (mm_sI m 319 j.toNat (iI k)) = mm_ev d 164 129 [some (.ref 316), some (.int (iI (j))), some (.int (iI (e))), some (.int (iI (tx D k))), some (.int (iI (k))), some (.long (lI (wv 37 (tx D) k (min (e - k) 8).toNat))), none] [] (mm_sI m 319 j.toNat (iI k)) := by
              rw [sg_164_67 (by omega), ← e1, show (min (k - k) 8).toNat = 0 by omega]
              simp (disch := omega) only [↓reduceIte, not_false_eq_true, not_true_eq_false, and_self, and_true, true_and, false_and, and_false, or_true, true_or, or_false, false_or, or_self, reduceCtorEq, mm_q, Option.getD_some, cI_some, cJ_some, cV_some, cS_some, kd_sI, kd_sL, kd_sR, kd_cp, ln_sI, ln_sL, ln_sR, ln_cp, gR_sI, gR_sL, gR_sR, gR_cp, gL_sI, gL_sR, gL_cp, gI_sL, gI_sR, iI_add, iI_sub, iI_mul, iI_neg, iI_in, iI_tn, iI_lt, iI_eq, Nat.reduceLeDiff, Nat.reduceEqDiff, Nat.reduceAdd, Int.reduceEq, Int.reduceLT, Int.reduceLE, Int.reduceNeg, Int.reduceAdd, Int.reduceSub, Int.reduceMul]
              rfl
            by_cases z5 : 8 < e - k
            · obtain ⟨m1, e2, f2, g1, g2, g3, g4⟩ := M164T (d := d) (n := n) (j := j) (e := e) (p := k) (z3 := iI (tx D k)) (v := lI (wv 37 (tx D) k (min (e - k) 8).toNat)) (s := 4) h j0 (by omega)
              obtain ⟨m', e3, c3⟩ := M164L hd n1 r (j + 1) e e (some (.int (iI (tx D k)))) (some (.int (iI (k)))) (some (.long (lI (wv 37 (tx D) k (min (e - k) 8).toNat)))) m1 (by omega) (by omega) (by omega) (by omega) (by omega) (fun q q0 q1 => by omega) (h.fr f2.TM) (by rw [f2.gI rfl]; exact hn)
              refine ⟨m', ?_, c3.cons (wc := lI 0) (nu := 0) j0 f2 g1 g2 g3 g4 (fun T t1 t2 => ?_)⟩
              · simp (disch := omega) only [↓reduceIte, not_false_eq_true, not_true_eq_false, and_self, and_true, true_and, false_and, and_false, or_true, true_or, or_false, false_or, or_self, reduceCtorEq, mm_q, Option.getD_some, cI_some, cJ_some, cV_some, cS_some, kd_sI, kd_sL, kd_sR, kd_cp, ln_sI, ln_sL, ln_sR, ln_cp, gR_sI, gR_sL, gR_sR, gR_cp, gL_sI, gL_sR, gL_cp, gI_sL, gI_sR, iI_add, iI_sub, iI_mul, iI_neg, iI_in, iI_tn, iI_lt, iI_eq, Nat.reduceLeDiff, Nat.reduceEqDiff, Nat.reduceAdd, Int.reduceEq, Int.reduceLT, Int.reduceLE, Int.reduceNeg, Int.reduceAdd, Int.reduceSub, Int.reduceMul]
                rw [e1', sg_164_129]
                simp (disch := omega) only [shM h1.1, ↓reduceIte, not_false_eq_true, not_true_eq_false, and_self, and_true, true_and, false_and, and_false, or_true, true_or, or_false, false_or, or_self, reduceCtorEq, mm_q, Option.getD_some, cI_some, cJ_some, cV_some, cS_some, kd_sI, kd_sL, kd_sR, kd_cp, ln_sI, ln_sL, ln_sR, ln_cp, gR_sI, gR_sL, gR_sR, gR_cp, gL_sI, gL_sR, gL_cp, gI_sL, gI_sR, iI_add, iI_sub, iI_mul, iI_neg, iI_in, iI_tn, iI_lt, iI_eq, Nat.reduceLeDiff, Nat.reduceEqDiff, Nat.reduceAdd, Int.reduceEq, Int.reduceLT, Int.reduceLE, Int.reduceNeg, Int.reduceAdd, Int.reduceSub, Int.reduceMul, z5]
                rw [sg_164_148]
                simp (disch := omega) only [shM h1.1, ↓reduceIte, not_false_eq_true, not_true_eq_false, and_self, and_true, true_and, false_and, and_false, or_true, true_or, or_false, false_or, or_self, reduceCtorEq, mm_q, Option.getD_some, cI_some, cJ_some, cV_some, cS_some, kd_sI, kd_sL, kd_sR, kd_cp, ln_sI, ln_sL, ln_sR, ln_cp, gR_sI, gR_sL, gR_sR, gR_cp, gL_sI, gL_sR, gL_cp, gI_sL, gI_sR, iI_add, iI_sub, iI_mul, iI_neg, iI_in, iI_tn, iI_lt, iI_eq, Nat.reduceLeDiff, Nat.reduceEqDiff, Nat.reduceAdd, Int.reduceEq, Int.reduceLT, Int.reduceLE, Int.reduceNeg, Int.reduceAdd, Int.reduceSub, Int.reduceMul]
                rw [e2, e3]
              · unfold Tk1
                have q1 : tX T j = p := by unfold tX; rw [t2]
                have q2 : tP T j = k := by unfold tP; rw [t2]
                have q3 : tS T j = 4 := by unfold tS; rw [t2]
                rw [q1, q2, q3, t1]
                have q4 : tV T j = bvS (tx D) k := by unfold tV; rw [t2]; unfold bvS; rw [if_pos (show 97 ≤ tx D k ∧ tx D k ≤ 122 from z4), show (min (e - k) 8).toNat = 8 by omega]
                exact ⟨⟨by omega, by omega, by omega, by omega⟩, hb, ⟨z2, fun _ => q4⟩, Or.inl ⟨z4, a3, a4, Or.inl ⟨z5, rfl⟩⟩⟩
            · obtain ⟨m1, e2, f2, g1, g2, g3, g4⟩ := M164T (d := d) (n := n) (j := j) (e := e) (p := k) (z3 := iI (tx D k)) (v := lI (wv 37 (tx D) k (min (e - k) 8).toNat)) (s := 1) h j0 (by omega)
              obtain ⟨m', e3, c3⟩ := M164L hd n1 r (j + 1) e e (some (.int (iI (tx D k)))) (some (.int (iI (k)))) (some (.long (lI (wv 37 (tx D) k (min (e - k) 8).toNat)))) m1 (by omega) (by omega) (by omega) (by omega) (by omega) (fun q q0 q1 => by omega) (h.fr f2.TM) (by rw [f2.gI rfl]; exact hn)
              refine ⟨m', ?_, c3.cons (wc := lI (wv 27 (tx D) k (e - k).toNat)) (nu := 0) j0 f2 g1 g2 g3 g4 (fun T t1 t2 => ?_)⟩
              · simp (disch := omega) only [↓reduceIte, not_false_eq_true, not_true_eq_false, and_self, and_true, true_and, false_and, and_false, or_true, true_or, or_false, false_or, or_self, reduceCtorEq, mm_q, Option.getD_some, cI_some, cJ_some, cV_some, cS_some, kd_sI, kd_sL, kd_sR, kd_cp, ln_sI, ln_sL, ln_sR, ln_cp, gR_sI, gR_sL, gR_sR, gR_cp, gL_sI, gL_sR, gL_cp, gI_sL, gI_sR, iI_add, iI_sub, iI_mul, iI_neg, iI_in, iI_tn, iI_lt, iI_eq, Nat.reduceLeDiff, Nat.reduceEqDiff, Nat.reduceAdd, Int.reduceEq, Int.reduceLT, Int.reduceLE, Int.reduceNeg, Int.reduceAdd, Int.reduceSub, Int.reduceMul]
                rw [e1', sg_164_129]
                simp (disch := omega) only [shM h1.1, ↓reduceIte, not_false_eq_true, not_true_eq_false, and_self, and_true, true_and, false_and, and_false, or_true, true_or, or_false, false_or, or_self, reduceCtorEq, mm_q, Option.getD_some, cI_some, cJ_some, cV_some, cS_some, kd_sI, kd_sL, kd_sR, kd_cp, ln_sI, ln_sL, ln_sR, ln_cp, gR_sI, gR_sL, gR_sR, gR_cp, gL_sI, gL_sR, gL_cp, gI_sL, gI_sR, iI_add, iI_sub, iI_mul, iI_neg, iI_in, iI_tn, iI_lt, iI_eq, Nat.reduceLeDiff, Nat.reduceEqDiff, Nat.reduceAdd, Int.reduceEq, Int.reduceLT, Int.reduceLE, Int.reduceNeg, Int.reduceAdd, Int.reduceSub, Int.reduceMul, z5]
                rw [sg_164_148]
                simp (disch := omega) only [shM h1.1, ↓reduceIte, not_false_eq_true, not_true_eq_false, and_self, and_true, true_and, false_and, and_false, or_true, true_or, or_false, false_or, or_self, reduceCtorEq, mm_q, Option.getD_some, cI_some, cJ_some, cV_some, cS_some, kd_sI, kd_sL, kd_sR, kd_cp, ln_sI, ln_sL, ln_sR, ln_cp, gR_sI, gR_sL, gR_sR, gR_cp, gL_sI, gL_sR, gL_cp, gI_sL, gI_sR, iI_add, iI_sub, iI_mul, iI_neg, iI_in, iI_tn, iI_lt, iI_eq, Nat.reduceLeDiff, Nat.reduceEqDiff, Nat.reduceAdd, Int.reduceEq, Int.reduceLT, Int.reduceLE, Int.reduceNeg, Int.reduceAdd, Int.reduceSub, Int.reduceMul]
                rw [e2, e3]
              · unfold Tk1
                have q1 : tX T j = p := by unfold tX; rw [t2]
                have q2 : tP T j = k := by unfold tP; rw [t2]
                have q3 : tS T j = 1 := by unfold tS; rw [t2]
                have q4 : tV T j = lI (wv 37 (tx D) k (e - k).toNat) := by unfold tV; rw [t2, show min (e - k) 8 = e - k by omega]
                have q5 : tW T j = lI (wv 27 (tx D) k (e - k).toNat) := by unfold tW; rw [t2]
                rw [q1, q2, q3, q4, q5, t1]
                exact ⟨⟨by omega, by omega, by omega, by omega⟩, hb, ⟨z2, fun q => by omega⟩, Or.inl ⟨z4, a3, a4, Or.inr ⟨by omega, rfl, rfl, rfl⟩⟩⟩
          · rw [M165f x0 x1 z4]
            by_cases z6 : isG (tx D k)
            · obtain ⟨e, e1, a1, a2, a3, a4⟩ := M164D (j := j) (p := k) (z3 := iI (tx D k)) h1 hd hn1 n1 (by omega) (n - k).toNat k (by omega) (by omega) (by omega) (fun q q0 q1 => by omega)
              have ke : k < e := by
                by_cases y : k = e
                · subst y; exact absurd z6 (a4 z1)
                · omega
              have e1' : mm_ev d 164 67 [some (.ref 316), some (.int (iI (j))), some (.int (iI (k))), some (.int (iI (tx D k))), some (.int (iI (k))), some (.long (lI 0)), none] [.int (iI 0)] (mm_sI m 319 j.toNat (iI k)) = mm_ev d 164 218 [some (.ref 316), some (.int (iI (j))), some (.int (iI (e))), some (.int (iI (tx D k))), some (.int (iI (k))), some (.long (lI (nv (tx D) k (min (e - k) 4).toNat))), none] [] (mm_sI m 319 j.toNat (iI k)) := by
                rw [sg_164_67 (by omega), ← e1, show (min (k - k) 4).toNat = 0 by omega]
                simp (disch := omega) only [↓reduceIte, not_false_eq_true, not_true_eq_false, and_self, and_true, true_and, false_and, and_false, or_true, true_or, or_false, false_or, or_self, reduceCtorEq, mm_q, Option.getD_some, cI_some, cJ_some, cV_some, cS_some, kd_sI, kd_sL, kd_sR, kd_cp, ln_sI, ln_sL, ln_sR, ln_cp, gR_sI, gR_sL, gR_sR, gR_cp, gL_sI, gL_sR, gL_cp, gI_sL, gI_sR, iI_add, iI_sub, iI_mul, iI_neg, iI_in, iI_tn, iI_lt, iI_eq, Nat.reduceLeDiff, Nat.reduceEqDiff, Nat.reduceAdd, Int.reduceEq, Int.reduceLT, Int.reduceLE, Int.reduceNeg, Int.reduceAdd, Int.reduceSub, Int.reduceMul, M167t z6]
                rw [sg_164_156 (by omega)]
                simp (disch := omega) only [↓reduceIte, not_false_eq_true, not_true_eq_false, and_self, and_true, true_and, false_and, and_false, or_true, true_or, or_false, false_or, or_self, reduceCtorEq, mm_q, Option.getD_some, cI_some, cJ_some, cV_some, cS_some, kd_sI, kd_sL, kd_sR, kd_cp, ln_sI, ln_sL, ln_sR, ln_cp, gR_sI, gR_sL, gR_sR, gR_cp, gL_sI, gL_sR, gL_cp, gI_sL, gI_sR, iI_add, iI_sub, iI_mul, iI_neg, iI_in, iI_tn, iI_lt, iI_eq, Nat.reduceLeDiff, Nat.reduceEqDiff, Nat.reduceAdd, Int.reduceEq, Int.reduceLT, Int.reduceLE, Int.reduceNeg, Int.reduceAdd, Int.reduceSub, Int.reduceMul]
                rfl
              by_cases z5 : 4 < e - k
              · obtain ⟨m1, e2, f2, g1, g2, g3, g4⟩ := M164T (d := d) (n := n) (j := j) (e := e) (p := k) (z3 := iI (tx D k)) (v := lI (nv (tx D) k (min (e - k) 4).toNat)) (s := 4) h j0 (by omega)
                obtain ⟨m', e3, c3⟩ := M164L hd n1 r (j + 1) e e (some (.int (iI (tx D k)))) (some (.int (iI (k)))) (some (.long (lI (nv (tx D) k (min (e - k) 4).toNat)))) m1 (by omega) (by omega) (by omega) (by omega) (by omega) (fun q q0 q1 => by omega) (h.fr f2.TM) (by rw [f2.gI rfl]; exact hn)
                refine ⟨m', ?_, c3.cons (wc := lI 0) (nu := 0) j0 f2 g1 g2 g3 g4 (fun T t1 t2 => ?_)⟩
                · simp (disch := omega) only [↓reduceIte, not_false_eq_true, not_true_eq_false, and_self, and_true, true_and, false_and, and_false, or_true, true_or, or_false, false_or, or_self, reduceCtorEq, mm_q, Option.getD_some, cI_some, cJ_some, cV_some, cS_some, kd_sI, kd_sL, kd_sR, kd_cp, ln_sI, ln_sL, ln_sR, ln_cp, gR_sI, gR_sL, gR_sR, gR_cp, gL_sI, gL_sR, gL_cp, gI_sL, gI_sR, iI_add, iI_sub, iI_mul, iI_neg, iI_in, iI_tn, iI_lt, iI_eq, Nat.reduceLeDiff, Nat.reduceEqDiff, Nat.reduceAdd, Int.reduceEq, Int.reduceLT, Int.reduceLE, Int.reduceNeg, Int.reduceAdd, Int.reduceSub, Int.reduceMul]
                  rw [e1', sg_164_218]
                  simp (disch := omega) only [shM h1.1, ↓reduceIte, not_false_eq_true, not_true_eq_false, and_self, and_true, true_and, false_and, and_false, or_true, true_or, or_false, false_or, or_self, reduceCtorEq, mm_q, Option.getD_some, cI_some, cJ_some, cV_some, cS_some, kd_sI, kd_sL, kd_sR, kd_cp, ln_sI, ln_sL, ln_sR, ln_cp, gR_sI, gR_sL, gR_sR, gR_cp, gL_sI, gL_sR, gL_cp, gI_sL, gI_sR, iI_add, iI_sub, iI_mul, iI_neg, iI_in, iI_tn, iI_lt, iI_eq, Nat.reduceLeDiff, Nat.reduceEqDiff, Nat.reduceAdd, Int.reduceEq, Int.reduceLT, Int.reduceLE, Int.reduceNeg, Int.reduceAdd, Int.reduceSub, Int.reduceMul, z5]
                  rw [sg_164_236]
                  simp (disch := omega) only [shM h1.1, ↓reduceIte, not_false_eq_true, not_true_eq_false, and_self, and_true, true_and, false_and, and_false, or_true, true_or, or_false, false_or, or_self, reduceCtorEq, mm_q, Option.getD_some, cI_some, cJ_some, cV_some, cS_some, kd_sI, kd_sL, kd_sR, kd_cp, ln_sI, ln_sL, ln_sR, ln_cp, gR_sI, gR_sL, gR_sR, gR_cp, gL_sI, gL_sR, gL_cp, gI_sL, gI_sR, iI_add, iI_sub, iI_mul, iI_neg, iI_in, iI_tn, iI_lt, iI_eq, Nat.reduceLeDiff, Nat.reduceEqDiff, Nat.reduceAdd, Int.reduceEq, Int.reduceLT, Int.reduceLE, Int.reduceNeg, Int.reduceAdd, Int.reduceSub, Int.reduceMul]
                  rw [e2, e3]
                · unfold Tk1
                  have q1 : tX T j = p := by unfold tX; rw [t2]
                  have q2 : tP T j = k := by unfold tP; rw [t2]
                  have q3 : tS T j = 4 := by unfold tS; rw [t2]
                  rw [q1, q2, q3, t1]
                  have q4 : tV T j = bvS (tx D) k := by unfold tV; rw [t2]; unfold bvS; rw [if_neg (show ¬ (97 ≤ tx D k ∧ tx D k ≤ 122) from z4), if_pos (show 48 ≤ tx D k ∧ tx D k ≤ 57 from z6), show (min (e - k) 4).toNat = 4 by omega]
                  exact ⟨⟨by omega, by omega, by omega, by omega⟩, hb, ⟨z2, fun _ => q4⟩, Or.inr (Or.inl ⟨z6, a3, a4, Or.inl ⟨z5, rfl⟩⟩)⟩
              · obtain ⟨m1, e2, f2, g1, g2, g3, g4⟩ := M164T (d := d) (n := n) (j := j) (e := e) (p := k) (z3 := iI (tx D k)) (v := lI (nv (tx D) k (min (e - k) 4).toNat)) (s := 2) h j0 (by omega)
                obtain ⟨m', e3, c3⟩ := M164L hd n1 r (j + 1) e e (some (.int (iI (tx D k)))) (some (.int (iI (k)))) (some (.long (lI (nv (tx D) k (min (e - k) 4).toNat)))) m1 (by omega) (by omega) (by omega) (by omega) (by omega) (fun q q0 q1 => by omega) (h.fr f2.TM) (by rw [f2.gI rfl]; exact hn)
                refine ⟨m', ?_, c3.cons (wc := lI 0) (nu := nv (tx D) k (e - k).toNat) j0 f2 g1 g2 g3 g4 (fun T t1 t2 => ?_)⟩
                · simp (disch := omega) only [↓reduceIte, not_false_eq_true, not_true_eq_false, and_self, and_true, true_and, false_and, and_false, or_true, true_or, or_false, false_or, or_self, reduceCtorEq, mm_q, Option.getD_some, cI_some, cJ_some, cV_some, cS_some, kd_sI, kd_sL, kd_sR, kd_cp, ln_sI, ln_sL, ln_sR, ln_cp, gR_sI, gR_sL, gR_sR, gR_cp, gL_sI, gL_sR, gL_cp, gI_sL, gI_sR, iI_add, iI_sub, iI_mul, iI_neg, iI_in, iI_tn, iI_lt, iI_eq, Nat.reduceLeDiff, Nat.reduceEqDiff, Nat.reduceAdd, Int.reduceEq, Int.reduceLT, Int.reduceLE, Int.reduceNeg, Int.reduceAdd, Int.reduceSub, Int.reduceMul]
                  rw [e1', sg_164_218]
                  simp (disch := omega) only [shM h1.1, ↓reduceIte, not_false_eq_true, not_true_eq_false, and_self, and_true, true_and, false_and, and_false, or_true, true_or, or_false, false_or, or_self, reduceCtorEq, mm_q, Option.getD_some, cI_some, cJ_some, cV_some, cS_some, kd_sI, kd_sL, kd_sR, kd_cp, ln_sI, ln_sL, ln_sR, ln_cp, gR_sI, gR_sL, gR_sR, gR_cp, gL_sI, gL_sR, gL_cp, gI_sL, gI_sR, iI_add, iI_sub, iI_mul, iI_neg, iI_in, iI_tn, iI_lt, iI_eq, Nat.reduceLeDiff, Nat.reduceEqDiff, Nat.reduceAdd, Int.reduceEq, Int.reduceLT, Int.reduceLE, Int.reduceNeg, Int.reduceAdd, Int.reduceSub, Int.reduceMul, z5]
                  rw [sg_164_236]
                  simp (disch := omega) only [shM h1.1, ↓reduceIte, not_false_eq_true, not_true_eq_false, and_self, and_true, true_and, false_and, and_false, or_true, true_or, or_false, false_or, or_self, reduceCtorEq, mm_q, Option.getD_some, cI_some, cJ_some, cV_some, cS_some, kd_sI, kd_sL, kd_sR, kd_cp, ln_sI, ln_sL, ln_sR, ln_cp, gR_sI, gR_sL, gR_sR, gR_cp, gL_sI, gL_sR, gL_cp, gI_sL, gI_sR, iI_add, iI_sub, iI_mul, iI_neg, iI_in, iI_tn, iI_lt, iI_eq, Nat.reduceLeDiff, Nat.reduceEqDiff, Nat.reduceAdd, Int.reduceEq, Int.reduceLT, Int.reduceLE, Int.reduceNeg, Int.reduceAdd, Int.reduceSub, Int.reduceMul]
                  rw [e2, e3]
                · unfold Tk1
                  have q1 : tX T j = p := by unfold tX; rw [t2]
                  have q2 : tP T j = k := by unfold tP; rw [t2]
                  have q3 : tS T j = 2 := by unfold tS; rw [t2]
                  have q5 : tN T j = nv (tx D) k (e - k).toNat := by unfold tN; rw [t2]
                  have q4 : tV T j = lI (nv (tx D) k (e - k).toNat) := by unfold tV; rw [t2, show min (e - k) 4 = e - k by omega]
                  rw [q1, q2, q3, q4, q5, t1]
                  exact ⟨⟨by omega, by omega, by omega, by omega⟩, hb, ⟨z2, fun q => by omega⟩, Or.inr (Or.inl ⟨z6, a3, a4, Or.inr ⟨by omega, rfl, rfl, rfl⟩⟩)⟩
            · have e1' : mm_ev d 164 67 [some (.ref 316), some (.int (iI (j))), some (.int (iI (k))), some (.int (iI (tx D k))), some (.int (iI (k))), some (.long (lI 0)), none] [.int (iI 0)] (mm_sI m 319 j.toNat (iI k)) = mm_ev d 164 156 [some (.ref 316), some (.int (iI (j))), some (.int (iI (k))), some (.int (iI (tx D k))), some (.int (iI (k))), some (.long (lI 0)), none] [.int (iI 0)] (mm_sI m 319 j.toNat (iI k)) := by
                rw [sg_164_67 (by omega)]
                simp (disch := omega) only [↓reduceIte, not_false_eq_true, not_true_eq_false, and_self, and_true, true_and, false_and, and_false, or_true, true_or, or_false, false_or, or_self, reduceCtorEq, mm_q, Option.getD_some, cI_some, cJ_some, cV_some, cS_some, kd_sI, kd_sL, kd_sR, kd_cp, ln_sI, ln_sL, ln_sR, ln_cp, gR_sI, gR_sL, gR_sR, gR_cp, gL_sI, gL_sR, gL_cp, gI_sL, gI_sR, iI_add, iI_sub, iI_mul, iI_neg, iI_in, iI_tn, iI_lt, iI_eq, Nat.reduceLeDiff, Nat.reduceEqDiff, Nat.reduceAdd, Int.reduceEq, Int.reduceLT, Int.reduceLE, Int.reduceNeg, Int.reduceAdd, Int.reduceSub, Int.reduceMul, M167f x0 x1 z6]
              by_cases z5 : sgn (tx D k)
              · obtain ⟨m1, e2, f2, g1, g2, g3, g4⟩ := M164T (d := d) (n := n) (j := j) (e := k + 1) (p := k) (z3 := iI (tx D k)) (v := lI (tx D k)) (s := 3) h j0 (by omega)
                obtain ⟨m', e3, c3⟩ := M164L hd n1 r (j + 1) (k + 1) (k + 1) (some (.int (iI (tx D k)))) (some (.int (iI (k)))) (some (.long (lI (tx D k)))) m1 (by omega) (by omega) (by omega) (by omega) (by omega) (fun q q0 q1 => by omega) (h.fr f2.TM) (by rw [f2.gI rfl]; exact hn)
                refine ⟨m', ?_, c3.cons (wc := lI 0) (nu := tx D k) j0 f2 g1 g2 g3 g4 (fun T t1 t2 => ?_)⟩
                · simp (disch := omega) only [↓reduceIte, not_false_eq_true, not_true_eq_false, and_self, and_true, true_and, false_and, and_false, or_true, true_or, or_false, false_or, or_self, reduceCtorEq, mm_q, Option.getD_some, cI_some, cJ_some, cV_some, cS_some, kd_sI, kd_sL, kd_sR, kd_cp, ln_sI, ln_sL, ln_sR, ln_cp, gR_sI, gR_sL, gR_sR, gR_cp, gL_sI, gL_sR, gL_cp, gI_sL, gI_sR, iI_add, iI_sub, iI_mul, iI_neg, iI_in, iI_tn, iI_lt, iI_eq, Nat.reduceLeDiff, Nat.reduceEqDiff, Nat.reduceAdd, Int.reduceEq, Int.reduceLT, Int.reduceLE, Int.reduceNeg, Int.reduceAdd, Int.reduceSub, Int.reduceMul]
                  rw [e1', sg_164_156 (by omega)]
                  simp (disch := omega) only [shM h1.1, ↓reduceIte, not_false_eq_true, not_true_eq_false, and_self, and_true, true_and, false_and, and_false, or_true, true_or, or_false, false_or, or_self, reduceCtorEq, mm_q, Option.getD_some, cI_some, cJ_some, cV_some, cS_some, kd_sI, kd_sL, kd_sR, kd_cp, ln_sI, ln_sL, ln_sR, ln_cp, gR_sI, gR_sL, gR_sR, gR_cp, gL_sI, gL_sR, gL_cp, gI_sL, gI_sR, iI_add, iI_sub, iI_mul, iI_neg, iI_in, iI_tn, iI_lt, iI_eq, Nat.reduceLeDiff, Nat.reduceEqDiff, Nat.reduceAdd, Int.reduceEq, Int.reduceLT, Int.reduceLE, Int.reduceNeg, Int.reduceAdd, Int.reduceSub, Int.reduceMul, M168t z5, iI_l x0 x1]
                  rw [sg_164_261]
                  simp (disch := omega) only [shM h1.1, ↓reduceIte, not_false_eq_true, not_true_eq_false, and_self, and_true, true_and, false_and, and_false, or_true, true_or, or_false, false_or, or_self, reduceCtorEq, mm_q, Option.getD_some, cI_some, cJ_some, cV_some, cS_some, kd_sI, kd_sL, kd_sR, kd_cp, ln_sI, ln_sL, ln_sR, ln_cp, gR_sI, gR_sL, gR_sR, gR_cp, gL_sI, gL_sR, gL_cp, gI_sL, gI_sR, iI_add, iI_sub, iI_mul, iI_neg, iI_in, iI_tn, iI_lt, iI_eq, Nat.reduceLeDiff, Nat.reduceEqDiff, Nat.reduceAdd, Int.reduceEq, Int.reduceLT, Int.reduceLE, Int.reduceNeg, Int.reduceAdd, Int.reduceSub, Int.reduceMul]
                  rw [e2, e3]
                · unfold Tk1
                  have q1 : tX T j = p := by unfold tX; rw [t2]
                  have q2 : tP T j = k := by unfold tP; rw [t2]
                  have q3 : tS T j = 3 := by unfold tS; rw [t2]
                  have q5 : tN T j = tx D k := by unfold tN; rw [t2]
                  have q4 : tV T j = lI (tx D k) := by unfold tV; rw [t2]
                  rw [q1, q2, q3, q4, q5, t1]
                  exact ⟨⟨by omega, by omega, by omega, by omega⟩, hb, ⟨z2, fun q => by omega⟩, Or.inr (Or.inr ⟨z4, z6, rfl, Or.inl ⟨z5, rfl, rfl, rfl⟩⟩)⟩
              · obtain ⟨m1, e2, f2, g1, g2, g3, g4⟩ := M164T (d := d) (n := n) (j := j) (e := k + 1) (p := k) (z3 := iI (tx D k)) (v := lI (tx D k)) (s := 4) h j0 (by omega)
                obtain ⟨m', e3, c3⟩ := M164L hd n1 r (j + 1) (k + 1) (k + 1) (some (.int (iI (tx D k)))) (some (.int (iI (k)))) (some (.long (lI (tx D k)))) m1 (by omega) (by omega) (by omega) (by omega) (by omega) (fun q q0 q1 => by omega) (h.fr f2.TM) (by rw [f2.gI rfl]; exact hn)
                refine ⟨m', ?_, c3.cons (wc := lI 0) (nu := 0) j0 f2 g1 g2 g3 g4 (fun T t1 t2 => ?_)⟩
                · simp (disch := omega) only [↓reduceIte, not_false_eq_true, not_true_eq_false, and_self, and_true, true_and, false_and, and_false, or_true, true_or, or_false, false_or, or_self, reduceCtorEq, mm_q, Option.getD_some, cI_some, cJ_some, cV_some, cS_some, kd_sI, kd_sL, kd_sR, kd_cp, ln_sI, ln_sL, ln_sR, ln_cp, gR_sI, gR_sL, gR_sR, gR_cp, gL_sI, gL_sR, gL_cp, gI_sL, gI_sR, iI_add, iI_sub, iI_mul, iI_neg, iI_in, iI_tn, iI_lt, iI_eq, Nat.reduceLeDiff, Nat.reduceEqDiff, Nat.reduceAdd, Int.reduceEq, Int.reduceLT, Int.reduceLE, Int.reduceNeg, Int.reduceAdd, Int.reduceSub, Int.reduceMul]
                  rw [e1', sg_164_156 (by omega)]
                  simp (disch := omega) only [shM h1.1, ↓reduceIte, not_false_eq_true, not_true_eq_false, and_self, and_true, true_and, false_and, and_false, or_true, true_or, or_false, false_or, or_self, reduceCtorEq, mm_q, Option.getD_some, cI_some, cJ_some, cV_some, cS_some, kd_sI, kd_sL, kd_sR, kd_cp, ln_sI, ln_sL, ln_sR, ln_cp, gR_sI, gR_sL, gR_sR, gR_cp, gL_sI, gL_sR, gL_cp, gI_sL, gI_sR, iI_add, iI_sub, iI_mul, iI_neg, iI_in, iI_tn, iI_lt, iI_eq, Nat.reduceLeDiff, Nat.reduceEqDiff, Nat.reduceAdd, Int.reduceEq, Int.reduceLT, Int.reduceLE, Int.reduceNeg, Int.reduceAdd, Int.reduceSub, Int.reduceMul, M168f x0 x1 z5, iI_l x0 x1]
                  rw [sg_164_261]
                  simp (disch := omega) only [shM h1.1, ↓reduceIte, not_false_eq_true, not_true_eq_false, and_self, and_true, true_and, false_and, and_false, or_true, true_or, or_false, false_or, or_self, reduceCtorEq, mm_q, Option.getD_some, cI_some, cJ_some, cV_some, cS_some, kd_sI, kd_sL, kd_sR, kd_cp, ln_sI, ln_sL, ln_sR, ln_cp, gR_sI, gR_sL, gR_sR, gR_cp, gL_sI, gL_sR, gL_cp, gI_sL, gI_sR, iI_add, iI_sub, iI_mul, iI_neg, iI_in, iI_tn, iI_lt, iI_eq, Nat.reduceLeDiff, Nat.reduceEqDiff, Nat.reduceAdd, Int.reduceEq, Int.reduceLT, Int.reduceLE, Int.reduceNeg, Int.reduceAdd, Int.reduceSub, Int.reduceMul]
                  rw [e2, e3]
                · unfold Tk1
                  have q1 : tX T j = p := by unfold tX; rw [t2]
                  have q2 : tP T j = k := by unfold tP; rw [t2]
                  have q3 : tS T j = 4 := by unfold tS; rw [t2]
                  rw [q1, q2, q3, t1]
                  have q4 : tV T j = bvS (tx D) k := by unfold tV; rw [t2]; unfold bvS; rw [if_neg (show ¬ (97 ≤ tx D k ∧ tx D k ≤ 122) from z4), if_neg (show ¬ (48 ≤ tx D k ∧ tx D k ≤ 57) from z6)]
                  exact ⟨⟨by omega, by omega, by omega, by omega⟩, hb, ⟨z2, fun _ => q4⟩, Or.inr (Or.inr ⟨z4, z6, rfl, Or.inr ⟨z5, rfl⟩⟩)⟩
    · refine ⟨mm_sI (mm_sI (mm_sI (mm_sI m 318 j.toNat (iI 0)) 319 j.toNat (iI n)) 316 7 (iI 0)) 316 8 (iI 0), ?_, fun _ => (0, n, lI 0, lI 0, 0, p), j, ⟨by omega, by omega⟩, rfl, fun i i0 i1 => by omega, ⟨rfl, rfl, ⟨by show 0 ≤ p; omega, by show p ≤ n; omega⟩, fun q q0 q1 => hb q q0 (by omega)⟩, ?_, ?_, (((Fr.s318 (Or.inl rfl)).tr (Fr.s318 (Or.inr rfl))).tr (Fr.sI rfl)).tr (Fr.sI rfl), ?_, ?_⟩
      · rw [sg_164_17 (by omega)]
        simp (disch := omega) only [shM h.1, ↓reduceIte, not_false_eq_true, not_true_eq_false, and_self, and_true, true_and, false_and, and_false, or_true, true_or, or_false, false_or, or_self, reduceCtorEq, mm_q, Option.getD_some, cI_some, cJ_some, cV_some, cS_some, kd_sI, kd_sL, kd_sR, kd_cp, ln_sI, ln_sL, ln_sR, ln_cp, gR_sI, gR_sL, gR_sR, gR_cp, gL_sI, gL_sR, gL_cp, gI_sL, gI_sR, iI_add, iI_sub, iI_mul, iI_neg, iI_in, iI_tn, iI_lt, iI_eq, Nat.reduceLeDiff, Nat.reduceEqDiff, Nat.reduceAdd, Int.reduceEq, Int.reduceLT, Int.reduceLE, Int.reduceNeg, Int.reduceAdd, Int.reduceSub, Int.reduceMul, hn, gI_sI, z1]
      · intro i i0 i1
        rw [show i = j by omega]
        refine ⟨?_, ?_, by omega⟩
        · simp [gI_sI, tS]
        · simp [gI_sI, tP]
      · intro i hi
        refine ⟨?_, ?_, ?_⟩
        · simp [gI_sI, show ¬ i = j.toNat by omega]
        · simp [gI_sI, show ¬ i = j.toNat by omega]
        · rfl
      · simp [gI_sI]
      · simp [gI_sI]
/-- cutAll -/
theorem M164 (h : MD D E m) (hd : 3 ≤ d) (t0 : 0 ≤ (D 316 2).toInt) (t1 : (D 316 2).toInt ≤ 1000) : ∃ m1 m', mm_ev d 164 0 [some (.ref 316), none, none, none, none, none, none] [] m = some (some none, m') ∧ MD (up D 316 2 (iI 0)) E m1 ∧ CutR (up D 316 2 (iI 0)) (D 316 2).toInt 0 0 m1 m' ∧ Fr scA m m1 := by
  have h1 : MD (up D 316 2 (iI 0)) E (mm_sI (mm_sI m 316 3 (D 316 2)) 316 2 (iI 0)) := (h.fr (Fr.sI (by decide))).sI
  have e2 : mm_gI m 316 2 = D 316 2 := h.2.1 316 2 rfl
  obtain ⟨m', e1, c1⟩ := M164L (E := E) (d := d) (D := up D 316 2 (iI 0)) hd t1 (D 316 2).toInt.toNat 0 0 0 none none none _ (by omega) (by omega) (by omega) (by omega) t0 (fun q q0 q1 => by omega) h1 (by
    rw [gI_sI, if_neg (by decide), gI_sI, if_pos ⟨rfl, rfl⟩, iI_toInt])
  refine ⟨_, m', ?_, h1, c1, (Fr.sA (by omega) (by omega)).tr (Fr.sA (by omega) (by omega))⟩
  rw [sg_164_0]
  simp (disch := omega) only [shM h.1, ↓reduceIte, not_false_eq_true, not_true_eq_false, and_self, and_true, true_and, false_and, and_false, or_true, true_or, or_false, false_or, or_self, reduceCtorEq, mm_q, Option.getD_some, cI_some, cJ_some, cV_some, cS_some, kd_sI, kd_sL, kd_sR, kd_cp, ln_sI, ln_sL, ln_sR, ln_cp, gR_sI, gR_sL, gR_sR, gR_cp, gL_sI, gL_sR, gL_cp, gI_sL, gI_sR, iI_add, iI_sub, iI_mul, iI_neg, iI_in, iI_tn, iI_lt, iI_eq, Nat.reduceLeDiff, Nat.reduceEqDiff, Nat.reduceAdd, Int.reduceEq, Int.reduceLT, Int.reduceLE, Int.reduceNeg, Int.reduceAdd, Int.reduceSub, Int.reduceMul, e2]
  exact e1
/-- the tokens of a text are these and no others -/
theorem Tk_u {X : Int → Int} {n i : Int} {T U : TK} (h : Tk1 X n T i) (h' : Tk1 X n U i) (e : tX T i = tX U i) : tP T i = tP U i ∧ tX T (i + 1) = tX U (i + 1) ∧ tS T i = tS U i ∧ tV T i = tV U i := by
  obtain ⟨⟨a1, a2, a3, a4⟩, ab, ⟨an, av⟩, ac⟩ := h
  obtain ⟨⟨b1, b2, b3, b4⟩, bb, ⟨bn, bv⟩, bc⟩ := h'
  have eP : tP T i = tP U i := by
    by_cases y : tP T i < tP U i
    · exact absurd (bb _ (by omega) y) an
    · by_cases y2 : tP U i < tP T i
      · exact absurd (ab _ (by omega) y2) bn
      · omega
  rw [← eP] at bc bv b2 b3
  rcases ac with ⟨z, l, m1, q⟩ | ⟨z, l, m1, q⟩ | ⟨z1, z2, m1, q⟩
  · rcases bc with ⟨z', l', m1', q'⟩ | ⟨z', -⟩ | ⟨z1', -⟩
    · have eX : tX T (i + 1) = tX U (i + 1) := by
        by_cases y : tX T (i + 1) < tX U (i + 1)
        · exact absurd (l' _ (by omega) y) (m1 (by omega))
        · by_cases y2 : tX U (i + 1) < tX T (i + 1)
          · exact absurd (l _ (by omega) y2) (m1' (by omega))
          · omega
      rw [← eX] at q'
      rcases q with ⟨q1, q2⟩ | ⟨q1, q2, q3, -⟩
      · rcases q' with ⟨-, q2'⟩ | ⟨q1', -⟩
        · exact ⟨eP, eX, by omega, by rw [av q2, bv q2']⟩
        · omega
      · rcases q' with ⟨q1', -⟩ | ⟨-, q2', q3', -⟩
        · omega
        · exact ⟨eP, eX, by omega, by rw [q3, q3']⟩
    · unfold isL at z; unfold isG at z'; omega
    · exact absurd z z1'
  · rcases bc with ⟨z', -⟩ | ⟨z', l', m1', q'⟩ | ⟨-, z2', -⟩
    · unfold isL at z'; unfold isG at z; omega
    · have eX : tX T (i + 1) = tX U (i + 1) := by
        by_cases y : tX T (i + 1) < tX U (i + 1)
        · exact absurd (l' _ (by omega) y) (m1 (by omega))
        · by_cases y2 : tX U (i + 1) < tX T (i + 1)
          · exact absurd (l _ (by omega) y2) (m1' (by omega))
          · omega
      rw [← eX] at q'
      rcases q with ⟨q1, q2⟩ | ⟨q1, q2, q3, q4⟩
      · rcases q' with ⟨-, q2'⟩ | ⟨q1', -⟩
        · exact ⟨eP, eX, by omega, by rw [av q2, bv q2']⟩
        · omega
      · rcases q' with ⟨q1', -⟩ | ⟨-, q2', q3', q4'⟩
        · omega
        · exact ⟨eP, eX, by omega, by rw [q4, q4', q3, q3']⟩
    · exact absurd z z2'
  · rcases bc with ⟨z', -⟩ | ⟨z', -⟩ | ⟨-, -, m1', q'⟩
    · exact absurd z' z1
    · exact absurd z' z2
    · have eX : tX T (i + 1) = tX U (i + 1) := by omega
      rcases q with ⟨q1, q2, q3, q4⟩ | ⟨q1, q2⟩
      · rcases q' with ⟨-, q2', q3', q4'⟩ | ⟨q1', -⟩
        · exact ⟨eP, eX, by omega, by rw [q4, q4', q3, q3']⟩
        · exact absurd q1 q1'
      · rcases q' with ⟨q1', -⟩ | ⟨-, q2'⟩
        · exact absurd q1' q1
        · exact ⟨eP, eX, by omega, by rw [av q2, bv q2']⟩
end
