/-- papers as the class holds them -/
def RPn (D : Nat → Nat → Int32) (b : Int) (m : mm_M) (P : Nat) : Prop := (mm_gI m P 0 = iI (sa D (b + 25)) ∧ mm_gI m P 3 = iI (sa D (b + 46))) ∧ (∀ k, 0 ≤ k → k < 10 → mm_gI m (P + 1) k.toNat = iI (sa D (b + 26 + 2 * k)) ∧ mm_gI m (P + 2) k.toNat = iI (sa D (b + 26 + 2 * k + 1))) ∧ (∀ k, 0 ≤ k → k < 10 → mm_gI m (P + 3) k.toNat = iI (sa D (b + 47 + 3 * k)) ∧ mm_gI m (P + 4) k.toNat = iI (sa D (b + 47 + 3 * k + 1)) ∧ mm_gI m (P + 5) k.toNat = iI (sa D (b + 47 + 3 * k + 2)))
def RP (D : Nat → Nat → Int32) (m : mm_M) : Prop := RPn D 0 m 163
def LSt (m : mm_M) (q : Int × Int × Int32 × Bool) : Prop := mm_gI m 163 7 = iI q.1 ∧ mm_gI m 163 10 = iI (bI q.2.2.2) ∧ (0 < q.1 → mm_gI m 163 8 = iI q.2.1) ∧ (0 < q.1 → q.2.2.2 = true → mm_gI m 163 9 = q.2.2.1)
def scP (a k : Nat) : Bool := Nat.beq a 163 && Nat.ble 7 k
section
variable {D : Nat → Nat → Int32} {m m' m'' : mm_M} {d s W L H p n : Nat} {B : Int → Int} {take : Int} {late : Bool}
theorem scP_C {a k : Nat} (h : scC a k = false) : scP a k = false := by
  unfold scC at h
  simp only [Bool.or_eq_false_iff] at h
  exact h.2
theorem Fr.PC (h : Fr scP m m') : FC m m' := (h.mono (fun _ _ => scP_C)).C
theorem RP.e (h : RP D m) : mm_gI m 163 0 = iI (sa D 25) ∧ mm_gI m 163 3 = iI (sa D 46) ∧ (∀ k, 0 ≤ k → k < 10 → mm_gI m 164 k.toNat = iI (sa D (26 + 2 * k)) ∧ mm_gI m 165 k.toNat = iI (sa D (26 + 2 * k + 1))) ∧ (∀ k, 0 ≤ k → k < 10 → mm_gI m 166 k.toNat = iI (sa D (47 + 3 * k)) ∧ mm_gI m 167 k.toNat = iI (sa D (47 + 3 * k + 1)) ∧ mm_gI m 168 k.toNat = iI (sa D (47 + 3 * k + 2))) := by
  obtain ⟨⟨a, b⟩, c, e⟩ := h
  refine ⟨a, b, fun k k0 k1 => ?_, fun k k0 k1 => ?_⟩
  · have := c k k0 k1
    rw [show (0 : Int) + 26 = 26 from rfl] at this
    exact this
  · have := e k k0 k1
    rw [show (0 : Int) + 47 = 47 from rfl] at this
    exact this
theorem RP.fP (h : RP D m) (f : Fr scP m m') : RP D m' := by
  obtain ⟨⟨a, b⟩, c, e⟩ := h
  exact ⟨⟨(f.gI rfl).trans a, (f.gI rfl).trans b⟩, fun k k0 k1 => ⟨(f.gI rfl).trans (c k k0 k1).1, (f.gI rfl).trans (c k k0 k1).2⟩, fun k k0 k1 => ⟨(f.gI rfl).trans (e k k0 k1).1, (f.gI rfl).trans (e k k0 k1).2.1, (f.gI rfl).trans (e k k0 k1).2.2⟩⟩
theorem RP.fc (h : RP D m) (f : FC m m') : RP D m' := by
  obtain ⟨⟨a, b⟩, c, e⟩ := h
  exact ⟨⟨(f.gI rfl).trans a, (f.gI rfl).trans b⟩, fun k k0 k1 => ⟨(f.gI rfl).trans (c k k0 k1).1, (f.gI rfl).trans (c k k0 k1).2⟩, fun k k0 k1 => ⟨(f.gI rfl).trans (e k k0 k1).1, (f.gI rfl).trans (e k k0 k1).2.1, (f.gI rfl).trans (e k k0 k1).2.2⟩⟩
/-- Papers.holds -/
theorem C33L (hs : Sh m) (hP : RP D m) (hT : InvT D) {a b : Int} (a0 : 0 ≤ a) (a1 : a ≤ 600) (b0 : 0 ≤ b) (b1 : b < 10) : ∀ (r : Nat) (k : Int), k = sa D 25 - r → 0 ≤ k → mm_ev d 33 2 [some (.ref 163), some (.int (iI (a))), some (.int (iI (b))), some (.int (iI (k)))] [] m = some (some (some (.int (iI (bI (allB (fun k => decide (a - b * sa D (26 + 2 * k) = sa D (26 + 2 * k + 1))) r k))))), m)
  | 0, k, hk, k0 => by
    have pf := shP hs
    obtain ⟨⟨c0, c1⟩, -⟩ := hT
    rw [sg_33_2]
    unfold allB
    simp (disch := omega) only [pf, ↓reduceIte, not_false_eq_true, not_true_eq_false, and_self, and_true, true_and, false_and, and_false, or_true, true_or, or_false, false_or, or_self, reduceCtorEq, mm_q, Option.getD_some, cI_some, cJ_some, cV_some, cS_some, kd_sI, kd_sL, kd_sR, kd_cp, ln_sI, ln_sL, ln_sR, ln_cp, gR_sI, gR_sL, gR_sR, gR_cp, gL_sI, gL_sR, gL_cp, gI_sL, gI_sR, iI_add, iI_sub, iI_mul, iI_neg, iI_in, iI_tn, iI_lt, iI_eq, Nat.reduceLeDiff, Nat.reduceEqDiff, Nat.reduceAdd, Int.reduceEq, Int.reduceLT, Int.reduceLE, Int.reduceNeg, Int.reduceAdd, Int.reduceSub, Int.reduceMul, bI_t, bI_f, decide_true, decide_false, Bool.and_true, Bool.and_false, Bool.true_and, Bool.false_and, Bool.false_eq_true, Bool.and_self, Bool.not_true, Bool.not_false, Bool.true_or, Bool.false_or, Bool.or_true, Bool.or_false, hP.e.1, show ¬ k < sa D 25 by omega]
  | r + 1, k, hk, k0 => by
    have pf := shP hs
    have hT2 := hT
    obtain ⟨⟨c0, c1⟩, hk9⟩ := hT
    obtain ⟨⟨d0, d1⟩, ⟨e0, e1⟩⟩ := hk9 k k0 (by omega)
    obtain ⟨g1, g2⟩ := hP.e.2.2.1 k k0 (by omega)
    have p0 : 0 ≤ b * sa D (26 + 2 * k) := Int.mul_nonneg b0 d0
    have p1 : b * sa D (26 + 2 * k) ≤ 10 * 60 := Int.mul_le_mul (by omega) d1 d0 (by omega)
    rw [sg_33_2]
    unfold allB
    by_cases z : a - b * sa D (26 + 2 * k) = sa D (26 + 2 * k + 1)
    · rw [decide_eq_true z, Bool.true_and]
      simp (disch := omega) only [pf, ↓reduceIte, not_false_eq_true, not_true_eq_false, and_self, and_true, true_and, false_and, and_false, or_true, true_or, or_false, false_or, or_self, reduceCtorEq, mm_q, Option.getD_some, cI_some, cJ_some, cV_some, cS_some, kd_sI, kd_sL, kd_sR, kd_cp, ln_sI, ln_sL, ln_sR, ln_cp, gR_sI, gR_sL, gR_sR, gR_cp, gL_sI, gL_sR, gL_cp, gI_sL, gI_sR, iI_add, iI_sub, iI_mul, iI_neg, iI_in, iI_tn, iI_lt, iI_eq, Nat.reduceLeDiff, Nat.reduceEqDiff, Nat.reduceAdd, Int.reduceEq, Int.reduceLT, Int.reduceLE, Int.reduceNeg, Int.reduceAdd, Int.reduceSub, Int.reduceMul, hP.e.1, show k < sa D 25 by omega, g1, g2, z]
      exact C33L hs hP hT2 a0 a1 b0 b1 r (k + 1) (by omega) (by omega)
    · rw [decide_eq_false z, Bool.false_and]
      simp (disch := omega) only [pf, ↓reduceIte, not_false_eq_true, not_true_eq_false, and_self, and_true, true_and, false_and, and_false, or_true, true_or, or_false, false_or, or_self, reduceCtorEq, mm_q, Option.getD_some, cI_some, cJ_some, cV_some, cS_some, kd_sI, kd_sL, kd_sR, kd_cp, ln_sI, ln_sL, ln_sR, ln_cp, gR_sI, gR_sL, gR_sR, gR_cp, gL_sI, gL_sR, gL_cp, gI_sL, gI_sR, iI_add, iI_sub, iI_mul, iI_neg, iI_in, iI_tn, iI_lt, iI_eq, Nat.reduceLeDiff, Nat.reduceEqDiff, Nat.reduceAdd, Int.reduceEq, Int.reduceLT, Int.reduceLE, Int.reduceNeg, Int.reduceAdd, Int.reduceSub, Int.reduceMul, bI_t, bI_f, decide_true, decide_false, Bool.and_true, Bool.and_false, Bool.true_and, Bool.false_and, Bool.false_eq_true, Bool.and_self, Bool.not_true, Bool.not_false, Bool.true_or, Bool.false_or, Bool.or_true, Bool.or_false, hP.e.1, show k < sa D 25 by omega, g1, g2, show ¬ sa D (26 + 2 * k + 1) = a - b * sa D (26 + 2 * k) from fun q => z q.symm]
theorem C33 (hs : Sh m) (hP : RP D m) (hT : InvT D) {a b : Int} (a0 : 0 ≤ a) (a1 : a ≤ 600) (b0 : 0 ≤ b) (b1 : b < 10) : mm_ev d 33 0 [some (.ref 163), some (.int (iI (a))), some (.int (iI (b))), none] [] m = some (some (some (.int (iI (bI (lawB D a b))))), m) := by
  obtain ⟨c0, c1⟩ := hT.1
  rw [sg_33_0]
  exact C33L hs hP hT a0 a1 b0 b1 (sa D 25).toNat 0 (by omega) (by omega)
/-- Papers.addLaw -/
theorem C34 (hs : Sh m) {q : Int × Int × Int32 × Bool} (hq : LSt m q) (q0 : 0 ≤ q.1) (q1 : q.1 ≤ 7000) {a b t : Int} (hb : lawB D a b = true) : ∃ m', mm_ev d 34 0 [some (.ref 163), some (.int (iI (a))), some (.int (iI (b))), some (.int (iI (t))), none] [] m = some (some none, m') ∧ Fr scP m m' ∧ LSt m' (lawStep D t b a q) := by
  have pf := shP hs
  obtain ⟨h7, h10, h8, h9⟩ := hq
  have fin : ∀ (m1 : mm_M) (x y : Int32) (ag : Bool), Fr scP m m1 → mm_gI m1 163 7 = iI q.1 → mm_gI m1 163 10 = iI (bI q.2.2.2) → mm_gI m1 163 8 = x → mm_gI m1 163 9 = y → ag = (q.2.2.2 && decide (iI (a - b * t) = y)) → mm_ev d 34 31 [some (.ref 163), some (.int (iI (a))), some (.int (iI (b))), some (.int (iI (t))), some (.int (iI (a - b * t)))] [] m1 = some (some none, mm_sI (mm_sI m1 163 10 (iI (bI ag))) 163 7 (iI (q.1 + 1))) := by
    intro m1 x y ag f1 g7 g10 g8 g9 hag
    have pf1 := shP (f1.sh hs)
    rw [sg_34_31]
    cases z : q.2.2.2
    · rw [z] at g10 hag
      simp (disch := omega) only [pf1, ↓reduceIte, not_false_eq_true, not_true_eq_false, and_self, and_true, true_and, false_and, and_false, or_true, true_or, or_false, false_or, or_self, reduceCtorEq, mm_q, Option.getD_some, cI_some, cJ_some, cV_some, cS_some, kd_sI, kd_sL, kd_sR, kd_cp, ln_sI, ln_sL, ln_sR, ln_cp, gR_sI, gR_sL, gR_sR, gR_cp, gL_sI, gL_sR, gL_cp, gI_sL, gI_sR, iI_add, iI_sub, iI_mul, iI_neg, iI_in, iI_tn, iI_lt, iI_eq, Nat.reduceLeDiff, Nat.reduceEqDiff, Nat.reduceAdd, Int.reduceEq, Int.reduceLT, Int.reduceLE, Int.reduceNeg, Int.reduceAdd, Int.reduceSub, Int.reduceMul, bI_t, bI_f, decide_true, decide_false, Bool.and_true, Bool.and_false, Bool.true_and, Bool.false_and, Bool.false_eq_true, Bool.and_self, Bool.not_true, Bool.not_false, Bool.true_or, Bool.false_or, Bool.or_true, Bool.or_false, g10, sg_34_52] at hag ⊢
      rw [sg_34_53]
      simp (disch := omega) only [pf1, ↓reduceIte, not_false_eq_true, not_true_eq_false, and_self, and_true, true_and, false_and, and_false, or_true, true_or, or_false, false_or, or_self, reduceCtorEq, mm_q, Option.getD_some, cI_some, cJ_some, cV_some, cS_some, kd_sI, kd_sL, kd_sR, kd_cp, ln_sI, ln_sL, ln_sR, ln_cp, gR_sI, gR_sL, gR_sR, gR_cp, gL_sI, gL_sR, gL_cp, gI_sL, gI_sR, iI_add, iI_sub, iI_mul, iI_neg, iI_in, iI_tn, iI_lt, iI_eq, Nat.reduceLeDiff, Nat.reduceEqDiff, Nat.reduceAdd, Int.reduceEq, Int.reduceLT, Int.reduceLE, Int.reduceNeg, Int.reduceAdd, Int.reduceSub, Int.reduceMul, bI_t, bI_f, decide_true, decide_false, Bool.and_true, Bool.and_false, Bool.true_and, Bool.false_and, Bool.false_eq_true, Bool.and_self, Bool.not_true, Bool.not_false, Bool.true_or, Bool.false_or, Bool.or_true, Bool.or_false, gI_sI, g7, hag]
    · rw [z] at g10 hag
      by_cases w : iI (a - b * t) = y
      · rw [decide_eq_true w] at hag
        simp (disch := omega) only [pf1, ↓reduceIte, not_false_eq_true, not_true_eq_false, and_self, and_true, true_and, false_and, and_false, or_true, true_or, or_false, false_or, or_self, reduceCtorEq, mm_q, Option.getD_some, cI_some, cJ_some, cV_some, cS_some, kd_sI, kd_sL, kd_sR, kd_cp, ln_sI, ln_sL, ln_sR, ln_cp, gR_sI, gR_sL, gR_sR, gR_cp, gL_sI, gL_sR, gL_cp, gI_sL, gI_sR, iI_add, iI_sub, iI_mul, iI_neg, iI_in, iI_tn, iI_lt, iI_eq, Nat.reduceLeDiff, Nat.reduceEqDiff, Nat.reduceAdd, Int.reduceEq, Int.reduceLT, Int.reduceLE, Int.reduceNeg, Int.reduceAdd, Int.reduceSub, Int.reduceMul, bI_t, bI_f, decide_true, decide_false, Bool.and_true, Bool.and_false, Bool.true_and, Bool.false_and, Bool.false_eq_true, Bool.and_self, Bool.not_true, Bool.not_false, Bool.true_or, Bool.false_or, Bool.or_true, Bool.or_false, g10, g9, w, sg_34_52] at hag ⊢
        rw [sg_34_53]
        simp (disch := omega) only [pf1, ↓reduceIte, not_false_eq_true, not_true_eq_false, and_self, and_true, true_and, false_and, and_false, or_true, true_or, or_false, false_or, or_self, reduceCtorEq, mm_q, Option.getD_some, cI_some, cJ_some, cV_some, cS_some, kd_sI, kd_sL, kd_sR, kd_cp, ln_sI, ln_sL, ln_sR, ln_cp, gR_sI, gR_sL, gR_sR, gR_cp, gL_sI, gL_sR, gL_cp, gI_sL, gI_sR, iI_add, iI_sub, iI_mul, iI_neg, iI_in, iI_tn, iI_lt, iI_eq, Nat.reduceLeDiff, Nat.reduceEqDiff, Nat.reduceAdd, Int.reduceEq, Int.reduceLT, Int.reduceLE, Int.reduceNeg, Int.reduceAdd, Int.reduceSub, Int.reduceMul, bI_t, bI_f, decide_true, decide_false, Bool.and_true, Bool.and_false, Bool.true_and, Bool.false_and, Bool.false_eq_true, Bool.and_self, Bool.not_true, Bool.not_false, Bool.true_or, Bool.false_or, Bool.or_true, Bool.or_false, gI_sI, g7, hag]
      · rw [decide_eq_false w] at hag
        simp (disch := omega) only [pf1, ↓reduceIte, not_false_eq_true, not_true_eq_false, and_self, and_true, true_and, false_and, and_false, or_true, true_or, or_false, false_or, or_self, reduceCtorEq, mm_q, Option.getD_some, cI_some, cJ_some, cV_some, cS_some, kd_sI, kd_sL, kd_sR, kd_cp, ln_sI, ln_sL, ln_sR, ln_cp, gR_sI, gR_sL, gR_sR, gR_cp, gL_sI, gL_sR, gL_cp, gI_sL, gI_sR, iI_add, iI_sub, iI_mul, iI_neg, iI_in, iI_tn, iI_lt, iI_eq, Nat.reduceLeDiff, Nat.reduceEqDiff, Nat.reduceAdd, Int.reduceEq, Int.reduceLT, Int.reduceLE, Int.reduceNeg, Int.reduceAdd, Int.reduceSub, Int.reduceMul, bI_t, bI_f, decide_true, decide_false, Bool.and_true, Bool.and_false, Bool.true_and, Bool.false_and, Bool.false_eq_true, Bool.and_self, Bool.not_true, Bool.not_false, Bool.true_or, Bool.false_or, Bool.or_true, Bool.or_false, g10, g9, w, sg_34_52] at hag ⊢
        rw [sg_34_53]
        simp (disch := omega) only [pf1, ↓reduceIte, not_false_eq_true, not_true_eq_false, and_self, and_true, true_and, false_and, and_false, or_true, true_or, or_false, false_or, or_self, reduceCtorEq, mm_q, Option.getD_some, cI_some, cJ_some, cV_some, cS_some, kd_sI, kd_sL, kd_sR, kd_cp, ln_sI, ln_sL, ln_sR, ln_cp, gR_sI, gR_sL, gR_sR, gR_cp, gL_sI, gL_sR, gL_cp, gI_sL, gI_sR, iI_add, iI_sub, iI_mul, iI_neg, iI_in, iI_tn, iI_lt, iI_eq, Nat.reduceLeDiff, Nat.reduceEqDiff, Nat.reduceAdd, Int.reduceEq, Int.reduceLT, Int.reduceLE, Int.reduceNeg, Int.reduceAdd, Int.reduceSub, Int.reduceMul, bI_t, bI_f, decide_true, decide_false, Bool.and_true, Bool.and_false, Bool.true_and, Bool.false_and, Bool.false_eq_true, Bool.and_self, Bool.not_true, Bool.not_false, Bool.true_or, Bool.false_or, Bool.or_true, Bool.or_false, gI_sI, g7, hag]
  rw [sg_34_0]
  unfold lawStep
  rw [if_pos hb]
  by_cases z : q.1 = 0
  · have f1 : Fr scP m (mm_sI (mm_sI m 163 8 (iI (b * 1000 + a))) 163 9 (iI (a - b * t))) := Fr.tr (Fr.sI rfl) (Fr.sI rfl)
    refine ⟨mm_sI (mm_sI (mm_sI (mm_sI m 163 8 (iI (b * 1000 + a))) 163 9 (iI (a - b * t))) 163 10 (iI (bI q.2.2.2))) 163 7 (iI (q.1 + 1)), ?_, (f1.tr (Fr.sI rfl)).tr (Fr.sI rfl), ?_⟩
    · have e := fin _ (iI (b * 1000 + a)) (iI (a - b * t)) q.2.2.2 f1 (by rw [gI_sI, gI_sI, if_neg (by omega), if_neg (by omega)]; exact h7) (by rw [gI_sI, gI_sI, if_neg (by omega), if_neg (by omega)]; exact h10) (by rw [gI_sI, gI_sI, if_neg (by omega), if_pos ⟨rfl, rfl⟩]) (by rw [gI_sI, if_pos ⟨rfl, rfl⟩]) (by simp)
      rw [z] at h7
      simp (disch := omega) only [pf, ↓reduceIte, not_false_eq_true, not_true_eq_false, and_self, and_true, true_and, false_and, and_false, or_true, true_or, or_false, false_or, or_self, reduceCtorEq, mm_q, Option.getD_some, cI_some, cJ_some, cV_some, cS_some, kd_sI, kd_sL, kd_sR, kd_cp, ln_sI, ln_sL, ln_sR, ln_cp, gR_sI, gR_sL, gR_sR, gR_cp, gL_sI, gL_sR, gL_cp, gI_sL, gI_sR, iI_add, iI_sub, iI_mul, iI_neg, iI_in, iI_tn, iI_lt, iI_eq, Nat.reduceLeDiff, Nat.reduceEqDiff, Nat.reduceAdd, Int.reduceEq, Int.reduceLT, Int.reduceLE, Int.reduceNeg, Int.reduceAdd, Int.reduceSub, Int.reduceMul, h7]
      exact e
    · refine ⟨by rw [gI_sI, if_pos ⟨rfl, rfl⟩], ?_, fun _ => ?_, fun _ _ => ?_⟩
      · rw [gI_sI, gI_sI, if_neg (by omega), if_pos ⟨rfl, rfl⟩, decide_eq_true z]
        simp
      · rw [gI_sI, gI_sI, gI_sI, gI_sI, if_neg (by omega), if_neg (by omega), if_neg (by omega), if_pos ⟨rfl, rfl⟩, if_pos z, Int.mul_comm]
      · rw [gI_sI, gI_sI, gI_sI, if_neg (by omega), if_neg (by omega), if_pos ⟨rfl, rfl⟩]
  · have ag : ∃ y, mm_gI m 163 9 = y ∧ (q.2.2.2 && decide (iI (a - b * t) = y)) = (q.2.2.2 && (decide (q.1 = 0) || decide (iI (a - b * t) = q.2.2.1))) := by
      refine ⟨_, rfl, ?_⟩
      rw [decide_eq_false z, Bool.false_or]
      cases w : q.2.2.2
      · rfl
      · rw [h9 (by omega) w]
    obtain ⟨y, g9, hy⟩ := ag
    refine ⟨mm_sI (mm_sI m 163 10 (iI (bI (q.2.2.2 && decide (iI (a - b * t) = y))))) 163 7 (iI (q.1 + 1)), ?_, Fr.tr (Fr.sI rfl) (Fr.sI rfl), ?_⟩
    · have e := fin m _ y _ Fr.rf h7 h10 rfl g9 rfl
      simp (disch := omega) only [pf, ↓reduceIte, not_false_eq_true, not_true_eq_false, and_self, and_true, true_and, false_and, and_false, or_true, true_or, or_false, false_or, or_self, reduceCtorEq, mm_q, Option.getD_some, cI_some, cJ_some, cV_some, cS_some, kd_sI, kd_sL, kd_sR, kd_cp, ln_sI, ln_sL, ln_sR, ln_cp, gR_sI, gR_sL, gR_sR, gR_cp, gL_sI, gL_sR, gL_cp, gI_sL, gI_sR, iI_add, iI_sub, iI_mul, iI_neg, iI_in, iI_tn, iI_lt, iI_eq, Nat.reduceLeDiff, Nat.reduceEqDiff, Nat.reduceAdd, Int.reduceEq, Int.reduceLT, Int.reduceLE, Int.reduceNeg, Int.reduceAdd, Int.reduceSub, Int.reduceMul, h7, z]
      exact e
    · refine ⟨by rw [gI_sI, if_pos ⟨rfl, rfl⟩], ?_, fun _ => ?_, fun _ w => ?_⟩
      · rw [gI_sI, gI_sI, if_neg (by omega), if_pos ⟨rfl, rfl⟩, hy]
      · rw [gI_sI, gI_sI, if_neg (by omega), if_neg (by omega), if_neg z]
        exact h8 (by omega)
      · rw [gI_sI, gI_sI, if_neg (by omega), if_neg (by omega)]
        rw [← hy, Bool.and_eq_true, decide_eq_true_eq] at w
        rw [g9, w.2]
theorem lawStep_f {what b a : Int} {q : Int × Int × Int32 × Bool} (h : lawB D a b = false) : lawStep D what b a q = q := by
  unfold lawStep
  rw [h, if_neg (by decide)]
theorem lawI_s {what b : Int} : ∀ (k : Nat) (a : Int) (q : Int × Int × Int32 × Bool), (∀ x, a ≤ x → x < a + k → lawB D x b = false) → lawI D what b k a q = q
  | 0, _, _, _ => rfl
  | k + 1, a, q, h => by
    unfold lawI
    rw [lawStep_f (h a (by omega) (by omega)), lawI_s k (a + 1) q (fun x x0 x1 => h x (by omega) (by omega))]
theorem lawI_a {what b : Int} : ∀ (k j : Nat) (a : Int) (q : Int × Int × Int32 × Bool), lawI D what b (k + j) a q = lawI D what b j (a + k) (lawI D what b k a q)
  | 0, j, a, q => by
    rw [Nat.zero_add]
    unfold lawI
    congr 1
    simp
  | k + 1, j, a, q => by
    rw [show k + 1 + j = (k + j) + 1 by omega]
    show lawI D what b (k + j) (a + 1) (lawStep D what b a q) = _
    rw [lawI_a k j (a + 1)]
    show _ = lawI D what b j (a + (k + 1 : Nat)) (lawI D what b k (a + 1) (lawStep D what b a q))
    congr 1
    omega
theorem lawI_1 {what b x : Int} (x0 : 0 ≤ x) (x1 : x ≤ 600) {q : Int × Int × Int32 × Bool} (h : ∀ y, ¬ y = x → lawB D y b = false) : lawI D what b 601 0 q = lawStep D what b x q := by
  have e : 601 = x.toNat + (1 + (600 - x.toNat)) := by omega
  rw [e, lawI_a, lawI_s x.toNat 0 q (fun y y0 y1 => h y (by omega)), lawI_a, show (0 : Int) + (x.toNat : Nat) = x by omega]
  rw [lawI_s (600 - x.toNat) _ _ (fun y y0 y1 => h y (by omega))]
  rfl
theorem law_1 (hT : InvT D) (h0 : ¬ sa D 25 = 0) {b y : Int} (h : ¬ y = sa D 27 + b * sa D 26) : lawB D y b = false := by
  obtain ⟨⟨c0, c1⟩, -⟩ := hT
  unfold lawB
  rw [show (sa D 25).toNat = ((sa D 25).toNat - 1) + 1 by omega]
  unfold allB
  rw [decide_eq_false (show ¬ y - b * sa D (26 + 2 * 0) = sa D (26 + 2 * 0 + 1) by
    show ¬ y - b * sa D 26 = sa D 27
    omega), Bool.false_and]
end
