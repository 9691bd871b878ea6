def lpS (D : Nat → Nat → Int32) (c : Int → Int) (i b t : Int) : Int := placeS D (c i) (sa D (1 + c i)) (sa D (9 + c i)) b (tempoS D (c i) (sa D 0)) t
def holdS (D : Nat → Nat → Int32) (c : Int → Int) (i a : Int) : Bool := allB (fun q => !decide (mu D q 0 = c i) || decide (lpS D c i a (te D (mu D q 1)) = mu D q 2)) (st D 7).toNat 0
def togS (D : Nat → Nat → Int32) (c : Int → Int) (i a k b : Int) : Bool := if wk D (c i) 1 = wk D (c k) 1 then allB (fun t => decide (lpS D c i a t < 0) || !decide (lpS D c i a t = lpS D c k b t)) 601 0 else true
def fitS (D : Nat → Nat → Int32) (c : Int → Int) (i a k b : Int) : Bool := holdS D c i a && (holdS D c k b && togS D c i a k b)
/-- who is chosen -/
def Cho (D : Nat → Nat → Int32) (m : mm_M) (n : Int) (c : Int → Int) : Prop := mm_gI m 316 35 = iI n ∧ ∀ i, 0 ≤ i → i < n → mm_gI m 334 i.toNat = iI (c i) ∧ mm_gI m 335 i.toNat = iI (tempoS D (c i) (sa D 0))
def coK (D : Nat → Nat → Int32) (n : Int) (c : Int → Int) : Prop := (0 ≤ n ∧ n ≤ 4) ∧ ∀ i, 0 ≤ i → i < n → 0 ≤ c i ∧ c i < st D 6
def scF (a k : Nat) : Bool := Nat.beq a 336 || Nat.beq a 337
def HOL (D : Nat → Nat → Int32) (c : Int → Int) (m : mm_M) (i a : Int) : Prop := mm_gI m 337 (24 * i + a).toNat = iI (bI (holdS D c i a))
def FIT (D : Nat → Nat → Int32) (c : Int → Int) (m : mm_M) (i a k b : Int) : Prop := mm_gI m 336 (24 * (24 * (4 * i + k) + a) + b).toNat = iI (bI (fitS D c i a k b))
def Lay (D : Nat → Nat → Int32) (c : Int → Int) (m : mm_M) (i a : Int) : Prop := ∀ x y, 0 ≤ x → 0 ≤ y → y < 24 → (x < i ∨ (x = i ∧ y < a)) → HOL D c m x y ∧ ∀ k b, 0 ≤ k → k < x → 0 ≤ b → b < 24 → FIT D c m x y k b
def Inn (D : Nat → Nat → Int32) (c : Int → Int) (m : mm_M) (i a k b : Int) : Prop := Lay D c m i a ∧ HOL D c m i a ∧ ∀ x y, 0 ≤ x → x < i → 0 ≤ y → y < 24 → (x < k ∨ (x = k ∧ y < b)) → FIT D c m i a x y
section
variable {D : Nat → Nat → Int32} {E : Nat → Nat → Int64} {m m' m'' : mm_M} {d : Nat} {n : Int} {c : Int → Int}
theorem scF_M {a k : Nat} (h : scM a k = false) : scF a k = false := by
  unfold scF
  cases e1 : Nat.beq a 336
  · cases e2 : Nat.beq a 337
    · rfl
    · rw [Nat.eq_of_beq_eq_true e2] at h
      exact absurd h (by simp [scM, pmI, pmL])
  · rw [Nat.eq_of_beq_eq_true e1] at h
    exact absurd h (by simp [scM, pmI, pmL])
theorem Fr.FM (h : Fr scF m m') : Fr scM m m' := h.mono (fun _ _ => scF_M)
theorem Cho.frF (h : Cho D m n c) (f : Fr scF m m') : Cho D m' n c := ⟨(f.gI rfl).trans h.1, fun i i0 i1 => ⟨(f.gI rfl).trans (h.2 i i0 i1).1, (f.gI rfl).trans (h.2 i i0 i1).2⟩⟩
theorem lpS_r (hI : InvS D) (hIB : InvB D (sa D)) (hc : coK D n c) {i b t : Int} (i0 : 0 ≤ i) (i1 : i < n) : -1 ≤ lpS D c i b t ∧ lpS D c i b t < st D 0 := by
  obtain ⟨w0, w1⟩ := hc.2 i i0 i1
  obtain ⟨⟨s0, s1⟩, -⟩ := hIB.2 _ w0 w1
  have := tempoS_r hI (take := sa D 0) w0 w1
  exact placeS_r hI s0 s1 (by omega)
/-- laggedPlace -/
theorem M248 (h : MD D E m) (hI : InvS D) (hIB : InvB D (sa D)) (hC : Cho D m n c) (hc : coK D n c) (hd : 4 ≤ d) {i b t : Int} (i0 : 0 ≤ i) (i1 : i < n) (b0 : 0 ≤ b) (b1 : b < 24) (t0 : 0 ≤ t) (t1 : t ≤ 600) : mm_ev d 248 0 [some (.ref 316), some (.int (iI (i))), some (.int (iI (b))), some (.int (iI (t))), none] [] m = some (some (some (.int (iI (lpS D c i b t)))), m) := by
  obtain ⟨w0, w1⟩ := hc.2 i i0 i1
  obtain ⟨n0, n1⟩ := hc.1
  obtain ⟨e1, e2⟩ := hC.2 i i0 i1
  obtain ⟨k0, k1⟩ := hI.2.2.2.2.2.1
  obtain ⟨⟨s0, s1⟩, ⟨r0, r1⟩, -⟩ := hIB.2 _ w0 w1
  have tr := tempoS_r hI (take := sa D 0) w0 w1
  rw [sg_248_0 (by omega)]
  unfold lpS
  simp (disch := omega) only [shM h.1, ↓reduceIte, not_false_eq_true, not_true_eq_false, and_self, and_true, true_and, false_and, and_false, or_true, true_or, or_false, false_or, or_self, reduceCtorEq, mm_q, Option.getD_some, cI_some, cJ_some, cV_some, cS_some, kd_sI, kd_sL, kd_sR, kd_cp, ln_sI, ln_sL, ln_sR, ln_cp, gR_sI, gR_sL, gR_sR, gR_cp, gL_sI, gL_sR, gL_cp, gI_sL, gI_sR, iI_add, iI_sub, iI_mul, iI_neg, iI_in, iI_tn, iI_lt, iI_eq, Nat.reduceLeDiff, Nat.reduceEqDiff, Nat.reduceAdd, Int.reduceEq, Int.reduceLT, Int.reduceLE, Int.reduceNeg, Int.reduceAdd, Int.reduceSub, Int.reduceMul, e1, e2, MD_sa h, M207 h hI]
/-- doHold -/
theorem M247L (h : MD D E m) (hI : InvS D) (hIB : InvB D (sa D)) (hC : Cho D m n c) (hc : coK D n c) (hd : 6 ≤ d) {i a : Int} (i0 : 0 ≤ i) (i1 : i < n) (a0 : 0 ≤ a) (a1 : a < 24) : ∀ (k : Nat) (q : Int) (is : Bool), q = st D 7 - k → 0 ≤ q → mm_ev d 247 5 [some (.ref 316), some (.int (iI (i))), some (.int (iI (a))), some (.int (iI (bI is))), some (.int (iI (q)))] [] m = some (some (some (.int (iI (bI (is && allB (fun q => !decide (mu D q 0 = c i) || decide (lpS D c i a (te D (mu D q 1)) = mu D q 2)) k q))))), m)
  | 0, q, is, hq, q0 => by
    obtain ⟨p0, p1⟩ := hI.2.2.2.2.2.2.1
    rw [sg_247_5 (by omega)]
    simp (disch := omega) only [shM h.1, ↓reduceIte, not_false_eq_true, not_true_eq_false, and_self, and_true, true_and, reduceCtorEq, mm_q, Option.getD_some, cI_some, cJ_some, cV_some, cS_some, Nat.reduceLeDiff, Nat.reduceEqDiff, M228 h]
    rw [sg_247_11 (by omega)]
    unfold allB
    cases is <;> simp (disch := omega) only [↓reduceIte, not_false_eq_true, not_true_eq_false, and_self, and_true, true_and, false_and, and_false, or_true, true_or, or_false, false_or, or_self, reduceCtorEq, mm_q, Option.getD_some, cI_some, cJ_some, cV_some, cS_some, kd_sI, kd_sL, kd_sR, kd_cp, ln_sI, ln_sL, ln_sR, ln_cp, gR_sI, gR_sL, gR_sR, gR_cp, gL_sI, gL_sR, gL_cp, gI_sL, gI_sR, iI_add, iI_sub, iI_mul, iI_neg, iI_in, iI_tn, iI_lt, iI_eq, Nat.reduceLeDiff, Nat.reduceEqDiff, Nat.reduceAdd, Int.reduceEq, Int.reduceLT, Int.reduceLE, Int.reduceNeg, Int.reduceAdd, Int.reduceSub, Int.reduceMul, bI_t, bI_f, decide_true, decide_false, Bool.and_true, Bool.and_false, Bool.true_and, Bool.false_and, Bool.false_eq_true, Bool.and_self, Bool.not_true, Bool.not_false, Bool.true_or, Bool.false_or, Bool.or_true, Bool.or_false, show ¬ q < st D 7 by omega]
  | k + 1, q, is, hq, q0 => by
    obtain ⟨p0, p1⟩ := hI.2.2.2.2.2.2.1
    obtain ⟨v0, v1⟩ := hI.2.2.2.2.1
    obtain ⟨w0, w1⟩ := hc.2 i i0 i1
    obtain ⟨n0, n1⟩ := hc.1
    obtain ⟨e1, -⟩ := hC.2 i i0 i1
    obtain ⟨k0, k1⟩ := hI.2.2.2.2.2.1
    obtain ⟨x0, x1⟩ := hI.1
    have q1 : q < st D 7 := by omega
    obtain ⟨⟨a0', a1'⟩, ⟨b0, b1⟩, ⟨d0, d1⟩⟩ := hI.2.2.2.2.2.2.2.2.2.2 q q0 q1
    obtain ⟨t0, t1⟩ := hI.2.2.2.2.2.2.2.2.1 _ b0 b1
    have lr := lpS_r hI hIB hc (b := a) (t := te D (mu D q 1)) i0 i1
    have ih := fun is => M247L h hI hIB hC hc hd i0 i1 a0 a1 k (q + 1) is (by omega) (by omega)
    rw [sg_247_5 (by omega)]
    simp (disch := omega) only [shM h.1, ↓reduceIte, not_false_eq_true, not_true_eq_false, and_self, and_true, true_and, reduceCtorEq, mm_q, Option.getD_some, cI_some, cJ_some, cV_some, cS_some, Nat.reduceLeDiff, Nat.reduceEqDiff, M228 h]
    rw [sg_247_11 (by omega)]
    unfold allB
    cases is with
    | false =>
      have e := ih false
      simp (disch := omega) only [↓reduceIte, not_false_eq_true, not_true_eq_false, and_self, and_true, true_and, false_and, and_false, or_true, true_or, or_false, false_or, or_self, reduceCtorEq, mm_q, Option.getD_some, cI_some, cJ_some, cV_some, cS_some, kd_sI, kd_sL, kd_sR, kd_cp, ln_sI, ln_sL, ln_sR, ln_cp, gR_sI, gR_sL, gR_sR, gR_cp, gL_sI, gL_sR, gL_cp, gI_sL, gI_sR, iI_add, iI_sub, iI_mul, iI_neg, iI_in, iI_tn, iI_lt, iI_eq, Nat.reduceLeDiff, Nat.reduceEqDiff, Nat.reduceAdd, Int.reduceEq, Int.reduceLT, Int.reduceLE, Int.reduceNeg, Int.reduceAdd, Int.reduceSub, Int.reduceMul, bI_t, bI_f, decide_true, decide_false, Bool.and_true, Bool.and_false, Bool.true_and, Bool.false_and, Bool.false_eq_true, Bool.and_self, Bool.not_true, Bool.not_false, Bool.true_or, Bool.false_or, Bool.or_true, Bool.or_false, q1, sg_247_65, sg_247_66] at e ⊢
      exact e
    | true =>
      simp (disch := omega) only [shM h.1, ↓reduceIte, not_false_eq_true, not_true_eq_false, and_self, and_true, true_and, false_and, and_false, or_true, true_or, or_false, false_or, or_self, reduceCtorEq, mm_q, Option.getD_some, cI_some, cJ_some, cV_some, cS_some, kd_sI, kd_sL, kd_sR, kd_cp, ln_sI, ln_sL, ln_sR, ln_cp, gR_sI, gR_sL, gR_sR, gR_cp, gL_sI, gL_sR, gL_cp, gI_sL, gI_sR, iI_add, iI_sub, iI_mul, iI_neg, iI_in, iI_tn, iI_lt, iI_eq, Nat.reduceLeDiff, Nat.reduceEqDiff, Nat.reduceAdd, Int.reduceEq, Int.reduceLT, Int.reduceLE, Int.reduceNeg, Int.reduceAdd, Int.reduceSub, Int.reduceMul, bI_t, bI_f, decide_true, decide_false, Bool.and_true, Bool.and_false, Bool.true_and, Bool.false_and, Bool.false_eq_true, Bool.and_self, Bool.not_true, Bool.not_false, Bool.true_or, Bool.false_or, Bool.or_true, Bool.or_false, q1, M230 h]
      rw [sg_247_25 (by omega)]
      by_cases z1 : mu D q 0 = c i
      · simp (disch := omega) only [shM h.1, ↓reduceIte, not_false_eq_true, not_true_eq_false, and_self, and_true, true_and, false_and, and_false, or_true, true_or, or_false, false_or, or_self, reduceCtorEq, mm_q, Option.getD_some, cI_some, cJ_some, cV_some, cS_some, kd_sI, kd_sL, kd_sR, kd_cp, ln_sI, ln_sL, ln_sR, ln_cp, gR_sI, gR_sL, gR_sR, gR_cp, gL_sI, gL_sR, gL_cp, gI_sL, gI_sR, iI_add, iI_sub, iI_mul, iI_neg, iI_in, iI_tn, iI_lt, iI_eq, Nat.reduceLeDiff, Nat.reduceEqDiff, Nat.reduceAdd, Int.reduceEq, Int.reduceLT, Int.reduceLE, Int.reduceNeg, Int.reduceAdd, Int.reduceSub, Int.reduceMul, e1, z1, M230 h, M210 h]
        rw [sg_247_48 (by omega)]
        simp (disch := omega) only [shM h.1, ↓reduceIte, not_false_eq_true, not_true_eq_false, and_self, and_true, true_and, reduceCtorEq, mm_q, Option.getD_some, cI_some, cJ_some, cV_some, cS_some, Nat.reduceLeDiff, Nat.reduceEqDiff, M248 h hI hIB hC hc]
        rw [sg_247_51 (by omega)]
        by_cases z2 : lpS D c i a (te D (mu D q 1)) = mu D q 2
        · have e := ih true
          simp (disch := omega) only [shM h.1, ↓reduceIte, not_false_eq_true, not_true_eq_false, and_self, and_true, true_and, false_and, and_false, or_true, true_or, or_false, false_or, or_self, reduceCtorEq, mm_q, Option.getD_some, cI_some, cJ_some, cV_some, cS_some, kd_sI, kd_sL, kd_sR, kd_cp, ln_sI, ln_sL, ln_sR, ln_cp, gR_sI, gR_sL, gR_sR, gR_cp, gL_sI, gL_sR, gL_cp, gI_sL, gI_sR, iI_add, iI_sub, iI_mul, iI_neg, iI_in, iI_tn, iI_lt, iI_eq, Nat.reduceLeDiff, Nat.reduceEqDiff, Nat.reduceAdd, Int.reduceEq, Int.reduceLT, Int.reduceLE, Int.reduceNeg, Int.reduceAdd, Int.reduceSub, Int.reduceMul, bI_t, bI_f, decide_true, decide_false, Bool.and_true, Bool.and_false, Bool.true_and, Bool.false_and, Bool.false_eq_true, Bool.and_self, Bool.not_true, Bool.not_false, Bool.true_or, Bool.false_or, Bool.or_true, Bool.or_false, M230 h, z1, z2, sg_247_61, sg_247_66, Bool.or_true] at e ⊢
          exact e
        · have e := ih false
          simp (disch := omega) only [shM h.1, ↓reduceIte, not_false_eq_true, not_true_eq_false, and_self, and_true, true_and, false_and, and_false, or_true, true_or, or_false, false_or, or_self, reduceCtorEq, mm_q, Option.getD_some, cI_some, cJ_some, cV_some, cS_some, kd_sI, kd_sL, kd_sR, kd_cp, ln_sI, ln_sL, ln_sR, ln_cp, gR_sI, gR_sL, gR_sR, gR_cp, gL_sI, gL_sR, gL_cp, gI_sL, gI_sR, iI_add, iI_sub, iI_mul, iI_neg, iI_in, iI_tn, iI_lt, iI_eq, Nat.reduceLeDiff, Nat.reduceEqDiff, Nat.reduceAdd, Int.reduceEq, Int.reduceLT, Int.reduceLE, Int.reduceNeg, Int.reduceAdd, Int.reduceSub, Int.reduceMul, bI_t, bI_f, decide_true, decide_false, Bool.and_true, Bool.and_false, Bool.true_and, Bool.false_and, Bool.false_eq_true, Bool.and_self, Bool.not_true, Bool.not_false, Bool.true_or, Bool.false_or, Bool.or_true, Bool.or_false, M230 h, z1, z2, sg_247_65, sg_247_66, Bool.or_self] at e ⊢
          exact e
      · have e := ih true
        simp (disch := omega) only [shM h.1, ↓reduceIte, not_false_eq_true, not_true_eq_false, and_self, and_true, true_and, false_and, and_false, or_true, true_or, or_false, false_or, or_self, reduceCtorEq, mm_q, Option.getD_some, cI_some, cJ_some, cV_some, cS_some, kd_sI, kd_sL, kd_sR, kd_cp, ln_sI, ln_sL, ln_sR, ln_cp, gR_sI, gR_sL, gR_sR, gR_cp, gL_sI, gL_sR, gL_cp, gI_sL, gI_sR, iI_add, iI_sub, iI_mul, iI_neg, iI_in, iI_tn, iI_lt, iI_eq, Nat.reduceLeDiff, Nat.reduceEqDiff, Nat.reduceAdd, Int.reduceEq, Int.reduceLT, Int.reduceLE, Int.reduceNeg, Int.reduceAdd, Int.reduceSub, Int.reduceMul, bI_t, bI_f, decide_true, decide_false, Bool.and_true, Bool.and_false, Bool.true_and, Bool.false_and, Bool.false_eq_true, Bool.and_self, Bool.not_true, Bool.not_false, Bool.true_or, Bool.false_or, Bool.or_true, Bool.or_false, e1, z1, sg_247_61, sg_247_66, Bool.true_or] at e ⊢
        exact e
theorem M247 (h : MD D E m) (hI : InvS D) (hIB : InvB D (sa D)) (hC : Cho D m n c) (hc : coK D n c) (hd : 6 ≤ d) {i a : Int} (i0 : 0 ≤ i) (i1 : i < n) (a0 : 0 ≤ a) (a1 : a < 24) : mm_ev d 247 0 [some (.ref 316), some (.int (iI (i))), some (.int (iI (a))), none, none] [] m = some (some (some (.int (iI (bI (holdS D c i a))))), m) := by
  obtain ⟨p0, p1⟩ := hI.2.2.2.2.2.2.1
  have := M247L (d := d) h hI hIB hC hc hd i0 i1 a0 a1 (st D 7).toNat 0 true (by omega) (by omega)
  rw [Bool.true_and] at this
  rw [sg_247_0]
  exact this
/-- goTogether -/
theorem M250L (h : MD D E m) (hI : InvS D) (hIB : InvB D (sa D)) (hC : Cho D m n c) (hc : coK D n c) (hd : 6 ≤ d) {i a k b : Int} (i0 : 0 ≤ i) (i1 : i < n) (a0 : 0 ≤ a) (a1 : a < 24) (k0 : 0 ≤ k) (k1 : k < n) (b0 : 0 ≤ b) (b1 : b < 24) (hl : wk D (c i) 1 = wk D (c k) 1) : ∀ (r : Nat) (t : Int) (is : Bool) (z : Option Value), t = 601 - r → 0 ≤ t → mm_ev d 250 6 [some (.ref 316), some (.int (iI (i))), some (.int (iI (a))), some (.int (iI (k))), some (.int (iI (b))), some (.int (iI (bI is))), some (.int (iI (t))), z] [] m = some (some (some (.int (iI (bI (is && allB (fun t => decide (lpS D c i a t < 0) || !decide (lpS D c i a t = lpS D c k b t)) r t))))), m)
  | 0, t, is, z, ht, t0 => by
    rw [sg_250_6 (by omega)]
    unfold allB
    cases is <;> simp (disch := omega) only [↓reduceIte, not_false_eq_true, not_true_eq_false, and_self, and_true, true_and, false_and, and_false, or_true, true_or, or_false, false_or, or_self, reduceCtorEq, mm_q, Option.getD_some, cI_some, cJ_some, cV_some, cS_some, kd_sI, kd_sL, kd_sR, kd_cp, ln_sI, ln_sL, ln_sR, ln_cp, gR_sI, gR_sL, gR_sR, gR_cp, gL_sI, gL_sR, gL_cp, gI_sL, gI_sR, iI_add, iI_sub, iI_mul, iI_neg, iI_in, iI_tn, iI_lt, iI_eq, Nat.reduceLeDiff, Nat.reduceEqDiff, Nat.reduceAdd, Int.reduceEq, Int.reduceLT, Int.reduceLE, Int.reduceNeg, Int.reduceAdd, Int.reduceSub, Int.reduceMul, bI_t, bI_f, decide_true, decide_false, Bool.and_true, Bool.and_false, Bool.true_and, Bool.false_and, Bool.false_eq_true, Bool.and_self, Bool.not_true, Bool.not_false, Bool.true_or, Bool.false_or, Bool.or_true, Bool.or_false, show 600 < t by omega]
  | r + 1, t, is, z, ht, t0 => by
    obtain ⟨w0, w1⟩ := hc.2 i i0 i1
    obtain ⟨y0, y1⟩ := hc.2 k k0 k1
    obtain ⟨n0, n1⟩ := hc.1
    obtain ⟨e1, -⟩ := hC.2 i i0 i1
    obtain ⟨e2, -⟩ := hC.2 k k0 k1
    obtain ⟨q0, q1⟩ := hI.2.2.2.2.2.1
    obtain ⟨x0, x1⟩ := hI.1
    obtain ⟨u0, u1⟩ := hI.2.1
    have g1 := (hI.2.2.2.2.2.2.2.2.2.1 _ y0 y1).2.1
    have lr := lpS_r hI hIB hc (b := a) (t := t) i0 i1
    have lr2 := lpS_r hI hIB hc (b := b) (t := t) k0 k1
    have ih := fun is z => M250L h hI hIB hC hc hd i0 i1 a0 a1 k0 k1 b0 b1 hl r (t + 1) is z (by omega) (by omega)
    rw [sg_250_6 (by omega)]
    unfold allB
    cases is with
    | false => simp (disch := omega) only [↓reduceIte, not_false_eq_true, not_true_eq_false, and_self, and_true, true_and, false_and, and_false, or_true, true_or, or_false, false_or, or_self, reduceCtorEq, mm_q, Option.getD_some, cI_some, cJ_some, cV_some, cS_some, kd_sI, kd_sL, kd_sR, kd_cp, ln_sI, ln_sL, ln_sR, ln_cp, gR_sI, gR_sL, gR_sR, gR_cp, gL_sI, gL_sR, gL_cp, gI_sL, gI_sR, iI_add, iI_sub, iI_mul, iI_neg, iI_in, iI_tn, iI_lt, iI_eq, Nat.reduceLeDiff, Nat.reduceEqDiff, Nat.reduceAdd, Int.reduceEq, Int.reduceLT, Int.reduceLE, Int.reduceNeg, Int.reduceAdd, Int.reduceSub, Int.reduceMul, bI_t, bI_f, decide_true, decide_false, Bool.and_true, Bool.and_false, Bool.true_and, Bool.false_and, Bool.false_eq_true, Bool.and_self, Bool.not_true, Bool.not_false, Bool.true_or, Bool.false_or, Bool.or_true, Bool.or_false, show ¬ 600 < t by omega]
    | true =>
      simp (disch := omega) only [shM h.1, ↓reduceIte, not_false_eq_true, not_true_eq_false, and_self, and_true, true_and, false_and, and_false, or_true, true_or, or_false, false_or, or_self, reduceCtorEq, mm_q, Option.getD_some, cI_some, cJ_some, cV_some, cS_some, kd_sI, kd_sL, kd_sR, kd_cp, ln_sI, ln_sL, ln_sR, ln_cp, gR_sI, gR_sL, gR_sR, gR_cp, gL_sI, gL_sR, gL_cp, gI_sL, gI_sR, iI_add, iI_sub, iI_mul, iI_neg, iI_in, iI_tn, iI_lt, iI_eq, Nat.reduceLeDiff, Nat.reduceEqDiff, Nat.reduceAdd, Int.reduceEq, Int.reduceLT, Int.reduceLE, Int.reduceNeg, Int.reduceAdd, Int.reduceSub, Int.reduceMul, bI_t, bI_f, decide_true, decide_false, Bool.and_true, Bool.and_false, Bool.true_and, Bool.false_and, Bool.false_eq_true, Bool.and_self, Bool.not_true, Bool.not_false, Bool.true_or, Bool.false_or, Bool.or_true, Bool.or_false, show ¬ 600 < t by omega, e1, M162 h]
      rw [sg_250_30 (by omega)]
      simp (disch := omega) only [shM h.1, ↓reduceIte, not_false_eq_true, not_true_eq_false, and_self, and_true, true_and, false_and, and_false, or_true, true_or, or_false, false_or, or_self, reduceCtorEq, mm_q, Option.getD_some, cI_some, cJ_some, cV_some, cS_some, kd_sI, kd_sL, kd_sR, kd_cp, ln_sI, ln_sL, ln_sR, ln_cp, gR_sI, gR_sL, gR_sR, gR_cp, gL_sI, gL_sR, gL_cp, gI_sL, gI_sR, iI_add, iI_sub, iI_mul, iI_neg, iI_in, iI_tn, iI_lt, iI_eq, Nat.reduceLeDiff, Nat.reduceEqDiff, Nat.reduceAdd, Int.reduceEq, Int.reduceLT, Int.reduceLE, Int.reduceNeg, Int.reduceAdd, Int.reduceSub, Int.reduceMul, e2, M162 h]
      rw [sg_250_41 (by omega), hl]
      simp (disch := omega) only [shM h.1, ↓reduceIte, not_false_eq_true, not_true_eq_false, and_self, and_true, true_and, false_and, and_false, or_true, true_or, or_false, false_or, or_self, reduceCtorEq, mm_q, Option.getD_some, cI_some, cJ_some, cV_some, cS_some, kd_sI, kd_sL, kd_sR, kd_cp, ln_sI, ln_sL, ln_sR, ln_cp, gR_sI, gR_sL, gR_sR, gR_cp, gL_sI, gL_sR, gL_cp, gI_sL, gI_sR, iI_add, iI_sub, iI_mul, iI_neg, iI_in, iI_tn, iI_lt, iI_eq, Nat.reduceLeDiff, Nat.reduceEqDiff, Nat.reduceAdd, Int.reduceEq, Int.reduceLT, Int.reduceLE, Int.reduceNeg, Int.reduceAdd, Int.reduceSub, Int.reduceMul, M248 h hI hIB hC hc]
      rw [sg_250_52 (by omega)]
      by_cases z1 : lpS D c i a t < 0
      · have e := ih true (some (.int (iI (lpS D c i a t))))
        simp (disch := omega) only [↓reduceIte, not_false_eq_true, not_true_eq_false, and_self, and_true, true_and, false_and, and_false, or_true, true_or, or_false, false_or, or_self, reduceCtorEq, mm_q, Option.getD_some, cI_some, cJ_some, cV_some, cS_some, kd_sI, kd_sL, kd_sR, kd_cp, ln_sI, ln_sL, ln_sR, ln_cp, gR_sI, gR_sL, gR_sR, gR_cp, gL_sI, gL_sR, gL_cp, gI_sL, gI_sR, iI_add, iI_sub, iI_mul, iI_neg, iI_in, iI_tn, iI_lt, iI_eq, Nat.reduceLeDiff, Nat.reduceEqDiff, Nat.reduceAdd, Int.reduceEq, Int.reduceLT, Int.reduceLE, Int.reduceNeg, Int.reduceAdd, Int.reduceSub, Int.reduceMul, bI_t, bI_f, decide_true, decide_false, Bool.and_true, Bool.and_false, Bool.true_and, Bool.false_and, Bool.false_eq_true, Bool.and_self, Bool.not_true, Bool.not_false, Bool.true_or, Bool.false_or, Bool.or_true, Bool.or_false, z1, sg_250_73, sg_250_78, Bool.true_or] at e ⊢
        exact e
      · by_cases z2 : lpS D c i a t = lpS D c k b t
        · have e := ih false (some (.int (iI (lpS D c i a t))))
          have z3 : ¬ lpS D c k b t < 0 := by omega
          simp (disch := omega) only [shM h.1, ↓reduceIte, not_false_eq_true, not_true_eq_false, and_self, and_true, true_and, false_and, and_false, or_true, true_or, or_false, false_or, or_self, reduceCtorEq, mm_q, Option.getD_some, cI_some, cJ_some, cV_some, cS_some, kd_sI, kd_sL, kd_sR, kd_cp, ln_sI, ln_sL, ln_sR, ln_cp, gR_sI, gR_sL, gR_sR, gR_cp, gL_sI, gL_sR, gL_cp, gI_sL, gI_sR, iI_add, iI_sub, iI_mul, iI_neg, iI_in, iI_tn, iI_lt, iI_eq, Nat.reduceLeDiff, Nat.reduceEqDiff, Nat.reduceAdd, Int.reduceEq, Int.reduceLT, Int.reduceLE, Int.reduceNeg, Int.reduceAdd, Int.reduceSub, Int.reduceMul, bI_t, bI_f, decide_true, decide_false, Bool.and_true, Bool.and_false, Bool.true_and, Bool.false_and, Bool.false_eq_true, Bool.and_self, Bool.not_true, Bool.not_false, Bool.true_or, Bool.false_or, Bool.or_true, Bool.or_false, z1, z2, z3, M248 h hI hIB hC hc, sg_250_78, Bool.or_self] at e ⊢
          exact e
        · have e := ih true (some (.int (iI (lpS D c i a t))))
          simp (disch := omega) only [shM h.1, ↓reduceIte, not_false_eq_true, not_true_eq_false, and_self, and_true, true_and, false_and, and_false, or_true, true_or, or_false, false_or, or_self, reduceCtorEq, mm_q, Option.getD_some, cI_some, cJ_some, cV_some, cS_some, kd_sI, kd_sL, kd_sR, kd_cp, ln_sI, ln_sL, ln_sR, ln_cp, gR_sI, gR_sL, gR_sR, gR_cp, gL_sI, gL_sR, gL_cp, gI_sL, gI_sR, iI_add, iI_sub, iI_mul, iI_neg, iI_in, iI_tn, iI_lt, iI_eq, Nat.reduceLeDiff, Nat.reduceEqDiff, Nat.reduceAdd, Int.reduceEq, Int.reduceLT, Int.reduceLE, Int.reduceNeg, Int.reduceAdd, Int.reduceSub, Int.reduceMul, bI_t, bI_f, decide_true, decide_false, Bool.and_true, Bool.and_false, Bool.true_and, Bool.false_and, Bool.false_eq_true, Bool.and_self, Bool.not_true, Bool.not_false, Bool.true_or, Bool.false_or, Bool.or_true, Bool.or_false, z1, z2, M248 h hI hIB hC hc, sg_250_73, sg_250_78, Bool.or_true] at e ⊢
          exact e
theorem M250 (h : MD D E m) (hI : InvS D) (hIB : InvB D (sa D)) (hC : Cho D m n c) (hc : coK D n c) (hd : 6 ≤ d) {i a k b : Int} (i0 : 0 ≤ i) (i1 : i < n) (a0 : 0 ≤ a) (a1 : a < 24) (k0 : 0 ≤ k) (k1 : k < n) (b0 : 0 ≤ b) (b1 : b < 24) : mm_ev d 250 0 [some (.ref 316), some (.int (iI (i))), some (.int (iI (a))), some (.int (iI (k))), some (.int (iI (b))), none, none, none] [] m = some (some (some (.int (iI (bI (togS D c i a k b))))), m) := by
  rw [sg_250_0]
  unfold togS
  by_cases z : wk D (c i) 1 = wk D (c k) 1
  · have := M250L (d := d) h hI hIB hC hc hd i0 i1 a0 a1 k0 k1 b0 b1 z 601 0 true none (by omega) (by omega)
    rw [Bool.true_and] at this
    rw [if_pos z]
    exact this
  · obtain ⟨w0, w1⟩ := hc.2 i i0 i1
    obtain ⟨y0, y1⟩ := hc.2 k k0 k1
    obtain ⟨n0, n1⟩ := hc.1
    obtain ⟨e1, -⟩ := hC.2 i i0 i1
    obtain ⟨e2, -⟩ := hC.2 k k0 k1
    obtain ⟨q0, q1⟩ := hI.2.2.2.2.2.1
    obtain ⟨u0, u1⟩ := hI.2.1
    have g1 := (hI.2.2.2.2.2.2.2.2.2.1 _ y0 y1).2.1
    have g2 := (hI.2.2.2.2.2.2.2.2.2.1 _ w0 w1).2.1
    rw [if_neg z, sg_250_6 (by omega)]
    simp (disch := omega) only [shM h.1, ↓reduceIte, not_false_eq_true, not_true_eq_false, and_self, and_true, true_and, false_and, and_false, or_true, true_or, or_false, false_or, or_self, reduceCtorEq, mm_q, Option.getD_some, cI_some, cJ_some, cV_some, cS_some, kd_sI, kd_sL, kd_sR, kd_cp, ln_sI, ln_sL, ln_sR, ln_cp, gR_sI, gR_sL, gR_sR, gR_cp, gL_sI, gL_sR, gL_cp, gI_sL, gI_sR, iI_add, iI_sub, iI_mul, iI_neg, iI_in, iI_tn, iI_lt, iI_eq, Nat.reduceLeDiff, Nat.reduceEqDiff, Nat.reduceAdd, Int.reduceEq, Int.reduceLT, Int.reduceLE, Int.reduceNeg, Int.reduceAdd, Int.reduceSub, Int.reduceMul, bI_t, bI_f, decide_true, decide_false, Bool.and_true, Bool.and_false, Bool.true_and, Bool.false_and, Bool.false_eq_true, Bool.and_self, Bool.not_true, Bool.not_false, Bool.true_or, Bool.false_or, Bool.or_true, Bool.or_false, e1, M162 h]
    rw [sg_250_30 (by omega)]
    simp (disch := omega) only [shM h.1, ↓reduceIte, not_false_eq_true, not_true_eq_false, and_self, and_true, true_and, false_and, and_false, or_true, true_or, or_false, false_or, or_self, reduceCtorEq, mm_q, Option.getD_some, cI_some, cJ_some, cV_some, cS_some, kd_sI, kd_sL, kd_sR, kd_cp, ln_sI, ln_sL, ln_sR, ln_cp, gR_sI, gR_sL, gR_sR, gR_cp, gL_sI, gL_sR, gL_cp, gI_sL, gI_sR, iI_add, iI_sub, iI_mul, iI_neg, iI_in, iI_tn, iI_lt, iI_eq, Nat.reduceLeDiff, Nat.reduceEqDiff, Nat.reduceAdd, Int.reduceEq, Int.reduceLT, Int.reduceLE, Int.reduceNeg, Int.reduceAdd, Int.reduceSub, Int.reduceMul, e2, M162 h]
    rw [sg_250_41 (by omega)]
    simp (disch := omega) only [↓reduceIte, not_false_eq_true, not_true_eq_false, and_self, and_true, true_and, false_and, and_false, or_true, true_or, or_false, false_or, or_self, reduceCtorEq, mm_q, Option.getD_some, cI_some, cJ_some, cV_some, cS_some, kd_sI, kd_sL, kd_sR, kd_cp, ln_sI, ln_sL, ln_sR, ln_cp, gR_sI, gR_sL, gR_sR, gR_cp, gL_sI, gL_sR, gL_cp, gI_sL, gI_sR, iI_add, iI_sub, iI_mul, iI_neg, iI_in, iI_tn, iI_lt, iI_eq, Nat.reduceLeDiff, Nat.reduceEqDiff, Nat.reduceAdd, Int.reduceEq, Int.reduceLT, Int.reduceLE, Int.reduceNeg, Int.reduceAdd, Int.reduceSub, Int.reduceMul, z]
theorem M249 {i a k b : Int} : mm_ev d 249 0 [some (.ref 316), some (.int (iI (i))), some (.int (iI (a))), some (.int (iI (k))), some (.int (iI (b)))] [] m = some (some (some (.int (iI (24 * (24 * (4 * i + k) + a) + b)))), m) := by
  rw [sg_249_0]
  simp (disch := omega) only [↓reduceIte, not_false_eq_true, not_true_eq_false, and_self, and_true, true_and, false_and, and_false, or_true, true_or, or_false, false_or, or_self, reduceCtorEq, mm_q, Option.getD_some, cI_some, cJ_some, cV_some, cS_some, kd_sI, kd_sL, kd_sR, kd_cp, ln_sI, ln_sL, ln_sR, ln_cp, gR_sI, gR_sL, gR_sR, gR_cp, gL_sI, gL_sR, gL_cp, gI_sL, gI_sR, iI_add, iI_sub, iI_mul, iI_neg, iI_in, iI_tn, iI_lt, iI_eq, Nat.reduceLeDiff, Nat.reduceEqDiff, Nat.reduceAdd, Int.reduceEq, Int.reduceLT, Int.reduceLE, Int.reduceNeg, Int.reduceAdd, Int.reduceSub, Int.reduceMul]
/-- laysFits: others -/
theorem M246b (hI : InvS D) (hIB : InvB D (sa D)) (hc : coK D n c) (hd : 8 ≤ d) {i a k : Int} (i0 : 0 ≤ i) (i1 : i < n) (a0 : 0 ≤ a) (a1 : a < 24) (k0 : 0 ≤ k) (k1 : k < i) : ∀ (r : Nat) (b : Int) (m : mm_M), b = 24 - r → 0 ≤ b → MD D E m → Cho D m n c → Inn D c m i a k b → ∃ m', mm_ev d 246 45 [some (.ref 316), some (.int (iI (i))), some (.int (iI (a))), some (.int (iI (k))), some (.int (iI (b)))] [] m = mm_ev d 246 37 [some (.ref 316), some (.int (iI (i))), some (.int (iI (a))), some (.int (iI (k + 1))), some (.int (iI (24)))] [] m' ∧ Fr scF m m' ∧ Inn D c m' i a (k + 1) 0
  | 0, b, m, hb, b0, h, hC, hN => by
    refine ⟨m, ?_, Fr.rf, hN.1, hN.2.1, fun x y x0 x1 y0 y1 z => hN.2.2 x y x0 x1 y0 y1 (by omega)⟩
    rw [sg_246_45 (by omega), show b = 24 by omega]
    simp (disch := omega) only [↓reduceIte, not_false_eq_true, not_true_eq_false, and_self, and_true, true_and, false_and, and_false, or_true, true_or, or_false, false_or, or_self, reduceCtorEq, mm_q, Option.getD_some, cI_some, cJ_some, cV_some, cS_some, kd_sI, kd_sL, kd_sR, kd_cp, ln_sI, ln_sL, ln_sR, ln_cp, gR_sI, gR_sL, gR_sR, gR_cp, gL_sI, gL_sR, gL_cp, gI_sL, gI_sR, iI_add, iI_sub, iI_mul, iI_neg, iI_in, iI_tn, iI_lt, iI_eq, Nat.reduceLeDiff, Nat.reduceEqDiff, Nat.reduceAdd, Int.reduceEq, Int.reduceLT, Int.reduceLE, Int.reduceNeg, Int.reduceAdd, Int.reduceSub, Int.reduceMul, Int.lt_irrefl]
  | r + 1, b, m, hb, b0, h, hC, hN => by
    obtain ⟨n0, n1⟩ := hc.1
    have b1 : b < 24 := by omega
    have g1 : Fr scF m (mm_sI m 336 (24 * (24 * (4 * i + k) + a) + b).toNat (iI (bI (fitS D c i a k b)))) := Fr.sI rfl
    have hN2 : Inn D c (mm_sI m 336 (24 * (24 * (4 * i + k) + a) + b).toNat (iI (bI (fitS D c i a k b)))) i a k (b + 1) := by
      refine ⟨fun x y x0 y0 y1 z => ⟨?_, fun k' b' q0 q1 q2 q3 => ?_⟩, ?_, fun x y x0 x1 y0 y1 z => ?_⟩
      · unfold HOL
        rw [gI_sI, if_neg (by omega)]
        exact (hN.1 x y x0 y0 y1 z).1
      · unfold FIT
        rw [gI_sI, if_neg (by omega)]
        exact (hN.1 x y x0 y0 y1 z).2 k' b' q0 q1 q2 q3
      · unfold HOL
        rw [gI_sI, if_neg (by omega)]
        exact hN.2.1
      · unfold FIT
        rw [gI_sI]
        by_cases w : x = k ∧ y = b
        · rw [if_pos ⟨rfl, by rw [w.1, w.2]⟩, w.1, w.2]
        · rw [if_neg (by omega)]
          exact hN.2.2 x y x0 x1 y0 y1 (by omega)
    obtain ⟨m', e2, g2, r2⟩ := M246b hI hIB hc hd i0 i1 a0 a1 k0 k1 r (b + 1) _ (by omega) (by omega) (h.fr g1.FM) (hC.frF g1) hN2
    refine ⟨m', ?_, g1.tr g2, r2⟩
    have q1 := hN.2.1
    have q2 := (hN.1 k b k0 b0 b1 (by omega)).1
    unfold HOL at q1 q2
    rw [← e2, sg_246_45 (by omega)]
    simp (disch := omega) only [shM h.1, ↓reduceIte, not_false_eq_true, not_true_eq_false, and_self, and_true, true_and, false_and, and_false, or_true, true_or, or_false, false_or, or_self, reduceCtorEq, mm_q, Option.getD_some, cI_some, cJ_some, cV_some, cS_some, kd_sI, kd_sL, kd_sR, kd_cp, ln_sI, ln_sL, ln_sR, ln_cp, gR_sI, gR_sL, gR_sR, gR_cp, gL_sI, gL_sR, gL_cp, gI_sL, gI_sR, iI_add, iI_sub, iI_mul, iI_neg, iI_in, iI_tn, iI_lt, iI_eq, Nat.reduceLeDiff, Nat.reduceEqDiff, Nat.reduceAdd, Int.reduceEq, Int.reduceLT, Int.reduceLE, Int.reduceNeg, Int.reduceAdd, Int.reduceSub, Int.reduceMul, b1, M249]
    rw [sg_246_65 (by omega)]
    have e111 : ∀ y : Bool, y = fitS D c i a k b → mm_ev d 246 111 [some (.ref 316), some (.int (iI (i))), some (.int (iI (a))), some (.int (iI (k))), some (.int (iI (b)))] [.int (iI (bI y)), .int (iI (24 * (24 * (4 * i + k) + a) + b)), .ref 336] m = mm_ev d 246 45 [some (.ref 316), some (.int (iI (i))), some (.int (iI (a))), some (.int (iI (k))), some (.int (iI (b + 1)))] [] (mm_sI m 336 (24 * (24 * (4 * i + k) + a) + b).toNat (iI (bI (fitS D c i a k b)))) := by
      intro y hy
      rw [hy, sg_246_111]
      simp (disch := omega) only [shM h.1, ↓reduceIte, not_false_eq_true, not_true_eq_false, and_self, and_true, true_and, false_and, and_false, or_true, true_or, or_false, false_or, or_self, reduceCtorEq, mm_q, Option.getD_some, cI_some, cJ_some, cV_some, cS_some, kd_sI, kd_sL, kd_sR, kd_cp, ln_sI, ln_sL, ln_sR, ln_cp, gR_sI, gR_sL, gR_sR, gR_cp, gL_sI, gL_sR, gL_cp, gI_sL, gI_sR, iI_add, iI_sub, iI_mul, iI_neg, iI_in, iI_tn, iI_lt, iI_eq, Nat.reduceLeDiff, Nat.reduceEqDiff, Nat.reduceAdd, Int.reduceEq, Int.reduceLT, Int.reduceLE, Int.reduceNeg, Int.reduceAdd, Int.reduceSub, Int.reduceMul, nar_b]
    unfold fitS at e111
    unfold fitS
    cases z1 : holdS D c i a
    · rw [z1] at q1 e111
      have e := e111 false (by simp)
      simp (disch := omega) only [shM h.1, ↓reduceIte, not_false_eq_true, not_true_eq_false, and_self, and_true, true_and, false_and, and_false, or_true, true_or, or_false, false_or, or_self, reduceCtorEq, mm_q, Option.getD_some, cI_some, cJ_some, cV_some, cS_some, kd_sI, kd_sL, kd_sR, kd_cp, ln_sI, ln_sL, ln_sR, ln_cp, gR_sI, gR_sL, gR_sR, gR_cp, gL_sI, gL_sR, gL_cp, gI_sL, gI_sR, iI_add, iI_sub, iI_mul, iI_neg, iI_in, iI_tn, iI_lt, iI_eq, Nat.reduceLeDiff, Nat.reduceEqDiff, Nat.reduceAdd, Int.reduceEq, Int.reduceLT, Int.reduceLE, Int.reduceNeg, Int.reduceAdd, Int.reduceSub, Int.reduceMul, bI_t, bI_f, decide_true, decide_false, Bool.and_true, Bool.and_false, Bool.true_and, Bool.false_and, Bool.false_eq_true, Bool.and_self, Bool.not_true, Bool.not_false, Bool.true_or, Bool.false_or, Bool.or_true, Bool.or_false, q1, sg_246_110] at e ⊢
      exact e
    · cases z2 : holdS D c k b
      · rw [z1] at q1 e111
        rw [z2] at q2 e111
        have e := e111 false (by simp)
        simp (disch := omega) only [shM h.1, ↓reduceIte, not_false_eq_true, not_true_eq_false, and_self, and_true, true_and, false_and, and_false, or_true, true_or, or_false, false_or, or_self, reduceCtorEq, mm_q, Option.getD_some, cI_some, cJ_some, cV_some, cS_some, kd_sI, kd_sL, kd_sR, kd_cp, ln_sI, ln_sL, ln_sR, ln_cp, gR_sI, gR_sL, gR_sR, gR_cp, gL_sI, gL_sR, gL_cp, gI_sL, gI_sR, iI_add, iI_sub, iI_mul, iI_neg, iI_in, iI_tn, iI_lt, iI_eq, Nat.reduceLeDiff, Nat.reduceEqDiff, Nat.reduceAdd, Int.reduceEq, Int.reduceLT, Int.reduceLE, Int.reduceNeg, Int.reduceAdd, Int.reduceSub, Int.reduceMul, bI_t, bI_f, decide_true, decide_false, Bool.and_true, Bool.and_false, Bool.true_and, Bool.false_and, Bool.false_eq_true, Bool.and_self, Bool.not_true, Bool.not_false, Bool.true_or, Bool.false_or, Bool.or_true, Bool.or_false, q1, q2, sg_246_110] at e ⊢
        exact e
      · rw [z1] at q1 e111
        rw [z2] at q2 e111
        cases z3 : togS D c i a k b
        · rw [z3] at e111
          have e := e111 false (by simp)
          simp (disch := omega) only [shM h.1, ↓reduceIte, not_false_eq_true, not_true_eq_false, and_self, and_true, true_and, false_and, and_false, or_true, true_or, or_false, false_or, or_self, reduceCtorEq, mm_q, Option.getD_some, cI_some, cJ_some, cV_some, cS_some, kd_sI, kd_sL, kd_sR, kd_cp, ln_sI, ln_sL, ln_sR, ln_cp, gR_sI, gR_sL, gR_sR, gR_cp, gL_sI, gL_sR, gL_cp, gI_sL, gI_sR, iI_add, iI_sub, iI_mul, iI_neg, iI_in, iI_tn, iI_lt, iI_eq, Nat.reduceLeDiff, Nat.reduceEqDiff, Nat.reduceAdd, Int.reduceEq, Int.reduceLT, Int.reduceLE, Int.reduceNeg, Int.reduceAdd, Int.reduceSub, Int.reduceMul, bI_t, bI_f, decide_true, decide_false, Bool.and_true, Bool.and_false, Bool.true_and, Bool.false_and, Bool.false_eq_true, Bool.and_self, Bool.not_true, Bool.not_false, Bool.true_or, Bool.false_or, Bool.or_true, Bool.or_false, q1, q2, sg_246_110, M250 h hI hIB hC hc, z3] at e ⊢
          exact e
        · rw [z3] at e111
          have e := e111 true (by simp)
          simp (disch := omega) only [shM h.1, ↓reduceIte, not_false_eq_true, not_true_eq_false, and_self, and_true, true_and, false_and, and_false, or_true, true_or, or_false, false_or, or_self, reduceCtorEq, mm_q, Option.getD_some, cI_some, cJ_some, cV_some, cS_some, kd_sI, kd_sL, kd_sR, kd_cp, ln_sI, ln_sL, ln_sR, ln_cp, gR_sI, gR_sL, gR_sR, gR_cp, gL_sI, gL_sR, gL_cp, gI_sL, gI_sR, iI_add, iI_sub, iI_mul, iI_neg, iI_in, iI_tn, iI_lt, iI_eq, Nat.reduceLeDiff, Nat.reduceEqDiff, Nat.reduceAdd, Int.reduceEq, Int.reduceLT, Int.reduceLE, Int.reduceNeg, Int.reduceAdd, Int.reduceSub, Int.reduceMul, bI_t, bI_f, decide_true, decide_false, Bool.and_true, Bool.and_false, Bool.true_and, Bool.false_and, Bool.false_eq_true, Bool.and_self, Bool.not_true, Bool.not_false, Bool.true_or, Bool.false_or, Bool.or_true, Bool.or_false, q1, q2, sg_246_110, M250 h hI hIB hC hc, z3] at e ⊢
          exact e
theorem M246k (hI : InvS D) (hIB : InvB D (sa D)) (hc : coK D n c) (hd : 8 ≤ d) {i a : Int} (i0 : 0 ≤ i) (i1 : i < n) (a0 : 0 ≤ a) (a1 : a < 24) : ∀ (r : Nat) (k : Int) (z : Option Value) (m : mm_M), k = i - r → 0 ≤ k → MD D E m → Cho D m n c → Inn D c m i a k 0 → ∃ m' z3 z4, mm_ev d 246 37 [some (.ref 316), some (.int (iI (i))), some (.int (iI (a))), some (.int (iI (k))), z] [] m = mm_ev d 246 12 [some (.ref 316), some (.int (iI (i))), some (.int (iI (a + 1))), z3, z4] [] m' ∧ Fr scF m m' ∧ Lay D c m' i (a + 1)
  | 0, k, z, m, hk, k0, h, hC, hN => by
    obtain ⟨n0, n1⟩ := hc.1
    refine ⟨m, some (.int (iI (k))), z, ?_, Fr.rf, fun x y x0 y0 y1 q => ?_⟩
    · rw [sg_246_37]
      simp (disch := omega) only [↓reduceIte, not_false_eq_true, not_true_eq_false, and_self, and_true, true_and, false_and, and_false, or_true, true_or, or_false, false_or, or_self, reduceCtorEq, mm_q, Option.getD_some, cI_some, cJ_some, cV_some, cS_some, kd_sI, kd_sL, kd_sR, kd_cp, ln_sI, ln_sL, ln_sR, ln_cp, gR_sI, gR_sL, gR_sR, gR_cp, gL_sI, gL_sR, gL_cp, gI_sL, gI_sR, iI_add, iI_sub, iI_mul, iI_neg, iI_in, iI_tn, iI_lt, iI_eq, Nat.reduceLeDiff, Nat.reduceEqDiff, Nat.reduceAdd, Int.reduceEq, Int.reduceLT, Int.reduceLE, Int.reduceNeg, Int.reduceAdd, Int.reduceSub, Int.reduceMul, show ¬ k < i by omega]
    · by_cases w : x = i ∧ y = a
      · rw [w.1, w.2]
        exact ⟨hN.2.1, fun k' b' q0 q1 q2 q3 => hN.2.2 k' b' q0 q1 q2 q3 (by omega)⟩
      · exact hN.1 x y x0 y0 y1 (by omega)
  | r + 1, k, z, m, hk, k0, h, hC, hN => by
    obtain ⟨n0, n1⟩ := hc.1
    obtain ⟨m1, e1, g1, hN1⟩ := M246b hI hIB hc hd i0 i1 a0 a1 k0 (show k < i by omega) 24 0 m (by omega) (by omega) h hC hN
    obtain ⟨m', z3, z4, e2, g2, r2⟩ := M246k hI hIB hc hd i0 i1 a0 a1 r (k + 1) (some (.int (iI (24)))) m1 (by omega) (by omega) (h.fr g1.FM) (hC.frF g1) hN1
    refine ⟨m', z3, z4, ?_, g1.tr g2, r2⟩
    rw [← e2, ← e1, sg_246_37]
    simp (disch := omega) only [↓reduceIte, not_false_eq_true, not_true_eq_false, and_self, and_true, true_and, false_and, and_false, or_true, true_or, or_false, false_or, or_self, reduceCtorEq, mm_q, Option.getD_some, cI_some, cJ_some, cV_some, cS_some, kd_sI, kd_sL, kd_sR, kd_cp, ln_sI, ln_sL, ln_sR, ln_cp, gR_sI, gR_sL, gR_sR, gR_cp, gL_sI, gL_sR, gL_cp, gI_sL, gI_sR, iI_add, iI_sub, iI_mul, iI_neg, iI_in, iI_tn, iI_lt, iI_eq, Nat.reduceLeDiff, Nat.reduceEqDiff, Nat.reduceAdd, Int.reduceEq, Int.reduceLT, Int.reduceLE, Int.reduceNeg, Int.reduceAdd, Int.reduceSub, Int.reduceMul, show k < i by omega]
theorem M246a (hI : InvS D) (hIB : InvB D (sa D)) (hc : coK D n c) (hd : 8 ≤ d) {i : Int} (i0 : 0 ≤ i) (i1 : i < n) : ∀ (r : Nat) (a : Int) (z3 z4 : Option Value) (m : mm_M), a = 24 - r → 0 ≤ a → MD D E m → Cho D m n c → Lay D c m i a → ∃ m' z3' z4', mm_ev d 246 12 [some (.ref 316), some (.int (iI (i))), some (.int (iI (a))), z3, z4] [] m = mm_ev d 246 2 [some (.ref 316), some (.int (iI (i + 1))), some (.int (iI (24))), z3', z4'] [] m' ∧ Fr scF m m' ∧ Lay D c m' (i + 1) 0
  | 0, a, z3, z4, m, ha, a0, h, hC, hN => by
    refine ⟨m, z3, z4, ?_, Fr.rf, fun x y x0 y0 y1 q => hN x y x0 y0 y1 (by omega)⟩
    rw [sg_246_12 (by omega), show a = 24 by omega]
    simp (disch := omega) only [↓reduceIte, not_false_eq_true, not_true_eq_false, and_self, and_true, true_and, false_and, and_false, or_true, true_or, or_false, false_or, or_self, reduceCtorEq, mm_q, Option.getD_some, cI_some, cJ_some, cV_some, cS_some, kd_sI, kd_sL, kd_sR, kd_cp, ln_sI, ln_sL, ln_sR, ln_cp, gR_sI, gR_sL, gR_sR, gR_cp, gL_sI, gL_sR, gL_cp, gI_sL, gI_sR, iI_add, iI_sub, iI_mul, iI_neg, iI_in, iI_tn, iI_lt, iI_eq, Nat.reduceLeDiff, Nat.reduceEqDiff, Nat.reduceAdd, Int.reduceEq, Int.reduceLT, Int.reduceLE, Int.reduceNeg, Int.reduceAdd, Int.reduceSub, Int.reduceMul, Int.lt_irrefl]
  | r + 1, a, z3, z4, m, ha, a0, h, hC, hN => by
    obtain ⟨n0, n1⟩ := hc.1
    have a1 : a < 24 := by omega
    have g1 : Fr scF m (mm_sI m 337 (24 * i + a).toNat (iI (bI (holdS D c i a)))) := Fr.sI rfl
    have hN1 : Inn D c (mm_sI m 337 (24 * i + a).toNat (iI (bI (holdS D c i a)))) i a 0 0 := by
      refine ⟨fun x y x0 y0 y1 z => ⟨?_, fun k' b' q0 q1 q2 q3 => ?_⟩, ?_, fun x y x0 x1 y0 y1 z => by omega⟩
      · unfold HOL
        rw [gI_sI, if_neg (by omega)]
        exact (hN x y x0 y0 y1 z).1
      · unfold FIT
        rw [gI_sI, if_neg (by omega)]
        exact (hN x y x0 y0 y1 z).2 k' b' q0 q1 q2 q3
      · unfold HOL
        rw [gI_sI, if_pos ⟨rfl, rfl⟩]
    obtain ⟨m2, y3, y4, e2, g2, hN2⟩ := M246k hI hIB hc hd i0 i1 a0 a1 i.toNat 0 z4 _ (by omega) (by omega) (h.fr g1.FM) (hC.frF g1) hN1
    have h2 := (h.fr g1.FM).fr g2.FM
    obtain ⟨m', z3', z4', e3, g3, r3⟩ := M246a hI hIB hc hd i0 i1 r (a + 1) y3 y4 m2 (by omega) (by omega) h2 ((hC.frF g1).frF g2) hN2
    refine ⟨m', z3', z4', ?_, (g1.tr g2).tr g3, r3⟩
    rw [← e3, ← e2, sg_246_12 (by omega)]
    simp (disch := omega) only [shM h.1, ↓reduceIte, not_false_eq_true, not_true_eq_false, and_self, and_true, true_and, false_and, and_false, or_true, true_or, or_false, false_or, or_self, reduceCtorEq, mm_q, Option.getD_some, cI_some, cJ_some, cV_some, cS_some, kd_sI, kd_sL, kd_sR, kd_cp, ln_sI, ln_sL, ln_sR, ln_cp, gR_sI, gR_sL, gR_sR, gR_cp, gL_sI, gL_sR, gL_cp, gI_sL, gI_sR, iI_add, iI_sub, iI_mul, iI_neg, iI_in, iI_tn, iI_lt, iI_eq, Nat.reduceLeDiff, Nat.reduceEqDiff, Nat.reduceAdd, Int.reduceEq, Int.reduceLT, Int.reduceLE, Int.reduceNeg, Int.reduceAdd, Int.reduceSub, Int.reduceMul, a1, M247 h hI hIB hC hc (d := d - 1) (by omega) i0 i1 a0 a1]
    rw [sg_246_34]
    simp (disch := omega) only [shM h.1, ↓reduceIte, not_false_eq_true, not_true_eq_false, and_self, and_true, true_and, false_and, and_false, or_true, true_or, or_false, false_or, or_self, reduceCtorEq, mm_q, Option.getD_some, cI_some, cJ_some, cV_some, cS_some, kd_sI, kd_sL, kd_sR, kd_cp, ln_sI, ln_sL, ln_sR, ln_cp, gR_sI, gR_sL, gR_sR, gR_cp, gL_sI, gL_sR, gL_cp, gI_sL, gI_sR, iI_add, iI_sub, iI_mul, iI_neg, iI_in, iI_tn, iI_lt, iI_eq, Nat.reduceLeDiff, Nat.reduceEqDiff, Nat.reduceAdd, Int.reduceEq, Int.reduceLT, Int.reduceLE, Int.reduceNeg, Int.reduceAdd, Int.reduceSub, Int.reduceMul, nar_b]
theorem M246L (hI : InvS D) (hIB : InvB D (sa D)) (hc : coK D n c) (hd : 8 ≤ d) : ∀ (r : Nat) (i : Int) (z2 z3 z4 : Option Value) (m : mm_M), i = n - r → 0 ≤ i → MD D E m → Cho D m n c → Lay D c m i 0 → ∃ m', mm_ev d 246 2 [some (.ref 316), some (.int (iI (i))), z2, z3, z4] [] m = some (some none, m') ∧ Fr scF m m' ∧ Lay D c m' n 0
  | 0, i, z2, z3, z4, m, hi, i0, h, hC, hN => by
    obtain ⟨n0, n1⟩ := hc.1
    refine ⟨m, ?_, Fr.rf, ?_⟩
    · rw [sg_246_2]
      simp (disch := omega) only [shM h.1, ↓reduceIte, not_false_eq_true, not_true_eq_false, and_self, and_true, true_and, false_and, and_false, or_true, true_or, or_false, false_or, or_self, reduceCtorEq, mm_q, Option.getD_some, cI_some, cJ_some, cV_some, cS_some, kd_sI, kd_sL, kd_sR, kd_cp, ln_sI, ln_sL, ln_sR, ln_cp, gR_sI, gR_sL, gR_sR, gR_cp, gL_sI, gL_sR, gL_cp, gI_sL, gI_sR, iI_add, iI_sub, iI_mul, iI_neg, iI_in, iI_tn, iI_lt, iI_eq, Nat.reduceLeDiff, Nat.reduceEqDiff, Nat.reduceAdd, Int.reduceEq, Int.reduceLT, Int.reduceLE, Int.reduceNeg, Int.reduceAdd, Int.reduceSub, Int.reduceMul, hC.1, show ¬ i < n by omega]
    · rw [show n = i by omega]
      exact hN
  | r + 1, i, z2, z3, z4, m, hi, i0, h, hC, hN => by
    obtain ⟨n0, n1⟩ := hc.1
    obtain ⟨m1, y3, y4, e1, g1, hN1⟩ := M246a hI hIB hc hd i0 (show i < n by omega) 24 0 z3 z4 m (by omega) (by omega) h hC hN
    obtain ⟨m', e2, g2, r2⟩ := M246L hI hIB hc hd r (i + 1) (some (.int (iI (24)))) y3 y4 m1 (by omega) (by omega) (h.fr g1.FM) (hC.frF g1) hN1
    refine ⟨m', ?_, g1.tr g2, r2⟩
    rw [← e2, ← e1, sg_246_2]
    simp (disch := omega) only [shM h.1, ↓reduceIte, not_false_eq_true, not_true_eq_false, and_self, and_true, true_and, false_and, and_false, or_true, true_or, or_false, false_or, or_self, reduceCtorEq, mm_q, Option.getD_some, cI_some, cJ_some, cV_some, cS_some, kd_sI, kd_sL, kd_sR, kd_cp, ln_sI, ln_sL, ln_sR, ln_cp, gR_sI, gR_sL, gR_sR, gR_cp, gL_sI, gL_sR, gL_cp, gI_sL, gI_sR, iI_add, iI_sub, iI_mul, iI_neg, iI_in, iI_tn, iI_lt, iI_eq, Nat.reduceLeDiff, Nat.reduceEqDiff, Nat.reduceAdd, Int.reduceEq, Int.reduceLT, Int.reduceLE, Int.reduceNeg, Int.reduceAdd, Int.reduceSub, Int.reduceMul, hC.1, show i < n by omega]
/-- laysFits -/
theorem M246 (h : MD D E m) (hI : InvS D) (hIB : InvB D (sa D)) (hC : Cho D m n c) (hc : coK D n c) (hd : 8 ≤ d) : ∃ m', mm_ev d 246 0 [some (.ref 316), none, none, none, none] [] m = some (some none, m') ∧ Fr scF m m' ∧ Lay D c m' n 0 := by
  obtain ⟨n0, n1⟩ := hc.1
  obtain ⟨m', e1, r1⟩ := M246L hI hIB hc hd n.toNat 0 none none none m (by omega) (by omega) h hC (fun x y x0 y0 y1 z => by omega)
  exact ⟨m', by rw [sg_246_0]; exact e1, r1⟩
end
