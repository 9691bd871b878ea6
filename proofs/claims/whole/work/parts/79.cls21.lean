def ppL : List Nat := [163, 280, 290, 300, 310]
theorem ppK : ∀ P ∈ ppL, mm_k0 P = 4 ∧ mm_k0 (P + 1) = 20 ∧ mm_l0 (P + 1) = 10 ∧ mm_k0 (P + 2) = 20 ∧ mm_l0 (P + 2) = 10 ∧ mm_k0 (P + 3) = 20 ∧ mm_l0 (P + 3) = 10 ∧ mm_k0 (P + 4) = 20 ∧ mm_l0 (P + 4) = 10 ∧ mm_k0 (P + 5) = 20 ∧ mm_l0 (P + 5) = 10 ∧ mm_R0 P 1 = some (P + 1) ∧ mm_R0 P 2 = some (P + 2) ∧ mm_R0 P 4 = some (P + 3) ∧ mm_R0 P 5 = some (P + 4) ∧ mm_R0 P 6 = some (P + 5) ∧ mm_swp P 1 = false ∧ mm_swp P 2 = false ∧ mm_swp P 4 = false ∧ mm_swp P 5 = false ∧ mm_swp P 6 = false ∧ 100 ≤ P := by decide
def scQ (P a _k : Nat) : Bool := Nat.ble P a && Nat.ble a (P + 5)
section
variable {D D' D1 D2 : Nat → Nat → Int32} {m m' m1 m2 m'' : mm_M} {d s W L H p n P : Nat} {B : Int → Int} {take : Int} {late : Bool}
theorem ppF (h : Sh m) (hP : P ∈ ppL) : mm_kd m P = 4 ∧ mm_kd m (P + 1) = 20 ∧ mm_ln m (P + 1) = 10 ∧ mm_kd m (P + 2) = 20 ∧ mm_ln m (P + 2) = 10 ∧ mm_kd m (P + 3) = 20 ∧ mm_ln m (P + 3) = 10 ∧ mm_kd m (P + 4) = 20 ∧ mm_ln m (P + 4) = 10 ∧ mm_kd m (P + 5) = 20 ∧ mm_ln m (P + 5) = 10 ∧ mm_gR m P 1 = some (P + 1) ∧ mm_gR m P 2 = some (P + 2) ∧ mm_gR m P 4 = some (P + 3) ∧ mm_gR m P 5 = some (P + 4) ∧ mm_gR m P 6 = some (P + 5) ∧ 100 ≤ P + 1 ∧ 100 ≤ P + 2 ∧ 100 ≤ P + 3 ∧ 100 ≤ P + 4 ∧ 100 ≤ P + 5 := by
  obtain ⟨a, b, c, d, e, f, g, i, j, k, l, n, o, p, q, r, t, u, v, w, x, y⟩ := ppK P hP
  exact ⟨(h.kd y).trans a, (h.kd (by omega)).trans b, (h.ln (by omega)).trans c, (h.kd (by omega)).trans d, (h.ln (by omega)).trans e, (h.kd (by omega)).trans f, (h.ln (by omega)).trans g, (h.kd (by omega)).trans i, (h.ln (by omega)).trans j, (h.kd (by omega)).trans k, (h.ln (by omega)).trans l, (h.2 _ _ y t).trans n, (h.2 _ _ y u).trans o, (h.2 _ _ y v).trans p, (h.2 _ _ y w).trans q, (h.2 _ _ y x).trans r, by omega, by omega, by omega, by omega, by omega⟩
theorem scQ_f {a k : Nat} (h : scQ P a k = false) : ¬ (P ≤ a ∧ a ≤ P + 5) := rg_f h
theorem scQ_n {a k : Nat} (h : ¬ (P ≤ a ∧ a ≤ P + 5)) : scQ P a k = false := by
  cases e : scQ P a k
  · rfl
  · unfold scQ at e
    rw [Bool.and_eq_true, Nat.ble_eq, Nat.ble_eq] at e
    omega
/-- Papers.copyFrom -/
theorem C31 (hs : Sh m) {Q : Nat} (hP : P ∈ ppL) (hQ : Q ∈ ppL) (hap : P + 5 < Q ∨ Q + 5 < P) : ∃ m', mm_ev d 31 0 [some (.ref P), some (.ref Q)] [] m = some (some none, m') ∧ Fr (scQ P) m m' ∧ mm_gI m' P 0 = mm_gI m Q 0 ∧ mm_gI m' P 3 = mm_gI m Q 3 ∧ ∀ i k, 1 ≤ i → i ≤ 5 → k < 10 → mm_gI m' (P + i) k = mm_gI m (Q + i) k := by
  have pf := ppF hs hP
  have qf := ppF hs hQ
  refine ⟨mm_cp (mm_cp (mm_cp (mm_sI (mm_cp (mm_cp (mm_sI m P 0 (mm_gI m Q 0)) (Q + 1) 0 (P + 1) 0 10) (Q + 2) 0 (P + 2) 0 10) P 3 (mm_gI m Q 3)) (Q + 3) 0 (P + 3) 0 10) (Q + 4) 0 (P + 4) 0 10) (Q + 5) 0 (P + 5) 0 10, ?_, ⟨rfl, rfl, fun _ _ => rfl, fun a k z => ⟨?_, rfl⟩⟩, ?_, ?_, fun i k i0 i1 k1 => ?_⟩
  · rw [sg_31_0]
    simp (disch := omega) only [pf, qf, ↓reduceIte, not_false_eq_true, not_true_eq_false, and_self, and_true, true_and, false_and, and_false, or_true, true_or, or_false, false_or, or_self, reduceCtorEq, mm_q, Option.getD_some, cI_some, cJ_some, cV_some, cS_some, kd_sI, kd_sL, kd_sR, kd_cp, ln_sI, ln_sL, ln_sR, ln_cp, gR_sI, gR_sL, gR_sR, gR_cp, gL_sI, gL_sR, gL_cp, gI_sL, gI_sR, iI_add, iI_sub, iI_mul, iI_neg, iI_in, iI_tn, iI_lt, iI_eq, Nat.reduceLeDiff, Nat.reduceEqDiff, Nat.reduceAdd, Int.reduceEq, Int.reduceLT, Int.reduceLE, Int.reduceNeg, Int.reduceAdd, Int.reduceSub, Int.reduceMul, show Int.toNat 0 = 0 from rfl, show Int.toNat 10 = 10 from rfl, Int.lt_irrefl, Nat.zero_add, Nat.le_refl]
    have e3 : mm_gI (mm_cp (mm_cp (mm_sI m P 0 (mm_gI m Q 0)) (Q + 1) 0 (P + 1) 0 10) (Q + 2) 0 (P + 2) 0 10) Q 3 = mm_gI m Q 3 := by
      rw [gI_cp', if_neg (by omega), gI_cp', if_neg (by omega), gI_sI, if_neg (by omega)]
    rw [e3]
  · have := scQ_f z
    rw [gI_cp', if_neg (by omega), gI_cp', if_neg (by omega), gI_cp', if_neg (by omega), gI_sI, if_neg (by omega), gI_cp', if_neg (by omega), gI_cp', if_neg (by omega), gI_sI, if_neg (by omega)]
  · rw [gI_cp', if_neg (by omega), gI_cp', if_neg (by omega), gI_cp', if_neg (by omega), gI_sI, if_neg (by omega), gI_cp', if_neg (by omega), gI_cp', if_neg (by omega), gI_sI, if_pos ⟨rfl, rfl⟩]
  · rw [gI_cp', if_neg (by omega), gI_cp', if_neg (by omega), gI_cp', if_neg (by omega), gI_sI, if_pos ⟨rfl, rfl⟩]
  · have ek : 0 + (k - 0) = k := by omega
    have : i = 1 ∨ i = 2 ∨ i = 3 ∨ i = 4 ∨ i = 5 := by omega
    rcases this with rfl | rfl | rfl | rfl | rfl
    · rw [gI_cp', if_neg (by omega), gI_cp', if_neg (by omega), gI_cp', if_neg (by omega), gI_sI, if_neg (by omega), gI_cp', if_neg (by omega), gI_cp', if_pos (by omega), ek, gI_sI, if_neg (by omega)]
    · rw [gI_cp', if_neg (by omega), gI_cp', if_neg (by omega), gI_cp', if_neg (by omega), gI_sI, if_neg (by omega), gI_cp', if_pos (by omega), ek, gI_cp', if_neg (by omega), gI_sI, if_neg (by omega)]
    · rw [gI_cp', if_neg (by omega), gI_cp', if_neg (by omega), gI_cp', if_pos (by omega), ek, gI_sI, if_neg (by omega), gI_cp', if_neg (by omega), gI_cp', if_neg (by omega), gI_sI, if_neg (by omega)]
    · rw [gI_cp', if_neg (by omega), gI_cp', if_pos (by omega), ek, gI_cp', if_neg (by omega), gI_sI, if_neg (by omega), gI_cp', if_neg (by omega), gI_cp', if_neg (by omega), gI_sI, if_neg (by omega)]
    · rw [gI_cp', if_pos (by omega), ek, gI_cp', if_neg (by omega), gI_cp', if_neg (by omega), gI_sI, if_neg (by omega), gI_cp', if_neg (by omega), gI_cp', if_neg (by omega), gI_sI, if_neg (by omega)]
theorem RPn.cp {Q : Nat} {b c : Int} (h : RPn D b m Q) (h0 : mm_gI m' P 0 = mm_gI m Q 0) (h3 : mm_gI m' P 3 = mm_gI m Q 3) (hi : ∀ i k, 1 ≤ i → i ≤ 5 → k < 10 → mm_gI m' (P + i) k = mm_gI m (Q + i) k) (e : ∀ j : Int, 25 ≤ j → j < 80 → sa D' (c + j) = sa D (b + j)) : RPn D' c m' P := by
  obtain ⟨⟨a1, a2⟩, a3, a4⟩ := h
  refine ⟨⟨by rw [h0, a1, e _ (by omega) (by omega)], by rw [h3, a2, e _ (by omega) (by omega)]⟩, fun k k0 k1 => ?_, fun k k0 k1 => ?_⟩
  · obtain ⟨p1, p2⟩ := a3 k k0 k1
    rw [hi 1 _ (by omega) (by omega) (by omega), hi 2 _ (by omega) (by omega) (by omega), p1, p2]
    have e1 := e (26 + 2 * k) (by omega) (by omega)
    have e2 := e (26 + 2 * k + 1) (by omega) (by omega)
    rw [show c + (26 + 2 * k) = c + 26 + 2 * k by omega, show b + (26 + 2 * k) = b + 26 + 2 * k by omega] at e1
    rw [show c + (26 + 2 * k + 1) = c + 26 + 2 * k + 1 by omega, show b + (26 + 2 * k + 1) = b + 26 + 2 * k + 1 by omega] at e2
    rw [e1, e2]
    exact ⟨rfl, rfl⟩
  · obtain ⟨p1, p2, p3⟩ := a4 k k0 k1
    rw [hi 3 _ (by omega) (by omega) (by omega), hi 4 _ (by omega) (by omega) (by omega), hi 5 _ (by omega) (by omega) (by omega), p1, p2, p3]
    have e1 := e (47 + 3 * k) (by omega) (by omega)
    have e2 := e (47 + 3 * k + 1) (by omega) (by omega)
    have e3 := e (47 + 3 * k + 2) (by omega) (by omega)
    rw [show c + (47 + 3 * k) = c + 47 + 3 * k by omega, show b + (47 + 3 * k) = b + 47 + 3 * k by omega] at e1
    rw [show c + (47 + 3 * k + 1) = c + 47 + 3 * k + 1 by omega, show b + (47 + 3 * k + 1) = b + 47 + 3 * k + 1 by omega] at e2
    rw [show c + (47 + 3 * k + 2) = c + 47 + 3 * k + 2 by omega, show b + (47 + 3 * k + 2) = b + 47 + 3 * k + 2 by omega] at e3
    rw [e1, e2, e3]
    exact ⟨rfl, rfl, rfl⟩
/-- papers and marks are changed, the hands not -/
theorem pap_fin (h : RCm D m s p) (k9 : st D 6 ≤ 8) (s2 : SamS D D2) (b0 : D2 316 26 = D 316 26) (lo : ∀ j, j < 25 → D2 332 j = D 332 j) (hi : ∀ j, 400 ≤ j → D2 332 j = D 332 j) (b3 : ∀ j, D2 329 j = D 329 j) (f : FU m m') (gr : ∀ a k, mm_gR m' a k = mm_gR m a k) (q3 : ∀ (a k : Nat), ¬ (163 ≤ a ∧ a ≤ 168) → ¬ (276 ≤ a ∧ a ≤ 315) → ¬ (a = 100 ∧ k = 14) → mm_gI m' a k = mm_gI m a k) (hP' : RP D2 m') (hM' : RM D2 m') : RCm D2 m' s p := by
  obtain ⟨hQ, hp, hg, hN, hP, hU, hM⟩ := h
  have gs : s = 104 ∨ s = 125 := hQ.2.1
  have gp : p = 146 ∨ p = 150 := hp
  have los : ∀ j : Int, 0 ≤ j → j < 25 → sa D2 j = sa D j := fun j j0 j1 => sa_c (lo _ (by omega))
  refine ⟨⟨⟨f.1.trans hQ.1.1, fun a k h1 h2 => (gr a k).trans (hQ.1.2 a k h1 h2)⟩, hQ.2.1, (gr _ _).trans hQ.2.2.1, s2.rst (hQ.2.2.2.1.cg (fun a k h0 h1 _ _ => q3 a k (by omega) (by omega) (by omega)) k9), ⟨(gr _ _).trans hQ.2.2.2.2.1.1, fun w w0 w1 => ?_⟩, s2.hd (fun w w0 w1 => ?_), by rw [q3 _ _ (by omega) (by omega) (by omega), los 0 (by omega) (by omega)]; exact hQ.2.2.2.2.2.2⟩, hp, (gr _ _).trans hg, hN.ch b3 (fun a k h0 h1 => q3 a k (by omega) (by omega) (by omega)), hP', hU.ch s2 b0 (fun j j0 => hi j j0) (fun a k h0 => q3 a k (by omega) (by omega) (by omega)), hM'⟩
  · rw [cD_st s2.1] at w1
    obtain ⟨p1, p2, p3, p4⟩ := hQ.2.2.2.2.1.2 w w0 w1
    rw [q3 _ _ (by omega) (by omega) (by omega), q3 _ _ (by omega) (by omega) (by omega), q3 _ _ (by omega) (by omega) (by omega), q3 _ _ (by omega) (by omega) (by omega), los _ (by omega) (by omega), los _ (by omega) (by omega), los _ (by omega) (by omega), los 0 (by omega) (by omega), s2.cue, s2.tempo, cD_wk s2.1]
    exact ⟨p1, p2, p3, p4⟩
  · obtain ⟨p1, p2, p3⟩ := hQ.2.2.2.2.2.1 w w0 w1
    rw [q3 _ _ (by omega) (by omega) (by omega), q3 _ _ (by omega) (by omega) (by omega), q3 _ _ (by omega) (by omega) (by omega), los _ (by omega) (by omega), los _ (by omega) (by omega), los _ (by omega) (by omega)]
    exact ⟨p1, p2, p3⟩
theorem FU.sP {a k : Nat} {v : Int32} (h0 : 163 ≤ a) (h1 : a ≤ 168) : FU m (mm_sI m a k v) := Fr.U (P := fun x _ => Nat.ble 163 x && Nat.ble x 168) (Fr.sI (by rw [Nat.ble_eq.mpr h0, Nat.ble_eq.mpr h1]; rfl)) (fun _ _ z => (scU_i z).2.2.2.2.2.1)
/-- sight -/
theorem C147 (h : RCm D m s p) (hI : InvS D) (hPP : InvP D) (hd : 8 ≤ d) {t c : Int} {r : Bool} (t_0 : -2147483648 ≤ t) (t_1 : t < 2147483648) (c_0 : -2147483648 ≤ c) (c_1 : c < 2147483648) : ∃ m', mm_ev d 147 0 [some (.ref 100), some (.int (iI (t))), some (.int (iI (c))), some (.int (iI (bI r)))] [] m = some (some (some (.int (iI (bI (sightOk D t c))))), m') ∧ RCm (sightD D t c r) m' s p ∧ FU m m' := by
  obtain ⟨hQ, hp, hg, hN, hP, hU, hM⟩ := id h
  obtain ⟨k8, k9⟩ := hI.2.2.2.2.2.1
  obtain ⟨c0, c1⟩ := hPP.1
  have xf := shX hQ.1
  have pf := shP hQ.1
  obtain ⟨t1, t2, t3, t4⟩ := hP.e
  rw [sg_147_0 (by omega)]
  unfold sightD sightOk
  simp (disch := omega) only [↓reduceIte, not_false_eq_true, not_true_eq_false, and_self, and_true, true_and, false_and, and_false, or_true, true_or, or_false, false_or, or_self, reduceCtorEq, mm_q, Option.getD_some, cI_some, cJ_some, cV_some, cS_some, kd_sI, kd_sL, kd_sR, kd_cp, ln_sI, ln_sL, ln_sR, ln_cp, gR_sI, gR_sL, gR_sR, gR_cp, gL_sI, gL_sR, gL_cp, gI_sL, gI_sR, iI_add, iI_sub, iI_mul, iI_neg, iI_in, iI_tn, iI_lt, iI_eq, Nat.reduceLeDiff, Nat.reduceEqDiff, Nat.reduceAdd, Int.reduceEq, Int.reduceLT, Int.reduceLE, Int.reduceNeg, Int.reduceAdd, Int.reduceSub, Int.reduceMul, C119]
  rw [sg_147_4 (by omega)]
  cases z1 : inB t 0 600
  · exact ⟨m, by simp (disch := omega) only [↓reduceIte, not_false_eq_true, not_true_eq_false, and_self, and_true, true_and, false_and, and_false, or_true, true_or, or_false, false_or, or_self, reduceCtorEq, mm_q, Option.getD_some, cI_some, cJ_some, cV_some, cS_some, kd_sI, kd_sL, kd_sR, kd_cp, ln_sI, ln_sL, ln_sR, ln_cp, gR_sI, gR_sL, gR_sR, gR_cp, gL_sI, gL_sR, gL_cp, gI_sL, gI_sR, iI_add, iI_sub, iI_mul, iI_neg, iI_in, iI_tn, iI_lt, iI_eq, Nat.reduceLeDiff, Nat.reduceEqDiff, Nat.reduceAdd, Int.reduceEq, Int.reduceLT, Int.reduceLE, Int.reduceNeg, Int.reduceAdd, Int.reduceSub, Int.reduceMul, bI_t, bI_f, decide_true, decide_false, Bool.and_true, Bool.and_false, Bool.true_and, Bool.false_and, Bool.false_eq_true, Bool.and_self, Bool.not_true, Bool.not_false, Bool.true_or, Bool.false_or, Bool.or_true, Bool.or_false], h, FU.rf⟩
  · simp (disch := omega) only [xf, ↓reduceIte, not_false_eq_true, not_true_eq_false, and_self, and_true, true_and, false_and, and_false, or_true, true_or, or_false, false_or, or_self, reduceCtorEq, mm_q, Option.getD_some, cI_some, cJ_some, cV_some, cS_some, kd_sI, kd_sL, kd_sR, kd_cp, ln_sI, ln_sL, ln_sR, ln_cp, gR_sI, gR_sL, gR_sR, gR_cp, gL_sI, gL_sR, gL_cp, gI_sL, gI_sR, iI_add, iI_sub, iI_mul, iI_neg, iI_in, iI_tn, iI_lt, iI_eq, Nat.reduceLeDiff, Nat.reduceEqDiff, Nat.reduceAdd, Int.reduceEq, Int.reduceLT, Int.reduceLE, Int.reduceNeg, Int.reduceAdd, Int.reduceSub, Int.reduceMul, bI_t, bI_f, decide_true, decide_false, Bool.and_true, Bool.and_false, Bool.true_and, Bool.false_and, Bool.false_eq_true, Bool.and_self, Bool.not_true, Bool.not_false, Bool.true_or, Bool.false_or, Bool.or_true, Bool.or_false, C111 hQ hI]
    rw [sg_147_12 (by omega)]
    cases z2 : inB c 0 (st D 0 - 1)
    · exact ⟨m, by simp (disch := omega) only [↓reduceIte, not_false_eq_true, not_true_eq_false, and_self, and_true, true_and, false_and, and_false, or_true, true_or, or_false, false_or, or_self, reduceCtorEq, mm_q, Option.getD_some, cI_some, cJ_some, cV_some, cS_some, kd_sI, kd_sL, kd_sR, kd_cp, ln_sI, ln_sL, ln_sR, ln_cp, gR_sI, gR_sL, gR_sR, gR_cp, gL_sI, gL_sR, gL_cp, gI_sL, gI_sR, iI_add, iI_sub, iI_mul, iI_neg, iI_in, iI_tn, iI_lt, iI_eq, Nat.reduceLeDiff, Nat.reduceEqDiff, Nat.reduceAdd, Int.reduceEq, Int.reduceLT, Int.reduceLE, Int.reduceNeg, Int.reduceAdd, Int.reduceSub, Int.reduceMul, bI_t, bI_f, decide_true, decide_false, Bool.and_true, Bool.and_false, Bool.true_and, Bool.false_and, Bool.false_eq_true, Bool.and_self, Bool.not_true, Bool.not_false, Bool.true_or, Bool.false_or, Bool.or_true, Bool.or_false], h, FU.rf⟩
    · by_cases z3 : sa D 46 = 10
      · refine ⟨m, ?_, by simp (disch := omega) only [↓reduceIte, not_false_eq_true, not_true_eq_false, and_self, and_true, true_and, false_and, and_false, or_true, true_or, or_false, false_or, or_self, reduceCtorEq, mm_q, Option.getD_some, cI_some, cJ_some, cV_some, cS_some, kd_sI, kd_sL, kd_sR, kd_cp, ln_sI, ln_sL, ln_sR, ln_cp, gR_sI, gR_sL, gR_sR, gR_cp, gL_sI, gL_sR, gL_cp, gI_sL, gI_sR, iI_add, iI_sub, iI_mul, iI_neg, iI_in, iI_tn, iI_lt, iI_eq, Nat.reduceLeDiff, Nat.reduceEqDiff, Nat.reduceAdd, Int.reduceEq, Int.reduceLT, Int.reduceLE, Int.reduceNeg, Int.reduceAdd, Int.reduceSub, Int.reduceMul, bI_t, bI_f, decide_true, decide_false, Bool.and_true, Bool.and_false, Bool.true_and, Bool.false_and, Bool.false_eq_true, Bool.and_self, Bool.not_true, Bool.not_false, Bool.true_or, Bool.false_or, Bool.or_true, Bool.or_false, z3]; exact h, FU.rf⟩
        have e30 : mm_ev (d - 1) 30 0 [some (.ref 163), some (.int (iI (t))), some (.int (iI (c))), some (.int (iI (bI r)))] [] m = some (some (some (.int (iI 0))), m) := by
          rw [sg_30_0]
          simp (disch := omega) only [pf, t2, ↓reduceIte, not_false_eq_true, not_true_eq_false, and_self, and_true, true_and, false_and, and_false, or_true, true_or, or_false, false_or, or_self, reduceCtorEq, mm_q, Option.getD_some, cI_some, cJ_some, cV_some, cS_some, kd_sI, kd_sL, kd_sR, kd_cp, ln_sI, ln_sL, ln_sR, ln_cp, gR_sI, gR_sL, gR_sR, gR_cp, gL_sI, gL_sR, gL_cp, gI_sL, gI_sR, iI_add, iI_sub, iI_mul, iI_neg, iI_in, iI_tn, iI_lt, iI_eq, Nat.reduceLeDiff, Nat.reduceEqDiff, Nat.reduceAdd, Int.reduceEq, Int.reduceLT, Int.reduceLE, Int.reduceNeg, Int.reduceAdd, Int.reduceSub, Int.reduceMul, z3, Int.lt_irrefl]
        simp (disch := omega) only [xf, pf, ↓reduceIte, not_false_eq_true, not_true_eq_false, and_self, and_true, true_and, false_and, and_false, or_true, true_or, or_false, false_or, or_self, reduceCtorEq, mm_q, Option.getD_some, cI_some, cJ_some, cV_some, cS_some, kd_sI, kd_sL, kd_sR, kd_cp, ln_sI, ln_sL, ln_sR, ln_cp, gR_sI, gR_sL, gR_sR, gR_cp, gL_sI, gL_sR, gL_cp, gI_sL, gI_sR, iI_add, iI_sub, iI_mul, iI_neg, iI_in, iI_tn, iI_lt, iI_eq, Nat.reduceLeDiff, Nat.reduceEqDiff, Nat.reduceAdd, Int.reduceEq, Int.reduceLT, Int.reduceLE, Int.reduceNeg, Int.reduceAdd, Int.reduceSub, Int.reduceMul, bI_t, bI_f, decide_true, decide_false, Bool.and_true, Bool.and_false, Bool.true_and, Bool.false_and, Bool.false_eq_true, Bool.and_self, Bool.not_true, Bool.not_false, Bool.true_or, Bool.false_or, Bool.or_true, Bool.or_false, e30, z3]
      · have f1 : FU m (mm_sI (mm_sI (mm_sI (mm_sI m 166 (sa D 46).toNat (iI t)) 167 (sa D 46).toNat (iI c)) 168 (sa D 46).toNat (iI (bI r))) 163 3 (iI (sa D 46 + 1))) := (((FU.sP (by omega) (by omega)).tr (FU.sP (by omega) (by omega))).tr (FU.sP (by omega) (by omega))).tr (FU.sP (by omega) (by omega))
        refine ⟨_, ?_, ?_, f1⟩
        · have e30 : mm_ev (d - 1) 30 0 [some (.ref 163), some (.int (iI (t))), some (.int (iI (c))), some (.int (iI (bI r)))] [] m = some (some (some (.int (iI 1))), mm_sI (mm_sI (mm_sI (mm_sI m 166 (sa D 46).toNat (iI t)) 167 (sa D 46).toNat (iI c)) 168 (sa D 46).toNat (iI (bI r))) 163 3 (iI (sa D 46 + 1))) := by
            rw [sg_30_0]
            cases r
            · simp (disch := omega) only [pf, t2, ↓reduceIte, not_false_eq_true, not_true_eq_false, and_self, and_true, true_and, false_and, and_false, or_true, true_or, or_false, false_or, or_self, reduceCtorEq, mm_q, Option.getD_some, cI_some, cJ_some, cV_some, cS_some, kd_sI, kd_sL, kd_sR, kd_cp, ln_sI, ln_sL, ln_sR, ln_cp, gR_sI, gR_sL, gR_sR, gR_cp, gL_sI, gL_sR, gL_cp, gI_sL, gI_sR, iI_add, iI_sub, iI_mul, iI_neg, iI_in, iI_tn, iI_lt, iI_eq, Nat.reduceLeDiff, Nat.reduceEqDiff, Nat.reduceAdd, Int.reduceEq, Int.reduceLT, Int.reduceLE, Int.reduceNeg, Int.reduceAdd, Int.reduceSub, Int.reduceMul, bI_t, bI_f, decide_true, decide_false, Bool.and_true, Bool.and_false, Bool.true_and, Bool.false_and, Bool.false_eq_true, Bool.and_self, Bool.not_true, Bool.not_false, Bool.true_or, Bool.false_or, Bool.or_true, Bool.or_false, show sa D 46 < 10 by omega, gI_sI]
              rw [sg_30_48]
              simp (disch := omega) only [pf, t2, ↓reduceIte, not_false_eq_true, not_true_eq_false, and_self, and_true, true_and, false_and, and_false, or_true, true_or, or_false, false_or, or_self, reduceCtorEq, mm_q, Option.getD_some, cI_some, cJ_some, cV_some, cS_some, kd_sI, kd_sL, kd_sR, kd_cp, ln_sI, ln_sL, ln_sR, ln_cp, gR_sI, gR_sL, gR_sR, gR_cp, gL_sI, gL_sR, gL_cp, gI_sL, gI_sR, iI_add, iI_sub, iI_mul, iI_neg, iI_in, iI_tn, iI_lt, iI_eq, Nat.reduceLeDiff, Nat.reduceEqDiff, Nat.reduceAdd, Int.reduceEq, Int.reduceLT, Int.reduceLE, Int.reduceNeg, Int.reduceAdd, Int.reduceSub, Int.reduceMul, gI_sI]
            · simp (disch := omega) only [pf, t2, ↓reduceIte, not_false_eq_true, not_true_eq_false, and_self, and_true, true_and, false_and, and_false, or_true, true_or, or_false, false_or, or_self, reduceCtorEq, mm_q, Option.getD_some, cI_some, cJ_some, cV_some, cS_some, kd_sI, kd_sL, kd_sR, kd_cp, ln_sI, ln_sL, ln_sR, ln_cp, gR_sI, gR_sL, gR_sR, gR_cp, gL_sI, gL_sR, gL_cp, gI_sL, gI_sR, iI_add, iI_sub, iI_mul, iI_neg, iI_in, iI_tn, iI_lt, iI_eq, Nat.reduceLeDiff, Nat.reduceEqDiff, Nat.reduceAdd, Int.reduceEq, Int.reduceLT, Int.reduceLE, Int.reduceNeg, Int.reduceAdd, Int.reduceSub, Int.reduceMul, bI_t, bI_f, decide_true, decide_false, Bool.and_true, Bool.and_false, Bool.true_and, Bool.false_and, Bool.false_eq_true, Bool.and_self, Bool.not_true, Bool.not_false, Bool.true_or, Bool.false_or, Bool.or_true, Bool.or_false, show sa D 46 < 10 by omega, gI_sI]
              rw [sg_30_48]
              simp (disch := omega) only [pf, t2, ↓reduceIte, not_false_eq_true, not_true_eq_false, and_self, and_true, true_and, false_and, and_false, or_true, true_or, or_false, false_or, or_self, reduceCtorEq, mm_q, Option.getD_some, cI_some, cJ_some, cV_some, cS_some, kd_sI, kd_sL, kd_sR, kd_cp, ln_sI, ln_sL, ln_sR, ln_cp, gR_sI, gR_sL, gR_sR, gR_cp, gL_sI, gL_sR, gL_cp, gI_sL, gI_sR, iI_add, iI_sub, iI_mul, iI_neg, iI_in, iI_tn, iI_lt, iI_eq, Nat.reduceLeDiff, Nat.reduceEqDiff, Nat.reduceAdd, Int.reduceEq, Int.reduceLT, Int.reduceLE, Int.reduceNeg, Int.reduceAdd, Int.reduceSub, Int.reduceMul, gI_sI]
          simp (disch := omega) only [xf, pf, ↓reduceIte, not_false_eq_true, not_true_eq_false, and_self, and_true, true_and, false_and, and_false, or_true, true_or, or_false, false_or, or_self, reduceCtorEq, mm_q, Option.getD_some, cI_some, cJ_some, cV_some, cS_some, kd_sI, kd_sL, kd_sR, kd_cp, ln_sI, ln_sL, ln_sR, ln_cp, gR_sI, gR_sL, gR_sR, gR_cp, gL_sI, gL_sR, gL_cp, gI_sL, gI_sR, iI_add, iI_sub, iI_mul, iI_neg, iI_in, iI_tn, iI_lt, iI_eq, Nat.reduceLeDiff, Nat.reduceEqDiff, Nat.reduceAdd, Int.reduceEq, Int.reduceLT, Int.reduceLE, Int.reduceNeg, Int.reduceAdd, Int.reduceSub, Int.reduceMul, bI_t, bI_f, decide_true, decide_false, Bool.and_true, Bool.and_false, Bool.true_and, Bool.false_and, Bool.false_eq_true, Bool.and_self, Bool.not_true, Bool.not_false, Bool.true_or, Bool.false_or, Bool.or_true, Bool.or_false, e30, z3]
        · simp (disch := omega) only [↓reduceIte, not_false_eq_true, not_true_eq_false, and_self, and_true, true_and, false_and, and_false, or_true, true_or, or_false, false_or, or_self, reduceCtorEq, mm_q, Option.getD_some, cI_some, cJ_some, cV_some, cS_some, kd_sI, kd_sL, kd_sR, kd_cp, ln_sI, ln_sL, ln_sR, ln_cp, gR_sI, gR_sL, gR_sR, gR_cp, gL_sI, gL_sR, gL_cp, gI_sL, gI_sR, iI_add, iI_sub, iI_mul, iI_neg, iI_in, iI_tn, iI_lt, iI_eq, Nat.reduceLeDiff, Nat.reduceEqDiff, Nat.reduceAdd, Int.reduceEq, Int.reduceLT, Int.reduceLE, Int.reduceNeg, Int.reduceAdd, Int.reduceSub, Int.reduceMul, bI_t, bI_f, decide_true, decide_false, Bool.and_true, Bool.and_false, Bool.true_and, Bool.false_and, Bool.false_eq_true, Bool.and_self, Bool.not_true, Bool.not_false, Bool.true_or, Bool.false_or, Bool.or_true, Bool.or_false, z3]
          have s2 : SamS D (up (up (up (up D 332 (47 + 3 * sa D 46).toNat (iI t)) 332 (47 + 3 * sa D 46 + 1).toNat (iI c)) 332 (47 + 3 * sa D 46 + 2).toNat (iI (bI r))) 332 46 (iI (sa D 46 + 1))) := (((sam_up (by omega) (by omega) (by omega)).tr (sam_up (by omega) (by omega) (by omega))).tr (sam_up (by omega) (by omega) (by omega))).tr (sam_up (by omega) (by omega) (by omega))
          have eo : ∀ j, ¬ j = 46 → ¬ ((47 + 3 * sa D 46).toNat ≤ j ∧ j ≤ (47 + 3 * sa D 46 + 2).toNat) → up (up (up (up D 332 (47 + 3 * sa D 46).toNat (iI t)) 332 (47 + 3 * sa D 46 + 1).toNat (iI c)) 332 (47 + 3 * sa D 46 + 2).toNat (iI (bI r))) 332 46 (iI (sa D 46 + 1)) 332 j = D 332 j := fun j h1 h2 => by
            unfold up
            rw [if_neg (by omega), if_neg (by omega), if_neg (by omega), if_neg (by omega)]
          have q3 : ∀ (a k : Nat), ¬ (163 ≤ a ∧ a ≤ 168) → mm_gI (mm_sI (mm_sI (mm_sI (mm_sI m 166 (sa D 46).toNat (iI t)) 167 (sa D 46).toNat (iI c)) 168 (sa D 46).toNat (iI (bI r))) 163 3 (iI (sa D 46 + 1))) a k = mm_gI m a k := fun a k h => by rw [gI_sI, gI_sI, gI_sI, gI_sI, if_neg (by omega), if_neg (by omega), if_neg (by omega), if_neg (by omega)]
          have q4 : ∀ (a k : Nat), ¬ (166 ≤ a ∧ a ≤ 168) → ¬ (a = 163 ∧ k = 3) → mm_gI (mm_sI (mm_sI (mm_sI (mm_sI m 166 (sa D 46).toNat (iI t)) 167 (sa D 46).toNat (iI c)) 168 (sa D 46).toNat (iI (bI r))) 163 3 (iI (sa D 46 + 1))) a k = mm_gI m a k := fun a k h1 h2 => by rw [gI_sI, gI_sI, gI_sI, gI_sI, if_neg (by omega), if_neg (by omega), if_neg (by omega), if_neg (by omega)]
          refine pap_fin h k9 s2 (by unfold up; rw [if_neg (by omega), if_neg (by omega), if_neg (by omega), if_neg (by omega)]) (fun j j1 => eo j (by omega) (by omega)) (fun j j0 => eo j (by omega) (by omega)) (fun j => by unfold up; rw [if_neg (by omega), if_neg (by omega), if_neg (by omega), if_neg (by omega)]) f1 (fun _ _ => rfl) (fun a k h0 _ _ => q3 a k h0) ?_ (hM.ch s2 k9 (fun j => by unfold up; rw [if_neg (by omega), if_neg (by omega), if_neg (by omega), if_neg (by omega)]) (fun j j0 j1 => eo j (by omega) (by omega)) (fun a k h0 => q3 a k (by omega)))
          refine ⟨⟨?_, ?_⟩, fun k x0 x1 => ?_, fun k x0 x1 => ?_⟩
          · rw [q4 _ _ (by omega) (by omega), t1]
            exact congrArg iI (sa_c (eo 25 (by omega) (by omega))).symm
          · rw [gI_sI, if_pos ⟨rfl, rfl⟩, sa_u, if_pos (by omega), iI_toInt]
          · obtain ⟨p1, p2⟩ := t3 k x0 x1
            rw [show (0 : Int) + 26 = 26 from rfl, q4 _ _ (by omega) (by omega), q4 _ _ (by omega) (by omega), sa_c (eo _ (by omega) (by omega)), sa_c (eo _ (by omega) (by omega))]
            exact ⟨p1, p2⟩
          · obtain ⟨p1, p2, p3⟩ := t4 k x0 x1
            rw [show (0 : Int) + 47 = 47 from rfl]
            by_cases y : k = sa D 46
            · rw [y]
              refine ⟨?_, ?_, ?_⟩
              · rw [gI_sI, gI_sI, gI_sI, gI_sI, if_neg (by omega), if_neg (by omega), if_neg (by omega), if_pos ⟨rfl, rfl⟩, sa_u, if_neg (by omega), sa_u, if_neg (by omega), sa_u, if_neg (by omega), sa_u, if_pos rfl, iI_toInt]
              · rw [gI_sI, gI_sI, gI_sI, if_neg (by omega), if_neg (by omega), if_pos ⟨rfl, rfl⟩, sa_u, if_neg (by omega), sa_u, if_neg (by omega), sa_u, if_pos rfl, iI_toInt]
              · rw [gI_sI, gI_sI, if_neg (by omega), if_pos ⟨rfl, rfl⟩, sa_u, if_neg (by omega), sa_u, if_pos rfl, iI_toInt]
            · rw [sa_c (eo _ (by omega) (by omega)), sa_c (eo _ (by omega) (by omega)), sa_c (eo _ (by omega) (by omega))]
              refine ⟨?_, ?_, ?_⟩
              · rw [gI_sI, gI_sI, gI_sI, gI_sI, if_neg (by omega), if_neg (by omega), if_neg (by omega), if_neg (by omega)]; exact p1
              · rw [gI_sI, gI_sI, gI_sI, gI_sI, if_neg (by omega), if_neg (by omega), if_neg (by omega), if_neg (by omega)]; exact p2
              · rw [gI_sI, gI_sI, gI_sI, gI_sI, if_neg (by omega), if_neg (by omega), if_neg (by omega), if_neg (by omega)]; exact p3
end
