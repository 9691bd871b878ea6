def nx (G : Int) : Int := (G * 1103515245 + 12345) % 2147483648
def lateStep (w : Int) (s : Int × (Int → Int)) : Int × (Int → Int) := if nx s.1 / 65536 % 10 < 2 then (nx (nx s.1), updB s.2 (17 + w) (nx (nx s.1) / 65536 % 9 + 1)) else (nx s.1, updB s.2 (17 + w) 0)
def latesGo : Nat → Int → Int × (Int → Int) → Int × (Int → Int)
  | 0, _, s => s
  | k + 1, w, s => latesGo k (w + 1) (lateStep w s)
noncomputable def dayStep (D : Nat → Nat → Int32) (n : Int) (q : Int × Int × Int × Int) (B : Int → Int) : Int × Int × Int × Int := (q.1 + bI (goodS D B), q.2.1 + missedB D B, if n = 0 then n else if missedB D B < q.2.2.2 then n else q.2.2.1, if n = 0 then missedB D B else if missedB D B < q.2.2.2 then missedB D B else q.2.2.2)
noncomputable def daysGo (D : Nat → Nat → Int32) : Nat → Int → Int × Int × Int × Int → Int × (Int → Int) → Int × Int × Int
  | 0, _, q, _ => (q.1, q.2.1, q.2.2.1)
  | k + 1, n, q, s => daysGo D k (n + 1) (dayStep D n q (latesGo (st D 6).toNat 0 s).2) ((latesGo (st D 6).toNat 0 s).1, updB (latesGo (st D 6).toNat 0 s).2 0 ((latesGo (st D 6).toNat 0 s).2 0 + 1))
noncomputable def daysS (D : Nat → Nat → Int32) (seed takes what : Int) : Int := if inB seed 0 9999 = true then (if inB takes 1 20 = true then (if inB what 0 2 = true then pick3 (daysGo D takes.toNat 0 (0, 0, 0, 0) (seed, sa D)) what else -1) else -1) else -1
section
theorem lI_add (a b : Int) : lI a + lI b = lI (a + b) := (Int64.ofInt_add a b).symm
theorem lI_sub (a b : Int) : lI a - lI b = lI (a - b) := (Int64.ofInt_sub a b).symm
theorem lI_mul (a b : Int) : lI a * lI b = lI (a * b) := (Int64.ofInt_mul a b).symm
theorem lI_val {z : Int} (h1 : -9223372036854775808 ≤ z) (h2 : z < 9223372036854775808) : (lI z).toInt = z := Int64.toInt_ofInt_of_le h1 h2
theorem lI_div {a b : Int} (h1 : 0 ≤ a) (h2 : a < 9223372036854775808) (h3 : 0 < b) (h4 : b < 9223372036854775808) : lI a / lI b = lI (a / b) := by
  apply Int64.toInt_inj.mp
  rw [Int64.toInt_div_of_ne_right, lI_val (by omega) h2, lI_val (by omega) h4, lI_val, Int.tdiv_eq_ediv_of_nonneg h1]
  · have := Int.ediv_nonneg h1 (show 0 ≤ b by omega); omega
  · have := Int.ediv_le_self b h1; omega
  · intro h
    have h9 := congrArg Int64.toInt h
    rw [lI_val (by omega) h4] at h9
    have : (-1 : Int64).toInt = -1 := rfl
    omega
theorem lI_rem {a b : Int} (h1 : 0 ≤ a) (h2 : a < 9223372036854775808) (h3 : 0 < b) (h4 : b < 9223372036854775808) : lRem (lI a) (lI b) = lI (a % b) := by
  unfold lRem
  rw [lI_div h1 h2 h3 h4, lI_mul, lI_sub]
  congr 1
  have := Int.mul_ediv_add_emod a b
  have e : a / b * b = b * (a / b) := Int.mul_comm _ _
  omega
theorem iI_l {z : Int} (h1 : -2147483648 ≤ z) (h2 : z < 2147483648) : (iI z).toInt64 = lI z := by
  apply Int64.toInt_inj.mp
  rw [Int32.toInt_toInt64, iI_val h1 h2, lI_val (by omega) (by omega)]
theorem lI_i (z : Int) : (lI z).toInt32 = iI z := Int64.toInt32_ofInt
end
section
variable {D : Nat → Nat → Int32} {E : Nat → Nat → Int64} {m m' m'' : mm_M} {d : Nat} {B : Int → Int}
theorem nx_r {G : Int} : 0 ≤ nx G ∧ nx G < 2147483648 := ⟨Int.emod_nonneg _ (by omega), Int.emod_lt_of_pos _ (by omega)⟩
/-- draw -/
theorem M274 (hs : Sh m) {G q : Int} (g0 : 0 ≤ G) (g1 : G < 2147483648) (q0 : 0 < q) (q1 : q < 100) (hg : mm_gL m 316 39 = lI G) : mm_ev d 274 0 [some (.ref 316), some (.int (iI (q)))] [] m = some (some (some (.int (iI (nx G / 65536 % q)))), mm_sL m 316 39 (lI (nx G))) := by
  have r := nx_r (G := G)
  have d0 := Int.ediv_nonneg r.1 (show (0 : Int) ≤ 65536 by omega)
  have d1 := Int.ediv_le_self (65536 : Int) r.1
  have e1 : lRem (mm_gL m 316 39 * lI 1103515245 + lI 12345) (lI 2147483648) = lI (nx G) := by
    rw [hg, lI_mul, lI_add, lI_rem (by omega) (by omega) (by omega) (by omega)]
    rfl
  have e2 : lRem (lI (nx G) / lI 65536) (lI q) = lI (nx G / 65536 % q) := by
    rw [lI_div r.1 (by omega) (by omega) (by omega), lI_rem d0 (by omega) q0 (by omega)]
  have n1 : ¬ lI 2147483648 = lI 0 := by decide
  have n2 : ¬ lI 65536 = lI 0 := by decide
  have n3 : ¬ lI q = lI 0 := by
    intro h
    have := congrArg Int64.toInt h
    rw [lI_val (by omega) (by omega), lI_val (by omega) (by omega)] at this
    omega
  rw [sg_274_0]
  simp (disch := omega) only [shM hs, ↓reduceIte, not_false_eq_true, not_true_eq_false, and_self, and_true, true_and, false_and, and_false, or_true, true_or, or_false, false_or, or_self, reduceCtorEq, mm_q, Option.getD_some, cI_some, cJ_some, cV_some, cS_some, kd_sI, kd_sL, kd_sR, kd_cp, ln_sI, ln_sL, ln_sR, ln_cp, gR_sI, gR_sL, gR_sR, gR_cp, gL_sI, gL_sR, gL_cp, gI_sL, gI_sR, iI_add, iI_sub, iI_mul, iI_neg, iI_in, iI_tn, iI_lt, iI_eq, Nat.reduceLeDiff, Nat.reduceEqDiff, Nat.reduceAdd, Int.reduceEq, Int.reduceLT, Int.reduceLE, Int.reduceNeg, Int.reduceAdd, Int.reduceSub, Int.reduceMul, n1, n2, e1, iI_l, n3, gL_sL, e2, lI_i]
theorem Blk.sG {b : Int} (h : Blk m b B) {k v : Int} (h0 : 0 ≤ k) : Blk (mm_sI m 332 (b + k).toNat (iI v)) b (updB B k v) := ⟨h.1, fun j j0 j1 => by
  have := h.1
  rw [gI_sI]
  unfold updB
  by_cases z : j = k
  · rw [if_pos ⟨rfl, by omega⟩, if_pos z]
  · rw [if_neg (by omega), if_neg z, h.2 j j0 j1]⟩
theorem Blk.sL {b : Int} {w : Int64} (h : Blk m b B) : Blk (mm_sL m 316 39 w) b B := h
theorem Fr.g39 {w : Int64} : Fr scM m (mm_sL m 316 39 w) := Fr.sL rfl
theorem M273I (hI : InvS D) (hd : 8 ≤ d) {l1 l2 l3 l4 l5 l6 l7 l8 : Int32} : ∀ (k : Nat) (w : Int) (s : Int × (Int → Int)) (m : mm_M), w = st D 6 - k → 0 ≤ w → MD D E m → Blk m 1760 s.2 → InvB D s.2 → 0 ≤ s.1 → s.1 < 2147483648 → mm_gL m 316 39 = lI s.1 → ∃ m', mm_ev d 273 77 [some (.ref 316), some (.int l1), some (.int l2), some (.int l3), some (.int l4), some (.int l5), some (.int l6), some (.int l7), some (.int l8), some (.int (iI (w)))] [] m = mm_ev d 273 83 [some (.ref 316), some (.int l1), some (.int l2), some (.int l3), some (.int l4), some (.int l5), some (.int l6), some (.int l7), some (.int l8), some (.int (iI (st D 6)))] [.int (iI (st D 6)), .int (iI (st D 6))] m' ∧ Fr scM m m' ∧ Blk m' 1760 (latesGo k w s).2 ∧ InvB D (latesGo k w s).2 ∧ 0 ≤ (latesGo k w s).1 ∧ (latesGo k w s).1 < 2147483648 ∧ mm_gL m' 316 39 = lI (latesGo k w s).1 ∧ (latesGo k w s).2 0 = s.2 0
  | 0, w, s, m, hw, w0, h, hB, hIB, g0, g1, hg => by
    refine ⟨m, ?_, Fr.rf, hB, hIB, g0, g1, hg, rfl⟩
    rw [sg_273_77 (by omega), show w = st D 6 by omega]
    simp (disch := omega) only [shM h.1, ↓reduceIte, not_false_eq_true, not_true_eq_false, and_self, and_true, true_and, reduceCtorEq, mm_q, Option.getD_some, cI_some, cJ_some, cV_some, cS_some, Nat.reduceLeDiff, Nat.reduceEqDiff, M201 h]
  | k + 1, w, s, m, hw, w0, h, hB, hIB, g0, g1, hg => by
    obtain ⟨k8, k9⟩ := hI.2.2.2.2.2.1
    have w1 : w < st D 6 := by omega
    have r1 := nx_r (G := s.1)
    have r2 := nx_r (G := nx s.1)
    have e1 := M274 (d := d - 1) h.1 (q := 10) g0 g1 (by omega) (by omega) hg
    have h1 : MD D E (mm_sL m 316 39 (lI (nx s.1))) := h.fr Fr.g39
    have v0 := Int.emod_nonneg (nx s.1 / 65536) (show (10 : Int) ≠ 0 by omega)
    have v1 := Int.emod_lt_of_pos (nx s.1 / 65536) (show (0 : Int) < 10 by omega)
    unfold latesGo
    rw [sg_273_77 (by omega)]
    simp (disch := omega) only [shM h.1, ↓reduceIte, not_false_eq_true, not_true_eq_false, and_self, and_true, true_and, reduceCtorEq, mm_q, Option.getD_some, cI_some, cJ_some, cV_some, cS_some, Nat.reduceLeDiff, Nat.reduceEqDiff, M201 h]
    rw [sg_273_83 (by omega)]
    simp (disch := omega) only [shM h.1, ↓reduceIte, not_false_eq_true, not_true_eq_false, and_self, and_true, true_and, false_and, and_false, or_true, true_or, or_false, false_or, or_self, reduceCtorEq, mm_q, Option.getD_some, cI_some, cJ_some, cV_some, cS_some, kd_sI, kd_sL, kd_sR, kd_cp, ln_sI, ln_sL, ln_sR, ln_cp, gR_sI, gR_sL, gR_sR, gR_cp, gL_sI, gL_sR, gL_cp, gI_sL, gI_sR, iI_add, iI_sub, iI_mul, iI_neg, iI_in, iI_tn, iI_lt, iI_eq, Nat.reduceLeDiff, Nat.reduceEqDiff, Nat.reduceAdd, Int.reduceEq, Int.reduceLT, Int.reduceLE, Int.reduceNeg, Int.reduceAdd, Int.reduceSub, Int.reduceMul, w1, e1]
    rw [sg_273_102 (by omega)]
    by_cases z : nx s.1 / 65536 % 10 < 2
    · have y0 := Int.emod_nonneg (nx (nx s.1) / 65536) (show (9 : Int) ≠ 0 by omega)
      have y1 := Int.emod_lt_of_pos (nx (nx s.1) / 65536) (show (0 : Int) < 9 by omega)
      have e2 := M274 (d := d - 1) h1.1 (q := 9) r1.1 r1.2 (by omega) (by omega) (by rw [gL_sL, if_pos ⟨rfl, rfl⟩])
      have es : lateStep w s = (nx (nx s.1), updB s.2 (17 + w) (nx (nx s.1) / 65536 % 9 + 1)) := by unfold lateStep; rw [if_pos z]
      rw [es]
      have f3 : Fr scM m (mm_sI (mm_sL (mm_sL m 316 39 (lI (nx s.1))) 316 39 (lI (nx (nx s.1)))) 332 (1760 + (17 + w)).toNat (iI (nx (nx s.1) / 65536 % 9 + 1))) := (Fr.g39.tr Fr.g39).tr (Fr.sI (scM_hi (by omega)))
      obtain ⟨m', e3, f4, b1, b2, b3, b4, b5, b6⟩ := M273I hI hd (l1 := l1) (l2 := l2) (l3 := l3) (l4 := l4) (l5 := l5) (l6 := l6) (l7 := l7) (l8 := l8) k (w + 1) (nx (nx s.1), updB s.2 (17 + w) (nx (nx s.1) / 65536 % 9 + 1)) _ (by omega) (by omega) (h.fr f3) ((hB.sL.sL).sG (by omega)) (hIB.upd (by omega) (by omega) (by omega) (by omega) k9) r2.1 r2.2 (by rw [gL_sI, gL_sL, if_pos ⟨rfl, rfl⟩])
      refine ⟨m', ?_, f3.tr f4, b1, b2, b3, b4, b5, b6.trans (by simp only [updB]; rw [if_neg (by omega)])⟩
      rw [show (1760 : Int) + (17 + w) = 1777 + w by omega] at e3
      simp (disch := omega) only [shM h1.1, ↓reduceIte, not_false_eq_true, not_true_eq_false, and_self, and_true, true_and, false_and, and_false, or_true, true_or, or_false, false_or, or_self, reduceCtorEq, mm_q, Option.getD_some, cI_some, cJ_some, cV_some, cS_some, kd_sI, kd_sL, kd_sR, kd_cp, ln_sI, ln_sL, ln_sR, ln_cp, gR_sI, gR_sL, gR_sR, gR_cp, gL_sI, gL_sR, gL_cp, gI_sL, gI_sR, iI_add, iI_sub, iI_mul, iI_neg, iI_in, iI_tn, iI_lt, iI_eq, Nat.reduceLeDiff, Nat.reduceEqDiff, Nat.reduceAdd, Int.reduceEq, Int.reduceLT, Int.reduceLE, Int.reduceNeg, Int.reduceAdd, Int.reduceSub, Int.reduceMul, z, e2]
      rw [sg_273_118]
      simp (disch := omega) only [shM (Fr.sh (Fr.g39 (w := lI (nx (nx s.1)))) h1.1), ↓reduceIte, not_false_eq_true, not_true_eq_false, and_self, and_true, true_and, false_and, and_false, or_true, true_or, or_false, false_or, or_self, reduceCtorEq, mm_q, Option.getD_some, cI_some, cJ_some, cV_some, cS_some, kd_sI, kd_sL, kd_sR, kd_cp, ln_sI, ln_sL, ln_sR, ln_cp, gR_sI, gR_sL, gR_sR, gR_cp, gL_sI, gL_sR, gL_cp, gI_sL, gI_sR, iI_add, iI_sub, iI_mul, iI_neg, iI_in, iI_tn, iI_lt, iI_eq, Nat.reduceLeDiff, Nat.reduceEqDiff, Nat.reduceAdd, Int.reduceEq, Int.reduceLT, Int.reduceLE, Int.reduceNeg, Int.reduceAdd, Int.reduceSub, Int.reduceMul]
      exact e3
    · have es : lateStep w s = (nx s.1, updB s.2 (17 + w) 0) := by unfold lateStep; rw [if_neg z]
      rw [es]
      have f3 : Fr scM m (mm_sI (mm_sL m 316 39 (lI (nx s.1))) 332 (1760 + (17 + w)).toNat (iI 0)) := Fr.g39.tr (Fr.sI (scM_hi (by omega)))
      obtain ⟨m', e3, f4, b1, b2, b3, b4, b5, b6⟩ := M273I hI hd (l1 := l1) (l2 := l2) (l3 := l3) (l4 := l4) (l5 := l5) (l6 := l6) (l7 := l7) (l8 := l8) k (w + 1) (nx s.1, updB s.2 (17 + w) 0) _ (by omega) (by omega) (h.fr f3) (hB.sL.sG (by omega)) (hIB.upd (by omega) (by omega) (by omega) (by omega) k9) r1.1 r1.2 (by rw [gL_sI, gL_sL, if_pos ⟨rfl, rfl⟩])
      refine ⟨m', ?_, f3.tr f4, b1, b2, b3, b4, b5, b6.trans (by simp only [updB]; rw [if_neg (by omega)])⟩
      rw [show (1760 : Int) + (17 + w) = 1777 + w by omega] at e3
      simp (disch := omega) only [↓reduceIte, not_false_eq_true, not_true_eq_false, and_self, and_true, true_and, false_and, and_false, or_true, true_or, or_false, false_or, or_self, reduceCtorEq, mm_q, Option.getD_some, cI_some, cJ_some, cV_some, cS_some, kd_sI, kd_sL, kd_sR, kd_cp, ln_sI, ln_sL, ln_sR, ln_cp, gR_sI, gR_sL, gR_sR, gR_cp, gL_sI, gL_sR, gL_cp, gI_sL, gI_sR, iI_add, iI_sub, iI_mul, iI_neg, iI_in, iI_tn, iI_lt, iI_eq, Nat.reduceLeDiff, Nat.reduceEqDiff, Nat.reduceAdd, Int.reduceEq, Int.reduceLT, Int.reduceLE, Int.reduceNeg, Int.reduceAdd, Int.reduceSub, Int.reduceMul, z]
      rw [sg_273_118]
      simp (disch := omega) only [shM h1.1, ↓reduceIte, not_false_eq_true, not_true_eq_false, and_self, and_true, true_and, false_and, and_false, or_true, true_or, or_false, false_or, or_self, reduceCtorEq, mm_q, Option.getD_some, cI_some, cJ_some, cV_some, cS_some, kd_sI, kd_sL, kd_sR, kd_cp, ln_sI, ln_sL, ln_sR, ln_cp, gR_sI, gR_sL, gR_sR, gR_cp, gL_sI, gL_sR, gL_cp, gI_sL, gI_sR, iI_add, iI_sub, iI_mul, iI_neg, iI_in, iI_tn, iI_lt, iI_eq, Nat.reduceLeDiff, Nat.reduceEqDiff, Nat.reduceAdd, Int.reduceEq, Int.reduceLT, Int.reduceLE, Int.reduceNeg, Int.reduceAdd, Int.reduceSub, Int.reduceMul]
      exact e3
theorem missedB_r (hI : InvS D) : 0 ≤ missedB D B ∧ missedB D B ≤ 8 := by
  obtain ⟨q0, q1⟩ := hI.2.2.2.2.2.2.1
  unfold missedB
  have := cntGo_r (fun q => decide (0 < offB D B (B 0) true q)) (st D 7).toNat 0 0
  omega
theorem M273L (hI : InvS D) (hL : InvL D) (hd : 8 ≤ d) {takes what : Int} (y0 : 1 ≤ takes) (y1 : takes ≤ 20) (what_0 : -2147483648 ≤ what) (what_1 : what < 2147483648) {l1 : Int32} : ∀ (k : Nat) (n : Int) (q : Int × Int × Int × Int) (s : Int × (Int → Int)) (z9 : Option Value) (m : mm_M), n = takes - k → 0 ≤ n → 0 ≤ q.2.2.2 → q.2.2.2 ≤ 100 → MD D E m → Blk m 1760 s.2 → InvB D s.2 → s.2 0 ≤ 900 + n → 0 ≤ s.1 → s.1 < 2147483648 → mm_gL m 316 39 = lI s.1 → ∃ m', mm_ev d 273 68 [some (.ref 316), some (.int l1), some (.int (iI (takes))), some (.int (iI (what))), some (.int (iI (q.1))), some (.int (iI (q.2.1))), some (.int (iI (q.2.2.1))), some (.int (iI (q.2.2.2))), some (.int (iI (n))), z9] [] m = some (some (some (.int (iI (pick3 (daysGo D k n q s) what)))), m') ∧ Fr scM m m'
  | 0, n, q, s, z9, m, hn, n0, q0, q1, h, hB, hIB, hB0, g0, g1, hg => by
    refine ⟨m, ?_, Fr.rf⟩
    rw [sg_273_68]
    unfold daysGo pick3
    by_cases x1 : what = 0
    · simp (disch := omega) only [↓reduceIte, not_false_eq_true, not_true_eq_false, and_self, and_true, true_and, false_and, and_false, or_true, true_or, or_false, false_or, or_self, reduceCtorEq, mm_q, Option.getD_some, cI_some, cJ_some, cV_some, cS_some, kd_sI, kd_sL, kd_sR, kd_cp, ln_sI, ln_sL, ln_sR, ln_cp, gR_sI, gR_sL, gR_sR, gR_cp, gL_sI, gL_sR, gL_cp, gI_sL, gI_sR, iI_add, iI_sub, iI_mul, iI_neg, iI_in, iI_tn, iI_lt, iI_eq, Nat.reduceLeDiff, Nat.reduceEqDiff, Nat.reduceAdd, Int.reduceEq, Int.reduceLT, Int.reduceLE, Int.reduceNeg, Int.reduceAdd, Int.reduceSub, Int.reduceMul, show ¬ n < takes by omega, x1]
    · by_cases x2 : what = 1
      · simp (disch := omega) only [↓reduceIte, not_false_eq_true, not_true_eq_false, and_self, and_true, true_and, false_and, and_false, or_true, true_or, or_false, false_or, or_self, reduceCtorEq, mm_q, Option.getD_some, cI_some, cJ_some, cV_some, cS_some, kd_sI, kd_sL, kd_sR, kd_cp, ln_sI, ln_sL, ln_sR, ln_cp, gR_sI, gR_sL, gR_sR, gR_cp, gL_sI, gL_sR, gL_cp, gI_sL, gI_sR, iI_add, iI_sub, iI_mul, iI_neg, iI_in, iI_tn, iI_lt, iI_eq, Nat.reduceLeDiff, Nat.reduceEqDiff, Nat.reduceAdd, Int.reduceEq, Int.reduceLT, Int.reduceLE, Int.reduceNeg, Int.reduceAdd, Int.reduceSub, Int.reduceMul, show ¬ n < takes by omega, x2]
      · simp (disch := omega) only [↓reduceIte, not_false_eq_true, not_true_eq_false, and_self, and_true, true_and, false_and, and_false, or_true, true_or, or_false, false_or, or_self, reduceCtorEq, mm_q, Option.getD_some, cI_some, cJ_some, cV_some, cS_some, kd_sI, kd_sL, kd_sR, kd_cp, ln_sI, ln_sL, ln_sR, ln_cp, gR_sI, gR_sL, gR_sR, gR_cp, gL_sI, gL_sR, gL_cp, gI_sL, gI_sR, iI_add, iI_sub, iI_mul, iI_neg, iI_in, iI_tn, iI_lt, iI_eq, Nat.reduceLeDiff, Nat.reduceEqDiff, Nat.reduceAdd, Int.reduceEq, Int.reduceLT, Int.reduceLE, Int.reduceNeg, Int.reduceAdd, Int.reduceSub, Int.reduceMul, show ¬ n < takes by omega, x1, x2]
  | k + 1, n, q, s, z9, m, hn, n0, q0, q1, h, hB, hIB, hB0, g0, g1, hg => by
    obtain ⟨k8, k9⟩ := hI.2.2.2.2.2.1
    have n1 : n < takes := by omega
    obtain ⟨m1, e1, f1, b1, b2, b3, b4, b5, b6⟩ := M273I hI hd (l1 := l1) (l2 := iI takes) (l3 := iI what) (l4 := iI q.1) (l5 := iI q.2.1) (l6 := iI q.2.2.1) (l7 := iI q.2.2.2) (l8 := iI n) (st D 6).toNat 0 s m (by omega) (by omega) h hB hIB g0 g1 hg
    have h1 := h.fr f1
    unfold daysGo
    generalize latesGo (st D 6).toNat 0 s = s1 at b1 b2 b3 b4 b5 b6 ⊢
    obtain ⟨m2, e2, f2⟩ := M227 (d := d - 1) h1 b1 hI hL b2 (by omega)
    have h2 := h1.frL f2
    have c2 := b1.frL f2
    obtain ⟨m3, is, e3, f3, gd⟩ := M226 (d := d - 1) h2 c2 hI hL b2 (by omega)
    have hg2 := good_b gd
    have h3 := h2.frL f3
    have c3 := c2.frL f3
    have mr := missedB_r hI (B := s1.2)
    have f4 : Fr scM m3 (mm_sI m3 332 (1760 + 0 : Int).toNat (iI (s1.2 0 + 1))) := Fr.sI (scM_hi (by omega))
    have e0 := c3.2 0 (by omega) (by omega)
    have g3 : mm_gL m3 316 39 = lI s1.1 := ((f3.gL rfl).trans (f2.gL rfl)).trans b5
    obtain ⟨m', e5, f5⟩ := M273L hI hL hd y0 y1 what_0 what_1 (l1 := l1) k (n + 1) (dayStep D n q s1.2) (s1.1, updB s1.2 0 (s1.2 0 + 1)) (some (.int (iI (missedB D s1.2)))) _ (by omega) (by omega) (by unfold dayStep; simp only; split; omega; split <;> omega) (by unfold dayStep; simp only; split; omega; split <;> omega) (h3.fr f4) (c3.sG (by omega)) (b2.upd (by have := b2.1; omega) (by omega) (by omega) (by omega) k9) (by show updB s1.2 0 (s1.2 0 + 1) 0 ≤ _; unfold updB; rw [if_pos rfl]; omega) b3 b4 (by rw [gL_sI]; exact g3)
    refine ⟨m', ?_, (((f1.tr f2.LM).tr f3.LM).tr f4).tr f5⟩
    rw [show (1760 + 0 : Int).toNat = 1760 from rfl] at e0 e5
    rw [sg_273_68, if_pos (by rw [iI_lt] <;> omega), e1, sg_273_83 (by omega)]
    simp (disch := omega) only [shM h1.1, ↓reduceIte, not_false_eq_true, not_true_eq_false, and_self, and_true, true_and, false_and, and_false, or_true, true_or, or_false, false_or, or_self, reduceCtorEq, mm_q, Option.getD_some, cI_some, cJ_some, cV_some, cS_some, kd_sI, kd_sL, kd_sR, kd_cp, ln_sI, ln_sL, ln_sR, ln_cp, gR_sI, gR_sL, gR_sR, gR_cp, gL_sI, gL_sR, gL_cp, gI_sL, gI_sR, iI_add, iI_sub, iI_mul, iI_neg, iI_in, iI_tn, iI_lt, iI_eq, Nat.reduceLeDiff, Nat.reduceEqDiff, Nat.reduceAdd, Int.reduceEq, Int.reduceLT, Int.reduceLE, Int.reduceNeg, Int.reduceAdd, Int.reduceSub, Int.reduceMul, Int.lt_irrefl, e2]
    rw [sg_273_132 (by omega)]
    simp (disch := omega) only [shM h2.1, ↓reduceIte, not_false_eq_true, not_true_eq_false, and_self, and_true, true_and, reduceCtorEq, mm_q, Option.getD_some, cI_some, cJ_some, cV_some, cS_some, Nat.reduceLeDiff, Nat.reduceEqDiff, e3]
    refine Eq.trans ?_ e5
    unfold dayStep
    rw [← hg2]
    have k1 : ∀ x : Int32, x = iI (bI is) → mm_ev d 273 151 [some (.ref 316), some (.int l1), some (.int (iI (takes))), some (.int (iI (what))), some (.int (iI (q.1))), some (.int (iI (q.2.1))), some (.int (iI (q.2.2.1))), some (.int (iI (q.2.2.2))), some (.int (iI (n))), some (.int (iI (missedB D s1.2)))] [.int x, .int (iI q.1)] m3 = mm_ev d 273 68 [some (.ref 316), some (.int l1), some (.int (iI (takes))), some (.int (iI (what))), some (.int (iI (q.1 + bI is))), some (.int (iI (q.2.1 + missedB D s1.2))), some (.int (iI (if n = 0 then n else if missedB D s1.2 < q.2.2.2 then n else q.2.2.1))), some (.int (iI (if n = 0 then missedB D s1.2 else if missedB D s1.2 < q.2.2.2 then missedB D s1.2 else q.2.2.2))), some (.int (iI (n + 1))), some (.int (iI (missedB D s1.2)))] [] (mm_sI m3 332 1760 (iI (s1.2 0 + 1))) := by
      intro x hx
      rw [hx, sg_273_151]
      by_cases x1 : n = 0
      · simp (disch := omega) only [↓reduceIte, not_false_eq_true, not_true_eq_false, and_self, and_true, true_and, false_and, and_false, or_true, true_or, or_false, false_or, or_self, reduceCtorEq, mm_q, Option.getD_some, cI_some, cJ_some, cV_some, cS_some, kd_sI, kd_sL, kd_sR, kd_cp, ln_sI, ln_sL, ln_sR, ln_cp, gR_sI, gR_sL, gR_sR, gR_cp, gL_sI, gL_sR, gL_cp, gI_sL, gI_sR, iI_add, iI_sub, iI_mul, iI_neg, iI_in, iI_tn, iI_lt, iI_eq, Nat.reduceLeDiff, Nat.reduceEqDiff, Nat.reduceAdd, Int.reduceEq, Int.reduceLT, Int.reduceLE, Int.reduceNeg, Int.reduceAdd, Int.reduceSub, Int.reduceMul, x1, sg_273_173, sg_273_180, sg_273_194]
        rw [sg_273_201]
        simp (disch := omega) only [shM h3.1, ↓reduceIte, not_false_eq_true, not_true_eq_false, and_self, and_true, true_and, false_and, and_false, or_true, true_or, or_false, false_or, or_self, reduceCtorEq, mm_q, Option.getD_some, cI_some, cJ_some, cV_some, cS_some, kd_sI, kd_sL, kd_sR, kd_cp, ln_sI, ln_sL, ln_sR, ln_cp, gR_sI, gR_sL, gR_sR, gR_cp, gL_sI, gL_sR, gL_cp, gI_sL, gI_sR, iI_add, iI_sub, iI_mul, iI_neg, iI_in, iI_tn, iI_lt, iI_eq, Nat.reduceLeDiff, Nat.reduceEqDiff, Nat.reduceAdd, Int.reduceEq, Int.reduceLT, Int.reduceLE, Int.reduceNeg, Int.reduceAdd, Int.reduceSub, Int.reduceMul, show Int.toNat 1760 = 1760 from rfl, e0]
      · by_cases x2 : missedB D s1.2 < q.2.2.2
        · simp (disch := omega) only [↓reduceIte, not_false_eq_true, not_true_eq_false, and_self, and_true, true_and, false_and, and_false, or_true, true_or, or_false, false_or, or_self, reduceCtorEq, mm_q, Option.getD_some, cI_some, cJ_some, cV_some, cS_some, kd_sI, kd_sL, kd_sR, kd_cp, ln_sI, ln_sL, ln_sR, ln_cp, gR_sI, gR_sL, gR_sR, gR_cp, gL_sI, gL_sR, gL_cp, gI_sL, gI_sR, iI_add, iI_sub, iI_mul, iI_neg, iI_in, iI_tn, iI_lt, iI_eq, Nat.reduceLeDiff, Nat.reduceEqDiff, Nat.reduceAdd, Int.reduceEq, Int.reduceLT, Int.reduceLE, Int.reduceNeg, Int.reduceAdd, Int.reduceSub, Int.reduceMul, x1, x2, sg_273_173, sg_273_180, sg_273_194]
          rw [sg_273_201]
          simp (disch := omega) only [shM h3.1, ↓reduceIte, not_false_eq_true, not_true_eq_false, and_self, and_true, true_and, false_and, and_false, or_true, true_or, or_false, false_or, or_self, reduceCtorEq, mm_q, Option.getD_some, cI_some, cJ_some, cV_some, cS_some, kd_sI, kd_sL, kd_sR, kd_cp, ln_sI, ln_sL, ln_sR, ln_cp, gR_sI, gR_sL, gR_sR, gR_cp, gL_sI, gL_sR, gL_cp, gI_sL, gI_sR, iI_add, iI_sub, iI_mul, iI_neg, iI_in, iI_tn, iI_lt, iI_eq, Nat.reduceLeDiff, Nat.reduceEqDiff, Nat.reduceAdd, Int.reduceEq, Int.reduceLT, Int.reduceLE, Int.reduceNeg, Int.reduceAdd, Int.reduceSub, Int.reduceMul, show Int.toNat 1760 = 1760 from rfl, e0]
        · simp (disch := omega) only [↓reduceIte, not_false_eq_true, not_true_eq_false, and_self, and_true, true_and, false_and, and_false, or_true, true_or, or_false, false_or, or_self, reduceCtorEq, mm_q, Option.getD_some, cI_some, cJ_some, cV_some, cS_some, kd_sI, kd_sL, kd_sR, kd_cp, ln_sI, ln_sL, ln_sR, ln_cp, gR_sI, gR_sL, gR_sR, gR_cp, gL_sI, gL_sR, gL_cp, gI_sL, gI_sR, iI_add, iI_sub, iI_mul, iI_neg, iI_in, iI_tn, iI_lt, iI_eq, Nat.reduceLeDiff, Nat.reduceEqDiff, Nat.reduceAdd, Int.reduceEq, Int.reduceLT, Int.reduceLE, Int.reduceNeg, Int.reduceAdd, Int.reduceSub, Int.reduceMul, x1, x2, sg_273_180]
          rw [sg_273_201]
          simp (disch := omega) only [shM h3.1, ↓reduceIte, not_false_eq_true, not_true_eq_false, and_self, and_true, true_and, false_and, and_false, or_true, true_or, or_false, false_or, or_self, reduceCtorEq, mm_q, Option.getD_some, cI_some, cJ_some, cV_some, cS_some, kd_sI, kd_sL, kd_sR, kd_cp, ln_sI, ln_sL, ln_sR, ln_cp, gR_sI, gR_sL, gR_sR, gR_cp, gL_sI, gL_sR, gL_cp, gI_sL, gI_sR, iI_add, iI_sub, iI_mul, iI_neg, iI_in, iI_tn, iI_lt, iI_eq, Nat.reduceLeDiff, Nat.reduceEqDiff, Nat.reduceAdd, Int.reduceEq, Int.reduceLT, Int.reduceLE, Int.reduceNeg, Int.reduceAdd, Int.reduceSub, Int.reduceMul, show Int.toNat 1760 = 1760 from rfl, e0]
    cases is
    · simp (disch := omega) only [↓reduceIte, not_false_eq_true, not_true_eq_false, and_self, and_true, true_and, false_and, and_false, or_true, true_or, or_false, false_or, or_self, reduceCtorEq, mm_q, Option.getD_some, cI_some, cJ_some, cV_some, cS_some, kd_sI, kd_sL, kd_sR, kd_cp, ln_sI, ln_sL, ln_sR, ln_cp, gR_sI, gR_sL, gR_sR, gR_cp, gL_sI, gL_sR, gL_cp, gI_sL, gI_sR, iI_add, iI_sub, iI_mul, iI_neg, iI_in, iI_tn, iI_lt, iI_eq, Nat.reduceLeDiff, Nat.reduceEqDiff, Nat.reduceAdd, Int.reduceEq, Int.reduceLT, Int.reduceLE, Int.reduceNeg, Int.reduceAdd, Int.reduceSub, Int.reduceMul, bI_t, bI_f, decide_true, decide_false, Bool.and_true, Bool.and_false, Bool.true_and, Bool.false_and, Bool.false_eq_true, Bool.and_self, Bool.not_true, Bool.not_false, Bool.true_or, Bool.false_or, Bool.or_true, Bool.or_false] at k1 ⊢
      exact k1 _ rfl
    · simp (disch := omega) only [↓reduceIte, not_false_eq_true, not_true_eq_false, and_self, and_true, true_and, false_and, and_false, or_true, true_or, or_false, false_or, or_self, reduceCtorEq, mm_q, Option.getD_some, cI_some, cJ_some, cV_some, cS_some, kd_sI, kd_sL, kd_sR, kd_cp, ln_sI, ln_sL, ln_sR, ln_cp, gR_sI, gR_sL, gR_sR, gR_cp, gL_sI, gL_sR, gL_cp, gI_sL, gI_sR, iI_add, iI_sub, iI_mul, iI_neg, iI_in, iI_tn, iI_lt, iI_eq, Nat.reduceLeDiff, Nat.reduceEqDiff, Nat.reduceAdd, Int.reduceEq, Int.reduceLT, Int.reduceLE, Int.reduceNeg, Int.reduceAdd, Int.reduceSub, Int.reduceMul, bI_t, bI_f, decide_true, decide_false, Bool.and_true, Bool.and_false, Bool.true_and, Bool.false_and, Bool.false_eq_true, Bool.and_self, Bool.not_true, Bool.not_false, Bool.true_or, Bool.false_or, Bool.or_true, Bool.or_false] at k1 ⊢
      exact k1 _ rfl
/-- days -/
theorem M273 (h : MD D E m) (hI : InvS D) (hL : InvL D) (hIB : InvB D (sa D)) (hd : 8 ≤ d) (t1 : sa D 0 ≤ 60) {seed takes what : Int} (seed_0 : -2147483648 ≤ seed) (seed_1 : seed < 2147483648) (takes_0 : -2147483648 ≤ takes) (takes_1 : takes < 2147483648) (what_0 : -2147483648 ≤ what) (what_1 : what < 2147483648) : ∃ m', mm_ev d 273 0 [some (.ref 316), some (.int (iI (seed))), some (.int (iI (takes))), some (.int (iI (what))), none, none, none, none, none, none] [] m = some (some (some (.int (iI (daysS D seed takes what)))), m') ∧ Fr scM m m' := by
  have h1 := h.fr thr0
  rw [sg_273_0 (by omega)]
  simp (disch := omega) only [shM h.1, ↓reduceIte, not_false_eq_true, not_true_eq_false, and_self, and_true, true_and, reduceCtorEq, mm_q, Option.getD_some, cI_some, cJ_some, cV_some, cS_some, Nat.reduceLeDiff, Nat.reduceEqDiff, M188']
  rw [sg_273_13 (by omega)]
  unfold daysS
  cases z1 : inB seed 0 9999
  · exact ⟨_, by simp (disch := omega) only [↓reduceIte, not_false_eq_true, not_true_eq_false, and_self, and_true, true_and, false_and, and_false, or_true, true_or, or_false, false_or, or_self, reduceCtorEq, mm_q, Option.getD_some, cI_some, cJ_some, cV_some, cS_some, kd_sI, kd_sL, kd_sR, kd_cp, ln_sI, ln_sL, ln_sR, ln_cp, gR_sI, gR_sL, gR_sR, gR_cp, gL_sI, gL_sR, gL_cp, gI_sL, gI_sR, iI_add, iI_sub, iI_mul, iI_neg, iI_in, iI_tn, iI_lt, iI_eq, Nat.reduceLeDiff, Nat.reduceEqDiff, Nat.reduceAdd, Int.reduceEq, Int.reduceLT, Int.reduceLE, Int.reduceNeg, Int.reduceAdd, Int.reduceSub, Int.reduceMul, bI_t, bI_f, decide_true, decide_false, Bool.and_true, Bool.and_false, Bool.true_and, Bool.false_and, Bool.false_eq_true, Bool.and_self, Bool.not_true, Bool.not_false, Bool.true_or, Bool.false_or, Bool.or_true, Bool.or_false], thr0⟩
  · simp (disch := omega) only [↓reduceIte, not_false_eq_true, not_true_eq_false, and_self, and_true, true_and, false_and, and_false, or_true, true_or, or_false, false_or, or_self, reduceCtorEq, mm_q, Option.getD_some, cI_some, cJ_some, cV_some, cS_some, kd_sI, kd_sL, kd_sR, kd_cp, ln_sI, ln_sL, ln_sR, ln_cp, gR_sI, gR_sL, gR_sR, gR_cp, gL_sI, gL_sR, gL_cp, gI_sL, gI_sR, iI_add, iI_sub, iI_mul, iI_neg, iI_in, iI_tn, iI_lt, iI_eq, Nat.reduceLeDiff, Nat.reduceEqDiff, Nat.reduceAdd, Int.reduceEq, Int.reduceLT, Int.reduceLE, Int.reduceNeg, Int.reduceAdd, Int.reduceSub, Int.reduceMul, bI_t, bI_f, decide_true, decide_false, Bool.and_true, Bool.and_false, Bool.true_and, Bool.false_and, Bool.false_eq_true, Bool.and_self, Bool.not_true, Bool.not_false, Bool.true_or, Bool.false_or, Bool.or_true, Bool.or_false, M188']
    rw [sg_273_23 (by omega)]
    cases z2 : inB takes 1 20
    · exact ⟨_, by simp (disch := omega) only [↓reduceIte, not_false_eq_true, not_true_eq_false, and_self, and_true, true_and, false_and, and_false, or_true, true_or, or_false, false_or, or_self, reduceCtorEq, mm_q, Option.getD_some, cI_some, cJ_some, cV_some, cS_some, kd_sI, kd_sL, kd_sR, kd_cp, ln_sI, ln_sL, ln_sR, ln_cp, gR_sI, gR_sL, gR_sR, gR_cp, gL_sI, gL_sR, gL_cp, gI_sL, gI_sR, iI_add, iI_sub, iI_mul, iI_neg, iI_in, iI_tn, iI_lt, iI_eq, Nat.reduceLeDiff, Nat.reduceEqDiff, Nat.reduceAdd, Int.reduceEq, Int.reduceLT, Int.reduceLE, Int.reduceNeg, Int.reduceAdd, Int.reduceSub, Int.reduceMul, bI_t, bI_f, decide_true, decide_false, Bool.and_true, Bool.and_false, Bool.true_and, Bool.false_and, Bool.false_eq_true, Bool.and_self, Bool.not_true, Bool.not_false, Bool.true_or, Bool.false_or, Bool.or_true, Bool.or_false], thr0⟩
    · simp (disch := omega) only [↓reduceIte, not_false_eq_true, not_true_eq_false, and_self, and_true, true_and, false_and, and_false, or_true, true_or, or_false, false_or, or_self, reduceCtorEq, mm_q, Option.getD_some, cI_some, cJ_some, cV_some, cS_some, kd_sI, kd_sL, kd_sR, kd_cp, ln_sI, ln_sL, ln_sR, ln_cp, gR_sI, gR_sL, gR_sR, gR_cp, gL_sI, gL_sR, gL_cp, gI_sL, gI_sR, iI_add, iI_sub, iI_mul, iI_neg, iI_in, iI_tn, iI_lt, iI_eq, Nat.reduceLeDiff, Nat.reduceEqDiff, Nat.reduceAdd, Int.reduceEq, Int.reduceLT, Int.reduceLE, Int.reduceNeg, Int.reduceAdd, Int.reduceSub, Int.reduceMul, bI_t, bI_f, decide_true, decide_false, Bool.and_true, Bool.and_false, Bool.true_and, Bool.false_and, Bool.false_eq_true, Bool.and_self, Bool.not_true, Bool.not_false, Bool.true_or, Bool.false_or, Bool.or_true, Bool.or_false, M188']
      rw [sg_273_32 (by omega)]
      cases z3 : inB what 0 2
      · exact ⟨_, by simp (disch := omega) only [↓reduceIte, not_false_eq_true, not_true_eq_false, and_self, and_true, true_and, false_and, and_false, or_true, true_or, or_false, false_or, or_self, reduceCtorEq, mm_q, Option.getD_some, cI_some, cJ_some, cV_some, cS_some, kd_sI, kd_sL, kd_sR, kd_cp, ln_sI, ln_sL, ln_sR, ln_cp, gR_sI, gR_sL, gR_sR, gR_cp, gL_sI, gL_sR, gL_cp, gI_sL, gI_sR, iI_add, iI_sub, iI_mul, iI_neg, iI_in, iI_tn, iI_lt, iI_eq, Nat.reduceLeDiff, Nat.reduceEqDiff, Nat.reduceAdd, Int.reduceEq, Int.reduceLT, Int.reduceLE, Int.reduceNeg, Int.reduceAdd, Int.reduceSub, Int.reduceMul, bI_t, bI_f, decide_true, decide_false, Bool.and_true, Bool.and_false, Bool.true_and, Bool.false_and, Bool.false_eq_true, Bool.and_self, Bool.not_true, Bool.not_false, Bool.true_or, Bool.false_or, Bool.or_true, Bool.or_false], thr0⟩
      · obtain ⟨a0, a1⟩ := inB_t.mp z1
        obtain ⟨b0, b1⟩ := inB_t.mp z2
        obtain ⟨m1, e1, u1⟩ := M219 (d := d - 1) h1.1 (f := 0) (t := 1760) (n := 25) (by omega) (by omega) (by omega)
        have f1 : Fr scM (mm_sI m 316 0 (iI 0)) m1 := u1.fr (fun a k z => by
          unfold cpD
          rw [if_neg]
          rintro ⟨rfl, q, -⟩
          rw [scM_hi (by omega)] at z
          cases z)
        have h2 := h1.fr f1
        have hB : Blk m1 1760 (sa D) := ⟨by omega, fun j j0 j1 => by
          rw [u1.2.2.2.2]
          unfold cpD
          rw [if_pos ⟨rfl, by omega, by omega⟩, show (1760 + j).toNat - 1760 + 0 = j.toNat by omega]
          exact MD_sa h1 j0 (by omega)⟩
        have f2 : Fr scM m1 (mm_sL m1 316 39 (lI seed)) := Fr.g39
        obtain ⟨m', e3, f3⟩ := M273L hI hL hd b0 b1 what_0 what_1 (l1 := iI seed) takes.toNat 0 (0, 0, 0, 0) (seed, sa D) none _ (by omega) (by omega) (by simp) (by simp) (h2.fr f2) hB.sL hIB (by simp only; omega) a0 (by simp only; omega) (by rw [gL_sL, if_pos ⟨rfl, rfl⟩])
        refine ⟨m', ?_, ((thr0.tr f1).tr f2).tr f3⟩
        rw [show ((0 : Nat) : Int) = 0 from rfl, show ((1760 : Nat) : Int) = 1760 from rfl, show ((25 : Nat) : Int) = 25 from rfl] at e1
        simp (disch := omega) only [shM h1.1, ↓reduceIte, not_false_eq_true, not_true_eq_false, and_self, and_true, true_and, false_and, and_false, or_true, true_or, or_false, false_or, or_self, reduceCtorEq, mm_q, Option.getD_some, cI_some, cJ_some, cV_some, cS_some, kd_sI, kd_sL, kd_sR, kd_cp, ln_sI, ln_sL, ln_sR, ln_cp, gR_sI, gR_sL, gR_sR, gR_cp, gL_sI, gL_sR, gL_cp, gI_sL, gI_sR, iI_add, iI_sub, iI_mul, iI_neg, iI_in, iI_tn, iI_lt, iI_eq, Nat.reduceLeDiff, Nat.reduceEqDiff, Nat.reduceAdd, Int.reduceEq, Int.reduceLT, Int.reduceLE, Int.reduceNeg, Int.reduceAdd, Int.reduceSub, Int.reduceMul, bI_t, bI_f, decide_true, decide_false, Bool.and_true, Bool.and_false, Bool.true_and, Bool.false_and, Bool.false_eq_true, Bool.and_self, Bool.not_true, Bool.not_false, Bool.true_or, Bool.false_or, Bool.or_true, Bool.or_false, e1]
        rw [sg_273_47]
        simp (disch := omega) only [shM h2.1, ↓reduceIte, not_false_eq_true, not_true_eq_false, and_self, and_true, true_and, false_and, and_false, or_true, true_or, or_false, false_or, or_self, reduceCtorEq, mm_q, Option.getD_some, cI_some, cJ_some, cV_some, cS_some, kd_sI, kd_sL, kd_sR, kd_cp, ln_sI, ln_sL, ln_sR, ln_cp, gR_sI, gR_sL, gR_sR, gR_cp, gL_sI, gL_sR, gL_cp, gI_sL, gI_sR, iI_add, iI_sub, iI_mul, iI_neg, iI_in, iI_tn, iI_lt, iI_eq, Nat.reduceLeDiff, Nat.reduceEqDiff, Nat.reduceAdd, Int.reduceEq, Int.reduceLT, Int.reduceLE, Int.reduceNeg, Int.reduceAdd, Int.reduceSub, Int.reduceMul, iI_l]
        exact e3
end
