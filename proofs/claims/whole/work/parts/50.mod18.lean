def HB (m : mm_M) (bf nxt : Int → Int) : Prop := ∀ k, 0 ≤ k → k < 10 → mm_gI m 340 k.toNat = iI (bf k) ∧ mm_gI m 342 k.toNat = iI (nxt k)
def HN (m : mm_M) (nxt : Int → Int) : Prop := ∀ k, 0 ≤ k → k < 10 → mm_gI m 342 k.toNat = iI (nxt k)
section
variable {D : Nat → Nat → Int32} {E : Nat → Nat → Int64} {m m' m'' : mm_M} {d : Nat} {bf nxt : Int → Int} {ak : Int → Bool}
theorem M267a : ∀ (r : Nat) (k : Int) (m : mm_M), k = 10 - r → 0 ≤ k → Sh m → HN m nxt → (∀ j, 0 ≤ j → j < k → mm_gI m 340 j.toNat = iI (-1)) → ∃ m', mm_ev d 267 4 [some (.ref 316), some (.int (iI (0))), some (.int (iI (k))), none] [] m = mm_ev d 267 25 [some (.ref 316), some (.int (iI (0))), some (.int (iI (0))), none] [] m' ∧ Fr scH m m' ∧ HB m' (fun _ => -1) nxt
  | 0, k, m, hk, k0, hs, hN, hb => by
    refine ⟨m, ?_, Fr.rf, fun j j0 j1 => ⟨hb j j0 (by omega), hN j j0 j1⟩⟩
    rw [sg_267_4]
    simp (disch := omega) only [↓reduceIte, not_false_eq_true, not_true_eq_false, and_self, and_true, true_and, false_and, and_false, or_true, true_or, or_false, false_or, or_self, reduceCtorEq, mm_q, Option.getD_some, cI_some, cJ_some, cV_some, cS_some, kd_sI, kd_sL, kd_sR, kd_cp, ln_sI, ln_sL, ln_sR, ln_cp, gR_sI, gR_sL, gR_sR, gR_cp, gL_sI, gL_sR, gL_cp, gI_sL, gI_sR, iI_add, iI_sub, iI_mul, iI_neg, iI_in, iI_tn, iI_lt, iI_eq, Nat.reduceLeDiff, Nat.reduceEqDiff, Nat.reduceAdd, Int.reduceEq, Int.reduceLT, Int.reduceLE, Int.reduceNeg, Int.reduceAdd, Int.reduceSub, Int.reduceMul, show ¬ k < 10 by omega]
  | r + 1, k, m, hk, k0, hs, hN, hb => by
    have g1 : Fr scH m (mm_sI m 340 k.toNat (iI (-1))) := Fr.sH (by omega) (by omega)
    obtain ⟨m', e1, f1, r1⟩ := M267a r (k + 1) _ (by omega) (by omega) (g1.sh hs) (fun j j0 j1 => by rw [gI_sI, if_neg (by omega)]; exact hN j j0 j1) (fun j j0 j1 => by
      rw [gI_sI]
      by_cases z : j = k
      · rw [if_pos ⟨rfl, by omega⟩]
      · rw [if_neg (by omega)]; exact hb j j0 (by omega))
    refine ⟨m', ?_, g1.tr f1, r1⟩
    rw [sg_267_4]
    simp (disch := omega) only [shM hs, ↓reduceIte, not_false_eq_true, not_true_eq_false, and_self, and_true, true_and, false_and, and_false, or_true, true_or, or_false, false_or, or_self, reduceCtorEq, mm_q, Option.getD_some, cI_some, cJ_some, cV_some, cS_some, kd_sI, kd_sL, kd_sR, kd_cp, ln_sI, ln_sL, ln_sR, ln_cp, gR_sI, gR_sL, gR_sR, gR_cp, gL_sI, gL_sR, gL_cp, gI_sL, gI_sR, iI_add, iI_sub, iI_mul, iI_neg, iI_in, iI_tn, iI_lt, iI_eq, Nat.reduceLeDiff, Nat.reduceEqDiff, Nat.reduceAdd, Int.reduceEq, Int.reduceLT, Int.reduceLE, Int.reduceNeg, Int.reduceAdd, Int.reduceSub, Int.reduceMul, show k < 10 by omega]
    exact e1
theorem M267b {l1 l2 : Int32} (hd : 1 ≤ d) : ∀ (r : Nat) (k : Int) (m : mm_M), k = 10 - r → 0 ≤ k → Sh m → HB m bf nxt → (∀ j, 0 ≤ j → j < k → mm_gI m 341 j.toNat = iI 0) → ∃ m', mm_ev d 267 38 [some (.ref 316), some (.int l1), some (.int l2), some (.int (iI (k)))] [] m = mm_ev d 267 38 [some (.ref 316), some (.int l1), some (.int l2), some (.int (iI (10)))] [] m' ∧ Fr scH m m' ∧ HS m' bf (fun _ => false) nxt
  | 0, k, m, hk, k0, hs, hN, hb => by
    refine ⟨m, ?_, Fr.rf, fun j j0 j1 => ⟨(hN j j0 j1).1, hb j j0 (by omega), (hN j j0 j1).2⟩⟩
    rw [show k = 10 by omega]
  | r + 1, k, m, hk, k0, hs, hN, hb => by
    have g1 : Fr scH m (mm_sI m 341 k.toNat (iI 0)) := Fr.sH (by omega) (by omega)
    obtain ⟨m', e1, f1, r1⟩ := M267b (l1 := l1) (l2 := l2) hd r (k + 1) _ (by omega) (by omega) (g1.sh hs) (fun j j0 j1 => by rw [gI_sI, gI_sI, if_neg (by omega), if_neg (by omega)]; exact hN j j0 j1) (fun j j0 j1 => by
      rw [gI_sI]
      by_cases z : j = k
      · rw [if_pos ⟨rfl, by omega⟩]
      · rw [if_neg (by omega)]; exact hb j j0 (by omega))
    refine ⟨m', ?_, g1.tr f1, r1⟩
    rw [sg_267_38 (by omega)]
    simp (disch := omega) only [shM hs, ↓reduceIte, not_false_eq_true, not_true_eq_false, and_self, and_true, true_and, false_and, and_false, or_true, true_or, or_false, false_or, or_self, reduceCtorEq, mm_q, Option.getD_some, cI_some, cJ_some, cV_some, cS_some, kd_sI, kd_sL, kd_sR, kd_cp, ln_sI, ln_sL, ln_sR, ln_cp, gR_sI, gR_sL, gR_sR, gR_cp, gL_sI, gL_sR, gL_cp, gI_sL, gI_sR, iI_add, iI_sub, iI_mul, iI_neg, iI_in, iI_tn, iI_lt, iI_eq, Nat.reduceLeDiff, Nat.reduceEqDiff, Nat.reduceAdd, Int.reduceEq, Int.reduceLT, Int.reduceLE, Int.reduceNeg, Int.reduceAdd, Int.reduceSub, Int.reduceMul, nar0, show k < 10 by omega]
    exact e1
theorem unA_f {n : Nat} (h : n ≤ 10) : unA n (fun _ => false) < 11 := by
  have := (unA_n (n := n) (A := fun _ => false)).2
  omega
theorem M267L (hI : InvS D) (hP : InvP D) (hn : ∀ k, 0 ≤ k → k < 10 → -2 ≤ nxt k ∧ nxt k < 10) (hd : 16 ≤ d) : ∀ (r : Nat) (k : Int) (s : Int × (Int → Int)) (z : Option Value) (m : mm_M), k = sa D 46 - r → 0 ≤ k → MD D E m → HB m s.2 nxt → bfOk (sa D 46) s.2 → ∃ m', mm_ev d 267 25 [some (.ref 316), some (.int (iI (s.1))), some (.int (iI (k))), z] [] m = some (some (some (.int (iI (matGo (edgeS D nxt) (sa D 46) r k s).1))), m') ∧ Fr scH m m'
  | 0, k, s, z, m, hk, k0, h, hH, hb => by
    obtain ⟨n0, n1⟩ := hP.1
    refine ⟨m, ?_, Fr.rf⟩
    rw [sg_267_25]
    unfold matGo
    simp (disch := omega) only [shM h.1, ↓reduceIte, not_false_eq_true, not_true_eq_false, and_self, and_true, true_and, false_and, and_false, or_true, true_or, or_false, false_or, or_self, reduceCtorEq, mm_q, Option.getD_some, cI_some, cJ_some, cV_some, cS_some, kd_sI, kd_sL, kd_sR, kd_cp, ln_sI, ln_sL, ln_sR, ln_cp, gR_sI, gR_sL, gR_sR, gR_cp, gL_sI, gL_sR, gL_cp, gI_sL, gI_sR, iI_add, iI_sub, iI_mul, iI_neg, iI_in, iI_tn, iI_lt, iI_eq, Nat.reduceLeDiff, Nat.reduceEqDiff, Nat.reduceAdd, Int.reduceEq, Int.reduceLT, Int.reduceLE, Int.reduceNeg, Int.reduceAdd, Int.reduceSub, Int.reduceMul, MD_sa h, show ¬ k < sa D 46 by omega]
  | r + 1, k, s, z, m, hk, k0, h, hH, hb => by
    obtain ⟨n0, n1⟩ := hP.1
    obtain ⟨m1, e1, f1, hH1⟩ := M267b (d := d) (l1 := iI s.1) (l2 := iI k) (by omega) 10 0 m (by omega) (by omega) h.1 hH (fun j j0 j1 => by omega)
    have h1 := h.fr f1.HM
    obtain ⟨m2, e2, f2, hH2, hb2⟩ := M268 (E := E) hI hP hn 11 k (s.2, fun _ => false) (d - 1) m1 (unA_f (by omega)) (by omega) k0 (by omega) h1 hH1 hb
    have h2 := h1.fr f2.HM
    unfold matGo
    generalize fnd (edgeS D nxt) (sa D 46) 11 k (s.2, fun _ => false) = w at e2 hH2 hb2 ⊢
    obtain ⟨m', e3, f3⟩ := M267L hI hP hn hd r (k + 1) (s.1 + bI w.1, w.2.1) (some (.int (iI (10)))) m2 (by omega) (by omega) h2 (fun j j0 j1 => ⟨(hH2 j j0 j1).1, (hH2 j j0 j1).2.2⟩) hb2
    refine ⟨m', ?_, (f1.tr f2).tr f3⟩
    rw [sg_267_25]
    simp (disch := omega) only [shM h.1, ↓reduceIte, not_false_eq_true, not_true_eq_false, and_self, and_true, true_and, false_and, and_false, or_true, true_or, or_false, false_or, or_self, reduceCtorEq, mm_q, Option.getD_some, cI_some, cJ_some, cV_some, cS_some, kd_sI, kd_sL, kd_sR, kd_cp, ln_sI, ln_sL, ln_sR, ln_cp, gR_sI, gR_sL, gR_sR, gR_cp, gL_sI, gL_sR, gL_cp, gI_sL, gI_sR, iI_add, iI_sub, iI_mul, iI_neg, iI_in, iI_tn, iI_lt, iI_eq, Nat.reduceLeDiff, Nat.reduceEqDiff, Nat.reduceAdd, Int.reduceEq, Int.reduceLT, Int.reduceLE, Int.reduceNeg, Int.reduceAdd, Int.reduceSub, Int.reduceMul, MD_sa h, show k < sa D 46 by omega]
    rw [e1, sg_267_38 (by omega)]
    cases z1 : w.1
    · rw [z1] at e2 e3
      simp (disch := omega) only [shM h1.1, ↓reduceIte, not_false_eq_true, not_true_eq_false, and_self, and_true, true_and, false_and, and_false, or_true, true_or, or_false, false_or, or_self, reduceCtorEq, mm_q, Option.getD_some, cI_some, cJ_some, cV_some, cS_some, kd_sI, kd_sL, kd_sR, kd_cp, ln_sI, ln_sL, ln_sR, ln_cp, gR_sI, gR_sL, gR_sR, gR_cp, gL_sI, gL_sR, gL_cp, gI_sL, gI_sR, iI_add, iI_sub, iI_mul, iI_neg, iI_in, iI_tn, iI_lt, iI_eq, Nat.reduceLeDiff, Nat.reduceEqDiff, Nat.reduceAdd, Int.reduceEq, Int.reduceLT, Int.reduceLE, Int.reduceNeg, Int.reduceAdd, Int.reduceSub, Int.reduceMul, bI_t, bI_f, decide_true, decide_false, Bool.and_true, Bool.and_false, Bool.true_and, Bool.false_and, Bool.false_eq_true, Bool.and_self, Bool.not_true, Bool.not_false, Bool.true_or, Bool.false_or, Bool.or_true, Bool.or_false, Int.lt_irrefl, sg_267_71] at e2 e3 ⊢
      simp (disch := omega) only [↓reduceIte, not_false_eq_true, not_true_eq_false, and_self, and_true, true_and, false_and, and_false, or_true, true_or, or_false, false_or, or_self, reduceCtorEq, mm_q, Option.getD_some, cI_some, cJ_some, cV_some, cS_some, kd_sI, kd_sL, kd_sR, kd_cp, ln_sI, ln_sL, ln_sR, ln_cp, gR_sI, gR_sL, gR_sR, gR_cp, gL_sI, gL_sR, gL_cp, gI_sL, gI_sR, iI_add, iI_sub, iI_mul, iI_neg, iI_in, iI_tn, iI_lt, iI_eq, Nat.reduceLeDiff, Nat.reduceEqDiff, Nat.reduceAdd, Int.reduceEq, Int.reduceLT, Int.reduceLE, Int.reduceNeg, Int.reduceAdd, Int.reduceSub, Int.reduceMul, e2, sg_267_71]
      exact e3
    · rw [z1] at e2 e3
      simp (disch := omega) only [shM h1.1, ↓reduceIte, not_false_eq_true, not_true_eq_false, and_self, and_true, true_and, false_and, and_false, or_true, true_or, or_false, false_or, or_self, reduceCtorEq, mm_q, Option.getD_some, cI_some, cJ_some, cV_some, cS_some, kd_sI, kd_sL, kd_sR, kd_cp, ln_sI, ln_sL, ln_sR, ln_cp, gR_sI, gR_sL, gR_sR, gR_cp, gL_sI, gL_sR, gL_cp, gI_sL, gI_sR, iI_add, iI_sub, iI_mul, iI_neg, iI_in, iI_tn, iI_lt, iI_eq, Nat.reduceLeDiff, Nat.reduceEqDiff, Nat.reduceAdd, Int.reduceEq, Int.reduceLT, Int.reduceLE, Int.reduceNeg, Int.reduceAdd, Int.reduceSub, Int.reduceMul, bI_t, bI_f, decide_true, decide_false, Bool.and_true, Bool.and_false, Bool.true_and, Bool.false_and, Bool.false_eq_true, Bool.and_self, Bool.not_true, Bool.not_false, Bool.true_or, Bool.false_or, Bool.or_true, Bool.or_false, Int.lt_irrefl, sg_267_71] at e2 e3 ⊢
      simp (disch := omega) only [↓reduceIte, not_false_eq_true, not_true_eq_false, and_self, and_true, true_and, false_and, and_false, or_true, true_or, or_false, false_or, or_self, reduceCtorEq, mm_q, Option.getD_some, cI_some, cJ_some, cV_some, cS_some, kd_sI, kd_sL, kd_sR, kd_cp, ln_sI, ln_sL, ln_sR, ln_cp, gR_sI, gR_sL, gR_sR, gR_cp, gL_sI, gL_sR, gL_cp, gI_sL, gI_sR, iI_add, iI_sub, iI_mul, iI_neg, iI_in, iI_tn, iI_lt, iI_eq, Nat.reduceLeDiff, Nat.reduceEqDiff, Nat.reduceAdd, Int.reduceEq, Int.reduceLT, Int.reduceLE, Int.reduceNeg, Int.reduceAdd, Int.reduceSub, Int.reduceMul, e2, sg_267_71]
      exact e3
/-- matched -/
theorem M267 (h : MD D E m) (hI : InvS D) (hP : InvP D) (hn : ∀ k, 0 ≤ k → k < 10 → -2 ≤ nxt k ∧ nxt k < 10) (hN : HN m nxt) (hd : 16 ≤ d) : ∃ m', mm_ev d 267 0 [some (.ref 316), none, none, none] [] m = some (some (some (.int (iI (matN (edgeS D nxt) (sa D 46))))), m') ∧ Fr scH m m' ∧ HN m' nxt := by
  obtain ⟨n0, n1⟩ := hP.1
  obtain ⟨m1, e1, f1, hH1⟩ := M267a (d := d) 10 0 m (by omega) (by omega) h.1 hN (fun j j0 j1 => by omega)
  have h1 := h.fr f1.HM
  obtain ⟨m', e2, f2⟩ := M267L (E := E) hI hP hn hd (sa D 46).toNat 0 (0, fun _ => -1) none m1 (by omega) (by omega) h1 hH1 (fun k _ _ => by simp only; omega)
  refine ⟨m', ?_, f1.tr f2, ?_⟩
  · rw [sg_267_0, e1]
    exact e2
  · exact fun k k0 k1 => ((f1.tr f2).gI rfl).trans (hN k k0 k1)
/-- isTaken -/
theorem M272L (hs : Sh m) (hN : HN m nxt) (hn : ∀ k, 0 ≤ k → k < 10 → -2 ≤ nxt k ∧ nxt k < 10) {b e : Int} (b1 : b ≤ 10) (e0 : 0 ≤ e) (e1 : e < 10) : ∀ (r : Nat) (k : Int) (is : Bool), k = b - r → 0 ≤ k → mm_ev d 272 5 [some (.ref 316), some (.int (iI (b))), some (.int (iI (e))), some (.int (iI (bI is))), some (.int (iI (k)))] [] m = some (some (some (.int (iI (bI (is || anyB (fun j => decide (nxt j = e)) r k))))), m)
  | 0, k, is, hk, k0 => by
    rw [sg_272_5]
    unfold anyB
    cases is <;> simp (disch := omega) only [↓reduceIte, not_false_eq_true, not_true_eq_false, and_self, and_true, true_and, false_and, and_false, or_true, true_or, or_false, false_or, or_self, reduceCtorEq, mm_q, Option.getD_some, cI_some, cJ_some, cV_some, cS_some, kd_sI, kd_sL, kd_sR, kd_cp, ln_sI, ln_sL, ln_sR, ln_cp, gR_sI, gR_sL, gR_sR, gR_cp, gL_sI, gL_sR, gL_cp, gI_sL, gI_sR, iI_add, iI_sub, iI_mul, iI_neg, iI_in, iI_tn, iI_lt, iI_eq, Nat.reduceLeDiff, Nat.reduceEqDiff, Nat.reduceAdd, Int.reduceEq, Int.reduceLT, Int.reduceLE, Int.reduceNeg, Int.reduceAdd, Int.reduceSub, Int.reduceMul, bI_t, bI_f, decide_true, decide_false, Bool.and_true, Bool.and_false, Bool.true_and, Bool.false_and, Bool.false_eq_true, Bool.and_self, Bool.not_true, Bool.not_false, Bool.true_or, Bool.false_or, Bool.or_true, Bool.or_false, show ¬ k < b by omega, Bool.or_false]
  | r + 1, k, is, hk, k0 => by
    have ih := fun is => M272L hs hN hn b1 e0 e1 r (k + 1) is (by omega) (by omega)
    have q := hN k k0 (by omega)
    have q2 := hn k k0 (by omega)
    rw [sg_272_5]
    unfold anyB
    cases is with
    | true =>
      have e := ih true
      rw [Bool.true_or] at e ⊢
      simp (disch := omega) only [↓reduceIte, not_false_eq_true, not_true_eq_false, and_self, and_true, true_and, false_and, and_false, or_true, true_or, or_false, false_or, or_self, reduceCtorEq, mm_q, Option.getD_some, cI_some, cJ_some, cV_some, cS_some, kd_sI, kd_sL, kd_sR, kd_cp, ln_sI, ln_sL, ln_sR, ln_cp, gR_sI, gR_sL, gR_sR, gR_cp, gL_sI, gL_sR, gL_cp, gI_sL, gI_sR, iI_add, iI_sub, iI_mul, iI_neg, iI_in, iI_tn, iI_lt, iI_eq, Nat.reduceLeDiff, Nat.reduceEqDiff, Nat.reduceAdd, Int.reduceEq, Int.reduceLT, Int.reduceLE, Int.reduceNeg, Int.reduceAdd, Int.reduceSub, Int.reduceMul, bI_t, bI_f, decide_true, decide_false, Bool.and_true, Bool.and_false, Bool.true_and, Bool.false_and, Bool.false_eq_true, Bool.and_self, Bool.not_true, Bool.not_false, Bool.true_or, Bool.false_or, Bool.or_true, Bool.or_false, show k < b by omega, sg_272_26, sg_272_31] at e ⊢
      exact e
    | false =>
      by_cases z : nxt k = e
      · have e := ih true
        rw [decide_eq_true z, Bool.false_or, Bool.true_or]
        rw [Bool.true_or] at e
        simp (disch := omega) only [shM hs, ↓reduceIte, not_false_eq_true, not_true_eq_false, and_self, and_true, true_and, false_and, and_false, or_true, true_or, or_false, false_or, or_self, reduceCtorEq, mm_q, Option.getD_some, cI_some, cJ_some, cV_some, cS_some, kd_sI, kd_sL, kd_sR, kd_cp, ln_sI, ln_sL, ln_sR, ln_cp, gR_sI, gR_sL, gR_sR, gR_cp, gL_sI, gL_sR, gL_cp, gI_sL, gI_sR, iI_add, iI_sub, iI_mul, iI_neg, iI_in, iI_tn, iI_lt, iI_eq, Nat.reduceLeDiff, Nat.reduceEqDiff, Nat.reduceAdd, Int.reduceEq, Int.reduceLT, Int.reduceLE, Int.reduceNeg, Int.reduceAdd, Int.reduceSub, Int.reduceMul, bI_t, bI_f, decide_true, decide_false, Bool.and_true, Bool.and_false, Bool.true_and, Bool.false_and, Bool.false_eq_true, Bool.and_self, Bool.not_true, Bool.not_false, Bool.true_or, Bool.false_or, Bool.or_true, Bool.or_false, show k < b by omega, q, z, sg_272_26, sg_272_31] at e ⊢
        exact e
      · have e := ih false
        rw [decide_eq_false z, Bool.false_or, Bool.false_or]
        rw [Bool.false_or] at e
        simp (disch := omega) only [shM hs, ↓reduceIte, not_false_eq_true, not_true_eq_false, and_self, and_true, true_and, false_and, and_false, or_true, true_or, or_false, false_or, or_self, reduceCtorEq, mm_q, Option.getD_some, cI_some, cJ_some, cV_some, cS_some, kd_sI, kd_sL, kd_sR, kd_cp, ln_sI, ln_sL, ln_sR, ln_cp, gR_sI, gR_sL, gR_sR, gR_cp, gL_sI, gL_sR, gL_cp, gI_sL, gI_sR, iI_add, iI_sub, iI_mul, iI_neg, iI_in, iI_tn, iI_lt, iI_eq, Nat.reduceLeDiff, Nat.reduceEqDiff, Nat.reduceAdd, Int.reduceEq, Int.reduceLT, Int.reduceLE, Int.reduceNeg, Int.reduceAdd, Int.reduceSub, Int.reduceMul, bI_t, bI_f, decide_true, decide_false, Bool.and_true, Bool.and_false, Bool.true_and, Bool.false_and, Bool.false_eq_true, Bool.and_self, Bool.not_true, Bool.not_false, Bool.true_or, Bool.false_or, Bool.or_true, Bool.or_false, show k < b by omega, q, z, sg_272_26, sg_272_31] at e ⊢
        exact e
theorem M272 (hs : Sh m) (hN : HN m nxt) (hn : ∀ k, 0 ≤ k → k < 10 → -2 ≤ nxt k ∧ nxt k < 10) {b e : Int} (b0 : 0 ≤ b) (b1 : b ≤ 10) (e0 : 0 ≤ e) (e1 : e < 10) : mm_ev d 272 0 [some (.ref 316), some (.int (iI (b))), some (.int (iI (e))), none, none] [] m = some (some (some (.int (iI (bI (anyB (fun j => decide (nxt j = e)) b.toNat 0))))), m) := by
  rw [sg_272_0]
  have := M272L (d := d) hs hN hn b1 e0 e1 b.toNat 0 false (by omega) (by omega)
  rw [Bool.false_or] at this
  exact this
theorem HN.up (h : HN m nxt) {k v : Int} (k0 : 0 ≤ k) : HN (mm_sI m 342 k.toNat (iI v)) (updB nxt k v) := fun j j0 j1 => by
  rw [gI_sI]
  unfold updB
  by_cases z : j = k
  · rw [if_pos ⟨rfl, by omega⟩, if_pos z]
  · rw [if_neg (by omega), if_neg z]; exact h j j0 j1
def nxOk (nxt : Int → Int) : Prop := ∀ k, 0 ≤ k → k < 10 → -2 ≤ nxt k ∧ nxt k < 10
theorem nxOk.upd (h : nxOk nxt) {k v : Int} (v0 : -2 ≤ v) (v1 : v < 10) : nxOk (updB nxt k v) := fun j j0 j1 => by
  unfold updB
  split
  · exact ⟨v0, v1⟩
  · exact h j j0 j1
theorem matGo_r {ed : Int → Int → Bool} {n : Int} : ∀ (r : Nat) (k : Int) (s : Int × (Int → Int)), s.1 ≤ (matGo ed n r k s).1 ∧ (matGo ed n r k s).1 ≤ s.1 + r
  | 0, _, s => by unfold matGo; omega
  | r + 1, k, s => by
    unfold matGo
    have := matGo_r (ed := ed) (n := n) r (k + 1) (s.1 + bI (fnd ed n 11 k (s.2, fun _ => false)).1, (fnd ed n 11 k (s.2, fun _ => false)).2.1)
    have b := bI_r (fnd ed n 11 k (s.2, fun _ => false)).1
    simp only at this
    omega
theorem matN_r {ed : Int → Int → Bool} {n : Int} : 0 ≤ matN ed n ∧ matN ed n ≤ n.toNat := by
  have := matGo_r (ed := ed) (n := n) n.toNat 0 (0, fun _ => -1)
  unfold matN
  simp only at this
  omega
/-- laysNext's inner loop -/
theorem M271I (hI : InvS D) (hP : InvP D) (hd : 18 ≤ d) {most k : Int} (y0 : 0 ≤ most) (y1 : most ≤ 10) (k0 : 0 ≤ k) (k1 : k < sa D 46) : ∀ (r : Nat) (e : Int) (s : Bool × (Int → Int)) (m : mm_M), e = sa D 46 - r → 0 ≤ e → MD D E m → HN m s.2 → nxOk s.2 → ∃ m' x, mm_ev d 271 18 [some (.ref 316), some (.int (iI (most))), some (.int (iI (k))), some (.int (iI (bI s.1))), some (.int (iI (e)))] [] m = mm_ev d 271 82 [some (.ref 316), some (.int (iI (most))), some (.int (iI (k))), some (.int (iI (bI (layE D (sa D 46) most k r e s).1))), some (.int x)] [] m' ∧ Fr scM m m' ∧ HN m' (layE D (sa D 46) most k r e s).2 ∧ nxOk (layE D (sa D 46) most k r e s).2
  | 0, e, s, m, he, e0, h, hN, hx => by
    obtain ⟨n0, n1⟩ := hP.1
    refine ⟨m, iI e, ?_, Fr.rf, hN, hx⟩
    rw [sg_271_18 (by omega)]
    unfold layE
    simp (disch := omega) only [shM h.1, ↓reduceIte, not_false_eq_true, not_true_eq_false, and_self, and_true, true_and, false_and, and_false, or_true, true_or, or_false, false_or, or_self, reduceCtorEq, mm_q, Option.getD_some, cI_some, cJ_some, cV_some, cS_some, kd_sI, kd_sL, kd_sR, kd_cp, ln_sI, ln_sL, ln_sR, ln_cp, gR_sI, gR_sL, gR_sR, gR_cp, gL_sI, gL_sR, gL_cp, gI_sL, gI_sR, iI_add, iI_sub, iI_mul, iI_neg, iI_in, iI_tn, iI_lt, iI_eq, Nat.reduceLeDiff, Nat.reduceEqDiff, Nat.reduceAdd, Int.reduceEq, Int.reduceLT, Int.reduceLE, Int.reduceNeg, Int.reduceAdd, Int.reduceSub, Int.reduceMul, MD_sa h, show ¬ e < sa D 46 by omega]
  | r + 1, e, s, m, he, e0, h, hN, hx => by
    obtain ⟨n0, n1⟩ := hP.1
    have e1 : e < sa D 46 := by omega
    rw [sg_271_18 (by omega)]
    cases z1 : s.1
    · simp (disch := omega) only [shM h.1, ↓reduceIte, not_false_eq_true, not_true_eq_false, and_self, and_true, true_and, false_and, and_false, or_true, true_or, or_false, false_or, or_self, reduceCtorEq, mm_q, Option.getD_some, cI_some, cJ_some, cV_some, cS_some, kd_sI, kd_sL, kd_sR, kd_cp, ln_sI, ln_sL, ln_sR, ln_cp, gR_sI, gR_sL, gR_sR, gR_cp, gL_sI, gL_sR, gL_cp, gI_sL, gI_sR, iI_add, iI_sub, iI_mul, iI_neg, iI_in, iI_tn, iI_lt, iI_eq, Nat.reduceLeDiff, Nat.reduceEqDiff, Nat.reduceAdd, Int.reduceEq, Int.reduceLT, Int.reduceLE, Int.reduceNeg, Int.reduceAdd, Int.reduceSub, Int.reduceMul, bI_t, bI_f, decide_true, decide_false, Bool.and_true, Bool.and_false, Bool.true_and, Bool.false_and, Bool.false_eq_true, Bool.and_self, Bool.not_true, Bool.not_false, Bool.true_or, Bool.false_or, Bool.or_true, Bool.or_false, MD_sa h, e1, M270 h hI hP (d := d - 1) (by omega) k0 k1 e0 e1]
      rw [sg_271_41 (by omega)]
      cases z2 : canF D k e
      · have ef : layE D (sa D 46) most k (r + 1) e s = layE D (sa D 46) most k r (e + 1) s := by
          rw [layE, z1, z2]
          simp
        rw [ef]
        obtain ⟨m', x, e2, g2, r2⟩ := M271I hI hP hd y0 y1 k0 k1 r (e + 1) s m (by omega) (by omega) h hN hx
        refine ⟨m', x, ?_, g2, r2⟩
        rw [z1] at e2
        simp (disch := omega) only [↓reduceIte, not_false_eq_true, not_true_eq_false, and_self, and_true, true_and, false_and, and_false, or_true, true_or, or_false, false_or, or_self, reduceCtorEq, mm_q, Option.getD_some, cI_some, cJ_some, cV_some, cS_some, kd_sI, kd_sL, kd_sR, kd_cp, ln_sI, ln_sL, ln_sR, ln_cp, gR_sI, gR_sL, gR_sR, gR_cp, gL_sI, gL_sR, gL_cp, gI_sL, gI_sR, iI_add, iI_sub, iI_mul, iI_neg, iI_in, iI_tn, iI_lt, iI_eq, Nat.reduceLeDiff, Nat.reduceEqDiff, Nat.reduceAdd, Int.reduceEq, Int.reduceLT, Int.reduceLE, Int.reduceNeg, Int.reduceAdd, Int.reduceSub, Int.reduceMul, bI_t, bI_f, decide_true, decide_false, Bool.and_true, Bool.and_false, Bool.true_and, Bool.false_and, Bool.false_eq_true, Bool.and_self, Bool.not_true, Bool.not_false, Bool.true_or, Bool.false_or, Bool.or_true, Bool.or_false, sg_271_76] at e2 ⊢
        exact e2
      · simp (disch := omega) only [shM h.1, ↓reduceIte, not_false_eq_true, not_true_eq_false, and_self, and_true, true_and, false_and, and_false, or_true, true_or, or_false, false_or, or_self, reduceCtorEq, mm_q, Option.getD_some, cI_some, cJ_some, cV_some, cS_some, kd_sI, kd_sL, kd_sR, kd_cp, ln_sI, ln_sL, ln_sR, ln_cp, gR_sI, gR_sL, gR_sR, gR_cp, gL_sI, gL_sR, gL_cp, gI_sL, gI_sR, iI_add, iI_sub, iI_mul, iI_neg, iI_in, iI_tn, iI_lt, iI_eq, Nat.reduceLeDiff, Nat.reduceEqDiff, Nat.reduceAdd, Int.reduceEq, Int.reduceLT, Int.reduceLE, Int.reduceNeg, Int.reduceAdd, Int.reduceSub, Int.reduceMul, bI_t, bI_f, decide_true, decide_false, Bool.and_true, Bool.and_false, Bool.true_and, Bool.false_and, Bool.false_eq_true, Bool.and_self, Bool.not_true, Bool.not_false, Bool.true_or, Bool.false_or, Bool.or_true, Bool.or_false, M272 (d := d - 1) h.1 hN hx k0 (show k ≤ 10 by omega) e0 (show e < 10 by omega)]
        rw [sg_271_51 (by omega)]
        cases z3 : anyB (fun j => decide (s.2 j = e)) k.toNat 0
        · have ef : layE D (sa D 46) most k (r + 1) e s = layE D (sa D 46) most k r (e + 1) (decide (matN (edgeS D (updB s.2 k e)) (sa D 46) = most), updB s.2 k e) := by
            rw [layE, z1, z2, z3]
            simp
          rw [ef]
          have g1 : Fr scM m (mm_sI m 342 k.toNat (iI e)) := Fr.sI rfl
          have h1 := h.fr g1
          have hN1 := hN.up (v := e) k0
          have hx1 : nxOk (updB s.2 k e) := hx.upd (by omega) (by omega)
          obtain ⟨m2, e2, g2, hN2⟩ := M267 (d := d - 1) h1 hI hP hx1 hN1 (by omega)
          have mr := matN_r (ed := edgeS D (updB s.2 k e)) (n := sa D 46)
          obtain ⟨m', x, e3, g3, r3⟩ := M271I hI hP hd y0 y1 k0 k1 r (e + 1) (decide (matN (edgeS D (updB s.2 k e)) (sa D 46) = most), updB s.2 k e) m2 (by omega) (by omega) (h1.fr g2.HM) hN2 hx1
          refine ⟨m', x, ?_, (g1.tr g2.HM).tr g3, r3⟩
          rw [← e3]
          simp (disch := omega) only [shM h.1, shM h1.1, ↓reduceIte, not_false_eq_true, not_true_eq_false, and_self, and_true, true_and, false_and, and_false, or_true, true_or, or_false, false_or, or_self, reduceCtorEq, mm_q, Option.getD_some, cI_some, cJ_some, cV_some, cS_some, kd_sI, kd_sL, kd_sR, kd_cp, ln_sI, ln_sL, ln_sR, ln_cp, gR_sI, gR_sL, gR_sR, gR_cp, gL_sI, gL_sR, gL_cp, gI_sL, gI_sR, iI_add, iI_sub, iI_mul, iI_neg, iI_in, iI_tn, iI_lt, iI_eq, Nat.reduceLeDiff, Nat.reduceEqDiff, Nat.reduceAdd, Int.reduceEq, Int.reduceLT, Int.reduceLE, Int.reduceNeg, Int.reduceAdd, Int.reduceSub, Int.reduceMul, bI_t, bI_f, decide_true, decide_false, Bool.and_true, Bool.and_false, Bool.true_and, Bool.false_and, Bool.false_eq_true, Bool.and_self, Bool.not_true, Bool.not_false, Bool.true_or, Bool.false_or, Bool.or_true, Bool.or_false, e2]
          by_cases z4 : matN (edgeS D (updB s.2 k e)) (sa D 46) = most
          · simp (disch := omega) only [↓reduceIte, not_false_eq_true, not_true_eq_false, and_self, and_true, true_and, false_and, and_false, or_true, true_or, or_false, false_or, or_self, reduceCtorEq, mm_q, Option.getD_some, cI_some, cJ_some, cV_some, cS_some, kd_sI, kd_sL, kd_sR, kd_cp, ln_sI, ln_sL, ln_sR, ln_cp, gR_sI, gR_sL, gR_sR, gR_cp, gL_sI, gL_sR, gL_cp, gI_sL, gI_sR, iI_add, iI_sub, iI_mul, iI_neg, iI_in, iI_tn, iI_lt, iI_eq, Nat.reduceLeDiff, Nat.reduceEqDiff, Nat.reduceAdd, Int.reduceEq, Int.reduceLT, Int.reduceLE, Int.reduceNeg, Int.reduceAdd, Int.reduceSub, Int.reduceMul, bI_t, bI_f, decide_true, decide_false, Bool.and_true, Bool.and_false, Bool.true_and, Bool.false_and, Bool.false_eq_true, Bool.and_self, Bool.not_true, Bool.not_false, Bool.true_or, Bool.false_or, Bool.or_true, Bool.or_false, z4, sg_271_75, sg_271_76]
          · simp (disch := omega) only [↓reduceIte, not_false_eq_true, not_true_eq_false, and_self, and_true, true_and, false_and, and_false, or_true, true_or, or_false, false_or, or_self, reduceCtorEq, mm_q, Option.getD_some, cI_some, cJ_some, cV_some, cS_some, kd_sI, kd_sL, kd_sR, kd_cp, ln_sI, ln_sL, ln_sR, ln_cp, gR_sI, gR_sL, gR_sR, gR_cp, gL_sI, gL_sR, gL_cp, gI_sL, gI_sR, iI_add, iI_sub, iI_mul, iI_neg, iI_in, iI_tn, iI_lt, iI_eq, Nat.reduceLeDiff, Nat.reduceEqDiff, Nat.reduceAdd, Int.reduceEq, Int.reduceLT, Int.reduceLE, Int.reduceNeg, Int.reduceAdd, Int.reduceSub, Int.reduceMul, bI_t, bI_f, decide_true, decide_false, Bool.and_true, Bool.and_false, Bool.true_and, Bool.false_and, Bool.false_eq_true, Bool.and_self, Bool.not_true, Bool.not_false, Bool.true_or, Bool.false_or, Bool.or_true, Bool.or_false, z4, sg_271_75, sg_271_76]
        · have ef : layE D (sa D 46) most k (r + 1) e s = layE D (sa D 46) most k r (e + 1) s := by
            rw [layE, z1, z2, z3]
            simp
          rw [ef]
          obtain ⟨m', x, e2, g2, r2⟩ := M271I hI hP hd y0 y1 k0 k1 r (e + 1) s m (by omega) (by omega) h hN hx
          refine ⟨m', x, ?_, g2, r2⟩
          rw [z1] at e2
          simp (disch := omega) only [↓reduceIte, not_false_eq_true, not_true_eq_false, and_self, and_true, true_and, false_and, and_false, or_true, true_or, or_false, false_or, or_self, reduceCtorEq, mm_q, Option.getD_some, cI_some, cJ_some, cV_some, cS_some, kd_sI, kd_sL, kd_sR, kd_cp, ln_sI, ln_sL, ln_sR, ln_cp, gR_sI, gR_sL, gR_sR, gR_cp, gL_sI, gL_sR, gL_cp, gI_sL, gI_sR, iI_add, iI_sub, iI_mul, iI_neg, iI_in, iI_tn, iI_lt, iI_eq, Nat.reduceLeDiff, Nat.reduceEqDiff, Nat.reduceAdd, Int.reduceEq, Int.reduceLT, Int.reduceLE, Int.reduceNeg, Int.reduceAdd, Int.reduceSub, Int.reduceMul, bI_t, bI_f, decide_true, decide_false, Bool.and_true, Bool.and_false, Bool.true_and, Bool.false_and, Bool.false_eq_true, Bool.and_self, Bool.not_true, Bool.not_false, Bool.true_or, Bool.false_or, Bool.or_true, Bool.or_false, sg_271_76] at e2 ⊢
          exact e2
    · have ef : layE D (sa D 46) most k (r + 1) e s = s := by
        rw [layE, z1]
        simp
      rw [ef]
      refine ⟨m, iI e, ?_, Fr.rf, hN, hx⟩
      simp (disch := omega) only [shM h.1, ↓reduceIte, not_false_eq_true, not_true_eq_false, and_self, and_true, true_and, false_and, and_false, or_true, true_or, or_false, false_or, or_self, reduceCtorEq, mm_q, Option.getD_some, cI_some, cJ_some, cV_some, cS_some, kd_sI, kd_sL, kd_sR, kd_cp, ln_sI, ln_sL, ln_sR, ln_cp, gR_sI, gR_sL, gR_sR, gR_cp, gL_sI, gL_sR, gL_cp, gI_sL, gI_sR, iI_add, iI_sub, iI_mul, iI_neg, iI_in, iI_tn, iI_lt, iI_eq, Nat.reduceLeDiff, Nat.reduceEqDiff, Nat.reduceAdd, Int.reduceEq, Int.reduceLT, Int.reduceLE, Int.reduceNeg, Int.reduceAdd, Int.reduceSub, Int.reduceMul, bI_t, bI_f, decide_true, decide_false, Bool.and_true, Bool.and_false, Bool.true_and, Bool.false_and, Bool.false_eq_true, Bool.and_self, Bool.not_true, Bool.not_false, Bool.true_or, Bool.false_or, Bool.or_true, Bool.or_false, MD_sa h, e1, z1]
/-- laysNext -/
theorem M271L (hI : InvS D) (hP : InvP D) (hd : 18 ≤ d) {most : Int} (y0 : 0 ≤ most) (y1 : most ≤ 10) : ∀ (r : Nat) (k : Int) (nxt : Int → Int) (z3 z4 : Option Value) (m : mm_M), k = sa D 46 - r → 0 ≤ k → MD D E m → HN m nxt → nxOk nxt → ∃ m', mm_ev d 271 2 [some (.ref 316), some (.int (iI (most))), some (.int (iI (k))), z3, z4] [] m = some (some none, m') ∧ Fr scM m m' ∧ HN m' (layK D (sa D 46) most r k nxt)
  | 0, k, nxt, z3, z4, m, hk, k0, h, hN, hx => by
    obtain ⟨n0, n1⟩ := hP.1
    refine ⟨m, ?_, Fr.rf, hN⟩
    rw [sg_271_2]
    simp (disch := omega) only [shM h.1, ↓reduceIte, not_false_eq_true, not_true_eq_false, and_self, and_true, true_and, false_and, and_false, or_true, true_or, or_false, false_or, or_self, reduceCtorEq, mm_q, Option.getD_some, cI_some, cJ_some, cV_some, cS_some, kd_sI, kd_sL, kd_sR, kd_cp, ln_sI, ln_sL, ln_sR, ln_cp, gR_sI, gR_sL, gR_sR, gR_cp, gL_sI, gL_sR, gL_cp, gI_sL, gI_sR, iI_add, iI_sub, iI_mul, iI_neg, iI_in, iI_tn, iI_lt, iI_eq, Nat.reduceLeDiff, Nat.reduceEqDiff, Nat.reduceAdd, Int.reduceEq, Int.reduceLT, Int.reduceLE, Int.reduceNeg, Int.reduceAdd, Int.reduceSub, Int.reduceMul, MD_sa h, show ¬ k < sa D 46 by omega]
  | r + 1, k, nxt, z3, z4, m, hk, k0, h, hN, hx => by
    obtain ⟨n0, n1⟩ := hP.1
    have k1 : k < sa D 46 := by omega
    obtain ⟨m1, x, e1, g1, hN1, hx1⟩ := M271I hI hP hd y0 y1 k0 k1 (sa D 46).toNat 0 (false, nxt) m (by omega) (by omega) h hN hx
    have h1 := h.fr g1
    unfold layK
    generalize layE D (sa D 46) most k (sa D 46).toNat 0 (false, nxt) = w at e1 hN1 hx1 ⊢
    have q := hN1 k k0 (by omega)
    have q2 := hx1 k k0 (by omega)
    have g2 : Fr scM m1 (mm_sI m1 342 k.toNat (iI (if w.1 = true then w.2 k else -1))) := Fr.sI rfl
    obtain ⟨m', e3, g3, r3⟩ := M271L hI hP hd y0 y1 r (k + 1) (updB w.2 k (if w.1 = true then w.2 k else -1)) (some (.int (iI (bI w.1)))) (some (.int x)) _ (by omega) (by omega) (h1.fr g2) (hN1.up k0) (hx1.upd (by split <;> omega) (by split <;> omega))
    refine ⟨m', ?_, (g1.tr g2).tr g3, r3⟩
    rw [sg_271_2]
    rw [bI_f] at e1
    simp (disch := omega) only [shM h.1, ↓reduceIte, not_false_eq_true, not_true_eq_false, and_self, and_true, true_and, false_and, and_false, or_true, true_or, or_false, false_or, or_self, reduceCtorEq, mm_q, Option.getD_some, cI_some, cJ_some, cV_some, cS_some, kd_sI, kd_sL, kd_sR, kd_cp, ln_sI, ln_sL, ln_sR, ln_cp, gR_sI, gR_sL, gR_sR, gR_cp, gL_sI, gL_sR, gL_cp, gI_sL, gI_sR, iI_add, iI_sub, iI_mul, iI_neg, iI_in, iI_tn, iI_lt, iI_eq, Nat.reduceLeDiff, Nat.reduceEqDiff, Nat.reduceAdd, Int.reduceEq, Int.reduceLT, Int.reduceLE, Int.reduceNeg, Int.reduceAdd, Int.reduceSub, Int.reduceMul, MD_sa h, k1, e1]
    rw [sg_271_82]
    refine Eq.trans ?_ e3
    cases z1 : w.1
    · simp (disch := omega) only [shM h1.1, ↓reduceIte, not_false_eq_true, not_true_eq_false, and_self, and_true, true_and, false_and, and_false, or_true, true_or, or_false, false_or, or_self, reduceCtorEq, mm_q, Option.getD_some, cI_some, cJ_some, cV_some, cS_some, kd_sI, kd_sL, kd_sR, kd_cp, ln_sI, ln_sL, ln_sR, ln_cp, gR_sI, gR_sL, gR_sR, gR_cp, gL_sI, gL_sR, gL_cp, gI_sL, gI_sR, iI_add, iI_sub, iI_mul, iI_neg, iI_in, iI_tn, iI_lt, iI_eq, Nat.reduceLeDiff, Nat.reduceEqDiff, Nat.reduceAdd, Int.reduceEq, Int.reduceLT, Int.reduceLE, Int.reduceNeg, Int.reduceAdd, Int.reduceSub, Int.reduceMul, bI_t, bI_f, decide_true, decide_false, Bool.and_true, Bool.and_false, Bool.true_and, Bool.false_and, Bool.false_eq_true, Bool.and_self, Bool.not_true, Bool.not_false, Bool.true_or, Bool.false_or, Bool.or_true, Bool.or_false]
      rw [sg_271_101]
      simp (disch := omega) only [shM h1.1, ↓reduceIte, not_false_eq_true, not_true_eq_false, and_self, and_true, true_and, false_and, and_false, or_true, true_or, or_false, false_or, or_self, reduceCtorEq, mm_q, Option.getD_some, cI_some, cJ_some, cV_some, cS_some, kd_sI, kd_sL, kd_sR, kd_cp, ln_sI, ln_sL, ln_sR, ln_cp, gR_sI, gR_sL, gR_sR, gR_cp, gL_sI, gL_sR, gL_cp, gI_sL, gI_sR, iI_add, iI_sub, iI_mul, iI_neg, iI_in, iI_tn, iI_lt, iI_eq, Nat.reduceLeDiff, Nat.reduceEqDiff, Nat.reduceAdd, Int.reduceEq, Int.reduceLT, Int.reduceLE, Int.reduceNeg, Int.reduceAdd, Int.reduceSub, Int.reduceMul]
    · simp (disch := omega) only [shM h1.1, ↓reduceIte, not_false_eq_true, not_true_eq_false, and_self, and_true, true_and, false_and, and_false, or_true, true_or, or_false, false_or, or_self, reduceCtorEq, mm_q, Option.getD_some, cI_some, cJ_some, cV_some, cS_some, kd_sI, kd_sL, kd_sR, kd_cp, ln_sI, ln_sL, ln_sR, ln_cp, gR_sI, gR_sL, gR_sR, gR_cp, gL_sI, gL_sR, gL_cp, gI_sL, gI_sR, iI_add, iI_sub, iI_mul, iI_neg, iI_in, iI_tn, iI_lt, iI_eq, Nat.reduceLeDiff, Nat.reduceEqDiff, Nat.reduceAdd, Int.reduceEq, Int.reduceLT, Int.reduceLE, Int.reduceNeg, Int.reduceAdd, Int.reduceSub, Int.reduceMul, bI_t, bI_f, decide_true, decide_false, Bool.and_true, Bool.and_false, Bool.true_and, Bool.false_and, Bool.false_eq_true, Bool.and_self, Bool.not_true, Bool.not_false, Bool.true_or, Bool.false_or, Bool.or_true, Bool.or_false, q]
      rw [sg_271_101]
      simp (disch := omega) only [shM h1.1, ↓reduceIte, not_false_eq_true, not_true_eq_false, and_self, and_true, true_and, false_and, and_false, or_true, true_or, or_false, false_or, or_self, reduceCtorEq, mm_q, Option.getD_some, cI_some, cJ_some, cV_some, cS_some, kd_sI, kd_sL, kd_sR, kd_cp, ln_sI, ln_sL, ln_sR, ln_cp, gR_sI, gR_sL, gR_sR, gR_cp, gL_sI, gL_sR, gL_cp, gI_sL, gI_sR, iI_add, iI_sub, iI_mul, iI_neg, iI_in, iI_tn, iI_lt, iI_eq, Nat.reduceLeDiff, Nat.reduceEqDiff, Nat.reduceAdd, Int.reduceEq, Int.reduceLT, Int.reduceLE, Int.reduceNeg, Int.reduceAdd, Int.reduceSub, Int.reduceMul]
theorem M266a (hd : 1 ≤ d) {what : Int} : ∀ (r : Nat) (k : Int) (m : mm_M), k = 10 - r → 0 ≤ k → Sh m → (∀ j, 0 ≤ j → j < k → mm_gI m 342 j.toNat = iI (-2)) → ∃ m', mm_ev d 266 27 [some (.ref 316), some (.int (iI (what))), some (.int (iI (k)))] [] m = mm_ev d 266 27 [some (.ref 316), some (.int (iI (what))), some (.int (iI (10)))] [] m' ∧ Fr scM m m' ∧ HN m' (fun _ => -2)
  | 0, k, m, hk, k0, hs, hb => by
    refine ⟨m, ?_, Fr.rf, fun j j0 j1 => hb j j0 (by omega)⟩
    rw [show k = 10 by omega]
  | r + 1, k, m, hk, k0, hs, hb => by
    have g1 : Fr scM m (mm_sI m 342 k.toNat (iI (-2))) := Fr.sI rfl
    obtain ⟨m', e1, f1, r1⟩ := M266a hd (what := what) r (k + 1) _ (by omega) (by omega) (g1.sh hs) (fun j j0 j1 => by
      rw [gI_sI]
      by_cases z : j = k
      · rw [if_pos ⟨rfl, by omega⟩]
      · rw [if_neg (by omega)]; exact hb j j0 (by omega))
    refine ⟨m', ?_, g1.tr f1, r1⟩
    rw [sg_266_27 (by omega)]
    simp (disch := omega) only [shM hs, ↓reduceIte, not_false_eq_true, not_true_eq_false, and_self, and_true, true_and, false_and, and_false, or_true, true_or, or_false, false_or, or_self, reduceCtorEq, mm_q, Option.getD_some, cI_some, cJ_some, cV_some, cS_some, kd_sI, kd_sL, kd_sR, kd_cp, ln_sI, ln_sL, ln_sR, ln_cp, gR_sI, gR_sL, gR_sR, gR_cp, gL_sI, gL_sR, gL_cp, gI_sL, gI_sR, iI_add, iI_sub, iI_mul, iI_neg, iI_in, iI_tn, iI_lt, iI_eq, Nat.reduceLeDiff, Nat.reduceEqDiff, Nat.reduceAdd, Int.reduceEq, Int.reduceLT, Int.reduceLE, Int.reduceNeg, Int.reduceAdd, Int.reduceSub, Int.reduceMul, show k < 10 by omega]
    exact e1
/-- hired -/
theorem M266 (h : MD D E m) (hI : InvS D) (hP : InvP D) (hd : 20 ≤ d) {what : Int} (what_0 : -2147483648 ≤ what) (what_1 : what < 2147483648) : ∃ m', mm_ev d 266 0 [some (.ref 316), some (.int (iI (what))), none] [] m = some (some (some (.int (iI (hiredS D what)))), m') ∧ Fr scM m m' := by
  have h1 := h.fr thr0
  obtain ⟨n0, n1⟩ := hP.1
  rw [sg_266_0 (by omega)]
  unfold hiredS
  cases z1 : inB what (-1) (sa D 46 - 1)
  · exact ⟨_, by simp (disch := omega) only [shM h.1, ↓reduceIte, not_false_eq_true, not_true_eq_false, and_self, and_true, true_and, false_and, and_false, or_true, true_or, or_false, false_or, or_self, reduceCtorEq, mm_q, Option.getD_some, cI_some, cJ_some, cV_some, cS_some, kd_sI, kd_sL, kd_sR, kd_cp, ln_sI, ln_sL, ln_sR, ln_cp, gR_sI, gR_sL, gR_sR, gR_cp, gL_sI, gL_sR, gL_cp, gI_sL, gI_sR, iI_add, iI_sub, iI_mul, iI_neg, iI_in, iI_tn, iI_lt, iI_eq, Nat.reduceLeDiff, Nat.reduceEqDiff, Nat.reduceAdd, Int.reduceEq, Int.reduceLT, Int.reduceLE, Int.reduceNeg, Int.reduceAdd, Int.reduceSub, Int.reduceMul, bI_t, bI_f, decide_true, decide_false, Bool.and_true, Bool.and_false, Bool.true_and, Bool.false_and, Bool.false_eq_true, Bool.and_self, Bool.not_true, Bool.not_false, Bool.true_or, Bool.false_or, Bool.or_true, Bool.or_false, MD_sa h1, M188', z1], thr0⟩
  · obtain ⟨a0, a1⟩ := inB_t.mp z1
    obtain ⟨m1, e1, g1, hN1⟩ := M266a (d := d) (by omega) (what := what) 10 0 (mm_sI m 316 0 (iI 0)) (by omega) (by omega) h1.1 (fun j j0 j1 => by omega)
    have h2 := h1.fr g1
    have hx : nxOk (fun _ => -2) := fun _ _ _ => by simp only; omega
    obtain ⟨m2, e2, g2, hN2⟩ := M267 (d := d - 1) h2 hI hP hx hN1 (by omega)
    have h3 := h2.fr g2.HM
    have mr := matN_r (ed := edgeS D (fun _ => -2)) (n := sa D 46)
    simp (disch := omega) only [shM h.1, ↓reduceIte, not_false_eq_true, not_true_eq_false, and_self, and_true, true_and, false_and, and_false, or_true, true_or, or_false, false_or, or_self, reduceCtorEq, mm_q, Option.getD_some, cI_some, cJ_some, cV_some, cS_some, kd_sI, kd_sL, kd_sR, kd_cp, ln_sI, ln_sL, ln_sR, ln_cp, gR_sI, gR_sL, gR_sR, gR_cp, gL_sI, gL_sR, gL_cp, gI_sL, gI_sR, iI_add, iI_sub, iI_mul, iI_neg, iI_in, iI_tn, iI_lt, iI_eq, Nat.reduceLeDiff, Nat.reduceEqDiff, Nat.reduceAdd, Int.reduceEq, Int.reduceLT, Int.reduceLE, Int.reduceNeg, Int.reduceAdd, Int.reduceSub, Int.reduceMul, bI_t, bI_f, decide_true, decide_false, Bool.and_true, Bool.and_false, Bool.true_and, Bool.false_and, Bool.false_eq_true, Bool.and_self, Bool.not_true, Bool.not_false, Bool.true_or, Bool.false_or, Bool.or_true, Bool.or_false, MD_sa h1, M188', z1, e1]
    rw [sg_266_27 (by omega)]
    simp (disch := omega) only [shM h2.1, ↓reduceIte, not_false_eq_true, not_true_eq_false, and_self, and_true, true_and, false_and, and_false, or_true, true_or, or_false, false_or, or_self, reduceCtorEq, mm_q, Option.getD_some, cI_some, cJ_some, cV_some, cS_some, kd_sI, kd_sL, kd_sR, kd_cp, ln_sI, ln_sL, ln_sR, ln_cp, gR_sI, gR_sL, gR_sR, gR_cp, gL_sI, gL_sR, gL_cp, gI_sL, gI_sR, iI_add, iI_sub, iI_mul, iI_neg, iI_in, iI_tn, iI_lt, iI_eq, Nat.reduceLeDiff, Nat.reduceEqDiff, Nat.reduceAdd, Int.reduceEq, Int.reduceLT, Int.reduceLE, Int.reduceNeg, Int.reduceAdd, Int.reduceSub, Int.reduceMul, Int.lt_irrefl, e2]
    rw [sg_266_51 (by omega)]
    by_cases z2 : what < 0
    · refine ⟨m2, ?_, (thr0.tr g1).tr g2.HM⟩
      simp (disch := omega) only [shM h3.1, ↓reduceIte, not_false_eq_true, not_true_eq_false, and_self, and_true, true_and, false_and, and_false, or_true, true_or, or_false, false_or, or_self, reduceCtorEq, mm_q, Option.getD_some, cI_some, cJ_some, cV_some, cS_some, kd_sI, kd_sL, kd_sR, kd_cp, ln_sI, ln_sL, ln_sR, ln_cp, gR_sI, gR_sL, gR_sR, gR_cp, gL_sI, gL_sR, gL_cp, gI_sL, gI_sR, iI_add, iI_sub, iI_mul, iI_neg, iI_in, iI_tn, iI_lt, iI_eq, Nat.reduceLeDiff, Nat.reduceEqDiff, Nat.reduceAdd, Int.reduceEq, Int.reduceLT, Int.reduceLE, Int.reduceNeg, Int.reduceAdd, Int.reduceSub, Int.reduceMul, z2, MD_sa h3]
    · obtain ⟨m', e4, g4, hN4⟩ := M271L (d := d - 1) hI hP (by omega) (most := matN (edgeS D (fun _ => -2)) (sa D 46)) (by omega) (by omega) (sa D 46).toNat 0 (fun _ => -2) none none m2 (by omega) (by omega) h3 hN2 hx
      refine ⟨m', ?_, ((thr0.tr g1).tr g2.HM).tr g4⟩
      have q := hN4 what (by omega) (by omega)
      have e5 : mm_ev (d - 1) 271 0 [some (.ref 316), some (.int (iI (matN (edgeS D (fun _ => -2)) (sa D 46)))), none, none, none] [] m2 = some (some none, m') := by rw [sg_271_0]; exact e4
      simp (disch := omega) only [shM h3.1, shM (h3.fr g4).1, ↓reduceIte, not_false_eq_true, not_true_eq_false, and_self, and_true, true_and, false_and, and_false, or_true, true_or, or_false, false_or, or_self, reduceCtorEq, mm_q, Option.getD_some, cI_some, cJ_some, cV_some, cS_some, kd_sI, kd_sL, kd_sR, kd_cp, ln_sI, ln_sL, ln_sR, ln_cp, gR_sI, gR_sL, gR_sR, gR_cp, gL_sI, gL_sR, gL_cp, gI_sL, gI_sR, iI_add, iI_sub, iI_mul, iI_neg, iI_in, iI_tn, iI_lt, iI_eq, Nat.reduceLeDiff, Nat.reduceEqDiff, Nat.reduceAdd, Int.reduceEq, Int.reduceLT, Int.reduceLE, Int.reduceNeg, Int.reduceAdd, Int.reduceSub, Int.reduceMul, z2, e5, q]
end
