section
variable {D : Nat → Nat → Int32} {m m' m'' : mm_M} {d s : Nat}
/-- one bit of whose a sight can be -/
theorem C5b (hs : Sh m) (hst : isSt s) (hR : RSt D m s) (hP : RP D m) (hI : InvS D) (hPP : InvP D) (hd : 3 ≤ d) {i k : Int} (i0 : 0 ≤ i) (i1 : i < sa D 46) (k0 : 0 ≤ k) (k1 : k < sa D 46) {b : Int32} {z5 z6 z7 z8 z9 : Option Value} : ∃ y5 y6 y7 y8 y9, mm_ev d 5 5 [some (.int (iI (i))), some (.ref 163), some (.ref s), some (.int b), some (.int (iI (k))), z5, z6, z7, z8, z9] [] m = mm_ev d 5 5 [some (.int (iI (i))), some (.ref 163), some (.ref s), some (.int (if canF D i k = true then b ||| iShl (iI 1) (iI k) else b)), some (.int (iI (k + 1))), y5, y6, y7, y8, y9] [] m := by
  obtain ⟨-, e3, -, eS⟩ := hP.e
  obtain ⟨p0, p1⟩ := hPP.1
  obtain ⟨⟨a0, a1⟩, ⟨a2, a3⟩, ⟨a4, a5⟩⟩ := hPP.2 i i0 i1
  obtain ⟨⟨c0, c1⟩, ⟨c2, c3⟩, ⟨c4, c5⟩⟩ := hPP.2 k k0 k1
  obtain ⟨s1, s2, s3⟩ := eS i i0 (by omega)
  obtain ⟨t1, t2, t3⟩ := eS k k0 (by omega)
  have L := hI.1
  have R := hI.2.2.2.2.2.2.2.1
  obtain ⟨⟨b0, -, -, -, -, b5, -⟩, -⟩ := hR
  have sF := (stF hs hst).1
  have dr : diS D i k = (if sa D (47 + 3 * i + 2) = 1 then sa D (47 + 3 * k + 1) - sa D (47 + 3 * i + 1) else -(sa D (47 + 3 * k + 1) - sa D (47 + 3 * i + 1))) := by
    unfold diS
    first | rfl | (split <;> omega)
  have tr : tiS D i k = sa D (47 + 3 * k) - sa D (47 + 3 * i) := by unfold tiS; rfl
  have d1 : -40 ≤ diS D i k ∧ diS D i k ≤ 40 ∧ 1 ≤ diS D i k + st D 0 := by rw [dr]; split <;> omega
  have q1 : mm_ev d 5 5 [some (.int (iI (i))), some (.ref 163), some (.ref s), some (.int b), some (.int (iI (k))), z5, z6, z7, z8, z9] [] m = mm_ev d 5 48 [some (.int (iI (i))), some (.ref 163), some (.ref s), some (.int b), some (.int (iI (k))), some (.int (iI (sa D (47 + 3 * k + 1) - sa D (47 + 3 * i + 1)))), z6, z7, z8, z9] [.int (iI (diS D i k))] m := by
    rw [sg_5_5, dr]
    by_cases y : sa D (47 + 3 * i + 2) = 1
    · simp (disch := omega) only [shP hs, ↓reduceIte, not_false_eq_true, not_true_eq_false, and_self, and_true, true_and, false_and, and_false, or_true, true_or, or_false, false_or, or_self, reduceCtorEq, mm_q, Option.getD_some, cI_some, cJ_some, cV_some, cS_some, kd_sI, kd_sL, kd_sR, kd_cp, ln_sI, ln_sL, ln_sR, ln_cp, gR_sI, gR_sL, gR_sR, gR_cp, gL_sI, gL_sR, gL_cp, gI_sL, gI_sR, iI_add, iI_sub, iI_mul, iI_neg, iI_in, iI_tn, iI_lt, iI_eq, Nat.reduceLeDiff, Nat.reduceEqDiff, Nat.reduceAdd, Int.reduceEq, Int.reduceLT, Int.reduceLE, Int.reduceNeg, Int.reduceAdd, Int.reduceSub, Int.reduceMul, e3, k1, s2, t2, s3, y]
    · simp (disch := omega) only [shP hs, ↓reduceIte, not_false_eq_true, not_true_eq_false, and_self, and_true, true_and, false_and, and_false, or_true, true_or, or_false, false_or, or_self, reduceCtorEq, mm_q, Option.getD_some, cI_some, cJ_some, cV_some, cS_some, kd_sI, kd_sL, kd_sR, kd_cp, ln_sI, ln_sL, ln_sR, ln_cp, gR_sI, gR_sL, gR_sR, gR_cp, gL_sI, gL_sR, gL_cp, gI_sL, gI_sR, iI_add, iI_sub, iI_mul, iI_neg, iI_in, iI_tn, iI_lt, iI_eq, Nat.reduceLeDiff, Nat.reduceEqDiff, Nat.reduceAdd, Int.reduceEq, Int.reduceLT, Int.reduceLE, Int.reduceNeg, Int.reduceAdd, Int.reduceSub, Int.reduceMul, e3, k1, s2, t2, s3, y]
  have q2 : mm_ev d 5 48 [some (.int (iI (i))), some (.ref 163), some (.ref s), some (.int b), some (.int (iI (k))), some (.int (iI (sa D (47 + 3 * k + 1) - sa D (47 + 3 * i + 1)))), z6, z7, z8, z9] [.int (iI (diS D i k))] m = mm_ev d 5 87 [some (.int (iI (i))), some (.ref 163), some (.ref s), some (.int b), some (.int (iI (k))), some (.int (iI (sa D (47 + 3 * k + 1) - sa D (47 + 3 * i + 1)))), some (.int (iI (diS D i k))), some (.int (iI (tiS D i k))), z8, z9] [.int (iI (bI (decide (sa D (47 + 3 * i + 2) = sa D (47 + 3 * k + 2)))))] m := by
    rw [sg_5_48, tr]
    by_cases y : sa D (47 + 3 * i + 2) = sa D (47 + 3 * k + 2)
    · rw [bI_1 y]
      simp (disch := omega) only [shP hs, ↓reduceIte, not_false_eq_true, not_true_eq_false, and_self, and_true, true_and, false_and, and_false, or_true, true_or, or_false, false_or, or_self, reduceCtorEq, mm_q, Option.getD_some, cI_some, cJ_some, cV_some, cS_some, kd_sI, kd_sL, kd_sR, kd_cp, ln_sI, ln_sL, ln_sR, ln_cp, gR_sI, gR_sL, gR_sR, gR_cp, gL_sI, gL_sR, gL_cp, gI_sL, gI_sR, iI_add, iI_sub, iI_mul, iI_neg, iI_in, iI_tn, iI_lt, iI_eq, Nat.reduceLeDiff, Nat.reduceEqDiff, Nat.reduceAdd, Int.reduceEq, Int.reduceLT, Int.reduceLE, Int.reduceNeg, Int.reduceAdd, Int.reduceSub, Int.reduceMul, s1, t1, s3, t3, y]
    · rw [bI_0 y]
      simp (disch := omega) only [shP hs, ↓reduceIte, not_false_eq_true, not_true_eq_false, and_self, and_true, true_and, false_and, and_false, or_true, true_or, or_false, false_or, or_self, reduceCtorEq, mm_q, Option.getD_some, cI_some, cJ_some, cV_some, cS_some, kd_sI, kd_sL, kd_sR, kd_cp, ln_sI, ln_sL, ln_sR, ln_cp, gR_sI, gR_sL, gR_sR, gR_cp, gL_sI, gL_sR, gL_cp, gI_sL, gI_sR, iI_add, iI_sub, iI_mul, iI_neg, iI_in, iI_tn, iI_lt, iI_eq, Nat.reduceLeDiff, Nat.reduceEqDiff, Nat.reduceAdd, Int.reduceEq, Int.reduceLT, Int.reduceLE, Int.reduceNeg, Int.reduceAdd, Int.reduceSub, Int.reduceMul, s1, t1, s3, t3, show ¬ sa D (47 + 3 * k + 2) = sa D (47 + 3 * i + 2) by omega]
  have m1 := C6 (d := d - 1) (m := m) (c := diS D i k) (t := tiS D i k) (by omega) (by omega) (by omega) (by omega)
  have m2 := C6 (d := d - 1) (m := m) (c := diS D i k + st D 0) (t := tiS D i k - st D 8) (by omega) (by omega) (by omega) (by omega)
  rw [decide_eq_true d1.2.2, Bool.true_and] at m2
  have can : canF D i k = (decide (sa D (47 + 3 * i + 2) = sa D (47 + 3 * k + 2)) && ((decide (1 ≤ diS D i k) && inB (tiS D i k) (diS D i k) (9 * diS D i k)) || inB (tiS D i k - st D 8) (diS D i k + st D 0) (9 * (diS D i k + st D 0)))) := by
    unfold canF
    by_cases y : 0 < tiS D i k
    · rw [decide_eq_true y, Bool.true_and]
    · rw [decide_eq_false y, Bool.false_and]
      have f1 : (decide (1 ≤ diS D i k) && inB (tiS D i k) (diS D i k) (9 * diS D i k)) = false := by
        by_cases w : 1 ≤ diS D i k
        · unfold inB
          rw [decide_eq_false (show ¬ diS D i k ≤ tiS D i k by omega)]
          simp
        · rw [decide_eq_false w]; rfl
      have f2 : inB (tiS D i k - st D 8) (diS D i k + st D 0) (9 * (diS D i k + st D 0)) = false := by
        unfold inB
        rw [decide_eq_false (show ¬ diS D i k + st D 0 ≤ tiS D i k - st D 8 by omega)]
        simp
      rw [f1, f2]
      simp
  rw [can, q1, q2, sg_5_87 (by omega), m1, cI_some]
  cases g1 : (decide (1 ≤ diS D i k) && inB (tiS D i k) (diS D i k) (9 * diS D i k)) <;> cases g2 : inB (tiS D i k - st D 8) (diS D i k + st D 0) (9 * (diS D i k + st D 0)) <;> cases g3 : decide (sa D (47 + 3 * i + 2) = sa D (47 + 3 * k + 2)) <;> rw [g2] at m2 <;> exact ⟨_, _, _, _, _, by
    rw [sg_5_96 (by omega)]
    simp (disch := omega) only [↓reduceIte, not_false_eq_true, not_true_eq_false, and_self, and_true, true_and, false_and, and_false, or_true, true_or, or_false, false_or, or_self, reduceCtorEq, mm_q, Option.getD_some, cI_some, cJ_some, cV_some, cS_some, kd_sI, kd_sL, kd_sR, kd_cp, ln_sI, ln_sL, ln_sR, ln_cp, gR_sI, gR_sL, gR_sR, gR_cp, gL_sI, gL_sR, gL_cp, gI_sL, gI_sR, iI_add, iI_sub, iI_mul, iI_neg, iI_in, iI_tn, iI_lt, iI_eq, Nat.reduceLeDiff, Nat.reduceEqDiff, Nat.reduceAdd, Int.reduceEq, Int.reduceLT, Int.reduceLE, Int.reduceNeg, Int.reduceAdd, Int.reduceSub, Int.reduceMul, bI_t, bI_f, decide_true, decide_false, Bool.and_true, Bool.and_false, Bool.true_and, Bool.false_and, Bool.false_eq_true, Bool.and_self, Bool.not_true, Bool.not_false, Bool.true_or, Bool.false_or, Bool.or_true, Bool.or_false, sF, b0, b5, m2, sg_5_119, sg_5_124, sg_5_143]
    try rfl⟩
theorem C5L (hs : Sh m) (hst : isSt s) (hR : RSt D m s) (hP : RP D m) (hI : InvS D) (hPP : InvP D) (hd : 3 ≤ d) {i : Int} (i0 : 0 ≤ i) (i1 : i < sa D 46) : ∀ (r : Nat) (k : Int) (b : Int32) (z5 z6 z7 z8 z9 : Option Value), k = sa D 46 - r → 0 ≤ k → (∀ j, 0 ≤ j → j < 10 → bi b j = (decide (j < k) && canF D i j)) → ∃ b', mm_ev d 5 5 [some (.int (iI (i))), some (.ref 163), some (.ref s), some (.int b), some (.int (iI (k))), z5, z6, z7, z8, z9] [] m = some (some (some (.int (b'))), m) ∧ ∀ j, 0 ≤ j → j < 10 → bi b' j = (decide (j < sa D 46) && canF D i j)
  | 0, k, b, z5, z6, z7, z8, z9, hk, k0, hb => by
    have kn : k = sa D 46 := by omega
    have p := hPP.1
    obtain ⟨-, e3, -⟩ := hP.e
    refine ⟨b, ?_, by rw [kn] at hb; exact hb⟩
    rw [sg_5_5]
    simp (disch := omega) only [shP hs, ↓reduceIte, not_false_eq_true, not_true_eq_false, and_self, and_true, true_and, false_and, and_false, or_true, true_or, or_false, false_or, or_self, reduceCtorEq, mm_q, Option.getD_some, cI_some, cJ_some, cV_some, cS_some, kd_sI, kd_sL, kd_sR, kd_cp, ln_sI, ln_sL, ln_sR, ln_cp, gR_sI, gR_sL, gR_sR, gR_cp, gL_sI, gL_sR, gL_cp, gI_sL, gI_sR, iI_add, iI_sub, iI_mul, iI_neg, iI_in, iI_tn, iI_lt, iI_eq, Nat.reduceLeDiff, Nat.reduceEqDiff, Nat.reduceAdd, Int.reduceEq, Int.reduceLT, Int.reduceLE, Int.reduceNeg, Int.reduceAdd, Int.reduceSub, Int.reduceMul, e3, show ¬ k < sa D 46 by omega]
  | r + 1, k, b, z5, z6, z7, z8, z9, hk, k0, hb => by
    have p := hPP.1
    obtain ⟨y5, y6, y7, y8, y9, e⟩ := C5b (b := b) (z5 := z5) (z6 := z6) (z7 := z7) (z8 := z8) (z9 := z9) hs hst hR hP hI hPP hd i0 i1 k0 (show k < sa D 46 by omega)
    obtain ⟨b', e', h'⟩ := C5L hs hst hR hP hI hPP hd i0 i1 r (k + 1) (if canF D i k = true then b ||| iShl (iI 1) (iI k) else b) y5 y6 y7 y8 y9 (by omega) (by omega) (fun j j0 j1 => by
      by_cases y : canF D i k = true
      · rw [if_pos y, bi_or k0 (by omega) j0 (by omega), hb j j0 j1]
        by_cases w : j = k
        · rw [decide_eq_true w, decide_eq_true (show j < k + 1 by omega), w, y]; simp
        · rw [decide_eq_false w, Bool.or_false]
          by_cases v : j < k
          · rw [decide_eq_true v, decide_eq_true (show j < k + 1 by omega)]
          · rw [decide_eq_false v, decide_eq_false (show ¬ j < k + 1 by omega)]
      · rw [if_neg y, hb j j0 j1]
        by_cases w : j = k
        · have y' : canF D i k = false := by cases q : canF D i k <;> simp_all
          rw [w, y', Bool.and_false, Bool.and_false]
        · by_cases v : j < k
          · rw [decide_eq_true v, decide_eq_true (show j < k + 1 by omega)]
          · rw [decide_eq_false v, decide_eq_false (show ¬ j < k + 1 by omega)])
    exact ⟨b', by rw [e]; exact e', h'⟩
/-- whose a sight can be -/
theorem C5 (hs : Sh m) (hst : isSt s) (hR : RSt D m s) (hP : RP D m) (hI : InvS D) (hPP : InvP D) (hd : 3 ≤ d) {i : Int} (i0 : 0 ≤ i) (i1 : i < sa D 46) : ∃ b', mm_ev d 5 0 [some (.int (iI (i))), some (.ref 163), some (.ref s), none, none, none, none, none, none, none] [] m = some (some (some (.int (b'))), m) ∧ ∀ j, 0 ≤ j → j < 10 → bi b' j = (decide (j < sa D 46) && canF D i j) := by
  have p := hPP.1
  obtain ⟨b', e, h⟩ := C5L (d := d) hs hst hR hP hI hPP hd i0 i1 (sa D 46).toNat 0 (iI 0) none none none none none (by omega) (by omega) (fun j j0 j1 => by rw [bi_0, decide_eq_false (by omega)]; rfl)
  exact ⟨b', by rw [sg_5_0]; exact e, h⟩
end
