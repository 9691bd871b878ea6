section
variable {D : Nat → Nat → Int32} {E : Nat → Nat → Int64} {m m' c c' c'' : mm_M} {d s w : Nat} {n N i f : Int} {T : TK} {X X' : Nat → Nat → Int32} {Y Y' : Nat → Int64} {W W' : Nat → Int32} {cnt a b : Int}
/-- a street stays while the walker that is read is written -/
theorem RSt.e (h : RSt X c s) (hs : isSt s) (k8 : st X 6 ≤ 8) (hw : w = s + 13 + (st X 6).toNat) (k0 : 0 ≤ st X 6) (g : Fr (scE w) c c') : RSt X c' s := by
  obtain ⟨⟨h0, h1, h2, h3, h4, h5, h6, h7, h8⟩, ht, hwk, hq, l1, l2⟩ := h
  have e : ∀ a k, s ≤ a → a ≤ s + 20 → ¬ a = w → mm_gI c' a k = mm_gI c a k := fun a k a0 a1 a2 => g.gI (scE_f (scB_st hs a0 a1) a2)
  have es : ∀ k, mm_gI c' s k = mm_gI c s k := fun k => e s k (by omega) (by omega) (by omega)
  refine ⟨⟨(es _).trans h0, (es _).trans h1, (es _).trans h2, (es _).trans h3, (es _).trans h4, (es _).trans h5, (es _).trans h6, (es _).trans h7, (es _).trans h8⟩, fun w w0 w1 => (e _ _ (by omega) (by omega) (by omega)).trans (ht w w0 w1), fun w w0 w1 => ?_, fun q q0 q1 => ?_, ?_, ?_⟩
  · have ew : ∀ k, mm_gI c' (s + 13 + w.toNat) k = mm_gI c (s + 13 + w.toNat) k := fun k => e _ k (by omega) (by omega) (by omega)
    obtain ⟨a, b, c, d, f, g, i⟩ := hwk w w0 w1
    exact ⟨(ew _).trans a, (ew _).trans b, (ew _).trans c, (ew _).trans d, (ew _).trans f, (ew _).trans g, (ew _).trans i⟩
  · obtain ⟨a, b, c⟩ := hq q q0 q1
    exact ⟨(e _ _ (by omega) (by omega) (by omega)).trans a, (e _ _ (by omega) (by omega) (by omega)).trans b, (e _ _ (by omega) (by omega) (by omega)).trans c⟩
  · exact l1.cg (e _ _ (by omega) (by omega) (by omega)) (fun k => e _ _ (by omega) (by omega) (by omega))
  · exact l2.cg (e _ _ (by omega) (by omega) (by omega)) (fun k => e _ _ (by omega) (by omega) (by omega))
theorem DC.e (h : DC X Y c s) (hs : isSt s) (k8 : st X 6 ≤ 8) (hw : w = s + 13 + (st X 6).toNat) (k0 : 0 ≤ st X 6) (g : Fr (scE w) c c') : DC X Y c' s := by
  have e : ∀ a k, s ≤ a → a ≤ s + 20 → ¬ a = w → mm_gI c' a k = mm_gI c a k := fun a k a0 a1 a2 => g.gI (scE_f (scB_st hs a0 a1) a2)
  refine ⟨h.1.e hs k8 hw k0 g, (e _ _ (by omega) (by omega) (by omega)).trans h.2.1, (e _ _ (by omega) (by omega) (by omega)).trans h.2.2.1, (e _ _ (by omega) (by omega) (by omega)).trans h.2.2.2.1, h.2.2.2.2.fr g (fun x k z => ?_)⟩
  rcases z with ⟨rfl, -⟩ | ⟨y0, y1, -⟩
  · exact scE_f (scB_st hs (by omega) (by omega)) (by omega)
  · exact scE_f (scB_st hs (by omega) (by omega)) (by omega)
theorem kd_fr {P : Nat → Nat → Bool} (g : Fr P c c') {x : Nat} : mm_kd c' x = mm_kd c x := by
  unfold mm_kd mm_sh
  rw [g.1, g.2.1]
theorem cu_f (h : ¬ f = 0) : cuS T Y W cnt i f = (-1, i, f) := by unfold cuS; rw [if_neg (fun q => h q.1)]
/-- readWalker of the class -/
theorem C44 (hT : TS D n T N) (hX : LX X i) (iN : i < N) (z8 : st X 6 < 8) (hC : CR D n T N i s c) (hD : DC X Y c s) (hd : 60 ≤ d) {p : Int × Int} {k1 a1 a2 k2 a3 a4 cu : Int × Int × Int} (hp : rnS T Y (X 327) (rmX X) (i + 1) = p) (hk1 : k1 = toS T 23 4 p.1 p.2) (ha1 : a1 = taS T 8 0 (st X 1 - 1) k1.2.1 k1.2.2) (ha2 : a2 = taS T 9 0 (st X 0 - 1) a1.2.1 a1.2.2) (hk2 : k2 = toS T 21 2 a2.2.1 a2.2.2) (ha3 : a3 = taS T 10 1 9 k2.2.1 k2.2.2) (ha4 : a4 = taS T 11 0 99 a3.2.1 a3.2.2) (hcu : cu = cuS T Y (X 327) (rmX X) a4.2.1 a4.2.2) : ∃ c', mm_ev d 44 0 [some (.ref 154), none, none] [] c = some (some (some (.int (iI (bI (decide (cu.2.2 = 0)))))), c') ∧ Fr (scQs s) c c' ∧ (¬ cu.2.2 = 0 → mm_gI c' 154 3 = iI cu.2.2) ∧ (cu.2.2 = 0 → ∃ c9, CR D n T N cu.2.1 s c9 ∧ DC X Y c9 s ∧ c' = mm_sI (mm_sL c9 (s + 13 + (st X 6).toNat) 0 (tW T (i + 1))) s 10 (iI (st X 6 + 1)) ∧ WR (tV T (i + 1)) (tW T (i + 1)) ∧ fdGo Y (X 327) (tV T (i + 1)) (rmX X).toNat 0 = -1 ∧ mm_gI c9 (s + 13 + (st X 6).toNat) 1 = iI k1.1 ∧ mm_gI c9 (s + 13 + (st X 6).toNat) 2 = iI a1.1 ∧ mm_gI c9 (s + 13 + (st X 6).toNat) 3 = iI a2.1 ∧ mm_gI c9 (s + 13 + (st X 6).toNat) 4 = iI k2.1 ∧ mm_gI c9 (s + 13 + (st X 6).toNat) 5 = iI a3.1 ∧ mm_gI c9 (s + 13 + (st X 6).toNat) 6 = iI a4.1 ∧ mm_gI c9 (s + 13 + (st X 6).toNat) 7 = iI cu.1) := by
  obtain ⟨i0, i1⟩ := hC.2.2.1
  have hI := hX.1
  obtain ⟨⟨c0, c1⟩, ⟨l0, l1⟩, ⟨f0, f1, f2⟩, ⟨p0, p1⟩, ⟨w0, w1⟩, ⟨q0, q1⟩, ⟨x0, x1⟩, ⟨r0, r1⟩, hte, hwk, hmu⟩ := hI
  have hst := hC.2.2.2.1
  have hst' : s = 104 ∨ s = 125 := hst
  have h10 := hD.1.1.2.2.2.2.2.2.2.1
  have wkf := fun {x : mm_M} (hx : Sh x) => wkF hx hst q0 (show st X 6 < 8 by omega)
  have hw : isWc s (s + 13 + (st X 6).toNat) := ⟨hst, by omega, by omega⟩
  generalize hwe : s + 13 + (st X 6).toNat = w at hw wkf ⊢
  obtain ⟨d1, e1, g1, t1, k9⟩ := CR.nx (d := d - 1) hT hC (by omega) iN
  have hD1 := hD.br hst q1 g1
  obtain ⟨d2, e2, g2, t2, s2⟩ := C43 (d := d - 1) hT t1 (by omega) hD1.2.2.2.2 hD1.1.1.2.2.2.2.2.2.1 hD1.1.1.2.2.2.2.2.2.2.1
  rw [hp] at e2 t2 s2
  have h10' := hD1.1.1.2.2.2.2.2.2.2.1
  have run : mm_ev d 44 0 [some (.ref 154), none, none] [] c = mm_ev d 44 45 [some (.ref 154), some (.ref w), none] [.int (iI (bI (decide (p.2 = 0))))] d2 := by
    rw [sg_44_0 (by omega)]
    simp (disch := omega) only [shP hC.1.1, shT hC.1.1, stF hC.1.1 hst, ↓reduceIte, not_false_eq_true, not_true_eq_false, and_self, and_true, true_and, false_and, and_false, or_true, true_or, or_false, false_or, or_self, reduceCtorEq, mm_q, Option.getD_some, cI_some, cJ_some, cV_some, cS_some, kd_sI, kd_sL, kd_sR, kd_cp, ln_sI, ln_sL, ln_sR, ln_cp, gR_sI, gR_sL, gR_sR, gR_cp, gL_sI, gL_sR, gL_cp, gI_sL, gI_sR, iI_add, iI_sub, iI_mul, iI_neg, iI_in, iI_tn, iI_lt, iI_eq, Nat.reduceLeDiff, Nat.reduceEqDiff, Nat.reduceAdd, Int.reduceEq, Int.reduceLT, Int.reduceLE, Int.reduceNeg, Int.reduceAdd, Int.reduceSub, Int.reduceMul, hC.2.2.2.2, h10, show st X 6 < 8 by omega, e1]
    rw [sg_44_25 (by omega)]
    simp (disch := omega) only [shP t1.1.1, stF t1.1.1 hst, wkf t1.1.1, ↓reduceIte, not_false_eq_true, not_true_eq_false, and_self, and_true, true_and, false_and, and_false, or_true, true_or, or_false, false_or, or_self, reduceCtorEq, mm_q, Option.getD_some, cI_some, cJ_some, cV_some, cS_some, kd_sI, kd_sL, kd_sR, kd_cp, ln_sI, ln_sL, ln_sR, ln_cp, gR_sI, gR_sL, gR_sR, gR_cp, gL_sI, gL_sR, gL_cp, gI_sL, gI_sR, iI_add, iI_sub, iI_mul, iI_neg, iI_in, iI_tn, iI_lt, iI_eq, Nat.reduceLeDiff, Nat.reduceEqDiff, Nat.reduceAdd, Int.reduceEq, Int.reduceLT, Int.reduceLE, Int.reduceNeg, Int.reduceAdd, Int.reduceSub, Int.reduceMul, t1.2.2.2.2, h10', e2]
  have e85 : ∀ x, mm_ev d 44 84 [some (.ref 154), some (.ref w), none] [] x = some (some (some (.int (iI 0))), x) := fun x => by
    rw [sg_44_84, sg_44_85]
    simp (disch := omega) only [↓reduceIte, not_false_eq_true, not_true_eq_false, and_self, and_true, true_and, false_and, and_false, or_true, true_or, or_false, false_or, or_self, reduceCtorEq, mm_q, Option.getD_some, cI_some, cJ_some, cV_some, cS_some, kd_sI, kd_sL, kd_sR, kd_cp, ln_sI, ln_sL, ln_sR, ln_cp, gR_sI, gR_sL, gR_sR, gR_cp, gL_sI, gL_sR, gL_cp, gI_sL, gI_sR, iI_add, iI_sub, iI_mul, iI_neg, iI_in, iI_tn, iI_lt, iI_eq, Nat.reduceLeDiff, Nat.reduceEqDiff, Nat.reduceAdd, Int.reduceEq, Int.reduceLT, Int.reduceLE, Int.reduceNeg, Int.reduceAdd, Int.reduceSub, Int.reduceMul]
  rw [run, sg_44_45 (by omega)]
  by_cases y1 : p.2 = 0
  · obtain ⟨t2, v2, wr, iN1, fd1⟩ := t2 y1
    have hD2 := hD1.br hst q1 g2
    have kd2 : mm_kd d2 w = 9 := (wkf t2.1.1).2
    obtain ⟨d3, e3, g3, t3, s3⟩ := C45 (d := d - 1) hT t2 hw kd2 (by omega)
    rw [show toS T 23 4 p.1 0 = k1 by rw [hk1, y1]] at e3 t3 s3
    have stp : mm_ev d 44 45 [some (.ref 154), some (.ref w), none] [.int (iI 1)] d2 = mm_ev d 44 53 [some (.ref 154), some (.ref w), none] [.int (iI (bI (decide (k1.2.2 = 0))))] d3 := by
      rw [sg_44_45 (by omega)]
      simp (disch := omega) only [shP t2.1.1, ↓reduceIte, not_false_eq_true, not_true_eq_false, and_self, and_true, true_and, false_and, and_false, or_true, true_or, or_false, false_or, or_self, reduceCtorEq, mm_q, Option.getD_some, cI_some, cJ_some, cV_some, cS_some, kd_sI, kd_sL, kd_sR, kd_cp, ln_sI, ln_sL, ln_sR, ln_cp, gR_sI, gR_sL, gR_sR, gR_cp, gL_sI, gL_sR, gL_cp, gI_sL, gI_sR, iI_add, iI_sub, iI_mul, iI_neg, iI_in, iI_tn, iI_lt, iI_eq, Nat.reduceLeDiff, Nat.reduceEqDiff, Nat.reduceAdd, Int.reduceEq, Int.reduceLT, Int.reduceLE, Int.reduceNeg, Int.reduceAdd, Int.reduceSub, Int.reduceMul, e3]
    rw [bI_1 y1, ← sg_44_45 (by omega), stp, sg_44_53 (by omega)]
    have hD3 := hD2.e hst q1 hwe.symm q0 g3
    by_cases y2 : k1.2.2 = 0
    · obtain ⟨t3, v3, o3, n3⟩ := t3 y2
      have kd3 : mm_kd d3 w = 9 := (kd_fr g3).trans kd2
      obtain ⟨d4, e4, g4, t4, s4⟩ := C46 (d := d - 1) (a1 := a1) (a2 := a2) (k2 := k2) hT t3 hw kd3 (by omega) hD3.1.1.1 hD3.1.1.2.1 c0 c1 l0 l1 (by rw [ha1, y2]) ha2 hk2
      have stp : mm_ev d 44 53 [some (.ref 154), some (.ref w), none] [.int (iI 1)] d3 = mm_ev d 44 61 [some (.ref 154), some (.ref w), none] [.int (iI (bI (decide (k2.2.2 = 0))))] d4 := by
        rw [sg_44_53 (by omega)]
        simp (disch := omega) only [shP t3.1.1, ↓reduceIte, not_false_eq_true, not_true_eq_false, and_self, and_true, true_and, false_and, and_false, or_true, true_or, or_false, false_or, or_self, reduceCtorEq, mm_q, Option.getD_some, cI_some, cJ_some, cV_some, cS_some, kd_sI, kd_sL, kd_sR, kd_cp, ln_sI, ln_sL, ln_sR, ln_cp, gR_sI, gR_sL, gR_sR, gR_cp, gL_sI, gL_sR, gL_cp, gI_sL, gI_sR, iI_add, iI_sub, iI_mul, iI_neg, iI_in, iI_tn, iI_lt, iI_eq, Nat.reduceLeDiff, Nat.reduceEqDiff, Nat.reduceAdd, Int.reduceEq, Int.reduceLT, Int.reduceLE, Int.reduceNeg, Int.reduceAdd, Int.reduceSub, Int.reduceMul, e4]
      rw [bI_1 y2, ← sg_44_53 (by omega), stp, sg_44_61 (by omega)]
      have hD4 := hD3.e hst q1 hwe.symm q0 g4
      by_cases y3 : k2.2.2 = 0
      · obtain ⟨t4, v41, v42, v43, o4, n4⟩ := t4 y3
        have kd4 : mm_kd d4 w = 9 := (kd_fr g4).trans kd3
        obtain ⟨d5, e5, g5, t5, s5⟩ := C47 (d := d - 1) (a3 := a3) (a4 := a4) hT t4 hw kd4 (by omega) (by rw [ha3, y3]) ha4
        have stp : mm_ev d 44 61 [some (.ref 154), some (.ref w), none] [.int (iI 1)] d4 = mm_ev d 44 69 [some (.ref 154), some (.ref w), none] [.int (iI (bI (decide (a4.2.2 = 0))))] d5 := by
          rw [sg_44_61 (by omega)]
          simp (disch := omega) only [shP t4.1.1, ↓reduceIte, not_false_eq_true, not_true_eq_false, and_self, and_true, true_and, false_and, and_false, or_true, true_or, or_false, false_or, or_self, reduceCtorEq, mm_q, Option.getD_some, cI_some, cJ_some, cV_some, cS_some, kd_sI, kd_sL, kd_sR, kd_cp, ln_sI, ln_sL, ln_sR, ln_cp, gR_sI, gR_sL, gR_sR, gR_cp, gL_sI, gL_sR, gL_cp, gI_sL, gI_sR, iI_add, iI_sub, iI_mul, iI_neg, iI_in, iI_tn, iI_lt, iI_eq, Nat.reduceLeDiff, Nat.reduceEqDiff, Nat.reduceAdd, Int.reduceEq, Int.reduceLT, Int.reduceLE, Int.reduceNeg, Int.reduceAdd, Int.reduceSub, Int.reduceMul, e5]
        rw [bI_1 y3, ← sg_44_61 (by omega), stp, sg_44_69 (by omega)]
        have hD5 := hD4.e hst q1 hwe.symm q0 g5
        by_cases y4 : a4.2.2 = 0
        · obtain ⟨t5, v51, v52, o5, n5⟩ := t5 y4
          have kd5 : mm_kd d5 w = 9 := (kd_fr g5).trans kd4
          obtain ⟨d6, e6, g6, t6, s6⟩ := C48 (d := d - 1) (cu := cu) (a := st X 5) (b := st X 6) hT t5 hw kd5 (by omega) hD5.2.2.2.2 hD5.1.1.2.2.2.2.2.2.1 (by omega) (by rw [hcu, y4])
          have hD6 := hD5.e hst q1 hwe.symm q0 g6
          rw [bI_1 y4]
          by_cases y5 : cu.2.2 = 0
          · obtain ⟨t6, v6, o6, n6⟩ := t6 y5
            have kd6 : mm_kd d6 w = 9 := (kd_fr g6).trans kd5
            rw [bI_1 y5] at e6 ⊢
            have h10'' := hD6.1.1.2.2.2.2.2.2.2.1
            have l6 : mm_gL d6 154 6 = tW T (i + 1) := by rw [n6, n5, n4, n3]; exact v2
            refine ⟨mm_sI (mm_sL d6 w 0 (tW T (i + 1))) s 10 (iI (st X 6 + 1)), ?_, ?_, fun q => absurd y5 q, fun _ => ⟨d6, t6, hD6, rfl, wr, fd1, ?_, ?_, ?_, ?_, ?_, ?_, v6⟩⟩
            · simp (disch := omega) only [shP t5.1.1, ↓reduceIte, not_false_eq_true, not_true_eq_false, and_self, and_true, true_and, false_and, and_false, or_true, true_or, or_false, false_or, or_self, reduceCtorEq, mm_q, Option.getD_some, cI_some, cJ_some, cV_some, cS_some, kd_sI, kd_sL, kd_sR, kd_cp, ln_sI, ln_sL, ln_sR, ln_cp, gR_sI, gR_sL, gR_sR, gR_cp, gL_sI, gL_sR, gL_cp, gI_sL, gI_sR, iI_add, iI_sub, iI_mul, iI_neg, iI_in, iI_tn, iI_lt, iI_eq, Nat.reduceLeDiff, Nat.reduceEqDiff, Nat.reduceAdd, Int.reduceEq, Int.reduceLT, Int.reduceLE, Int.reduceNeg, Int.reduceAdd, Int.reduceSub, Int.reduceMul, e6]
              rw [sg_44_85]
              simp (disch := omega) only [shP t6.1.1, stF t6.1.1 hst, ↓reduceIte, not_false_eq_true, not_true_eq_false, and_self, and_true, true_and, false_and, and_false, or_true, true_or, or_false, false_or, or_self, reduceCtorEq, mm_q, Option.getD_some, cI_some, cJ_some, cV_some, cS_some, kd_sI, kd_sL, kd_sR, kd_cp, ln_sI, ln_sL, ln_sR, ln_cp, gR_sI, gR_sL, gR_sR, gR_cp, gL_sI, gL_sR, gL_cp, gI_sL, gI_sR, iI_add, iI_sub, iI_mul, iI_neg, iI_in, iI_tn, iI_lt, iI_eq, Nat.reduceLeDiff, Nat.reduceEqDiff, Nat.reduceAdd, Int.reduceEq, Int.reduceLT, Int.reduceLE, Int.reduceNeg, Int.reduceAdd, Int.reduceSub, Int.reduceMul, kd6, l6, t6.2.2.2.2, h10'', gI_sL]
            · have q9 := hw.2
              exact (((((((g1.tr g2).BQ).tr (g3.EQ (by omega) (by omega))).tr (g4.EQ (by omega) (by omega))).tr (g5.EQ (by omega) (by omega))).tr (g6.EQ (by omega) (by omega))).tr (Fr.sL (scQ_t (by omega) (by omega) (by omega)))).tr (Fr.sI (scQ_t (by omega) (by omega) (by omega)))
            · rw [o6 1 (by omega), o5 1 (by omega) (by omega), o4 1 (by omega) (by omega) (by omega)]; exact v3
            · rw [o6 2 (by omega), o5 2 (by omega) (by omega)]; exact v41
            · rw [o6 3 (by omega), o5 3 (by omega) (by omega)]; exact v42
            · rw [o6 4 (by omega), o5 4 (by omega) (by omega)]; exact v43
            · rw [o6 5 (by omega)]; exact v51
            · rw [o6 6 (by omega)]; exact v52
          · rw [bI_0 y5] at e6 ⊢
            refine ⟨d6, ?_, ?_, fun _ => s6 y5, fun q => absurd q y5⟩
            · simp (disch := omega) only [shP t5.1.1, ↓reduceIte, not_false_eq_true, not_true_eq_false, and_self, and_true, true_and, false_and, and_false, or_true, true_or, or_false, false_or, or_self, reduceCtorEq, mm_q, Option.getD_some, cI_some, cJ_some, cV_some, cS_some, kd_sI, kd_sL, kd_sR, kd_cp, ln_sI, ln_sL, ln_sR, ln_cp, gR_sI, gR_sL, gR_sR, gR_cp, gL_sI, gL_sR, gL_cp, gI_sL, gI_sR, iI_add, iI_sub, iI_mul, iI_neg, iI_in, iI_tn, iI_lt, iI_eq, Nat.reduceLeDiff, Nat.reduceEqDiff, Nat.reduceAdd, Int.reduceEq, Int.reduceLT, Int.reduceLE, Int.reduceNeg, Int.reduceAdd, Int.reduceSub, Int.reduceMul, e6]
              exact e85 d6
            · have q9 := hw.2
              exact (((((g1.tr g2).BQ).tr (g3.EQ (by omega) (by omega))).tr (g4.EQ (by omega) (by omega))).tr (g5.EQ (by omega) (by omega))).tr (g6.EQ (by omega) (by omega))
        · have cue : cu.2.2 = a4.2.2 := by rw [hcu, cu_f y4]
          rw [cue, bI_0 y4]
          refine ⟨d5, ?_, ?_, fun _ => s5 y4, fun q => absurd q y4⟩
          · simp (disch := omega) only [↓reduceIte, not_false_eq_true, not_true_eq_false, and_self, and_true, true_and, false_and, and_false, or_true, true_or, or_false, false_or, or_self, reduceCtorEq, mm_q, Option.getD_some, cI_some, cJ_some, cV_some, cS_some, kd_sI, kd_sL, kd_sR, kd_cp, ln_sI, ln_sL, ln_sR, ln_cp, gR_sI, gR_sL, gR_sR, gR_cp, gL_sI, gL_sR, gL_cp, gI_sL, gI_sR, iI_add, iI_sub, iI_mul, iI_neg, iI_in, iI_tn, iI_lt, iI_eq, Nat.reduceLeDiff, Nat.reduceEqDiff, Nat.reduceAdd, Int.reduceEq, Int.reduceLT, Int.reduceLE, Int.reduceNeg, Int.reduceAdd, Int.reduceSub, Int.reduceMul]
            exact e85 d5
          · have q9 := hw.2
            exact ((((g1.tr g2).BQ).tr (g3.EQ (by omega) (by omega))).tr (g4.EQ (by omega) (by omega))).tr (g5.EQ (by omega) (by omega))
      · have cue : cu.2.2 = k2.2.2 := by rw [hcu, ha4, ha3, ta_f y3, ta_f y3, cu_f y3]
        rw [cue, bI_0 y3]
        refine ⟨d4, ?_, ?_, fun _ => s4 y3, fun q => absurd q y3⟩
        · simp (disch := omega) only [↓reduceIte, not_false_eq_true, not_true_eq_false, and_self, and_true, true_and, false_and, and_false, or_true, true_or, or_false, false_or, or_self, reduceCtorEq, mm_q, Option.getD_some, cI_some, cJ_some, cV_some, cS_some, kd_sI, kd_sL, kd_sR, kd_cp, ln_sI, ln_sL, ln_sR, ln_cp, gR_sI, gR_sL, gR_sR, gR_cp, gL_sI, gL_sR, gL_cp, gI_sL, gI_sR, iI_add, iI_sub, iI_mul, iI_neg, iI_in, iI_tn, iI_lt, iI_eq, Nat.reduceLeDiff, Nat.reduceEqDiff, Nat.reduceAdd, Int.reduceEq, Int.reduceLT, Int.reduceLE, Int.reduceNeg, Int.reduceAdd, Int.reduceSub, Int.reduceMul]
          exact e85 d4
        · have q9 := hw.2
          exact (((g1.tr g2).BQ).tr (g3.EQ (by omega) (by omega))).tr (g4.EQ (by omega) (by omega))
    · have cue : cu.2.2 = k1.2.2 := by rw [hcu, ha4, ha3, hk2, ha2, ha1, ta_f y2, ta_f y2, to_f y2, ta_f y2, ta_f y2, cu_f y2]
      rw [cue, bI_0 y2]
      refine ⟨d3, ?_, ?_, fun _ => s3 y2, fun q => absurd q y2⟩
      · simp (disch := omega) only [↓reduceIte, not_false_eq_true, not_true_eq_false, and_self, and_true, true_and, false_and, and_false, or_true, true_or, or_false, false_or, or_self, reduceCtorEq, mm_q, Option.getD_some, cI_some, cJ_some, cV_some, cS_some, kd_sI, kd_sL, kd_sR, kd_cp, ln_sI, ln_sL, ln_sR, ln_cp, gR_sI, gR_sL, gR_sR, gR_cp, gL_sI, gL_sR, gL_cp, gI_sL, gI_sR, iI_add, iI_sub, iI_mul, iI_neg, iI_in, iI_tn, iI_lt, iI_eq, Nat.reduceLeDiff, Nat.reduceEqDiff, Nat.reduceAdd, Int.reduceEq, Int.reduceLT, Int.reduceLE, Int.reduceNeg, Int.reduceAdd, Int.reduceSub, Int.reduceMul]
        exact e85 d3
      · have q9 := hw.2
        exact ((g1.tr g2).BQ).tr (g3.EQ (by omega) (by omega))
  · have cue : cu.2.2 = p.2 := by rw [hcu, ha4, ha3, hk2, ha2, ha1, hk1, to_f y1, ta_f y1, ta_f y1, to_f y1, ta_f y1, ta_f y1, cu_f y1]
    rw [cue, bI_0 y1]
    refine ⟨d2, ?_, (g1.tr g2).BQ, fun _ => s2 y1, fun q => absurd q y1⟩
    simp (disch := omega) only [↓reduceIte, not_false_eq_true, not_true_eq_false, and_self, and_true, true_and, false_and, and_false, or_true, true_or, or_false, false_or, or_self, reduceCtorEq, mm_q, Option.getD_some, cI_some, cJ_some, cV_some, cS_some, kd_sI, kd_sL, kd_sR, kd_cp, ln_sI, ln_sL, ln_sR, ln_cp, gR_sI, gR_sL, gR_sR, gR_cp, gL_sI, gL_sR, gL_cp, gI_sL, gI_sR, iI_add, iI_sub, iI_mul, iI_neg, iI_in, iI_tn, iI_lt, iI_eq, Nat.reduceLeDiff, Nat.reduceEqDiff, Nat.reduceAdd, Int.reduceEq, Int.reduceLT, Int.reduceLE, Int.reduceNeg, Int.reduceAdd, Int.reduceSub, Int.reduceMul]
    exact e85 d2
/-- walker -/
theorem L_walker (hT : TS D n T N) (hE : EK E) (hX : LX X i) (i0 : 0 ≤ i) (iN : i < N) (z : ty T i = 7) : LN D E n T N X Y i 183 [some (.ref 316), none, none] 44 (fun _ => [some (.ref 154), none, none]) := by
  have pr := (hT.k i0 (by omega)).1
  have hI := hX.1
  obtain ⟨⟨c0, c1⟩, ⟨l0, l1⟩, ⟨f0, f1, f2⟩, ⟨p0, p1⟩, ⟨w0, w1⟩, ⟨q0, q1⟩, ⟨x0, x1⟩, ⟨r0, r1⟩, hte, hwk, hmu⟩ := hI
  have hr := hX.2.2.2.2.2.2
  by_cases z8 : st X 6 = 8
  · refine ⟨i, 5 + 16 * tP T i, X, Y, fun m d hd hP hM => ?_, fun c d s hd hC hD hF => ?_, by omega⟩
    · obtain ⟨m2, e2, h2, g2⟩ := M172 (d := d - 1) hT hP (k := 5) (by omega) (by omega)
      rw [if_pos rfl] at h2
      refine ⟨m2, ?_, h2, by omega, g2.AtM⟩
      rw [sg_183_0 (by omega)]
      simp (disch := omega) only [shM hP.1.1, ↓reduceIte, not_false_eq_true, not_true_eq_false, and_self, and_true, true_and, false_and, and_false, or_true, true_or, or_false, false_or, or_self, reduceCtorEq, mm_q, Option.getD_some, cI_some, cJ_some, cV_some, cS_some, kd_sI, kd_sL, kd_sR, kd_cp, ln_sI, ln_sL, ln_sR, ln_cp, gR_sI, gR_sL, gR_sR, gR_cp, gL_sI, gL_sR, gL_cp, gI_sL, gI_sR, iI_add, iI_sub, iI_mul, iI_neg, iI_in, iI_tn, iI_lt, iI_eq, Nat.reduceLeDiff, Nat.reduceEqDiff, Nat.reduceAdd, Int.reduceEq, Int.reduceLT, Int.reduceLE, Int.reduceNeg, Int.reduceAdd, Int.reduceSub, Int.reduceMul, DM_st hM, z8, e2]
    · refine ⟨mm_sI c 154 3 (iI (5 + 16 * tP T i)), ?_, Fr.r154.BQ, by omega, fun _ => by simp [gI_sI]⟩
      rw [sg_44_0 (by omega), bI_0 (by omega)]
      have h7 := hD.1.1.2.2.2.2.2.2.2.1
      rw [z8] at h7
      simp (disch := omega) only [shP hC.1.1, stF hC.1.1 hC.2.2.2.1, ↓reduceIte, not_false_eq_true, not_true_eq_false, and_self, and_true, true_and, false_and, and_false, or_true, true_or, or_false, false_or, or_self, reduceCtorEq, mm_q, Option.getD_some, cI_some, cJ_some, cV_some, cS_some, kd_sI, kd_sL, kd_sR, kd_cp, ln_sI, ln_sL, ln_sR, ln_cp, gR_sI, gR_sL, gR_sR, gR_cp, gL_sI, gL_sR, gL_cp, gI_sL, gI_sR, iI_add, iI_sub, iI_mul, iI_neg, iI_in, iI_tn, iI_lt, iI_eq, Nat.reduceLeDiff, Nat.reduceEqDiff, Nat.reduceAdd, Int.reduceEq, Int.reduceLT, Int.reduceLE, Int.reduceNeg, Int.reduceAdd, Int.reduceSub, Int.reduceMul, hC.2.2.2.2, h7, C40 hT hC]
  · have pr2 := rn_r (Y := Y) (W := X 327) (cnt := rmX X) hT (i := i + 1) (by omega) (by omega)
    generalize hp : rnS T Y (X 327) (rmX X) (i + 1) = p at pr2
    generalize hk1 : toS T 23 4 p.1 p.2 = k1
    generalize ha1 : taS T 8 0 (st X 1 - 1) k1.2.1 k1.2.2 = a1
    generalize ha2 : taS T 9 0 (st X 0 - 1) a1.2.1 a1.2.2 = a2
    generalize hk2 : toS T 21 2 a2.2.1 a2.2.2 = k2
    generalize ha3 : taS T 10 1 9 k2.2.1 k2.2.2 = a3
    generalize ha4 : taS T 11 0 99 a3.2.1 a3.2.2 = a4
    generalize hcu : cuS T Y (X 327) (rmX X) a4.2.1 a4.2.2 = cu
    have b1 : k1.2.2 = 0 → p.2 = 0 := fun y => by
      by_cases y2 : p.2 = 0
      · exact y2
      · rw [to_f y2] at hk1; rw [← hk1] at y; exact y
    have b2 : a1.2.2 = 0 → k1.2.2 = 0 := fun y => by
      by_cases y2 : k1.2.2 = 0
      · exact y2
      · rw [ta_f y2] at ha1; rw [← ha1] at y; exact y
    have b3 : a2.2.2 = 0 → a1.2.2 = 0 := fun y => by
      by_cases y2 : a1.2.2 = 0
      · exact y2
      · rw [ta_f y2] at ha2; rw [← ha2] at y; exact y
    have b4 : k2.2.2 = 0 → a2.2.2 = 0 := fun y => by
      by_cases y2 : a2.2.2 = 0
      · exact y2
      · rw [to_f y2] at hk2; rw [← hk2] at y; exact y
    have b5 : a3.2.2 = 0 → k2.2.2 = 0 := fun y => by
      by_cases y2 : k2.2.2 = 0
      · exact y2
      · rw [ta_f y2] at ha3; rw [← ha3] at y; exact y
    have b6 : a4.2.2 = 0 → a3.2.2 = 0 := fun y => by
      by_cases y2 : a3.2.2 = 0
      · exact y2
      · rw [ta_f y2] at ha4; rw [← ha4] at y; exact y
    have b7 : cu.2.2 = 0 → a4.2.2 = 0 := fun y => by
      by_cases y2 : a4.2.2 = 0
      · exact y2
      · rw [cu_f y2] at hcu; rw [← hcu] at y; exact y
    have vals : cu.2.2 = 0 → (0 ≤ k1.1 ∧ k1.1 < 4) ∧ (0 ≤ a1.1 ∧ a1.1 ≤ st X 1 - 1) ∧ (0 ≤ a2.1 ∧ a2.1 ≤ st X 0 - 1) ∧ (0 ≤ k2.1 ∧ k2.1 < 2) ∧ (1 ≤ a3.1 ∧ a3.1 ≤ 9) ∧ (0 ≤ a4.1 ∧ a4.1 ≤ 99) ∧ i < cu.2.1 ∧ cu.2.1 ≤ N := fun y => by
      have y7 := b7 y
      have y6 := b6 y7
      have y5 := b5 y6
      have y4 := b4 y5
      have y3 := b3 y4
      have y2 := b2 y3
      have y1 := b1 y2
      have P := pr2 y1
      have K1 := to_r (x := 23) (y := 4) (f := p.2) hT (i := p.1) (by omega) (by omega) (by omega)
      rw [hk1] at K1
      have K1' := K1 y2
      have A1 := ta_r (w := 8) (lo := 0) (hi := st X 1 - 1) (f := k1.2.2) hT (i := k1.2.1) (by omega) (by omega) (by omega) (by omega)
      rw [ha1] at A1
      have A1' := A1 y3
      have A2 := ta_r (w := 9) (lo := 0) (hi := st X 0 - 1) (f := a1.2.2) hT (i := a1.2.1) (by omega) (by omega) (by omega) (by omega)
      rw [ha2] at A2
      have A2' := A2 y4
      have K2 := to_r (x := 21) (y := 2) (f := a2.2.2) hT (i := a2.2.1) (by omega) (by omega) (by omega)
      rw [hk2] at K2
      have K2' := K2 y5
      have A3 := ta_r (w := 10) (lo := 1) (hi := 9) (f := k2.2.2) hT (i := k2.2.1) (by omega) (by omega) (by omega) (by omega)
      rw [ha3] at A3
      have A3' := A3 y6
      have A4 := ta_r (w := 11) (lo := 0) (hi := 99) (f := a3.2.2) hT (i := a3.2.1) (by omega) (by omega) (by omega) (by omega)
      rw [ha4] at A4
      have A4' := A4 y7
      refine ⟨by omega, by omega, by omega, by omega, by omega, by omega, ?_⟩
      unfold cuS at hcu
      by_cases y9 : a4.2.2 = 0 ∧ ty T a4.2.1 = 12
      · have iN4 := hT.lt (i := a4.2.1) (by omega) (by omega) (by omega)
        have H := th_r (Y := Y) (W := X 327) (cnt := rmX X) (x := 0) (y := 6) (f := 0) hT (i := a4.2.1 + 1) (by omega) (by omega)
        rw [if_pos y9] at hcu
        rw [← hcu] at y ⊢
        dsimp only at y ⊢
        have H' := H y
        rw [if_neg (by omega)]
        omega
      · rw [if_neg y9] at hcu
        rw [← hcu]
        dsimp only
        omega
    have cuv : cu.2.2 = 0 → -1 ≤ cu.1 ∧ cu.1 < st X 5 := fun y => by
      unfold cuS at hcu
      by_cases y9 : a4.2.2 = 0 ∧ ty T a4.2.1 = 12
      · rw [if_pos y9] at hcu
        rw [← hcu] at y ⊢
        dsimp only at y ⊢
        have y7 := b7 (by rw [← hcu]; exact y)
        have V := vals (by rw [← hcu]; exact y)
        have iN4 : 0 ≤ a4.2.1 ∧ a4.2.1 + 1 ≤ N := by
          have y6 := b6 y7
          have y5 := b5 y6
          have y4 := b4 y5
          have y3 := b3 y4
          have y2 := b2 y3
          have y1 := b1 y2
          have P := pr2 y1
          have K1 := to_r (x := 23) (y := 4) (f := p.2) hT (i := p.1) (by omega) (by omega) (by omega)
          rw [hk1] at K1
          have K1' := K1 y2
          have A1 := ta_r (w := 8) (lo := 0) (hi := st X 1 - 1) (f := k1.2.2) hT (i := k1.2.1) (by omega) (by omega) (by omega) (by omega)
          rw [ha1] at A1
          have A1' := A1 y3
          have A2 := ta_r (w := 9) (lo := 0) (hi := st X 0 - 1) (f := a1.2.2) hT (i := a1.2.1) (by omega) (by omega) (by omega) (by omega)
          rw [ha2] at A2
          have A2' := A2 y4
          have K2 := to_r (x := 21) (y := 2) (f := a2.2.2) hT (i := a2.2.1) (by omega) (by omega) (by omega)
          rw [hk2] at K2
          have K2' := K2 y5
          have A3 := ta_r (w := 10) (lo := 1) (hi := 9) (f := k2.2.2) hT (i := k2.2.1) (by omega) (by omega) (by omega) (by omega)
          rw [ha3] at A3
          have A3' := A3 y6
          have A4 := ta_r (w := 11) (lo := 0) (hi := 99) (f := a3.2.2) hT (i := a3.2.1) (by omega) (by omega) (by omega) (by omega)
          rw [ha4] at A4
          have A4' := A4 y7
          have := hT.lt (i := a4.2.1) (by omega) (by omega) (by omega)
          omega
        have H := th_r (Y := Y) (W := X 327) (cnt := rmX X) (x := 0) (y := 6) (f := 0) hT (i := a4.2.1 + 1) (by omega) (by omega) y
        have F := hX.fw (Y := Y) (tV T (a4.2.1 + 1)) (by omega) (by omega)
        omega
      · rw [if_neg y9] at hcu
        rw [← hcu]
        dsimp only
        omega
    refine ⟨cu.2.1, cu.2.2, wkX X (rmX X) (st X 6) k1.1 a1.1 a2.1 k2.1 a3.1 a4.1 cu.1, upY Y (rmX X).toNat (tV T (i + 1)), fun m d hd hP hM => ?_, fun c d s hd hC hD hF => ?_, fun hf => ?_⟩
    · exact M183 hT hE hX iN (by omega) hP hM hd hp hk1.symm ha1.symm ha2.symm hk2.symm ha3.symm ha4.symm hcu.symm (fun y => b1 (b2 (b3 (b4 (b5 (b6 (b7 y))))))) (fun y => b1 (b2 (b3 (b4 (b5 (b6 y))))))
    · obtain ⟨c', e, g, q, r⟩ := C44 hT hX iN (by omega) hC hD hd hp hk1.symm ha1.symm ha2.symm hk2.symm ha3.symm ha4.symm hcu.symm
      refine ⟨c', e, g, fun hf => ?_, q⟩
      obtain ⟨c9, t9, hD9, hc', wr, fd1, s1, s2, s3, s4, s5, s6, s7⟩ := r hf
      obtain ⟨V0, V1, V2, V3, V4, V5, V6, V7⟩ := vals hf
      have V8 := cuv hf
      have h0 : vR k1.1 := ⟨by omega, by omega⟩
      have h1 : vR a1.1 := ⟨by omega, by omega⟩
      have h2 : vR a2.1 := ⟨by omega, by omega⟩
      have h3 : vR k2.1 := ⟨by omega, by omega⟩
      have h4 : vR a3.1 := ⟨by omega, by omega⟩
      have h5 : vR a4.1 := ⟨by omega, by omega⟩
      have h6 : vR cu.1 := ⟨by omega, by omega⟩
      have lo := fun {j : Int} => wkX_lo (X := X) (r := rmX X) (k := st X 6) q0 (by omega) h0 h1 h2 h3 h4 h5 h6 (j := j)
      have hst := t9.2.2.2.1
      have hst' : s = 104 ∨ s = 125 := hst
      have hO : Fr (scO s) c9 c' := by
        rw [hc']
        exact (Fr.sL (scO_t (by omega) (by omega) (by omega))).tr (Fr.sI (scO_t (by omega) (by omega) (by omega)))
      have gi : ∀ x k, ¬ (x = s ∧ k = 10) → mm_gI c' x k = mm_gI c9 x k := fun x k y => by
        rw [hc', gI_sI, if_neg y, gI_sL]
      obtain ⟨⟨b0, b1, b2, b3, b4, b5, b6, b7, b8⟩, bt, bw, bq, la, lb⟩ := hD9.1
      refine ⟨t9.oq hO, ⟨⟨?_, ?_, ?_, ?_, ?_, ?_, ?_, ?_, ?_⟩, fun x y0 y1 => ?_, fun x y0 y1 => ?_, fun x y0 y1 => ?_, ?_, ?_⟩, ?_, ?_, ?_, ?_⟩
      · rw [lo (by omega) (by omega) (by omega), gi _ _ (by omega)]; exact b0
      · rw [lo (by omega) (by omega) (by omega), gi _ _ (by omega)]; exact b1
      · rw [lo (by omega) (by omega) (by omega), gi _ _ (by omega)]; exact b2
      · rw [lo (by omega) (by omega) (by omega), gi _ _ (by omega)]; exact b3
      · rw [lo (by omega) (by omega) (by omega), gi _ _ (by omega)]; exact b4
      · rw [lo (by omega) (by omega) (by omega), gi _ _ (by omega)]; exact b5
      · rw [lo (by omega) (by omega) (by omega), gi _ _ (by omega)]; exact b6
      · rw [wkX_6 q0 (by omega) h0 h1 h2 h3 h4 h5 h6, hc', gI_sI, if_pos ⟨rfl, rfl⟩]
      · rw [lo (by omega) (by omega) (by omega), gi _ _ (by omega)]; exact b8
      · rw [lo (by omega) (by omega) (by omega)] at y1
        unfold te
        rw [lo (by omega) (by omega) (by omega), gi _ _ (by omega)]
        exact bt x y0 y1
      · rw [wkX_6 q0 (by omega) h0 h1 h2 h3 h4 h5 h6] at y1
        by_cases y2 : x = st X 6
        · subst y2
          obtain ⟨K0, K1, K2, K3, K4, K5, K6⟩ := wkX_k (X := X) (r := rmX X) (k := st X 6) q0 (by omega) h0 h1 h2 h3 h4 h5 h6
          rw [K0, K1, K2, K3, K4, K5, K6, gi _ _ (by omega), gi _ _ (by omega), gi _ _ (by omega), gi _ _ (by omega), gi _ _ (by omega), gi _ _ (by omega), gi _ _ (by omega)]
          exact ⟨s1, s2, s3, s4, s5, s6, s7⟩
        · have ww := fun {j : Int} => wkX_w (X := X) (r := rmX X) (k := st X 6) q0 (by omega) h0 h1 h2 h3 h4 h5 h6 (x := x) (j := j) y0 (by omega)
          rw [ww (by omega) (by omega), ww (by omega) (by omega), ww (by omega) (by omega), ww (by omega) (by omega), ww (by omega) (by omega), ww (by omega) (by omega), ww (by omega) (by omega), gi _ _ (by omega), gi _ _ (by omega), gi _ _ (by omega), gi _ _ (by omega), gi _ _ (by omega), gi _ _ (by omega), gi _ _ (by omega)]
          exact bw x y0 (by omega)
      · rw [lo (by omega) (by omega) (by omega)] at y1
        unfold mu
        rw [lo (by omega) (by omega) (by omega), lo (by omega) (by omega) (by omega), lo (by omega) (by omega) (by omega), gi _ _ (by omega), gi _ _ (by omega), gi _ _ (by omega)]
        exact bq x y0 y1
      · rw [lo (by omega) (by omega) (by omega)]
        exact (la.cg (gi _ _ (by omega)) (fun k => gi _ _ (by omega))).cX (by funext k; exact wkX_o (by omega) (by omega) (by omega)) (by funext k; exact wkX_o (by omega) (by omega) (by omega))
      · rw [lo (by omega) (by omega) (by omega)]
        exact (lb.cg (gi _ _ (by omega)) (fun k => gi _ _ (by omega))).cX (by funext k; exact wkX_o (by omega) (by omega) (by omega)) (by funext k; exact wkX_o (by omega) (by omega) (by omega))
      · unfold hrX
        rw [wkX_o (by omega) (by omega) (by omega), gi _ _ (by omega)]
        exact hD9.2.1
      · rw [lo (by omega) (by omega) (by omega), gi _ _ (by omega)]
        exact hD9.2.2.1
      · rw [lo (by omega) (by omega) (by omega), gi _ _ (by omega)]
        exact hD9.2.2.2.1
      · rw [wkX_rm (by omega) (by omega), lo (by omega) (by omega) (by omega), wkX_6 q0 (by omega) h0 h1 h2 h3 h4 h5 h6]
        refine hD9.2.2.2.2.addB (u := tV T (i + 1)) (v := tW T (i + 1)) fd1 wr (by omega) (fun k => wkX_27 k) (fun k => rfl) (fun k => ?_) (fun x hx => ?_)
        · rw [hc', gL_sI, gL_sL, if_neg (by omega)]
        · rw [hc', gL_sI, gL_sL]
          simp
    · obtain ⟨V0, V1, V2, V3, V4, V5, V6, V7⟩ := vals hf
      have V8 := cuv hf
      have h0 : vR k1.1 := ⟨by omega, by omega⟩
      have h1 : vR a1.1 := ⟨by omega, by omega⟩
      have h2 : vR a2.1 := ⟨by omega, by omega⟩
      have h3 : vR k2.1 := ⟨by omega, by omega⟩
      have h4 : vR a3.1 := ⟨by omega, by omega⟩
      have h5 : vR a4.1 := ⟨by omega, by omega⟩
      have h6 : vR cu.1 := ⟨by omega, by omega⟩
      have lo := fun {j : Int} => wkX_lo (X := X) (r := rmX X) (k := st X 6) q0 (by omega) h0 h1 h2 h3 h4 h5 h6 (j := j)
      refine ⟨hX.of ?_ ?_ ?_ (by funext k; exact wkX_o (by omega) (by omega) (by omega)) (by funext k; exact wkX_o (by omega) (by omega) (by omega)) ?_ ?_ ?_ ?_ (by omega), V6⟩
      · have e6 := wkX_6 (X := X) (r := rmX X) (k := st X 6) q0 (by omega) h0 h1 h2 h3 h4 h5 h6
        refine ⟨?_, ?_, ?_, ?_, ?_, ?_, ?_, ?_, fun x y0 y1 => ?_, fun x y0 y1 => ?_, fun x y0 y1 => ?_⟩
        · rw [lo (by omega) (by omega) (by omega)]; omega
        · rw [lo (by omega) (by omega) (by omega)]; omega
        · rw [lo (by omega) (by omega) (by omega), lo (by omega) (by omega) (by omega), lo (by omega) (by omega) (by omega)]; omega
        · rw [lo (by omega) (by omega) (by omega), lo (by omega) (by omega) (by omega)]; omega
        · rw [lo (by omega) (by omega) (by omega)]; omega
        · rw [e6]; omega
        · rw [lo (by omega) (by omega) (by omega)]; omega
        · rw [lo (by omega) (by omega) (by omega)]; omega
        · rw [lo (by omega) (by omega) (by omega)] at y1
          unfold te
          rw [lo (by omega) (by omega) (by omega)]
          exact hte x y0 y1
        · rw [e6] at y1
          unfold InvW
          rw [lo (j := 0) (by omega) (by omega) (by omega), lo (j := 1) (by omega) (by omega) (by omega), lo (j := 5) (by omega) (by omega) (by omega)]
          by_cases y2 : x = st X 6
          · subst y2
            obtain ⟨K0, K1, K2, K3, K4, K5, K6⟩ := wkX_k (X := X) (r := rmX X) (k := st X 6) q0 (by omega) h0 h1 h2 h3 h4 h5 h6
            rw [K0, K1, K2, K3, K4, K5, K6]
            omega
          · have ww := fun {j : Int} => wkX_w (X := X) (r := rmX X) (k := st X 6) q0 (by omega) h0 h1 h2 h3 h4 h5 h6 (x := x) (j := j) y0 (by omega)
            rw [ww (by omega) (by omega), ww (by omega) (by omega), ww (by omega) (by omega), ww (by omega) (by omega), ww (by omega) (by omega), ww (by omega) (by omega), ww (by omega) (by omega)]
            exact hwk x y0 (by omega)
        · rw [lo (by omega) (by omega) (by omega)] at y1
          have := hmu x y0 y1
          unfold InvQ mu at *
          rw [lo (j := 0) (by omega) (by omega) (by omega), lo (j := 5) (by omega) (by omega) (by omega), e6, lo (by omega) (by omega) (by omega), lo (by omega) (by omega) (by omega), lo (by omega) (by omega) (by omega)]
          omega
      · exact lo (by omega) (by omega) (by omega)
      · exact lo (by omega) (by omega) (by omega)
      · unfold cdX; rw [wkX_o (by omega) (by omega) (by omega)]
      · unfold hrX; rw [wkX_o (by omega) (by omega) (by omega)]; exact hX.2.2.2.2.1
      · intro k hk
        rw [wkX_rm (by omega) (by omega)] at hk
        rw [wkX_27, lo (by omega) (by omega) (by omega), wkX_6 q0 (by omega) h0 h1 h2 h3 h4 h5 h6]
        by_cases y3 : k = (rmX X).toNat
        · rw [if_pos y3, iI_val (by omega) (by omega)]; omega
        · rw [if_neg y3]; rcases hX.2.2.2.2.2.1 k (by omega) with q | q <;> omega
      · rw [wkX_rm (by omega) (by omega), lo (by omega) (by omega) (by omega), wkX_6 q0 (by omega) h0 h1 h2 h3 h4 h5 h6]
        omega
end
