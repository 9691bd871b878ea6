/-- the film's part of whose the sights can be -/
def FBt (D : Nat → Nat → Int32) (m : mm_M) : Prop := mm_gI m 195 3 = iI (sa D 46) ∧ ∀ i, 0 ≤ i → i < sa D 46 → ∀ k, 0 ≤ k → k < 10 → bi (mm_gI m 209 i.toNat) k = (decide (k < sa D 46) && canF D i k)
def HF (m : mm_M) (bf : Int → Int) (ak : Int → Bool) : Prop := ∀ k, 0 ≤ k → k < 10 → mm_gI m 210 k.toNat = iI (bf k) ∧ bi (mm_gI m 195 4) k = ak k
def scV (a k : Nat) : Bool := Nat.beq a 210 || (Nat.beq a 195 && Nat.beq k 4)
section
variable {D : Nat → Nat → Int32} {m m' m'' : mm_M} {d s W L H p n : Nat} {bf : Int → Int} {ak : Int → Bool}
/-- canWalk -/
theorem C6 {c t : Int} (c0 : -1000 ≤ c) (c1 : c ≤ 1000) (t0 : -10000 ≤ t) (t1 : t ≤ 10000) : mm_ev d 6 0 [some (.int (iI (c))), some (.int (iI (t)))] [] m = some (some (some (.int (iI (bI (decide (1 ≤ c) && inB t c (9 * c)))))), m) := by
  rw [sg_6_0]
  unfold inB
  by_cases z1 : c < 1
  · simp (disch := omega) only [↓reduceIte, not_false_eq_true, not_true_eq_false, and_self, and_true, true_and, false_and, and_false, or_true, true_or, or_false, false_or, or_self, reduceCtorEq, mm_q, Option.getD_some, cI_some, cJ_some, cV_some, cS_some, kd_sI, kd_sL, kd_sR, kd_cp, ln_sI, ln_sL, ln_sR, ln_cp, gR_sI, gR_sL, gR_sR, gR_cp, gL_sI, gL_sR, gL_cp, gI_sL, gI_sR, iI_add, iI_sub, iI_mul, iI_neg, iI_in, iI_tn, iI_lt, iI_eq, Nat.reduceLeDiff, Nat.reduceEqDiff, Nat.reduceAdd, Int.reduceEq, Int.reduceLT, Int.reduceLE, Int.reduceNeg, Int.reduceAdd, Int.reduceSub, Int.reduceMul, bI_t, bI_f, decide_true, decide_false, Bool.and_true, Bool.and_false, Bool.true_and, Bool.false_and, Bool.false_eq_true, Bool.and_self, Bool.not_true, Bool.not_false, Bool.true_or, Bool.false_or, Bool.or_true, Bool.or_false, z1, show ¬ 1 ≤ c by omega]
  · by_cases z2 : t < c
    · simp (disch := omega) only [↓reduceIte, not_false_eq_true, not_true_eq_false, and_self, and_true, true_and, false_and, and_false, or_true, true_or, or_false, false_or, or_self, reduceCtorEq, mm_q, Option.getD_some, cI_some, cJ_some, cV_some, cS_some, kd_sI, kd_sL, kd_sR, kd_cp, ln_sI, ln_sL, ln_sR, ln_cp, gR_sI, gR_sL, gR_sR, gR_cp, gL_sI, gL_sR, gL_cp, gI_sL, gI_sR, iI_add, iI_sub, iI_mul, iI_neg, iI_in, iI_tn, iI_lt, iI_eq, Nat.reduceLeDiff, Nat.reduceEqDiff, Nat.reduceAdd, Int.reduceEq, Int.reduceLT, Int.reduceLE, Int.reduceNeg, Int.reduceAdd, Int.reduceSub, Int.reduceMul, bI_t, bI_f, decide_true, decide_false, Bool.and_true, Bool.and_false, Bool.true_and, Bool.false_and, Bool.false_eq_true, Bool.and_self, Bool.not_true, Bool.not_false, Bool.true_or, Bool.false_or, Bool.or_true, Bool.or_false, z1, z2, show ¬ c ≤ t by omega]
    · by_cases z3 : 9 * c < t
      · simp (disch := omega) only [↓reduceIte, not_false_eq_true, not_true_eq_false, and_self, and_true, true_and, false_and, and_false, or_true, true_or, or_false, false_or, or_self, reduceCtorEq, mm_q, Option.getD_some, cI_some, cJ_some, cV_some, cS_some, kd_sI, kd_sL, kd_sR, kd_cp, ln_sI, ln_sL, ln_sR, ln_cp, gR_sI, gR_sL, gR_sR, gR_cp, gL_sI, gL_sR, gL_cp, gI_sL, gI_sR, iI_add, iI_sub, iI_mul, iI_neg, iI_in, iI_tn, iI_lt, iI_eq, Nat.reduceLeDiff, Nat.reduceEqDiff, Nat.reduceAdd, Int.reduceEq, Int.reduceLT, Int.reduceLE, Int.reduceNeg, Int.reduceAdd, Int.reduceSub, Int.reduceMul, bI_t, bI_f, decide_true, decide_false, Bool.and_true, Bool.and_false, Bool.true_and, Bool.false_and, Bool.false_eq_true, Bool.and_self, Bool.not_true, Bool.not_false, Bool.true_or, Bool.false_or, Bool.or_true, Bool.or_false, z1, z2, z3, show ¬ t ≤ 9 * c by omega]
      · simp (disch := omega) only [↓reduceIte, not_false_eq_true, not_true_eq_false, and_self, and_true, true_and, false_and, and_false, or_true, true_or, or_false, false_or, or_self, reduceCtorEq, mm_q, Option.getD_some, cI_some, cJ_some, cV_some, cS_some, kd_sI, kd_sL, kd_sR, kd_cp, ln_sI, ln_sL, ln_sR, ln_cp, gR_sI, gR_sL, gR_sR, gR_cp, gL_sI, gL_sR, gL_cp, gI_sL, gI_sR, iI_add, iI_sub, iI_mul, iI_neg, iI_in, iI_tn, iI_lt, iI_eq, Nat.reduceLeDiff, Nat.reduceEqDiff, Nat.reduceAdd, Int.reduceEq, Int.reduceLT, Int.reduceLE, Int.reduceNeg, Int.reduceAdd, Int.reduceSub, Int.reduceMul, bI_t, bI_f, decide_true, decide_false, Bool.and_true, Bool.and_false, Bool.true_and, Bool.false_and, Bool.false_eq_true, Bool.and_self, Bool.not_true, Bool.not_false, Bool.true_or, Bool.false_or, Bool.or_true, Bool.or_false, z1, z2, z3, show 1 ≤ c by omega, show c ≤ t by omega, show t ≤ 9 * c by omega]
theorem FBt.f (h : FBt D m) (f : Fr scV m m') : FBt D m' := ⟨(f.gI rfl).trans h.1, fun i i0 i1 k k0 k1 => by rw [f.gI rfl]; exact h.2 i i0 i1 k k0 k1⟩
/-- findPlace -/
theorem C8 (hPP : InvP D) : ∀ (f : Nat) (one dp : Int) (q : (Int → Int) × (Int → Bool)) (d : Nat) (m : mm_M), unA (sa D 46).toNat q.2 < f → 0 ≤ dp → unA (sa D 46).toNat q.2 + dp ≤ sa D 46 → f + 2 ≤ d → 0 ≤ one → one < sa D 46 → Sh m → FBt D m → HF m q.1 q.2 → bfOk (sa D 46) q.1 → ∃ m', mm_ev d 8 0 [some (.ref 195), some (.int (iI (one))), some (.int (iI (dp))), none, none] [] m = some (some (some (.int (iI (bI (fnd (canF D) (sa D 46) f one q).1)))), m') ∧ Fr scV m m' ∧ HF m' (fnd (canF D) (sa D 46) f one q).2.1 (fnd (canF D) (sa D 46) f one q).2.2 ∧ bfOk (sa D 46) (fnd (canF D) (sa D 46) f one q).2.1
  | 0, one, dp, q, d, m, hu, _, _, _, _, _, _, _, _, _ => by
    have := (unA_n (n := (sa D 46).toNat) (A := q.2)).1
    omega
  | f + 1, one, dp, q, d, m, hu, dp0, hdp, hd, o0, o1, hs, hF, hH, hb => by
    obtain ⟨n0, n1⟩ := hPP.1
    have ih := C8 hPP f
    have loop : ∀ (r : Nat) (k : Int) (q : (Int → Int) × (Int → Bool)) (z : Option Value) (m : mm_M), k = sa D 46 - r → 0 ≤ k → unA (sa D 46).toNat q.2 < f + 1 → unA (sa D 46).toNat q.2 + dp ≤ sa D 46 → Sh m → FBt D m → HF m q.1 q.2 → bfOk (sa D 46) q.1 → ∃ m', mm_ev d 8 12 [some (.ref 195), some (.int (iI (one))), some (.int (iI (dp))), some (.int (iI (k))), z] [] m = some (some (some (.int (iI (bI (fndL (fnd (canF D) (sa D 46) f) (canF D) one r k q).1)))), m') ∧ Fr scV m m' ∧ HF m' (fndL (fnd (canF D) (sa D 46) f) (canF D) one r k q).2.1 (fndL (fnd (canF D) (sa D 46) f) (canF D) one r k q).2.2 ∧ bfOk (sa D 46) (fndL (fnd (canF D) (sa D 46) f) (canF D) one r k q).2.1 := by
      intro r
      induction r with
      | zero =>
        intro k q z m hk k0 hu hdp hs hF hH hb
        have ff := shF hs
        refine ⟨m, ?_, Fr.rf, hH, hb⟩
        rw [sg_8_12 (by omega)]
        unfold fndL
        simp (disch := omega) only [ff, ↓reduceIte, not_false_eq_true, not_true_eq_false, and_self, and_true, true_and, false_and, and_false, or_true, true_or, or_false, false_or, or_self, reduceCtorEq, mm_q, Option.getD_some, cI_some, cJ_some, cV_some, cS_some, kd_sI, kd_sL, kd_sR, kd_cp, ln_sI, ln_sL, ln_sR, ln_cp, gR_sI, gR_sL, gR_sR, gR_cp, gL_sI, gL_sR, gL_cp, gI_sL, gI_sR, iI_add, iI_sub, iI_mul, iI_neg, iI_in, iI_tn, iI_lt, iI_eq, Nat.reduceLeDiff, Nat.reduceEqDiff, Nat.reduceAdd, Int.reduceEq, Int.reduceLT, Int.reduceLE, Int.reduceNeg, Int.reduceAdd, Int.reduceSub, Int.reduceMul, bI_t, bI_f, decide_true, decide_false, Bool.and_true, Bool.and_false, Bool.true_and, Bool.false_and, Bool.false_eq_true, Bool.and_self, Bool.not_true, Bool.not_false, Bool.true_or, Bool.false_or, Bool.or_true, Bool.or_false, hF.1, show ¬ k < sa D 46 by omega]
      | succ r ihr =>
        intro k q z m hk k0 hu hdp hs hF hH hb
        have ff := shF hs
        have k1 : k < sa D 46 := by omega
        obtain ⟨q1, q2⟩ := hH k k0 (by omega)
        have hc := hF.2 one o0 o1 k k0 (by omega)
        rw [decide_eq_true k1, Bool.true_and] at hc
        have ht : (((mm_gI m 209 one.toNat &&& (mm_gI m 195 4 ^^^ iI (-1))) &&& iShl (iI 1) (iI k)) = iI 0) = ((canF D one k && !q.2 k) = false) := by
          rw [bi_t k0 (by omega), bi_and, bi_not k0 (by omega), hc, q2]
        rw [sg_8_12 (by omega)]
        cases z1 : q.2 k
        · cases z2 : canF D one k
          · rw [z1, z2] at ht
            have ef : fndL (fnd (canF D) (sa D 46) f) (canF D) one (r + 1) k q = fndL (fnd (canF D) (sa D 46) f) (canF D) one r (k + 1) q := by
              rw [fndL, z1, z2]
              simp
            rw [ef]
            obtain ⟨m', e1, f1, r1⟩ := ihr (k + 1) q (some (.int (iShl (iI 1) (iI k)))) m (by omega) (by omega) hu hdp hs hF hH hb
            refine ⟨m', ?_, f1, r1⟩
            simp (disch := omega) only [ff, ↓reduceIte, not_false_eq_true, not_true_eq_false, and_self, and_true, true_and, false_and, and_false, or_true, true_or, or_false, false_or, or_self, reduceCtorEq, mm_q, Option.getD_some, cI_some, cJ_some, cV_some, cS_some, kd_sI, kd_sL, kd_sR, kd_cp, ln_sI, ln_sL, ln_sR, ln_cp, gR_sI, gR_sL, gR_sR, gR_cp, gL_sI, gL_sR, gL_cp, gI_sL, gI_sR, iI_add, iI_sub, iI_mul, iI_neg, iI_in, iI_tn, iI_lt, iI_eq, Nat.reduceLeDiff, Nat.reduceEqDiff, Nat.reduceAdd, Int.reduceEq, Int.reduceLT, Int.reduceLE, Int.reduceNeg, Int.reduceAdd, Int.reduceSub, Int.reduceMul, bI_t, bI_f, decide_true, decide_false, Bool.and_true, Bool.and_false, Bool.true_and, Bool.false_and, Bool.false_eq_true, Bool.and_self, Bool.not_true, Bool.not_false, Bool.true_or, Bool.false_or, Bool.or_true, Bool.or_false, hF.1, k1, ht, sg_8_90]
            exact e1
          · rw [z1, z2] at ht
            have g1 : Fr scV m (mm_sI m 195 4 (mm_gI m 195 4 ||| iShl (iI 1) (iI k))) := Fr.sI rfl
            have hH1 : HF (mm_sI m 195 4 (mm_gI m 195 4 ||| iShl (iI 1) (iI k))) q.1 (updA q.2 k true) := fun j j0 j1 => by
              obtain ⟨a, b⟩ := hH j j0 j1
              refine ⟨by rw [gI_sI, if_neg (by omega)]; exact a, ?_⟩
              rw [gI_sI, if_pos ⟨rfl, rfl⟩, bi_or k0 (by omega) j0 (by omega), b]
              unfold updA
              by_cases y : j = k
              · rw [if_pos y, decide_eq_true y, Bool.or_true]
              · rw [if_neg y, decide_eq_false y, Bool.or_false]
            have hbk := hb k k0 (by omega)
            have q4 : mm_gI (mm_sI m 195 4 (mm_gI m 195 4 ||| iShl (iI 1) (iI k))) 210 k.toNat = iI (q.1 k) := by rw [gI_sI, if_neg (by omega)]; exact q1
            by_cases z3 : q.1 k < 0
            · have ef : fndL (fnd (canF D) (sa D 46) f) (canF D) one (r + 1) k q = (true, updB q.1 k one, updA q.2 k true) := by
                rw [fndL, z1, z2]
                simp [z3]
              rw [ef]
              refine ⟨mm_sI (mm_sI m 195 4 (mm_gI m 195 4 ||| iShl (iI 1) (iI k))) 210 k.toNat (iI one), ?_, g1.tr (Fr.sI rfl), fun j j0 j1 => ?_, hb.upd (by omega) o1⟩
              · simp (disch := omega) only [ff, ↓reduceIte, not_false_eq_true, not_true_eq_false, and_self, and_true, true_and, false_and, and_false, or_true, true_or, or_false, false_or, or_self, reduceCtorEq, mm_q, Option.getD_some, cI_some, cJ_some, cV_some, cS_some, kd_sI, kd_sL, kd_sR, kd_cp, ln_sI, ln_sL, ln_sR, ln_cp, gR_sI, gR_sL, gR_sR, gR_cp, gL_sI, gL_sR, gL_cp, gI_sL, gI_sR, iI_add, iI_sub, iI_mul, iI_neg, iI_in, iI_tn, iI_lt, iI_eq, Nat.reduceLeDiff, Nat.reduceEqDiff, Nat.reduceAdd, Int.reduceEq, Int.reduceLT, Int.reduceLE, Int.reduceNeg, Int.reduceAdd, Int.reduceSub, Int.reduceMul, bI_t, bI_f, decide_true, decide_false, Bool.and_true, Bool.and_false, Bool.true_and, Bool.false_and, Bool.false_eq_true, Bool.and_self, Bool.not_true, Bool.not_false, Bool.true_or, Bool.false_or, Bool.or_true, Bool.or_false, hF.1, k1, ht, q4, show q.1 k = -1 by omega, Bool.true_eq_false]
                rw [sg_8_81]
                simp (disch := omega) only [ff, ↓reduceIte, not_false_eq_true, not_true_eq_false, and_self, and_true, true_and, false_and, and_false, or_true, true_or, or_false, false_or, or_self, reduceCtorEq, mm_q, Option.getD_some, cI_some, cJ_some, cV_some, cS_some, kd_sI, kd_sL, kd_sR, kd_cp, ln_sI, ln_sL, ln_sR, ln_cp, gR_sI, gR_sL, gR_sR, gR_cp, gL_sI, gL_sR, gL_cp, gI_sL, gI_sR, iI_add, iI_sub, iI_mul, iI_neg, iI_in, iI_tn, iI_lt, iI_eq, Nat.reduceLeDiff, Nat.reduceEqDiff, Nat.reduceAdd, Int.reduceEq, Int.reduceLT, Int.reduceLE, Int.reduceNeg, Int.reduceAdd, Int.reduceSub, Int.reduceMul, bI_t, bI_f, decide_true, decide_false, Bool.and_true, Bool.and_false, Bool.true_and, Bool.false_and, Bool.false_eq_true, Bool.and_self, Bool.not_true, Bool.not_false, Bool.true_or, Bool.false_or, Bool.or_true, Bool.or_false]
              · obtain ⟨a, b⟩ := hH1 j j0 j1
                refine ⟨?_, by rw [gI_sI, if_neg (by omega)]; exact b⟩
                rw [gI_sI]
                simp only [updB]
                by_cases y : j = k
                · rw [if_pos ⟨trivial, by omega⟩, if_pos y]
                · rw [if_neg (by omega), if_neg y]; exact a
            · have u1 := unA_u (n := (sa D 46).toNat) k0 (by omega) z1
              have sh1 := g1.sh hs
              obtain ⟨m2, e2, g2, hH2, hb2⟩ := ih (q.1 k) (dp + 1) (q.1, updA q.2 k true) (d - 1) _ (by simp only; omega) (by omega) (by simp only; omega) (by omega) (by omega) hbk.2 sh1 (hF.f g1) hH1 hb
              have hF2 := (hF.f g1).f g2
              have sh2 := g2.sh sh1
              have ff2 := shF sh2
              generalize hw : fnd (canF D) (sa D 46) f (q.1 k) (q.1, updA q.2 k true) = w at e2 hH2 hb2
              cases z4 : w.1
              · have ef : fndL (fnd (canF D) (sa D 46) f) (canF D) one (r + 1) k q = fndL (fnd (canF D) (sa D 46) f) (canF D) one r (k + 1) w.2 := by
                  rw [fndL, z1, z2, hw]
                  simp [z3, z4]
                rw [ef]
                have u2 := unA_m (n := (sa D 46).toNat) (A := updA q.2 k true) (C := w.2.2) (fun i hi => by rw [← hw]; exact fnd_a f _ (q.1, updA q.2 k true) i hi)
                obtain ⟨m', e3, g3, r3⟩ := ihr (k + 1) w.2 (some (.int (iShl (iI 1) (iI k)))) m2 (by omega) (by omega) (by omega) (by omega) sh2 hF2 hH2 hb2
                refine ⟨m', ?_, (g1.tr g2).tr g3, r3⟩
                rw [z4, bI_f] at e2
                simp (disch := omega) only [ff, ↓reduceIte, not_false_eq_true, not_true_eq_false, and_self, and_true, true_and, false_and, and_false, or_true, true_or, or_false, false_or, or_self, reduceCtorEq, mm_q, Option.getD_some, cI_some, cJ_some, cV_some, cS_some, kd_sI, kd_sL, kd_sR, kd_cp, ln_sI, ln_sL, ln_sR, ln_cp, gR_sI, gR_sL, gR_sR, gR_cp, gL_sI, gL_sR, gL_cp, gI_sL, gI_sR, iI_add, iI_sub, iI_mul, iI_neg, iI_in, iI_tn, iI_lt, iI_eq, Nat.reduceLeDiff, Nat.reduceEqDiff, Nat.reduceAdd, Int.reduceEq, Int.reduceLT, Int.reduceLE, Int.reduceNeg, Int.reduceAdd, Int.reduceSub, Int.reduceMul, bI_t, bI_f, decide_true, decide_false, Bool.and_true, Bool.and_false, Bool.true_and, Bool.false_and, Bool.false_eq_true, Bool.and_self, Bool.not_true, Bool.not_false, Bool.true_or, Bool.false_or, Bool.or_true, Bool.or_false, hF.1, k1, ht, q4, show ¬ q.1 k = -1 by omega, e2, sg_8_90, Bool.true_eq_false]
                exact e3
              · have ef : fndL (fnd (canF D) (sa D 46) f) (canF D) one (r + 1) k q = (true, updB w.2.1 k one, w.2.2) := by
                  rw [fndL, z1, z2, hw]
                  simp [z3, z4]
                rw [ef]
                refine ⟨mm_sI m2 210 k.toNat (iI one), ?_, (g1.tr g2).tr (Fr.sI rfl), fun j j0 j1 => ?_, hb2.upd (by omega) o1⟩
                · rw [z4, bI_t] at e2
                  simp (disch := omega) only [ff, ↓reduceIte, not_false_eq_true, not_true_eq_false, and_self, and_true, true_and, false_and, and_false, or_true, true_or, or_false, false_or, or_self, reduceCtorEq, mm_q, Option.getD_some, cI_some, cJ_some, cV_some, cS_some, kd_sI, kd_sL, kd_sR, kd_cp, ln_sI, ln_sL, ln_sR, ln_cp, gR_sI, gR_sL, gR_sR, gR_cp, gL_sI, gL_sR, gL_cp, gI_sL, gI_sR, iI_add, iI_sub, iI_mul, iI_neg, iI_in, iI_tn, iI_lt, iI_eq, Nat.reduceLeDiff, Nat.reduceEqDiff, Nat.reduceAdd, Int.reduceEq, Int.reduceLT, Int.reduceLE, Int.reduceNeg, Int.reduceAdd, Int.reduceSub, Int.reduceMul, bI_t, bI_f, decide_true, decide_false, Bool.and_true, Bool.and_false, Bool.true_and, Bool.false_and, Bool.false_eq_true, Bool.and_self, Bool.not_true, Bool.not_false, Bool.true_or, Bool.false_or, Bool.or_true, Bool.or_false, hF.1, k1, ht, q4, show ¬ q.1 k = -1 by omega, e2, Bool.true_eq_false]
                  rw [sg_8_81]
                  simp (disch := omega) only [ff2, ↓reduceIte, not_false_eq_true, not_true_eq_false, and_self, and_true, true_and, false_and, and_false, or_true, true_or, or_false, false_or, or_self, reduceCtorEq, mm_q, Option.getD_some, cI_some, cJ_some, cV_some, cS_some, kd_sI, kd_sL, kd_sR, kd_cp, ln_sI, ln_sL, ln_sR, ln_cp, gR_sI, gR_sL, gR_sR, gR_cp, gL_sI, gL_sR, gL_cp, gI_sL, gI_sR, iI_add, iI_sub, iI_mul, iI_neg, iI_in, iI_tn, iI_lt, iI_eq, Nat.reduceLeDiff, Nat.reduceEqDiff, Nat.reduceAdd, Int.reduceEq, Int.reduceLT, Int.reduceLE, Int.reduceNeg, Int.reduceAdd, Int.reduceSub, Int.reduceMul, bI_t, bI_f, decide_true, decide_false, Bool.and_true, Bool.and_false, Bool.true_and, Bool.false_and, Bool.false_eq_true, Bool.and_self, Bool.not_true, Bool.not_false, Bool.true_or, Bool.false_or, Bool.or_true, Bool.or_false]
                · obtain ⟨a, b⟩ := hH2 j j0 j1
                  refine ⟨?_, by rw [gI_sI, if_neg (by omega)]; exact b⟩
                  rw [gI_sI]
                  simp only [updB]
                  by_cases y : j = k
                  · rw [if_pos ⟨trivial, by omega⟩, if_pos y]
                  · rw [if_neg (by omega), if_neg y]; exact a
        · rw [z1, Bool.not_true, Bool.and_false] at ht
          have ef : fndL (fnd (canF D) (sa D 46) f) (canF D) one (r + 1) k q = fndL (fnd (canF D) (sa D 46) f) (canF D) one r (k + 1) q := by
            rw [fndL, z1]
            simp
          rw [ef]
          obtain ⟨m', e1, f1, r1⟩ := ihr (k + 1) q (some (.int (iShl (iI 1) (iI k)))) m (by omega) (by omega) hu hdp hs hF hH hb
          refine ⟨m', ?_, f1, r1⟩
          simp (disch := omega) only [ff, ↓reduceIte, not_false_eq_true, not_true_eq_false, and_self, and_true, true_and, false_and, and_false, or_true, true_or, or_false, false_or, or_self, reduceCtorEq, mm_q, Option.getD_some, cI_some, cJ_some, cV_some, cS_some, kd_sI, kd_sL, kd_sR, kd_cp, ln_sI, ln_sL, ln_sR, ln_cp, gR_sI, gR_sL, gR_sR, gR_cp, gL_sI, gL_sR, gL_cp, gI_sL, gI_sR, iI_add, iI_sub, iI_mul, iI_neg, iI_in, iI_tn, iI_lt, iI_eq, Nat.reduceLeDiff, Nat.reduceEqDiff, Nat.reduceAdd, Int.reduceEq, Int.reduceLT, Int.reduceLE, Int.reduceNeg, Int.reduceAdd, Int.reduceSub, Int.reduceMul, bI_t, bI_f, decide_true, decide_false, Bool.and_true, Bool.and_false, Bool.true_and, Bool.false_and, Bool.false_eq_true, Bool.and_self, Bool.not_true, Bool.not_false, Bool.true_or, Bool.false_or, Bool.or_true, Bool.or_false, hF.1, k1, ht, sg_8_90]
          exact e1
    have ff := shF hs
    have un := (unA_n (n := (sa D 46).toNat) (A := q.2)).1
    obtain ⟨m', e1, r1⟩ := loop (sa D 46).toNat 0 q none m (by omega) (by omega) hu hdp hs hF hH hb
    refine ⟨m', ?_, r1⟩
    rw [sg_8_0]
    simp (disch := omega) only [ff, ↓reduceIte, not_false_eq_true, not_true_eq_false, and_self, and_true, true_and, false_and, and_false, or_true, true_or, or_false, false_or, or_self, reduceCtorEq, mm_q, Option.getD_some, cI_some, cJ_some, cV_some, cS_some, kd_sI, kd_sL, kd_sR, kd_cp, ln_sI, ln_sL, ln_sR, ln_cp, gR_sI, gR_sL, gR_sR, gR_cp, gL_sI, gL_sR, gL_cp, gI_sL, gI_sR, iI_add, iI_sub, iI_mul, iI_neg, iI_in, iI_tn, iI_lt, iI_eq, Nat.reduceLeDiff, Nat.reduceEqDiff, Nat.reduceAdd, Int.reduceEq, Int.reduceLT, Int.reduceLE, Int.reduceNeg, Int.reduceAdd, Int.reduceSub, Int.reduceMul, hF.1, show ¬ sa D 46 < dp by omega]
    exact e1
end
