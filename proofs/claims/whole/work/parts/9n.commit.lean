/-- the street that was read becomes the street -/
def cmD (D X : Nat → Nat → Int32) : Nat → Nat → Int32 := fun a k => if a = 322 ∧ k < 100 then X 322 k else if a = 323 ∧ (k : Int) < cdX X then X 323 k else if a = 324 ∧ (k : Int) < cdX X then X 324 k else if a = 327 ∧ (k : Int) < rmX X then X 327 k else if a = 316 ∧ k = 18 then X 316 19 else D a k
def cmE (E : Nat → Nat → Int64) (X : Nat → Nat → Int32) (Y : Nat → Int64) : Nat → Nat → Int64 := fun a k => if a = 325 ∧ (k : Int) < rmX X then Y k else E a k
/-- and all begins -/
def bgD (D : Nat → Nat → Int32) : Nat → Nat → Int32 := fun a k => if a = 333 ∧ k < 4 then iI 0 else if a = 316 ∧ k = 26 then iI 0 else if a = 329 ∧ k = 0 then iI 0 else if a = 332 ∧ (k = 46 ∨ k = 25) then iI 0 else beginD D 0 a k
section
variable {D : Nat → Nat → Int32} {E : Nat → Nat → Int64} {m m' c c' c'' : mm_M} {d s L : Nat} {n N i f : Int} {T : TK} {X X' X'' : Nat → Nat → Int32} {Y : Nat → Int64}
theorem M163a (hs : Sh m) : ∀ (r j : Nat) (m1 : mm_M), j + r = 100 → Upd m m1 (fun a k => if a = 322 ∧ k < j then mm_gI m 322 (100 + k) else mm_gI m a k) → ∃ m', mm_ev d 163 185 [some (.ref 316), some (.int (iI ((j : Int))))] [] m1 = mm_ev d 163 214 [some (.ref 316), some (.int (iI 0))] [] m' ∧ Upd m m' (fun a k => if a = 322 ∧ k < 100 then mm_gI m 322 (100 + k) else mm_gI m a k)
  | 0, j, m1, hj, u => by
    refine ⟨m1, ?_, by rw [show j = 100 by omega] at u; exact u⟩
    rw [sg_163_185]
    simp (disch := omega) only [↓reduceIte, not_false_eq_true, not_true_eq_false, and_self, and_true, true_and, false_and, and_false, or_true, true_or, or_false, false_or, or_self, reduceCtorEq, mm_q, Option.getD_some, cI_some, cJ_some, cV_some, cS_some, kd_sI, kd_sL, kd_sR, kd_cp, ln_sI, ln_sL, ln_sR, ln_cp, gR_sI, gR_sL, gR_sR, gR_cp, gL_sI, gL_sR, gL_cp, gI_sL, gI_sR, iI_add, iI_sub, iI_mul, iI_neg, iI_in, iI_tn, iI_lt, iI_eq, Nat.reduceLeDiff, Nat.reduceEqDiff, Nat.reduceAdd, Int.reduceEq, Int.reduceLT, Int.reduceLE, Int.reduceNeg, Int.reduceAdd, Int.reduceSub, Int.reduceMul, show ¬ (j : Int) < 100 by omega]
  | r + 1, j, m1, hj, u => by
    have hs1 := u.sh hs
    have e1 : (100 + (j : Int)).toNat = 100 + j := by omega
    have e2 : ((j : Int)).toNat = j := by omega
    have g1 : mm_gI m1 322 (100 + j) = mm_gI m 322 (100 + j) := by rw [u.2.2.2.2]; dsimp only; rw [if_neg (by omega)]
    have u2 : Upd m (mm_sI m1 322 j (mm_gI m 322 (100 + j))) (fun a k => if a = 322 ∧ k < j + 1 then mm_gI m 322 (100 + k) else mm_gI m a k) := (u.tr Upd.sI).cg (fun a k => by
      unfold up
      rw [u.2.2.2.2]
      dsimp only
      by_cases y : a = 322 ∧ k = j
      · rw [if_pos y, if_pos (by omega), y.2]
      · rw [if_neg y]
        by_cases y2 : a = 322 ∧ k < j
        · rw [if_pos y2, if_pos (by omega)]
        · rw [if_neg y2, if_neg (by omega)])
    obtain ⟨m', e, u3⟩ := M163a hs r (j + 1) _ (by omega) u2
    refine ⟨m', ?_, u3⟩
    rw [show ((j + 1 : Nat) : Int) = (j : Int) + 1 by omega] at e
    rw [sg_163_185]
    simp (disch := omega) only [shM hs1, ↓reduceIte, not_false_eq_true, not_true_eq_false, and_self, and_true, true_and, false_and, and_false, or_true, true_or, or_false, false_or, or_self, reduceCtorEq, mm_q, Option.getD_some, cI_some, cJ_some, cV_some, cS_some, kd_sI, kd_sL, kd_sR, kd_cp, ln_sI, ln_sL, ln_sR, ln_cp, gR_sI, gR_sL, gR_sR, gR_cp, gL_sI, gL_sR, gL_cp, gI_sL, gI_sR, iI_add, iI_sub, iI_mul, iI_neg, iI_in, iI_tn, iI_lt, iI_eq, Nat.reduceLeDiff, Nat.reduceEqDiff, Nat.reduceAdd, Int.reduceEq, Int.reduceLT, Int.reduceLE, Int.reduceNeg, Int.reduceAdd, Int.reduceSub, Int.reduceMul, show (j : Int) < 100 by omega, e1, e2, g1]
    exact e
theorem M163b (hs : Sh m) {K : Nat} (hK : mm_gI m 316 13 = iI (K : Int)) (K1 : K ≤ 1000) : ∀ (r j : Nat) (m1 : mm_M), j + r = K → Upd m m1 (fun a k => if (a = 323 ∨ a = 324) ∧ k < j then mm_gI m a (1100 + k) else mm_gI m a k) → ∃ m', mm_ev d 163 214 [some (.ref 316), some (.int (iI ((j : Int))))] [] m1 = mm_ev d 163 262 [some (.ref 316), some (.int (iI 0))] [] m' ∧ Upd m m' (fun a k => if (a = 323 ∨ a = 324) ∧ k < K then mm_gI m a (1100 + k) else mm_gI m a k)
  | 0, j, m1, hj, u => by
    have hs1 := u.sh hs
    have hK1 : mm_gI m1 316 13 = iI (K : Int) := by rw [u.2.2.2.2]; dsimp only; rw [if_neg (by omega)]; exact hK
    refine ⟨m1, ?_, by rw [show j = K by omega] at u; exact u⟩
    rw [sg_163_214]
    simp (disch := omega) only [shM hs1, ↓reduceIte, not_false_eq_true, not_true_eq_false, and_self, and_true, true_and, false_and, and_false, or_true, true_or, or_false, false_or, or_self, reduceCtorEq, mm_q, Option.getD_some, cI_some, cJ_some, cV_some, cS_some, kd_sI, kd_sL, kd_sR, kd_cp, ln_sI, ln_sL, ln_sR, ln_cp, gR_sI, gR_sL, gR_sR, gR_cp, gL_sI, gL_sR, gL_cp, gI_sL, gI_sR, iI_add, iI_sub, iI_mul, iI_neg, iI_in, iI_tn, iI_lt, iI_eq, Nat.reduceLeDiff, Nat.reduceEqDiff, Nat.reduceAdd, Int.reduceEq, Int.reduceLT, Int.reduceLE, Int.reduceNeg, Int.reduceAdd, Int.reduceSub, Int.reduceMul, hK1, show ¬ (j : Int) < (K : Int) by omega]
  | r + 1, j, m1, hj, u => by
    have hs1 := u.sh hs
    have hK1 : mm_gI m1 316 13 = iI (K : Int) := by rw [u.2.2.2.2]; dsimp only; rw [if_neg (by omega)]; exact hK
    have e1 : (1100 + (j : Int)).toNat = 1100 + j := by omega
    have e2 : ((j : Int)).toNat = j := by omega
    have g1 : mm_gI m1 323 (1100 + j) = mm_gI m 323 (1100 + j) := by rw [u.2.2.2.2]; dsimp only; rw [if_neg (by omega)]
    have g2 : mm_gI (mm_sI m1 323 j (mm_gI m 323 (1100 + j))) 324 (1100 + j) = mm_gI m 324 (1100 + j) := by rw [gI_sI, if_neg (by omega), u.2.2.2.2]; dsimp only; rw [if_neg (by omega)]
    have u2 : Upd m (mm_sI (mm_sI m1 323 j (mm_gI m 323 (1100 + j))) 324 j (mm_gI m 324 (1100 + j))) (fun a k => if (a = 323 ∨ a = 324) ∧ k < j + 1 then mm_gI m a (1100 + k) else mm_gI m a k) := ((u.tr Upd.sI).tr Upd.sI).cg (fun a k => by
      unfold up
      rw [gI_sI, u.2.2.2.2]
      dsimp only
      by_cases y : a = 324 ∧ k = j
      · rw [if_pos y, if_pos (by omega), y.1, y.2]
      · rw [if_neg y]
        by_cases y1 : a = 323 ∧ k = j
        · rw [if_pos y1, if_pos (by omega), y1.1, y1.2]
        · rw [if_neg y1]
          by_cases y2 : (a = 323 ∨ a = 324) ∧ k < j
          · rw [if_pos y2, if_pos (by omega)]
          · rw [if_neg y2, if_neg (by omega)])
    obtain ⟨m', e, u3⟩ := M163b hs hK K1 r (j + 1) _ (by omega) u2
    refine ⟨m', ?_, u3⟩
    rw [show ((j + 1 : Nat) : Int) = (j : Int) + 1 by omega] at e
    rw [sg_163_214]
    have hs2 : Sh (mm_sI m1 323 j (mm_gI m 323 (1100 + j))) := hs1
    simp (disch := omega) only [shM hs1, shM hs2, ↓reduceIte, not_false_eq_true, not_true_eq_false, and_self, and_true, true_and, false_and, and_false, or_true, true_or, or_false, false_or, or_self, reduceCtorEq, mm_q, Option.getD_some, cI_some, cJ_some, cV_some, cS_some, kd_sI, kd_sL, kd_sR, kd_cp, ln_sI, ln_sL, ln_sR, ln_cp, gR_sI, gR_sL, gR_sR, gR_cp, gL_sI, gL_sR, gL_cp, gI_sL, gI_sR, iI_add, iI_sub, iI_mul, iI_neg, iI_in, iI_tn, iI_lt, iI_eq, Nat.reduceLeDiff, Nat.reduceEqDiff, Nat.reduceAdd, Int.reduceEq, Int.reduceLT, Int.reduceLE, Int.reduceNeg, Int.reduceAdd, Int.reduceSub, Int.reduceMul, hK1, show (j : Int) < (K : Int) by omega, e1, e2, g1, g2]
    exact e
theorem M163c (hs : Sh m) {K : Nat} (hK : mm_gI m 316 19 = iI (K : Int)) (K1 : K ≤ 14) (hd : 1 ≤ d) : ∀ (r j : Nat) (m1 : mm_M), j + r = K → (m1.1 = m.1 ∧ m1.2.1 = m.2.1 ∧ (∀ a k, mm_gR m1 a k = mm_gR m a k) ∧ (∀ a k, mm_gL m1 a k = if a = 325 ∧ k < j then mm_gL m 326 k else mm_gL m a k) ∧ (∀ a k, mm_gI m1 a k = if a = 327 ∧ k < j then mm_gI m 328 k else mm_gI m a k)) → ∃ m', mm_ev d 163 262 [some (.ref 316), some (.int (iI ((j : Int))))] [] m1 = mm_ev d 163 262 [some (.ref 316), some (.int (iI ((K : Int))))] [] m' ∧ (m'.1 = m.1 ∧ m'.2.1 = m.2.1 ∧ (∀ a k, mm_gR m' a k = mm_gR m a k) ∧ (∀ a k, mm_gL m' a k = if a = 325 ∧ k < K then mm_gL m 326 k else mm_gL m a k) ∧ (∀ a k, mm_gI m' a k = if a = 327 ∧ k < K then mm_gI m 328 k else mm_gI m a k))
  | 0, j, m1, hj, u => by
    rw [show j = K by omega] at u ⊢
    exact ⟨m1, rfl, u⟩
  | r + 1, j, m1, hj, u => by
    obtain ⟨u1, u2, u3, u4, u5⟩ := u
    have hs1 : Sh m1 := ⟨u1.trans hs.1, fun a k h1 h2 => (u3 a k).trans (hs.2 a k h1 h2)⟩
    have hK1 : mm_gI m1 316 19 = iI (K : Int) := by rw [u5, if_neg (by omega)]; exact hK
    have e2 : ((j : Int)).toNat = j := by omega
    have g1 : mm_gL m1 326 j = mm_gL m 326 j := by rw [u4, if_neg (by omega)]
    have g2 : mm_gI m1 328 j = mm_gI m 328 j := by rw [u5, if_neg (by omega)]
    obtain ⟨m', e, v⟩ := M163c hs hK K1 hd r (j + 1) (mm_sI (mm_sL m1 325 j (mm_gL m 326 j)) 327 j (mm_gI m 328 j)) (by omega) ⟨u1, u2, u3, fun a k => by
      rw [gL_sI, gL_sL, u4]
      by_cases y : a = 325 ∧ k = j
      · rw [if_pos y, if_pos (by omega), y.2]
      · rw [if_neg y]
        by_cases y2 : a = 325 ∧ k < j
        · rw [if_pos y2, if_pos (by omega)]
        · rw [if_neg y2, if_neg (by omega)], fun a k => by
      rw [gI_sI, gI_sL, u5]
      by_cases y : a = 327 ∧ k = j
      · rw [if_pos y, if_pos (by omega), y.2]
      · rw [if_neg y]
        by_cases y2 : a = 327 ∧ k < j
        · rw [if_pos y2, if_pos (by omega)]
        · rw [if_neg y2, if_neg (by omega)]⟩
    refine ⟨m', ?_, v⟩
    rw [show ((j + 1 : Nat) : Int) = (j : Int) + 1 by omega] at e
    rw [← e, sg_163_262 (by omega)]
    simp (disch := omega) only [shM hs1, ↓reduceIte, not_false_eq_true, not_true_eq_false, and_self, and_true, true_and, false_and, and_false, or_true, true_or, or_false, false_or, or_self, reduceCtorEq, mm_q, Option.getD_some, cI_some, cJ_some, cV_some, cS_some, kd_sI, kd_sL, kd_sR, kd_cp, ln_sI, ln_sL, ln_sR, ln_cp, gR_sI, gR_sL, gR_sR, gR_cp, gL_sI, gL_sR, gL_cp, gI_sL, gI_sR, iI_add, iI_sub, iI_mul, iI_neg, iI_in, iI_tn, iI_lt, iI_eq, Nat.reduceLeDiff, Nat.reduceEqDiff, Nat.reduceAdd, Int.reduceEq, Int.reduceLT, Int.reduceLE, Int.reduceNeg, Int.reduceAdd, Int.reduceSub, Int.reduceMul, gI_sL, hK1, show (j : Int) < (K : Int) by omega, e2, g1, g2]
/-- begins -/
theorem M160L (hs : Sh m) : ∀ (r j : Nat) (m1 : mm_M), j + r = 4 → Upd m m1 (fun a k => if a = 333 ∧ k < j then iI 0 else mm_gI m a k) → ∃ m', mm_ev d 160 35 [some (.ref 316), some (.int (iI ((j : Int))))] [] m1 = some (some none, m') ∧ Upd m m' (fun a k => if a = 333 ∧ k < 4 then iI 0 else mm_gI m a k)
  | 0, j, m1, hj, u => by
    refine ⟨m1, ?_, by rw [show j = 4 by omega] at u; exact u⟩
    rw [sg_160_35]
    simp (disch := omega) only [↓reduceIte, not_false_eq_true, not_true_eq_false, and_self, and_true, true_and, false_and, and_false, or_true, true_or, or_false, false_or, or_self, reduceCtorEq, mm_q, Option.getD_some, cI_some, cJ_some, cV_some, cS_some, kd_sI, kd_sL, kd_sR, kd_cp, ln_sI, ln_sL, ln_sR, ln_cp, gR_sI, gR_sL, gR_sR, gR_cp, gL_sI, gL_sR, gL_cp, gI_sL, gI_sR, iI_add, iI_sub, iI_mul, iI_neg, iI_in, iI_tn, iI_lt, iI_eq, Nat.reduceLeDiff, Nat.reduceEqDiff, Nat.reduceAdd, Int.reduceEq, Int.reduceLT, Int.reduceLE, Int.reduceNeg, Int.reduceAdd, Int.reduceSub, Int.reduceMul, show ¬ (j : Int) < 4 by omega]
  | r + 1, j, m1, hj, u => by
    have hs1 := u.sh hs
    have e2 : ((j : Int)).toNat = j := by omega
    have u2 : Upd m (mm_sI m1 333 j (iI 0)) (fun a k => if a = 333 ∧ k < j + 1 then iI 0 else mm_gI m a k) := (u.tr Upd.sI).cg (fun a k => by
      unfold up
      rw [u.2.2.2.2]
      dsimp only
      by_cases y : a = 333 ∧ k = j
      · rw [if_pos y, if_pos (by omega)]
      · rw [if_neg y]
        by_cases y2 : a = 333 ∧ k < j
        · rw [if_pos y2, if_pos (by omega)]
        · rw [if_neg y2, if_neg (by omega)])
    obtain ⟨m', e, u3⟩ := M160L hs r (j + 1) _ (by omega) u2
    refine ⟨m', ?_, u3⟩
    rw [show ((j + 1 : Nat) : Int) = (j : Int) + 1 by omega] at e
    rw [sg_160_35]
    simp (disch := omega) only [shM hs1, ↓reduceIte, not_false_eq_true, not_true_eq_false, and_self, and_true, true_and, false_and, and_false, or_true, true_or, or_false, false_or, or_self, reduceCtorEq, mm_q, Option.getD_some, cI_some, cJ_some, cV_some, cS_some, kd_sI, kd_sL, kd_sR, kd_cp, ln_sI, ln_sL, ln_sR, ln_cp, gR_sI, gR_sL, gR_sR, gR_cp, gL_sI, gL_sR, gL_cp, gI_sL, gI_sR, iI_add, iI_sub, iI_mul, iI_neg, iI_in, iI_tn, iI_lt, iI_eq, Nat.reduceLeDiff, Nat.reduceEqDiff, Nat.reduceAdd, Int.reduceEq, Int.reduceLT, Int.reduceLE, Int.reduceNeg, Int.reduceAdd, Int.reduceSub, Int.reduceMul, show (j : Int) < 4 by omega, e2, nar0]
    exact e
theorem M160 (hs : Sh m) (hd : 2 ≤ d) : ∃ m', mm_ev d 160 0 [some (.ref 316), none] [] m = some (some none, m') ∧ Upd m m' (bgD (mm_gI m)) := by
  obtain ⟨m1, e1, u1⟩ := M161 (d := d - 1) (b := 0) hs (by omega) (by omega)
  have hs1 := u1.sh hs
  have u2 := (((u1.tr (Upd.sI (a := 332) (k := 25) (v := iI 0))).tr (Upd.sI (a := 332) (k := 46) (v := iI 0))).tr (Upd.sI (a := 329) (k := 0) (v := iI 0))).tr (Upd.sI (a := 316) (k := 26) (v := iI 0))
  have hs2 := u2.sh hs
  obtain ⟨m2, e2, u3⟩ := M160L (d := d) hs2 4 0 _ (by omega) (Upd.rf.cg (fun a k => by rw [if_neg (by omega)]))
  refine ⟨m2, ?_, (u2.tr u3).cg (fun a k => ?_)⟩
  · have e1' : mm_ev (d - 1) 161 0 [some (.ref 316), some (.int (iI 0)), none] [] m = some (some none, m1) := e1
    rw [sg_160_0 (by omega)]
    simp (disch := omega) only [shM hs, ↓reduceIte, not_false_eq_true, not_true_eq_false, and_self, and_true, true_and, false_and, and_false, or_true, true_or, or_false, false_or, or_self, reduceCtorEq, mm_q, Option.getD_some, cI_some, cJ_some, cV_some, cS_some, kd_sI, kd_sL, kd_sR, kd_cp, ln_sI, ln_sL, ln_sR, ln_cp, gR_sI, gR_sL, gR_sR, gR_cp, gL_sI, gL_sR, gL_cp, gI_sL, gI_sR, iI_add, iI_sub, iI_mul, iI_neg, iI_in, iI_tn, iI_lt, iI_eq, Nat.reduceLeDiff, Nat.reduceEqDiff, Nat.reduceAdd, Int.reduceEq, Int.reduceLT, Int.reduceLE, Int.reduceNeg, Int.reduceAdd, Int.reduceSub, Int.reduceMul, e1']
    rw [sg_160_5]
    simp (disch := omega) only [shM hs1, ↓reduceIte, not_false_eq_true, not_true_eq_false, and_self, and_true, true_and, false_and, and_false, or_true, true_or, or_false, false_or, or_self, reduceCtorEq, mm_q, Option.getD_some, cI_some, cJ_some, cV_some, cS_some, kd_sI, kd_sL, kd_sR, kd_cp, ln_sI, ln_sL, ln_sR, ln_cp, gR_sI, gR_sL, gR_sR, gR_cp, gL_sI, gL_sR, gL_cp, gI_sL, gI_sR, iI_add, iI_sub, iI_mul, iI_neg, iI_in, iI_tn, iI_lt, iI_eq, Nat.reduceLeDiff, Nat.reduceEqDiff, Nat.reduceAdd, Int.reduceEq, Int.reduceLT, Int.reduceLE, Int.reduceNeg, Int.reduceAdd, Int.reduceSub, Int.reduceMul]
    exact e2
  · unfold bgD
    by_cases y : a = 333 ∧ k < 4
    · rw [if_pos y, if_pos y]
    · rw [if_neg y, if_neg y, u2.2.2.2.2]
      unfold up
      by_cases y1 : a = 316 ∧ k = 26
      · rw [if_pos y1, if_pos y1]
      · rw [if_neg y1, if_neg y1, gI_sI]
        by_cases y2 : a = 329 ∧ k = 0
        · rw [if_pos y2, if_pos y2]
        · rw [if_neg y2, if_neg y2, gI_sI]
          by_cases y3 : a = 332 ∧ k = 46
          · rw [if_pos y3, if_pos (by omega)]
          · rw [if_neg y3, gI_sI]
            by_cases y4 : a = 332 ∧ k = 25
            · rw [if_pos y4, if_pos (by omega)]
            · rw [if_neg y4, if_neg (by omega), u1.2.2.2.2]
theorem bg_c {F G : Nat → Nat → Int32} (h : ∀ a k, pmI a k = true → F a k = G a k) : ∀ a k, pmI a k = true → bgD F a k = bgD G a k := fun a k p => by
  unfold bgD
  by_cases y : a = 333 ∧ k < 4
  · rw [if_pos y, if_pos y]
  · rw [if_neg y, if_neg y]
    by_cases y1 : a = 316 ∧ k = 26
    · rw [if_pos y1, if_pos y1]
    · rw [if_neg y1, if_neg y1]
      by_cases y2 : a = 329 ∧ k = 0
      · rw [if_pos y2, if_pos y2]
      · rw [if_neg y2, if_neg y2]
        by_cases y3 : a = 332 ∧ (k = 46 ∨ k = 25)
        · rw [if_pos y3, if_pos y3]
        · rw [if_neg y3, if_neg y3]
          unfold beginD
          have p322 : ∀ j, j < 100 → pmI 322 j = true := fun j hj => by
            have : Nat.blt j 100 = true := by rw [Nat.blt_eq]; exact hj
            unfold pmI
            rw [this]
            rfl
          split
          · rfl
          · split
            · exact h 322 _ (p322 _ (by omega))
            · split
              · exact h 322 _ (p322 _ (by omega))
              · split
                · rfl
                · exact h a k p
/-- the street that was read becomes the street: the model -/
theorem M163k (hP : PF D E T N i 0 m) (hM : DM X Y m) {j : Int} (hX : LX X j) (hi : j ≤ 1000) (hd : 4 ≤ d) : ∃ m', mm_ev d 163 171 [some (.ref 316), none] [] m = some (some (some (.int (iI 0))), m') ∧ MD (bgD (cmD D X)) (cmE E X Y) m' ∧ Fr scA m m' := by
  have hs := hP.1.1
  obtain ⟨cd0, cd1⟩ := hX.2.2.2.1
  have b5 := hX.1.2.2.2.2.1
  have b6 := hX.1.2.2.2.2.2.1
  have hr := hX.2.2.2.2.2.2
  obtain ⟨m1, e1, u1⟩ := M163a (d := d) hs 100 0 m (by omega) (Upd.rf.cg (fun a k => by rw [if_neg (by omega)]))
  have hs1 := u1.sh hs
  have hK : mm_gI m1 316 13 = iI ((cdX X).toNat : Int) := by
    rw [u1.2.2.2.2]; dsimp only; rw [if_neg (by omega), hM.2.1.1, show (((cdX X).toNat : Nat) : Int) = cdX X by omega]; unfold cdX; rw [iI_toInt]
  obtain ⟨m2, e2, u2⟩ := M163b (d := d) hs1 hK (by omega) (cdX X).toNat 0 m1 (by omega) (Upd.rf.cg (fun a k => by rw [if_neg (by omega)]))
  have hs2 := u2.sh hs1
  have gi2 : ∀ a k, ¬ a = 322 → ¬ a = 323 → ¬ a = 324 → mm_gI m2 a k = mm_gI m a k := fun a k q1 q2 q3 => by
    rw [u2.2.2.2.2]; dsimp only; rw [if_neg (by omega), u1.2.2.2.2]; dsimp only; rw [if_neg (by omega)]
  have hR : mm_gI m2 316 19 = iI ((rmX X).toNat : Int) := by
    rw [gi2 _ _ (by omega) (by omega) (by omega), hM.2.1.2.1, show (((rmX X).toNat : Nat) : Int) = rmX X by omega]; unfold rmX; rw [iI_toInt]
  obtain ⟨m3, e3, v1, v2, v3, v4, v5⟩ := M163c (d := d) hs2 hR (by omega) (by omega) (rmX X).toNat 0 m2 (by omega) ⟨rfl, rfl, fun _ _ => rfl, fun a k => by rw [if_neg (by omega)], fun a k => by rw [if_neg (by omega)]⟩
  have hs3 : Sh m3 := ⟨v1.trans hs2.1, fun a k h1 h2 => (v3 a k).trans (hs2.2 a k h1 h2)⟩
  have g19 : mm_gI m3 316 19 = iI ((rmX X).toNat : Int) := by rw [v5, if_neg (by omega)]; exact hR
  obtain ⟨m4, e4, u4⟩ := M160 (d := d - 1) (m := mm_sI m3 316 18 (iI ((rmX X).toNat : Int))) hs3 (by omega)
  have hs4 : Sh m4 := u4.sh hs3
  have key : ∀ a k, pmI a k = true → mm_gI (mm_sI m3 316 18 (iI ((rmX X).toNat : Int))) a k = cmD D X a k := fun a k p => by
    unfold cmD
    rw [gI_sI]
    by_cases y0 : a = 316 ∧ k = 18
    · rw [if_pos y0, if_neg (by omega), if_neg (by omega), if_neg (by omega), if_neg (by omega), if_pos y0, show (((rmX X).toNat : Nat) : Int) = rmX X by omega]
      unfold rmX
      rw [iI_toInt]
    · rw [if_neg y0, v5]
      by_cases y1 : a = 322 ∧ k < 100
      · rw [if_pos y1, if_neg (by omega), u2.2.2.2.2]; dsimp only; rw [if_neg (by omega), u1.2.2.2.2]; dsimp only; rw [if_pos y1]
        exact hM.1 k y1.2
      · rw [if_neg y1]
        by_cases y2 : a = 323 ∧ (k : Int) < cdX X
        · rw [if_pos y2, if_neg (by omega), u2.2.2.2.2]; dsimp only; rw [if_pos (by omega), u1.2.2.2.2]; dsimp only; rw [if_neg (by omega), y2.1]
          exact (hM.2.2.1 k y2.2).1
        · rw [if_neg y2]
          by_cases y3 : a = 324 ∧ (k : Int) < cdX X
          · rw [if_pos y3, if_neg (by omega), u2.2.2.2.2]; dsimp only; rw [if_pos (by omega), u1.2.2.2.2]; dsimp only; rw [if_neg (by omega), y3.1]
            exact (hM.2.2.1 k y3.2).2
          · rw [if_neg y3]
            by_cases y4 : a = 327 ∧ (k : Int) < rmX X
            · rw [if_pos y4, if_pos (by omega), gi2 _ _ (by omega) (by omega) (by omega)]
              exact (hM.2.2.2 k y4.2).2
            · rw [if_neg y4, if_neg (by omega), if_neg y0, u2.2.2.2.2]; dsimp only; rw [if_neg (by omega), u1.2.2.2.2]; dsimp only; rw [if_neg y1]
              exact hP.1.2.1 a k p
  refine ⟨m4, ?_, ⟨hs4, fun a k p => (u4.2.2.2.2 a k).trans (bg_c key a k p), fun a k p => ?_⟩, ?_⟩
  · have e0 : mm_ev d 163 185 [some (.ref 316), some (.int (iI 0))] [] m = mm_ev d 163 214 [some (.ref 316), some (.int (iI 0))] [] m1 := e1
    have e0' : mm_ev d 163 214 [some (.ref 316), some (.int (iI 0))] [] m1 = mm_ev d 163 262 [some (.ref 316), some (.int (iI 0))] [] m2 := e2
    have e0'' : mm_ev d 163 262 [some (.ref 316), some (.int (iI 0))] [] m2 = mm_ev d 163 262 [some (.ref 316), some (.int (iI (((rmX X).toNat : Int))))] [] m3 := e3
    rw [sg_163_171]
    simp (disch := omega) only [shM hs, ↓reduceIte, not_false_eq_true, not_true_eq_false, and_self, and_true, true_and, false_and, and_false, or_true, true_or, or_false, false_or, or_self, reduceCtorEq, mm_q, Option.getD_some, cI_some, cJ_some, cV_some, cS_some, kd_sI, kd_sL, kd_sR, kd_cp, ln_sI, ln_sL, ln_sR, ln_cp, gR_sI, gR_sL, gR_sR, gR_cp, gL_sI, gL_sR, gL_cp, gI_sL, gI_sR, iI_add, iI_sub, iI_mul, iI_neg, iI_in, iI_tn, iI_lt, iI_eq, Nat.reduceLeDiff, Nat.reduceEqDiff, Nat.reduceAdd, Int.reduceEq, Int.reduceLT, Int.reduceLE, Int.reduceNeg, Int.reduceAdd, Int.reduceSub, Int.reduceMul, hP.2.2.2.1]
    rw [e0, e0', e0'', sg_163_262 (by omega)]
    simp (disch := omega) only [shM hs3, ↓reduceIte, not_false_eq_true, not_true_eq_false, and_self, and_true, true_and, false_and, and_false, or_true, true_or, or_false, false_or, or_self, reduceCtorEq, mm_q, Option.getD_some, cI_some, cJ_some, cV_some, cS_some, kd_sI, kd_sL, kd_sR, kd_cp, ln_sI, ln_sL, ln_sR, ln_cp, gR_sI, gR_sL, gR_sR, gR_cp, gL_sI, gL_sR, gL_cp, gI_sL, gI_sR, iI_add, iI_sub, iI_mul, iI_neg, iI_in, iI_tn, iI_lt, iI_eq, Nat.reduceLeDiff, Nat.reduceEqDiff, Nat.reduceAdd, Int.reduceEq, Int.reduceLT, Int.reduceLE, Int.reduceNeg, Int.reduceAdd, Int.reduceSub, Int.reduceMul, g19, Int.lt_irrefl, e4]
  · rw [u4.2.2.2.1, gL_sI, v4]
    unfold cmE
    by_cases y : a = 325 ∧ (k : Int) < rmX X
    · rw [if_pos y, if_pos (by omega), u2.2.2.2.1, u1.2.2.2.1]
      exact (hM.2.2.2 k y.2).1
    · rw [if_neg y, if_neg (by omega), u2.2.2.2.1, u1.2.2.2.1]
      exact hP.1.2.2 a k p
  · have fA : ∀ a k, scA a k = false → ¬ (316 ≤ a ∧ a ≤ 342) := fun a k q r => by
      unfold scA at q
      rw [Nat.ble_eq.mpr r.1, Nat.ble_eq.mpr r.2] at q
      cases q
    refine ⟨u4.1.trans (v1.trans (u2.1.trans u1.1)), u4.2.1.trans (v2.trans (u2.2.1.trans u1.2.1)), fun a k => (u4.2.2.1 a k).trans ((v3 a k).trans ((u2.2.2.1 a k).trans (u1.2.2.1 a k))), fun a k q => ?_⟩
    have na := fA a k q
    constructor
    · rw [u4.2.2.2.2]
      unfold bgD beginD
      rw [if_neg (by omega), if_neg (by omega), if_neg (by omega), if_neg (by omega), if_neg (by omega), if_neg (by omega), if_neg (by omega), if_neg (by omega), gI_sI, if_neg (by omega), v5, if_neg (by omega)]
      exact gi2 a k (by omega) (by omega) (by omega)
    · rw [u4.2.2.2.1, gL_sI, v4, if_neg (by omega), u2.2.2.2.1, u1.2.2.2.1]
end
