theorem hsN : ∀ H ∈ hsL, scW 172 (H + 1) 0 = false ∧ scW 172 (H + 2) 0 = false ∧ scW 172 (H + 3) 0 = false ∧ scW 178 (H + 1) 0 = false ∧ scW 178 (H + 2) 0 = false ∧ scW 178 (H + 3) 0 = false ∧ scW 172 H 0 = false ∧ scW 178 H 0 = false := by decide
section
variable {D : Nat → Nat → Int32} {m m' m'' : mm_M} {d s W L H n : Nat} {B : Int → Int} {take : Int} {late : Bool}
theorem HD.fw (h : HD D m H B) (hH : H ∈ hsL) (hW : isW W) (f : FW W m m') : HD D m' H B := fun w w0 w1 => by
  obtain ⟨a, b, c⟩ := h w w0 w1
  obtain ⟨n1, n2, n3, n4, n5, n6, -⟩ := hsN H hH
  rcases hW with rfl | rfl
  · exact ⟨(f.2.2.2.1 _ w.toNat n1).trans a, (f.2.2.2.1 _ w.toNat n2).trans b, (f.2.2.2.1 _ w.toNat n3).trans c⟩
  · exact ⟨(f.2.2.2.1 _ w.toNat n4).trans a, (f.2.2.2.1 _ w.toNat n5).trans b, (f.2.2.2.1 _ w.toNat n6).trans c⟩
theorem RSt.fw (h : RSt D m s) (hs : isSt s) (hW : isW W) (f : FW W m m') (k8 : st D 6 ≤ 8) : RSt D m' s := h.cg (fun a k h0 h1 h2 h3 => f.2.2.2.1 a k (by
  have g : s = 104 ∨ s = 125 := hs
  have g2 : W = 172 ∨ W = 178 := hW
  exact scW_e (by omega) (by omega) (by omega) (by omega) (scK_n (by omega) (by omega) (by omega) (by omega)))) k8
/-- Walks.set's loop -/
theorem C85L (hs : Sh m) (hst : isSt s) (hW : isW W) (hH : H ∈ hsL) (hR : RSt D m s) (hh : HD D m H B) (hI : InvS D) (hL : InvL D) (hd : 3 ≤ d) : ∀ (k : Nat) (w : Int) (m1 : mm_M), w = st D 6 - k → 0 ≤ w → FW W m m1 → mm_gR m1 W 4 = some s → (∀ j, 0 ≤ j → j < w → mm_gI m1 (W + 1) j.toNat = iI (B (1 + j)) ∧ mm_gI m1 (W + 2) j.toNat = iI (B (9 + j)) ∧ mm_gI m1 (W + 3) j.toNat = iI (cueS D j + wk D j 5 + if late = true then B (17 + j) else 0) ∧ mm_gI m1 (W + 5) j.toNat = iI (tempoS D j take)) → ∃ m', mm_ev d 85 8 [some (.ref W), some (.ref s), some (.ref H), some (.int (iI (take))), some (.int (iI (bI late))), some (.int (iI (w)))] [] m1 = some (some none, m') ∧ FW W m m' ∧ RW D m' s W B take late
  | 0, w, m1, hk, w0, f, hg, hj => by
    obtain ⟨k0, k1⟩ := hI.2.2.2.2.2.1
    have hs1 := f.sh hW hs
    have wf := wF hs1 hW
    have sf := stF hs1 hst
    have h10 := (hR.fw hst hW f k1).1.2.2.2.2.2.2.2.1
    refine ⟨m1, ?_, f, hg, fun j j0 j1 => hj j j0 (by omega)⟩
    rw [sg_85_8 (by omega)]
    simp (disch := omega) only [wf, sf, hg, ↓reduceIte, not_false_eq_true, not_true_eq_false, and_self, and_true, true_and, false_and, and_false, or_true, true_or, or_false, false_or, or_self, reduceCtorEq, mm_q, Option.getD_some, cI_some, cJ_some, cV_some, cS_some, kd_sI, kd_sL, kd_sR, kd_cp, ln_sI, ln_sL, ln_sR, ln_cp, gR_sI, gR_sL, gR_sR, gR_cp, gL_sI, gL_sR, gL_cp, gI_sL, gI_sR, iI_add, iI_sub, iI_mul, iI_neg, iI_in, iI_tn, iI_lt, iI_eq, Nat.reduceLeDiff, Nat.reduceEqDiff, Nat.reduceAdd, Int.reduceEq, Int.reduceLT, Int.reduceLE, Int.reduceNeg, Int.reduceAdd, Int.reduceSub, Int.reduceMul, h10, show ¬ w < st D 6 by omega]
  | k + 1, w, m1, hk, w0, f, hg, hj => by
    obtain ⟨k0, k1⟩ := hI.2.2.2.2.2.1
    have g2 : W = 172 ∨ W = 178 := hW
    have w1 : w < st D 6 := by omega
    have hs1 := f.sh hW hs
    have wf := wF hs1 hW
    have sf := stF hs1 hst
    have hf := hF hs1 hH
    have hR1 := hR.fw hst hW f k1
    have h10 := hR1.1.2.2.2.2.2.2.2.1
    have hh1 := hh.fw hH hW f
    obtain ⟨b1, b2, b3⟩ := hh1 w w0 w1
    have f2 : FW W m (mm_sI m1 (W + 1) w.toNat (iI (B (1 + w)))) := f.tr (FW.sI (Or.inl rfl))
    have f3 : FW W m (mm_sI (mm_sI m1 (W + 1) w.toNat (iI (B (1 + w)))) (W + 2) w.toNat (iI (B (9 + w)))) := f2.tr (FW.sI (Or.inr (Or.inl rfl)))
    have hs3 := f3.sh hW hs
    have hR3 := hR.fw hst hW f3 k1
    obtain ⟨m4, e4, g4⟩ := C70 (d := d - 1) hs3 hst hR3 hI hL (by omega) (take := take) w0 w1
    have f4 : FW W m m4 := f3.tr (FW.K g4)
    have hs4 := f4.sh hW hs
    have f5 : FW W m (mm_sI m4 (W + 5) w.toNat (iI (tempoS D w take))) := f4.tr (FW.sI (Or.inr (Or.inr (Or.inr rfl))))
    have hs5 := f5.sh hW hs
    have hR5 := hR.fw hst hW f5 k1
    have hh5 := hh.fw hH hW f5
    obtain ⟨-, -, b35⟩ := hh5 w w0 w1
    have f6 : FW W m (mm_sI (mm_sI m4 (W + 5) w.toNat (iI (tempoS D w take))) (W + 3) w.toNat (iI (cueS D w + wk D w 5 + if late = true then B (17 + w) else 0))) := f5.tr (FW.sI (Or.inr (Or.inr (Or.inl rfl))))
    have hg4 : mm_gR m4 W 4 = some s := (g4.2.2.1 _ _).trans hg
    have kn : ∀ (a q : Nat), W + 1 ≤ a → a ≤ W + 5 → scK a q = false := fun a q h0 h1 => scK_n (by omega) (by omega) (by omega) (by omega)
    obtain ⟨m', e7, f7, r7⟩ := C85L hs hst hW hH hR hh hI hL hd k (w + 1) _ (by omega) (by omega) f6 (show mm_gR m4 W 4 = some s from hg4) (fun j j0 j1 => by
      rw [gI_sI, gI_sI, gI_sI, gI_sI, gI_sI, gI_sI, gI_sI, gI_sI]
      rw [if_neg (show ¬ (W + 1 = W + 3 ∧ j.toNat = w.toNat) by omega), if_neg (show ¬ (W + 1 = W + 5 ∧ j.toNat = w.toNat) by omega), if_neg (show ¬ (W + 2 = W + 3 ∧ j.toNat = w.toNat) by omega), if_neg (show ¬ (W + 2 = W + 5 ∧ j.toNat = w.toNat) by omega), if_neg (show ¬ (W + 3 = W + 5 ∧ j.toNat = w.toNat) by omega), if_neg (show ¬ (W + 5 = W + 3 ∧ j.toNat = w.toNat) by omega)]
      rw [g4.gI (kn _ _ (by omega) (by omega)), g4.gI (kn _ _ (by omega) (by omega)), g4.gI (kn _ _ (by omega) (by omega)), g4.gI (kn _ _ (by omega) (by omega))]
      rw [gI_sI, gI_sI, gI_sI, gI_sI, gI_sI, gI_sI, gI_sI, gI_sI]
      rw [if_neg (show ¬ (W + 1 = W + 2 ∧ j.toNat = w.toNat) by omega), if_neg (show ¬ (W + 2 = W + 1 ∧ j.toNat = w.toNat) by omega), if_neg (show ¬ (W + 3 = W + 2 ∧ j.toNat = w.toNat) by omega), if_neg (show ¬ (W + 3 = W + 1 ∧ j.toNat = w.toNat) by omega), if_neg (show ¬ (W + 5 = W + 2 ∧ j.toNat = w.toNat) by omega), if_neg (show ¬ (W + 5 = W + 1 ∧ j.toNat = w.toNat) by omega)]
      by_cases y : j = w
      · rw [y]
        simp only [and_self, if_true]
      · have y2 : ¬ j.toNat = w.toNat := by omega
        simp only [y2, and_false, if_false]
        exact hj j j0 (by omega))
    refine ⟨m', ?_, f7, r7⟩
    rw [← e7, sg_85_8 (by omega)]
    simp (disch := omega) only [wf, sf, hf, hg, ↓reduceIte, not_false_eq_true, not_true_eq_false, and_self, and_true, true_and, false_and, and_false, or_true, true_or, or_false, false_or, or_self, reduceCtorEq, mm_q, Option.getD_some, cI_some, cJ_some, cV_some, cS_some, kd_sI, kd_sL, kd_sR, kd_cp, ln_sI, ln_sL, ln_sR, ln_cp, gR_sI, gR_sL, gR_sR, gR_cp, gL_sI, gL_sR, gL_cp, gI_sL, gI_sR, iI_add, iI_sub, iI_mul, iI_neg, iI_in, iI_tn, iI_lt, iI_eq, Nat.reduceLeDiff, Nat.reduceEqDiff, Nat.reduceAdd, Int.reduceEq, Int.reduceLT, Int.reduceLE, Int.reduceNeg, Int.reduceAdd, Int.reduceSub, Int.reduceMul, h10, w1, b1, gI_sI, show ¬ H + 2 = W + 1 by rcases hsN H hH with ⟨-, n2, -, -, n5, -⟩; rintro h; rcases hW with rfl | rfl; rw [h] at n2; exact absurd n2 (by decide); rw [h] at n5; exact absurd n5 (by decide), b2, e4]
    rw [sg_85_64 (by omega)]
    have wf4 := wF hs4 hW
    have sf4 := stF hs4 hst
    have hf4 := hF hs4 hH
    simp (disch := omega) only [wf4, sf4, hf4, hg4, ↓reduceIte, not_false_eq_true, not_true_eq_false, and_self, and_true, true_and, false_and, and_false, or_true, true_or, or_false, false_or, or_self, reduceCtorEq, mm_q, Option.getD_some, cI_some, cJ_some, cV_some, cS_some, kd_sI, kd_sL, kd_sR, kd_cp, ln_sI, ln_sL, ln_sR, ln_cp, gR_sI, gR_sL, gR_sR, gR_cp, gL_sI, gL_sR, gL_cp, gI_sL, gI_sR, iI_add, iI_sub, iI_mul, iI_neg, iI_in, iI_tn, iI_lt, iI_eq, Nat.reduceLeDiff, Nat.reduceEqDiff, Nat.reduceAdd, Int.reduceEq, Int.reduceLT, Int.reduceLE, Int.reduceNeg, Int.reduceAdd, Int.reduceSub, Int.reduceMul, C71 hs5 hst hR5 hI]
    cases late
    · simp (disch := omega) only [↓reduceIte, not_false_eq_true, not_true_eq_false, and_self, and_true, true_and, false_and, and_false, or_true, true_or, or_false, false_or, or_self, reduceCtorEq, mm_q, Option.getD_some, cI_some, cJ_some, cV_some, cS_some, kd_sI, kd_sL, kd_sR, kd_cp, ln_sI, ln_sL, ln_sR, ln_cp, gR_sI, gR_sL, gR_sR, gR_cp, gL_sI, gL_sR, gL_cp, gI_sL, gI_sR, iI_add, iI_sub, iI_mul, iI_neg, iI_in, iI_tn, iI_lt, iI_eq, Nat.reduceLeDiff, Nat.reduceEqDiff, Nat.reduceAdd, Int.reduceEq, Int.reduceLT, Int.reduceLE, Int.reduceNeg, Int.reduceAdd, Int.reduceSub, Int.reduceMul, bI_t, bI_f, decide_true, decide_false, Bool.and_true, Bool.and_false, Bool.true_and, Bool.false_and, Bool.false_eq_true, Bool.and_self, Bool.not_true, Bool.not_false, Bool.true_or, Bool.false_or, Bool.or_true, Bool.or_false]
      rw [sg_85_96]
      simp (disch := omega) only [wf4, ↓reduceIte, not_false_eq_true, not_true_eq_false, and_self, and_true, true_and, false_and, and_false, or_true, true_or, or_false, false_or, or_self, reduceCtorEq, mm_q, Option.getD_some, cI_some, cJ_some, cV_some, cS_some, kd_sI, kd_sL, kd_sR, kd_cp, ln_sI, ln_sL, ln_sR, ln_cp, gR_sI, gR_sL, gR_sR, gR_cp, gL_sI, gL_sR, gL_cp, gI_sL, gI_sR, iI_add, iI_sub, iI_mul, iI_neg, iI_in, iI_tn, iI_lt, iI_eq, Nat.reduceLeDiff, Nat.reduceEqDiff, Nat.reduceAdd, Int.reduceEq, Int.reduceLT, Int.reduceLE, Int.reduceNeg, Int.reduceAdd, Int.reduceSub, Int.reduceMul]
    · simp (disch := omega) only [wf4, sf4, hf4, hg4, ↓reduceIte, not_false_eq_true, not_true_eq_false, and_self, and_true, true_and, false_and, and_false, or_true, true_or, or_false, false_or, or_self, reduceCtorEq, mm_q, Option.getD_some, cI_some, cJ_some, cV_some, cS_some, kd_sI, kd_sL, kd_sR, kd_cp, ln_sI, ln_sL, ln_sR, ln_cp, gR_sI, gR_sL, gR_sR, gR_cp, gL_sI, gL_sR, gL_cp, gI_sL, gI_sR, iI_add, iI_sub, iI_mul, iI_neg, iI_in, iI_tn, iI_lt, iI_eq, Nat.reduceLeDiff, Nat.reduceEqDiff, Nat.reduceAdd, Int.reduceEq, Int.reduceLT, Int.reduceLE, Int.reduceNeg, Int.reduceAdd, Int.reduceSub, Int.reduceMul, bI_t, bI_f, decide_true, decide_false, Bool.and_true, Bool.and_false, Bool.true_and, Bool.false_and, Bool.false_eq_true, Bool.and_self, Bool.not_true, Bool.not_false, Bool.true_or, Bool.false_or, Bool.or_true, Bool.or_false, b35]
      rw [sg_85_96]
      simp (disch := omega) only [wf4, ↓reduceIte, not_false_eq_true, not_true_eq_false, and_self, and_true, true_and, false_and, and_false, or_true, true_or, or_false, false_or, or_self, reduceCtorEq, mm_q, Option.getD_some, cI_some, cJ_some, cV_some, cS_some, kd_sI, kd_sL, kd_sR, kd_cp, ln_sI, ln_sL, ln_sR, ln_cp, gR_sI, gR_sL, gR_sR, gR_cp, gL_sI, gL_sR, gL_cp, gI_sL, gI_sR, iI_add, iI_sub, iI_mul, iI_neg, iI_in, iI_tn, iI_lt, iI_eq, Nat.reduceLeDiff, Nat.reduceEqDiff, Nat.reduceAdd, Int.reduceEq, Int.reduceLT, Int.reduceLE, Int.reduceNeg, Int.reduceAdd, Int.reduceSub, Int.reduceMul]
theorem C85 (hs : Sh m) (hst : isSt s) (hW : isW W) (hH : H ∈ hsL) (hR : RSt D m s) (hh : HD D m H B) (hI : InvS D) (hL : InvL D) (hd : 3 ≤ d) : ∃ m', mm_ev d 85 0 [some (.ref W), some (.ref s), some (.ref H), some (.int (iI (take))), some (.int (iI (bI late))), none] [] m = some (some none, m') ∧ FW W m m' ∧ RW D m' s W B take late := by
  obtain ⟨k0, k1⟩ := hI.2.2.2.2.2.1
  have wf := wF hs hW
  have f1 : FW W m (mm_sR m W 4 (some s)) := ⟨rfl, rfl, fun a k z => by rw [gR_sR, if_neg z], fun _ _ _ => rfl, fun _ _ _ => rfl⟩
  obtain ⟨m', e, r⟩ := C85L (d := d) (take := take) (late := late) hs hst hW hH hR hh hI hL hd (st D 6).toNat 0 (mm_sR m W 4 (some s)) (by omega) (by omega) f1 (by rw [gR_sR, if_pos ⟨rfl, rfl⟩]) (fun j j0 j1 => by omega)
  refine ⟨m', ?_, r⟩
  rw [sg_85_0]
  simp (disch := omega) only [wf, ↓reduceIte, not_false_eq_true, not_true_eq_false, and_self, and_true, true_and, reduceCtorEq, mm_q, Option.getD_some, cI_some, cJ_some, cV_some, cS_some, Nat.reduceLeDiff, Nat.reduceEqDiff]
  exact e
end
/-- what the class's queries rest on -/
def RQ (D : Nat → Nat → Int32) (m : mm_M) (s : Nat) : Prop := Sh m ∧ isSt s ∧ mm_gR m 100 1 = some s ∧ RSt D m s ∧ RW D m s 172 (sa D) (sa D 0) true ∧ HD D m 155 (sa D) ∧ mm_gI m 155 0 = iI (sa D 0)
section
variable {D : Nat → Nat → Int32} {m m' m'' : mm_M} {d s W L H n : Nat} {B : Int → Int} {take : Int} {late : Bool}
theorem RQ.fc (h : RQ D m s) (f : FC m m') (k8 : st D 6 ≤ 8) : RQ D m' s := by
  obtain ⟨a, b, c, e, g, i, j⟩ := h
  refine ⟨f.sh a, b, (f.gR rfl).trans c, e.fc b f k8, ⟨(f.gR rfl).trans g.1, fun w w0 w1 => ?_⟩, fun w w0 w1 => ?_, (f.gI rfl).trans j⟩
  · obtain ⟨p, q, r, t⟩ := g.2 w w0 w1
    exact ⟨(f.gI rfl).trans p, (f.gI rfl).trans q, (f.gI rfl).trans r, (f.gI rfl).trans t⟩
  · obtain ⟨p, q, r⟩ := i w w0 w1
    exact ⟨(f.gI rfl).trans p, (f.gI rfl).trans q, (f.gI rfl).trans r⟩
theorem FW.C (f : FW 178 m m') : FC m m' := ⟨f.1, f.2.1, fun a k z => f.2.2.1 a k (by rintro ⟨rfl, rfl⟩; exact absurd z (by decide)), fun a k z => ⟨f.2.2.2.1 a k (by
  unfold scC at z
  simp only [Bool.or_eq_false_iff] at z
  have n : ∀ x : Nat, 178 ≤ x → x ≤ 211 → ¬ a = x := fun x h0 h1 h => by
    rw [h] at z
    have := z.1.1.2
    rw [Nat.ble_eq.mpr h0, Nat.ble_eq.mpr h1] at this
    cases this
  exact scW_e (n _ (by omega) (by omega)) (n _ (by omega) (by omega)) (n _ (by omega) (by omega)) (n _ (by omega) (by omega)) (by
    unfold scK
    simp only [Bool.or_eq_false_iff]
    exact ⟨⟨⟨z.1.1.1.1.1.1.1, z.1.1.1.1.1.1.2⟩, z.1.1.1.1.1.2⟩, z.1.1.1.1.2⟩)), f.2.2.2.2 a k (scK_C z)⟩⟩
end
