section
variable {D D' D1 D2 : Nat → Nat → Int32} {m m' m1 m2 m'' : mm_M} {d s W L H p n : Nat} {B : Int → Int} {take : Int} {late : Bool}
theorem sa_u {x : Nat} {j : Int} {v : Int32} : sa (up D 332 x v) j = if j.toNat = x then v.toInt else sa D j := by
  unfold sa up
  by_cases z : j.toNat = x
  · rw [if_pos ⟨rfl, z⟩, if_pos z]
  · rw [if_neg (by omega), if_neg z]
/-- take -/
theorem C115 (h : RCm D m s p) (hI : InvS D) (hL : InvL D) (s0 : 0 ≤ sa D 0) (s60 : sa D 0 ≤ 60) (hd : 8 ≤ d) : ∃ m', mm_ev d 115 0 [some (.ref 100)] [] m = some (some (some (.int (iI (takeS D)))), m') ∧ RCm (takeD D) m' s p ∧ FU m m' := by
  obtain ⟨hQ, hp, hg, hN, hP, hU, hM⟩ := id h
  obtain ⟨k8, k9⟩ := hI.2.2.2.2.2.1
  have xf := shX hQ.1
  have hf := hF hQ.1 h155
  rw [sg_115_0 (by omega)]
  unfold takeS takeD
  by_cases z : sa D 0 = 60
  · refine ⟨m, ?_, by rw [if_pos z]; exact h, FU.rf⟩
    simp (disch := omega) only [xf, hf, hQ.2.2.2.2.2.2, ↓reduceIte, not_false_eq_true, not_true_eq_false, and_self, and_true, true_and, false_and, and_false, or_true, true_or, or_false, false_or, or_self, reduceCtorEq, mm_q, Option.getD_some, cI_some, cJ_some, cV_some, cS_some, kd_sI, kd_sL, kd_sR, kd_cp, ln_sI, ln_sL, ln_sR, ln_cp, gR_sI, gR_sL, gR_sR, gR_cp, gL_sI, gL_sR, gL_cp, gI_sL, gI_sR, iI_add, iI_sub, iI_mul, iI_neg, iI_in, iI_tn, iI_lt, iI_eq, Nat.reduceLeDiff, Nat.reduceEqDiff, Nat.reduceAdd, Int.reduceEq, Int.reduceLT, Int.reduceLE, Int.reduceNeg, Int.reduceAdd, Int.reduceSub, Int.reduceMul, z]
  · obtain ⟨m1, e1, f1, u1⟩ := C112 (d := d - 1) hQ.1 hQ.2.2.2.2.2.1 hQ.2.2.2.2.2.2 hU k9 (by omega)
    have sh1 := f1.sh hQ.1
    have hh1 : HD D m1 155 (sa D) := hQ.2.2.2.2.2.1.g f1 (fun a k h0 h1 => scR_f (by omega) (by omega))
    have g1 : mm_gI m1 155 0 = iI (sa D 0) := (f1.gI (scR_f (by omega) (by omega))).trans hQ.2.2.2.2.2.2
    obtain ⟨m2, e2, v2⟩ := C12 (d := d - 1) sh1 h155 (by omega)
    have f2 : Fr scJ m1 m2 := v2.fr (fun a k q => by
      have : ¬ (155 ≤ a ∧ a ≤ 158) := rg_f q
      rw [if_neg (by omega), if_neg (by omega)])
    have ek : ∀ j : Int, j < 400 → sa (keepD D) j = sa D j := fun j hj => by unfold sa; rw [keep_lo (by omega)]
    have en : ∀ j : Int, 0 ≤ j → j < 25 → sa (nextD (keepD D) 0) j = nextB (sa D) j := fun j j0 j1 => by
      unfold nextB
      by_cases y : j = 0
      · rw [if_pos y, y]
        unfold sa nextD
        rw [if_pos ⟨rfl, rfl⟩, keep_lo (by omega)]
        have : D 332 0 + iI 1 = iI (sa D 0 + 1) := by
          rw [← iI_add]
          unfold sa
          rw [iI_toInt]
          rfl
        rw [this, iI_val (by omega) (by omega)]
        rfl
      · rw [if_neg y]
        by_cases y2 : 17 ≤ j ∧ j < 25
        · rw [if_pos y2]
          unfold sa nextD
          rw [if_neg (by omega), if_pos (by omega)]
          rfl
        · rw [if_neg y2, ← ek j (by omega)]
          unfold sa nextD
          rw [if_neg (by omega), if_neg (by omega)]
    have hh2 := (hh1.ud v2 k9).sa (fun j j0 j1 => (en j (by omega) j1).symm) k9
    have g2 : mm_gI m2 155 0 = iI (sa (nextD (keepD D) 0) 0) := by
      rw [v2.2.2.2.2]
      dsimp only
      rw [if_neg (by omega), if_pos ⟨rfl, rfl⟩, g1, iI_add, en 0 (by omega) (by omega)]
      rfl
    obtain ⟨m', e3, r3, f3, g3⟩ := hand_fin (d := d - 1) (D1 := keepD D) (D2 := nextD (keepD D) 0) h hI hL (by omega) sam_keep (fun j j0 j1 => keep_lo j1) keep_33 keep_29 f1 u1 sam_next (by unfold nextD; rw [if_neg (by omega), if_neg (by omega)]) (fun j j0 => by unfold nextD; rw [if_neg (by omega), if_neg (by omega)]) (fun j => by unfold nextD; rw [if_neg (by omega), if_neg (by omega)]) (fun j => by unfold nextD; rw [if_neg (by omega), if_neg (by omega)]) f2 ((sam_keep.tr sam_next).hd hh2) g2
    refine ⟨m', ?_, by rw [if_neg z]; exact r3, f3⟩
    have xf1 := shX sh1
    have hf1 := hF sh1 h155
    have sh2 := f2.sh sh1
    have xf2 := shX sh2
    have xf3 := shX r3.1.1
    have hf3 := hF r3.1.1 h155
    have en0 := en 0 (by omega) (by omega)
    rw [en0, show nextB (sa D) 0 = sa D 0 + 1 from rfl] at g3
    simp (disch := omega) only [xf, hf, hQ.2.2.2.2.2.2, ↓reduceIte, not_false_eq_true, not_true_eq_false, and_self, and_true, true_and, false_and, and_false, or_true, true_or, or_false, false_or, or_self, reduceCtorEq, mm_q, Option.getD_some, cI_some, cJ_some, cV_some, cS_some, kd_sI, kd_sL, kd_sR, kd_cp, ln_sI, ln_sL, ln_sR, ln_cp, gR_sI, gR_sL, gR_sR, gR_cp, gL_sI, gL_sR, gL_cp, gI_sL, gI_sR, iI_add, iI_sub, iI_mul, iI_neg, iI_in, iI_tn, iI_lt, iI_eq, Nat.reduceLeDiff, Nat.reduceEqDiff, Nat.reduceAdd, Int.reduceEq, Int.reduceLT, Int.reduceLE, Int.reduceNeg, Int.reduceAdd, Int.reduceSub, Int.reduceMul, show sa D 0 < 60 by omega, e1, xf1, hf1, e2]
    rw [sg_115_25 (by omega)]
    simp (disch := omega) only [xf2, xf3, hf3, ↓reduceIte, not_false_eq_true, not_true_eq_false, and_self, and_true, true_and, false_and, and_false, or_true, true_or, or_false, false_or, or_self, reduceCtorEq, mm_q, Option.getD_some, cI_some, cJ_some, cV_some, cS_some, kd_sI, kd_sL, kd_sR, kd_cp, ln_sI, ln_sL, ln_sR, ln_cp, gR_sI, gR_sL, gR_sR, gR_cp, gL_sI, gL_sR, gL_cp, gI_sL, gI_sR, iI_add, iI_sub, iI_mul, iI_neg, iI_in, iI_tn, iI_lt, iI_eq, Nat.reduceLeDiff, Nat.reduceEqDiff, Nat.reduceAdd, Int.reduceEq, Int.reduceLT, Int.reduceLE, Int.reduceNeg, Int.reduceAdd, Int.reduceSub, Int.reduceMul, e3, g3, z]
/-- undo -/
theorem C116 (h : RCm D m s p) (hI : InvS D) (hL : InvL D) (hd : 8 ≤ d) : ∃ m', mm_ev d 116 0 [some (.ref 100)] [] m = some (some (some (.int (iI (bI (!decide (und D = 0)))))), m') ∧ RCm (undoD D) m' s p ∧ FU m m' := by
  obtain ⟨hQ, hp, hg, hN, hP, hU, hM⟩ := id h
  obtain ⟨⟨u0, u1⟩, g10, e, ⟨e0, e1⟩, g11, hk⟩ := id hU
  obtain ⟨k8, k9⟩ := hI.2.2.2.2.2.1
  have xf := shX hQ.1
  rw [sg_116_0]
  unfold undoD
  by_cases z : und D = 0
  · refine ⟨m, ?_, by rw [if_pos z]; exact h, FU.rf⟩
    simp (disch := omega) only [xf, ↓reduceIte, not_false_eq_true, not_true_eq_false, and_self, and_true, true_and, false_and, and_false, or_true, true_or, or_false, false_or, or_self, reduceCtorEq, mm_q, Option.getD_some, cI_some, cJ_some, cV_some, cS_some, kd_sI, kd_sL, kd_sR, kd_cp, ln_sI, ln_sL, ln_sR, ln_cp, gR_sI, gR_sL, gR_sR, gR_cp, gL_sI, gL_sR, gL_cp, gI_sL, gI_sR, iI_add, iI_sub, iI_mul, iI_neg, iI_in, iI_tn, iI_lt, iI_eq, Nat.reduceLeDiff, Nat.reduceEqDiff, Nat.reduceAdd, Int.reduceEq, Int.reduceLT, Int.reduceLE, Int.reduceNeg, Int.reduceAdd, Int.reduceSub, Int.reduceMul, bI_t, bI_f, decide_true, decide_false, Bool.and_true, Bool.and_false, Bool.true_and, Bool.false_and, Bool.false_eq_true, Bool.and_self, Bool.not_true, Bool.not_false, Bool.true_or, Bool.false_or, Bool.or_true, Bool.or_false, g10, z, Int.lt_irrefl]
  · have ee : 0 ≤ (if 0 < e then e - 1 else 15) ∧ (if 0 < e then e - 1 else 15) < 16 := by split <;> omega
    have hH := ringH ee.1 ee.2
    let m1 := mm_sI (mm_sI m 100 10 (iI (und D - 1))) 100 11 (iI (if 0 < e then e - 1 else 15))
    have f1 : Fr scR m (mm_sI (mm_sI m 100 10 (iI (und D - 1))) 100 11 (iI (if 0 < e then e - 1 else 15))) := Fr.tr (Fr.sI (scR_t (Or.inl ⟨rfl, Or.inl rfl⟩))) (Fr.sI (scR_t (Or.inl ⟨rfl, Or.inr rfl⟩)))
    have sh1 := f1.sh hQ.1
    have xf1 := shX sh1
    have wf1 := shW sh1
    have hr1 := ringR sh1 ee.1 ee.2
    have hf1 := hF sh1 hH
    have hf2 := hF sh1 h155
    have q3 : ∀ (a k : Nat), 212 ≤ a → mm_gI (mm_sI (mm_sI m 100 10 (iI (und D - 1))) 100 11 (iI (if 0 < e then e - 1 else 15))) a k = mm_gI m a k := fun a k h => by rw [gI_sI, gI_sI, if_neg (by omega), if_neg (by omega)]
    obtain ⟨m2, c2, v2⟩ := C11 (d := d - 1) sh1 (H := 155) (G := 212 + 4 * (if 0 < e then e - 1 else 15).toNat) h155 hH (by omega) (by omega)
    have f2 : Fr scJ (mm_sI (mm_sI m 100 10 (iI (und D - 1))) 100 11 (iI (if 0 < e then e - 1 else 15))) m2 := v2.fr (fun a k q => by
      have : ¬ (155 ≤ a ∧ a ≤ 158) := rg_f q
      rw [if_neg (by omega), if_neg (by omega), if_neg (by omega), if_neg (by omega)])
    have s1 : SamS D (up D 316 26 (iI (und D - 1))) := sam_up (by omega) (by omega) (by omega)
    have eu : und (up D 316 26 (iI (und D - 1))) = und D - 1 := by
      show (up D 316 26 (iI (und D - 1)) 316 26).toInt = _
      unfold up
      rw [if_pos ⟨rfl, rfl⟩, iI_val (by omega) (by omega)]
    have es : ∀ j : Int, sa (up D 316 26 (iI (und D - 1))) j = sa D j := fun j => by unfold sa up; rw [if_neg (by omega)]
    have hl := hk (und D - 1) (by omega) (by omega)
    rw [show (e - und D + (und D - 1)) % 16 = (if 0 < e then e - 1 else 15) by split <;> omega] at hl
    have hU1 : RU (up D 316 26 (iI (und D - 1))) (mm_sI (mm_sI m 100 10 (iI (und D - 1))) 100 11 (iI (if 0 < e then e - 1 else 15))) := by
      refine ⟨by rw [eu]; omega, by rw [gI_sI, gI_sI, if_neg (by omega), if_pos ⟨rfl, rfl⟩, eu], (if 0 < e then e - 1 else 15), ee, by rw [gI_sI, if_pos ⟨rfl, rfl⟩], fun k k0 k1 => ?_⟩
      rw [eu] at k1 ⊢
      rw [show ((if 0 < e then e - 1 else 15) - (und D - 1) + k) % 16 = (e - und D + k) % 16 by split <;> omega, es]
      obtain ⟨p1, p2⟩ := hk k k0 (by omega)
      refine ⟨s1.hd (fun w w0 w1 => ?_), by rw [q3 _ _ (by omega)]; exact p2⟩
      obtain ⟨r1, r2, r3⟩ := p1 w w0 w1
      rw [q3 _ _ (by omega), q3 _ _ (by omega), q3 _ _ (by omega)]
      unfold ubS at r1 r2 r3 ⊢
      rw [es, es, es]
      exact ⟨r1, r2, r3⟩
    have ec : ∀ j : Int, 0 ≤ j → j < 25 → sa (cpD (up D 316 26 (iI (und D - 1))) (80 * (4 + (und D).toNat)) 0 25) j = sa D (80 * (5 + (und D - 1)) + j) := fun j j0 j1 => by
      rw [← es]
      unfold sa cpD
      rw [if_pos (by omega)]
      congr 2
      omega
    have hh2 : HD D m2 155 (sa (cpD (up D 316 26 (iI (und D - 1))) (80 * (4 + (und D).toNat)) 0 25)) := by
      have : HD D (mm_sI (mm_sI m 100 10 (iI (und D - 1))) 100 11 (iI (if 0 < e then e - 1 else 15))) (212 + 4 * (if 0 < e then e - 1 else 15).toNat) (ubS D (80 * (5 + (und D - 1)))) := fun w w0 w1 => by
        obtain ⟨r1, r2, r3⟩ := hl.1 w w0 w1
        rw [q3 _ _ (by omega), q3 _ _ (by omega), q3 _ _ (by omega)]
        exact ⟨r1, r2, r3⟩
      exact (this.up2 v2 k9).sa (fun j j0 j1 => (ec j (by omega) j1).symm) k9
    have g2 : mm_gI m2 155 0 = iI (sa (cpD (up D 316 26 (iI (und D - 1))) (80 * (4 + (und D).toNat)) 0 25) 0) := by
      rw [v2.2.2.2.2]
      dsimp only
      rw [if_pos ⟨rfl, rfl⟩, q3 _ _ (by omega), hl.2, ec 0 (by omega) (by omega), Int.add_zero]
    obtain ⟨m', e3, r3, f3, -⟩ := hand_fin (d := d - 1) (D1 := up D 316 26 (iI (und D - 1))) (D2 := cpD (up D 316 26 (iI (und D - 1))) (80 * (4 + (und D).toNat)) 0 25) h hI hL (by omega) s1 (fun j j0 j1 => by unfold up; rw [if_neg (by omega)]) (fun j => by unfold up; rw [if_neg (by omega)]) (fun j => by unfold up; rw [if_neg (by omega)]) f1 hU1 sam_cp (by unfold cpD; rw [if_neg (by omega)]) (fun j j0 => by unfold cpD; rw [if_neg (by omega)]) (fun j => by unfold cpD; rw [if_neg (by omega)]) (fun j => by unfold cpD; rw [if_neg (by omega)]) f2 ((s1.tr sam_cp).hd hh2) g2
    refine ⟨m', ?_, by rw [if_neg z]; exact r3, f3⟩
    have xf2 := shX (f2.sh sh1)
    have ga : mm_gI (mm_sI (mm_sI m 100 10 (iI (und D - 1))) 100 11 (iI (if 0 < e then e - 1 else 15))) 100 11 = iI (if 0 < e then e - 1 else 15) := by rw [gI_sI, if_pos ⟨rfl, rfl⟩]
    have gb : mm_gI (mm_sI m 100 10 (iI (und D - 1))) 100 11 = iI e := by rw [gI_sI, if_neg (by omega)]; exact g11
    have e38 : mm_ev d 116 38 [some (.ref 100)] [.int (iI (if 0 < e then e - 1 else 15)), .ref 100] (mm_sI m 100 10 (iI (und D - 1))) = some (some (some (.int (iI 1))), m') := by
      rw [sg_116_38 (by omega)]
      simp (disch := omega) only [xf1, xf2, wf1, hr1, hf1, hf2, ↓reduceIte, not_false_eq_true, not_true_eq_false, and_self, and_true, true_and, reduceCtorEq, mm_q, Option.getD_some, cI_some, cJ_some, cV_some, cS_some, Nat.reduceLeDiff, Nat.reduceEqDiff, kd_sI, xf, ga, iI_in, iI_tn, c2, e3]
    by_cases y : 0 < e
    · rw [if_pos y] at e38
      simp (disch := omega) only [xf, ↓reduceIte, not_false_eq_true, not_true_eq_false, and_self, and_true, true_and, false_and, and_false, or_true, true_or, or_false, false_or, or_self, reduceCtorEq, mm_q, Option.getD_some, cI_some, cJ_some, cV_some, cS_some, kd_sI, kd_sL, kd_sR, kd_cp, ln_sI, ln_sL, ln_sR, ln_cp, gR_sI, gR_sL, gR_sR, gR_cp, gL_sI, gL_sR, gL_cp, gI_sL, gI_sR, iI_add, iI_sub, iI_mul, iI_neg, iI_in, iI_tn, iI_lt, iI_eq, Nat.reduceLeDiff, Nat.reduceEqDiff, Nat.reduceAdd, Int.reduceEq, Int.reduceLT, Int.reduceLE, Int.reduceNeg, Int.reduceAdd, Int.reduceSub, Int.reduceMul, bI_t, bI_f, decide_true, decide_false, Bool.and_true, Bool.and_false, Bool.true_and, Bool.false_and, Bool.false_eq_true, Bool.and_self, Bool.not_true, Bool.not_false, Bool.true_or, Bool.false_or, Bool.or_true, Bool.or_false, g10, show 0 < und D by omega, gb, y, z]
      exact e38
    · rw [if_neg y] at e38
      simp (disch := omega) only [xf, ↓reduceIte, not_false_eq_true, not_true_eq_false, and_self, and_true, true_and, false_and, and_false, or_true, true_or, or_false, false_or, or_self, reduceCtorEq, mm_q, Option.getD_some, cI_some, cJ_some, cV_some, cS_some, kd_sI, kd_sL, kd_sR, kd_cp, ln_sI, ln_sL, ln_sR, ln_cp, gR_sI, gR_sL, gR_sR, gR_cp, gL_sI, gL_sR, gL_cp, gI_sL, gI_sR, iI_add, iI_sub, iI_mul, iI_neg, iI_in, iI_tn, iI_lt, iI_eq, Nat.reduceLeDiff, Nat.reduceEqDiff, Nat.reduceAdd, Int.reduceEq, Int.reduceLT, Int.reduceLE, Int.reduceNeg, Int.reduceAdd, Int.reduceSub, Int.reduceMul, bI_t, bI_f, decide_true, decide_false, Bool.and_true, Bool.and_false, Bool.true_and, Bool.false_and, Bool.false_eq_true, Bool.and_self, Bool.not_true, Bool.not_false, Bool.true_or, Bool.false_or, Bool.or_true, Bool.or_false, g10, show 0 < und D by omega, gb, y, z]
      exact e38
/-- tell -/
theorem C142 (h : RCm D m s p) (hI : InvS D) (hT : InvT D) (hd : 8 ≤ d) {ta t : Int} (ta_0 : -2147483648 ≤ ta) (ta_1 : ta < 2147483648) (t_0 : -2147483648 ≤ t) (t_1 : t < 2147483648) : ∃ m', mm_ev d 142 0 [some (.ref 100), some (.int (iI (ta))), some (.int (iI (t)))] [] m = some (some (some (.int (iI (bI (tellOk D ta t))))), m') ∧ RCm (tellD D ta t) m' s p ∧ FU m m' := by
  obtain ⟨hQ, hp, hg, hN, hP, hU, hM⟩ := id h
  obtain ⟨k8, k9⟩ := hI.2.2.2.2.2.1
  obtain ⟨c0, c1⟩ := hT.1
  have xf := shX hQ.1
  have pf := shP hQ.1
  rw [sg_142_0 (by omega)]
  unfold tellD tellOk
  cases z1 : inB ta 0 60
  · exact ⟨m, by simp (disch := omega) only [↓reduceIte, not_false_eq_true, not_true_eq_false, and_self, and_true, true_and, false_and, and_false, or_true, true_or, or_false, false_or, or_self, reduceCtorEq, mm_q, Option.getD_some, cI_some, cJ_some, cV_some, cS_some, kd_sI, kd_sL, kd_sR, kd_cp, ln_sI, ln_sL, ln_sR, ln_cp, gR_sI, gR_sL, gR_sR, gR_cp, gL_sI, gL_sR, gL_cp, gI_sL, gI_sR, iI_add, iI_sub, iI_mul, iI_neg, iI_in, iI_tn, iI_lt, iI_eq, Nat.reduceLeDiff, Nat.reduceEqDiff, Nat.reduceAdd, Int.reduceEq, Int.reduceLT, Int.reduceLE, Int.reduceNeg, Int.reduceAdd, Int.reduceSub, Int.reduceMul, bI_t, bI_f, decide_true, decide_false, Bool.and_true, Bool.and_false, Bool.true_and, Bool.false_and, Bool.false_eq_true, Bool.and_self, Bool.not_true, Bool.not_false, Bool.true_or, Bool.false_or, Bool.or_true, Bool.or_false, C133, z1], h, FU.rf⟩
  · simp (disch := omega) only [↓reduceIte, not_false_eq_true, not_true_eq_false, and_self, and_true, true_and, false_and, and_false, or_true, true_or, or_false, false_or, or_self, reduceCtorEq, mm_q, Option.getD_some, cI_some, cJ_some, cV_some, cS_some, kd_sI, kd_sL, kd_sR, kd_cp, ln_sI, ln_sL, ln_sR, ln_cp, gR_sI, gR_sL, gR_sR, gR_cp, gL_sI, gL_sR, gL_cp, gI_sL, gI_sR, iI_add, iI_sub, iI_mul, iI_neg, iI_in, iI_tn, iI_lt, iI_eq, Nat.reduceLeDiff, Nat.reduceEqDiff, Nat.reduceAdd, Int.reduceEq, Int.reduceLT, Int.reduceLE, Int.reduceNeg, Int.reduceAdd, Int.reduceSub, Int.reduceMul, bI_t, bI_f, decide_true, decide_false, Bool.and_true, Bool.and_false, Bool.true_and, Bool.false_and, Bool.false_eq_true, Bool.and_self, Bool.not_true, Bool.not_false, Bool.true_or, Bool.false_or, Bool.or_true, Bool.or_false, C133, z1, C119]
    rw [sg_142_11 (by omega)]
    cases z2 : inB t 0 600
    · exact ⟨m, by simp (disch := omega) only [↓reduceIte, not_false_eq_true, not_true_eq_false, and_self, and_true, true_and, false_and, and_false, or_true, true_or, or_false, false_or, or_self, reduceCtorEq, mm_q, Option.getD_some, cI_some, cJ_some, cV_some, cS_some, kd_sI, kd_sL, kd_sR, kd_cp, ln_sI, ln_sL, ln_sR, ln_cp, gR_sI, gR_sL, gR_sR, gR_cp, gL_sI, gL_sR, gL_cp, gI_sL, gI_sR, iI_add, iI_sub, iI_mul, iI_neg, iI_in, iI_tn, iI_lt, iI_eq, Nat.reduceLeDiff, Nat.reduceEqDiff, Nat.reduceAdd, Int.reduceEq, Int.reduceLT, Int.reduceLE, Int.reduceNeg, Int.reduceAdd, Int.reduceSub, Int.reduceMul, bI_t, bI_f, decide_true, decide_false, Bool.and_true, Bool.and_false, Bool.true_and, Bool.false_and, Bool.false_eq_true, Bool.and_self, Bool.not_true, Bool.not_false, Bool.true_or, Bool.false_or, Bool.or_true, Bool.or_false], h, FU.rf⟩
    · by_cases z3 : sa D 25 = 10
      · refine ⟨m, ?_, by simp (disch := omega) only [↓reduceIte, not_false_eq_true, not_true_eq_false, and_self, and_true, true_and, false_and, and_false, or_true, true_or, or_false, false_or, or_self, reduceCtorEq, mm_q, Option.getD_some, cI_some, cJ_some, cV_some, cS_some, kd_sI, kd_sL, kd_sR, kd_cp, ln_sI, ln_sL, ln_sR, ln_cp, gR_sI, gR_sL, gR_sR, gR_cp, gL_sI, gL_sR, gL_cp, gI_sL, gI_sR, iI_add, iI_sub, iI_mul, iI_neg, iI_in, iI_tn, iI_lt, iI_eq, Nat.reduceLeDiff, Nat.reduceEqDiff, Nat.reduceAdd, Int.reduceEq, Int.reduceLT, Int.reduceLE, Int.reduceNeg, Int.reduceAdd, Int.reduceSub, Int.reduceMul, bI_t, bI_f, decide_true, decide_false, Bool.and_true, Bool.and_false, Bool.true_and, Bool.false_and, Bool.false_eq_true, Bool.and_self, Bool.not_true, Bool.not_false, Bool.true_or, Bool.false_or, Bool.or_true, Bool.or_false, z3]; exact h, FU.rf⟩
        have e29 : mm_ev (d - 1) 29 0 [some (.ref 163), some (.int (iI (ta))), some (.int (iI (t)))] [] m = some (some (some (.int (iI 0))), m) := by
          rw [sg_29_0]
          simp (disch := omega) only [pf, hP.e.1, ↓reduceIte, not_false_eq_true, not_true_eq_false, and_self, and_true, true_and, false_and, and_false, or_true, true_or, or_false, false_or, or_self, reduceCtorEq, mm_q, Option.getD_some, cI_some, cJ_some, cV_some, cS_some, kd_sI, kd_sL, kd_sR, kd_cp, ln_sI, ln_sL, ln_sR, ln_cp, gR_sI, gR_sL, gR_sR, gR_cp, gL_sI, gL_sR, gL_cp, gI_sL, gI_sR, iI_add, iI_sub, iI_mul, iI_neg, iI_in, iI_tn, iI_lt, iI_eq, Nat.reduceLeDiff, Nat.reduceEqDiff, Nat.reduceAdd, Int.reduceEq, Int.reduceLT, Int.reduceLE, Int.reduceNeg, Int.reduceAdd, Int.reduceSub, Int.reduceMul, z3, Int.lt_irrefl]
        simp (disch := omega) only [xf, pf, ↓reduceIte, not_false_eq_true, not_true_eq_false, and_self, and_true, true_and, false_and, and_false, or_true, true_or, or_false, false_or, or_self, reduceCtorEq, mm_q, Option.getD_some, cI_some, cJ_some, cV_some, cS_some, kd_sI, kd_sL, kd_sR, kd_cp, ln_sI, ln_sL, ln_sR, ln_cp, gR_sI, gR_sL, gR_sR, gR_cp, gL_sI, gL_sR, gL_cp, gI_sL, gI_sR, iI_add, iI_sub, iI_mul, iI_neg, iI_in, iI_tn, iI_lt, iI_eq, Nat.reduceLeDiff, Nat.reduceEqDiff, Nat.reduceAdd, Int.reduceEq, Int.reduceLT, Int.reduceLE, Int.reduceNeg, Int.reduceAdd, Int.reduceSub, Int.reduceMul, bI_t, bI_f, decide_true, decide_false, Bool.and_true, Bool.and_false, Bool.true_and, Bool.false_and, Bool.false_eq_true, Bool.and_self, Bool.not_true, Bool.not_false, Bool.true_or, Bool.false_or, Bool.or_true, Bool.or_false, e29, z3]
      · let i := sa D 25
        have f1 : FU m (mm_sI (mm_sI (mm_sI m 164 (sa D 25).toNat (iI ta)) 165 (sa D 25).toNat (iI t)) 163 0 (iI (sa D 25 + 1))) := by
          have g : ∀ (mm : mm_M) (a k : Nat) (v : Int32), 163 ≤ a → a ≤ 168 → FU mm (mm_sI mm a k v) := fun mm a k v h0 h1 => Fr.U (P := fun x _ => Nat.ble 163 x && Nat.ble x 168) (Fr.sI (by rw [Nat.ble_eq.mpr h0, Nat.ble_eq.mpr h1]; rfl)) (fun _ _ z => (scU_i z).2.2.2.2.2.1)
          exact ((g _ _ _ _ (by omega) (by omega)).tr (g _ _ _ _ (by omega) (by omega))).tr (g _ _ _ _ (by omega) (by omega))
        refine ⟨_, ?_, ?_, f1⟩
        · have e29 : mm_ev (d - 1) 29 0 [some (.ref 163), some (.int (iI (ta))), some (.int (iI (t)))] [] m = some (some (some (.int (iI 1))), mm_sI (mm_sI (mm_sI m 164 (sa D 25).toNat (iI ta)) 165 (sa D 25).toNat (iI t)) 163 0 (iI (sa D 25 + 1))) := by
            rw [sg_29_0]
            simp (disch := omega) only [pf, hP.e.1, ↓reduceIte, not_false_eq_true, not_true_eq_false, and_self, and_true, true_and, false_and, and_false, or_true, true_or, or_false, false_or, or_self, reduceCtorEq, mm_q, Option.getD_some, cI_some, cJ_some, cV_some, cS_some, kd_sI, kd_sL, kd_sR, kd_cp, ln_sI, ln_sL, ln_sR, ln_cp, gR_sI, gR_sL, gR_sR, gR_cp, gL_sI, gL_sR, gL_cp, gI_sL, gI_sR, iI_add, iI_sub, iI_mul, iI_neg, iI_in, iI_tn, iI_lt, iI_eq, Nat.reduceLeDiff, Nat.reduceEqDiff, Nat.reduceAdd, Int.reduceEq, Int.reduceLT, Int.reduceLE, Int.reduceNeg, Int.reduceAdd, Int.reduceSub, Int.reduceMul, show sa D 25 < 10 by omega, gI_sI]
          simp (disch := omega) only [xf, pf, ↓reduceIte, not_false_eq_true, not_true_eq_false, and_self, and_true, true_and, false_and, and_false, or_true, true_or, or_false, false_or, or_self, reduceCtorEq, mm_q, Option.getD_some, cI_some, cJ_some, cV_some, cS_some, kd_sI, kd_sL, kd_sR, kd_cp, ln_sI, ln_sL, ln_sR, ln_cp, gR_sI, gR_sL, gR_sR, gR_cp, gL_sI, gL_sR, gL_cp, gI_sL, gI_sR, iI_add, iI_sub, iI_mul, iI_neg, iI_in, iI_tn, iI_lt, iI_eq, Nat.reduceLeDiff, Nat.reduceEqDiff, Nat.reduceAdd, Int.reduceEq, Int.reduceLT, Int.reduceLE, Int.reduceNeg, Int.reduceAdd, Int.reduceSub, Int.reduceMul, bI_t, bI_f, decide_true, decide_false, Bool.and_true, Bool.and_false, Bool.true_and, Bool.false_and, Bool.false_eq_true, Bool.and_self, Bool.not_true, Bool.not_false, Bool.true_or, Bool.false_or, Bool.or_true, Bool.or_false, e29, z3]
        · simp (disch := omega) only [↓reduceIte, not_false_eq_true, not_true_eq_false, and_self, and_true, true_and, false_and, and_false, or_true, true_or, or_false, false_or, or_self, reduceCtorEq, mm_q, Option.getD_some, cI_some, cJ_some, cV_some, cS_some, kd_sI, kd_sL, kd_sR, kd_cp, ln_sI, ln_sL, ln_sR, ln_cp, gR_sI, gR_sL, gR_sR, gR_cp, gL_sI, gL_sR, gL_cp, gI_sL, gI_sR, iI_add, iI_sub, iI_mul, iI_neg, iI_in, iI_tn, iI_lt, iI_eq, Nat.reduceLeDiff, Nat.reduceEqDiff, Nat.reduceAdd, Int.reduceEq, Int.reduceLT, Int.reduceLE, Int.reduceNeg, Int.reduceAdd, Int.reduceSub, Int.reduceMul, bI_t, bI_f, decide_true, decide_false, Bool.and_true, Bool.and_false, Bool.true_and, Bool.false_and, Bool.false_eq_true, Bool.and_self, Bool.not_true, Bool.not_false, Bool.true_or, Bool.false_or, Bool.or_true, Bool.or_false, z3]
          have s2 : SamS D (up (up (up D 332 (26 + 2 * sa D 25).toNat (iI ta)) 332 (26 + 2 * sa D 25 + 1).toNat (iI t)) 332 25 (iI (sa D 25 + 1))) := ((sam_up (by omega) (by omega) (by omega)).tr (sam_up (by omega) (by omega) (by omega))).tr (sam_up (by omega) (by omega) (by omega))
          have eo : ∀ j, ¬ j = 25 → ¬ j = (26 + 2 * sa D 25).toNat → ¬ j = (26 + 2 * sa D 25 + 1).toNat → up (up (up D 332 (26 + 2 * sa D 25).toNat (iI ta)) 332 (26 + 2 * sa D 25 + 1).toNat (iI t)) 332 25 (iI (sa D 25 + 1)) 332 j = D 332 j := fun j h1 h2 h3 => by
            unfold up
            rw [if_neg (by omega), if_neg (by omega), if_neg (by omega)]
          have q3 : ∀ (a k : Nat), ¬ (163 ≤ a ∧ a ≤ 165) → mm_gI (mm_sI (mm_sI (mm_sI m 164 (sa D 25).toNat (iI ta)) 165 (sa D 25).toNat (iI t)) 163 0 (iI (sa D 25 + 1))) a k = mm_gI m a k := fun a k h => by rw [gI_sI, gI_sI, gI_sI, if_neg (by omega), if_neg (by omega), if_neg (by omega)]
          have gs : s = 104 ∨ s = 125 := hQ.2.1
          have gp : p = 146 ∨ p = 150 := hp
          have lo : ∀ j : Int, 0 ≤ j → j < 25 → sa (up (up (up D 332 (26 + 2 * sa D 25).toNat (iI ta)) 332 (26 + 2 * sa D 25 + 1).toNat (iI t)) 332 25 (iI (sa D 25 + 1))) j = sa D j := fun j j0 j1 => sa_c (eo _ (by omega) (by omega) (by omega))
          refine ⟨⟨hQ.1, hQ.2.1, hQ.2.2.1, s2.rst (hQ.2.2.2.1.cg (fun a k h0 h1 _ _ => q3 a k (by omega)) k9), ⟨hQ.2.2.2.2.1.1, fun w w0 w1 => ?_⟩, s2.hd (fun w w0 w1 => ?_), by rw [q3 _ _ (by omega), lo 0 (by omega) (by omega)]; exact hQ.2.2.2.2.2.2⟩, hp, hg, hN.ch (fun j => by unfold up; rw [if_neg (by omega), if_neg (by omega), if_neg (by omega)]) (fun a k h0 h1 => q3 a k (by omega)), ?_, hU.ch s2 (by unfold up; rw [if_neg (by omega), if_neg (by omega), if_neg (by omega)]) (fun j j0 => eo j (by omega) (by omega) (by omega)) (fun a k h0 => q3 a k (by omega)), hM.ch s2 k9 (fun j => by unfold up; rw [if_neg (by omega), if_neg (by omega), if_neg (by omega)]) (fun j j0 j1 => eo j (by omega) (by omega) (by omega)) (fun a k h0 => q3 a k (by omega))⟩
          · rw [cD_st s2.1] at w1
            obtain ⟨p1, p2, p3, p4⟩ := hQ.2.2.2.2.1.2 w w0 w1
            rw [q3 _ _ (by omega), q3 _ _ (by omega), q3 _ _ (by omega), q3 _ _ (by omega), lo _ (by omega) (by omega), lo _ (by omega) (by omega), lo _ (by omega) (by omega), lo 0 (by omega) (by omega), s2.cue, s2.tempo, cD_wk s2.1]
            exact ⟨p1, p2, p3, p4⟩
          · obtain ⟨p1, p2, p3⟩ := hQ.2.2.2.2.2.1 w w0 w1
            rw [q3 _ _ (by omega), q3 _ _ (by omega), q3 _ _ (by omega), lo _ (by omega) (by omega), lo _ (by omega) (by omega), lo _ (by omega) (by omega)]
            exact ⟨p1, p2, p3⟩
          · obtain ⟨t1, t2, t3, t4⟩ := hP.e
            refine ⟨⟨?_, ?_⟩, fun k x0 x1 => ?_, fun k x0 x1 => ?_⟩
            · rw [gI_sI, if_pos ⟨rfl, rfl⟩]
              unfold sa up
              rw [if_pos ⟨rfl, rfl⟩, iI_toInt]
            · rw [gI_sI, gI_sI, gI_sI, if_neg (by omega), if_neg (by omega), if_neg (by omega), t2]
              exact congrArg iI (sa_c (eo 46 (by omega) (by omega) (by omega))).symm
            · obtain ⟨p1, p2⟩ := t3 k x0 x1
              rw [show (0 : Int) + 26 = 26 from rfl]
              by_cases y : k = sa D 25
              · rw [y]
                refine ⟨?_, ?_⟩
                · rw [gI_sI, gI_sI, gI_sI, if_neg (by omega), if_neg (by omega), if_pos ⟨rfl, rfl⟩, sa_u, if_neg (by omega), sa_u, if_neg (by omega), sa_u, if_pos rfl, iI_toInt]
                · rw [gI_sI, gI_sI, if_neg (by omega), if_pos ⟨rfl, rfl⟩, sa_u, if_neg (by omega), sa_u, if_pos rfl, iI_toInt]
              · rw [gI_sI, gI_sI, gI_sI, if_neg (by omega), if_neg (by omega), if_neg (by omega), gI_sI, gI_sI, gI_sI, if_neg (by omega), if_neg (by omega), if_neg (by omega), sa_c (eo _ (by omega) (by omega) (by omega)), sa_c (eo _ (by omega) (by omega) (by omega))]
                exact ⟨p1, p2⟩
            · obtain ⟨p1, p2, p3⟩ := t4 k x0 x1
              rw [show (0 : Int) + 47 = 47 from rfl, q3 _ _ (by omega), q3 _ _ (by omega), q3 _ _ (by omega), sa_c (eo _ (by omega) (by omega) (by omega)), sa_c (eo _ (by omega) (by omega) (by omega)), sa_c (eo _ (by omega) (by omega) (by omega))]
              exact ⟨p1, p2, p3⟩
end
