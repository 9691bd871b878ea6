def scE (w a k : Nat) : Bool := scBr a k || Nat.beq a w
def cuS (T : TK) (Y : Nat → Int64) (W : Nat → Int32) (cnt i f : Int) : Int × Int × Int := if f = 0 ∧ ty T i = 12 then ((thS T Y W cnt 0 6 (i + 1) 0).1, if 0 < (thS T Y W cnt 0 6 (i + 1) 0).2 then i + 1 else i + 1 + 1, (thS T Y W cnt 0 6 (i + 1) 0).2) else (-1, i, f)
section
variable {D : Nat → Nat → Int32} {E : Nat → Nat → Int64} {m m' c c' c'' : mm_M} {d s w : Nat} {n N i f : Int} {T : TK} {X X' : Nat → Nat → Int32} {Y Y' : Nat → Int64} {W W' : Nat → Int32} {cnt a b : Int}
theorem Fr.BE (h : Fr scBr c c') : Fr (scE w) c c' := h.mono (fun x k z => by
  unfold scE at z
  simp only [Bool.or_eq_false_iff] at z
  exact z.1)
theorem Fr.e {k : Nat} {v : Int32} : Fr (scE w) c (mm_sI c w k v) := Fr.sI (by unfold scE; simp)
theorem scE_f {x k : Nat} (h : scBr x k = false) (h2 : ¬ x = w) : scE w x k = false := by
  unfold scE
  rw [h, nb h2]
  rfl
theorem Fr.EQ (h : Fr (scE w) c c') (h0 : s + 13 ≤ w) (h1 : w ≤ s + 20) : Fr (scQs s) c c' := h.mono (fun x k z => by
  by_cases q : x = w
  · subst q
    rw [scQ_t (by omega) h1 (by omega)] at z
    cases z
  · unfold scQs at z
    simp only [Bool.or_eq_false_iff] at z
    exact scE_f z.1 q)
/-- the walker's own cell, apart from reader and tape -/
def isWc (s w : Nat) : Prop := isSt s ∧ s + 13 ≤ w ∧ w ≤ s + 20
def scw (w a _k : Nat) : Bool := Nat.beq a w
theorem CR.cw (h : CR D n T N i s c) (hw : isWc s w) {k : Nat} {v : Int32} : CR D n T N i s (mm_sI c w k v) := h.o (P := scw w) (Fr.sI (by unfold scw; simp)) (fun x k z => nb (by have : s = 104 ∨ s = 125 := hw.1; have := hw.2; omega)) (nb (by have : s = 104 ∨ s = 125 := hw.1; have := hw.2; omega))
theorem wcB (hw : isWc s w) {k : Nat} : scBr w k = false := scB_st hw.1 (by have := hw.2; omega) (by have := hw.2; omega)
theorem wc154 (hw : isWc s w) : ¬ w = 154 := by
  have : s = 104 ∨ s = 125 := hw.1
  have := hw.2
  omega
theorem wc101 (hw : isWc s w) : ¬ w = 101 := by
  have : s = 104 ∨ s = 125 := hw.1
  have := hw.2
  omega
/-- readKind -/
theorem C45 (hT : TS D n T N) (h : CR D n T N i s c) (hw : isWc s w) (hk : mm_kd c w = 9) (hd : 9 ≤ d) : ∃ c', mm_ev d 45 0 [some (.ref 154), some (.ref w)] [] c = some (some (some (.int (iI (bI (decide ((toS T 23 4 i 0).2.2 = 0)))))), c') ∧ Fr (scE w) c c' ∧ ((toS T 23 4 i 0).2.2 = 0 → CR D n T N (toS T 23 4 i 0).2.1 s c' ∧ mm_gI c' w 1 = iI (toS T 23 4 i 0).1 ∧ (∀ k, ¬ k = 1 → mm_gI c' w k = mm_gI c w k) ∧ (∀ k, mm_gL c' 154 k = mm_gL c 154 k)) ∧ (¬ (toS T 23 4 i 0).2.2 = 0 → mm_gI c' 154 3 = iI (toS T 23 4 i 0).2.2) := by
  obtain ⟨i0, i1⟩ := h.2.2.1
  have tr := hT.tyr i0 i1
  have pr := (hT.k i0 i1).1
  unfold toS
  rw [sg_45_0 (by omega), if_pos rfl]
  by_cases z : 23 ≤ ty T i ∧ ty T i < 23 + 4
  · obtain ⟨c', e, g, r, k9⟩ := CR.nx (d := d - 1) hT (h.cw hw (k := 1) (v := iI (ty T i - 23))) (by omega) (hT.lt i0 i1 (by omega))
    rw [if_pos z]
    refine ⟨c', ?_, Fr.e.tr g.BE, fun _ => ⟨r, ?_, fun k hk => ?_, fun k => ?_⟩, fun q => absurd rfl q⟩
    · simp (disch := omega) only [shP h.1.1, shT h.1.1, ↓reduceIte, not_false_eq_true, not_true_eq_false, and_self, and_true, true_and, false_and, and_false, or_true, true_or, or_false, false_or, or_self, reduceCtorEq, mm_q, Option.getD_some, cI_some, cJ_some, cV_some, cS_some, kd_sI, kd_sL, kd_sR, kd_cp, ln_sI, ln_sL, ln_sR, ln_cp, gR_sI, gR_sL, gR_sR, gR_cp, gL_sI, gL_sR, gL_cp, gI_sL, gI_sR, iI_add, iI_sub, iI_mul, iI_neg, iI_in, iI_tn, iI_lt, iI_eq, Nat.reduceLeDiff, Nat.reduceEqDiff, Nat.reduceAdd, Int.reduceEq, Int.reduceLT, Int.reduceLE, Int.reduceNeg, Int.reduceAdd, Int.reduceSub, Int.reduceMul, h.2.1.2.1, show ¬ ty T i < 23 by omega, show ¬ 26 < ty T i by omega, hk, e]
      rfl
    · rw [g.gI (wcB hw), gI_sI, if_pos ⟨rfl, rfl⟩]
    · rw [g.gI (wcB hw), gI_sI, if_neg (fun q => hk q.2)]
    · exact (k9 k).2
  · rw [if_neg z]
    refine ⟨mm_sI c 154 3 (iI (1 + 16 * tP T i)), ?_, Fr.r154.BE, fun q => by dsimp only at q; omega, fun _ => by simp [gI_sI]⟩
    have e24 : mm_ev d 45 24 [some (.ref 154), some (.ref w)] [] c = some (some (some (.int (iI 0))), mm_sI c 154 3 (iI (1 + 16 * tP T i))) := by
      rw [sg_45_24 (by omega)]
      simp (disch := omega) only [shP h.1.1, ↓reduceIte, not_false_eq_true, not_true_eq_false, and_self, and_true, true_and, false_and, and_false, or_true, true_or, or_false, false_or, or_self, reduceCtorEq, mm_q, Option.getD_some, cI_some, cJ_some, cV_some, cS_some, kd_sI, kd_sL, kd_sR, kd_cp, ln_sI, ln_sL, ln_sR, ln_cp, gR_sI, gR_sL, gR_sR, gR_cp, gL_sI, gL_sR, gL_cp, gI_sL, gI_sR, iI_add, iI_sub, iI_mul, iI_neg, iI_in, iI_tn, iI_lt, iI_eq, Nat.reduceLeDiff, Nat.reduceEqDiff, Nat.reduceAdd, Int.reduceEq, Int.reduceLT, Int.reduceLE, Int.reduceNeg, Int.reduceAdd, Int.reduceSub, Int.reduceMul, C40 hT h]
    rw [bI_0 (by first | omega | (dsimp only; omega))]
    by_cases y : ty T i < 23
    · simp (disch := omega) only [shP h.1.1, shT h.1.1, ↓reduceIte, not_false_eq_true, not_true_eq_false, and_self, and_true, true_and, false_and, and_false, or_true, true_or, or_false, false_or, or_self, reduceCtorEq, mm_q, Option.getD_some, cI_some, cJ_some, cV_some, cS_some, kd_sI, kd_sL, kd_sR, kd_cp, ln_sI, ln_sL, ln_sR, ln_cp, gR_sI, gR_sL, gR_sR, gR_cp, gL_sI, gL_sR, gL_cp, gI_sL, gI_sR, iI_add, iI_sub, iI_mul, iI_neg, iI_in, iI_tn, iI_lt, iI_eq, Nat.reduceLeDiff, Nat.reduceEqDiff, Nat.reduceAdd, Int.reduceEq, Int.reduceLT, Int.reduceLE, Int.reduceNeg, Int.reduceAdd, Int.reduceSub, Int.reduceMul, h.2.1.2.1, y]
      exact e24
    · simp (disch := omega) only [shP h.1.1, shT h.1.1, ↓reduceIte, not_false_eq_true, not_true_eq_false, and_self, and_true, true_and, false_and, and_false, or_true, true_or, or_false, false_or, or_self, reduceCtorEq, mm_q, Option.getD_some, cI_some, cJ_some, cV_some, cS_some, kd_sI, kd_sL, kd_sR, kd_cp, ln_sI, ln_sL, ln_sR, ln_cp, gR_sI, gR_sL, gR_sR, gR_cp, gL_sI, gL_sR, gL_cp, gI_sL, gI_sR, iI_add, iI_sub, iI_mul, iI_neg, iI_in, iI_tn, iI_lt, iI_eq, Nat.reduceLeDiff, Nat.reduceEqDiff, Nat.reduceAdd, Int.reduceEq, Int.reduceLT, Int.reduceLE, Int.reduceNeg, Int.reduceAdd, Int.reduceSub, Int.reduceMul, h.2.1.2.1, y, show 26 < ty T i by omega]
      exact e24
/-- a number behind a word, kept in the walker's cell -/
theorem CWn (hT : TS D n T N) (h : CR D n T N i s c) (hw : isWc s w) (hd : 10 ≤ d) {x lo hi : Int} (x0 : 0 ≤ x) (x1 : x < 127) (l0 : -1000 ≤ lo) (l1 : lo ≤ 1000) (u0 : -1000 ≤ hi) (u1 : hi ≤ 1000) : ∃ c', mm_ev d 38 0 [some (.ref 154), some (.int (iI (x))), some (.int (iI (lo))), some (.int (iI (hi)))] [] c = some (some (some (.int (iI (bI (decide ((taS T x lo hi i 0).2.2 = 0)))))), c') ∧ Fr scBr c c' ∧ ((taS T x lo hi i 0).2.2 = 0 → CR D n T N (taS T x lo hi i 0).2.1 s c' ∧ mm_gI c' 154 4 = iI (taS T x lo hi i 0).1 ∧ (∀ k, mm_gI c' w k = mm_gI c w k) ∧ (∀ k, mm_gL c' 154 k = mm_gL c 154 k)) ∧ (¬ (taS T x lo hi i 0).2.2 = 0 → mm_gI c' 154 3 = iI (taS T x lo hi i 0).2.2) := by
  obtain ⟨c', e, g, r, q⟩ := C38 (d := d) hT h hd x0 x1 l0 l1 u0 u1
  exact ⟨c', e, g, fun y => ⟨(r y).1, (r y).2.1, fun k => g.gI (wcB hw), (r y).2.2.2⟩, q⟩
/-- readPlace -/
theorem C46 (hT : TS D n T N) (h : CR D n T N i s c) (hw : isWc s w) (hk : mm_kd c w = 9) (hd : 11 ≤ d) {la ce : Int} (g0 : mm_gI c s 0 = iI ce) (g1 : mm_gI c s 1 = iI la) (ce0 : 4 ≤ ce) (ce1 : ce ≤ 40) (la0 : 1 ≤ la) (la1 : la ≤ 4) {a1 a2 k2 : Int × Int × Int} (ha1 : a1 = taS T 8 0 (la - 1) i 0) (ha2 : a2 = taS T 9 0 (ce - 1) a1.2.1 a1.2.2) (hk2 : k2 = toS T 21 2 a2.2.1 a2.2.2) : ∃ c', mm_ev d 46 0 [some (.ref 154), some (.ref w)] [] c = some (some (some (.int (iI (bI (decide (k2.2.2 = 0)))))), c') ∧ Fr (scE w) c c' ∧ (k2.2.2 = 0 → CR D n T N k2.2.1 s c' ∧ mm_gI c' w 2 = iI a1.1 ∧ mm_gI c' w 3 = iI a2.1 ∧ mm_gI c' w 4 = iI k2.1 ∧ (∀ k, ¬ k = 2 → ¬ k = 3 → ¬ k = 4 → mm_gI c' w k = mm_gI c w k) ∧ (∀ k, mm_gL c' 154 k = mm_gL c 154 k)) ∧ (¬ k2.2.2 = 0 → mm_gI c' 154 3 = iI k2.2.2) := by
  have hst := hw.1
  obtain ⟨i0, i1⟩ := h.2.2.1
  obtain ⟨c1, e1, f1, r1, q1⟩ := CWn (d := d - 1) (x := 8) (lo := 0) (hi := la - 1) hT h hw (by omega) (by omega) (by omega) (by omega) (by omega) (by omega) (by omega)
  rw [← ha1] at e1 r1 q1
  have ar1 := ta_r (f := 0) (w := 8) (lo := 0) (hi := la - 1) hT i0 i1 (by omega) (by omega)
  rw [← ha1] at ar1
  rw [sg_46_0 (by omega)]
  have e16 : mm_ev d 46 0 [some (.ref 154), some (.ref w)] [] c = mm_ev d 46 16 [some (.ref 154), some (.ref w)] [.int (iI (bI (decide (a1.2.2 = 0))))] c1 := by
    rw [sg_46_0 (by omega)]
    simp (disch := omega) only [shP h.1.1, stF h.1.1 hst, ↓reduceIte, not_false_eq_true, not_true_eq_false, and_self, and_true, true_and, false_and, and_false, or_true, true_or, or_false, false_or, or_self, reduceCtorEq, mm_q, Option.getD_some, cI_some, cJ_some, cV_some, cS_some, kd_sI, kd_sL, kd_sR, kd_cp, ln_sI, ln_sL, ln_sR, ln_cp, gR_sI, gR_sL, gR_sR, gR_cp, gL_sI, gL_sR, gL_cp, gI_sL, gI_sR, iI_add, iI_sub, iI_mul, iI_neg, iI_in, iI_tn, iI_lt, iI_eq, Nat.reduceLeDiff, Nat.reduceEqDiff, Nat.reduceAdd, Int.reduceEq, Int.reduceLT, Int.reduceLE, Int.reduceNeg, Int.reduceAdd, Int.reduceSub, Int.reduceMul, h.2.2.2.2, g1, e1]
  rw [← sg_46_0 (by omega), e16, sg_46_16 (by omega)]
  by_cases y1 : a1.2.2 = 0
  · obtain ⟨r1, v1, w1, l1⟩ := r1 y1
    rw [bI_1 y1]
    have kd1 : mm_kd c1 w = 9 := by
      rw [← hk]; unfold mm_kd mm_sh; rw [f1.1, f1.2.1]
    have r1' := r1.cw hw (k := 2) (v := iI a1.1)
    have g0' : mm_gI (mm_sI c1 w 2 (iI a1.1)) s 0 = iI ce := by
      rw [gI_sI, if_neg (by have := hw.2; omega), f1.gI (scB_st hst (by omega) (by omega))]; exact g0
    obtain ⟨c2, e2, f2, r2, q2⟩ := CWn (d := d - 1) (x := 9) (lo := 0) (hi := ce - 1) hT r1' hw (by omega) (by omega) (by omega) (by omega) (by omega) (by omega) (by omega)
    rw [show taS T 9 0 (ce - 1) a1.2.1 0 = a2 by rw [ha2, y1]] at e2 r2 q2
    have ar2 := ta_r (f := 0) (w := 9) (lo := 0) (hi := ce - 1) hT r1.2.2.1.1 r1.2.2.1.2 (by omega) (by omega)
    rw [show taS T 9 0 (ce - 1) a1.2.1 0 = a2 by rw [ha2, y1]] at ar2
    have e45 : (if (iI 1) = iI 0 then some (some (some (Value.int (iI 0))), c1) else mm_ev d 46 45 [some (.ref 154), some (.ref w)] [.int (iI (bI (decide (a2.2.2 = 0))))] c2) = mm_ev d 46 45 [some (.ref 154), some (.ref w)] [.int (iI (bI (decide (a2.2.2 = 0))))] c2 := if_neg (by decide)
    have stp : mm_ev d 46 16 [some (.ref 154), some (.ref w)] [.int (iI 1)] c1 = mm_ev d 46 45 [some (.ref 154), some (.ref w)] [.int (iI (bI (decide (a2.2.2 = 0))))] c2 := by
      rw [sg_46_16 (by omega)]
      simp (disch := omega) only [shP r1.1.1, shP r1'.1.1, stF r1.1.1 hst, stF r1'.1.1 hst, ↓reduceIte, not_false_eq_true, not_true_eq_false, and_self, and_true, true_and, false_and, and_false, or_true, true_or, or_false, false_or, or_self, reduceCtorEq, mm_q, Option.getD_some, cI_some, cJ_some, cV_some, cS_some, kd_sI, kd_sL, kd_sR, kd_cp, ln_sI, ln_sL, ln_sR, ln_cp, gR_sI, gR_sL, gR_sR, gR_cp, gL_sI, gL_sR, gL_cp, gI_sL, gI_sR, iI_add, iI_sub, iI_mul, iI_neg, iI_in, iI_tn, iI_lt, iI_eq, Nat.reduceLeDiff, Nat.reduceEqDiff, Nat.reduceAdd, Int.reduceEq, Int.reduceLT, Int.reduceLE, Int.reduceNeg, Int.reduceAdd, Int.reduceSub, Int.reduceMul, kd1, v1, r1.2.2.2.2, r1'.2.2.2.2, g0', e2]
    rw [← sg_46_16 (by omega), stp, sg_46_45 (by omega)]
    by_cases y2 : a2.2.2 = 0
    · obtain ⟨r2, v2, w2, l2⟩ := r2 y2
      rw [bI_1 y2]
      have kd2 : mm_kd c2 w = 9 := by
        rw [← kd1]; unfold mm_kd mm_sh; rw [f2.1, f2.2.1]; rfl
      have r2' := r2.cw hw (k := 3) (v := iI a2.1)
      obtain ⟨j0, j1⟩ := r2.2.2.1
      have tr := hT.tyr j0 j1
      have pr := (hT.k j0 j1).1
      have hk2' : k2 = toS T 21 2 a2.2.1 0 := by rw [hk2, y2]
      by_cases y3 : 21 ≤ ty T a2.2.1 ∧ ty T a2.2.1 < 21 + 2
      · have k2e : k2 = (ty T a2.2.1 - 21, a2.2.1 + 1, 0) := by rw [hk2']; unfold toS; rw [if_pos rfl, if_pos y3]
        obtain ⟨c3, e3, f3, r3, k9⟩ := CR.nx (d := d - 1) hT (r2'.cw hw (k := 4) (v := iI (ty T a2.2.1 - 21))) (by omega) (hT.lt j0 j1 (by omega))
        have e106 : mm_ev d 46 88 [some (.ref 154), some (.ref w)] [] (mm_sI c2 w 3 (iI a2.1)) = some (some (some (.int (iI 1))), c3) := by
          rw [sg_46_88]
          by_cases y4 : ty T a2.2.1 = 22
          · simp (disch := omega) only [shP r2'.1.1, shT r2'.1.1, ↓reduceIte, not_false_eq_true, not_true_eq_false, and_self, and_true, true_and, false_and, and_false, or_true, true_or, or_false, false_or, or_self, reduceCtorEq, mm_q, Option.getD_some, cI_some, cJ_some, cV_some, cS_some, kd_sI, kd_sL, kd_sR, kd_cp, ln_sI, ln_sL, ln_sR, ln_cp, gR_sI, gR_sL, gR_sR, gR_cp, gL_sI, gL_sR, gL_cp, gI_sL, gI_sR, iI_add, iI_sub, iI_mul, iI_neg, iI_in, iI_tn, iI_lt, iI_eq, Nat.reduceLeDiff, Nat.reduceEqDiff, Nat.reduceAdd, Int.reduceEq, Int.reduceLT, Int.reduceLE, Int.reduceNeg, Int.reduceAdd, Int.reduceSub, Int.reduceMul, r2'.2.1.2.1, y4]
            rw [sg_46_106 (by omega)]
            rw [show ty T a2.2.1 - 21 = 1 by omega] at e3
            simp (disch := omega) only [shP r2'.1.1, shT r2'.1.1, ↓reduceIte, not_false_eq_true, not_true_eq_false, and_self, and_true, true_and, false_and, and_false, or_true, true_or, or_false, false_or, or_self, reduceCtorEq, mm_q, Option.getD_some, cI_some, cJ_some, cV_some, cS_some, kd_sI, kd_sL, kd_sR, kd_cp, ln_sI, ln_sL, ln_sR, ln_cp, gR_sI, gR_sL, gR_sR, gR_cp, gL_sI, gL_sR, gL_cp, gI_sL, gI_sR, iI_add, iI_sub, iI_mul, iI_neg, iI_in, iI_tn, iI_lt, iI_eq, Nat.reduceLeDiff, Nat.reduceEqDiff, Nat.reduceAdd, Int.reduceEq, Int.reduceLT, Int.reduceLE, Int.reduceNeg, Int.reduceAdd, Int.reduceSub, Int.reduceMul, kd2, e3]
          · simp (disch := omega) only [shP r2'.1.1, shT r2'.1.1, ↓reduceIte, not_false_eq_true, not_true_eq_false, and_self, and_true, true_and, false_and, and_false, or_true, true_or, or_false, false_or, or_self, reduceCtorEq, mm_q, Option.getD_some, cI_some, cJ_some, cV_some, cS_some, kd_sI, kd_sL, kd_sR, kd_cp, ln_sI, ln_sL, ln_sR, ln_cp, gR_sI, gR_sL, gR_sR, gR_cp, gL_sI, gL_sR, gL_cp, gI_sL, gI_sR, iI_add, iI_sub, iI_mul, iI_neg, iI_in, iI_tn, iI_lt, iI_eq, Nat.reduceLeDiff, Nat.reduceEqDiff, Nat.reduceAdd, Int.reduceEq, Int.reduceLT, Int.reduceLE, Int.reduceNeg, Int.reduceAdd, Int.reduceSub, Int.reduceMul, r2'.2.1.2.1, y4]
            rw [sg_46_106 (by omega)]
            rw [show ty T a2.2.1 - 21 = 0 by omega] at e3
            simp (disch := omega) only [shP r2'.1.1, shT r2'.1.1, ↓reduceIte, not_false_eq_true, not_true_eq_false, and_self, and_true, true_and, false_and, and_false, or_true, true_or, or_false, false_or, or_self, reduceCtorEq, mm_q, Option.getD_some, cI_some, cJ_some, cV_some, cS_some, kd_sI, kd_sL, kd_sR, kd_cp, ln_sI, ln_sL, ln_sR, ln_cp, gR_sI, gR_sL, gR_sR, gR_cp, gL_sI, gL_sR, gL_cp, gI_sL, gI_sR, iI_add, iI_sub, iI_mul, iI_neg, iI_in, iI_tn, iI_lt, iI_eq, Nat.reduceLeDiff, Nat.reduceEqDiff, Nat.reduceAdd, Int.reduceEq, Int.reduceLT, Int.reduceLE, Int.reduceNeg, Int.reduceAdd, Int.reduceSub, Int.reduceMul, kd2, e3]
        rw [k2e]
        dsimp only
        refine ⟨c3, ?_, ((((f1.BE).tr Fr.e).tr f2.BE).tr Fr.e).tr (Fr.e.tr f3.BE), fun _ => ⟨r3, ?_, ?_, ?_, fun k b2 b3 b4 => ?_, fun k => ?_⟩, fun q => absurd rfl q⟩
        · rw [bI_1 rfl]
          by_cases y4 : ty T a2.2.1 = 21
          · simp (disch := omega) only [shP r2.1.1, shT r2.1.1, ↓reduceIte, not_false_eq_true, not_true_eq_false, and_self, and_true, true_and, false_and, and_false, or_true, true_or, or_false, false_or, or_self, reduceCtorEq, mm_q, Option.getD_some, cI_some, cJ_some, cV_some, cS_some, kd_sI, kd_sL, kd_sR, kd_cp, ln_sI, ln_sL, ln_sR, ln_cp, gR_sI, gR_sL, gR_sR, gR_cp, gL_sI, gL_sR, gL_cp, gI_sL, gI_sR, iI_add, iI_sub, iI_mul, iI_neg, iI_in, iI_tn, iI_lt, iI_eq, Nat.reduceLeDiff, Nat.reduceEqDiff, Nat.reduceAdd, Int.reduceEq, Int.reduceLT, Int.reduceLE, Int.reduceNeg, Int.reduceAdd, Int.reduceSub, Int.reduceMul, kd2, v2, gI_sI, r2.2.1.2.1, y4, wc101 hw, show ¬ (101 = w ∧ 4 = 3) by omega]
            exact e106
          · simp (disch := omega) only [shP r2.1.1, shT r2.1.1, ↓reduceIte, not_false_eq_true, not_true_eq_false, and_self, and_true, true_and, false_and, and_false, or_true, true_or, or_false, false_or, or_self, reduceCtorEq, mm_q, Option.getD_some, cI_some, cJ_some, cV_some, cS_some, kd_sI, kd_sL, kd_sR, kd_cp, ln_sI, ln_sL, ln_sR, ln_cp, gR_sI, gR_sL, gR_sR, gR_cp, gL_sI, gL_sR, gL_cp, gI_sL, gI_sR, iI_add, iI_sub, iI_mul, iI_neg, iI_in, iI_tn, iI_lt, iI_eq, Nat.reduceLeDiff, Nat.reduceEqDiff, Nat.reduceAdd, Int.reduceEq, Int.reduceLT, Int.reduceLE, Int.reduceNeg, Int.reduceAdd, Int.reduceSub, Int.reduceMul, kd2, v2, gI_sI, r2.2.1.2.1, y4, show ty T a2.2.1 = 22 by omega, wc101 hw, show ¬ (101 = w ∧ 4 = 3) by omega]
            exact e106
        · rw [f3.gI (wcB hw), gI_sI, if_neg (by omega), gI_sI, if_neg (by omega), w2, gI_sI, if_pos ⟨rfl, rfl⟩]
        · rw [f3.gI (wcB hw), gI_sI, if_neg (by omega), gI_sI, if_pos ⟨rfl, rfl⟩]
        · rw [f3.gI (wcB hw), gI_sI, if_pos ⟨rfl, rfl⟩]
        · rw [f3.gI (wcB hw), gI_sI, if_neg (by omega), gI_sI, if_neg (by omega), w2, gI_sI, if_neg (by omega), w1]
        · rw [(k9 k).2]; show mm_gL c2 154 k = _; rw [l2]; exact l1 k
      · have k2e : k2 = (0, a2.2.1, 1 + 16 * tP T a2.2.1) := by rw [hk2']; unfold toS; rw [if_pos rfl, if_neg y3]
        rw [k2e]
        dsimp only
        rw [bI_0 (by omega)]
        refine ⟨mm_sI (mm_sI c2 w 3 (iI a2.1)) 154 3 (iI (1 + 16 * tP T a2.2.1)), ?_, ((((f1.BE).tr Fr.e).tr f2.BE).tr Fr.e).tr Fr.r154.BE, fun q => by omega, fun _ => by simp [gI_sI]⟩
        simp (disch := omega) only [shP r2.1.1, shT r2.1.1, ↓reduceIte, not_false_eq_true, not_true_eq_false, and_self, and_true, true_and, false_and, and_false, or_true, true_or, or_false, false_or, or_self, reduceCtorEq, mm_q, Option.getD_some, cI_some, cJ_some, cV_some, cS_some, kd_sI, kd_sL, kd_sR, kd_cp, ln_sI, ln_sL, ln_sR, ln_cp, gR_sI, gR_sL, gR_sR, gR_cp, gL_sI, gL_sR, gL_cp, gI_sL, gI_sR, iI_add, iI_sub, iI_mul, iI_neg, iI_in, iI_tn, iI_lt, iI_eq, Nat.reduceLeDiff, Nat.reduceEqDiff, Nat.reduceAdd, Int.reduceEq, Int.reduceLT, Int.reduceLE, Int.reduceNeg, Int.reduceAdd, Int.reduceSub, Int.reduceMul, kd2, v2, gI_sI, r2.2.1.2.1, show ¬ ty T a2.2.1 = 21 by omega, show ¬ ty T a2.2.1 = 22 by omega, wc101 hw, show ¬ (101 = w ∧ 4 = 3) by omega, C40 hT r2']
    · rw [bI_0 y2]
      have k2e : k2 = (0, a2.2.1, a2.2.2) := by rw [hk2]; exact to_f y2
      rw [k2e]
      dsimp only
      rw [bI_0 y2]
      refine ⟨c2, ?_, ((f1.BE).tr Fr.e).tr f2.BE, fun q => absurd q y2, q2⟩
      simp (disch := omega) only [↓reduceIte, not_false_eq_true, not_true_eq_false, and_self, and_true, true_and, false_and, and_false, or_true, true_or, or_false, false_or, or_self, reduceCtorEq, mm_q, Option.getD_some, cI_some, cJ_some, cV_some, cS_some, kd_sI, kd_sL, kd_sR, kd_cp, ln_sI, ln_sL, ln_sR, ln_cp, gR_sI, gR_sL, gR_sR, gR_cp, gL_sI, gL_sR, gL_cp, gI_sL, gI_sR, iI_add, iI_sub, iI_mul, iI_neg, iI_in, iI_tn, iI_lt, iI_eq, Nat.reduceLeDiff, Nat.reduceEqDiff, Nat.reduceAdd, Int.reduceEq, Int.reduceLT, Int.reduceLE, Int.reduceNeg, Int.reduceAdd, Int.reduceSub, Int.reduceMul]
  · rw [bI_0 y1]
    have a2e : a2 = (0, a1.2.1, a1.2.2) := by rw [ha2]; exact ta_f y1
    have k2e : k2 = (0, a1.2.1, a1.2.2) := by rw [hk2, a2e]; exact to_f y1
    rw [k2e]
    dsimp only
    rw [bI_0 y1]
    refine ⟨c1, ?_, f1.BE, fun q => absurd q y1, q1⟩
    simp (disch := omega) only [↓reduceIte, not_false_eq_true, not_true_eq_false, and_self, and_true, true_and, false_and, and_false, or_true, true_or, or_false, false_or, or_self, reduceCtorEq, mm_q, Option.getD_some, cI_some, cJ_some, cV_some, cS_some, kd_sI, kd_sL, kd_sR, kd_cp, ln_sI, ln_sL, ln_sR, ln_cp, gR_sI, gR_sL, gR_sR, gR_cp, gL_sI, gL_sR, gL_cp, gI_sL, gI_sR, iI_add, iI_sub, iI_mul, iI_neg, iI_in, iI_tn, iI_lt, iI_eq, Nat.reduceLeDiff, Nat.reduceEqDiff, Nat.reduceAdd, Int.reduceEq, Int.reduceLT, Int.reduceLE, Int.reduceNeg, Int.reduceAdd, Int.reduceSub, Int.reduceMul]
/-- readGait -/
theorem C47 (hT : TS D n T N) (h : CR D n T N i s c) (hw : isWc s w) (hk : mm_kd c w = 9) (hd : 11 ≤ d) {a3 a4 : Int × Int × Int} (ha3 : a3 = taS T 10 1 9 i 0) (ha4 : a4 = taS T 11 0 99 a3.2.1 a3.2.2) : ∃ c', mm_ev d 47 0 [some (.ref 154), some (.ref w)] [] c = some (some (some (.int (iI (bI (decide (a4.2.2 = 0)))))), c') ∧ Fr (scE w) c c' ∧ (a4.2.2 = 0 → CR D n T N a4.2.1 s c' ∧ mm_gI c' w 5 = iI a3.1 ∧ mm_gI c' w 6 = iI a4.1 ∧ (∀ k, ¬ k = 5 → ¬ k = 6 → mm_gI c' w k = mm_gI c w k) ∧ (∀ k, mm_gL c' 154 k = mm_gL c 154 k)) ∧ (¬ a4.2.2 = 0 → mm_gI c' 154 3 = iI a4.2.2) := by
  have hst := hw.1
  obtain ⟨i0, i1⟩ := h.2.2.1
  obtain ⟨c1, e1, f1, r1, q1⟩ := CWn (d := d - 1) (x := 10) (lo := 1) (hi := 9) hT h hw (by omega) (by omega) (by omega) (by omega) (by omega) (by omega) (by omega)
  rw [← ha3] at e1 r1 q1
  rw [sg_47_0 (by omega)]
  simp (disch := omega) only [shP h.1.1, ↓reduceIte, not_false_eq_true, not_true_eq_false, and_self, and_true, true_and, false_and, and_false, or_true, true_or, or_false, false_or, or_self, reduceCtorEq, mm_q, Option.getD_some, cI_some, cJ_some, cV_some, cS_some, kd_sI, kd_sL, kd_sR, kd_cp, ln_sI, ln_sL, ln_sR, ln_cp, gR_sI, gR_sL, gR_sR, gR_cp, gL_sI, gL_sR, gL_cp, gI_sL, gI_sR, iI_add, iI_sub, iI_mul, iI_neg, iI_in, iI_tn, iI_lt, iI_eq, Nat.reduceLeDiff, Nat.reduceEqDiff, Nat.reduceAdd, Int.reduceEq, Int.reduceLT, Int.reduceLE, Int.reduceNeg, Int.reduceAdd, Int.reduceSub, Int.reduceMul, e1]
  rw [sg_47_9 (by omega)]
  by_cases y1 : a3.2.2 = 0
  · obtain ⟨r1, v1, w1, l1⟩ := r1 y1
    rw [bI_1 y1]
    have kd1 : mm_kd c1 w = 9 := by
      rw [← hk]; unfold mm_kd mm_sh; rw [f1.1, f1.2.1]
    have r1' := r1.cw hw (k := 5) (v := iI a3.1)
    obtain ⟨c2, e2, f2, r2, q2⟩ := CWn (d := d - 1) (x := 11) (lo := 0) (hi := 99) hT r1' hw (by omega) (by omega) (by omega) (by omega) (by omega) (by omega) (by omega)
    rw [show taS T 11 0 99 a3.2.1 0 = a4 by rw [ha4, y1]] at e2 r2 q2
    by_cases y2 : a4.2.2 = 0
    · obtain ⟨r2, v2, w2, l2⟩ := r2 y2
      rw [bI_1 y2] at e2 ⊢
      have kd2 : mm_kd c2 w = 9 := by
        rw [← kd1]; unfold mm_kd mm_sh; rw [f2.1, f2.2.1]; rfl
      refine ⟨mm_sI c2 w 6 (iI a4.1), ?_, ((f1.BE.tr Fr.e).tr f2.BE).tr Fr.e, fun _ => ⟨r2.cw hw, ?_, ?_, fun k b5 b6 => ?_, fun k => ?_⟩, fun q => absurd y2 q⟩
      · simp (disch := omega) only [shP r1.1.1, shP r1'.1.1, shP r2.1.1, ↓reduceIte, not_false_eq_true, not_true_eq_false, and_self, and_true, true_and, false_and, and_false, or_true, true_or, or_false, false_or, or_self, reduceCtorEq, mm_q, Option.getD_some, cI_some, cJ_some, cV_some, cS_some, kd_sI, kd_sL, kd_sR, kd_cp, ln_sI, ln_sL, ln_sR, ln_cp, gR_sI, gR_sL, gR_sR, gR_cp, gL_sI, gL_sR, gL_cp, gI_sL, gI_sR, iI_add, iI_sub, iI_mul, iI_neg, iI_in, iI_tn, iI_lt, iI_eq, Nat.reduceLeDiff, Nat.reduceEqDiff, Nat.reduceAdd, Int.reduceEq, Int.reduceLT, Int.reduceLE, Int.reduceNeg, Int.reduceAdd, Int.reduceSub, Int.reduceMul, kd1, kd2, v1, v2, e2]
      · rw [gI_sI, if_neg (by omega), w2, gI_sI, if_pos ⟨rfl, rfl⟩]
      · rw [gI_sI, if_pos ⟨rfl, rfl⟩]
      · rw [gI_sI, if_neg (by omega), w2, gI_sI, if_neg (by omega), w1]
      · rw [gL_sI, l2, gL_sI, l1]
    · rw [bI_0 y2] at e2 ⊢
      refine ⟨c2, ?_, (f1.BE.tr Fr.e).tr f2.BE, fun q => absurd q y2, q2⟩
      simp (disch := omega) only [shP r1.1.1, shP r1'.1.1, ↓reduceIte, not_false_eq_true, not_true_eq_false, and_self, and_true, true_and, false_and, and_false, or_true, true_or, or_false, false_or, or_self, reduceCtorEq, mm_q, Option.getD_some, cI_some, cJ_some, cV_some, cS_some, kd_sI, kd_sL, kd_sR, kd_cp, ln_sI, ln_sL, ln_sR, ln_cp, gR_sI, gR_sL, gR_sR, gR_cp, gL_sI, gL_sR, gL_cp, gI_sL, gI_sR, iI_add, iI_sub, iI_mul, iI_neg, iI_in, iI_tn, iI_lt, iI_eq, Nat.reduceLeDiff, Nat.reduceEqDiff, Nat.reduceAdd, Int.reduceEq, Int.reduceLT, Int.reduceLE, Int.reduceNeg, Int.reduceAdd, Int.reduceSub, Int.reduceMul, kd1, v1, e2]
  · rw [bI_0 y1]
    have a4e : a4 = (0, a3.2.1, a3.2.2) := by rw [ha4]; exact ta_f y1
    rw [a4e]
    dsimp only
    rw [bI_0 y1]
    refine ⟨c1, ?_, f1.BE, fun q => absurd q y1, q1⟩
    simp (disch := omega) only [↓reduceIte, not_false_eq_true, not_true_eq_false, and_self, and_true, true_and, false_and, and_false, or_true, true_or, or_false, false_or, or_self, reduceCtorEq, mm_q, Option.getD_some, cI_some, cJ_some, cV_some, cS_some, kd_sI, kd_sL, kd_sR, kd_cp, ln_sI, ln_sL, ln_sR, ln_cp, gR_sI, gR_sL, gR_sR, gR_cp, gL_sI, gL_sR, gL_cp, gI_sL, gI_sR, iI_add, iI_sub, iI_mul, iI_neg, iI_in, iI_tn, iI_lt, iI_eq, Nat.reduceLeDiff, Nat.reduceEqDiff, Nat.reduceAdd, Int.reduceEq, Int.reduceLT, Int.reduceLE, Int.reduceNeg, Int.reduceAdd, Int.reduceSub, Int.reduceMul]
/-- readCue -/
theorem C48 (hT : TS D n T N) (h : CR D n T N i s c) (hw : isWc s w) (hk : mm_kd c w = 9) (hd : 11 ≤ d) (hN : NR Y W cnt a b s c) (ha : mm_gI c s 7 = iI a) (hb : (w : Int) = s + 13 + b) {cu : Int × Int × Int} (hcu : cu = cuS T Y W cnt i 0) : ∃ c', mm_ev d 48 0 [some (.ref 154), some (.ref w)] [] c = some (some (some (.int (iI (bI (decide (cu.2.2 = 0)))))), c') ∧ Fr (scE w) c c' ∧ (cu.2.2 = 0 → CR D n T N cu.2.1 s c' ∧ mm_gI c' w 7 = iI cu.1 ∧ (∀ k, ¬ k = 7 → mm_gI c' w k = mm_gI c w k) ∧ (∀ k, mm_gL c' 154 k = mm_gL c 154 k)) ∧ (¬ cu.2.2 = 0 → mm_gI c' 154 3 = iI cu.2.2) := by
  have hst := hw.1
  obtain ⟨i0, i1⟩ := h.2.2.1
  have tr := hT.tyr i0 i1
  have h' := h.cw hw (k := 7) (v := iI (-1))
  rw [sg_48_0 (by omega)]
  by_cases z : ty T i = 12
  · have iN := hT.lt i0 i1 (by omega)
    obtain ⟨c1, e1, f1, r1, k9⟩ := CR.nx (d := d - 1) hT h' (by omega) iN
    have hN0 : NR Y W cnt a b s (mm_sI c w 7 (iI (-1))) := hN.same (fun x => rfl)
    have ha1 : mm_gI c1 s 7 = iI a := by
      rw [f1.gI (scB_st hst (by omega) (by omega)), gI_sI, if_neg (by have := hw.2; omega)]; exact ha
    obtain ⟨c2, e2, f2, r2, q2⟩ := C49 (d := d - 1) hT r1 (by omega) (hN0.br hst f1) ha1
    have cue : cu = ((thS T Y W cnt 0 6 (i + 1) 0).1, if 0 < (thS T Y W cnt 0 6 (i + 1) 0).2 then i + 1 else i + 1 + 1, (thS T Y W cnt 0 6 (i + 1) 0).2) := by rw [hcu]; unfold cuS; rw [if_pos ⟨rfl, z⟩]
    generalize thS T Y W cnt 0 6 (i + 1) 0 = t at e2 r2 q2 cue
    rw [cue]
    dsimp only
    by_cases y : t.2 = 0
    · obtain ⟨r2, v2, iN1, l2⟩ := r2 y
      have kd2 : mm_kd c2 w = 9 := by
        rw [← hk]; unfold mm_kd mm_sh; rw [f2.1, f2.2.1, f1.1, f1.2.1]; rfl
      obtain ⟨c3, e3, f3, r3, k8⟩ := CR.nx (d := d - 1) hT (r2.cw hw (k := 7) (v := iI t.1)) (by omega) iN1
      rw [bI_1 y] at e2 ⊢
      rw [if_neg (show ¬ 0 < t.2 by omega)]
      refine ⟨c3, ?_, ((Fr.e.tr f1.BE).tr f2.BE).tr (Fr.e.tr f3.BE), fun _ => ⟨r3, ?_, fun k b7 => ?_, fun k => ?_⟩, fun q => absurd y q⟩
      · simp (disch := omega) only [shP h.1.1, shP h'.1.1, shP r1.1.1, shT h'.1.1, ↓reduceIte, not_false_eq_true, not_true_eq_false, and_self, and_true, true_and, false_and, and_false, or_true, true_or, or_false, false_or, or_self, reduceCtorEq, mm_q, Option.getD_some, cI_some, cJ_some, cV_some, cS_some, kd_sI, kd_sL, kd_sR, kd_cp, ln_sI, ln_sL, ln_sR, ln_cp, gR_sI, gR_sL, gR_sR, gR_cp, gL_sI, gL_sR, gL_cp, gI_sL, gI_sR, iI_add, iI_sub, iI_mul, iI_neg, iI_in, iI_tn, iI_lt, iI_eq, Nat.reduceLeDiff, Nat.reduceEqDiff, Nat.reduceAdd, Int.reduceEq, Int.reduceLT, Int.reduceLE, Int.reduceNeg, Int.reduceAdd, Int.reduceSub, Int.reduceMul, hk, h'.2.1.2.1, z, e1, e2]
        rw [sg_48_30 (by omega)]
        simp (disch := omega) only [shP r2.1.1, shT r2.1.1, ↓reduceIte, not_false_eq_true, not_true_eq_false, and_self, and_true, true_and, false_and, and_false, or_true, true_or, or_false, false_or, or_self, reduceCtorEq, mm_q, Option.getD_some, cI_some, cJ_some, cV_some, cS_some, kd_sI, kd_sL, kd_sR, kd_cp, ln_sI, ln_sL, ln_sR, ln_cp, gR_sI, gR_sL, gR_sR, gR_cp, gL_sI, gL_sR, gL_cp, gI_sL, gI_sR, iI_add, iI_sub, iI_mul, iI_neg, iI_in, iI_tn, iI_lt, iI_eq, Nat.reduceLeDiff, Nat.reduceEqDiff, Nat.reduceAdd, Int.reduceEq, Int.reduceLT, Int.reduceLE, Int.reduceNeg, Int.reduceAdd, Int.reduceSub, Int.reduceMul, v2, kd2, e3]
      · rw [f3.gI (wcB hw), gI_sI, if_pos ⟨rfl, rfl⟩]
      · rw [f3.gI (wcB hw), gI_sI, if_neg (by omega), f2.gI (wcB hw), f1.gI (wcB hw), gI_sI, if_neg (by omega)]
      · rw [(k8 k).2]; show mm_gL c2 154 k = _; rw [l2, (k9 k).2]; rfl
    · rw [bI_0 y] at e2 ⊢
      refine ⟨c2, ?_, (Fr.e.tr f1.BE).tr f2.BE, fun q => absurd q y, q2⟩
      simp (disch := omega) only [shP h.1.1, shP h'.1.1, shP r1.1.1, shT h'.1.1, ↓reduceIte, not_false_eq_true, not_true_eq_false, and_self, and_true, true_and, false_and, and_false, or_true, true_or, or_false, false_or, or_self, reduceCtorEq, mm_q, Option.getD_some, cI_some, cJ_some, cV_some, cS_some, kd_sI, kd_sL, kd_sR, kd_cp, ln_sI, ln_sL, ln_sR, ln_cp, gR_sI, gR_sL, gR_sR, gR_cp, gL_sI, gL_sR, gL_cp, gI_sL, gI_sR, iI_add, iI_sub, iI_mul, iI_neg, iI_in, iI_tn, iI_lt, iI_eq, Nat.reduceLeDiff, Nat.reduceEqDiff, Nat.reduceAdd, Int.reduceEq, Int.reduceLT, Int.reduceLE, Int.reduceNeg, Int.reduceAdd, Int.reduceSub, Int.reduceMul, hk, h'.2.1.2.1, z, e1, e2]
      rw [sg_48_30 (by omega)]
      simp (disch := omega) only [↓reduceIte, not_false_eq_true, not_true_eq_false, and_self, and_true, true_and, false_and, and_false, or_true, true_or, or_false, false_or, or_self, reduceCtorEq, mm_q, Option.getD_some, cI_some, cJ_some, cV_some, cS_some, kd_sI, kd_sL, kd_sR, kd_cp, ln_sI, ln_sL, ln_sR, ln_cp, gR_sI, gR_sL, gR_sR, gR_cp, gL_sI, gL_sR, gL_cp, gI_sL, gI_sR, iI_add, iI_sub, iI_mul, iI_neg, iI_in, iI_tn, iI_lt, iI_eq, Nat.reduceLeDiff, Nat.reduceEqDiff, Nat.reduceAdd, Int.reduceEq, Int.reduceLT, Int.reduceLE, Int.reduceNeg, Int.reduceAdd, Int.reduceSub, Int.reduceMul]
  · have cue : cu = (-1, i, 0) := by rw [hcu]; unfold cuS; rw [if_neg (fun q => z q.2)]
    rw [cue]
    dsimp only
    rw [bI_1 rfl]
    refine ⟨mm_sI c w 7 (iI (-1)), ?_, Fr.e, fun _ => ⟨h', ?_, fun k b7 => ?_, fun k => rfl⟩, fun q => absurd rfl q⟩
    · simp (disch := omega) only [shP h.1.1, shP h'.1.1, shT h'.1.1, ↓reduceIte, not_false_eq_true, not_true_eq_false, and_self, and_true, true_and, false_and, and_false, or_true, true_or, or_false, false_or, or_self, reduceCtorEq, mm_q, Option.getD_some, cI_some, cJ_some, cV_some, cS_some, kd_sI, kd_sL, kd_sR, kd_cp, ln_sI, ln_sL, ln_sR, ln_cp, gR_sI, gR_sL, gR_sR, gR_cp, gL_sI, gL_sR, gL_cp, gI_sL, gI_sR, iI_add, iI_sub, iI_mul, iI_neg, iI_in, iI_tn, iI_lt, iI_eq, Nat.reduceLeDiff, Nat.reduceEqDiff, Nat.reduceAdd, Int.reduceEq, Int.reduceLT, Int.reduceLE, Int.reduceNeg, Int.reduceAdd, Int.reduceSub, Int.reduceMul, hk, h'.2.1.2.1, z]
    · rw [gI_sI, if_pos ⟨rfl, rfl⟩]
    · rw [gI_sI, if_neg (by omega)]
end
