/-- one TAKE: the walker or the like, the number -/
def tkV (T : TK) (Y : Nat → Int64) (W : Nat → Int32) (cnt w i : Int) : Int × Int × Int := if w < 3 then ((thS T Y W cnt 20 8 i 0).1, (if 0 < (thS T Y W cnt 20 8 i 0).2 then i else i + 1), (thS T Y W cnt 20 8 i 0).2) else (0, i, 0)
def tkU (T : TK) (L w i f : Int) : Int × Int × Int := if w = 0 then tnS T 0 (L - 1) i f else if w = 2 then tnS T 0 99 i f else (0, i, f)
def sc329 (a _k : Nat) : Bool := Nat.beq a 329
section
variable {D : Nat → Nat → Int32} {E : Nat → Nat → Int64} {m m' c c' c'' : mm_M} {d s : Nat} {n N i f : Int} {T : TK} {Y : Nat → Int64} {W : Nat → Int32} {cnt k w v Ln : Int}
theorem Fr.s329 {j : Nat} {x : Int32} (j0 : 100 ≤ j) : Fr scM m (mm_sI m 329 j x) := Fr.sI (scM_t (by omega))
theorem PF.k9 (h : PF D E T N i f m) {j : Nat} {x : Int32} (j0 : 100 ≤ j) : PF D E T N i f (mm_sI m 329 j x) := h.o (P := sc329) (Fr.s329 j0) (Fr.sI rfl) (fun a k y => nb (by omega))
theorem at329 (g : Fr scAt m m') {x : Nat} : mm_gI m' 329 x = mm_gI m 329 x := g.gI (scAt_o (by omega))
/-- the end of a line -/
theorem M198r (hT : TS D n T N) (h : PF D E T N i f m) (hd : 3 ≤ d) : ∃ m', mm_ev d 198 165 [some (.ref 316), some (.int (iI (k))), some (.int (iI (w)))] [] m = mm_ev d 198 11 [some (.ref 316), some (.int (iI (k))), some (.int (iI (w)))] [] m' ∧ PF D E T N (twS T 59 i f).1 (twS T 59 i f).2 m' ∧ Fr scAt m m' := by
  obtain ⟨m', e, h', g⟩ := M175 (d := d - 1) hT h (by omega) (w := 59) (by unfold sgn; omega)
  refine ⟨m', ?_, h', g⟩
  rw [sg_198_165 (by omega)]
  simp (disch := omega) only [shM h.1.1, ↓reduceIte, not_false_eq_true, not_true_eq_false, and_self, and_true, true_and, false_and, and_false, or_true, true_or, or_false, false_or, or_self, reduceCtorEq, mm_q, Option.getD_some, cI_some, cJ_some, cV_some, cS_some, kd_sI, kd_sL, kd_sR, kd_cp, ln_sI, ln_sL, ln_sR, ln_cp, gR_sI, gR_sL, gR_sR, gR_cp, gL_sI, gL_sR, gL_cp, gI_sL, gI_sR, iI_add, iI_sub, iI_mul, iI_neg, iI_in, iI_tn, iI_lt, iI_eq, Nat.reduceLeDiff, Nat.reduceEqDiff, Nat.reduceAdd, Int.reduceEq, Int.reduceLT, Int.reduceLE, Int.reduceNeg, Int.reduceAdd, Int.reduceSub, Int.reduceMul, e]
/-- the head of a line -/
theorem M198h (hT : TS D n T N) (hE : EK E) (h : PF D E T N i 0 m) (iN : i < N) (hd : 3 ≤ d) {x : Int32} {z : Option Value} : mm_ev d 198 11 [some (.ref 316), some (.int x), z] [] m = mm_ev d 198 37 [some (.ref 316), some (.int x), z] [.int (iI (if 17 ≤ ty T i ∧ ty T i < 21 then ty T i - 17 else -1))] m := by
  have e1 := M181 (d := d - 1) hT hE h (by omega) (a := 17) (c := 4) (by omega) (by omega) (by omega)
  have e1' : mm_ev (d - 1) 181 0 [some (.ref 316), some (.int (iI 17)), some (.int (iI 4)), none, none] [] m = some (some (some (.int (iI (if 17 ≤ ty T i ∧ ty T i < 21 then ty T i - 17 else -1)))), m) := by
    rw [e1]
    simp
  obtain ⟨⟨p0, p1⟩, hk⟩ := hT.k h.2.2.2.2.1.1 h.2.2.2.2.1.2
  obtain ⟨hM, hK, h7, h8, ⟨i0, i1⟩, f0, f1⟩ := h
  obtain ⟨k1, k2, k3⟩ := hK i i0 i1
  have n2 := hT.1
  have sN : ¬ tS T i = 0 := by omega
  have sR : 0 ≤ tS T i ∧ tS T i ≤ 4 := by omega
  rw [sg_198_11 (by omega)]
  simp (disch := omega) only [shM hM.1, ↓reduceIte, not_false_eq_true, not_true_eq_false, and_self, and_true, true_and, false_and, and_false, or_true, true_or, or_false, false_or, or_self, reduceCtorEq, mm_q, Option.getD_some, cI_some, cJ_some, cV_some, cS_some, kd_sI, kd_sL, kd_sR, kd_cp, ln_sI, ln_sL, ln_sR, ln_cp, gR_sI, gR_sL, gR_sR, gR_cp, gL_sI, gL_sR, gL_cp, gI_sL, gI_sR, iI_add, iI_sub, iI_mul, iI_neg, iI_in, iI_tn, iI_lt, iI_eq, Nat.reduceLeDiff, Nat.reduceEqDiff, Nat.reduceAdd, Int.reduceEq, Int.reduceLT, Int.reduceLE, Int.reduceNeg, Int.reduceAdd, Int.reduceSub, Int.reduceMul, h7, h8, k1, sN, e1']
/-- the second half -/
theorem M198m (hT : TS D n T N) (h : PF D E T N i f m) (w0 : 0 ≤ w) (w1 : w < 4) (k0 : 0 ≤ k) (k1 : k < 30) (hL : mm_gI m 322 0 = iI Ln) (l0 : 4 ≤ Ln) (l1 : Ln ≤ 40) (hd : 6 ≤ d) : ∃ m', mm_ev d 198 114 [some (.ref 316), some (.int (iI (k))), some (.int (iI (w)))] [.int (iI v), .int (iI (101 + 3 * k)), .ref 329] m = mm_ev d 198 165 [some (.ref 316), some (.int (iI (k + 1))), some (.int (iI (w)))] [] m' ∧ PF D E T N (tkU T Ln w i f).2.1 (tkU T Ln w i f).2.2 m' ∧ Fr scM m m' ∧ mm_gI m' 329 (101 + 3 * k).toNat = iI v ∧ mm_gI m' 329 (102 + 3 * k).toNat = iI (tkU T Ln w i f).1 ∧ ∀ x : Nat, ¬ (x : Int) = 101 + 3 * k → ¬ (x : Int) = 102 + 3 * k → mm_gI m' 329 x = mm_gI m 329 x := by
  have h1 := h.k9 (j := (101 + 3 * k).toNat) (x := iI v) (by omega)
  have g1 : Fr scM m (mm_sI m 329 (101 + 3 * k).toNat (iI v)) := Fr.s329 (by omega)
  have en : ∀ (m2 : mm_M) (u : Int), Sh m2 → mm_ev d 198 161 [some (.ref 316), some (.int (iI (k))), some (.int (iI (w)))] [.int (iI u), .int (iI (102 + 3 * k)), .ref 329] m2 = mm_ev d 198 165 [some (.ref 316), some (.int (iI (k + 1))), some (.int (iI (w)))] [] (mm_sI m2 329 (102 + 3 * k).toNat (iI u)) := fun m2 u hs => by
    rw [sg_198_161]
    simp (disch := omega) only [shM hs, ↓reduceIte, not_false_eq_true, not_true_eq_false, and_self, and_true, true_and, false_and, and_false, or_true, true_or, or_false, false_or, or_self, reduceCtorEq, mm_q, Option.getD_some, cI_some, cJ_some, cV_some, cS_some, kd_sI, kd_sL, kd_sR, kd_cp, ln_sI, ln_sL, ln_sR, ln_cp, gR_sI, gR_sL, gR_sR, gR_cp, gL_sI, gL_sR, gL_cp, gI_sL, gI_sR, iI_add, iI_sub, iI_mul, iI_neg, iI_in, iI_tn, iI_lt, iI_eq, Nat.reduceLeDiff, Nat.reduceEqDiff, Nat.reduceAdd, Int.reduceEq, Int.reduceLT, Int.reduceLE, Int.reduceNeg, Int.reduceAdd, Int.reduceSub, Int.reduceMul]
  have fin : ∀ (m2 : mm_M) (u : Int), Fr scAt (mm_sI m 329 (101 + 3 * k).toNat (iI v)) m2 → mm_gI (mm_sI m2 329 (102 + 3 * k).toNat (iI u)) 329 (101 + 3 * k).toNat = iI v ∧ mm_gI (mm_sI m2 329 (102 + 3 * k).toNat (iI u)) 329 (102 + 3 * k).toNat = iI u ∧ ∀ x : Nat, ¬ (x : Int) = 101 + 3 * k → ¬ (x : Int) = 102 + 3 * k → mm_gI (mm_sI m2 329 (102 + 3 * k).toNat (iI u)) 329 x = mm_gI m 329 x := fun m2 u g => by
    refine ⟨?_, ?_, fun x x0 x1 => ?_⟩
    · rw [gI_sI, if_neg (by omega), at329 g, gI_sI, if_pos ⟨rfl, rfl⟩]
    · rw [gI_sI, if_pos ⟨rfl, rfl⟩]
    · rw [gI_sI, if_neg (by omega), at329 g, gI_sI, if_neg (by omega)]
  have hL1 : mm_gI (mm_sI m 329 (101 + 3 * k).toNat (iI v)) 322 0 = iI Ln := by rw [gI_sI, if_neg (by omega)]; exact hL
  by_cases z0 : w = 0
  · subst z0
    obtain ⟨m2, e2, h2, g2⟩ := M173 (d := d - 1) hT h1 (by omega) (lo := 0) (hi := Ln - 1) (by omega) (by omega) (by omega) (by omega)
    have q : tkU T Ln 0 i f = tnS T 0 (Ln - 1) i f := by unfold tkU; rw [if_pos rfl]
    rw [q]
    refine ⟨mm_sI m2 329 (102 + 3 * k).toNat (iI (tnS T 0 (Ln - 1) i f).1), ?_, h2.k9 (by omega), (g1.tr g2.AtM).tr (Fr.s329 (by omega)), fin _ _ g2⟩
    rw [sg_198_114 (by omega), ← en _ _ h2.1.1]
    simp (disch := omega) only [shM h.1.1, shM h1.1.1, ↓reduceIte, not_false_eq_true, not_true_eq_false, and_self, and_true, true_and, false_and, and_false, or_true, true_or, or_false, false_or, or_self, reduceCtorEq, mm_q, Option.getD_some, cI_some, cJ_some, cV_some, cS_some, kd_sI, kd_sL, kd_sR, kd_cp, ln_sI, ln_sL, ln_sR, ln_cp, gR_sI, gR_sL, gR_sR, gR_cp, gL_sI, gL_sR, gL_cp, gI_sL, gI_sR, iI_add, iI_sub, iI_mul, iI_neg, iI_in, iI_tn, iI_lt, iI_eq, Nat.reduceLeDiff, Nat.reduceEqDiff, Nat.reduceAdd, Int.reduceEq, Int.reduceLT, Int.reduceLE, Int.reduceNeg, Int.reduceAdd, Int.reduceSub, Int.reduceMul, Int.toNat_zero, hL1, e2]
  · by_cases z2 : w = 2
    · subst z2
      obtain ⟨m2, e2, h2, g2⟩ := M173 (d := d - 1) hT h1 (by omega) (lo := 0) (hi := 99) (by omega) (by omega) (by omega) (by omega)
      have q : tkU T Ln 2 i f = tnS T 0 99 i f := by unfold tkU; rw [if_neg (by omega), if_pos rfl]
      rw [q]
      refine ⟨mm_sI m2 329 (102 + 3 * k).toNat (iI (tnS T 0 99 i f).1), ?_, h2.k9 (by omega), (g1.tr g2.AtM).tr (Fr.s329 (by omega)), fin _ _ g2⟩
      rw [sg_198_114 (by omega), ← en _ _ h2.1.1]
      simp (disch := omega) only [shM h.1.1, shM h1.1.1, ↓reduceIte, not_false_eq_true, not_true_eq_false, and_self, and_true, true_and, false_and, and_false, or_true, true_or, or_false, false_or, or_self, reduceCtorEq, mm_q, Option.getD_some, cI_some, cJ_some, cV_some, cS_some, kd_sI, kd_sL, kd_sR, kd_cp, ln_sI, ln_sL, ln_sR, ln_cp, gR_sI, gR_sL, gR_sR, gR_cp, gL_sI, gL_sR, gL_cp, gI_sL, gI_sR, iI_add, iI_sub, iI_mul, iI_neg, iI_in, iI_tn, iI_lt, iI_eq, Nat.reduceLeDiff, Nat.reduceEqDiff, Nat.reduceAdd, Int.reduceEq, Int.reduceLT, Int.reduceLE, Int.reduceNeg, Int.reduceAdd, Int.reduceSub, Int.reduceMul, e2]
    · have q : tkU T Ln w i f = (0, i, f) := by unfold tkU; rw [if_neg z0, if_neg z2]
      rw [q]
      refine ⟨mm_sI (mm_sI m 329 (101 + 3 * k).toNat (iI v)) 329 (102 + 3 * k).toNat (iI 0), ?_, h1.k9 (by omega), g1.tr (Fr.s329 (by omega)), fin _ _ Fr.rf⟩
      rw [sg_198_114 (by omega), ← en _ _ h1.1.1]
      simp (disch := omega) only [shM h.1.1, shM h1.1.1, ↓reduceIte, not_false_eq_true, not_true_eq_false, and_self, and_true, true_and, false_and, and_false, or_true, true_or, or_false, false_or, or_self, reduceCtorEq, mm_q, Option.getD_some, cI_some, cJ_some, cV_some, cS_some, kd_sI, kd_sL, kd_sR, kd_cp, ln_sI, ln_sL, ln_sR, ln_cp, gR_sI, gR_sL, gR_sR, gR_cp, gL_sI, gL_sR, gL_cp, gI_sL, gI_sR, iI_add, iI_sub, iI_mul, iI_neg, iI_in, iI_tn, iI_lt, iI_eq, Nat.reduceLeDiff, Nat.reduceEqDiff, Nat.reduceAdd, Int.reduceEq, Int.reduceLT, Int.reduceLE, Int.reduceNeg, Int.reduceAdd, Int.reduceSub, Int.reduceMul, z0, z2]
theorem PF.L0 (h : PF D E T N i f m) : mm_gI m 322 0 = iI (st D 0) := MD_st h.1 (i := 0) (by omega) (by omega)
/-- a good line -/
theorem M198g (hT : TS D n T N) (hE : EK E) (h : PF D E T N i 0 m) (iN : i < N) (w0 : 0 ≤ w) (w1 : w < 4) (k0 : 0 ≤ k) (k1 : k < 30) (l0 : 4 ≤ st D 0) (l1 : st D 0 ≤ 40) (hc : (D 316 18).toInt = cnt) (c0 : 0 ≤ cnt) (c1 : cnt ≤ 14) (hr : ∀ u, -1 ≤ fdGo (fun k => E 325 k) (D 327) u cnt.toNat 0 ∧ fdGo (fun k => E 325 k) (D 327) u cnt.toNat 0 ≤ 100) (hd : 8 ≤ d) {z : Option Value} {a b : Int × Int × Int} {t : Int × Int} (ha : a = tkV T (fun k => E 325 k) (D 327) cnt w (i + 1)) (hb : b = tkU T (st D 0) w a.2.1 a.2.2) (ht : t = twS T 59 b.2.1 b.2.2) : ∃ m', mm_ev d 198 37 [some (.ref 316), some (.int (iI (k))), z] [.int (iI w)] m = mm_ev d 198 11 [some (.ref 316), some (.int (iI (k + 1))), some (.int (iI (w)))] [] m' ∧ PF D E T N t.1 t.2 m' ∧ Fr scM m m' ∧ mm_gI m' 329 (100 + 3 * k).toNat = iI w ∧ mm_gI m' 329 (101 + 3 * k).toNat = iI a.1 ∧ mm_gI m' 329 (102 + 3 * k).toNat = iI b.1 ∧ ∀ x : Nat, (x : Int) < 100 + 3 * k → mm_gI m' 329 x = mm_gI m 329 x := by
  have n2 := hT.1
  obtain ⟨i0, i1⟩ := h.2.2.2.2.1
  have h7 := h.2.2.1
  have h1 := (h.at (j := i + 1) (by omega) (by omega)).k9 (j := (100 + 3 * k).toNat) (x := iI w) (by omega)
  have g1 : Fr scM m (mm_sI (mm_sI m 316 7 (iI (i + 1))) 329 (100 + 3 * k).toNat (iI w)) := Fr.at7.AtM.tr (Fr.s329 (by omega))
  have v1 : ∀ x : Nat, mm_gI (mm_sI (mm_sI m 316 7 (iI (i + 1))) 329 (100 + 3 * k).toNat (iI w)) 329 x = if (x : Int) = 100 + 3 * k then iI w else mm_gI m 329 x := fun x => by
    by_cases y : (x : Int) = 100 + 3 * k
    · rw [gI_sI, if_pos ⟨rfl, by omega⟩, if_pos y]
    · rw [gI_sI, if_neg (by omega), gI_sI, if_neg (by omega), if_neg y]
  have first : ∃ m2, mm_ev d 198 37 [some (.ref 316), some (.int (iI (k))), z] [.int (iI w)] m = mm_ev d 198 114 [some (.ref 316), some (.int (iI (k))), some (.int (iI (w)))] [.int (iI a.1), .int (iI (101 + 3 * k)), .ref 329] m2 ∧ PF D E T N a.2.1 a.2.2 m2 ∧ Fr scAt (mm_sI (mm_sI m 316 7 (iI (i + 1))) 329 (100 + 3 * k).toNat (iI w)) m2 := by
    by_cases z3 : w < 3
    · have hm := h1.1
      have hc' : mm_gI (mm_sI (mm_sI m 316 7 (iI (i + 1))) 329 (100 + 3 * k).toNat (iI w)) 316 (if false = true then 19 else 18) = iI cnt := by
        rw [if_neg (by decide), hm.2.1 316 18 rfl, ← hc, iI_toInt]
      have hn : NMm (fun k => E 325 k) (D 327) cnt (if false = true then 326 else 325) (if false = true then 328 else 327) (mm_sI (mm_sI m 316 7 (iI (i + 1))) 329 (100 + 3 * k).toNat (iI w)) := fun j hj => by
        rw [if_neg (by decide), if_neg (by decide)]
        refine ⟨hm.2.2 325 j rfl, hm.2.1 327 j ?_⟩
        have : Nat.blt j 14 = true := by rw [Nat.blt_eq]; omega
        unfold pmI
        rw [this]
        simp
      obtain ⟨m2, e2, h2, g2⟩ := M186 (d := d - 1) (b := false) hT hE h1 (by omega) hc' c0 c1 hn (hr _) (a := 20) (c := 8) (by omega) (by omega) (by omega) (by omega)
      have q : a = ((thS T (fun k => E 325 k) (D 327) cnt 20 8 (i + 1) 0).1, (if 0 < (thS T (fun k => E 325 k) (D 327) cnt 20 8 (i + 1) 0).2 then i + 1 else i + 1 + 1), (thS T (fun k => E 325 k) (D 327) cnt 20 8 (i + 1) 0).2) := by rw [ha]; unfold tkV; rw [if_pos z3]
      have q1 : a.1 = (thS T (fun k => E 325 k) (D 327) cnt 20 8 (i + 1) 0).1 := by rw [q]
      have q2 : a.2.1 = (if 0 < (thS T (fun k => E 325 k) (D 327) cnt 20 8 (i + 1) 0).2 then i + 1 else i + 1 + 1) := by rw [q]
      have q3 : a.2.2 = (thS T (fun k => E 325 k) (D 327) cnt 20 8 (i + 1) 0).2 := by rw [q]
      rw [← q1] at e2
      rw [← q2, ← q3] at h2
      have e2' : mm_ev (d - 1) 186 0 [some (.ref 316), some (.int (iI 0)), some (.int (iI 20)), some (.int (iI 8)), none] [] (mm_sI (mm_sI m 316 7 (iI (i + 1))) 329 (100 + 3 * k).toNat (iI w)) = some (some (some (.int (iI a.1))), m2) := e2
      refine ⟨m2, ?_, h2, g2⟩
      rw [sg_198_37 (by omega)]
      simp (disch := omega) only [shM h.1.1, ↓reduceIte, not_false_eq_true, not_true_eq_false, and_self, and_true, true_and, false_and, and_false, or_true, true_or, or_false, false_or, or_self, reduceCtorEq, mm_q, Option.getD_some, cI_some, cJ_some, cV_some, cS_some, kd_sI, kd_sL, kd_sR, kd_cp, ln_sI, ln_sL, ln_sR, ln_cp, gR_sI, gR_sL, gR_sR, gR_cp, gL_sI, gL_sR, gL_cp, gI_sL, gI_sR, iI_add, iI_sub, iI_mul, iI_neg, iI_in, iI_tn, iI_lt, iI_eq, Nat.reduceLeDiff, Nat.reduceEqDiff, Nat.reduceAdd, Int.reduceEq, Int.reduceLT, Int.reduceLE, Int.reduceNeg, Int.reduceAdd, Int.reduceSub, Int.reduceMul, show ¬ w < 0 by omega, show ¬ k = 30 by omega, z3, h7, e2']
    · have q : a = (0, i + 1, 0) := by rw [ha]; unfold tkV; rw [if_neg z3]
      refine ⟨_, ?_, by rw [q]; exact h1, Fr.rf⟩
      rw [sg_198_37 (by omega), q]
      simp (disch := omega) only [shM h.1.1, ↓reduceIte, not_false_eq_true, not_true_eq_false, and_self, and_true, true_and, false_and, and_false, or_true, true_or, or_false, false_or, or_self, reduceCtorEq, mm_q, Option.getD_some, cI_some, cJ_some, cV_some, cS_some, kd_sI, kd_sL, kd_sR, kd_cp, ln_sI, ln_sL, ln_sR, ln_cp, gR_sI, gR_sL, gR_sR, gR_cp, gL_sI, gL_sR, gL_cp, gI_sL, gI_sR, iI_add, iI_sub, iI_mul, iI_neg, iI_in, iI_tn, iI_lt, iI_eq, Nat.reduceLeDiff, Nat.reduceEqDiff, Nat.reduceAdd, Int.reduceEq, Int.reduceLT, Int.reduceLE, Int.reduceNeg, Int.reduceAdd, Int.reduceSub, Int.reduceMul, show ¬ w < 0 by omega, show ¬ k = 30 by omega, z3, h7]
  obtain ⟨m2, e2, h2, g2⟩ := first
  obtain ⟨m3, e3, h3, g3, u1, u2, u3⟩ := M198m (d := d) (v := a.1) hT h2 w0 w1 k0 k1 h2.L0 l0 l1 (by omega)
  rw [← hb] at h3 u2
  obtain ⟨m4, e4, h4, g4⟩ := M198r (d := d) (k := k + 1) (w := w) hT h3 (by omega)
  rw [← ht] at h4
  refine ⟨m4, by rw [e2, e3, e4], h4, ((g1.tr g2.AtM).tr g3).tr g4.AtM, ?_, ?_, ?_, fun x hx => ?_⟩
  · rw [at329 g4, u3 _ (by omega) (by omega), at329 g2, v1, if_pos (by omega)]
  · rw [at329 g4]; exact u1
  · rw [at329 g4]; exact u2
  · rw [at329 g4, u3 _ (by omega) (by omega), at329 g2, v1, if_neg (by omega)]
/-- a bad line -/
theorem M198b (hT : TS D n T N) (h : PF D E T N i 0 m) (hd : 4 ≤ d) {g : Int} {z : Option Value} (k0 : 0 ≤ k) (k1 : k ≤ 30) (hg : (w = -1 ∧ g = 1) ∨ ((0 ≤ w ∧ w < 4) ∧ k = 30 ∧ g = 5)) : ∃ m', mm_ev d 198 37 [some (.ref 316), some (.int (iI (k))), z] [.int (iI w)] m = mm_ev d 198 11 [some (.ref 316), some (.int (iI (k))), some (.int (iI (w)))] [] m' ∧ PF D E T N i (g + 16 * tP T i) m' ∧ Fr scM m m' := by
  have pr := (hT.k h.2.2.2.2.1.1 h.2.2.2.2.1.2).1
  obtain ⟨m2, e2, h2, g2⟩ := M172 (d := d - 1) hT h (k := g) (by omega) (by omega)
  rw [if_pos rfl] at h2
  obtain ⟨m3, e3, h3, g3⟩ := M198r (d := d) (k := k) (w := w) hT h2 (by omega)
  have q : twS T 59 i (g + 16 * tP T i) = (i, g + 16 * tP T i) := by unfold twS; rw [if_neg (by omega)]
  rw [q] at h3
  refine ⟨m3, ?_, h3, g2.AtM.tr g3.AtM⟩
  rw [← e3, sg_198_37 (by omega)]
  rcases hg with ⟨rfl, rfl⟩ | ⟨⟨w0, w1⟩, rfl, rfl⟩
  · simp (disch := omega) only [shM h.1.1, ↓reduceIte, not_false_eq_true, not_true_eq_false, and_self, and_true, true_and, false_and, and_false, or_true, true_or, or_false, false_or, or_self, reduceCtorEq, mm_q, Option.getD_some, cI_some, cJ_some, cV_some, cS_some, kd_sI, kd_sL, kd_sR, kd_cp, ln_sI, ln_sL, ln_sR, ln_cp, gR_sI, gR_sL, gR_sR, gR_cp, gL_sI, gL_sR, gL_cp, gI_sL, gI_sR, iI_add, iI_sub, iI_mul, iI_neg, iI_in, iI_tn, iI_lt, iI_eq, Nat.reduceLeDiff, Nat.reduceEqDiff, Nat.reduceAdd, Int.reduceEq, Int.reduceLT, Int.reduceLE, Int.reduceNeg, Int.reduceAdd, Int.reduceSub, Int.reduceMul, e2]
  · simp (disch := omega) only [shM h.1.1, ↓reduceIte, not_false_eq_true, not_true_eq_false, and_self, and_true, true_and, false_and, and_false, or_true, true_or, or_false, false_or, or_self, reduceCtorEq, mm_q, Option.getD_some, cI_some, cJ_some, cV_some, cS_some, kd_sI, kd_sL, kd_sR, kd_cp, ln_sI, ln_sL, ln_sR, ln_cp, gR_sI, gR_sL, gR_sR, gR_cp, gL_sI, gL_sR, gL_cp, gI_sL, gI_sR, iI_add, iI_sub, iI_mul, iI_neg, iI_in, iI_tn, iI_lt, iI_eq, Nat.reduceLeDiff, Nat.reduceEqDiff, Nat.reduceAdd, Int.reduceEq, Int.reduceLT, Int.reduceLE, Int.reduceNeg, Int.reduceAdd, Int.reduceSub, Int.reduceMul, show ¬ w < 0 by omega, e2]
end
