def P343 (a _k : Nat) : Bool := Nat.beq a 343
section
variable {D : Nat → Nat → Int32} {E : Nat → Nat → Int64} {c c' : mm_M} {s p : Nat}
theorem p343 {a k : Nat} (h : ¬ a = 343) : P343 a k = false := nb h
theorem pmI_lt {a k : Nat} (h : pmI a k = true) : ¬ a = 343 := fun z => by
  subst z
  unfold pmI at h
  simp only [Bool.or_eq_true, Bool.and_eq_true, Nat.beq_eq] at h
  omega
theorem pmL_lt {a : Nat} (h : pmL a = true) : ¬ a = 343 := fun z => by
  subst z
  exact absurd h (by decide)
/-- the law's own cell is nobody's -/
theorem WI.o (h : WI D E c s p) (g : Fr P343 c c') : WI D E c' s p := by
  have hs' : s = 104 ∨ s = 125 := h.st
  have hp : p = 146 ∨ p = 150 := h.1.2.1
  have hsh : Sh c' := g.sh h.1.1.1
  obtain ⟨hR, hT, hM, hG⟩ := id h
  have k9 := hG.k9
  have r' : RCm D c' s p := hR.mem k9 hsh ((g.2.2.1 _ _).trans hR.1.2.2.1) ((g.2.2.1 _ _).trans hR.2.2.1) ((g.2.2.1 _ _).trans hR.1.2.2.2.2.1.1) (fun a k y => g.gI (p343 (by omega)))
  refine ⟨r', ?_, ⟨hsh, fun a k z => (g.gI (p343 (pmI_lt z))).trans (hM.2.1 a k z), fun a k z => (g.gL (p343 (pmL_lt z))).trans (hM.2.2 a k z)⟩, hG⟩
  obtain ⟨⟨h1, h2, h3⟩, h4, h5, h6, h7, h8⟩ := hT
  refine ⟨⟨h1, h2.fr g (fun a k y => p343 (by omega)), h3⟩, fun q hq => ?_, h5.fr g (fun x k y => p343 (by have := h5.2.2.1; omega)), (g.2.2.1 _ _).trans h6, (g.2.2.1 _ _).trans h7, h8⟩
  have hq' : q = 104 ∨ q = 125 := hq
  obtain ⟨a1, a2, a3, a4⟩ := h4 q hq
  exact ⟨(g.gL (p343 (by omega))).trans a1, (g.gL (p343 (by omega))).trans a2, (g.gL (p343 (by omega))).trans a3, (g.gL (p343 (by omega))).trans a4⟩
theorem Fr.s343 {v : Int64} : Fr P343 c (mm_sL c 343 0 v) := ⟨rfl, rfl, fun _ _ => rfl, fun a k z => ⟨rfl, by
  rw [gL_sL, if_neg (fun y => by
    rw [y.1] at z
    have z : true = false := z
    cases z)]⟩⟩
theorem RCm.exc (h : RCm D c s p) (k9 : st D 6 ≤ 8) : RCm D (mm_exc c) s p := h.mem k9 h.1.1 h.1.2.2.1 h.2.2.1 h.1.2.2.2.2.1.1 (fun _ _ _ => rfl)
theorem WI.exc (h : WI D E c s p) : WI D E (mm_exc c) s p := ⟨h.1.exc h.2.2.2.k9, h.2.1, h.2.2.1, h.2.2.2⟩
end
set_option maxRecDepth 8000 in
theorem lw_278 {d x o : Nat} {v : Int32} {L : mm_L} {m : mm_M} (hd : 6 ≤ d) (hx : mm_kd m x = 11) : mm_ev (d + 2) 277 1134 L [.ref o, .int v, .ref x] m = (mm_ev d 154 0 [some (.ref x), some (.int v)] [] m).bind (mm_k2 mm_ev (d + 2) 277 1137 L [] o) := by
  have e0 : mm_at 277 1134 = some (.invokestatic 138, 3, 278, 3, 20) := at_of tb_277 rfl
  have hk : mm_kdo m x = 11 := by
    unfold mm_kd at hx
    unfold mm_kdo
    exact hx
  have e1 : mm_step 277 (.invokestatic 138, 3, 278, 3, 20) 1134 L [.ref o, .int v, .ref x] m = some (.inr (.inl (278, [.ref x, .int v, .ref o], [], 1137))) := by
    show mm_inv 278 3 20 1137 L [.ref o, .int v, .ref x] m = _
    unfold mm_inv
    rw [if_pos (Or.inr (Or.inr rfl))]
    unfold mm_call
    rw [if_pos ⟨Nat.le_refl 3, Nat.zero_le 8, by rw [mx_278]; exact (show 3 ≤ 4 by decide)⟩]
    rfl
  rw [mm_ev_fix (d + 2) 277 1134 L _ m]
  unfold mm_body
  rw [e0, Option.bind_some, e1]
  show mm_cl2 mm_ev (d + 1) [.ref x, .int v, .ref o] 277 1137 L [] m = _
  show (if 6 ≤ d ∧ (mm_ar [Value.ref x, .int v]).length ≤ mm_mx 154 ∧ mm_kdo m x = 11 then (mm_ev d 154 0 (mm_en 154 [.ref x, .int v]) [] m).bind (mm_k2 mm_ev (d + 2) 277 1137 L [] o) else none) = _
  rw [if_pos ⟨hd, by rw [mx_154]; exact Nat.le_refl 2, hk⟩]
  have e2 : mm_en 154 [.ref x, .int v] = [some (.ref x), some (.int v)] := by
    unfold mm_en
    rw [mx_154]
    rfl
  rw [e2]
section
variable {f : Nat → Int32} {n t d : Nat} {i : Int} {m m' : mm_M}
theorem lc_27 (hw : Wd m) (hs : SC f n t m) (hd : 80 ≤ d) (i0 : 0 ≤ i) (i1 : i + 7 ≤ (n : Int)) (n1 : n ≤ 3584) : LC f n t d 1126 i m := by
  intro z5 z6
  obtain ⟨D, E, s, p, h⟩ := hw
  obtain ⟨k0, l0⟩ := hs.kd
  have x0 := scF0.rf.kd h.1.1.1
  obtain ⟨w, ew, w0, w1⟩ := iI_of (f (i + 1).toNat)
  obtain ⟨e, rfl⟩ : ∃ e, d = e + 2 := ⟨d - 2, by omega⟩
  obtain ⟨c1, q1, q2, f1⟩ := C154 (d := e) h.1.1.1 h.1.2.2.2.2.1 h.iT (by omega) w0 w1
  have h1 := q_fc h f1
  cases hl : lawsOk D w
  · have e1 := q2 hl
    have h2 := h1.exc
    have s1 : SC f n (t + 1) (mm_exc c1) := by
      obtain ⟨N, hN⟩ := mm_ev_iff.mp e1
      rcases s0_run _ _ _ _ _ _ _ _ hN (by decide) with ⟨v, g1, -⟩ | ⟨-, m1, g2, g3⟩
      · cases g1
      · have g3 : mm_exc c1 = mm_exc m1 := g3
        have s2 := hs.to g2
        rw [g3]
        exact ⟨by
          show (m1.2.1.1 + 1, m1.2.1.2) = (t + 1, n)
          rw [s2.1], s2.2⟩
    obtain ⟨c2, e2, g2, t2⟩ := M262 (d := e + 2 - 1) h2.2.2.1 h.iT (by omega) w0 w1
    have h3 := q_fm h2 g2
    have f2 := s0_ev e2 (by decide)
    obtain ⟨k1, l1⟩ := s1.kd
    have x1 := scF0.rf.kd h2.1.1.1
    have x2 := f2.kd h2.1.1.1
    rw [hl] at t2
    have t2 : mm_gI c2 316 0 = iI 1 := t2
    have e3 : mm_ev (e + 2 - 1) 155 0 [some (.ref 316)] [] c2 = some (some (some (.int (iI 1))), c2) := by
      rw [sg_155_0]
      simp (disch := omega) only [↓reduceIte, not_false_eq_true, not_true_eq_false, and_self, and_true, true_and, false_and, and_false, or_true, true_or, or_false, false_or, or_self, reduceCtorEq, mm_q, Option.getD_some, cI_some, cJ_some, cV_some, cS_some, kd_sI, kd_sL, kd_sR, kd_cp, ln_sI, ln_sL, ln_sR, ln_cp, gR_sI, gR_sL, gR_sR, gR_cp, gL_sI, gL_sR, gL_cp, gI_sL, gI_sR, iI_add, iI_sub, iI_mul, iI_neg, iI_in, iI_tn, iI_lt, iI_eq, Nat.reduceLeDiff, Nat.reduceEqDiff, Nat.reduceAdd, Int.reduceEq, Int.reduceLT, Int.reduceLE, Int.reduceNeg, Int.reduceAdd, Int.reduceSub, Int.reduceMul, x2.2.1, t2]
    refine ⟨c2, some (.int (iI 1)), some (.int (lawsS D w)), t + 1, ?_, ⟨D, E, s, p, h3⟩, s1.to f2, by omega⟩
    rw [sg_277_1126]
    simp (disch := omega) only [↓reduceIte, not_false_eq_true, not_true_eq_false, and_self, and_true, true_and, false_and, and_false, or_true, true_or, or_false, false_or, or_self, reduceCtorEq, mm_q, Option.getD_some, cI_some, cJ_some, cV_some, cS_some, kd_sI, kd_sL, kd_sR, kd_cp, ln_sI, ln_sL, ln_sR, ln_cp, gR_sI, gR_sL, gR_sR, gR_cp, gL_sI, gL_sR, gL_cp, gI_sL, gI_sR, iI_add, iI_sub, iI_mul, iI_neg, iI_in, iI_tn, iI_lt, iI_eq, Nat.reduceLeDiff, Nat.reduceEqDiff, Nat.reduceAdd, Int.reduceEq, Int.reduceLT, Int.reduceLE, Int.reduceNeg, Int.reduceAdd, Int.reduceSub, Int.reduceMul, eq_self, k0, l0, hs.2, ew]
    rw [lw_278 (by omega) x0.1, e1, Option.bind_some]
    show mm_ev (e + 2) 277 1137 _ [.int (iI 1)] (mm_exc c1) = _
    rw [sg_277_1137 (by omega)]
    simp (disch := omega) only [↓reduceIte, not_false_eq_true, not_true_eq_false, and_self, and_true, true_and, false_and, and_false, or_true, true_or, or_false, false_or, or_self, reduceCtorEq, mm_q, Option.getD_some, cI_some, cJ_some, cV_some, cS_some, kd_sI, kd_sL, kd_sR, kd_cp, ln_sI, ln_sL, ln_sR, ln_cp, gR_sI, gR_sL, gR_sR, gR_cp, gL_sI, gL_sR, gL_cp, gI_sL, gI_sR, iI_add, iI_sub, iI_mul, iI_neg, iI_in, iI_tn, iI_lt, iI_eq, Nat.reduceLeDiff, Nat.reduceEqDiff, Nat.reduceAdd, Int.reduceEq, Int.reduceLT, Int.reduceLE, Int.reduceNeg, Int.reduceAdd, Int.reduceSub, Int.reduceMul, eq_self, k1, l1, s1.2, ew, x1.2.1, e2]
    rw [sg_277_1149 (by omega)]
    simp (disch := omega) only [↓reduceIte, not_false_eq_true, not_true_eq_false, and_self, and_true, true_and, false_and, and_false, or_true, true_or, or_false, false_or, or_self, reduceCtorEq, mm_q, Option.getD_some, cI_some, cJ_some, cV_some, cS_some, kd_sI, kd_sL, kd_sR, kd_cp, ln_sI, ln_sL, ln_sR, ln_cp, gR_sI, gR_sL, gR_sR, gR_cp, gL_sI, gL_sR, gL_cp, gI_sL, gI_sR, iI_add, iI_sub, iI_mul, iI_neg, iI_in, iI_tn, iI_lt, iI_eq, Nat.reduceLeDiff, Nat.reduceEqDiff, Nat.reduceAdd, Int.reduceEq, Int.reduceLT, Int.reduceLE, Int.reduceNeg, Int.reduceAdd, Int.reduceSub, Int.reduceMul, eq_self, x2.2.1, e3]
    rw [sg_277_1179]
  · have e1 := q1 hl
    have h2 : WI D E (mm_sL c1 343 0 (lawsS D w).toInt64) s p := h1.o Fr.s343
    have s1 : SC f n t (mm_sL c1 343 0 (lawsS D w).toInt64) := (hs.to (s0_ev e1 (by decide))).to s0_sL
    obtain ⟨c2, e2, g2, t2⟩ := M262 (d := e + 2 - 1) h2.2.2.1 h.iT (by omega) w0 w1
    have h3 := q_fm h2 g2
    have f2 := s0_ev e2 (by decide)
    obtain ⟨k1, l1⟩ := s1.kd
    have x1 := scF0.rf.kd h2.1.1.1
    have x2 := f2.kd h2.1.1.1
    rw [hl] at t2
    have t2 : mm_gI c2 316 0 = iI 0 := t2
    have e3 : mm_ev (e + 2 - 1) 155 0 [some (.ref 316)] [] c2 = some (some (some (.int (iI 0))), c2) := by
      rw [sg_155_0]
      simp (disch := omega) only [↓reduceIte, not_false_eq_true, not_true_eq_false, and_self, and_true, true_and, false_and, and_false, or_true, true_or, or_false, false_or, or_self, reduceCtorEq, mm_q, Option.getD_some, cI_some, cJ_some, cV_some, cS_some, kd_sI, kd_sL, kd_sR, kd_cp, ln_sI, ln_sL, ln_sR, ln_cp, gR_sI, gR_sL, gR_sR, gR_cp, gL_sI, gL_sR, gL_cp, gI_sL, gI_sR, iI_add, iI_sub, iI_mul, iI_neg, iI_in, iI_tn, iI_lt, iI_eq, Nat.reduceLeDiff, Nat.reduceEqDiff, Nat.reduceAdd, Int.reduceEq, Int.reduceLT, Int.reduceLE, Int.reduceNeg, Int.reduceAdd, Int.reduceSub, Int.reduceMul, x2.2.1, t2]
    have g43 : mm_gL c2 343 0 = (lawsS D w).toInt64 := by
      rw [g2.gL rfl, gL_sL, if_pos ⟨rfl, rfl⟩]
    have ok : mm_okO c1 343 = true := by
      have y1 := scF0.rf.kd h1.1.1.1
      unfold mm_kd mm_ln at y1
      unfold mm_okO
      cases hsh : mm_sh c1 343 with
      | none => rw [hsh] at y1; exact absurd y1.2.2.1 (by decide)
      | some q =>
        rw [hsh] at y1
        have a1 : q.1 = 21 := y1.2.2.1
        have a2 : q.2 = 1 := y1.2.2.2
        dsimp only
        rw [a1, a2]
        rfl
    refine ⟨c2, some (.int (iI 0)), some (.int (lawsS D w)), t, ?_, ⟨D, E, s, p, h3⟩, s1.to f2, by omega⟩
    rw [sg_277_1126]
    simp (disch := omega) only [↓reduceIte, not_false_eq_true, not_true_eq_false, and_self, and_true, true_and, false_and, and_false, or_true, true_or, or_false, false_or, or_self, reduceCtorEq, mm_q, Option.getD_some, cI_some, cJ_some, cV_some, cS_some, kd_sI, kd_sL, kd_sR, kd_cp, ln_sI, ln_sL, ln_sR, ln_cp, gR_sI, gR_sL, gR_sR, gR_cp, gL_sI, gL_sR, gL_cp, gI_sL, gI_sR, iI_add, iI_sub, iI_mul, iI_neg, iI_in, iI_tn, iI_lt, iI_eq, Nat.reduceLeDiff, Nat.reduceEqDiff, Nat.reduceAdd, Int.reduceEq, Int.reduceLT, Int.reduceLE, Int.reduceNeg, Int.reduceAdd, Int.reduceSub, Int.reduceMul, eq_self, k0, l0, hs.2, ew]
    rw [lw_278 (by omega) x0.1, e1, Option.bind_some]
    show (if mm_okO c1 343 = true then mm_ev (e + 2) 277 1137 _ [.int (iI 0)] (mm_sL c1 343 0 (lawsS D w).toInt64) else none) = _
    rw [if_pos ok]
    rw [sg_277_1137 (by omega)]
    simp (disch := omega) only [↓reduceIte, not_false_eq_true, not_true_eq_false, and_self, and_true, true_and, false_and, and_false, or_true, true_or, or_false, false_or, or_self, reduceCtorEq, mm_q, Option.getD_some, cI_some, cJ_some, cV_some, cS_some, kd_sI, kd_sL, kd_sR, kd_cp, ln_sI, ln_sL, ln_sR, ln_cp, gR_sI, gR_sL, gR_sR, gR_cp, gL_sI, gL_sR, gL_cp, gI_sL, gI_sR, iI_add, iI_sub, iI_mul, iI_neg, iI_in, iI_tn, iI_lt, iI_eq, Nat.reduceLeDiff, Nat.reduceEqDiff, Nat.reduceAdd, Int.reduceEq, Int.reduceLT, Int.reduceLE, Int.reduceNeg, Int.reduceAdd, Int.reduceSub, Int.reduceMul, eq_self, k1, l1, s1.2, ew, x1.2.1, e2]
    rw [sg_277_1149 (by omega)]
    simp (disch := omega) only [↓reduceIte, not_false_eq_true, not_true_eq_false, and_self, and_true, true_and, false_and, and_false, or_true, true_or, or_false, false_or, or_self, reduceCtorEq, mm_q, Option.getD_some, cI_some, cJ_some, cV_some, cS_some, kd_sI, kd_sL, kd_sR, kd_cp, ln_sI, ln_sL, ln_sR, ln_cp, gR_sI, gR_sL, gR_sR, gR_cp, gL_sI, gL_sR, gL_cp, gI_sL, gI_sR, iI_add, iI_sub, iI_mul, iI_neg, iI_in, iI_tn, iI_lt, iI_eq, Nat.reduceLeDiff, Nat.reduceEqDiff, Nat.reduceAdd, Int.reduceEq, Int.reduceLT, Int.reduceLE, Int.reduceNeg, Int.reduceAdd, Int.reduceSub, Int.reduceMul, eq_self, x2.2.1, e3, x2.2.2.1, x2.2.2.2]
    rw [show (0 : Int).toNat = 0 from rfl, g43]
    simp only [lg_self, eq_self, ↓reduceIte, and_self]
    rw [sg_277_1179]
theorem lc_any (hw : Wd m) (hs : SC f n t m) (hd : 80 ≤ d) (i0 : 0 ≤ i) (i1 : i + 7 ≤ (n : Int)) (n1 : n ≤ 3584) : ∀ q : Nat, q < 35 → LC f n t d (lwT.getD q 0) i m
  | 0, _ => lc_0 hw hs hd i0 i1 n1
  | 1, _ => lc_1 hw hs hd i0 i1 n1
  | 2, _ => lc_2 hw hs hd i0 i1 n1
  | 3, _ => lc_3 hw hs hd i0 i1 n1
  | 4, _ => lc_4 hw hs hd i0 i1 n1
  | 5, _ => lc_5 hw hs hd i0 i1 n1
  | 6, _ => lc_6 hw hs hd i0 i1 n1
  | 7, _ => lc_7 hw hs hd i0 i1 n1
  | 8, _ => lc_8 hw hs hd i0 i1 n1
  | 9, _ => lc_9 hw hs hd i0 i1 n1
  | 10, _ => lc_10 hw hs hd i0 i1 n1
  | 11, _ => lc_11 hw hs hd i0 i1 n1
  | 12, _ => lc_12 hw hs hd i0 i1 n1
  | 13, _ => lc_13 hw hs hd i0 i1 n1
  | 14, _ => lc_14 hw hs hd i0 i1 n1
  | 15, _ => lc_15 hw hs hd i0 i1 n1
  | 16, _ => lc_16 hw hs hd i0 i1 n1
  | 17, _ => lc_17 hw hs hd i0 i1 n1
  | 18, _ => lc_18 hw hs hd i0 i1 n1
  | 19, _ => lc_19 hw hs hd i0 i1 n1
  | 20, _ => lc_20 hw hs hd i0 i1 n1
  | 21, _ => lc_21 hw hs hd i0 i1 n1
  | 22, _ => lc_22 hw hs hd i0 i1 n1
  | 23, _ => lc_23 hw hs hd i0 i1 n1
  | 24, _ => lc_24 hw hs hd i0 i1 n1
  | 25, _ => lc_25 hw hs hd i0 i1 n1
  | 26, _ => lc_26 hw hs hd i0 i1 n1
  | 27, _ => lc_27 hw hs hd i0 i1 n1
  | 28, _ => lc_28 hw hs hd i0 i1 n1
  | 29, _ => lc_29 hw hs hd i0 i1 n1
  | 30, _ => by
    by_cases y : f (i + 3).toNat = iI 0
    · exact lc_30f hw hs hd i0 i1 n1 y
    · exact lc_30t hw hs hd i0 i1 n1 y
  | 31, _ => lc_31 hw hs hd i0 i1 n1
  | 32, _ => lc_32 hw hs hd i0 i1 n1
  | 33, _ => by
    by_cases y : f (i + 2).toNat = iI 0
    · exact lc_33f hw hs hd i0 i1 n1 y
    · exact lc_33t hw hs hd i0 i1 n1 y
  | 34, _ => lc_34 hw hs hd i0 i1 n1
  | q + 35, h => absurd h (by omega)
/-- a round of the law -/
theorem lc_one (hw : Wd m) (hs : SC f n t m) (hd : 80 ≤ d) (i0 : 0 ≤ i) (i1 : i + 7 ≤ (n : Int)) (n1 : n ≤ 3584) (x : Int32) : LC f n t d (if x.toInt < 0 ∨ 34 < x.toInt then 1473 else lwT.getD x.toInt.toNat 0) i m := by
  by_cases y : x.toInt < 0 ∨ 34 < x.toInt
  · rw [if_pos y]
    exact fun z5 z6 => ⟨m, z5, z6, t, rfl, hw, hs, by omega⟩
  · rw [if_neg y]
    exact lc_any hw hs hd i0 i1 n1 _ (by omega)
theorem lw_loop (hd : 80 ≤ d) (n1 : n ≤ 3584) : ∀ (r : Nat) (i : Int) (t : Nat) (z5 z6 : Option Value) (m : mm_M), (n : Int) + 7 - i ≤ r → 0 ≤ i → i ≤ (n : Int) + 7 → (t : Int) ≤ i → Wd m → SC f n t m → ∃ (m' : mm_M) (t' : Nat), mm_ev d 277 23 [some (.ref 0), some (.ref 100), some (.ref 316), some (.ref 343), (some (.int (iI (i)))), z5, z6] [] m = some (some (some (.int (iI 1))), m') ∧ SC f n t' m' ∧ t' ≤ 3600 ∧ Sh m'
  | r, i, t, z5, z6, m, hr, i0, i2, ht, hw, hs => by
    obtain ⟨k0, l0⟩ := hs.kd
    by_cases y : (n : Int) - 7 < i
    · refine ⟨m, t, ?_, hs, by omega, ?_⟩
      · rw [sg_277_23, k0, l0, ofN (by omega), iI_sub, if_pos (by decide), if_pos (by rw [iI_lt] <;> omega)]
      · obtain ⟨D, E, s, p, h⟩ := hw
        exact h.1.1.1
    · cases r with
      | zero => exfalso; omega
      | succ r =>
        obtain ⟨m1, y5, y6, t1, e1, hw1, hs1, ht1⟩ := lc_one hw hs hd i0 (by omega) n1 (mm_gI m 0 i.toNat &&& iI 63) z5 z6
        have e0 : mm_ev d 277 23 [some (.ref 0), some (.ref 100), some (.ref 316), some (.ref 343), (some (.int (iI (i)))), z5, z6] [] m = mm_ev d 277 40 [some (.ref 0), some (.ref 100), some (.ref 316), some (.ref 343), (some (.int (iI (i)))), z5, z6] [.int (mm_gI m 0 i.toNat &&& iI 63)] m := by
          rw [sg_277_23, k0, l0, ofN (by omega), iI_sub, if_pos (by decide), if_neg (by rw [iI_lt] <;> omega), if_pos ⟨rfl, iI_in i0 (by omega) (by omega)⟩, iI_tn (by omega) (by omega)]
        obtain ⟨m2, t2, e2, s2, b2, h2⟩ := lw_loop hd n1 r (i + 7) t1 y5 y6 m1 (by omega) (by omega) (by omega) (by omega) hw1 hs1
        refine ⟨m2, t2, ?_, s2, b2, h2⟩
        rw [e0, lw_sw, e1, sg_277_1473, iI_add]
        exact e2
  termination_by r => r
end
