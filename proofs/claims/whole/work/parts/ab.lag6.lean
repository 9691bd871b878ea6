section
variable {D : Nat → Nat → Int32} {m m' m'' : mm_M} {d s : Nat} {c : Int → Int} {n : Int}
theorem Fr.toC {P : Nat → Nat → Bool} (h : Fr P m m') (e : ∀ a k, P a k = true → 178 ≤ a ∧ a ≤ 211) : FC m m' := (h.mono (fun a k z => by
  cases q : P a k
  · rfl
  · exfalso
    have := e a k q
    unfold scC at z
    rw [Nat.ble_eq.mpr this.1, Nat.ble_eq.mpr this.2] at z
    simp at z)).C
theorem Fr.C14 (h : Fr sc14 m m') : FC m m' := h.toC (fun a k e => by
  unfold sc14 at e
  rw [Bool.or_eq_true, Bool.or_eq_true, Bool.and_eq_true, Bool.and_eq_true, Nat.ble_eq, Nat.ble_eq] at e
  rcases e with (e | e) | e
  · have := Nat.eq_of_beq_eq_true e; omega
  · omega
  · have := Nat.eq_of_beq_eq_true e.1; omega)
theorem Fr.C192 (h : Fr sc192 m m') : FC m m' := h.toC (fun a k e => by
  have := Nat.eq_of_beq_eq_true e; omega)
theorem Fr.C22 (h : Fr sc22 m m') : FC m m' := h.toC (fun a k e => by
  unfold sc22 at e
  rw [Bool.or_eq_true, Bool.or_eq_true, Bool.and_eq_true] at e
  rcases e with (e | e) | e
  · have := Nat.eq_of_beq_eq_true e; omega
  · have := Nat.eq_of_beq_eq_true e; omega
  · have := Nat.eq_of_beq_eq_true e.1; omega)
/-- find -/
theorem C14 (hs : Sh m) (hst : isSt s) (hR : RSt D m s) (hW : RW D m s 178 (sa D) (sa D 0) false) (hI : InvS D) (hIB : InvB D (sa D)) (hd : 6 ≤ d) {so : Int} (a0 : 0 ≤ so) (a1 : so < ((2 ^ (st D 6).toNat : Nat) : Int)) (hb : bitsN so ≤ 4) : ∃ m', mm_ev d 14 0 [some (.ref 184), some (.ref s), some (.ref 178), (some (.int (iI (so)))), none] [] m = some (some (some (.int (iI (bI (decide (0 ≤ (lagR D so).1)))))), m') ∧ FC m m' ∧ (0 ≤ (lagR D so).1 → mm_gI m' 184 8 = iI (lagR D so).1 ∧ ∀ k, 0 ≤ k → k < bitsN so → mm_gI m' 194 k.toNat = iI ((lagR D so).2.1 k)) := by
  obtain ⟨q0, q1⟩ := hI.2.2.2.2.2.1
  have cc := bits_c q0 q1 a0 a1
  have f0 : FC m (mm_sR m 184 6 (some s)) := ⟨rfl, rfl, fun a k z => by
    rw [gR_sR, if_neg (fun w => by rw [w.1, w.2] at z; cases z)], fun _ _ _ => ⟨rfl, rfl⟩⟩
  have hs0 := f0.sh hs
  have g1 : Fr sc14 (mm_sR m 184 6 (some s)) (mm_sI (mm_sR m 184 6 (some s)) 184 5 (iI 0)) := Fr.sI rfl
  have hW0 : RW D (mm_sR m 184 6 (some s)) s 178 (sa D) (sa D 0) false := ⟨by rw [gR_sR, if_neg (by omega)]; exact hW.1, hW.2⟩
  have hR0 : RSt D (mm_sR m 184 6 (some s)) s := hR.cg (fun _ _ _ _ _ _ => rfl) q1
  have hR1 := hR0.f14 hst hI g1
  have hs1 := g1.sh hs0
  have hg1 : mm_gR (mm_sI (mm_sR m 184 6 (some s)) 184 5 (iI 0)) 184 6 = some s := by
    rw [gR_sI, gR_sR, if_pos ⟨rfl, rfl⟩]
  obtain ⟨m2, y2, e2, g2, h5, hO, hc, hF⟩ := C14L (d := d) hst hI hIB (by omega) (so := so) (st D 6).toNat 0 (0, fun _ => 0) _ (by omega) (by omega) hs1 hR1 hg1 (hW0.f14 g1) (by rw [gI_sI, if_pos ⟨rfl, rfl⟩]) (fun i i0 i1 => by have : i < 0 := i1; omega) ⟨by simp, fun i i0 i1 => by have : i < 0 := i1; omega⟩ (fun i a i0 i1 => by have : i < 0 := i1; omega) (by rw [cc]; show 0 + bitsN so ≤ 4; omega)
  have hn := cho_n (so := so) (st D 6).toNat 0 (0, fun _ => 0)
  rw [cc] at hn
  simp only [Int.zero_add] at hn
  rw [show choGo so (st D 6).toNat 0 (0, fun _ => 0) = choS D so from rfl] at h5 hO hc hF hn
  have hs2 := g2.sh hs1
  have hR2 := hR1.f14 hst hI g2
  have hg2 : mm_gR m2 184 6 = some s := (g2.2.2.1 _ _).trans hg1
  obtain ⟨m3, e3, g3, h3⟩ := C18 (d := d - 1) hs2 hst hR2 hg2 h5 hO hc hI hIB (by omega)
  have hs3 := g3.sh hs2
  have g4 : Fr sc22 m3 (mm_sI m3 184 8 (iI 96)) := Fr.sI rfl
  have hL3 : LFt D m3 (choS D so).1 (choS D so).2 := ⟨(g3.gI rfl).trans h5, fun i a i0 i1 a0 a1 => by rw [g3.gI rfl]; exact hF i a i0 i1 a0 a1, h3⟩
  have nn := hc.1
  obtain ⟨m5, e5, g5, h5'⟩ := C22 (D := D) hc (choS D so).1.toNat 0 0 (-1, fun _ => 0, fun _ => 0) (d - 1) (mm_sI m3 184 8 (iI 96)) (by omega) (by omega) (by omega) (by omega) (by simp) (by simp) (by omega) (g4.sh hs3) (hL3.f g4) ⟨by
      rw [gI_sI, if_pos ⟨rfl, rfl⟩]
      show _ = iI (if (-1 : Int) < 0 then 96 else -1)
      rw [if_pos (by omega)], fun k k0 k1 => by omega, fun p => absurd p (by simp)⟩ (by left; simp) (fun k k0 k1 => by omega)
  rw [show thr (mayS D (choS D so).2) (choS D so).1 (choS D so).1.toNat 0 0 (-1, fun _ => 0, fun _ => 0) = lagR D so from rfl] at h5'
  have rr := thr_rF (may := mayS D (choS D so).2) (n := (choS D so).1) (choS D so).1.toNat 0 0 (-1, fun _ => 0, fun _ => 0) (by omega) (by omega) (by simp) (by simp)
  rw [show thr (mayS D (choS D so).2) (choS D so).1 (choS D so).1.toNat 0 0 (-1, fun _ => 0, fun _ => 0) = lagR D so from rfl] at rr
  refine ⟨m5, ?_, ((((f0.tr g1.C14).tr g2.C14).tr g3.C192).tr g4.C22).tr g5.C22, fun p => ?_⟩
  · have q5 := h5'.1
    have s5 := (g4.tr g5).sh hs3
    rw [sg_14_0]
    simp (disch := omega) only [shW hs, shW hs0, ↓reduceIte, not_false_eq_true, not_true_eq_false, and_self, and_true, true_and, false_and, and_false, or_true, true_or, or_false, false_or, or_self, reduceCtorEq, mm_q, Option.getD_some, cI_some, cJ_some, cV_some, cS_some, kd_sI, kd_sL, kd_sR, kd_cp, ln_sI, ln_sL, ln_sR, ln_cp, gR_sI, gR_sL, gR_sR, gR_cp, gL_sI, gL_sR, gL_cp, gI_sL, gI_sR, iI_add, iI_sub, iI_mul, iI_neg, iI_in, iI_tn, iI_lt, iI_eq, Nat.reduceLeDiff, Nat.reduceEqDiff, Nat.reduceAdd, Int.reduceEq, Int.reduceLT, Int.reduceLE, Int.reduceNeg, Int.reduceAdd, Int.reduceSub, Int.reduceMul]
    rw [e2, sg_14_95 (by omega)]
    simp (disch := omega) only [shW hs2, ↓reduceIte, not_false_eq_true, not_true_eq_false, and_self, and_true, true_and, false_and, and_false, or_true, true_or, or_false, false_or, or_self, reduceCtorEq, mm_q, Option.getD_some, cI_some, cJ_some, cV_some, cS_some, kd_sI, kd_sL, kd_sR, kd_cp, ln_sI, ln_sL, ln_sR, ln_cp, gR_sI, gR_sL, gR_sR, gR_cp, gL_sI, gL_sR, gL_cp, gI_sL, gI_sR, iI_add, iI_sub, iI_mul, iI_neg, iI_in, iI_tn, iI_lt, iI_eq, Nat.reduceLeDiff, Nat.reduceEqDiff, Nat.reduceAdd, Int.reduceEq, Int.reduceLT, Int.reduceLE, Int.reduceNeg, Int.reduceAdd, Int.reduceSub, Int.reduceMul, e3]
    rw [sg_14_99 (by omega)]
    by_cases y : (lagR D so).1 < 0
    · rw [if_pos y] at q5
      rw [decide_eq_false (show ¬ 0 ≤ (lagR D so).1 by omega), bI_f]
      simp (disch := omega) only [shW hs3, shW s5, ↓reduceIte, not_false_eq_true, not_true_eq_false, and_self, and_true, true_and, false_and, and_false, or_true, true_or, or_false, false_or, or_self, reduceCtorEq, mm_q, Option.getD_some, cI_some, cJ_some, cV_some, cS_some, kd_sI, kd_sL, kd_sR, kd_cp, ln_sI, ln_sL, ln_sR, ln_cp, gR_sI, gR_sL, gR_sR, gR_cp, gL_sI, gL_sR, gL_cp, gI_sL, gI_sR, iI_add, iI_sub, iI_mul, iI_neg, iI_in, iI_tn, iI_lt, iI_eq, Nat.reduceLeDiff, Nat.reduceEqDiff, Nat.reduceAdd, Int.reduceEq, Int.reduceLT, Int.reduceLE, Int.reduceNeg, Int.reduceAdd, Int.reduceSub, Int.reduceMul, e5, q5]
    · rw [if_neg y] at q5
      rw [decide_eq_true (show 0 ≤ (lagR D so).1 by omega), bI_t]
      simp (disch := omega) only [shW hs3, shW s5, ↓reduceIte, not_false_eq_true, not_true_eq_false, and_self, and_true, true_and, false_and, and_false, or_true, true_or, or_false, false_or, or_self, reduceCtorEq, mm_q, Option.getD_some, cI_some, cJ_some, cV_some, cS_some, kd_sI, kd_sL, kd_sR, kd_cp, ln_sI, ln_sL, ln_sR, ln_cp, gR_sI, gR_sL, gR_sR, gR_cp, gL_sI, gL_sR, gL_cp, gI_sL, gI_sR, iI_add, iI_sub, iI_mul, iI_neg, iI_in, iI_tn, iI_lt, iI_eq, Nat.reduceLeDiff, Nat.reduceEqDiff, Nat.reduceAdd, Int.reduceEq, Int.reduceLT, Int.reduceLE, Int.reduceNeg, Int.reduceAdd, Int.reduceSub, Int.reduceMul, e5, q5, show ¬ (lagR D so).1 = 96 by omega]
  · refine ⟨?_, fun k k0 k1 => h5'.2.2 p k k0 (by omega)⟩
    have := h5'.1
    rw [if_neg (by omega)] at this
    exact this
theorem C128 (h : RQ D m s) (hI : InvS D) {x : Int} (x_0 : -2147483648 ≤ x) (x_1 : x < 2147483648) : mm_ev d 128 0 [some (.ref 100), (some (.int (iI (x))))] [] m = some (some (some (.int (iI (bI (inB x 0 (((2 ^ (st D 6).toNat : Nat) : Int) - 1)))))), m) := by
  obtain ⟨q0, q1⟩ := hI.2.2.2.2.2.1
  have pw := pow_r q1
  have b7 := h.2.2.2.1.1.2.2.2.2.2.2.2.1
  rw [sg_128_0]
  by_cases y0 : x < 0
  · rw [show inB x 0 (((2 ^ (st D 6).toNat : Nat) : Int) - 1) = false from by
      cases e : inB x 0 (((2 ^ (st D 6).toNat : Nat) : Int) - 1)
      · rfl
      · have := inB_t.mp e; omega]
    simp (disch := omega) only [↓reduceIte, not_false_eq_true, not_true_eq_false, and_self, and_true, true_and, false_and, and_false, or_true, true_or, or_false, false_or, or_self, reduceCtorEq, mm_q, Option.getD_some, cI_some, cJ_some, cV_some, cS_some, kd_sI, kd_sL, kd_sR, kd_cp, ln_sI, ln_sL, ln_sR, ln_cp, gR_sI, gR_sL, gR_sR, gR_cp, gL_sI, gL_sR, gL_cp, gI_sL, gI_sR, iI_add, iI_sub, iI_mul, iI_neg, iI_in, iI_tn, iI_lt, iI_eq, Nat.reduceLeDiff, Nat.reduceEqDiff, Nat.reduceAdd, Int.reduceEq, Int.reduceLT, Int.reduceLE, Int.reduceNeg, Int.reduceAdd, Int.reduceSub, Int.reduceMul, bI_t, bI_f, decide_true, decide_false, Bool.and_true, Bool.and_false, Bool.true_and, Bool.false_and, Bool.false_eq_true, Bool.and_self, Bool.not_true, Bool.not_false, Bool.true_or, Bool.false_or, Bool.or_true, Bool.or_false, y0]
  · by_cases y1 : x < ((2 ^ (st D 6).toNat : Nat) : Int)
    · rw [inB_t.mpr ⟨show 0 ≤ x by omega, by omega⟩]
      simp (disch := omega) only [shX h.1, stF h.1 h.2.1, h.2.2.1, b7, shl_p q0 q1, ↓reduceIte, not_false_eq_true, not_true_eq_false, and_self, and_true, true_and, false_and, and_false, or_true, true_or, or_false, false_or, or_self, reduceCtorEq, mm_q, Option.getD_some, cI_some, cJ_some, cV_some, cS_some, kd_sI, kd_sL, kd_sR, kd_cp, ln_sI, ln_sL, ln_sR, ln_cp, gR_sI, gR_sL, gR_sR, gR_cp, gL_sI, gL_sR, gL_cp, gI_sL, gI_sR, iI_add, iI_sub, iI_mul, iI_neg, iI_in, iI_tn, iI_lt, iI_eq, Nat.reduceLeDiff, Nat.reduceEqDiff, Nat.reduceAdd, Int.reduceEq, Int.reduceLT, Int.reduceLE, Int.reduceNeg, Int.reduceAdd, Int.reduceSub, Int.reduceMul, bI_t, bI_f, decide_true, decide_false, Bool.and_true, Bool.and_false, Bool.true_and, Bool.false_and, Bool.false_eq_true, Bool.and_self, Bool.not_true, Bool.not_false, Bool.true_or, Bool.false_or, Bool.or_true, Bool.or_false, y0, y1]
    · rw [show inB x 0 (((2 ^ (st D 6).toNat : Nat) : Int) - 1) = false from by
        cases e : inB x 0 (((2 ^ (st D 6).toNat : Nat) : Int) - 1)
        · rfl
        · have := inB_t.mp e; omega]
      simp (disch := omega) only [shX h.1, stF h.1 h.2.1, h.2.2.1, b7, shl_p q0 q1, ↓reduceIte, not_false_eq_true, not_true_eq_false, and_self, and_true, true_and, false_and, and_false, or_true, true_or, or_false, false_or, or_self, reduceCtorEq, mm_q, Option.getD_some, cI_some, cJ_some, cV_some, cS_some, kd_sI, kd_sL, kd_sR, kd_cp, ln_sI, ln_sL, ln_sR, ln_cp, gR_sI, gR_sL, gR_sR, gR_cp, gL_sI, gL_sR, gL_cp, gI_sL, gI_sR, iI_add, iI_sub, iI_mul, iI_neg, iI_in, iI_tn, iI_lt, iI_eq, Nat.reduceLeDiff, Nat.reduceEqDiff, Nat.reduceAdd, Int.reduceEq, Int.reduceLT, Int.reduceLE, Int.reduceNeg, Int.reduceAdd, Int.reduceSub, Int.reduceMul, bI_t, bI_f, decide_true, decide_false, Bool.and_true, Bool.and_false, Bool.true_and, Bool.false_and, Bool.false_eq_true, Bool.and_self, Bool.not_true, Bool.not_false, Bool.true_or, Bool.false_or, Bool.or_true, Bool.or_false, y0, y1]
/-- lags -/
theorem C127 (h : RQ D m s) (hI : InvS D) (hL : InvL D) (hIB : InvB D (sa D)) (hd : 7 ≤ d) {so x : Int} (so_0 : -2147483648 ≤ so) (so_1 : so < 2147483648) (x_0 : -2147483648 ≤ x) (x_1 : x < 2147483648) : ∃ m', mm_ev d 127 0 [some (.ref 100), (some (.int (iI (so)))), (some (.int (iI (x)))), none] [] m = some (some (some (.int (iI (lagsS D so x)))), m') ∧ FC m m' := by
  obtain ⟨q0, q1⟩ := hI.2.2.2.2.2.1
  have pw := pow_r q1
  have sF := stF h.1 h.2.1
  have xF := shX h.1
  have e128 := C128 (d := d - 1) h hI so_0 so_1
  cases z0 : inB so 0 (((2 ^ (st D 6).toNat : Nat) : Int) - 1)
  · obtain ⟨v, ev⟩ : ∃ v, mm_ev (d - 1) 279 0 [(some (.int (iI (so))))] [] m = some (some (some (.int (v))), m) := ⟨_, sg_279_0⟩
    have hv : lagsS D so x = -1 := by
      unfold lagsS
      rw [if_neg (fun w => by
        have w := inB_t.mp w
        have : inB so 0 (((2 ^ (st D 6).toNat : Nat) : Int) - 1) = true := inB_t.mpr ⟨by omega, by omega⟩
        rw [z0] at this; cases this)]
    rw [z0, bI_f] at e128
    refine ⟨m, ?_, FC.rf⟩
    rw [hv, sg_127_0 (by omega)]
    simp (disch := omega) only [xF, ↓reduceIte, not_false_eq_true, not_true_eq_false, and_self, and_true, true_and, false_and, and_false, or_true, true_or, or_false, false_or, or_self, reduceCtorEq, mm_q, Option.getD_some, cI_some, cJ_some, cV_some, cS_some, kd_sI, kd_sL, kd_sR, kd_cp, ln_sI, ln_sL, ln_sR, ln_cp, gR_sI, gR_sL, gR_sR, gR_cp, gL_sI, gL_sR, gL_cp, gI_sL, gI_sR, iI_add, iI_sub, iI_mul, iI_neg, iI_in, iI_tn, iI_lt, iI_eq, Nat.reduceLeDiff, Nat.reduceEqDiff, Nat.reduceAdd, Int.reduceEq, Int.reduceLT, Int.reduceLE, Int.reduceNeg, Int.reduceAdd, Int.reduceSub, Int.reduceMul, ev, e128]
    rw [sg_127_10 (by omega)]
    simp (disch := omega) only [↓reduceIte, not_false_eq_true, not_true_eq_false, and_self, and_true, true_and, false_and, and_false, or_true, true_or, or_false, false_or, or_self, reduceCtorEq, mm_q, Option.getD_some, cI_some, cJ_some, cV_some, cS_some, kd_sI, kd_sL, kd_sR, kd_cp, ln_sI, ln_sL, ln_sR, ln_cp, gR_sI, gR_sL, gR_sR, gR_cp, gL_sI, gL_sR, gL_cp, gI_sL, gI_sR, iI_add, iI_sub, iI_mul, iI_neg, iI_in, iI_tn, iI_lt, iI_eq, Nat.reduceLeDiff, Nat.reduceEqDiff, Nat.reduceAdd, Int.reduceEq, Int.reduceLT, Int.reduceLE, Int.reduceNeg, Int.reduceAdd, Int.reduceSub, Int.reduceMul]
  · obtain ⟨a0, a1⟩ := inB_t.mp z0
    have ev := C279 (d := d - 1) (m := m) a0 (show so < 256 by omega)
    have br := bitsN_r (x := so)
    rw [z0, bI_t] at e128
    have run : mm_ev d 127 0 [some (.ref 100), (some (.int (iI (so)))), (some (.int (iI (x)))), none] [] m = mm_ev d 127 10 [some (.ref 100), (some (.int (iI (so)))), (some (.int (iI (x)))), (some (.int (iI (bitsN so))))] [.int (iI 1)] m := by
      rw [sg_127_0 (by omega)]
      simp (disch := omega) only [xF, ↓reduceIte, not_false_eq_true, not_true_eq_false, and_self, and_true, true_and, false_and, and_false, or_true, true_or, or_false, false_or, or_self, reduceCtorEq, mm_q, Option.getD_some, cI_some, cJ_some, cV_some, cS_some, kd_sI, kd_sL, kd_sR, kd_cp, ln_sI, ln_sL, ln_sR, ln_cp, gR_sI, gR_sL, gR_sR, gR_cp, gL_sI, gL_sR, gL_cp, gI_sL, gI_sR, iI_add, iI_sub, iI_mul, iI_neg, iI_in, iI_tn, iI_lt, iI_eq, Nat.reduceLeDiff, Nat.reduceEqDiff, Nat.reduceAdd, Int.reduceEq, Int.reduceLT, Int.reduceLE, Int.reduceNeg, Int.reduceAdd, Int.reduceSub, Int.reduceMul, ev, e128]
    rw [run]
    by_cases y0 : so = 0
    · have b0 : bitsN so = 0 := by rw [y0]; decide
      have hv : lagsS D so x = -1 := by
        unfold lagsS
        rw [if_neg (fun w => by have := inB_t.mp w; omega)]
      refine ⟨m, ?_, FC.rf⟩
      rw [hv, b0, sg_127_10 (by omega)]
      simp (disch := omega) only [↓reduceIte, not_false_eq_true, not_true_eq_false, and_self, and_true, true_and, false_and, and_false, or_true, true_or, or_false, false_or, or_self, reduceCtorEq, mm_q, Option.getD_some, cI_some, cJ_some, cV_some, cS_some, kd_sI, kd_sL, kd_sR, kd_cp, ln_sI, ln_sL, ln_sR, ln_cp, gR_sI, gR_sL, gR_sR, gR_cp, gL_sI, gL_sR, gL_cp, gI_sL, gI_sR, iI_add, iI_sub, iI_mul, iI_neg, iI_in, iI_tn, iI_lt, iI_eq, Nat.reduceLeDiff, Nat.reduceEqDiff, Nat.reduceAdd, Int.reduceEq, Int.reduceLT, Int.reduceLE, Int.reduceNeg, Int.reduceAdd, Int.reduceSub, Int.reduceMul]
    · have bp : 1 ≤ bitsN so := by
        have : ∀ x : Fin 256, ¬ x.val = 0 → 1 ≤ bitsN (x.val : Int) := by decide +kernel
        have := this ⟨so.toNat, by omega⟩ (by simp only; omega)
        simp only at this
        rw [show ((so.toNat : Nat) : Int) = so by omega] at this
        exact this
      have h1 : lagsS D so x = (if 4 < bitsN so then -1 else if inB x 0 (bitsN so) = true then (if (lagR D so).1 < 0 then -1 else if x = 0 then (lagR D so).1 else (lagR D so).2.1 (x - 1)) else -1) := by
        unfold lagsS
        rw [if_pos (inB_t.mpr ⟨by omega, a1⟩)]
      rw [h1]
      by_cases y1 : 4 < bitsN so
      · refine ⟨m, ?_, FC.rf⟩
        rw [if_pos y1, sg_127_10 (by omega)]
        simp (disch := omega) only [↓reduceIte, not_false_eq_true, not_true_eq_false, and_self, and_true, true_and, false_and, and_false, or_true, true_or, or_false, false_or, or_self, reduceCtorEq, mm_q, Option.getD_some, cI_some, cJ_some, cV_some, cS_some, kd_sI, kd_sL, kd_sR, kd_cp, ln_sI, ln_sL, ln_sR, ln_cp, gR_sI, gR_sL, gR_sR, gR_cp, gL_sI, gL_sR, gL_cp, gI_sL, gI_sR, iI_add, iI_sub, iI_mul, iI_neg, iI_in, iI_tn, iI_lt, iI_eq, Nat.reduceLeDiff, Nat.reduceEqDiff, Nat.reduceAdd, Int.reduceEq, Int.reduceLT, Int.reduceLE, Int.reduceNeg, Int.reduceAdd, Int.reduceSub, Int.reduceMul, show ¬ bitsN so < 1 by omega, y1]
      · rw [if_neg y1]
        by_cases y2 : x < 0
        · refine ⟨m, ?_, FC.rf⟩
          rw [if_neg (fun w => by have := inB_t.mp w; omega), sg_127_10 (by omega)]
          simp (disch := omega) only [↓reduceIte, not_false_eq_true, not_true_eq_false, and_self, and_true, true_and, false_and, and_false, or_true, true_or, or_false, false_or, or_self, reduceCtorEq, mm_q, Option.getD_some, cI_some, cJ_some, cV_some, cS_some, kd_sI, kd_sL, kd_sR, kd_cp, ln_sI, ln_sL, ln_sR, ln_cp, gR_sI, gR_sL, gR_sR, gR_cp, gL_sI, gL_sR, gL_cp, gI_sL, gI_sR, iI_add, iI_sub, iI_mul, iI_neg, iI_in, iI_tn, iI_lt, iI_eq, Nat.reduceLeDiff, Nat.reduceEqDiff, Nat.reduceAdd, Int.reduceEq, Int.reduceLT, Int.reduceLE, Int.reduceNeg, Int.reduceAdd, Int.reduceSub, Int.reduceMul, show ¬ bitsN so < 1 by omega, y1, y2]
        · by_cases y3 : bitsN so < x
          · refine ⟨m, ?_, FC.rf⟩
            rw [if_neg (fun w => by have := inB_t.mp w; omega), sg_127_10 (by omega)]
            simp (disch := omega) only [↓reduceIte, not_false_eq_true, not_true_eq_false, and_self, and_true, true_and, false_and, and_false, or_true, true_or, or_false, false_or, or_self, reduceCtorEq, mm_q, Option.getD_some, cI_some, cJ_some, cV_some, cS_some, kd_sI, kd_sL, kd_sR, kd_cp, ln_sI, ln_sL, ln_sR, ln_cp, gR_sI, gR_sL, gR_sR, gR_cp, gL_sI, gL_sR, gL_cp, gI_sL, gI_sR, iI_add, iI_sub, iI_mul, iI_neg, iI_in, iI_tn, iI_lt, iI_eq, Nat.reduceLeDiff, Nat.reduceEqDiff, Nat.reduceAdd, Int.reduceEq, Int.reduceLT, Int.reduceLE, Int.reduceNeg, Int.reduceAdd, Int.reduceSub, Int.reduceMul, show ¬ bitsN so < 1 by omega, y1, y2, y3]
          · rw [if_pos (inB_t.mpr ⟨by omega, by omega⟩)]
            obtain ⟨m1, e1, f1, r1⟩ := C85 (d := d - 1) (take := sa D 0) (late := false) h.1 h.2.1 here2 h155 h.2.2.2.1 h.2.2.2.2.2.1 hI hL (by omega)
            rw [bI_f] at e1
            have fc := f1.C
            have hm1 := h.fc fc q1
            obtain ⟨m2, e2, f2, r2⟩ := C14 (d := d - 1) hm1.1 hm1.2.1 hm1.2.2.2.1 r1 hI hIB (by omega) a0 (show so < _ by omega) (show bitsN so ≤ 4 by omega)
            have hm2 := hm1.fc f2 q1
            refine ⟨m2, ?_, fc.tr f2⟩
            have run2 : mm_ev d 127 10 [some (.ref 100), (some (.int (iI (so)))), (some (.int (iI (x)))), (some (.int (iI (bitsN so))))] [.int (iI 1)] m = mm_ev d 127 57 [some (.ref 100), (some (.int (iI (so)))), (some (.int (iI (x)))), (some (.int (iI (bitsN so))))] [] m1 := by
              rw [sg_127_10 (by omega)]
              simp (disch := omega) only [xF, h.2.2.1, h.2.2.2.2.2.2, shP h.1, shW h.1, ↓reduceIte, not_false_eq_true, not_true_eq_false, and_self, and_true, true_and, false_and, and_false, or_true, true_or, or_false, false_or, or_self, reduceCtorEq, mm_q, Option.getD_some, cI_some, cJ_some, cV_some, cS_some, kd_sI, kd_sL, kd_sR, kd_cp, ln_sI, ln_sL, ln_sR, ln_cp, gR_sI, gR_sL, gR_sR, gR_cp, gL_sI, gL_sR, gL_cp, gI_sL, gI_sR, iI_add, iI_sub, iI_mul, iI_neg, iI_in, iI_tn, iI_lt, iI_eq, Nat.reduceLeDiff, Nat.reduceEqDiff, Nat.reduceAdd, Int.reduceEq, Int.reduceLT, Int.reduceLE, Int.reduceNeg, Int.reduceAdd, Int.reduceSub, Int.reduceMul, show ¬ bitsN so < 1 by omega, y1, y2, y3, e1]
            rw [run2]
            by_cases y4 : (lagR D so).1 < 0
            · rw [decide_eq_false (show ¬ 0 ≤ (lagR D so).1 by omega), bI_f] at e2
              rw [if_pos y4, sg_127_57 (by omega)]
              simp (disch := omega) only [shX hm1.1, shW hm1.1, hm1.2.2.1, ↓reduceIte, not_false_eq_true, not_true_eq_false, and_self, and_true, true_and, false_and, and_false, or_true, true_or, or_false, false_or, or_self, reduceCtorEq, mm_q, Option.getD_some, cI_some, cJ_some, cV_some, cS_some, kd_sI, kd_sL, kd_sR, kd_cp, ln_sI, ln_sL, ln_sR, ln_cp, gR_sI, gR_sL, gR_sR, gR_cp, gL_sI, gL_sR, gL_cp, gI_sL, gI_sR, iI_add, iI_sub, iI_mul, iI_neg, iI_in, iI_tn, iI_lt, iI_eq, Nat.reduceLeDiff, Nat.reduceEqDiff, Nat.reduceAdd, Int.reduceEq, Int.reduceLT, Int.reduceLE, Int.reduceNeg, Int.reduceAdd, Int.reduceSub, Int.reduceMul, e2]
            · rw [decide_eq_true (show 0 ≤ (lagR D so).1 by omega), bI_t] at e2
              rw [if_neg y4]
              obtain ⟨p1, p2⟩ := r2 (by omega)
              by_cases y5 : x = 0
              · rw [if_pos y5, sg_127_57 (by omega)]
                simp (disch := omega) only [shX hm1.1, shW hm1.1, shX hm2.1, shW hm2.1, hm1.2.2.1, ↓reduceIte, not_false_eq_true, not_true_eq_false, and_self, and_true, true_and, false_and, and_false, or_true, true_or, or_false, false_or, or_self, reduceCtorEq, mm_q, Option.getD_some, cI_some, cJ_some, cV_some, cS_some, kd_sI, kd_sL, kd_sR, kd_cp, ln_sI, ln_sL, ln_sR, ln_cp, gR_sI, gR_sL, gR_sR, gR_cp, gL_sI, gL_sR, gL_cp, gI_sL, gI_sR, iI_add, iI_sub, iI_mul, iI_neg, iI_in, iI_tn, iI_lt, iI_eq, Nat.reduceLeDiff, Nat.reduceEqDiff, Nat.reduceAdd, Int.reduceEq, Int.reduceLT, Int.reduceLE, Int.reduceNeg, Int.reduceAdd, Int.reduceSub, Int.reduceMul, e2, y5, p1]
              · rw [if_neg y5, sg_127_57 (by omega)]
                have p3 := p2 (x - 1) (by omega) (by omega)
                simp (disch := omega) only [shX hm1.1, shW hm1.1, shX hm2.1, shW hm2.1, hm1.2.2.1, ↓reduceIte, not_false_eq_true, not_true_eq_false, and_self, and_true, true_and, false_and, and_false, or_true, true_or, or_false, false_or, or_self, reduceCtorEq, mm_q, Option.getD_some, cI_some, cJ_some, cV_some, cS_some, kd_sI, kd_sL, kd_sR, kd_cp, ln_sI, ln_sL, ln_sR, ln_cp, gR_sI, gR_sL, gR_sR, gR_cp, gL_sI, gL_sR, gL_cp, gI_sL, gI_sR, iI_add, iI_sub, iI_mul, iI_neg, iI_in, iI_tn, iI_lt, iI_eq, Nat.reduceLeDiff, Nat.reduceEqDiff, Nat.reduceAdd, Int.reduceEq, Int.reduceLT, Int.reduceLE, Int.reduceNeg, Int.reduceAdd, Int.reduceSub, Int.reduceMul, e2, y5, p3]
end
