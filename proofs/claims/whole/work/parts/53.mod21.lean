def choGo (so : Int) : Nat → Int → Int × (Int → Int) → Int × (Int → Int)
  | 0, _, s => s
  | r + 1, w, s => choGo so r (w + 1) (if hasW so w = true then (s.1 + 1, updB s.2 s.1 w) else s)
def choS (D : Nat → Nat → Int32) (so : Int) : Int × (Int → Int) := choGo so (st D 6).toNat 0 (0, fun _ => 0)
def lagR (D : Nat → Nat → Int32) (so : Int) : Int × (Int → Int) × (Int → Int) := thr (mayS D (choS D so).2) (choS D so).1 (choS D so).1.toNat 0 0 (-1, fun _ => 0, fun _ => 0)
def bitsN (x : Int) : Int := cntGo (hasW x) 8 0 0
def lagsS (D : Nat → Nat → Int32) (so what : Int) : Int := if inB so 1 (((2 ^ (st D 6).toNat : Nat) : Int) - 1) = true then (if 4 < bitsN so then -1 else if inB what 0 (bitsN so) = true then (if (lagR D so).1 < 0 then -1 else if what = 0 then (lagR D so).1 else (lagR D so).2.1 (what - 1)) else -1) else -1
section
theorem bits_ok : ∀ x : Fin 256, bitsS (iI (x.val : Int)) = iI (cntGo (hasW (x.val : Int)) 8 0 0) := by decide +kernel
theorem bits_w : ∀ (w : Fin 9) (x : Fin 256), x.val < 2 ^ w.val → cntGo (hasW (x.val : Int)) w.val 0 0 = cntGo (hasW (x.val : Int)) 8 0 0 := by decide +kernel
theorem bitsS_N {x : Int} (h0 : 0 ≤ x) (h1 : x < 256) : bitsS (iI x) = iI (bitsN x) := by
  have := bits_ok ⟨x.toNat, by omega⟩
  simp only at this
  rw [show ((x.toNat : Nat) : Int) = x by omega] at this
  exact this
theorem bits_c {x w : Int} (w0 : 0 ≤ w) (w1 : w ≤ 8) (h0 : 0 ≤ x) (h1 : x < ((2 ^ w.toNat : Nat) : Int)) : cntGo (hasW x) w.toNat 0 0 = bitsN x := by
  have p := pow_r w1
  have := bits_w ⟨w.toNat, by omega⟩ ⟨x.toNat, by omega⟩ (by simp only; omega)
  simp only at this
  rw [show ((x.toNat : Nat) : Int) = x by omega] at this
  exact this
theorem bitsN_r {x : Int} : 0 ≤ bitsN x ∧ bitsN x ≤ 8 := by
  have := cntGo_r (hasW x) 8 0 0
  unfold bitsN
  omega
variable {may : Int → Int → (Int → Int) → Bool} {n : Int}
def thR (n i : Int) (s s' : Int × (Int → Int) × (Int → Int)) : Prop := s.1 = s'.1 ∧ (∀ k, 0 ≤ k → k < i → s.2.2 k = s'.2.2 k) ∧ (0 ≤ s.1 → ∀ k, 0 ≤ k → k < n → s.2.1 k = s'.2.1 k)
theorem thrL_i (hm : ∀ i a lg lg', (∀ k, 0 ≤ k → k < i → lg k = lg' k) → may i a lg = may i a lg') {rec : Int → Int × (Int → Int) × (Int → Int) → Int × (Int → Int) × (Int → Int)} {i sum : Int} (hr : ∀ v s s', 0 ≤ v → thR n (i + 1) s s' → thR n (i + 1) (rec v s) (rec v s')) (h0 : 0 ≤ sum) : ∀ (r : Nat) (a : Int) (s s' : Int × (Int → Int) × (Int → Int)), 0 ≤ a → thR n i s s' → thR n i (thrL rec may i sum r a s) (thrL rec may i sum r a s')
  | 0, _, _, _, _, h => h
  | r + 1, a, s, s', a0, h => by
    unfold thrL
    rw [hm i a s.2.2 s'.2.2 h.2.1]
    refine thrL_i hm hr h0 r (a + 1) _ _ (by omega) ?_
    split
    · have := hr (sum + a) (s.1, s.2.1, updB s.2.2 i a) (s'.1, s'.2.1, updB s'.2.2 i a) (by omega) ⟨h.1, fun k k0 k1 => by
        simp only [updB]
        split
        · rfl
        · exact h.2.1 k k0 (by omega), h.2.2⟩
      exact ⟨this.1, fun k k0 k1 => this.2.1 k k0 (by omega), this.2.2⟩
    · exact h
theorem thr_i (hm : ∀ i a lg lg', (∀ k, 0 ≤ k → k < i → lg k = lg' k) → may i a lg = may i a lg') : ∀ (f : Nat) (i sum : Int) (s s' : Int × (Int → Int) × (Int → Int)), i + f = n → 0 ≤ sum → thR n i s s' → thR n i (thr may n f i sum s) (thr may n f i sum s')
  | 0, i, sum, s, s', hi, h0, h => by
    unfold thr
    rw [h.1]
    split
    · refine ⟨rfl, h.2.1, fun _ k k0 k1 => ?_⟩
      simp only [cpL]
      rw [if_pos ⟨k0, k1⟩, if_pos ⟨k0, k1⟩, h.2.1 k k0 (by omega)]
    · exact h
  | f + 1, i, sum, s, s', hi, h0, h => by
    unfold thr
    rw [h.1]
    split
    · exact thrL_i hm (fun v s s' v0 q => thr_i hm f (i + 1) v s s' (by omega) v0 q) h0 24 0 s s' (by omega) h
    · exact h
theorem allB_c {f g : Int → Bool} : ∀ (k : Nat) (i : Int), (∀ j, i ≤ j → j < i + k → f j = g j) → allB f k i = allB g k i
  | 0, _, _ => rfl
  | k + 1, i, h => by
    unfold allB
    rw [h i (by omega) (by omega), allB_c k (i + 1) (fun j j0 j1 => h j (by omega) (by omega))]
theorem mayS_c {D : Nat → Nat → Int32} {c : Int → Int} (i a : Int) (lg lg' : Int → Int) (h : ∀ k, 0 ≤ k → k < i → lg k = lg' k) : mayS D c i a lg = mayS D c i a lg' := by
  unfold mayS
  congr 1
  refine allB_c _ _ (fun j j0 j1 => ?_)
  rw [h j j0 (by omega)]
theorem cntGo_le (f : Int → Bool) : ∀ (k j : Nat) (q : Int), k ≤ j → cntGo f k q 0 ≤ cntGo f j q 0
  | 0, j, q, _ => by
    have := (cntGo_r f j q 0).1
    unfold cntGo at *
    exact this
  | k + 1, 0, q, h => by omega
  | k + 1, j + 1, q, h => by
    unfold cntGo
    rw [cntGo_a f k, cntGo_a f j]
    have := cntGo_le f k j (q + 1) (by omega)
    omega
end
section
variable {D : Nat → Nat → Int32} {E : Nat → Nat → Int64} {m m' m'' : mm_M} {d : Nat}
theorem cho_n {so : Int} : ∀ (r : Nat) (w : Int) (s : Int × (Int → Int)), (choGo so r w s).1 = s.1 + cntGo (hasW so) r w 0
  | 0, _, s => by unfold choGo cntGo; omega
  | r + 1, w, s => by
    unfold choGo cntGo
    rw [cho_n r (w + 1), cntGo_a (hasW so) r (w + 1) (if hasW so w = true then 0 + 1 else 0)]
    split
    · show s.1 + 1 + _ = _
      omega
    · omega
/-- lags: who is chosen -/
theorem M244L (hI : InvS D) (hL : InvL D) (hd : 4 ≤ d) {so what : Int} : ∀ (r : Nat) (w : Int) (s : Int × (Int → Int)) (m : mm_M), w = st D 6 - r → 0 ≤ w → MD D E m → Cho D m s.1 s.2 → coK D s.1 s.2 → s.1 + cntGo (hasW so) r w 0 ≤ 4 → ∃ m', mm_ev d 244 50 [some (.ref 316), some (.int (iI (so))), some (.int (iI (what))), some (.int (iI (w)))] [] m = mm_ev d 244 55 [some (.ref 316), some (.int (iI (so))), some (.int (iI (what))), some (.int (iI (st D 6)))] [.int (iI (st D 6)), .int (iI (st D 6))] m' ∧ Fr scM m m' ∧ Cho D m' (choGo so r w s).1 (choGo so r w s).2 ∧ coK D (choGo so r w s).1 (choGo so r w s).2
  | 0, w, s, m, hw, w0, h, hC, hc, hn => by
    refine ⟨m, ?_, Fr.rf, hC, hc⟩
    rw [sg_244_50 (by omega), show w = st D 6 by omega]
    simp (disch := omega) only [shM h.1, ↓reduceIte, not_false_eq_true, not_true_eq_false, and_self, and_true, true_and, reduceCtorEq, mm_q, Option.getD_some, cI_some, cJ_some, cV_some, cS_some, Nat.reduceLeDiff, Nat.reduceEqDiff, M201 h]
  | r + 1, w, s, m, hw, w0, h, hC, hc, hn => by
    obtain ⟨k0, k1⟩ := hI.2.2.2.2.2.1
    have w1 : w < st D 6 := by omega
    obtain ⟨n0, n1⟩ := hc.1
    unfold cntGo at hn
    rw [cntGo_a] at hn
    have cr := (cntGo_r (hasW so) r (w + 1) 0).1
    unfold choGo
    rw [sg_244_50 (by omega)]
    simp (disch := omega) only [shM h.1, ↓reduceIte, not_false_eq_true, not_true_eq_false, and_self, and_true, true_and, reduceCtorEq, mm_q, Option.getD_some, cI_some, cJ_some, cV_some, cS_some, Nat.reduceLeDiff, Nat.reduceEqDiff, M201 h]
    rw [sg_244_55 (by omega), if_pos (by rw [iI_lt] <;> omega)]
    by_cases z1 : (iShr (iI so) (iI w) &&& iI 1) = iI 1
    · have z2 : hasW so w = true := by unfold hasW; exact decide_eq_true z1
      rw [z2, if_pos rfl] at hn
      rw [if_pos z2]
      have g1 : Fr scM m (mm_sI m 334 s.1.toNat (iI w)) := Fr.sI rfl
      have h1 := h.fr g1
      obtain ⟨m2, e2, g2⟩ := M202 (d := d - 1) h1 hI hL (by omega) (take := sa D 0) w0 w1
      have h2 := h1.frL g2
      have g3 : Fr scM m2 (mm_sI m2 335 s.1.toNat (iI (tempoS D w (sa D 0)))) := Fr.sI rfl
      have h3 := h2.fr g3
      have g4 : Fr scM (mm_sI m2 335 s.1.toNat (iI (tempoS D w (sa D 0)))) (mm_sI (mm_sI m2 335 s.1.toNat (iI (tempoS D w (sa D 0)))) 316 35 (iI (s.1 + 1))) := Fr.sI rfl
      have c1 : mm_gI m2 316 35 = iI s.1 := by rw [g2.gI rfl, gI_sI, if_neg (by omega)]; exact hC.1
      have hC4 : Cho D (mm_sI (mm_sI m2 335 s.1.toNat (iI (tempoS D w (sa D 0)))) 316 35 (iI (s.1 + 1))) (s.1 + 1) (updB s.2 s.1 w) := by
        refine ⟨by rw [gI_sI, if_pos ⟨rfl, rfl⟩], fun i i0 i1 => ⟨?_, ?_⟩⟩
        · rw [gI_sI, gI_sI, if_neg (by omega), if_neg (by omega), g2.gI rfl, gI_sI]
          unfold updB
          by_cases y : i = s.1
          · rw [if_pos ⟨rfl, by omega⟩, if_pos y]
          · rw [if_neg (by omega), if_neg y]; exact (hC.2 i i0 (by omega)).1
        · rw [gI_sI, gI_sI, if_neg (by omega)]
          unfold updB
          by_cases y : i = s.1
          · rw [if_pos ⟨rfl, by omega⟩, if_pos y]
          · rw [if_neg (by omega), if_neg y, g2.gI rfl, gI_sI, if_neg (by omega)]; exact (hC.2 i i0 (by omega)).2
      have hc4 : coK D (s.1 + 1) (updB s.2 s.1 w) := ⟨by omega, fun i i0 i1 => by
        unfold updB
        split
        · omega
        · exact hc.2 i i0 (by omega)⟩
      obtain ⟨m', e5, g5, r5⟩ := M244L hI hL hd (so := so) (what := what) r (w + 1) (s.1 + 1, updB s.2 s.1 w) _ (by omega) (by omega) (h3.fr g4) hC4 hc4 (by simp only; omega)
      refine ⟨m', ?_, (((g1.tr g2.LM).tr g3).tr g4).tr g5, r5⟩
      rw [← e5, if_pos z1]
      have c0 : mm_gI (mm_sI m 334 s.1.toNat (iI w)) 316 35 = iI s.1 := by rw [gI_sI, if_neg (by omega)]; exact hC.1
      simp (disch := omega) only [shM h.1, shM h1.1, ↓reduceIte, not_false_eq_true, not_true_eq_false, and_self, and_true, true_and, false_and, and_false, or_true, true_or, or_false, false_or, or_self, reduceCtorEq, mm_q, Option.getD_some, cI_some, cJ_some, cV_some, cS_some, kd_sI, kd_sL, kd_sR, kd_cp, ln_sI, ln_sL, ln_sR, ln_cp, gR_sI, gR_sL, gR_sR, gR_cp, gL_sI, gL_sR, gL_cp, gI_sL, gI_sR, iI_add, iI_sub, iI_mul, iI_neg, iI_in, iI_tn, iI_lt, iI_eq, Nat.reduceLeDiff, Nat.reduceEqDiff, Nat.reduceAdd, Int.reduceEq, Int.reduceLT, Int.reduceLE, Int.reduceNeg, Int.reduceAdd, Int.reduceSub, Int.reduceMul, hC.1, c0, MD_sa h1, e2, c1]
      rw [sg_244_96]
      have c5 : mm_gI (mm_sI m2 335 s.1.toNat (iI (tempoS D w (sa D 0)))) 316 35 = iI s.1 := by rw [gI_sI, if_neg (by omega)]; exact c1
      simp (disch := omega) only [shM h2.1, shM h3.1, ↓reduceIte, not_false_eq_true, not_true_eq_false, and_self, and_true, true_and, false_and, and_false, or_true, true_or, or_false, false_or, or_self, reduceCtorEq, mm_q, Option.getD_some, cI_some, cJ_some, cV_some, cS_some, kd_sI, kd_sL, kd_sR, kd_cp, ln_sI, ln_sL, ln_sR, ln_cp, gR_sI, gR_sL, gR_sR, gR_cp, gL_sI, gL_sR, gL_cp, gI_sL, gI_sR, iI_add, iI_sub, iI_mul, iI_neg, iI_in, iI_tn, iI_lt, iI_eq, Nat.reduceLeDiff, Nat.reduceEqDiff, Nat.reduceAdd, Int.reduceEq, Int.reduceLT, Int.reduceLE, Int.reduceNeg, Int.reduceAdd, Int.reduceSub, Int.reduceMul, c5, sg_244_107]
    · have z2 : hasW so w = false := by unfold hasW; exact decide_eq_false z1
      rw [z2] at hn
      rw [z2, if_neg z1]
      simp only [Bool.false_eq_true, if_false] at hn ⊢
      obtain ⟨m', e5, g5, r5⟩ := M244L hI hL hd (so := so) (what := what) r (w + 1) s m (by omega) (by omega) h hC hc (by omega)
      refine ⟨m', ?_, g5, r5⟩
      rw [← e5]
      simp (disch := omega) only [↓reduceIte, not_false_eq_true, not_true_eq_false, and_self, and_true, true_and, false_and, and_false, or_true, true_or, or_false, false_or, or_self, reduceCtorEq, mm_q, Option.getD_some, cI_some, cJ_some, cV_some, cS_some, kd_sI, kd_sL, kd_sR, kd_cp, ln_sI, ln_sL, ln_sR, ln_cp, gR_sI, gR_sL, gR_sR, gR_cp, gL_sI, gL_sR, gL_cp, gI_sL, gI_sR, iI_add, iI_sub, iI_mul, iI_neg, iI_in, iI_tn, iI_lt, iI_eq, Nat.reduceLeDiff, Nat.reduceEqDiff, Nat.reduceAdd, Int.reduceEq, Int.reduceLT, Int.reduceLE, Int.reduceNeg, Int.reduceAdd, Int.reduceSub, Int.reduceMul, sg_244_107]
/-- lags -/
theorem M244 (h : MD D E m) (hI : InvS D) (hL : InvL D) (hIB : InvB D (sa D)) (hd : 10 ≤ d) {so what : Int} (so_0 : -2147483648 ≤ so) (so_1 : so < 2147483648) (what_0 : -2147483648 ≤ what) (what_1 : what < 2147483648) : ∃ m', mm_ev d 244 0 [some (.ref 316), some (.int (iI (so))), some (.int (iI (what))), none] [] m = some (some (some (.int (iI (lagsS D so what)))), m') ∧ Fr scM m m' := by
  have h1 := h.fr thr0
  obtain ⟨k0, k1⟩ := hI.2.2.2.2.2.1
  have pw := pow_r k1
  rw [sg_244_0 (by omega)]
  simp (disch := omega) only [shM h.1, ↓reduceIte, not_false_eq_true, not_true_eq_false, and_self, and_true, true_and, false_and, and_false, or_true, true_or, or_false, false_or, or_self, reduceCtorEq, mm_q, Option.getD_some, cI_some, cJ_some, cV_some, cS_some, kd_sI, kd_sL, kd_sR, kd_cp, ln_sI, ln_sL, ln_sR, ln_cp, gR_sI, gR_sL, gR_sR, gR_cp, gL_sI, gL_sR, gL_cp, gI_sL, gI_sR, iI_add, iI_sub, iI_mul, iI_neg, iI_in, iI_tn, iI_lt, iI_eq, Nat.reduceLeDiff, Nat.reduceEqDiff, Nat.reduceAdd, Int.reduceEq, Int.reduceLT, Int.reduceLE, Int.reduceNeg, Int.reduceAdd, Int.reduceSub, Int.reduceMul, M201 h1, shl_p k0 k1, M188']
  rw [sg_244_18 (by omega)]
  unfold lagsS
  cases z1 : inB so 1 (((2 ^ (st D 6).toNat : Nat) : Int) - 1)
  · exact ⟨_, by simp (disch := omega) only [↓reduceIte, not_false_eq_true, not_true_eq_false, and_self, and_true, true_and, false_and, and_false, or_true, true_or, or_false, false_or, or_self, reduceCtorEq, mm_q, Option.getD_some, cI_some, cJ_some, cV_some, cS_some, kd_sI, kd_sL, kd_sR, kd_cp, ln_sI, ln_sL, ln_sR, ln_cp, gR_sI, gR_sL, gR_sR, gR_cp, gL_sI, gL_sR, gL_cp, gI_sL, gI_sR, iI_add, iI_sub, iI_mul, iI_neg, iI_in, iI_tn, iI_lt, iI_eq, Nat.reduceLeDiff, Nat.reduceEqDiff, Nat.reduceAdd, Int.reduceEq, Int.reduceLT, Int.reduceLE, Int.reduceNeg, Int.reduceAdd, Int.reduceSub, Int.reduceMul, bI_t, bI_f, decide_true, decide_false, Bool.and_true, Bool.and_false, Bool.true_and, Bool.false_and, Bool.false_eq_true, Bool.and_self, Bool.not_true, Bool.not_false, Bool.true_or, Bool.false_or, Bool.or_true, Bool.or_false], thr0⟩
  · obtain ⟨a0, a1⟩ := inB_t.mp z1
    have br := bitsN_r (x := so)
    have be := bitsS_N (x := so) (by omega) (by omega)
    by_cases z2 : 4 < bitsN so
    · exact ⟨_, by simp (disch := omega) only [↓reduceIte, not_false_eq_true, not_true_eq_false, and_self, and_true, true_and, false_and, and_false, or_true, true_or, or_false, false_or, or_self, reduceCtorEq, mm_q, Option.getD_some, cI_some, cJ_some, cV_some, cS_some, kd_sI, kd_sL, kd_sR, kd_cp, ln_sI, ln_sL, ln_sR, ln_cp, gR_sI, gR_sL, gR_sR, gR_cp, gL_sI, gL_sR, gL_cp, gI_sL, gI_sR, iI_add, iI_sub, iI_mul, iI_neg, iI_in, iI_tn, iI_lt, iI_eq, Nat.reduceLeDiff, Nat.reduceEqDiff, Nat.reduceAdd, Int.reduceEq, Int.reduceLT, Int.reduceLE, Int.reduceNeg, Int.reduceAdd, Int.reduceSub, Int.reduceMul, bI_t, bI_f, decide_true, decide_false, Bool.and_true, Bool.and_false, Bool.true_and, Bool.false_and, Bool.false_eq_true, Bool.and_self, Bool.not_true, Bool.not_false, Bool.true_or, Bool.false_or, Bool.or_true, Bool.or_false, M245, be, z2], thr0⟩
    · simp (disch := omega) only [↓reduceIte, not_false_eq_true, not_true_eq_false, and_self, and_true, true_and, false_and, and_false, or_true, true_or, or_false, false_or, or_self, reduceCtorEq, mm_q, Option.getD_some, cI_some, cJ_some, cV_some, cS_some, kd_sI, kd_sL, kd_sR, kd_cp, ln_sI, ln_sL, ln_sR, ln_cp, gR_sI, gR_sL, gR_sR, gR_cp, gL_sI, gL_sR, gL_cp, gI_sL, gI_sR, iI_add, iI_sub, iI_mul, iI_neg, iI_in, iI_tn, iI_lt, iI_eq, Nat.reduceLeDiff, Nat.reduceEqDiff, Nat.reduceAdd, Int.reduceEq, Int.reduceLT, Int.reduceLE, Int.reduceNeg, Int.reduceAdd, Int.reduceSub, Int.reduceMul, bI_t, bI_f, decide_true, decide_false, Bool.and_true, Bool.and_false, Bool.true_and, Bool.false_and, Bool.false_eq_true, Bool.and_self, Bool.not_true, Bool.not_false, Bool.true_or, Bool.false_or, Bool.or_true, Bool.or_false, M245, be, z2]
      rw [sg_244_35 (by omega)]
      cases z3 : inB what 0 (bitsN so)
      · exact ⟨_, by simp (disch := omega) only [↓reduceIte, not_false_eq_true, not_true_eq_false, and_self, and_true, true_and, false_and, and_false, or_true, true_or, or_false, false_or, or_self, reduceCtorEq, mm_q, Option.getD_some, cI_some, cJ_some, cV_some, cS_some, kd_sI, kd_sL, kd_sR, kd_cp, ln_sI, ln_sL, ln_sR, ln_cp, gR_sI, gR_sL, gR_sR, gR_cp, gL_sI, gL_sR, gL_cp, gI_sL, gI_sR, iI_add, iI_sub, iI_mul, iI_neg, iI_in, iI_tn, iI_lt, iI_eq, Nat.reduceLeDiff, Nat.reduceEqDiff, Nat.reduceAdd, Int.reduceEq, Int.reduceLT, Int.reduceLE, Int.reduceNeg, Int.reduceAdd, Int.reduceSub, Int.reduceMul, bI_t, bI_f, decide_true, decide_false, Bool.and_true, Bool.and_false, Bool.true_and, Bool.false_and, Bool.false_eq_true, Bool.and_self, Bool.not_true, Bool.not_false, Bool.true_or, Bool.false_or, Bool.or_true, Bool.or_false, M188', z3], thr0⟩
      · obtain ⟨b0, b1⟩ := inB_t.mp z3
        have g2 : Fr scM (mm_sI m 316 0 (iI 0)) (mm_sI (mm_sI m 316 0 (iI 0)) 316 35 (iI 0)) := Fr.sI rfl
        have h2 := h1.fr g2
        have cc := bits_c k0 k1 (x := so) (by omega) (by omega)
        obtain ⟨m3, e3, g3, hC, hc⟩ := M244L hI hL (d := d) (by omega) (so := so) (what := what) (st D 6).toNat 0 (0, fun _ => 0) _ (by omega) (by omega) h2 ⟨by rw [gI_sI, if_pos ⟨rfl, rfl⟩], fun i i0 i1 => by omega⟩ ⟨by simp, fun i i0 i1 => by simp only at i1; omega⟩ (by simp only; omega)
        have hn := cho_n (so := so) (st D 6).toNat 0 (0, fun _ => 0)
        rw [cc] at hn
        simp only [Int.zero_add] at hn
        rw [show choGo so (st D 6).toNat 0 (0, fun _ => 0) = choS D so from rfl] at hC hc hn
        have h3 := h2.fr g3
        obtain ⟨m4, e4, g4, hl⟩ := M246 (d := d - 1) h3 hI hIB hC hc (by omega)
        have h4 := h3.fr g4.FM
        have hC4 := hC.frF g4
        have g5 : Fr scM m4 (mm_sI m4 316 34 (iI (-1))) := Fr.sI rfl
        have g5' : Fr scG m4 (mm_sI m4 316 34 (iI (-1))) := Fr.sI rfl
        have h5 := h4.fr g5
        let bl0 : Int → Int := fun i => (mm_gI m4 339 i.toNat).toInt
        let lg0 : Int → Int := fun i => (mm_gI m4 338 i.toNat).toInt
        have hg5 : GT (mm_sI m4 316 34 (iI (-1))) (-1, bl0, lg0) := ⟨by rw [gI_sI, if_pos ⟨rfl, rfl⟩], fun i i0 i1 => ⟨by rw [gI_sI, if_neg (by omega)]; exact (iI_toInt _).symm, by rw [gI_sI, if_neg (by omega)]; exact (iI_toInt _).symm⟩⟩
        have nn := hc.1
        obtain ⟨m6, e6, g6, hg6⟩ := M251 (E := E) hc (choS D so).1.toNat 0 0 (-1, bl0, lg0) (d - 1) _ (by omega) (by omega) (by omega) (by omega) (by omega) (by simp) (by simp) h5 (hC4.frG g5') (hl.frG g5') hg5 (fun k k0 k1 => by omega)
        have ti := thr_i (n := (choS D so).1) (mayS_c (D := D) (c := (choS D so).2)) (choS D so).1.toNat 0 0 (-1, bl0, lg0) (-1, fun _ => 0, fun _ => 0) (by omega) (by omega) ⟨rfl, fun k k0 k1 => by omega, fun z => absurd z (by simp)⟩
        have rr := thr_r (may := mayS D (choS D so).2) (n := (choS D so).1) (choS D so).1.toNat 0 0 (-1, fun _ => 0, fun _ => 0) (by omega) (by omega) (by simp) (by simp)
        rw [show thr (mayS D (choS D so).2) (choS D so).1 (choS D so).1.toNat 0 0 (-1, fun _ => 0, fun _ => 0) = lagR D so from rfl] at ti rr
        have h6 := h5.fr g6.GM
        refine ⟨m6, ?_, (((((thr0.tr g2).tr g3).tr g4.FM).tr g5).tr g6.GM)⟩
        have q1 := hg6.1
        rw [ti.1] at q1
        simp (disch := omega) only [shM h1.1, ↓reduceIte, not_false_eq_true, not_true_eq_false, and_self, and_true, true_and, false_and, and_false, or_true, true_or, or_false, false_or, or_self, reduceCtorEq, mm_q, Option.getD_some, cI_some, cJ_some, cV_some, cS_some, kd_sI, kd_sL, kd_sR, kd_cp, ln_sI, ln_sL, ln_sR, ln_cp, gR_sI, gR_sL, gR_sR, gR_cp, gL_sI, gL_sR, gL_cp, gI_sL, gI_sR, iI_add, iI_sub, iI_mul, iI_neg, iI_in, iI_tn, iI_lt, iI_eq, Nat.reduceLeDiff, Nat.reduceEqDiff, Nat.reduceAdd, Int.reduceEq, Int.reduceLT, Int.reduceLE, Int.reduceNeg, Int.reduceAdd, Int.reduceSub, Int.reduceMul, bI_t, bI_f, decide_true, decide_false, Bool.and_true, Bool.and_false, Bool.true_and, Bool.false_and, Bool.false_eq_true, Bool.and_self, Bool.not_true, Bool.not_false, Bool.true_or, Bool.false_or, Bool.or_true, Bool.or_false, M188', z3, e3]
        rw [sg_244_55 (by omega)]
        simp (disch := omega) only [shM h3.1, ↓reduceIte, not_false_eq_true, not_true_eq_false, and_self, and_true, true_and, false_and, and_false, or_true, true_or, or_false, false_or, or_self, reduceCtorEq, mm_q, Option.getD_some, cI_some, cJ_some, cV_some, cS_some, kd_sI, kd_sL, kd_sR, kd_cp, ln_sI, ln_sL, ln_sR, ln_cp, gR_sI, gR_sL, gR_sR, gR_cp, gL_sI, gL_sR, gL_cp, gI_sL, gI_sR, iI_add, iI_sub, iI_mul, iI_neg, iI_in, iI_tn, iI_lt, iI_eq, Nat.reduceLeDiff, Nat.reduceEqDiff, Nat.reduceAdd, Int.reduceEq, Int.reduceLT, Int.reduceLE, Int.reduceNeg, Int.reduceAdd, Int.reduceSub, Int.reduceMul, Int.lt_irrefl, e4]
        rw [sg_244_117 (by omega)]
        simp (disch := omega) only [shM h4.1, shM h5.1, shM h6.1, ↓reduceIte, not_false_eq_true, not_true_eq_false, and_self, and_true, true_and, false_and, and_false, or_true, true_or, or_false, false_or, or_self, reduceCtorEq, mm_q, Option.getD_some, cI_some, cJ_some, cV_some, cS_some, kd_sI, kd_sL, kd_sR, kd_cp, ln_sI, ln_sL, ln_sR, ln_cp, gR_sI, gR_sL, gR_sR, gR_cp, gL_sI, gL_sR, gL_cp, gI_sL, gI_sR, iI_add, iI_sub, iI_mul, iI_neg, iI_in, iI_tn, iI_lt, iI_eq, Nat.reduceLeDiff, Nat.reduceEqDiff, Nat.reduceAdd, Int.reduceEq, Int.reduceLT, Int.reduceLE, Int.reduceNeg, Int.reduceAdd, Int.reduceSub, Int.reduceMul, e6, q1]
        by_cases y1 : (lagR D so).1 < 0
        · simp (disch := omega) only [↓reduceIte, not_false_eq_true, not_true_eq_false, and_self, and_true, true_and, false_and, and_false, or_true, true_or, or_false, false_or, or_self, reduceCtorEq, mm_q, Option.getD_some, cI_some, cJ_some, cV_some, cS_some, kd_sI, kd_sL, kd_sR, kd_cp, ln_sI, ln_sL, ln_sR, ln_cp, gR_sI, gR_sL, gR_sR, gR_cp, gL_sI, gL_sR, gL_cp, gI_sL, gI_sR, iI_add, iI_sub, iI_mul, iI_neg, iI_in, iI_tn, iI_lt, iI_eq, Nat.reduceLeDiff, Nat.reduceEqDiff, Nat.reduceAdd, Int.reduceEq, Int.reduceLT, Int.reduceLE, Int.reduceNeg, Int.reduceAdd, Int.reduceSub, Int.reduceMul, y1]
        · by_cases y2 : what = 0
          · simp (disch := omega) only [↓reduceIte, not_false_eq_true, not_true_eq_false, and_self, and_true, true_and, false_and, and_false, or_true, true_or, or_false, false_or, or_self, reduceCtorEq, mm_q, Option.getD_some, cI_some, cJ_some, cV_some, cS_some, kd_sI, kd_sL, kd_sR, kd_cp, ln_sI, ln_sL, ln_sR, ln_cp, gR_sI, gR_sL, gR_sR, gR_cp, gL_sI, gL_sR, gL_cp, gI_sL, gI_sR, iI_add, iI_sub, iI_mul, iI_neg, iI_in, iI_tn, iI_lt, iI_eq, Nat.reduceLeDiff, Nat.reduceEqDiff, Nat.reduceAdd, Int.reduceEq, Int.reduceLT, Int.reduceLE, Int.reduceNeg, Int.reduceAdd, Int.reduceSub, Int.reduceMul, y1, y2]
          · have q2 := (hg6.2 (what - 1) (by omega) (by omega)).2
            rw [ti.2.2 (by rw [ti.1]; omega) (what - 1) (by omega) (by omega)] at q2
            simp (disch := omega) only [↓reduceIte, not_false_eq_true, not_true_eq_false, and_self, and_true, true_and, false_and, and_false, or_true, true_or, or_false, false_or, or_self, reduceCtorEq, mm_q, Option.getD_some, cI_some, cJ_some, cV_some, cS_some, kd_sI, kd_sL, kd_sR, kd_cp, ln_sI, ln_sL, ln_sR, ln_cp, gR_sI, gR_sL, gR_sR, gR_cp, gL_sI, gL_sR, gL_cp, gI_sL, gI_sR, iI_add, iI_sub, iI_mul, iI_neg, iI_in, iI_tn, iI_lt, iI_eq, Nat.reduceLeDiff, Nat.reduceEqDiff, Nat.reduceAdd, Int.reduceEq, Int.reduceLT, Int.reduceLE, Int.reduceNeg, Int.reduceAdd, Int.reduceSub, Int.reduceMul, y1, y2, q2]
end
