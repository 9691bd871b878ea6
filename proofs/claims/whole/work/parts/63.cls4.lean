def UpdL (m m' : mm_M) (G : Nat → Nat → Int64) : Prop := m'.1 = m.1 ∧ m'.2.1 = m.2.1 ∧ (∀ a k, mm_gR m' a k = mm_gR m a k) ∧ (∀ a k, mm_gI m' a k = mm_gI m a k) ∧ (∀ a k, mm_gL m' a k = G a k)
def bt (x : Int64) (c : Int) : Bool := x.toBitVec.getLsbD c.toNat
def scT (W a _k : Nat) : Bool := Nat.beq a (W + 4)
section
variable {D : Nat → Nat → Int32} {m m' m'' : mm_M} {d s W L a n : Nat} {B : Int → Int} {take : Int} {late : Bool}
theorem ofN {n : Nat} (h : n < 2147483648) : Int32.ofNat n = iI (n : Int) := by
  apply Int32.toInt_inj.mp
  rw [iI_val (by omega) (by omega), Int32.toInt_ofNat_of_lt h]
/-- Arrays.fill, longs -/
theorem C281L {v : Int64} (hk : mm_kd m a = 21) (hn : mm_ln m a = n) (n1 : n ≤ 1000) : ∀ (k j : Nat) (m1 : mm_M), j + k = n → UpdL m m1 (fun x q => if x = a ∧ q < j then v else mm_gL m x q) → ∃ m', mm_ev d 281 6 [some (.ref a), some (.long v), none, some (.int (iI ((j : Int)))), some (.int (iI ((n : Int))))] [] m1 = some (some none, m') ∧ UpdL m m' (fun x q => if x = a ∧ q < n then v else mm_gL m x q)
  | 0, j, m1, hj, u => by
    refine ⟨m1, ?_, by rw [show n = j by omega]; exact u⟩
    rw [sg_281_6]
    simp (disch := omega) only [↓reduceIte, not_false_eq_true, not_true_eq_false, and_self, and_true, true_and, false_and, and_false, or_true, true_or, or_false, false_or, or_self, reduceCtorEq, mm_q, Option.getD_some, cI_some, cJ_some, cV_some, cS_some, kd_sI, kd_sL, kd_sR, kd_cp, ln_sI, ln_sL, ln_sR, ln_cp, gR_sI, gR_sL, gR_sR, gR_cp, gL_sI, gL_sR, gL_cp, gI_sL, gI_sR, iI_add, iI_sub, iI_mul, iI_neg, iI_in, iI_tn, iI_lt, iI_eq, Nat.reduceLeDiff, Nat.reduceEqDiff, Nat.reduceAdd, Int.reduceEq, Int.reduceLT, Int.reduceLE, Int.reduceNeg, Int.reduceAdd, Int.reduceSub, Int.reduceMul, show ¬ (j : Int) < (n : Int) by omega]
  | k + 1, j, m1, hj, u => by
    have k1 : mm_kd m1 a = 21 := by unfold mm_kd mm_sh at *; rw [u.1, u.2.1]; exact hk
    have l1 : mm_ln m1 a = n := by unfold mm_ln mm_sh at *; rw [u.1, u.2.1]; exact hn
    have u2 : UpdL m (mm_sL m1 a j v) (fun x q => if x = a ∧ q < j + 1 then v else mm_gL m x q) := ⟨u.1, u.2.1, u.2.2.1, u.2.2.2.1, fun x q => by
      rw [gL_sL, u.2.2.2.2]
      dsimp only
      by_cases z : x = a ∧ q = j
      · rw [if_pos z, if_pos (by omega)]
      · rw [if_neg z]
        by_cases z2 : x = a ∧ q < j
        · rw [if_pos z2, if_pos (by omega)]
        · rw [if_neg z2, if_neg (by omega)]⟩
    obtain ⟨m', e, r⟩ := C281L hk hn n1 k (j + 1) _ (by omega) u2
    refine ⟨m', ?_, r⟩
    rw [show ((j + 1 : Nat) : Int) = (j : Int) + 1 by omega] at e
    rw [sg_281_6]
    simp (disch := omega) only [↓reduceIte, not_false_eq_true, not_true_eq_false, and_self, and_true, true_and, false_and, and_false, or_true, true_or, or_false, false_or, or_self, reduceCtorEq, mm_q, Option.getD_some, cI_some, cJ_some, cV_some, cS_some, kd_sI, kd_sL, kd_sR, kd_cp, ln_sI, ln_sL, ln_sR, ln_cp, gR_sI, gR_sL, gR_sR, gR_cp, gL_sI, gL_sR, gL_cp, gI_sL, gI_sR, iI_add, iI_sub, iI_mul, iI_neg, iI_in, iI_tn, iI_lt, iI_eq, Nat.reduceLeDiff, Nat.reduceEqDiff, Nat.reduceAdd, Int.reduceEq, Int.reduceLT, Int.reduceLE, Int.reduceNeg, Int.reduceAdd, Int.reduceSub, Int.reduceMul, show (j : Int) < (n : Int) by omega, k1, l1, Int.toNat_natCast]
    exact e
theorem C281 {v : Int64} (hk : mm_kd m a = 21) (hn : mm_ln m a = n) (n1 : n ≤ 1000) : ∃ m', mm_ev d 281 0 [some (.ref a), some (.long v), none, none, none] [] m = some (some none, m') ∧ UpdL m m' (fun x q => if x = a ∧ q < n then v else mm_gL m x q) := by
  obtain ⟨m', e, r⟩ := C281L (d := d) (v := v) hk hn n1 n 0 m (by omega) ⟨rfl, rfl, fun _ _ => rfl, fun _ _ => rfl, fun x q => by dsimp only; rw [if_neg (by omega)]⟩
  refine ⟨m', ?_, r⟩
  rw [sg_281_0]
  rw [show ((0 : Nat) : Int) = 0 from rfl] at e
  simp (disch := omega) only [↓reduceIte, not_false_eq_true, not_true_eq_false, and_self, and_true, true_and, false_and, and_false, or_true, true_or, or_false, false_or, or_self, reduceCtorEq, mm_q, Option.getD_some, cI_some, cJ_some, cV_some, cS_some, kd_sI, kd_sL, kd_sR, kd_cp, ln_sI, ln_sL, ln_sR, ln_cp, gR_sI, gR_sL, gR_sR, gR_cp, gL_sI, gL_sR, gL_cp, gI_sL, gI_sR, iI_add, iI_sub, iI_mul, iI_neg, iI_in, iI_tn, iI_lt, iI_eq, Nat.reduceLeDiff, Nat.reduceEqDiff, Nat.reduceAdd, Int.reduceEq, Int.reduceLT, Int.reduceLE, Int.reduceNeg, Int.reduceAdd, Int.reduceSub, Int.reduceMul, hk, hn, ofN]
  exact e
/-- Arrays.fill, ints -/
theorem C280L {v : Int32} (ha : 100 ≤ a) (hk : mm_kd m a = 20) (hn : mm_ln m a = n) (n1 : n ≤ 1000) : ∀ (k j : Nat) (m1 : mm_M), j + k = n → Upd m m1 (fun x q => if x = a ∧ q < j then v else mm_gI m x q) → ∃ m', mm_ev d 280 5 [some (.ref a), some (.int v), some (.int (iI ((j : Int)))), some (.int (iI ((n : Int))))] [] m1 = some (some none, m') ∧ Upd m m' (fun x q => if x = a ∧ q < n then v else mm_gI m x q)
  | 0, j, m1, hj, u => by
    refine ⟨m1, ?_, by rw [show n = j by omega]; exact u⟩
    rw [sg_280_5]
    simp (disch := omega) only [↓reduceIte, not_false_eq_true, not_true_eq_false, and_self, and_true, true_and, false_and, and_false, or_true, true_or, or_false, false_or, or_self, reduceCtorEq, mm_q, Option.getD_some, cI_some, cJ_some, cV_some, cS_some, kd_sI, kd_sL, kd_sR, kd_cp, ln_sI, ln_sL, ln_sR, ln_cp, gR_sI, gR_sL, gR_sR, gR_cp, gL_sI, gL_sR, gL_cp, gI_sL, gI_sR, iI_add, iI_sub, iI_mul, iI_neg, iI_in, iI_tn, iI_lt, iI_eq, Nat.reduceLeDiff, Nat.reduceEqDiff, Nat.reduceAdd, Int.reduceEq, Int.reduceLT, Int.reduceLE, Int.reduceNeg, Int.reduceAdd, Int.reduceSub, Int.reduceMul, show ¬ (j : Int) < (n : Int) by omega]
  | k + 1, j, m1, hj, u => by
    have k1 : mm_kd m1 a = 20 := by unfold mm_kd mm_sh at *; rw [u.1, u.2.1]; exact hk
    have l1 : mm_ln m1 a = n := by unfold mm_ln mm_sh at *; rw [u.1, u.2.1]; exact hn
    have u2 : Upd m (mm_sI m1 a j v) (fun x q => if x = a ∧ q < j + 1 then v else mm_gI m x q) := ⟨u.1, u.2.1, u.2.2.1, u.2.2.2.1, fun x q => by
      rw [gI_sI, u.2.2.2.2]
      dsimp only
      by_cases z : x = a ∧ q = j
      · rw [if_pos z, if_pos (by omega)]
      · rw [if_neg z]
        by_cases z2 : x = a ∧ q < j
        · rw [if_pos z2, if_pos (by omega)]
        · rw [if_neg z2, if_neg (by omega)]⟩
    obtain ⟨m', e, r⟩ := C280L ha hk hn n1 k (j + 1) _ (by omega) u2
    refine ⟨m', ?_, r⟩
    rw [show ((j + 1 : Nat) : Int) = (j : Int) + 1 by omega] at e
    rw [sg_280_5]
    simp (disch := omega) only [↓reduceIte, not_false_eq_true, not_true_eq_false, and_self, and_true, true_and, false_and, and_false, or_true, true_or, or_false, false_or, or_self, reduceCtorEq, mm_q, Option.getD_some, cI_some, cJ_some, cV_some, cS_some, kd_sI, kd_sL, kd_sR, kd_cp, ln_sI, ln_sL, ln_sR, ln_cp, gR_sI, gR_sL, gR_sR, gR_cp, gL_sI, gL_sR, gL_cp, gI_sL, gI_sR, iI_add, iI_sub, iI_mul, iI_neg, iI_in, iI_tn, iI_lt, iI_eq, Nat.reduceLeDiff, Nat.reduceEqDiff, Nat.reduceAdd, Int.reduceEq, Int.reduceLT, Int.reduceLE, Int.reduceNeg, Int.reduceAdd, Int.reduceSub, Int.reduceMul, show (j : Int) < (n : Int) by omega, ha, k1, l1, Int.toNat_natCast]
    exact e
theorem C280 {v : Int32} (ha : 100 ≤ a) (hk : mm_kd m a = 20) (hn : mm_ln m a = n) (n1 : n ≤ 1000) : ∃ m', mm_ev d 280 0 [some (.ref a), some (.int v), none, none] [] m = some (some none, m') ∧ Upd m m' (fun x q => if x = a ∧ q < n then v else mm_gI m x q) := by
  obtain ⟨m', e, r⟩ := C280L (d := d) (v := v) ha hk hn n1 n 0 m (by omega) (Upd.rf.cg (fun x q => by rw [if_neg (by omega)]))
  refine ⟨m', ?_, r⟩
  rw [sg_280_0]
  rw [show ((0 : Nat) : Int) = 0 from rfl] at e
  simp (disch := omega) only [↓reduceIte, not_false_eq_true, not_true_eq_false, and_self, and_true, true_and, false_and, and_false, or_true, true_or, or_false, false_or, or_self, reduceCtorEq, mm_q, Option.getD_some, cI_some, cJ_some, cV_some, cS_some, kd_sI, kd_sL, kd_sR, kd_cp, ln_sI, ln_sL, ln_sR, ln_cp, gR_sI, gR_sL, gR_sR, gR_cp, gL_sI, gL_sR, gL_cp, gI_sL, gI_sR, iI_add, iI_sub, iI_mul, iI_neg, iI_in, iI_tn, iI_lt, iI_eq, Nat.reduceLeDiff, Nat.reduceEqDiff, Nat.reduceAdd, Int.reduceEq, Int.reduceLT, Int.reduceLE, Int.reduceNeg, Int.reduceAdd, Int.reduceSub, Int.reduceMul, hk, hn, ofN]
  exact e
theorem lsh_b : ∀ c : Fin 64, (lShl (lI 1) (iI (c.val : Int))).toBitVec = BitVec.twoPow 64 c.val := by decide +kernel
theorem lsh_t {c : Int} (c0 : 0 ≤ c) (c1 : c < 64) : (lShl (lI 1) (iI c)).toBitVec = BitVec.twoPow 64 c.toNat := by
  have := lsh_b ⟨c.toNat, by omega⟩
  simp only at this
  rw [show ((c.toNat : Nat) : Int) = c by omega] at this
  exact this
theorem lg_0 {x : Int64} : (lg_cmp x (lI 0) = iI 0) = (x = lI 0) := by
  unfold lg_cmp
  apply propext
  constructor
  · intro h
    split at h
    · exact absurd h (by decide)
    · split at h
      · assumption
      · exact absurd h (by decide)
  · intro h
    rw [h, if_neg (by decide), if_pos rfl]
    rfl
theorem and_b {x : Int64} {c : Int} (c0 : 0 ≤ c) (c1 : c < 64) : (x &&& lShl (lI 1) (iI c) = lI 0) = (bt x c = false) := by
  apply propext
  rw [← Int64.toBitVec_inj, Int64.toBitVec_and, lsh_t c0 c1, BitVec.and_twoPow]
  unfold bt
  cases z : x.toBitVec.getLsbD c.toNat
  · simp
    rfl
  · simp only [if_true, reduceCtorEq, iff_false]
    intro h
    have h9 := congrArg (fun b => b.getLsbD c.toNat) h
    simp only [BitVec.getLsbD_twoPow] at h9
    rw [show (lI 0).toBitVec = 0#64 from rfl] at h9
    simp at h9
    omega
theorem or_b {x : Int64} {c e : Int} (c0 : 0 ≤ c) (c1 : c < 64) (e0 : 0 ≤ e) (e1 : e < 64) : bt (x ||| lShl (lI 1) (iI c)) e = (bt x e || decide (e = c)) := by
  unfold bt
  rw [Int64.toBitVec_or, lsh_t c0 c1, BitVec.getLsbD_or, BitVec.getLsbD_twoPow]
  congr 1
  by_cases z : e = c
  · rw [z]
    simp
    omega
  · rw [decide_eq_false z]
    simp
    omega
theorem firstGo_n (f : Int → Bool) : ∀ (k : Nat) (t : Int), 0 ≤ t → (firstGo f k t < 0 ↔ ∀ i, t ≤ i → i < t + k → f i = false)
  | 0, t, h => by
    unfold firstGo
    constructor
    · intro _ i i0 i1; omega
    · intro _; omega
  | k + 1, t, h => by
    unfold firstGo
    have ih := firstGo_n f k (t + 1) (by omega)
    cases z : f t
    · rw [if_neg (by decide), ih]
      constructor
      · intro g i i0 i1
        by_cases y : i = t
        · rw [y]; exact z
        · exact g i (by omega) (by omega)
      · intro g i i0 i1
        exact g i (by omega) (by omega)
    · rw [if_pos rfl]
      constructor
      · intro g; omega
      · intro g
        have := g t (by omega) (by omega)
        rw [z] at this
        cases this
theorem scT_C {a k : Nat} (hW : isW W) (h : scC a k = false) : scT W a k = false := by
  unfold scT
  cases e : Nat.beq a (W + 4)
  · rfl
  · rw [Nat.eq_of_beq_eq_true e] at h
    rcases hW with rfl | rfl <;> exact absurd h (by simp [scC])
theorem Fr.TC (hW : isW W) (h : Fr (scT W) m m') : FC m m' := (h.mono (fun _ _ => scT_C hW)).C
theorem scT_n {a k : Nat} (h : ¬ a = W + 4) : scT W a k = false := by
  unfold scT
  cases e : Nat.beq a (W + 4)
  · rfl
  · exact absurd (Nat.eq_of_beq_eq_true e) h
theorem RSt.fT (h : RSt D m s) (hs : isSt s) (hW : isW W) (f : Fr (scT W) m m') (k8 : st D 6 ≤ 8) : RSt D m' s := h.fc hs (f.TC hW) k8
theorem RW.fT (h : RW D m s W B take late) (hW : isW W) (f : Fr (scT W) m m') : RW D m' s W B take late := h.fr hW f (fun _ _ _ _ z => scT_n z)
/-- two of them bump at a tenth -/
def BumpT (D : Nat → Nat → Int32) (B : Int → Int) (w t : Int) : Prop := ∃ x e, w ≤ x ∧ x < st D 6 ∧ 0 ≤ e ∧ e < x ∧ wk D e 1 = wk D x 1 ∧ bumpsB D B e x t = true
/-- Walks.bumpsAt -/
theorem C95L (hst : isSt s) (hW : isW W) (hI : InvS D) (hB : InvB D B) (hd : 3 ≤ d) {t : Int} (t0 : 0 ≤ t) (t1 : t ≤ 600) : ∀ (k : Nat) (w : Int) (T : Int → Int64) (z3 z4 z5 : Option Value) (m : mm_M), w = st D 6 - k → 0 ≤ w → Sh m → RSt D m s → RW D m s W B (B 0) true → (∀ l, 0 ≤ l → l < 4 → mm_gL m (W + 4) l.toNat = T l) → (∀ l c, 0 ≤ l → l < 4 → 0 ≤ c → c < 64 → (bt (T l) c = true ↔ ∃ e, 0 ≤ e ∧ e < w ∧ wk D e 1 = l ∧ placeB D B (B 0) true e t = c)) → ∃ m' r, mm_ev d 95 10 [some (.ref W), some (.int (iI (t))), some (.int (iI (w))), z3, z4, z5, none] [] m = some (some (some (.int (iI (bI r)))), m') ∧ Fr (scT W) m m' ∧ (r = true ↔ BumpT D B w t)
  | 0, w, T, z3, z4, z5, m, hw0, w0, hs, hR, hw, hT, hb => by
    have wf := wF hs hW
    have sf := stF hs hst
    obtain ⟨k0, k1⟩ := hI.2.2.2.2.2.1
    have h10 := hR.1.2.2.2.2.2.2.2.1
    refine ⟨m, false, ?_, Fr.rf, ?_⟩
    · rw [sg_95_10 (by omega)]
      simp (disch := omega) only [wf, hw.1, sf, ↓reduceIte, not_false_eq_true, not_true_eq_false, and_self, and_true, true_and, false_and, and_false, or_true, true_or, or_false, false_or, or_self, reduceCtorEq, mm_q, Option.getD_some, cI_some, cJ_some, cV_some, cS_some, kd_sI, kd_sL, kd_sR, kd_cp, ln_sI, ln_sL, ln_sR, ln_cp, gR_sI, gR_sL, gR_sR, gR_cp, gL_sI, gL_sR, gL_cp, gI_sL, gI_sR, iI_add, iI_sub, iI_mul, iI_neg, iI_in, iI_tn, iI_lt, iI_eq, Nat.reduceLeDiff, Nat.reduceEqDiff, Nat.reduceAdd, Int.reduceEq, Int.reduceLT, Int.reduceLE, Int.reduceNeg, Int.reduceAdd, Int.reduceSub, Int.reduceMul, bI_t, bI_f, decide_true, decide_false, Bool.and_true, Bool.and_false, Bool.true_and, Bool.false_and, Bool.false_eq_true, Bool.and_self, Bool.not_true, Bool.not_false, Bool.true_or, Bool.false_or, Bool.or_true, Bool.or_false, h10, show ¬ w < st D 6 by omega]
    · constructor
      · intro h; cases h
      · rintro ⟨x, e, a, b, -⟩; omega
  | k + 1, w, T, z3, z4, z5, m, hw0, w0, hs, hR, hw, hT, hb => by
    have wf := wF hs hW
    have sf := stF hs hst
    obtain ⟨k0, k1⟩ := hI.2.2.2.2.2.1
    obtain ⟨c0, c1⟩ := hI.1
    obtain ⟨l0, l1⟩ := hI.2.1
    have h10 := hR.1.2.2.2.2.2.2.2.1
    have w1 : w < st D 6 := by omega
    have wkf := wkF hs hst w0 (show w < 8 by omega)
    have a2 := (hR.2.2.1 w w0 w1).2.1
    have g1 := (hI.2.2.2.2.2.2.2.2.2.1 w w0 w1).2.1
    have pr := placeB_r hI hB (take := B 0) (tenth := t) (late := true) w0 w1
    have hTl := hT (wk D w 1) (by omega) (by omega)
    rw [sg_95_10 (by omega)]
    simp (disch := omega) only [wf, hw.1, sf, wkf, ↓reduceIte, not_false_eq_true, not_true_eq_false, and_self, and_true, true_and, false_and, and_false, or_true, true_or, or_false, false_or, or_self, reduceCtorEq, mm_q, Option.getD_some, cI_some, cJ_some, cV_some, cS_some, kd_sI, kd_sL, kd_sR, kd_cp, ln_sI, ln_sL, ln_sR, ln_cp, gR_sI, gR_sL, gR_sR, gR_cp, gL_sI, gL_sR, gL_cp, gI_sL, gI_sR, iI_add, iI_sub, iI_mul, iI_neg, iI_in, iI_tn, iI_lt, iI_eq, Nat.reduceLeDiff, Nat.reduceEqDiff, Nat.reduceAdd, Int.reduceEq, Int.reduceLT, Int.reduceLE, Int.reduceNeg, Int.reduceAdd, Int.reduceSub, Int.reduceMul, h10, w1, a2, C87 hs hst hW hR hw hI hB (d := d - 1) (by omega) w0 w1 t0 t1]
    by_cases z1 : placeB D B (B 0) true w t = -1
    · have f1 : Fr (scT W) m (mm_sL m (W + 4) (wk D w 1).toNat (T (wk D w 1) ||| lI 0)) := Fr.sL (by unfold scT; exact Nat.beq_refl _)
      obtain ⟨m', r, e2, f2, c2⟩ := C95L hst hW hI hB hd t0 t1 k (w + 1) T (some (.int (iI (wk D w 1)))) (some (.int (iI (-1)))) (some (.long (lI 0))) _ (by omega) (by omega) (f1.sh hs) (hR.fT hst hW f1 k1) (hw.fT hW f1) (fun l y0 y1 => by
        rw [gL_sL, lor0]
        split
        · next h => rw [show l = wk D w 1 by omega]
        · exact hT l y0 y1) (fun l c y0 y1 y2 y3 => by
        rw [hb l c y0 y1 y2 y3]
        constructor
        · rintro ⟨e, p1, p2, p3, p4⟩; exact ⟨e, p1, by omega, p3, p4⟩
        · rintro ⟨e, p1, p2, p3, p4⟩
          by_cases y : e = w
          · rw [y, z1] at p4; omega
          · exact ⟨e, p1, by omega, p3, p4⟩)
      refine ⟨m', r, ?_, f1.tr f2, ?_⟩
      · rw [if_pos z1, sg_95_56, z1]
        have e0 : (T (wk D w 1) &&& lI 0) = lI 0 := by
          show T (wk D w 1) &&& 0 = 0
          simp
        simp (disch := omega) only [wf, ↓reduceIte, not_false_eq_true, not_true_eq_false, and_self, and_true, true_and, false_and, and_false, or_true, true_or, or_false, false_or, or_self, reduceCtorEq, mm_q, Option.getD_some, cI_some, cJ_some, cV_some, cS_some, kd_sI, kd_sL, kd_sR, kd_cp, ln_sI, ln_sL, ln_sR, ln_cp, gR_sI, gR_sL, gR_sR, gR_cp, gL_sI, gL_sR, gL_cp, gI_sL, gI_sR, iI_add, iI_sub, iI_mul, iI_neg, iI_in, iI_tn, iI_lt, iI_eq, Nat.reduceLeDiff, Nat.reduceEqDiff, Nat.reduceAdd, Int.reduceEq, Int.reduceLT, Int.reduceLE, Int.reduceNeg, Int.reduceAdd, Int.reduceSub, Int.reduceMul, hTl, e0, lg_0]
        exact e2
      · rw [c2]
        constructor
        · rintro ⟨x, e, p1, p2⟩; exact ⟨x, e, by omega, p2⟩
        · rintro ⟨x, e, p1, p2, p3, p4, p5, p6⟩
          by_cases y : x = w
          · exfalso
            rw [y] at p6
            unfold bumpsB at p6
            simp only [Bool.and_eq_true, decide_eq_true_eq] at p6
            omega
          · exact ⟨x, e, by omega, p2, p3, p4, p5, p6⟩
    · rw [if_neg z1, sg_95_56]
      have cb := and_b (x := T (wk D w 1)) (c := placeB D B (B 0) true w t) (by omega) (by omega)
      have hbw := hb (wk D w 1) (placeB D B (B 0) true w t) (by omega) (by omega) (by omega) (by omega)
      cases z2 : bt (T (wk D w 1)) (placeB D B (B 0) true w t)
      · have f1 : Fr (scT W) m (mm_sL m (W + 4) (wk D w 1).toNat (T (wk D w 1) ||| lShl (lI 1) (iI (placeB D B (B 0) true w t)))) := Fr.sL (by unfold scT; exact Nat.beq_refl _)
        obtain ⟨m', r, e2, f2, c2⟩ := C95L hst hW hI hB hd t0 t1 k (w + 1) (fun l => if l = wk D w 1 then T (wk D w 1) ||| lShl (lI 1) (iI (placeB D B (B 0) true w t)) else T l) (some (.int (iI (wk D w 1)))) (some (.int (iI (placeB D B (B 0) true w t)))) (some (.long (lShl (lI 1) (iI (placeB D B (B 0) true w t))))) _ (by omega) (by omega) (f1.sh hs) (hR.fT hst hW f1 k1) (hw.fT hW f1) (fun l y0 y1 => by
          rw [gL_sL]
          by_cases h : l = wk D w 1
          · rw [if_pos ⟨rfl, by omega⟩, if_pos h]
          · rw [if_neg (by omega), if_neg h]; exact hT l y0 y1) (fun l c y0 y1 y2 y3 => by
          by_cases h : l = wk D w 1
          · rw [if_pos h, or_b (by omega) (by omega) y2 y3, Bool.or_eq_true, hb (wk D w 1) c (by omega) (by omega) y2 y3, decide_eq_true_eq]
            constructor
            · rintro (⟨e, p1, p2, p3, p4⟩ | p)
              · exact ⟨e, p1, by omega, by omega, p4⟩
              · exact ⟨w, w0, by omega, h.symm, p.symm⟩
            · rintro ⟨e, p1, p2, p3, p4⟩
              by_cases y : e = w
              · right; rw [← p4, y]
              · left; exact ⟨e, p1, by omega, by omega, p4⟩
          · rw [if_neg h, hb l c y0 y1 y2 y3]
            constructor
            · rintro ⟨e, p1, p2, p3, p4⟩; exact ⟨e, p1, by omega, p3, p4⟩
            · rintro ⟨e, p1, p2, p3, p4⟩
              by_cases y : e = w
              · rw [y] at p3; omega
              · exact ⟨e, p1, by omega, p3, p4⟩)
        refine ⟨m', r, ?_, f1.tr f2, ?_⟩
        · rw [z2] at cb
          simp (disch := omega) only [wf, ↓reduceIte, not_false_eq_true, not_true_eq_false, and_self, and_true, true_and, false_and, and_false, or_true, true_or, or_false, false_or, or_self, reduceCtorEq, mm_q, Option.getD_some, cI_some, cJ_some, cV_some, cS_some, kd_sI, kd_sL, kd_sR, kd_cp, ln_sI, ln_sL, ln_sR, ln_cp, gR_sI, gR_sL, gR_sR, gR_cp, gL_sI, gL_sR, gL_cp, gI_sL, gI_sR, iI_add, iI_sub, iI_mul, iI_neg, iI_in, iI_tn, iI_lt, iI_eq, Nat.reduceLeDiff, Nat.reduceEqDiff, Nat.reduceAdd, Int.reduceEq, Int.reduceLT, Int.reduceLE, Int.reduceNeg, Int.reduceAdd, Int.reduceSub, Int.reduceMul, hTl, lg_0, cb]
          exact e2
        · rw [c2]
          constructor
          · rintro ⟨x, e, p1, p2⟩; exact ⟨x, e, by omega, p2⟩
          · rintro ⟨x, e, p1, p2, p3, p4, p5, p6⟩
            by_cases y : x = w
            · exfalso
              rw [y] at p5 p6
              unfold bumpsB at p6
              simp only [Bool.and_eq_true, decide_eq_true_eq] at p6
              rw [z2] at hbw
              exact absurd (hbw.mpr ⟨e, p3, by omega, p5, p6.2⟩) (by decide)
            · exact ⟨x, e, by omega, p2, p3, p4, p5, p6⟩
      · refine ⟨m, true, ?_, Fr.rf, ?_⟩
        · rw [z2] at cb
          simp (disch := omega) only [wf, ↓reduceIte, not_false_eq_true, not_true_eq_false, and_self, and_true, true_and, false_and, and_false, or_true, true_or, or_false, false_or, or_self, reduceCtorEq, mm_q, Option.getD_some, cI_some, cJ_some, cV_some, cS_some, kd_sI, kd_sL, kd_sR, kd_cp, ln_sI, ln_sL, ln_sR, ln_cp, gR_sI, gR_sL, gR_sR, gR_cp, gL_sI, gL_sR, gL_cp, gI_sL, gI_sR, iI_add, iI_sub, iI_mul, iI_neg, iI_in, iI_tn, iI_lt, iI_eq, Nat.reduceLeDiff, Nat.reduceEqDiff, Nat.reduceAdd, Int.reduceEq, Int.reduceLT, Int.reduceLE, Int.reduceNeg, Int.reduceAdd, Int.reduceSub, Int.reduceMul, bI_t, bI_f, decide_true, decide_false, Bool.and_true, Bool.and_false, Bool.true_and, Bool.false_and, Bool.false_eq_true, Bool.and_self, Bool.not_true, Bool.not_false, Bool.true_or, Bool.false_or, Bool.or_true, Bool.or_false, hTl, lg_0, cb, Bool.true_eq_false]
        · obtain ⟨e, p1, p2, p3, p4⟩ := hbw.mp z2
          refine ⟨fun _ => ⟨w, e, by omega, w1, p1, p2, p3, ?_⟩, fun _ => rfl⟩
          unfold bumpsB
          rw [decide_eq_true (show 0 ≤ placeB D B (B 0) true e t by omega), decide_eq_true p4]
          rfl
end
