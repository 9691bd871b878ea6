/-- a shot -/
def SHo (D : Nat → Nat → Int32) (m : mm_M) (k ta x : Int) : Prop := ∀ w, 0 ≤ w → w < st D 6 → mm_gI m (197 + k.toNat) w.toNat = iI (scS2 D (placeB D (sa D) ta false w (te D x)))
section
variable {D : Nat → Nat → Int32} {m m' m'' : mm_M} {d s W L H n : Nat} {B : Int → Int} {take : Int} {late : Bool}
theorem and1 (y : Int32) : (y &&& iI 1) = iI 0 ∨ (y &&& iI 1) = iI 1 := by
  have e : (y &&& iI 1).toBitVec = if y.toBitVec.getLsbD 0 then 1#32 else 0#32 := by
    rw [Int32.toBitVec_and]
    have := BitVec.and_twoPow y.toBitVec 0
    exact this
  cases z : y.toBitVec.getLsbD 0
  · left
    rw [z] at e
    exact Int32.toBitVec_inj.mp e
  · right
    rw [z] at e
    exact Int32.toBitVec_inj.mp e
theorem hasW_0 {x w : Int} : hasW x w = !decide ((iShr (iI x) (iI w) &&& iI 1) = iI 0) := by
  unfold hasW
  rcases and1 (iShr (iI x) (iI w)) with z | z
  · rw [z]; decide
  · rw [z]; decide
theorem fmF (h : Sh m) {k : Int} (k0 : 0 ≤ k) (k1 : k < 12) : mm_gR m 196 k.toNat = some (197 + k.toNat) ∧ mm_kd m (197 + k.toNat) = 20 ∧ mm_ln m (197 + k.toNat) = 8 ∧ 100 ≤ 197 + k.toNat := by
  have hw : k = 0 ∨ k = 1 ∨ k = 2 ∨ k = 3 ∨ k = 4 ∨ k = 5 ∨ k = 6 ∨ k = 7 ∨ k = 8 ∨ k = 9 ∨ k = 10 ∨ k = 11 := by omega
  rcases hw with rfl | rfl | rfl | rfl | rfl | rfl | rfl | rfl | rfl | rfl | rfl | rfl <;> exact ⟨h.gR (by decide) rfl rfl, h.kd (by decide), h.ln (by decide), by decide⟩
def scB (k a _j : Nat) : Bool := Nat.beq a (197 + k)
theorem scB_C {a j : Nat} {k : Nat} (hk : k < 12) (h : scC a j = false) : scB k a j = false := by
  unfold scB
  cases e : Nat.beq a (197 + k)
  · rfl
  · rw [Nat.eq_of_beq_eq_true e] at h
    unfold scC at h
    simp only [Bool.or_eq_false_iff] at h
    have := h.1.1.2
    rw [Nat.ble_eq.mpr (show 178 ≤ 197 + k by omega), Nat.ble_eq.mpr (show 197 + k ≤ 211 by omega)] at this
    cases this
theorem scB_n {a j k : Nat} (h : ¬ a = 197 + k) : scB k a j = false := by
  unfold scB
  cases e : Nat.beq a (197 + k)
  · rfl
  · exact absurd (Nat.eq_of_beq_eq_true e) h
/-- Film.shoot -/
theorem C1L (hst : isSt s) (hI : InvS D) (hIB : InvB D B) (hd : 5 ≤ d) {k t : Int} (k0 : 0 ≤ k) (k1 : k < 12) (t0 : 0 ≤ t) (t1 : t ≤ 600) : ∀ (r : Nat) (w : Int) (m : mm_M), w = st D 6 - r → 0 ≤ w → Sh m → RSt D m s → RW D m s 178 B take late → (∀ j, 0 ≤ j → j < w → mm_gI m (197 + k.toNat) j.toNat = iI (scS2 D (placeB D B take late j t))) → ∃ m', mm_ev d 1 3 [some (.ref 195), some (.int (iI (k))), some (.ref 178), some (.ref s), some (.int (iI (t))), some (.int (iI (w)))] [] m = some (some none, m') ∧ Fr (scB k.toNat) m m' ∧ (∀ j, 0 ≤ j → j < st D 6 → mm_gI m' (197 + k.toNat) j.toNat = iI (scS2 D (placeB D B take late j t)))
  | 0, w, m, hr, w0, hs, hR, hw, hj => by
    have sf := stF hs hst
    obtain ⟨q0, q1⟩ := hI.2.2.2.2.2.1
    refine ⟨m, ?_, Fr.rf, fun j j0 j1 => hj j j0 (by omega)⟩
    rw [sg_1_3 (by omega)]
    simp (disch := omega) only [sf, hR.1.2.2.2.2.2.2.2.1, ↓reduceIte, not_false_eq_true, not_true_eq_false, and_self, and_true, true_and, false_and, and_false, or_true, true_or, or_false, false_or, or_self, reduceCtorEq, mm_q, Option.getD_some, cI_some, cJ_some, cV_some, cS_some, kd_sI, kd_sL, kd_sR, kd_cp, ln_sI, ln_sL, ln_sR, ln_cp, gR_sI, gR_sL, gR_sR, gR_cp, gL_sI, gL_sR, gL_cp, gI_sL, gI_sR, iI_add, iI_sub, iI_mul, iI_neg, iI_in, iI_tn, iI_lt, iI_eq, Nat.reduceLeDiff, Nat.reduceEqDiff, Nat.reduceAdd, Int.reduceEq, Int.reduceLT, Int.reduceLE, Int.reduceNeg, Int.reduceAdd, Int.reduceSub, Int.reduceMul, show ¬ w < st D 6 by omega]
  | r + 1, w, m, hr, w0, hs, hR, hw, hj => by
    have sf := stF hs hst
    have ff := shF hs
    have fm := fmF hs k0 k1
    have wf := wF hs here2
    obtain ⟨q0, q1⟩ := hI.2.2.2.2.2.1
    have w1 : w < st D 6 := by omega
    have g1 : Fr (scB k.toNat) m (mm_sI m (197 + k.toNat) w.toNat (iI (scS2 D (placeB D B take late w t)))) := Fr.sI (by unfold scB; exact Nat.beq_refl _)
    have gc : FC m (mm_sI m (197 + k.toNat) w.toNat (iI (scS2 D (placeB D B take late w t)))) := (g1.mono (fun _ _ => scB_C (by omega))).C
    obtain ⟨m', e2, f2, r2⟩ := C1L hst hI hIB hd k0 k1 t0 t1 r (w + 1) _ (by omega) (by omega) (g1.sh hs) (hR.fc hst gc q1) (hw.fr here2 g1 (fun a j h0 h1 h2 => scB_n (by omega))) (fun j j0 j1 => by
      rw [gI_sI]
      by_cases y : j = w
      · rw [if_pos ⟨rfl, by omega⟩, y]
      · rw [if_neg (by omega)]; exact hj j j0 (by omega))
    refine ⟨m', ?_, g1.tr f2, r2⟩
    rw [sg_1_3 (by omega)]
    simp (disch := omega) only [sf, ff, fm, wf, hR.1.2.2.2.2.2.2.2.1, ↓reduceIte, not_false_eq_true, not_true_eq_false, and_self, and_true, true_and, false_and, and_false, or_true, true_or, or_false, false_or, or_self, reduceCtorEq, mm_q, Option.getD_some, cI_some, cJ_some, cV_some, cS_some, kd_sI, kd_sL, kd_sR, kd_cp, ln_sI, ln_sL, ln_sR, ln_cp, gR_sI, gR_sL, gR_sR, gR_cp, gL_sI, gL_sR, gL_cp, gI_sL, gI_sR, iI_add, iI_sub, iI_mul, iI_neg, iI_in, iI_tn, iI_lt, iI_eq, Nat.reduceLeDiff, Nat.reduceEqDiff, Nat.reduceAdd, Int.reduceEq, Int.reduceLT, Int.reduceLE, Int.reduceNeg, Int.reduceAdd, Int.reduceSub, Int.reduceMul, w1, C98 hs hst here2 hR hw hI hIB (d := d - 1) (by omega) w0 w1 t0 t1]
    rw [sg_1_28]
    simp (disch := omega) only [fm, ↓reduceIte, not_false_eq_true, not_true_eq_false, and_self, and_true, true_and, false_and, and_false, or_true, true_or, or_false, false_or, or_self, reduceCtorEq, mm_q, Option.getD_some, cI_some, cJ_some, cV_some, cS_some, kd_sI, kd_sL, kd_sR, kd_cp, ln_sI, ln_sL, ln_sR, ln_cp, gR_sI, gR_sL, gR_sR, gR_cp, gL_sI, gL_sR, gL_cp, gI_sL, gI_sR, iI_add, iI_sub, iI_mul, iI_neg, iI_in, iI_tn, iI_lt, iI_eq, Nat.reduceLeDiff, Nat.reduceEqDiff, Nat.reduceAdd, Int.reduceEq, Int.reduceLT, Int.reduceLE, Int.reduceNeg, Int.reduceAdd, Int.reduceSub, Int.reduceMul]
    exact e2
theorem sa9 (hI : InvS D) (hIB : InvB D (sa D)) : True := trivial
/-- shoot -/
theorem C134 (h : RQ D m s) (hI : InvS D) (hL : InvL D) (hIB : InvB D (sa D)) (hd : 7 ≤ d) {k ta x : Int} (k0 : 0 ≤ k) (k1 : k < 12) (x0 : 0 ≤ x) (x1 : x < st D 5) : ∃ m', mm_ev d 134 0 [some (.ref 100), some (.int (iI (k))), some (.int (iI (ta))), some (.int (iI (x)))] [] m = some (some none, m') ∧ FC m m' ∧ SHo D m' k ta x ∧ (∀ j y z, 0 ≤ j → j < 12 → ¬ j = k → SHo D m j y z → SHo D m' j y z) := by
  obtain ⟨q0, q1⟩ := hI.2.2.2.2.2.1
  obtain ⟨v0, v1⟩ := hI.2.2.2.2.1
  have xf := shX h.1
  have sf := stF h.1 h.2.1
  have wf := wF h.1 here2
  obtain ⟨t0, t1⟩ := hI.2.2.2.2.2.2.2.2.1 x x0 x1
  obtain ⟨m1, e1, f1, r1⟩ := C85 (d := d - 1) (take := ta) (late := false) h.1 h.2.1 here2 h155 h.2.2.2.1 h.2.2.2.2.2.1 hI hL (by omega)
  have h1 := h.fc f1.C q1
  have xf1 := shX h1.1
  have sf1 := stF h1.1 h1.2.1
  have ff1 := shF h1.1
  obtain ⟨m2, e2, f2, r2⟩ := C1L (d := d - 1) h1.2.1 hI hIB (by omega) k0 k1 t0 t1 (st D 6).toNat 0 m1 (by omega) (by omega) h1.1 h1.2.2.2.1 r1 (fun j j0 j1 => by omega)
  have c2 : FC m1 m2 := (f2.mono (fun _ _ => scB_C (by omega))).C
  refine ⟨m2, ?_, f1.C.tr c2, r2, fun j y z j0 j1 jk hj w w0 w1 => ?_⟩
  · rw [sg_134_0 (by omega)]
    rw [bI_f] at e1
    simp (disch := omega) only [xf, sf, wf, h.2.2.1, ↓reduceIte, not_false_eq_true, not_true_eq_false, and_self, and_true, true_and, false_and, and_false, or_true, true_or, or_false, false_or, or_self, reduceCtorEq, mm_q, Option.getD_some, cI_some, cJ_some, cV_some, cS_some, kd_sI, kd_sL, kd_sR, kd_cp, ln_sI, ln_sL, ln_sR, ln_cp, gR_sI, gR_sL, gR_sR, gR_cp, gL_sI, gL_sR, gL_cp, gI_sL, gI_sR, iI_add, iI_sub, iI_mul, iI_neg, iI_in, iI_tn, iI_lt, iI_eq, Nat.reduceLeDiff, Nat.reduceEqDiff, Nat.reduceAdd, Int.reduceEq, Int.reduceLT, Int.reduceLE, Int.reduceNeg, Int.reduceAdd, Int.reduceSub, Int.reduceMul, e1]
    rw [sg_134_17 (by omega)]
    have e3 : mm_ev (d - 1) 1 0 [some (.ref 195), some (.int (iI (k))), some (.ref 178), some (.ref s), some (.int (iI (te D x))), none] [] m1 = some (some none, m2) := by rw [sg_1_0]; exact e2
    simp (disch := omega) only [xf1, sf1, ff1, h1.2.2.1, h1.2.2.2.1.2.1 x x0 x1, ↓reduceIte, not_false_eq_true, not_true_eq_false, and_self, and_true, true_and, false_and, and_false, or_true, true_or, or_false, false_or, or_self, reduceCtorEq, mm_q, Option.getD_some, cI_some, cJ_some, cV_some, cS_some, kd_sI, kd_sL, kd_sR, kd_cp, ln_sI, ln_sL, ln_sR, ln_cp, gR_sI, gR_sL, gR_sR, gR_cp, gL_sI, gL_sR, gL_cp, gI_sL, gI_sR, iI_add, iI_sub, iI_mul, iI_neg, iI_in, iI_tn, iI_lt, iI_eq, Nat.reduceLeDiff, Nat.reduceEqDiff, Nat.reduceAdd, Int.reduceEq, Int.reduceLT, Int.reduceLE, Int.reduceNeg, Int.reduceAdd, Int.reduceSub, Int.reduceMul, e3]
  · rw [f2.gI (scB_n (by omega)), f1.2.2.2.1 _ _ (scW_e (by omega) (by omega) (by omega) (by omega) (scK_n (by omega) (by omega) (by omega) (by omega)))]
    exact hj w w0 w1
theorem jb_j (hI : InvS D) {p q : Int} : jbS D (scS2 D p) (scS2 D q) = jumpP D p q := by
  have a0 := fr_0 hI (c := p)
  have b0 := fr_0 hI (c := q)
  unfold jbS jumpP scS2
  cases y1 : framedS D p
  · cases y2 : framedS D q
    · simp
    · have := b0 y2
      simp
      omega
  · have := a0 y1
    cases y2 : framedS D q
    · simp
      intro h9
      omega
    · have := b0 y2
      simp
      rw [if_neg (by omega), if_neg (by omega)]
      by_cases z : 0 ≤ p - q
      · rw [if_pos (by omega), if_neg (by omega)]
      · rw [if_neg (by omega), if_pos (by omega)]
/-- Film.jumpOf -/
theorem C3 (h : RQ D m s) (hI : InvS D) (hIB : InvB D (sa D)) (hd : 1 ≤ d) {w a b ta x tb y : Int} (w0 : 0 ≤ w) (w1 : w < st D 6) (a0 : 0 ≤ a) (a1 : a < 12) (b0 : 0 ≤ b) (b1 : b < 12) (ha : SHo D m a ta x) (hb : SHo D m b tb y) : mm_ev d 3 0 [some (.ref 195), some (.ref s), some (.int (iI (w))), some (.int (iI (a))), some (.int (iI (b)))] [] m = some (some (some (.int (iI (jumpS D w ta x tb y)))), m) := by
  obtain ⟨q0, q1⟩ := hI.2.2.2.2.2.1
  obtain ⟨c0, c1⟩ := hI.1
  have sf := stF h.1 h.2.1
  have ff := shF h.1
  have f1 := fmF h.1 a0 a1
  have f2 := fmF h.1 b0 b1
  have p1 := placeB_r hI hIB (take := ta) (tenth := te D x) (late := false) w0 w1
  have p2 := placeB_r hI hIB (take := tb) (tenth := te D y) (late := false) w0 w1
  have sr : ∀ c, -1 ≤ c → c < st D 0 → -1 ≤ scS2 D c ∧ scS2 D c < 100 := fun c u0 u1 => by unfold scS2; split <;> omega
  have r1 := sr _ p1.1 p1.2
  have r2 := sr _ p2.1 p2.2
  rw [sg_3_0 (by omega)]
  simp (disch := omega) only [sf, ff, f1, f2, ↓reduceIte, not_false_eq_true, not_true_eq_false, and_self, and_true, true_and, false_and, and_false, or_true, true_or, or_false, false_or, or_self, reduceCtorEq, mm_q, Option.getD_some, cI_some, cJ_some, cV_some, cS_some, kd_sI, kd_sL, kd_sR, kd_cp, ln_sI, ln_sL, ln_sR, ln_cp, gR_sI, gR_sL, gR_sR, gR_cp, gL_sI, gL_sR, gL_cp, gI_sL, gI_sR, iI_add, iI_sub, iI_mul, iI_neg, iI_in, iI_tn, iI_lt, iI_eq, Nat.reduceLeDiff, Nat.reduceEqDiff, Nat.reduceAdd, Int.reduceEq, Int.reduceLT, Int.reduceLE, Int.reduceNeg, Int.reduceAdd, Int.reduceSub, Int.reduceMul, ha w w0 w1, hb w w0 w1, C74 h.1 h.2.1 h.2.2.2.1 hI]
  rw [jb_j hI]
  rfl
/-- Film.allJumps -/
theorem C2L (h : RQ D m s) (hI : InvS D) (hIB : InvB D (sa D)) (hd : 2 ≤ d) {a b ta x tb y : Int} (a0 : 0 ≤ a) (a1 : a < 12) (b0 : 0 ≤ b) (b1 : b < 12) (ha : SHo D m a ta x) (hb : SHo D m b tb y) : ∀ (r : Nat) (w n : Int), w = st D 6 - r → 0 ≤ w → mm_ev d 2 6 [some (.ref 195), some (.ref s), some (.int (iI (a))), some (.int (iI (b))), some (.int (iI (n))), some (.int (iI (w)))] [] m = some (some (some (.int (iI (sumGo (fun w => jumpS D w ta x tb y) r w n)))), m)
  | 0, w, n, hr, w0 => by
    have sf := stF h.1 h.2.1
    obtain ⟨q0, q1⟩ := hI.2.2.2.2.2.1
    rw [sg_2_6 (by omega)]
    unfold sumGo
    simp (disch := omega) only [sf, h.2.2.2.1.1.2.2.2.2.2.2.2.1, ↓reduceIte, not_false_eq_true, not_true_eq_false, and_self, and_true, true_and, false_and, and_false, or_true, true_or, or_false, false_or, or_self, reduceCtorEq, mm_q, Option.getD_some, cI_some, cJ_some, cV_some, cS_some, kd_sI, kd_sL, kd_sR, kd_cp, ln_sI, ln_sL, ln_sR, ln_cp, gR_sI, gR_sL, gR_sR, gR_cp, gL_sI, gL_sR, gL_cp, gI_sL, gI_sR, iI_add, iI_sub, iI_mul, iI_neg, iI_in, iI_tn, iI_lt, iI_eq, Nat.reduceLeDiff, Nat.reduceEqDiff, Nat.reduceAdd, Int.reduceEq, Int.reduceLT, Int.reduceLE, Int.reduceNeg, Int.reduceAdd, Int.reduceSub, Int.reduceMul, show ¬ w < st D 6 by omega]
  | r + 1, w, n, hr, w0 => by
    have sf := stF h.1 h.2.1
    have ff := shF h.1
    obtain ⟨q0, q1⟩ := hI.2.2.2.2.2.1
    have w1 : w < st D 6 := by omega
    rw [sg_2_6 (by omega)]
    unfold sumGo
    simp (disch := omega) only [sf, ff, h.2.2.2.1.1.2.2.2.2.2.2.2.1, ↓reduceIte, not_false_eq_true, not_true_eq_false, and_self, and_true, true_and, false_and, and_false, or_true, true_or, or_false, false_or, or_self, reduceCtorEq, mm_q, Option.getD_some, cI_some, cJ_some, cV_some, cS_some, kd_sI, kd_sL, kd_sR, kd_cp, ln_sI, ln_sL, ln_sR, ln_cp, gR_sI, gR_sL, gR_sR, gR_cp, gL_sI, gL_sR, gL_cp, gI_sL, gI_sR, iI_add, iI_sub, iI_mul, iI_neg, iI_in, iI_tn, iI_lt, iI_eq, Nat.reduceLeDiff, Nat.reduceEqDiff, Nat.reduceAdd, Int.reduceEq, Int.reduceLT, Int.reduceLE, Int.reduceNeg, Int.reduceAdd, Int.reduceSub, Int.reduceMul, w1, C3 h hI hIB (d := d - 1) (by omega) w0 w1 a0 a1 b0 b1 ha hb]
    exact C2L h hI hIB hd a0 a1 b0 b1 ha hb r (w + 1) _ (by omega) (by omega)
theorem C2 (h : RQ D m s) (hI : InvS D) (hIB : InvB D (sa D)) (hd : 2 ≤ d) {a b ta x tb y : Int} (a0 : 0 ≤ a) (a1 : a < 12) (b0 : 0 ≤ b) (b1 : b < 12) (ha : SHo D m a ta x) (hb : SHo D m b tb y) : mm_ev d 2 0 [some (.ref 195), some (.ref s), some (.int (iI (a))), some (.int (iI (b))), none, none] [] m = some (some (some (.int (iI (allJ D ta x tb y)))), m) := by
  obtain ⟨q0, q1⟩ := hI.2.2.2.2.2.1
  rw [sg_2_0]
  exact C2L h hI hIB hd a0 a1 b0 b1 ha hb (st D 6).toNat 0 0 (by omega) (by omega)
/-- jump -/
theorem C132 (h : RQ D m s) (hI : InvS D) (hL : InvL D) (hIB : InvB D (sa D)) (hd : 8 ≤ d) {w ta x tb y : Int} (w_0 : -2147483648 ≤ w) (w_1 : w < 2147483648) (ta_0 : -2147483648 ≤ ta) (ta_1 : ta < 2147483648) (x_0 : -2147483648 ≤ x) (x_1 : x < 2147483648) (tb_0 : -2147483648 ≤ tb) (tb_1 : tb < 2147483648) (y_0 : -2147483648 ≤ y) (y_1 : y < 2147483648) : ∃ m', mm_ev d 132 0 [some (.ref 100), some (.int (iI (w))), some (.int (iI (ta))), some (.int (iI (x))), some (.int (iI (tb))), some (.int (iI (y))), none] [] m = some (some (some (.int (iI (jumpQ D w ta x tb y)))), m') ∧ FC m m' := by
  obtain ⟨q0, q1⟩ := hI.2.2.2.2.2.1
  have xf := shX h.1
  rw [sg_132_0 (by omega)]
  simp (disch := omega) only [↓reduceIte, not_false_eq_true, not_true_eq_false, and_self, and_true, true_and, false_and, and_false, or_true, true_or, or_false, false_or, or_self, reduceCtorEq, mm_q, Option.getD_some, cI_some, cJ_some, cV_some, cS_some, kd_sI, kd_sL, kd_sR, kd_cp, ln_sI, ln_sL, ln_sR, ln_cp, gR_sI, gR_sL, gR_sR, gR_cp, gL_sI, gL_sR, gL_cp, gI_sL, gI_sR, iI_add, iI_sub, iI_mul, iI_neg, iI_in, iI_tn, iI_lt, iI_eq, Nat.reduceLeDiff, Nat.reduceEqDiff, Nat.reduceAdd, Int.reduceEq, Int.reduceLT, Int.reduceLE, Int.reduceNeg, Int.reduceAdd, Int.reduceSub, Int.reduceMul, C133]
  rw [sg_132_4 (by omega)]
  cases z1 : inB ta 0 60
  · refine ⟨m, ?_, FC.rf⟩
    have : mayJ D w ta x tb y = false := by unfold mayJ; simp [z1]
    unfold jumpQ
    simp (disch := omega) only [↓reduceIte, not_false_eq_true, not_true_eq_false, and_self, and_true, true_and, false_and, and_false, or_true, true_or, or_false, false_or, or_self, reduceCtorEq, mm_q, Option.getD_some, cI_some, cJ_some, cV_some, cS_some, kd_sI, kd_sL, kd_sR, kd_cp, ln_sI, ln_sL, ln_sR, ln_cp, gR_sI, gR_sL, gR_sR, gR_cp, gL_sI, gL_sR, gL_cp, gI_sL, gI_sR, iI_add, iI_sub, iI_mul, iI_neg, iI_in, iI_tn, iI_lt, iI_eq, Nat.reduceLeDiff, Nat.reduceEqDiff, Nat.reduceAdd, Int.reduceEq, Int.reduceLT, Int.reduceLE, Int.reduceNeg, Int.reduceAdd, Int.reduceSub, Int.reduceMul, bI_t, bI_f, decide_true, decide_false, Bool.and_true, Bool.and_false, Bool.true_and, Bool.false_and, Bool.false_eq_true, Bool.and_self, Bool.not_true, Bool.not_false, Bool.true_or, Bool.false_or, Bool.or_true, Bool.or_false, this, sg_132_19]
    rw [sg_132_20 (by omega)]
    simp (disch := omega) only [↓reduceIte, not_false_eq_true, not_true_eq_false, and_self, and_true, true_and, false_and, and_false, or_true, true_or, or_false, false_or, or_self, reduceCtorEq, mm_q, Option.getD_some, cI_some, cJ_some, cV_some, cS_some, kd_sI, kd_sL, kd_sR, kd_cp, ln_sI, ln_sL, ln_sR, ln_cp, gR_sI, gR_sL, gR_sR, gR_cp, gL_sI, gL_sR, gL_cp, gI_sL, gI_sR, iI_add, iI_sub, iI_mul, iI_neg, iI_in, iI_tn, iI_lt, iI_eq, Nat.reduceLeDiff, Nat.reduceEqDiff, Nat.reduceAdd, Int.reduceEq, Int.reduceLT, Int.reduceLE, Int.reduceNeg, Int.reduceAdd, Int.reduceSub, Int.reduceMul]
  · simp (disch := omega) only [↓reduceIte, not_false_eq_true, not_true_eq_false, and_self, and_true, true_and, false_and, and_false, or_true, true_or, or_false, false_or, or_self, reduceCtorEq, mm_q, Option.getD_some, cI_some, cJ_some, cV_some, cS_some, kd_sI, kd_sL, kd_sR, kd_cp, ln_sI, ln_sL, ln_sR, ln_cp, gR_sI, gR_sL, gR_sR, gR_cp, gL_sI, gL_sR, gL_cp, gI_sL, gI_sR, iI_add, iI_sub, iI_mul, iI_neg, iI_in, iI_tn, iI_lt, iI_eq, Nat.reduceLeDiff, Nat.reduceEqDiff, Nat.reduceAdd, Int.reduceEq, Int.reduceLT, Int.reduceLE, Int.reduceNeg, Int.reduceAdd, Int.reduceSub, Int.reduceMul, bI_t, bI_f, decide_true, decide_false, Bool.and_true, Bool.and_false, Bool.true_and, Bool.false_and, Bool.false_eq_true, Bool.and_self, Bool.not_true, Bool.not_false, Bool.true_or, Bool.false_or, Bool.or_true, Bool.or_false, C133]
    cases z2 : inB tb 0 60
    · refine ⟨m, ?_, FC.rf⟩
      have : mayJ D w ta x tb y = false := by unfold mayJ; simp [z2]
      unfold jumpQ
      simp (disch := omega) only [↓reduceIte, not_false_eq_true, not_true_eq_false, and_self, and_true, true_and, false_and, and_false, or_true, true_or, or_false, false_or, or_self, reduceCtorEq, mm_q, Option.getD_some, cI_some, cJ_some, cV_some, cS_some, kd_sI, kd_sL, kd_sR, kd_cp, ln_sI, ln_sL, ln_sR, ln_cp, gR_sI, gR_sL, gR_sR, gR_cp, gL_sI, gL_sR, gL_cp, gI_sL, gI_sR, iI_add, iI_sub, iI_mul, iI_neg, iI_in, iI_tn, iI_lt, iI_eq, Nat.reduceLeDiff, Nat.reduceEqDiff, Nat.reduceAdd, Int.reduceEq, Int.reduceLT, Int.reduceLE, Int.reduceNeg, Int.reduceAdd, Int.reduceSub, Int.reduceMul, bI_t, bI_f, decide_true, decide_false, Bool.and_true, Bool.and_false, Bool.true_and, Bool.false_and, Bool.false_eq_true, Bool.and_self, Bool.not_true, Bool.not_false, Bool.true_or, Bool.false_or, Bool.or_true, Bool.or_false, this, sg_132_19]
      rw [sg_132_20 (by omega)]
      simp (disch := omega) only [↓reduceIte, not_false_eq_true, not_true_eq_false, and_self, and_true, true_and, false_and, and_false, or_true, true_or, or_false, false_or, or_self, reduceCtorEq, mm_q, Option.getD_some, cI_some, cJ_some, cV_some, cS_some, kd_sI, kd_sL, kd_sR, kd_cp, ln_sI, ln_sL, ln_sR, ln_cp, gR_sI, gR_sL, gR_sR, gR_cp, gL_sI, gL_sR, gL_cp, gI_sL, gI_sR, iI_add, iI_sub, iI_mul, iI_neg, iI_in, iI_tn, iI_lt, iI_eq, Nat.reduceLeDiff, Nat.reduceEqDiff, Nat.reduceAdd, Int.reduceEq, Int.reduceLT, Int.reduceLE, Int.reduceNeg, Int.reduceAdd, Int.reduceSub, Int.reduceMul]
    · simp (disch := omega) only [↓reduceIte, not_false_eq_true, not_true_eq_false, and_self, and_true, true_and, false_and, and_false, or_true, true_or, or_false, false_or, or_self, reduceCtorEq, mm_q, Option.getD_some, cI_some, cJ_some, cV_some, cS_some, kd_sI, kd_sL, kd_sR, kd_cp, ln_sI, ln_sL, ln_sR, ln_cp, gR_sI, gR_sL, gR_sR, gR_cp, gL_sI, gL_sR, gL_cp, gI_sL, gI_sR, iI_add, iI_sub, iI_mul, iI_neg, iI_in, iI_tn, iI_lt, iI_eq, Nat.reduceLeDiff, Nat.reduceEqDiff, Nat.reduceAdd, Int.reduceEq, Int.reduceLT, Int.reduceLE, Int.reduceNeg, Int.reduceAdd, Int.reduceSub, Int.reduceMul, bI_t, bI_f, decide_true, decide_false, Bool.and_true, Bool.and_false, Bool.true_and, Bool.false_and, Bool.false_eq_true, Bool.and_self, Bool.not_true, Bool.not_false, Bool.true_or, Bool.false_or, Bool.or_true, Bool.or_false]
      rw [sg_132_20 (by omega)]
      simp (disch := omega) only [xf, ↓reduceIte, not_false_eq_true, not_true_eq_false, and_self, and_true, true_and, false_and, and_false, or_true, true_or, or_false, false_or, or_self, reduceCtorEq, mm_q, Option.getD_some, cI_some, cJ_some, cV_some, cS_some, kd_sI, kd_sL, kd_sR, kd_cp, ln_sI, ln_sL, ln_sR, ln_cp, gR_sI, gR_sL, gR_sR, gR_cp, gL_sI, gL_sR, gL_cp, gI_sL, gI_sR, iI_add, iI_sub, iI_mul, iI_neg, iI_in, iI_tn, iI_lt, iI_eq, Nat.reduceLeDiff, Nat.reduceEqDiff, Nat.reduceAdd, Int.reduceEq, Int.reduceLT, Int.reduceLE, Int.reduceNeg, Int.reduceAdd, Int.reduceSub, Int.reduceMul, C109 h hI]
      rw [sg_132_32 (by omega)]
      cases z3 : isWd D x
      · refine ⟨m, ?_, FC.rf⟩
        have : mayJ D w ta x tb y = false := by unfold mayJ; simp [z3]
        unfold jumpQ
        simp (disch := omega) only [↓reduceIte, not_false_eq_true, not_true_eq_false, and_self, and_true, true_and, false_and, and_false, or_true, true_or, or_false, false_or, or_self, reduceCtorEq, mm_q, Option.getD_some, cI_some, cJ_some, cV_some, cS_some, kd_sI, kd_sL, kd_sR, kd_cp, ln_sI, ln_sL, ln_sR, ln_cp, gR_sI, gR_sL, gR_sR, gR_cp, gL_sI, gL_sR, gL_cp, gI_sL, gI_sR, iI_add, iI_sub, iI_mul, iI_neg, iI_in, iI_tn, iI_lt, iI_eq, Nat.reduceLeDiff, Nat.reduceEqDiff, Nat.reduceAdd, Int.reduceEq, Int.reduceLT, Int.reduceLE, Int.reduceNeg, Int.reduceAdd, Int.reduceSub, Int.reduceMul, bI_t, bI_f, decide_true, decide_false, Bool.and_true, Bool.and_false, Bool.true_and, Bool.false_and, Bool.false_eq_true, Bool.and_self, Bool.not_true, Bool.not_false, Bool.true_or, Bool.false_or, Bool.or_true, Bool.or_false, this]
      · simp (disch := omega) only [xf, ↓reduceIte, not_false_eq_true, not_true_eq_false, and_self, and_true, true_and, false_and, and_false, or_true, true_or, or_false, false_or, or_self, reduceCtorEq, mm_q, Option.getD_some, cI_some, cJ_some, cV_some, cS_some, kd_sI, kd_sL, kd_sR, kd_cp, ln_sI, ln_sL, ln_sR, ln_cp, gR_sI, gR_sL, gR_sR, gR_cp, gL_sI, gL_sR, gL_cp, gI_sL, gI_sR, iI_add, iI_sub, iI_mul, iI_neg, iI_in, iI_tn, iI_lt, iI_eq, Nat.reduceLeDiff, Nat.reduceEqDiff, Nat.reduceAdd, Int.reduceEq, Int.reduceLT, Int.reduceLE, Int.reduceNeg, Int.reduceAdd, Int.reduceSub, Int.reduceMul, bI_t, bI_f, decide_true, decide_false, Bool.and_true, Bool.and_false, Bool.true_and, Bool.false_and, Bool.false_eq_true, Bool.and_self, Bool.not_true, Bool.not_false, Bool.true_or, Bool.false_or, Bool.or_true, Bool.or_false, C109 h hI]
        rw [sg_132_41 (by omega)]
        cases z4 : isWd D y
        · refine ⟨m, ?_, FC.rf⟩
          have : mayJ D w ta x tb y = false := by unfold mayJ; simp [z4]
          unfold jumpQ
          simp (disch := omega) only [↓reduceIte, not_false_eq_true, not_true_eq_false, and_self, and_true, true_and, false_and, and_false, or_true, true_or, or_false, false_or, or_self, reduceCtorEq, mm_q, Option.getD_some, cI_some, cJ_some, cV_some, cS_some, kd_sI, kd_sL, kd_sR, kd_cp, ln_sI, ln_sL, ln_sR, ln_cp, gR_sI, gR_sL, gR_sR, gR_cp, gL_sI, gL_sR, gL_cp, gI_sL, gI_sR, iI_add, iI_sub, iI_mul, iI_neg, iI_in, iI_tn, iI_lt, iI_eq, Nat.reduceLeDiff, Nat.reduceEqDiff, Nat.reduceAdd, Int.reduceEq, Int.reduceLT, Int.reduceLE, Int.reduceNeg, Int.reduceAdd, Int.reduceSub, Int.reduceMul, bI_t, bI_f, decide_true, decide_false, Bool.and_true, Bool.and_false, Bool.true_and, Bool.false_and, Bool.false_eq_true, Bool.and_self, Bool.not_true, Bool.not_false, Bool.true_or, Bool.false_or, Bool.or_true, Bool.or_false, this]
        · obtain ⟨a0, a1⟩ := isWd_t.mp z3
          obtain ⟨b0, b1⟩ := isWd_t.mp z4
          obtain ⟨m1, e1, f1, s1, -⟩ := C134 (d := d - 1) h hI hL hIB (by omega) (k := 0) (ta := ta) (by omega) (by omega) a0 a1
          have h1 := h.fc f1 q1
          obtain ⟨m2, e2, f2, s2, k2⟩ := C134 (d := d - 1) h1 hI hL hIB (by omega) (k := 1) (ta := tb) (by omega) (by omega) b0 b1
          have h2 := h1.fc f2 q1
          have s1' := k2 0 ta x (by omega) (by omega) (by omega) s1
          have xf1 := shX h1.1
          have xf2 := shX h2.1
          have ff2 := shF h2.1
          have sf2 := stF h2.1 h2.2.1
          have e60 : (w = -1 ∨ isWk D w = true) → mm_ev d 132 60 [some (.ref 100), some (.int (iI (w))), some (.int (iI (ta))), some (.int (iI (x))), some (.int (iI (tb))), some (.int (iI (y))), some (.int (iI (1)))] [] m = some (some (some (.int (iI (jumpQ D w ta x tb y)))), m2) := by
            intro hw
            have ok : mayJ D w ta x tb y = true := by
              unfold mayJ
              rw [z1, z2, z3, z4, show (decide (w = -1) || isWk D w) = true by simpa using hw]
              rfl
            rw [sg_132_60 (by omega)]
            simp (disch := omega) only [xf, ↓reduceIte, not_false_eq_true, not_true_eq_false, and_self, and_true, true_and, false_and, and_false, or_true, true_or, or_false, false_or, or_self, reduceCtorEq, mm_q, Option.getD_some, cI_some, cJ_some, cV_some, cS_some, kd_sI, kd_sL, kd_sR, kd_cp, ln_sI, ln_sL, ln_sR, ln_cp, gR_sI, gR_sL, gR_sR, gR_cp, gL_sI, gL_sR, gL_cp, gI_sL, gI_sR, iI_add, iI_sub, iI_mul, iI_neg, iI_in, iI_tn, iI_lt, iI_eq, Nat.reduceLeDiff, Nat.reduceEqDiff, Nat.reduceAdd, Int.reduceEq, Int.reduceLT, Int.reduceLE, Int.reduceNeg, Int.reduceAdd, Int.reduceSub, Int.reduceMul, e1]
            rw [sg_132_67 (by omega)]
            simp (disch := omega) only [xf1, ↓reduceIte, not_false_eq_true, not_true_eq_false, and_self, and_true, true_and, false_and, and_false, or_true, true_or, or_false, false_or, or_self, reduceCtorEq, mm_q, Option.getD_some, cI_some, cJ_some, cV_some, cS_some, kd_sI, kd_sL, kd_sR, kd_cp, ln_sI, ln_sL, ln_sR, ln_cp, gR_sI, gR_sL, gR_sR, gR_cp, gL_sI, gL_sR, gL_cp, gI_sL, gI_sR, iI_add, iI_sub, iI_mul, iI_neg, iI_in, iI_tn, iI_lt, iI_eq, Nat.reduceLeDiff, Nat.reduceEqDiff, Nat.reduceAdd, Int.reduceEq, Int.reduceLT, Int.reduceLE, Int.reduceNeg, Int.reduceAdd, Int.reduceSub, Int.reduceMul, e2]
            rw [sg_132_76 (by omega)]
            unfold jumpQ
            rw [if_pos ok]
            by_cases y1 : w = -1
            · simp (disch := omega) only [xf2, ff2, sf2, h2.2.2.1, ↓reduceIte, not_false_eq_true, not_true_eq_false, and_self, and_true, true_and, false_and, and_false, or_true, true_or, or_false, false_or, or_self, reduceCtorEq, mm_q, Option.getD_some, cI_some, cJ_some, cV_some, cS_some, kd_sI, kd_sL, kd_sR, kd_cp, ln_sI, ln_sL, ln_sR, ln_cp, gR_sI, gR_sL, gR_sR, gR_cp, gL_sI, gL_sR, gL_cp, gI_sL, gI_sR, iI_add, iI_sub, iI_mul, iI_neg, iI_in, iI_tn, iI_lt, iI_eq, Nat.reduceLeDiff, Nat.reduceEqDiff, Nat.reduceAdd, Int.reduceEq, Int.reduceLT, Int.reduceLE, Int.reduceNeg, Int.reduceAdd, Int.reduceSub, Int.reduceMul, y1, C2 h2 hI hIB (d := d - 1) (by omega) (show (0 : Int) ≤ 0 by omega) (by omega) (show (0 : Int) ≤ 1 by omega) (by omega) s1' s2]
            · obtain ⟨c0, c1⟩ := isWk_t.mp (hw.resolve_left y1)
              simp (disch := omega) only [xf2, ff2, sf2, h2.2.2.1, ↓reduceIte, not_false_eq_true, not_true_eq_false, and_self, and_true, true_and, false_and, and_false, or_true, true_or, or_false, false_or, or_self, reduceCtorEq, mm_q, Option.getD_some, cI_some, cJ_some, cV_some, cS_some, kd_sI, kd_sL, kd_sR, kd_cp, ln_sI, ln_sL, ln_sR, ln_cp, gR_sI, gR_sL, gR_sR, gR_cp, gL_sI, gL_sR, gL_cp, gI_sL, gI_sR, iI_add, iI_sub, iI_mul, iI_neg, iI_in, iI_tn, iI_lt, iI_eq, Nat.reduceLeDiff, Nat.reduceEqDiff, Nat.reduceAdd, Int.reduceEq, Int.reduceLT, Int.reduceLE, Int.reduceNeg, Int.reduceAdd, Int.reduceSub, Int.reduceMul, ok, y1, show ¬ w < 0 by omega, C3 h2 hI hIB (d := d - 1) (by omega) c0 c1 (show (0 : Int) ≤ 0 by omega) (by omega) (show (0 : Int) ≤ 1 by omega) (by omega) s1' s2]
          by_cases y1 : w = -1
          · refine ⟨m2, ?_, f1.tr f2⟩
            have e := e60 (Or.inl y1)
            rw [if_neg (by decide), if_pos (by rw [y1])]
            exact e
          · cases y2 : isWk D w
            · refine ⟨m, ?_, FC.rf⟩
              have : mayJ D w ta x tb y = false := by unfold mayJ; simp [y1, y2]
              unfold jumpQ
              simp (disch := omega) only [xf, ↓reduceIte, not_false_eq_true, not_true_eq_false, and_self, and_true, true_and, false_and, and_false, or_true, true_or, or_false, false_or, or_self, reduceCtorEq, mm_q, Option.getD_some, cI_some, cJ_some, cV_some, cS_some, kd_sI, kd_sL, kd_sR, kd_cp, ln_sI, ln_sL, ln_sR, ln_cp, gR_sI, gR_sL, gR_sR, gR_cp, gL_sI, gL_sR, gL_cp, gI_sL, gI_sR, iI_add, iI_sub, iI_mul, iI_neg, iI_in, iI_tn, iI_lt, iI_eq, Nat.reduceLeDiff, Nat.reduceEqDiff, Nat.reduceAdd, Int.reduceEq, Int.reduceLT, Int.reduceLE, Int.reduceNeg, Int.reduceAdd, Int.reduceSub, Int.reduceMul, bI_t, bI_f, decide_true, decide_false, Bool.and_true, Bool.and_false, Bool.true_and, Bool.false_and, Bool.false_eq_true, Bool.and_self, Bool.not_true, Bool.not_false, Bool.true_or, Bool.false_or, Bool.or_true, Bool.or_false, this, y1, C107 h hI, y2]
            · refine ⟨m2, ?_, f1.tr f2⟩
              have e := e60 (Or.inr y2)
              simp (disch := omega) only [xf, ↓reduceIte, not_false_eq_true, not_true_eq_false, and_self, and_true, true_and, false_and, and_false, or_true, true_or, or_false, false_or, or_self, reduceCtorEq, mm_q, Option.getD_some, cI_some, cJ_some, cV_some, cS_some, kd_sI, kd_sL, kd_sR, kd_cp, ln_sI, ln_sL, ln_sR, ln_cp, gR_sI, gR_sL, gR_sR, gR_cp, gL_sI, gL_sR, gL_cp, gI_sL, gI_sR, iI_add, iI_sub, iI_mul, iI_neg, iI_in, iI_tn, iI_lt, iI_eq, Nat.reduceLeDiff, Nat.reduceEqDiff, Nat.reduceAdd, Int.reduceEq, Int.reduceLT, Int.reduceLE, Int.reduceNeg, Int.reduceAdd, Int.reduceSub, Int.reduceMul, bI_t, bI_f, decide_true, decide_false, Bool.and_true, Bool.and_false, Bool.true_and, Bool.false_and, Bool.false_eq_true, Bool.and_self, Bool.not_true, Bool.not_false, Bool.true_or, Bool.false_or, Bool.or_true, Bool.or_false, y1, C107 h hI, y2]
              exact e
end
