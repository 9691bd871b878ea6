def scRo (i : Int) (a _k : Nat) : Bool := Nat.beq a (187 + i.toNat)
section
variable {D : Nat → Nat → Int32} {m m' m'' : mm_M} {d s : Nat} {c : Int → Int} {n : Int}
theorem Ro_o {i : Int} (f : Fr (scRo i) m m') {a j : Nat} (h : ¬ a = 187 + i.toNat) : mm_gI m' a j = mm_gI m a j := f.gI (by
  unfold scRo
  cases e : Nat.beq a (187 + i.toNat)
  · rfl
  · exact absurd (Nat.eq_of_beq_eq_true e) h)
theorem here178 : isW 178 := Or.inr rfl
/-- fillRow, the loop -/
theorem C15L (hst : isSt s) (hI : InvS D) (hIB : InvB D (sa D)) (hd : 2 ≤ d) {i w : Int} (i0 : 0 ≤ i) (i1 : i < 4) (w0 : 0 ≤ w) (w1 : w < st D 6) : ∀ (r : Nat) (t : Int) (m : mm_M), t = 601 - r → 0 ≤ t → Sh m → RSt D m s → RW D m s 178 (sa D) (sa D 0) false → (∀ u, 0 ≤ u → u < t → mm_gI m (187 + i.toNat) u.toNat = iI (lpW D w 0 u)) → ∃ m', mm_ev d 15 33 [some (.ref 184), (some (.int (iI (i)))), some (.ref 178), (some (.int (iI (w)))), (some (.int (iI (cueS D w)))), (some (.int (iI (t))))] [] m = some (some none, m') ∧ Fr (scRo i) m m' ∧ ∀ u, 0 ≤ u → u ≤ 600 → mm_gI m' (187 + i.toNat) u.toNat = iI (lpW D w 0 u)
  | 0, t, m, ht, t0, hs, hR, hw, hu => by
    refine ⟨m, ?_, Fr.rf, fun u u0 u1 => hu u u0 (by omega)⟩
    rw [sg_15_33 (by omega)]
    simp (disch := omega) only [↓reduceIte, not_false_eq_true, not_true_eq_false, and_self, and_true, true_and, false_and, and_false, or_true, true_or, or_false, false_or, or_self, reduceCtorEq, mm_q, Option.getD_some, cI_some, cJ_some, cV_some, cS_some, kd_sI, kd_sL, kd_sR, kd_cp, ln_sI, ln_sL, ln_sR, ln_cp, gR_sI, gR_sL, gR_sR, gR_cp, gL_sI, gL_sR, gL_cp, gI_sL, gI_sR, iI_add, iI_sub, iI_mul, iI_neg, iI_in, iI_tn, iI_lt, iI_eq, Nat.reduceLeDiff, Nat.reduceEqDiff, Nat.reduceAdd, Int.reduceEq, Int.reduceLT, Int.reduceLE, Int.reduceNeg, Int.reduceAdd, Int.reduceSub, Int.reduceMul, show 600 < t by omega]
  | r + 1, t, m, ht, t0, hs, hR, hw, hu => by
    have q8 := hI.2.2.2.2.2.1
    have hst' : s = 104 ∨ s = 125 := hst
    have cr := cueS_r hI w0 w1
    obtain ⟨r1, r2, r3⟩ := rowF hs i0 i1
    have e8 := C88 (d := d - 1) (g := t - cueS D w) hs hst here178 hR hw hI hIB (by omega) w0 w1 (by omega) (by omega)
    have el : plS (st D 0) (sa D (9 + w)) (atS (st D 0) (wk D w 0) (st D 8) (if sa D (9 + w) = 1 then sa D (1 + w) else st D 0 - 1 - sa D (1 + w)) (t - cueS D w) (tempoS D w (sa D 0))) = lpW D w 0 t := by
      unfold lpW placeS
      rw [Int.sub_zero]
    rw [el] at e8
    have g : Fr (scRo i) m (mm_sI m (187 + i.toNat) t.toNat (iI (lpW D w 0 t))) := Fr.sI (by unfold scRo; simp)
    obtain ⟨m', e', g', u'⟩ := C15L hst hI hIB hd i0 i1 w0 w1 r (t + 1) (mm_sI m (187 + i.toNat) t.toNat (iI (lpW D w 0 t))) (by omega) (by omega) (g.sh hs) (hR.cg (fun a j a0 a1 _ _ => Ro_o g (by omega)) q8.2) (hw.fr here178 g (fun a k a0 a1 _ => by
      unfold scRo
      cases e : Nat.beq a (187 + i.toNat)
      · rfl
      · have := Nat.eq_of_beq_eq_true e
        omega)) (fun u u0 u1 => by
      rw [gI_sI]
      by_cases y : u = t
      · rw [y, if_pos ⟨rfl, rfl⟩]
      · rw [if_neg (by omega)]; exact hu u u0 (by omega))
    refine ⟨m', ?_, g.tr g', u'⟩
    rw [← e', sg_15_33 (by omega)]
    simp (disch := omega) only [shW hs, ↓reduceIte, not_false_eq_true, not_true_eq_false, and_self, and_true, true_and, false_and, and_false, or_true, true_or, or_false, false_or, or_self, reduceCtorEq, mm_q, Option.getD_some, cI_some, cJ_some, cV_some, cS_some, kd_sI, kd_sL, kd_sR, kd_cp, ln_sI, ln_sL, ln_sR, ln_cp, gR_sI, gR_sL, gR_sR, gR_cp, gL_sI, gL_sR, gL_cp, gI_sL, gI_sR, iI_add, iI_sub, iI_mul, iI_neg, iI_in, iI_tn, iI_lt, iI_eq, Nat.reduceLeDiff, Nat.reduceEqDiff, Nat.reduceAdd, Int.reduceEq, Int.reduceLT, Int.reduceLE, Int.reduceNeg, Int.reduceAdd, Int.reduceSub, Int.reduceMul, show ¬ 600 < t by omega, e8, r1]
    rw [sg_15_59]
    simp (disch := omega) only [↓reduceIte, not_false_eq_true, not_true_eq_false, and_self, and_true, true_and, false_and, and_false, or_true, true_or, or_false, false_or, or_self, reduceCtorEq, mm_q, Option.getD_some, cI_some, cJ_some, cV_some, cS_some, kd_sI, kd_sL, kd_sR, kd_cp, ln_sI, ln_sL, ln_sR, ln_cp, gR_sI, gR_sL, gR_sR, gR_cp, gL_sI, gL_sR, gL_cp, gI_sL, gI_sR, iI_add, iI_sub, iI_mul, iI_neg, iI_in, iI_tn, iI_lt, iI_eq, Nat.reduceLeDiff, Nat.reduceEqDiff, Nat.reduceAdd, Int.reduceEq, Int.reduceLT, Int.reduceLE, Int.reduceNeg, Int.reduceAdd, Int.reduceSub, Int.reduceMul, r2, r3, show 100 ≤ 187 + i.toNat by omega]
/-- fillRow -/
theorem C15 (hs : Sh m) (hst : isSt s) (hR : RSt D m s) (hg : mm_gR m 184 6 = some s) (hw : RW D m s 178 (sa D) (sa D 0) false) (hI : InvS D) (hIB : InvB D (sa D)) (hd : 2 ≤ d) {i w : Int} (i0 : 0 ≤ i) (i1 : i < 4) (w0 : 0 ≤ w) (w1 : w < st D 6) (hc : mm_gI m 185 i.toNat = iI w) : ∃ m', mm_ev d 15 0 [some (.ref 184), (some (.int (iI (i)))), some (.ref 178), none, none, none] [] m = some (some none, m') ∧ Fr (scRo i) m m' ∧ ∀ u, 0 ≤ u → u ≤ 600 → mm_gI m' (187 + i.toNat) u.toNat = iI (lpW D w 0 u) := by
  have q8 := hI.2.2.2.2.2.1
  have cr := cueS_r hI w0 w1
  have sF := stF hs hst
  obtain ⟨a2, a3⟩ := wkF hs hst w0 (show w < 8 by omega)
  obtain ⟨-, -, -, -, -, b6, -⟩ := hR.2.2.1 _ w0 w1
  obtain ⟨-, -, -, -, -, ⟨l0, l1⟩, -⟩ := hI.2.2.2.2.2.2.2.2.2.1 _ w0 w1
  have e1 := C71 (d := d - 1) hs hst hR hI w0 w1
  obtain ⟨m', e', r⟩ := C15L (d := d) hst hI hIB hd i0 i1 w0 w1 601 0 m (by omega) (by omega) hs hR hw (fun u u0 u1 => by omega)
  refine ⟨m', ?_, r⟩
  rw [← e', sg_15_0 (by omega)]
  simp (disch := omega) only [shW hs, ↓reduceIte, not_false_eq_true, not_true_eq_false, and_self, and_true, true_and, false_and, and_false, or_true, true_or, or_false, false_or, or_self, reduceCtorEq, mm_q, Option.getD_some, cI_some, cJ_some, cV_some, cS_some, kd_sI, kd_sL, kd_sR, kd_cp, ln_sI, ln_sL, ln_sR, ln_cp, gR_sI, gR_sL, gR_sR, gR_cp, gL_sI, gL_sR, gL_cp, gI_sL, gI_sR, iI_add, iI_sub, iI_mul, iI_neg, iI_in, iI_tn, iI_lt, iI_eq, Nat.reduceLeDiff, Nat.reduceEqDiff, Nat.reduceAdd, Int.reduceEq, Int.reduceLT, Int.reduceLE, Int.reduceNeg, Int.reduceAdd, Int.reduceSub, Int.reduceMul, hg, hc, e1]
  rw [sg_15_15]
  simp (disch := omega) only [shW hs, sF, ↓reduceIte, not_false_eq_true, not_true_eq_false, and_self, and_true, true_and, false_and, and_false, or_true, true_or, or_false, false_or, or_self, reduceCtorEq, mm_q, Option.getD_some, cI_some, cJ_some, cV_some, cS_some, kd_sI, kd_sL, kd_sR, kd_cp, ln_sI, ln_sL, ln_sR, ln_cp, gR_sI, gR_sL, gR_sR, gR_cp, gL_sI, gL_sR, gL_cp, gI_sL, gI_sR, iI_add, iI_sub, iI_mul, iI_neg, iI_in, iI_tn, iI_lt, iI_eq, Nat.reduceLeDiff, Nat.reduceEqDiff, Nat.reduceAdd, Int.reduceEq, Int.reduceLT, Int.reduceLE, Int.reduceNeg, Int.reduceAdd, Int.reduceSub, Int.reduceMul, hg, a2, a3, b6, show cueS D w + wk D w 5 - wk D w 5 = cueS D w by omega]
/-- which lags keep the musts -/
def HBm (D : Nat → Nat → Int32) (w q : Int) (y : Int32) : Prop := ∀ a, 0 ≤ a → a < 24 → (bi y a = true ↔ ∀ p, 0 ≤ p → p < q → mu D p 0 = w → lpW D w a (te D (mu D p 1)) = mu D p 2)
def HBi (D : Nat → Nat → Int32) (w q x : Int) (y : Int32) : Prop := ∀ a, 0 ≤ a → a < 24 → (bi y a = true ↔ (∀ p, 0 ≤ p → p < q → mu D p 0 = w → lpW D w a (te D (mu D p 1)) = mu D p 2) ∧ (a < x → lpW D w a (te D (mu D q 1)) = mu D q 2))
theorem C16I (hs : Sh m) (hst : isSt s) (hR : RSt D m s) (hg : mm_gR m 184 6 = some s) (hW : ROWS D m n c) (hc : coK D n c) (hI : InvS D) (hIB : InvB D (sa D)) (hd : 1 ≤ d) {i q : Int} (i0 : 0 ≤ i) (i1 : i < n) (q0 : 0 ≤ q) (q1 : q < st D 7) (hq : mu D q 0 = c i) : ∀ (r : Nat) (x : Int) (y : Int32), x = 24 - r → 0 ≤ x → HBi D (c i) q x y → ∃ y' z, mm_ev d 16 38 [some (.ref 184), (some (.int (iI (i)))), some (.int y), (some (.int (iI (q)))), (some (.int (iI (te D (mu D q 1))))), (some (.int (iI (x))))] [] m = mm_ev d 16 99 [some (.ref 184), (some (.int (iI (i)))), some (.int y'), (some (.int (iI (q)))), (some (.int (iI (te D (mu D q 1))))), some (.int z)] [] m ∧ HBi D (c i) q 24 y'
  | 0, x, y, hx, x0, h => by
    refine ⟨y, iI x, ?_, by rw [show (24 : Int) = x by omega]; exact h⟩
    rw [sg_16_38 (by omega)]
    simp (disch := omega) only [↓reduceIte, not_false_eq_true, not_true_eq_false, and_self, and_true, true_and, false_and, and_false, or_true, true_or, or_false, false_or, or_self, reduceCtorEq, mm_q, Option.getD_some, cI_some, cJ_some, cV_some, cS_some, kd_sI, kd_sL, kd_sR, kd_cp, ln_sI, ln_sL, ln_sR, ln_cp, gR_sI, gR_sL, gR_sR, gR_cp, gL_sI, gL_sR, gL_cp, gI_sL, gI_sR, iI_add, iI_sub, iI_mul, iI_neg, iI_in, iI_tn, iI_lt, iI_eq, Nat.reduceLeDiff, Nat.reduceEqDiff, Nat.reduceAdd, Int.reduceEq, Int.reduceLT, Int.reduceLE, Int.reduceNeg, Int.reduceAdd, Int.reduceSub, Int.reduceMul, show ¬ x < 24 by omega]
  | r + 1, x, y, hx, x0, h => by
    have sF := stF hs hst
    have L := hI.1
    have q5 := hI.2.2.2.2.1
    have q7 := hI.2.2.2.2.2.2.1
    have q8 := hI.2.2.2.2.2.1
    obtain ⟨n0, n1⟩ := hc.1
    obtain ⟨w0, w1⟩ := hc.2 i i0 i1
    obtain ⟨u0, u1⟩ := hI.2.2.2.2.2.2.2.2.1 (mu D q 1) (hI.2.2.2.2.2.2.2.2.2.2 q q0 q1).2.1.1 (hI.2.2.2.2.2.2.2.2.2.2 q q0 q1).2.1.2
    obtain ⟨-, -, ⟨d0, d1⟩⟩ := hI.2.2.2.2.2.2.2.2.2.2 q q0 q1
    obtain ⟨c1, c2, c3⟩ := hR.2.2.2.1 q q0 q1
    have e1 := C17 (d := d - 1) hs hW hc hI hIB i0 i1 x0 (show x < 24 by omega) u0 u1
    have lr := lp_r hI hIB w0 w1 (b := x) (t := te D (mu D q 1))
    by_cases z : lpW D (c i) x (te D (mu D q 1)) = mu D q 2
    · obtain ⟨y', z', e', h'⟩ := C16I hs hst hR hg hW hc hI hIB hd i0 i1 q0 q1 hq r (x + 1) y (by omega) (by omega) (fun a a0 a1 => by
        rw [h a a0 a1]
        constructor
        · rintro ⟨k1, k2⟩
          refine ⟨k1, fun ax => ?_⟩
          by_cases v : a = x
          · rw [v]; exact z
          · exact k2 (by omega)
        · rintro ⟨k1, k2⟩
          exact ⟨k1, fun ax => k2 (by omega)⟩)
      refine ⟨y', z', ?_, h'⟩
      rw [← e', sg_16_38 (by omega)]
      simp (disch := omega) only [shW hs, sF, ↓reduceIte, not_false_eq_true, not_true_eq_false, and_self, and_true, true_and, false_and, and_false, or_true, true_or, or_false, false_or, or_self, reduceCtorEq, mm_q, Option.getD_some, cI_some, cJ_some, cV_some, cS_some, kd_sI, kd_sL, kd_sR, kd_cp, ln_sI, ln_sL, ln_sR, ln_cp, gR_sI, gR_sL, gR_sR, gR_cp, gL_sI, gL_sR, gL_cp, gI_sL, gI_sR, iI_add, iI_sub, iI_mul, iI_neg, iI_in, iI_tn, iI_lt, iI_eq, Nat.reduceLeDiff, Nat.reduceEqDiff, Nat.reduceAdd, Int.reduceEq, Int.reduceLT, Int.reduceLE, Int.reduceNeg, Int.reduceAdd, Int.reduceSub, Int.reduceMul, show x < 24 by omega, hg, c1, c3, (hW i i0 i1).1, hq, e1, z]
      rw [sg_16_93]
      simp (disch := omega) only [↓reduceIte, not_false_eq_true, not_true_eq_false, and_self, and_true, true_and, false_and, and_false, or_true, true_or, or_false, false_or, or_self, reduceCtorEq, mm_q, Option.getD_some, cI_some, cJ_some, cV_some, cS_some, kd_sI, kd_sL, kd_sR, kd_cp, ln_sI, ln_sL, ln_sR, ln_cp, gR_sI, gR_sL, gR_sR, gR_cp, gL_sI, gL_sR, gL_cp, gI_sL, gI_sR, iI_add, iI_sub, iI_mul, iI_neg, iI_in, iI_tn, iI_lt, iI_eq, Nat.reduceLeDiff, Nat.reduceEqDiff, Nat.reduceAdd, Int.reduceEq, Int.reduceLT, Int.reduceLE, Int.reduceNeg, Int.reduceAdd, Int.reduceSub, Int.reduceMul]
    · obtain ⟨y', z', e', h'⟩ := C16I hs hst hR hg hW hc hI hIB hd i0 i1 q0 q1 hq r (x + 1) (y &&& (iShl (iI 1) (iI x) ^^^ iI (-1))) (by omega) (by omega) (fun a a0 a1 => by
        rw [bi_and, bi_not a0 (by omega), bi_shl x0 (by omega) a0 (by omega), Bool.and_eq_true, h a a0 a1]
        by_cases v : a = x
        · rw [decide_eq_true v]
          constructor
          · rintro ⟨_, k⟩; cases k
          · rintro ⟨_, k2⟩
            exfalso
            have := k2 (by omega)
            rw [v] at this
            exact z this
        · rw [decide_eq_false v]
          constructor
          · rintro ⟨⟨k1, k2⟩, _⟩
            exact ⟨k1, fun ax => k2 (by omega)⟩
          · rintro ⟨k1, k2⟩
            exact ⟨⟨k1, fun ax => k2 (by omega)⟩, rfl⟩)
      refine ⟨y', z', ?_, h'⟩
      rw [← e', sg_16_38 (by omega)]
      simp (disch := omega) only [shW hs, sF, ↓reduceIte, not_false_eq_true, not_true_eq_false, and_self, and_true, true_and, false_and, and_false, or_true, true_or, or_false, false_or, or_self, reduceCtorEq, mm_q, Option.getD_some, cI_some, cJ_some, cV_some, cS_some, kd_sI, kd_sL, kd_sR, kd_cp, ln_sI, ln_sL, ln_sR, ln_cp, gR_sI, gR_sL, gR_sR, gR_cp, gL_sI, gL_sR, gL_cp, gI_sL, gI_sR, iI_add, iI_sub, iI_mul, iI_neg, iI_in, iI_tn, iI_lt, iI_eq, Nat.reduceLeDiff, Nat.reduceEqDiff, Nat.reduceAdd, Int.reduceEq, Int.reduceLT, Int.reduceLE, Int.reduceNeg, Int.reduceAdd, Int.reduceSub, Int.reduceMul, show x < 24 by omega, hg, c1, c3, (hW i i0 i1).1, hq, e1, z]
      rw [sg_16_93]
      simp (disch := omega) only [↓reduceIte, not_false_eq_true, not_true_eq_false, and_self, and_true, true_and, false_and, and_false, or_true, true_or, or_false, false_or, or_self, reduceCtorEq, mm_q, Option.getD_some, cI_some, cJ_some, cV_some, cS_some, kd_sI, kd_sL, kd_sR, kd_cp, ln_sI, ln_sL, ln_sR, ln_cp, gR_sI, gR_sL, gR_sR, gR_cp, gL_sI, gL_sR, gL_cp, gI_sL, gI_sR, iI_add, iI_sub, iI_mul, iI_neg, iI_in, iI_tn, iI_lt, iI_eq, Nat.reduceLeDiff, Nat.reduceEqDiff, Nat.reduceAdd, Int.reduceEq, Int.reduceLT, Int.reduceLE, Int.reduceNeg, Int.reduceAdd, Int.reduceSub, Int.reduceMul]
theorem C16L (hs : Sh m) (hst : isSt s) (hR : RSt D m s) (hg : mm_gR m 184 6 = some s) (hW : ROWS D m n c) (hc : coK D n c) (hI : InvS D) (hIB : InvB D (sa D)) (hd : 1 ≤ d) {i : Int} (i0 : 0 ≤ i) (i1 : i < n) : ∀ (r : Nat) (q : Int) (y : Int32) (z4 z5 : Option Value), q = st D 7 - r → 0 ≤ q → HBm D (c i) q y → ∃ y', mm_ev d 16 5 [some (.ref 184), (some (.int (iI (i)))), some (.int y), (some (.int (iI (q)))), z4, z5] [] m = some (some (some (.int (y'))), m) ∧ HBm D (c i) (st D 7) y'
  | 0, q, y, z4, z5, hq, q0, h => by
    have sF := stF hs hst
    have q7 := hI.2.2.2.2.2.2.1
    obtain ⟨⟨-, -, -, -, -, -, -, -, b8⟩, -⟩ := hR
    refine ⟨y, ?_, by rw [show st D 7 = q by omega]; exact h⟩
    rw [sg_16_5]
    simp (disch := omega) only [shW hs, sF, ↓reduceIte, not_false_eq_true, not_true_eq_false, and_self, and_true, true_and, false_and, and_false, or_true, true_or, or_false, false_or, or_self, reduceCtorEq, mm_q, Option.getD_some, cI_some, cJ_some, cV_some, cS_some, kd_sI, kd_sL, kd_sR, kd_cp, ln_sI, ln_sL, ln_sR, ln_cp, gR_sI, gR_sL, gR_sR, gR_cp, gL_sI, gL_sR, gL_cp, gI_sL, gI_sR, iI_add, iI_sub, iI_mul, iI_neg, iI_in, iI_tn, iI_lt, iI_eq, Nat.reduceLeDiff, Nat.reduceEqDiff, Nat.reduceAdd, Int.reduceEq, Int.reduceLT, Int.reduceLE, Int.reduceNeg, Int.reduceAdd, Int.reduceSub, Int.reduceMul, hg, b8, show ¬ q < st D 7 by omega]
  | r + 1, q, y, z4, z5, hq, q0, h => by
    have sF := stF hs hst
    have q1 : q < st D 7 := by omega
    have q5 := hI.2.2.2.2.1
    have q6 := hI.2.2.2.2.2.1
    have q7 := hI.2.2.2.2.2.2.1
    obtain ⟨n0, n1⟩ := hc.1
    obtain ⟨w0, w1⟩ := hc.2 i i0 i1
    obtain ⟨⟨x0, x1⟩, ⟨u0, u1⟩, -⟩ := hI.2.2.2.2.2.2.2.2.2.2 q q0 q1
    obtain ⟨c1, c2, c3⟩ := hR.2.2.2.1 q q0 q1
    have t2 := hR.2.1 _ u0 u1
    have b8 := hR.1.2.2.2.2.2.2.2.2
    by_cases z : mu D q 0 = c i
    · obtain ⟨y1, z1, e1, h1⟩ := C16I hs hst hR hg hW hc hI hIB hd i0 i1 q0 q1 z 24 0 y (by omega) (by omega) (fun a a0 a1 => by
        rw [h a a0 a1]
        exact ⟨fun k => ⟨k, fun ax => by omega⟩, fun k => k.1⟩)
      obtain ⟨y', e', h'⟩ := C16L hs hst hR hg hW hc hI hIB hd i0 i1 r (q + 1) y1 (some (.int (iI (te D (mu D q 1))))) (some (.int z1)) (by omega) (by omega) (fun a a0 a1 => by
        rw [h1 a a0 a1]
        constructor
        · rintro ⟨k1, k2⟩ p p0 p1 pe
          by_cases v : p = q
          · rw [v]; exact k2 a1
          · exact k1 p p0 (by omega) pe
        · intro k
          exact ⟨fun p p0 p1 pe => k p p0 (by omega) pe, fun _ => k q q0 (by omega) z⟩)
      refine ⟨y', ?_, h'⟩
      rw [← e', sg_16_5]
      simp (disch := omega) only [shW hs, sF, ↓reduceIte, not_false_eq_true, not_true_eq_false, and_self, and_true, true_and, false_and, and_false, or_true, true_or, or_false, false_or, or_self, reduceCtorEq, mm_q, Option.getD_some, cI_some, cJ_some, cV_some, cS_some, kd_sI, kd_sL, kd_sR, kd_cp, ln_sI, ln_sL, ln_sR, ln_cp, gR_sI, gR_sL, gR_sR, gR_cp, gL_sI, gL_sR, gL_cp, gI_sL, gI_sR, iI_add, iI_sub, iI_mul, iI_neg, iI_in, iI_tn, iI_lt, iI_eq, Nat.reduceLeDiff, Nat.reduceEqDiff, Nat.reduceAdd, Int.reduceEq, Int.reduceLT, Int.reduceLE, Int.reduceNeg, Int.reduceAdd, Int.reduceSub, Int.reduceMul, hg, b8, q1, c2, t2]
      rw [e1, sg_16_99]
      simp (disch := omega) only [↓reduceIte, not_false_eq_true, not_true_eq_false, and_self, and_true, true_and, false_and, and_false, or_true, true_or, or_false, false_or, or_self, reduceCtorEq, mm_q, Option.getD_some, cI_some, cJ_some, cV_some, cS_some, kd_sI, kd_sL, kd_sR, kd_cp, ln_sI, ln_sL, ln_sR, ln_cp, gR_sI, gR_sL, gR_sR, gR_cp, gL_sI, gL_sR, gL_cp, gI_sL, gI_sR, iI_add, iI_sub, iI_mul, iI_neg, iI_in, iI_tn, iI_lt, iI_eq, Nat.reduceLeDiff, Nat.reduceEqDiff, Nat.reduceAdd, Int.reduceEq, Int.reduceLT, Int.reduceLE, Int.reduceNeg, Int.reduceAdd, Int.reduceSub, Int.reduceMul]
    · obtain ⟨y', e', h'⟩ := C16L hs hst hR hg hW hc hI hIB hd i0 i1 r (q + 1) y (some (.int (iI (te D (mu D q 1))))) (some (.int (iI (0)))) (by omega) (by omega) (fun a a0 a1 => by
        rw [h a a0 a1]
        constructor
        · intro k p p0 p1 pe
          by_cases v : p = q
          · rw [v] at pe; exact absurd pe z
          · exact k p p0 (by omega) pe
        · intro k p p0 p1 pe
          exact k p p0 (by omega) pe)
      refine ⟨y', ?_, h'⟩
      rw [← e', sg_16_5]
      simp (disch := omega) only [shW hs, sF, ↓reduceIte, not_false_eq_true, not_true_eq_false, and_self, and_true, true_and, false_and, and_false, or_true, true_or, or_false, false_or, or_self, reduceCtorEq, mm_q, Option.getD_some, cI_some, cJ_some, cV_some, cS_some, kd_sI, kd_sL, kd_sR, kd_cp, ln_sI, ln_sL, ln_sR, ln_cp, gR_sI, gR_sL, gR_sR, gR_cp, gL_sI, gL_sR, gL_cp, gI_sL, gI_sR, iI_add, iI_sub, iI_mul, iI_neg, iI_in, iI_tn, iI_lt, iI_eq, Nat.reduceLeDiff, Nat.reduceEqDiff, Nat.reduceAdd, Int.reduceEq, Int.reduceLT, Int.reduceLE, Int.reduceNeg, Int.reduceAdd, Int.reduceSub, Int.reduceMul, hg, b8, q1, c2, t2]
      rw [sg_16_38 (by omega)]
      simp (disch := omega) only [shW hs, sF, ↓reduceIte, not_false_eq_true, not_true_eq_false, and_self, and_true, true_and, false_and, and_false, or_true, true_or, or_false, false_or, or_self, reduceCtorEq, mm_q, Option.getD_some, cI_some, cJ_some, cV_some, cS_some, kd_sI, kd_sL, kd_sR, kd_cp, ln_sI, ln_sL, ln_sR, ln_cp, gR_sI, gR_sL, gR_sR, gR_cp, gL_sI, gL_sR, gL_cp, gI_sL, gI_sR, iI_add, iI_sub, iI_mul, iI_neg, iI_in, iI_tn, iI_lt, iI_eq, Nat.reduceLeDiff, Nat.reduceEqDiff, Nat.reduceAdd, Int.reduceEq, Int.reduceLT, Int.reduceLE, Int.reduceNeg, Int.reduceAdd, Int.reduceSub, Int.reduceMul, hg, c1, (hW i i0 i1).1, z, Int.reduceLT]
      rw [sg_16_99]
      simp (disch := omega) only [↓reduceIte, not_false_eq_true, not_true_eq_false, and_self, and_true, true_and, false_and, and_false, or_true, true_or, or_false, false_or, or_self, reduceCtorEq, mm_q, Option.getD_some, cI_some, cJ_some, cV_some, cS_some, kd_sI, kd_sL, kd_sR, kd_cp, ln_sI, ln_sL, ln_sR, ln_cp, gR_sI, gR_sL, gR_sR, gR_cp, gL_sI, gL_sR, gL_cp, gI_sL, gI_sR, iI_add, iI_sub, iI_mul, iI_neg, iI_in, iI_tn, iI_lt, iI_eq, Nat.reduceLeDiff, Nat.reduceEqDiff, Nat.reduceAdd, Int.reduceEq, Int.reduceLT, Int.reduceLE, Int.reduceNeg, Int.reduceAdd, Int.reduceSub, Int.reduceMul]
/-- lagsForMusts -/
theorem C16 (hs : Sh m) (hst : isSt s) (hR : RSt D m s) (hg : mm_gR m 184 6 = some s) (hW : ROWS D m n c) (hc : coK D n c) (hI : InvS D) (hIB : InvB D (sa D)) (hd : 1 ≤ d) {i : Int} (i0 : 0 ≤ i) (i1 : i < n) : ∃ y', mm_ev d 16 0 [some (.ref 184), (some (.int (iI (i)))), none, none, none, none] [] m = some (some (some (.int (y'))), m) ∧ ∀ a, 0 ≤ a → a < 24 → bi y' a = hoW D (c i) a := by
  have q7 := hI.2.2.2.2.2.2.1
  obtain ⟨y', e', h'⟩ := C16L (d := d) hs hst hR hg hW hc hI hIB hd i0 i1 (st D 7).toNat 0 (iI 16777215) none none (by omega) (by omega) (fun a a0 a1 => by
    have := bi_all ⟨a.toNat, by omega⟩
    simp only at this
    rw [show ((a.toNat : Nat) : Int) = a by omega] at this
    rw [this]
    exact ⟨fun _ p p0 p1 => by omega, fun _ => rfl⟩)
  refine ⟨y', ?_, fun a a0 a1 => ?_⟩
  · rw [← e', sg_16_0]
  · apply Bool.eq_iff_iff.mpr
    rw [h' a a0 a1, ho_t q7.1]
end
