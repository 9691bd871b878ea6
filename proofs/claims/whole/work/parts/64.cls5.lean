section
variable {D : Nat → Nat → Int32} {m m' m'' : mm_M} {d s W L a n : Nat} {B : Int → Int} {take : Int} {late : Bool}
theorem bt0 {c : Int} : bt (lI 0) c = false := by
  unfold bt
  rw [show (lI 0).toBitVec = 0#64 from rfl]
  simp
/-- Walks.bumpsAt -/
theorem C95 (hs : Sh m) (hst : isSt s) (hW : isW W) (hR : RSt D m s) (hw : RW D m s W B (B 0) true) (hI : InvS D) (hB : InvB D B) (hd : 3 ≤ d) {t : Int} (t0 : 0 ≤ t) (t1 : t ≤ 600) : ∃ m' r, mm_ev d 95 0 [some (.ref W), some (.int (iI (t))), none, none, none, none, none] [] m = some (some (some (.int (iI (bI r)))), m') ∧ Fr (scT W) m m' ∧ (r = true ↔ BumpT D B 0 t) := by
  have wf := wF hs hW
  obtain ⟨k0, k1⟩ := hI.2.2.2.2.2.1
  obtain ⟨m1, e1, u1⟩ := C281 (d := d - 1) (v := lI 0) wf.2.2.2.2.2.2.2.1 wf.2.2.2.2.2.2.2.2.1 (by omega)
  have f1 : Fr (scT W) m m1 := ⟨u1.1, u1.2.1, u1.2.2.1, fun x q z => ⟨u1.2.2.2.1 x q, by
    rw [u1.2.2.2.2]
    dsimp only
    rw [if_neg]
    rintro ⟨rfl, -⟩
    unfold scT at z
    rw [Nat.beq_refl] at z
    cases z⟩⟩
  obtain ⟨m', r, e2, f2, c2⟩ := C95L hst hW hI hB hd t0 t1 (st D 6).toNat 0 (fun _ => lI 0) none none none m1 (by omega) (by omega) (f1.sh hs) (hR.fT hst hW f1 k1) (hw.fT hW f1) (fun l l0 l1 => by
    rw [u1.2.2.2.2]
    dsimp only
    rw [if_pos ⟨rfl, by omega⟩]) (fun l c _ _ _ _ => by
    rw [bt0]
    constructor
    · intro h; cases h
    · rintro ⟨e, p1, p2, -⟩; omega)
  refine ⟨m', r, ?_, f1.tr f2, c2⟩
  rw [sg_95_0 (by omega)]
  simp (disch := omega) only [wf, ↓reduceIte, not_false_eq_true, not_true_eq_false, and_self, and_true, true_and, false_and, and_false, or_true, true_or, or_false, false_or, or_self, reduceCtorEq, mm_q, Option.getD_some, cI_some, cJ_some, cV_some, cS_some, kd_sI, kd_sL, kd_sR, kd_cp, ln_sI, ln_sL, ln_sR, ln_cp, gR_sI, gR_sL, gR_sR, gR_cp, gL_sI, gL_sR, gL_cp, gI_sL, gI_sR, iI_add, iI_sub, iI_mul, iI_neg, iI_in, iI_tn, iI_lt, iI_eq, Nat.reduceLeDiff, Nat.reduceEqDiff, Nat.reduceAdd, Int.reduceEq, Int.reduceLT, Int.reduceLE, Int.reduceNeg, Int.reduceAdd, Int.reduceSub, Int.reduceMul, e1]
  exact e2
/-- Walks.anyBump -/
theorem C94L (hst : isSt s) (hW : isW W) (hI : InvS D) (hB : InvB D B) (hd : 4 ≤ d) : ∀ (k : Nat) (t : Int) (m : mm_M), t = 601 - k → 0 ≤ t → Sh m → RSt D m s → RW D m s W B (B 0) true → ∃ m' r, mm_ev d 94 2 [some (.ref W), some (.int (iI (t)))] [] m = some (some (some (.int (iI (bI r)))), m') ∧ Fr (scT W) m m' ∧ (r = true ↔ ∃ x, t ≤ x ∧ x ≤ 600 ∧ BumpT D B 0 x)
  | 0, t, m, ht, t0, hs, hR, hw => by
    refine ⟨m, false, ?_, Fr.rf, ?_⟩
    · rw [sg_94_2 (by omega)]
      simp (disch := omega) only [↓reduceIte, not_false_eq_true, not_true_eq_false, and_self, and_true, true_and, false_and, and_false, or_true, true_or, or_false, false_or, or_self, reduceCtorEq, mm_q, Option.getD_some, cI_some, cJ_some, cV_some, cS_some, kd_sI, kd_sL, kd_sR, kd_cp, ln_sI, ln_sL, ln_sR, ln_cp, gR_sI, gR_sL, gR_sR, gR_cp, gL_sI, gL_sR, gL_cp, gI_sL, gI_sR, iI_add, iI_sub, iI_mul, iI_neg, iI_in, iI_tn, iI_lt, iI_eq, Nat.reduceLeDiff, Nat.reduceEqDiff, Nat.reduceAdd, Int.reduceEq, Int.reduceLT, Int.reduceLE, Int.reduceNeg, Int.reduceAdd, Int.reduceSub, Int.reduceMul, bI_t, bI_f, decide_true, decide_false, Bool.and_true, Bool.and_false, Bool.true_and, Bool.false_and, Bool.false_eq_true, Bool.and_self, Bool.not_true, Bool.not_false, Bool.true_or, Bool.false_or, Bool.or_true, Bool.or_false, show 600 < t by omega]
    · constructor
      · intro h; cases h
      · rintro ⟨x, a, b, -⟩; omega
  | k + 1, t, m, ht, t0, hs, hR, hw => by
    obtain ⟨k0, k1⟩ := hI.2.2.2.2.2.1
    have wf := wF hs hW
    obtain ⟨m1, r1, e1, f1, c1⟩ := C95 (d := d - 1) hs hst hW hR hw hI hB (by omega) t0 (show t ≤ 600 by omega)
    rw [sg_94_2 (by omega)]
    cases r1
    · obtain ⟨m', r, e2, f2, c2⟩ := C94L hst hW hI hB hd k (t + 1) m1 (by omega) (by omega) (f1.sh hs) (hR.fT hst hW f1 k1) (hw.fT hW f1)
      refine ⟨m', r, ?_, f1.tr f2, ?_⟩
      · rw [bI_f] at e1
        simp (disch := omega) only [wf, ↓reduceIte, not_false_eq_true, not_true_eq_false, and_self, and_true, true_and, false_and, and_false, or_true, true_or, or_false, false_or, or_self, reduceCtorEq, mm_q, Option.getD_some, cI_some, cJ_some, cV_some, cS_some, kd_sI, kd_sL, kd_sR, kd_cp, ln_sI, ln_sL, ln_sR, ln_cp, gR_sI, gR_sL, gR_sR, gR_cp, gL_sI, gL_sR, gL_cp, gI_sL, gI_sR, iI_add, iI_sub, iI_mul, iI_neg, iI_in, iI_tn, iI_lt, iI_eq, Nat.reduceLeDiff, Nat.reduceEqDiff, Nat.reduceAdd, Int.reduceEq, Int.reduceLT, Int.reduceLE, Int.reduceNeg, Int.reduceAdd, Int.reduceSub, Int.reduceMul, show ¬ 600 < t by omega, e1]
        exact e2
      · rw [c2]
        constructor
        · rintro ⟨x, p, q⟩; exact ⟨x, by omega, q⟩
        · rintro ⟨x, p, q, u⟩
          by_cases y : x = t
          · rw [y] at u
            exact absurd (c1.mpr u) (by decide)
          · exact ⟨x, by omega, q, u⟩
    · refine ⟨m1, true, ?_, f1, ⟨fun _ => ⟨t, by omega, by omega, c1.mp rfl⟩, fun _ => rfl⟩⟩
      rw [bI_t] at e1
      simp (disch := omega) only [wf, ↓reduceIte, not_false_eq_true, not_true_eq_false, and_self, and_true, true_and, false_and, and_false, or_true, true_or, or_false, false_or, or_self, reduceCtorEq, mm_q, Option.getD_some, cI_some, cJ_some, cV_some, cS_some, kd_sI, kd_sL, kd_sR, kd_cp, ln_sI, ln_sL, ln_sR, ln_cp, gR_sI, gR_sL, gR_sR, gR_cp, gL_sI, gL_sR, gL_cp, gI_sL, gI_sR, iI_add, iI_sub, iI_mul, iI_neg, iI_in, iI_tn, iI_lt, iI_eq, Nat.reduceLeDiff, Nat.reduceEqDiff, Nat.reduceAdd, Int.reduceEq, Int.reduceLT, Int.reduceLE, Int.reduceNeg, Int.reduceAdd, Int.reduceSub, Int.reduceMul, bI_t, bI_f, decide_true, decide_false, Bool.and_true, Bool.and_false, Bool.true_and, Bool.false_and, Bool.false_eq_true, Bool.and_self, Bool.not_true, Bool.not_false, Bool.true_or, Bool.false_or, Bool.or_true, Bool.or_false, show ¬ 600 < t by omega, e1]
theorem bump_e (hI : InvS D) : (∀ w e : Int, 0 ≤ e → e < w → w < st D 6 → bumpB D B e w < 0) ↔ ¬ ∃ x, 0 ≤ x ∧ x ≤ 600 ∧ BumpT D B 0 x := by
  constructor
  · rintro h ⟨t, t0, t1, x, e, p1, p2, p3, p4, p5, p6⟩
    have := h x e p3 p4 p2
    unfold bumpB at this
    rw [if_pos p5, firstGo_n _ _ _ (by omega)] at this
    have := this t t0 (by omega)
    rw [p6] at this
    cases this
  · intro h w e e0 e1 w1
    unfold bumpB
    split
    · next z =>
      rw [firstGo_n _ _ _ (by omega)]
      intro i i0 i1
      cases y : bumpsB D B e w i
      · rfl
      · exact absurd ⟨i, i0, by omega, w, e, by omega, w1, e0, e1, z, y⟩ h
    · omega
/-- Walks.isGood -/
theorem C94 (hs : Sh m) (hst : isSt s) (hW : isW W) (hR : RSt D m s) (hw : RW D m s W B (B 0) true) (hI : InvS D) (hB : InvB D B) (hd : 4 ≤ d) : ∃ m' r, mm_ev d 94 0 [some (.ref W), none] [] m = some (some (some (.int (iI (bI r)))), m') ∧ Fr (scT W) m m' ∧ (r = true ↔ ∃ x, 0 ≤ x ∧ x ≤ 600 ∧ BumpT D B 0 x) := by
  obtain ⟨m', r, e, q⟩ := C94L hst hW hI hB hd 601 0 m (by omega) (by omega) hs hR hw
  exact ⟨m', r, by rw [sg_94_0]; exact e, q⟩
theorem C91 (hs : Sh m) (hst : isSt s) (hW : isW W) (hR : RSt D m s) (hw : RW D m s W B (B 0) true) (hI : InvS D) (hB : InvB D B) (hd : 5 ≤ d) : ∃ m', mm_ev d 91 0 [some (.ref W)] [] m = some (some (some (.int (iI (bI (goodS D B))))), m') ∧ Fr (scT W) m m' := by
  have wf := wF hs hW
  have mr := missedB_r hI (B := B)
  rw [sg_91_0 (by omega)]
  simp (disch := omega) only [wf, ↓reduceIte, not_false_eq_true, not_true_eq_false, and_self, and_true, true_and, false_and, and_false, or_true, true_or, or_false, false_or, or_self, reduceCtorEq, mm_q, Option.getD_some, cI_some, cJ_some, cV_some, cS_some, kd_sI, kd_sL, kd_sR, kd_cp, ln_sI, ln_sL, ln_sR, ln_cp, gR_sI, gR_sL, gR_sR, gR_cp, gL_sI, gL_sR, gL_cp, gI_sL, gI_sR, iI_add, iI_sub, iI_mul, iI_neg, iI_in, iI_tn, iI_lt, iI_eq, Nat.reduceLeDiff, Nat.reduceEqDiff, Nat.reduceAdd, Int.reduceEq, Int.reduceLT, Int.reduceLE, Int.reduceNeg, Int.reduceAdd, Int.reduceSub, Int.reduceMul, C92 hs hst hW hR hw hI hB (d := d - 1) (by omega)]
  rw [sg_91_4 (by omega)]
  by_cases z : missedB D B = 0
  · obtain ⟨m', r, e1, f1, c1⟩ := C94 (d := d - 1) hs hst hW hR hw hI hB (by omega)
    have g : (!r) = goodS D B := good_b (by
      unfold GoodB
      rw [bump_e hI, ← c1]
      cases r <;> simp [z])
    refine ⟨m', ?_, f1⟩
    rw [← g]
    cases r <;> simp (disch := omega) only [wf, ↓reduceIte, not_false_eq_true, not_true_eq_false, and_self, and_true, true_and, false_and, and_false, or_true, true_or, or_false, false_or, or_self, reduceCtorEq, mm_q, Option.getD_some, cI_some, cJ_some, cV_some, cS_some, kd_sI, kd_sL, kd_sR, kd_cp, ln_sI, ln_sL, ln_sR, ln_cp, gR_sI, gR_sL, gR_sR, gR_cp, gL_sI, gL_sR, gL_cp, gI_sL, gI_sR, iI_add, iI_sub, iI_mul, iI_neg, iI_in, iI_tn, iI_lt, iI_eq, Nat.reduceLeDiff, Nat.reduceEqDiff, Nat.reduceAdd, Int.reduceEq, Int.reduceLT, Int.reduceLE, Int.reduceNeg, Int.reduceAdd, Int.reduceSub, Int.reduceMul, bI_t, bI_f, decide_true, decide_false, Bool.and_true, Bool.and_false, Bool.true_and, Bool.false_and, Bool.false_eq_true, Bool.and_self, Bool.not_true, Bool.not_false, Bool.true_or, Bool.false_or, Bool.or_true, Bool.or_false, z] at e1 ⊢ <;> simp (disch := omega) only [e1, ↓reduceIte, not_false_eq_true, not_true_eq_false, and_self, and_true, true_and, false_and, and_false, or_true, true_or, or_false, false_or, or_self, reduceCtorEq, mm_q, Option.getD_some, cI_some, cJ_some, cV_some, cS_some, kd_sI, kd_sL, kd_sR, kd_cp, ln_sI, ln_sL, ln_sR, ln_cp, gR_sI, gR_sL, gR_sR, gR_cp, gL_sI, gL_sR, gL_cp, gI_sL, gI_sR, iI_add, iI_sub, iI_mul, iI_neg, iI_in, iI_tn, iI_lt, iI_eq, Nat.reduceLeDiff, Nat.reduceEqDiff, Nat.reduceAdd, Int.reduceEq, Int.reduceLT, Int.reduceLE, Int.reduceNeg, Int.reduceAdd, Int.reduceSub, Int.reduceMul]
  · have g : false = goodS D B := good_b (by
      unfold GoodB
      simp [z])
    refine ⟨m, ?_, Fr.rf⟩
    rw [← g]
    simp (disch := omega) only [↓reduceIte, not_false_eq_true, not_true_eq_false, and_self, and_true, true_and, false_and, and_false, or_true, true_or, or_false, false_or, or_self, reduceCtorEq, mm_q, Option.getD_some, cI_some, cJ_some, cV_some, cS_some, kd_sI, kd_sL, kd_sR, kd_cp, ln_sI, ln_sL, ln_sR, ln_cp, gR_sI, gR_sL, gR_sR, gR_cp, gL_sI, gL_sR, gL_cp, gI_sL, gI_sR, iI_add, iI_sub, iI_mul, iI_neg, iI_in, iI_tn, iI_lt, iI_eq, Nat.reduceLeDiff, Nat.reduceEqDiff, Nat.reduceAdd, Int.reduceEq, Int.reduceLT, Int.reduceLE, Int.reduceNeg, Int.reduceAdd, Int.reduceSub, Int.reduceMul, bI_t, bI_f, decide_true, decide_false, Bool.and_true, Bool.and_false, Bool.true_and, Bool.false_and, Bool.false_eq_true, Bool.and_self, Bool.not_true, Bool.not_false, Bool.true_or, Bool.false_or, Bool.or_true, Bool.or_false, z]
end
def hsL : List Nat := [155, 159, 212, 216, 220, 224, 228, 232, 236, 240, 244, 248, 252, 256, 260, 264, 268, 272, 276, 286, 296, 306]
theorem hsK : ∀ H ∈ hsL, mm_k0 H = 1 ∧ mm_k0 (H + 1) = 20 ∧ mm_l0 (H + 1) = 8 ∧ mm_k0 (H + 2) = 20 ∧ mm_l0 (H + 2) = 8 ∧ mm_k0 (H + 3) = 20 ∧ mm_l0 (H + 3) = 8 ∧ mm_R0 H 1 = some (H + 1) ∧ mm_R0 H 2 = some (H + 2) ∧ mm_R0 H 3 = some (H + 3) ∧ mm_swp H 1 = false ∧ mm_swp H 2 = false ∧ mm_swp H 3 = false ∧ 100 ≤ H := by decide
/-- hands as the class holds them -/
def HD (D : Nat → Nat → Int32) (m : mm_M) (H : Nat) (B : Int → Int) : Prop := ∀ w, 0 ≤ w → w < st D 6 → mm_gI m (H + 1) w.toNat = iI (B (1 + w)) ∧ mm_gI m (H + 2) w.toNat = iI (B (9 + w)) ∧ mm_gI m (H + 3) w.toNat = iI (B (17 + w))
def scW (W a k : Nat) : Bool := Nat.beq a (W + 1) || Nat.beq a (W + 2) || Nat.beq a (W + 3) || Nat.beq a (W + 5) || scK a k
def FW (W : Nat) (m m' : mm_M) : Prop := m'.1 = m.1 ∧ m'.2.1 = m.2.1 ∧ (∀ a k, ¬ (a = W ∧ k = 4) → mm_gR m' a k = mm_gR m a k) ∧ (∀ a k, scW W a k = false → mm_gI m' a k = mm_gI m a k) ∧ (∀ a k, scK a k = false → mm_gL m' a k = mm_gL m a k)
section
variable {D : Nat → Nat → Int32} {m m' m'' : mm_M} {d s W L H n : Nat} {B : Int → Int} {take : Int} {late : Bool}
theorem hF (h : Sh m) (hH : H ∈ hsL) : mm_kd m H = 1 ∧ mm_kd m (H + 1) = 20 ∧ mm_ln m (H + 1) = 8 ∧ mm_kd m (H + 2) = 20 ∧ mm_ln m (H + 2) = 8 ∧ mm_kd m (H + 3) = 20 ∧ mm_ln m (H + 3) = 8 ∧ mm_gR m H 1 = some (H + 1) ∧ mm_gR m H 2 = some (H + 2) ∧ mm_gR m H 3 = some (H + 3) ∧ 100 ≤ H + 1 ∧ 100 ≤ H + 2 ∧ 100 ≤ H + 3 := by
  obtain ⟨a, b, c, d, e, f, g, i, j, k, l, n, o, p⟩ := hsK H hH
  exact ⟨(h.kd p).trans a, (h.kd (by omega)).trans b, (h.ln (by omega)).trans c, (h.kd (by omega)).trans d, (h.ln (by omega)).trans e, (h.kd (by omega)).trans f, (h.ln (by omega)).trans g, (h.2 _ _ p l).trans i, (h.2 _ _ p n).trans j, (h.2 _ _ p o).trans k, by omega, by omega, by omega⟩
theorem FW.tr (h : FW W m m') (h' : FW W m' m'') : FW W m m'' := ⟨h'.1.trans h.1, h'.2.1.trans h.2.1, fun a k z => (h'.2.2.1 a k z).trans (h.2.2.1 a k z), fun a k z => (h'.2.2.2.1 a k z).trans (h.2.2.2.1 a k z), fun a k z => (h'.2.2.2.2 a k z).trans (h.2.2.2.2 a k z)⟩
theorem swp4 (hW : isW W) {a k : Nat} (h : mm_swp a k = false) : ¬ (a = W ∧ k = 4) := by
  rintro ⟨rfl, rfl⟩
  rcases hW with rfl | rfl <;> exact absurd h (by decide)
theorem FW.sh (h : FW W m m') (hW : isW W) (s : Sh m) : Sh m' := ⟨h.1.trans s.1, fun a k h1 h2 => (h.2.2.1 a k (swp4 hW h2)).trans (s.2 a k h1 h2)⟩
theorem scW_e {a k : Nat} (h1 : ¬ a = W + 1) (h2 : ¬ a = W + 2) (h3 : ¬ a = W + 3) (h5 : ¬ a = W + 5) (hk : scK a k = false) : scW W a k = false := by
  have n : ∀ x : Nat, ¬ a = x → Nat.beq a x = false := fun x hx => by
    cases e : Nat.beq a x
    · rfl
    · exact absurd (Nat.eq_of_beq_eq_true e) hx
  unfold scW
  rw [n _ h1, n _ h2, n _ h3, n _ h5, hk]
  rfl
theorem scK_n {a k : Nat} (h1 : ¬ a = 113) (h2 : ¬ a = 116) (h3 : ¬ a = 134) (h4 : ¬ a = 137) : scK a k = false := by
  have n : ∀ x : Nat, ¬ a = x → Nat.beq a x = false := fun x hx => by
    cases e : Nat.beq a x
    · rfl
    · exact absurd (Nat.eq_of_beq_eq_true e) hx
  unfold scK
  rw [n _ h1, n _ h2, n _ h3, n _ h4]
  rfl
theorem FW.sI {a k : Nat} {v : Int32} (ha : a = W + 1 ∨ a = W + 2 ∨ a = W + 3 ∨ a = W + 5) : FW W m (mm_sI m a k v) := ⟨rfl, rfl, fun _ _ _ => rfl, fun b j z => by
  rw [gI_sI, if_neg]
  rintro ⟨rfl, rfl⟩
  unfold scW at z
  rcases ha with rfl | rfl | rfl | rfl <;> simp at z, fun _ _ _ => rfl⟩
theorem FW.K (h : Fr scK m m') : FW W m m' := ⟨h.1, h.2.1, fun a k _ => h.2.2.1 a k, fun a k z => h.gI (by
  unfold scW at z
  simp only [Bool.or_eq_false_iff] at z
  exact z.2), fun a k z => h.gL z⟩
end
