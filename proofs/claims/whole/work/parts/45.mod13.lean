/-- the model's own cells -/
def scA (a _k : Nat) : Bool := Nat.ble 316 a && Nat.ble a 342
def up (D : Nat → Nat → Int32) (a k : Nat) (v : Int32) : Nat → Nat → Int32 := fun b j => if b = a ∧ j = k then v else D b j
/-- m' is m but for its ints, which are F -/
def Upd (m m' : mm_M) (F : Nat → Nat → Int32) : Prop := m'.1 = m.1 ∧ m'.2.1 = m.2.1 ∧ (∀ a k, mm_gR m' a k = mm_gR m a k) ∧ (∀ a k, mm_gL m' a k = mm_gL m a k) ∧ (∀ a k, mm_gI m' a k = F a k)
def cpD (D : Nat → Nat → Int32) (f t n : Nat) : Nat → Nat → Int32 := fun a k => if a = 332 ∧ t ≤ k ∧ k < t + n then D 332 (k - t + f) else D a k
def und (D : Nat → Nat → Int32) : Int := (D 316 26).toInt
def keepD (D : Nat → Nat → Int32) : Nat → Nat → Int32 := fun a k => if a = 316 ∧ k = 26 then iI (if und D = 16 then 16 else und D + 1) else if a = 332 ∧ 400 ≤ k ∧ (k - 400) % 80 < 25 then (if und D = 16 then (if k < 1600 then D 332 (k + 80) else if k < 1680 then D 332 ((k - 400) % 80) else D a k) else if (k - 400) / 80 = (und D).toNat then D 332 ((k - 400) % 80) else D a k) else D a k
def nextD (D : Nat → Nat → Int32) (b : Nat) : Nat → Nat → Int32 := fun a k => if a = 332 ∧ k = b then D 332 b + iI 1 else if a = 332 ∧ b + 17 ≤ k ∧ k < b + 25 then iI 0 else D a k
def beginD (D : Nat → Nat → Int32) (b : Nat) : Nat → Nat → Int32 := fun a k => if a = 332 ∧ k = b then iI 0 else if a = 332 ∧ b + 1 ≤ k ∧ k < b + 9 then D 322 (19 + 7 * (k - b - 1)) else if a = 332 ∧ b + 9 ≤ k ∧ k < b + 17 then D 322 (20 + 7 * (k - b - 9)) else if a = 332 ∧ b + 17 ≤ k ∧ k < b + 25 then iI 0 else D a k
section
variable {D : Nat → Nat → Int32} {E : Nat → Nat → Int64} {m m' m'' : mm_M} {d : Nat} {F G : Nat → Nat → Int32} {P : Nat → Nat → Bool}
theorem Fr.MA (h : Fr scM m m') : Fr scA m m' := h.mono (fun a k z => by
  unfold scM; unfold scA at z; rw [z]; rfl)
theorem Upd.sh (h : Upd m m' F) (s : Sh m) : Sh m' := ⟨h.1.trans s.1, fun a k h1 h2 => (h.2.2.1 a k).trans (s.2 a k h1 h2)⟩
theorem Upd.fr (h : Upd m m' F) (z : ∀ a k, P a k = false → F a k = mm_gI m a k) : Fr P m m' := ⟨h.1, h.2.1, h.2.2.1, fun a k p => ⟨(h.2.2.2.2 a k).trans (z a k p), h.2.2.2.1 a k⟩⟩
theorem Upd.rf : Upd m m (mm_gI m) := ⟨rfl, rfl, fun _ _ => rfl, fun _ _ => rfl, fun _ _ => rfl⟩
theorem Upd.sI {a k : Nat} {v : Int32} : Upd m (mm_sI m a k v) (up (mm_gI m) a k v) := ⟨rfl, rfl, fun _ _ => rfl, fun _ _ => rfl, fun _ _ => rfl⟩
theorem Upd.tr (h : Upd m m' F) (h' : Upd m' m'' G) : Upd m m'' G := ⟨h'.1.trans h.1, h'.2.1.trans h.2.1, fun a k => (h'.2.2.1 a k).trans (h.2.2.1 a k), fun a k => (h'.2.2.2.1 a k).trans (h.2.2.2.1 a k), h'.2.2.2.2⟩
theorem Upd.cg (h : Upd m m' F) (e : ∀ a k, F a k = G a k) : Upd m m' G := ⟨h.1, h.2.1, h.2.2.1, h.2.2.2.1, fun a k => (h.2.2.2.2 a k).trans (e a k)⟩
theorem MD.ud (h : MD D E m) (u : Upd m m' F) (z : ∀ a k, pmI a k = true → F a k = G a k) : MD G E m' := ⟨u.sh h.1, fun a k p => (u.2.2.2.2 a k).trans (z a k p), fun a k p => (u.2.2.2.1 a k).trans (h.2.2 a k p)⟩
theorem MD.sI (h : MD D E m) {a k : Nat} {v : Int32} : MD (up D a k v) E (mm_sI m a k v) := h.ud Upd.sI (fun b j p => by
  unfold up
  split
  · rfl
  · exact h.2.1 b j p)
/-- copies -/
theorem M219L (hs : Sh m) {f t n : Nat} (f1 : f + n ≤ 1840) (t1 : t + n ≤ 1840) (ov : f + n ≤ t ∨ t + n ≤ f) : ∀ (k j : Nat) (m1 : mm_M), j + k = n → Upd m m1 (cpD (mm_gI m) f t j) → ∃ m', mm_ev d 219 3 [some (.ref 316), some (.int (iI ((f : Int)))), some (.int (iI ((t : Int)))), some (.int (iI ((n : Int)))), some (.int (iI ((j : Int))))] [] m1 = some (some none, m') ∧ Upd m m' (cpD (mm_gI m) f t n)
  | 0, j, m1, hj, hu => by
    refine ⟨m1, ?_, ?_⟩
    · rw [sg_219_3]
      simp (disch := omega) only [↓reduceIte, not_false_eq_true, not_true_eq_false, and_self, and_true, true_and, false_and, and_false, or_true, true_or, or_false, false_or, or_self, reduceCtorEq, mm_q, Option.getD_some, cI_some, cJ_some, cV_some, cS_some, kd_sI, kd_sL, kd_sR, kd_cp, ln_sI, ln_sL, ln_sR, ln_cp, gR_sI, gR_sL, gR_sR, gR_cp, gL_sI, gL_sR, gL_cp, gI_sL, gI_sR, iI_add, iI_sub, iI_mul, iI_neg, iI_in, iI_tn, iI_lt, iI_eq, Nat.reduceLeDiff, Nat.reduceEqDiff, Nat.reduceAdd, Int.reduceEq, Int.reduceLT, Int.reduceLE, Int.reduceNeg, Int.reduceAdd, Int.reduceSub, Int.reduceMul, show ¬ (j : Int) < (n : Int) by omega]
    · rw [show n = j by omega]
      exact hu
  | k + 1, j, m1, hj, hu => by
    have hs1 := hu.sh hs
    have e1 : ((f : Int) + (j : Int)).toNat = f + j := by omega
    have e2 : ((t : Int) + (j : Int)).toNat = t + j := by omega
    have u2 : Upd m (mm_sI m1 332 (t + j) (mm_gI m1 332 (f + j))) (cpD (mm_gI m) f t (j + 1)) := (hu.tr Upd.sI).cg (fun a q => by
      unfold up
      rw [hu.2.2.2.2 332 (f + j), hu.2.2.2.2 a q]
      unfold cpD
      by_cases z : a = 332 ∧ q = t + j
      · rw [if_pos z, if_neg (by omega), if_pos (by omega), z.2, show t + j - t + f = f + j by omega]
      · rw [if_neg z]
        by_cases z2 : a = 332 ∧ t ≤ q ∧ q < t + j
        · rw [if_pos z2, if_pos (by omega)]
        · rw [if_neg z2, if_neg (by omega)])
    obtain ⟨m', e3, u3⟩ := M219L hs f1 t1 ov k (j + 1) _ (by omega) u2
    refine ⟨m', ?_, u3⟩
    rw [sg_219_3]
    rw [show ((j + 1 : Nat) : Int) = (j : Int) + 1 by omega] at e3
    simp (disch := omega) only [shM hs1, ↓reduceIte, not_false_eq_true, not_true_eq_false, and_self, and_true, true_and, false_and, and_false, or_true, true_or, or_false, false_or, or_self, reduceCtorEq, mm_q, Option.getD_some, cI_some, cJ_some, cV_some, cS_some, kd_sI, kd_sL, kd_sR, kd_cp, ln_sI, ln_sL, ln_sR, ln_cp, gR_sI, gR_sL, gR_sR, gR_cp, gL_sI, gL_sR, gL_cp, gI_sL, gI_sR, iI_add, iI_sub, iI_mul, iI_neg, iI_in, iI_tn, iI_lt, iI_eq, Nat.reduceLeDiff, Nat.reduceEqDiff, Nat.reduceAdd, Int.reduceEq, Int.reduceLT, Int.reduceLE, Int.reduceNeg, Int.reduceAdd, Int.reduceSub, Int.reduceMul, show (j : Int) < (n : Int) by omega, e1, e2]
    exact e3
theorem M219 (hs : Sh m) {f t n : Nat} (f1 : f + n ≤ 1840) (t1 : t + n ≤ 1840) (ov : f + n ≤ t ∨ t + n ≤ f) : ∃ m', mm_ev d 219 0 [some (.ref 316), some (.int (iI ((f : Int)))), some (.int (iI ((t : Int)))), some (.int (iI ((n : Int)))), none] [] m = some (some none, m') ∧ Upd m m' (cpD (mm_gI m) f t n) := by
  obtain ⟨m', e1, u1⟩ := M219L (d := d) hs f1 t1 ov n 0 m (by omega) (Upd.rf.cg (fun a q => by
    unfold cpD
    rw [if_neg (by omega)]))
  refine ⟨m', ?_, u1⟩
  rw [sg_219_0]
  exact e1
/-- keeps' loop -/
theorem M218L (hs : Sh m) (hd : 1 ≤ d) (hu : mm_gI m 316 26 = iI 16) : ∀ (k j : Nat) (m1 : mm_M), j + k = 16 → 1 ≤ j → Upd m m1 (fun a q => if a = 332 ∧ 400 ≤ q ∧ (q - 400) % 80 < 25 ∧ (q - 400) / 80 < j - 1 then mm_gI m 332 (q + 80) else mm_gI m a q) → ∃ m', mm_ev d 218 11 [some (.ref 316), some (.int (iI ((j : Int))))] [] m1 = mm_ev d 218 53 [some (.ref 316), some (.int (iI (16)))] [] m' ∧ Upd m m' (fun a q => if a = 316 ∧ q = 26 then iI 15 else if a = 332 ∧ 400 ≤ q ∧ (q - 400) % 80 < 25 ∧ (q - 400) / 80 < 15 then mm_gI m 332 (q + 80) else mm_gI m a q)
  | 0, j, m1, hj, j0, u1 => by
    have hs1 := u1.sh hs
    have e1 : mm_gI m1 316 26 = iI 16 := by rw [u1.2.2.2.2]; dsimp only; rw [if_neg (by omega), hu]
    refine ⟨mm_sI m1 316 26 (iI 15), ?_, (u1.tr Upd.sI).cg (fun a q => ?_)⟩
    · rw [sg_218_11 (by omega), show j = 16 by omega]
      simp (disch := omega) only [shM hs1, ↓reduceIte, not_false_eq_true, not_true_eq_false, and_self, and_true, true_and, false_and, and_false, or_true, true_or, or_false, false_or, or_self, reduceCtorEq, mm_q, Option.getD_some, cI_some, cJ_some, cV_some, cS_some, kd_sI, kd_sL, kd_sR, kd_cp, ln_sI, ln_sL, ln_sR, ln_cp, gR_sI, gR_sL, gR_sR, gR_cp, gL_sI, gL_sR, gL_cp, gI_sL, gI_sR, iI_add, iI_sub, iI_mul, iI_neg, iI_in, iI_tn, iI_lt, iI_eq, Nat.reduceLeDiff, Nat.reduceEqDiff, Nat.reduceAdd, Int.reduceEq, Int.reduceLT, Int.reduceLE, Int.reduceNeg, Int.reduceAdd, Int.reduceSub, Int.reduceMul, e1, show ((16 : Nat) : Int) = 16 from rfl, Int.lt_irrefl]
    · unfold up
      rw [u1.2.2.2.2 a q]
      dsimp only
      rw [show j - 1 = 15 by omega]
  | k + 1, j, m1, hj, j0, u1 => by
    have hs1 := u1.sh hs
    obtain ⟨m2, e2, u2⟩ := M219 (d := d - 1) hs1 (f := 80 * (5 + j)) (t := 80 * (4 + j)) (n := 25) (by omega) (by omega) (by omega)
    have u3 := (u1.tr u2).cg (G := fun a q => if a = 332 ∧ 400 ≤ q ∧ (q - 400) % 80 < 25 ∧ (q - 400) / 80 < (j + 1) - 1 then mm_gI m 332 (q + 80) else mm_gI m a q) (fun a q => by
      unfold cpD
      by_cases z : a = 332 ∧ 80 * (4 + j) ≤ q ∧ q < 80 * (4 + j) + 25
      · rw [if_pos z, u1.2.2.2.2]; dsimp only; rw [if_neg (by omega), if_pos (by omega), show q - 80 * (4 + j) + 80 * (5 + j) = q + 80 by omega]
      · rw [if_neg z, u1.2.2.2.2]
        dsimp only
        by_cases z2 : a = 332 ∧ 400 ≤ q ∧ (q - 400) % 80 < 25 ∧ (q - 400) / 80 < j - 1
        · rw [if_pos z2, if_pos (by omega)]
        · rw [if_neg z2, if_neg (by omega)])
    obtain ⟨m', e4, u4⟩ := M218L hs hd hu k (j + 1) m2 (by omega) (by omega) u3
    refine ⟨m', ?_, u4⟩
    rw [sg_218_11 (by omega)]
    rw [show ((80 * (5 + j) : Nat) : Int) = 80 * (5 + (j : Int)) by omega, show ((80 * (4 + j) : Nat) : Int) = 80 * (5 + (j : Int) - 1) by omega, show ((25 : Nat) : Int) = 25 from rfl] at e2
    rw [show ((j + 1 : Nat) : Int) = (j : Int) + 1 by omega] at e4
    simp (disch := omega) only [shM hs1, ↓reduceIte, not_false_eq_true, not_true_eq_false, and_self, and_true, true_and, false_and, and_false, or_true, true_or, or_false, false_or, or_self, reduceCtorEq, mm_q, Option.getD_some, cI_some, cJ_some, cV_some, cS_some, kd_sI, kd_sL, kd_sR, kd_cp, ln_sI, ln_sL, ln_sR, ln_cp, gR_sI, gR_sL, gR_sR, gR_cp, gL_sI, gL_sR, gL_cp, gI_sL, gI_sR, iI_add, iI_sub, iI_mul, iI_neg, iI_in, iI_tn, iI_lt, iI_eq, Nat.reduceLeDiff, Nat.reduceEqDiff, Nat.reduceAdd, Int.reduceEq, Int.reduceLT, Int.reduceLE, Int.reduceNeg, Int.reduceAdd, Int.reduceSub, Int.reduceMul, show (j : Int) < 16 by omega, e2]
    exact e4
/-- keeps -/
theorem M218 (hs : Sh m) (hd : 1 ≤ d) (u0 : 0 ≤ und (mm_gI m)) (u1 : und (mm_gI m) ≤ 16) : ∃ m', mm_ev d 218 0 [some (.ref 316), none] [] m = some (some none, m') ∧ Upd m m' (keepD (mm_gI m)) := by
  have hu : mm_gI m 316 26 = iI (und (mm_gI m)) := (iI_toInt _).symm
  rw [sg_218_0]
  by_cases z : und (mm_gI m) = 16
  · rw [z] at hu
    obtain ⟨m1, e1, v1⟩ := M218L (d := d) hs hd hu 15 1 m (by omega) (by omega) (Upd.rf.cg (fun a q => by rw [if_neg (by omega)]))
    have hs1 := v1.sh hs
    obtain ⟨m2, e2, v2⟩ := M219 (d := d - 1) hs1 (f := 0) (t := 1600) (n := 25) (by omega) (by omega) (by omega)
    have e3 : mm_gI m1 316 26 = iI 15 := by rw [v1.2.2.2.2]; dsimp only; rw [if_pos ⟨rfl, rfl⟩]
    have e4 : mm_gI m2 316 26 = iI 15 := by rw [v2.2.2.2.2]; unfold cpD; rw [if_neg (by omega), e3]
    have hs2 := v2.sh hs1
    refine ⟨mm_sI m2 316 26 (iI 16), ?_, ((v1.tr v2).tr Upd.sI).cg (fun a q => ?_)⟩
    · rw [show ((1 : Nat) : Int) = 1 from rfl] at e1
      rw [show ((0 : Nat) : Int) = 0 from rfl, show ((1600 : Nat) : Int) = 1600 from rfl, show ((25 : Nat) : Int) = 25 from rfl] at e2
      simp (disch := omega) only [shM hs, ↓reduceIte, not_false_eq_true, not_true_eq_false, and_self, and_true, true_and, false_and, and_false, or_true, true_or, or_false, false_or, or_self, reduceCtorEq, mm_q, Option.getD_some, cI_some, cJ_some, cV_some, cS_some, kd_sI, kd_sL, kd_sR, kd_cp, ln_sI, ln_sL, ln_sR, ln_cp, gR_sI, gR_sL, gR_sR, gR_cp, gL_sI, gL_sR, gL_cp, gI_sL, gI_sR, iI_add, iI_sub, iI_mul, iI_neg, iI_in, iI_tn, iI_lt, iI_eq, Nat.reduceLeDiff, Nat.reduceEqDiff, Nat.reduceAdd, Int.reduceEq, Int.reduceLT, Int.reduceLE, Int.reduceNeg, Int.reduceAdd, Int.reduceSub, Int.reduceMul, hu, e1]
      rw [sg_218_53 (by omega)]
      simp (disch := omega) only [shM hs1, shM hs2, ↓reduceIte, not_false_eq_true, not_true_eq_false, and_self, and_true, true_and, false_and, and_false, or_true, true_or, or_false, false_or, or_self, reduceCtorEq, mm_q, Option.getD_some, cI_some, cJ_some, cV_some, cS_some, kd_sI, kd_sL, kd_sR, kd_cp, ln_sI, ln_sL, ln_sR, ln_cp, gR_sI, gR_sL, gR_sR, gR_cp, gL_sI, gL_sR, gL_cp, gI_sL, gI_sR, iI_add, iI_sub, iI_mul, iI_neg, iI_in, iI_tn, iI_lt, iI_eq, Nat.reduceLeDiff, Nat.reduceEqDiff, Nat.reduceAdd, Int.reduceEq, Int.reduceLT, Int.reduceLE, Int.reduceNeg, Int.reduceAdd, Int.reduceSub, Int.reduceMul, e3, e2, e4]
    · unfold up keepD
      rw [z]
      by_cases z1 : a = 316 ∧ q = 26
      · rw [if_pos z1, if_pos z1, if_pos rfl]
      · rw [if_neg z1, if_neg z1, v2.2.2.2.2]
        unfold cpD
        by_cases z2 : a = 332 ∧ 1600 ≤ q ∧ q < 1600 + 25
        · rw [if_pos z2, v1.2.2.2.2]; dsimp only; rw [if_neg (by omega), if_neg (by omega), if_pos (by omega), if_pos rfl, if_neg (by omega), if_pos (by omega), show q - 1600 + 0 = (q - 400) % 80 by omega]
        · rw [if_neg z2, v1.2.2.2.2]
          dsimp only
          rw [if_neg z1]
          by_cases z3 : a = 332 ∧ 400 ≤ q ∧ (q - 400) % 80 < 25
          · rw [if_pos z3, if_pos rfl]
            by_cases z4 : q < 1600
            · rw [if_pos (by omega), if_pos z4]
            · rw [if_neg (by omega), if_neg z4, if_neg (by omega)]
          · rw [if_neg (by omega), if_neg z3]
  · obtain ⟨m2, e2, v2⟩ := M219 (d := d - 1) hs (f := 0) (t := 80 * (5 + (und (mm_gI m)).toNat)) (n := 25) (by omega) (by omega) (by omega)
    have e4 : mm_gI m2 316 26 = iI (und (mm_gI m)) := by rw [v2.2.2.2.2]; unfold cpD; rw [if_neg (by omega), hu]
    have hs2 := v2.sh hs
    refine ⟨mm_sI m2 316 26 (iI (und (mm_gI m) + 1)), ?_, (v2.tr Upd.sI).cg (fun a q => ?_)⟩
    · rw [show ((0 : Nat) : Int) = 0 from rfl, show ((80 * (5 + (und (mm_gI m)).toNat) : Nat) : Int) = 80 * (5 + und (mm_gI m)) by omega, show ((25 : Nat) : Int) = 25 from rfl] at e2
      simp (disch := omega) only [shM hs, ↓reduceIte, not_false_eq_true, not_true_eq_false, and_self, and_true, true_and, false_and, and_false, or_true, true_or, or_false, false_or, or_self, reduceCtorEq, mm_q, Option.getD_some, cI_some, cJ_some, cV_some, cS_some, kd_sI, kd_sL, kd_sR, kd_cp, ln_sI, ln_sL, ln_sR, ln_cp, gR_sI, gR_sL, gR_sR, gR_cp, gL_sI, gL_sR, gL_cp, gI_sL, gI_sR, iI_add, iI_sub, iI_mul, iI_neg, iI_in, iI_tn, iI_lt, iI_eq, Nat.reduceLeDiff, Nat.reduceEqDiff, Nat.reduceAdd, Int.reduceEq, Int.reduceLT, Int.reduceLE, Int.reduceNeg, Int.reduceAdd, Int.reduceSub, Int.reduceMul, hu, z]
      rw [sg_218_53 (by omega)]
      simp (disch := omega) only [shM hs, shM hs2, ↓reduceIte, not_false_eq_true, not_true_eq_false, and_self, and_true, true_and, false_and, and_false, or_true, true_or, or_false, false_or, or_self, reduceCtorEq, mm_q, Option.getD_some, cI_some, cJ_some, cV_some, cS_some, kd_sI, kd_sL, kd_sR, kd_cp, ln_sI, ln_sL, ln_sR, ln_cp, gR_sI, gR_sL, gR_sR, gR_cp, gL_sI, gL_sR, gL_cp, gI_sL, gI_sR, iI_add, iI_sub, iI_mul, iI_neg, iI_in, iI_tn, iI_lt, iI_eq, Nat.reduceLeDiff, Nat.reduceEqDiff, Nat.reduceAdd, Int.reduceEq, Int.reduceLT, Int.reduceLE, Int.reduceNeg, Int.reduceAdd, Int.reduceSub, Int.reduceMul, hu, e2, e4]
    · unfold up keepD
      by_cases z1 : a = 316 ∧ q = 26
      · rw [if_pos z1, if_pos z1, if_neg z]
      · rw [if_neg z1, if_neg z1, v2.2.2.2.2]
        unfold cpD
        by_cases z3 : a = 332 ∧ 400 ≤ q ∧ (q - 400) % 80 < 25
        · rw [if_pos z3, if_neg z]
          by_cases z4 : (q - 400) / 80 = (und (mm_gI m)).toNat
          · rw [if_pos z4, if_pos (by omega), show q - 80 * (5 + (und (mm_gI m)).toNat) + 0 = (q - 400) % 80 by omega]
          · rw [if_neg z4, if_neg (by omega)]
        · rw [if_neg z3, if_neg (by omega)]
theorem keep_c (h : MD D E m) : ∀ a k, pmI a k = true → keepD (mm_gI m) a k = keepD D a k := by
  have e0 : und (mm_gI m) = und D := by unfold und; rw [h.2.1 316 26 rfl]
  have e1 : ∀ k, k < 1680 → mm_gI m 332 k = D 332 k := fun k hk => h.2.1 332 k (by
    unfold pmI
    rw [show Nat.blt k 1680 = true by rw [Nat.blt_eq]; exact hk]
    rfl)
  intro a k p
  unfold keepD
  rw [e0]
  by_cases z1 : a = 316 ∧ k = 26
  · rw [if_pos z1, if_pos z1]
  · rw [if_neg z1, if_neg z1]
    by_cases z2 : a = 332 ∧ 400 ≤ k ∧ (k - 400) % 80 < 25
    · rw [if_pos z2, if_pos z2]
      by_cases z3 : und D = 16
      · rw [if_pos z3, if_pos z3]
        by_cases z4 : k < 1600
        · rw [if_pos z4, if_pos z4, e1 _ (by omega)]
        · rw [if_neg z4, if_neg z4, h.2.1 a k p, e1 _ (by omega)]
      · rw [if_neg z3, if_neg z3, h.2.1 a k p, e1 _ (by omega)]
    · rw [if_neg z2, if_neg z2, h.2.1 a k p]
theorem keep_f : ∀ a k, scA a k = false → keepD D a k = D a k := by
  intro a k z
  have z1 : ¬ a = 316 := by rintro rfl; simp [scA] at z
  have z2 : ¬ a = 332 := by rintro rfl; simp [scA] at z
  unfold keepD
  rw [if_neg (by omega), if_neg (by omega)]
/-- keeps, by the data -/
theorem M218' (h : MD D E m) (hd : 1 ≤ d) (u0 : 0 ≤ und D) (u1 : und D ≤ 16) : ∃ m', mm_ev d 218 0 [some (.ref 316), none] [] m = some (some none, m') ∧ MD (keepD D) E m' ∧ Fr scA m m' := by
  have e0 : und (mm_gI m) = und D := by unfold und; rw [h.2.1 316 26 rfl]
  obtain ⟨m', e1, v1⟩ := M218 (d := d) h.1 hd (by omega) (by omega)
  exact ⟨m', e1, h.ud v1 (keep_c h), v1.fr keep_f⟩
theorem Fr.sA {a k : Nat} {v : Int32} (h0 : 316 ≤ a) (h1 : a ≤ 342) : Fr scA m (mm_sI m a k v) := Fr.sI (by
  unfold scA
  rw [Nat.ble_eq.mpr h0, Nat.ble_eq.mpr h1]
  rfl)
end
def startOk (D : Nat → Nat → Int32) (w c : Int) : Bool := isWk D w && inB c 0 (st D 0 - 1)
def startD (D : Nat → Nat → Int32) (w c : Int) : Nat → Nat → Int32 := if startOk D w c = true then up (keepD D) 332 (1 + w).toNat (iI c) else D
def turnD (D : Nat → Nat → Int32) (w : Int) : Nat → Nat → Int32 := if isWk D w = true then up (keepD D) 332 (9 + w).toNat (iI (1 - sa D (9 + w))) else D
def lateOk (D : Nat → Nat → Int32) (w c : Int) : Bool := isWk D w && inB c 0 99
def lateD (D : Nat → Nat → Int32) (w c : Int) : Nat → Nat → Int32 := if lateOk D w c = true then up (keepD D) 332 (17 + w).toNat (iI c) else D
def takeD (D : Nat → Nat → Int32) : Nat → Nat → Int32 := if sa D 0 = 60 then D else nextD (keepD D) 0
def takeS (D : Nat → Nat → Int32) : Int := if sa D 0 = 60 then -1 else sa D 0 + 1
def undoD (D : Nat → Nat → Int32) : Nat → Nat → Int32 := if und D = 0 then D else cpD (up D 316 26 (iI (und D - 1))) (80 * (4 + (und D).toNat)) 0 25
section
variable {D : Nat → Nat → Int32} {E : Nat → Nat → Int64} {m m' m'' : mm_M} {d : Nat}
theorem keep_lo {k : Nat} (h : k < 400) : keepD D 332 k = D 332 k := by
  unfold keepD
  rw [if_neg (by omega), if_neg (by omega)]
theorem keep_st {i : Int} : st (keepD D) i = st D i := by
  unfold st keepD
  rw [if_neg (by omega), if_neg (by omega)]
/-- start -/
theorem M217 (h : MD D E m) (hI : InvS D) (hd : 3 ≤ d) (u0 : 0 ≤ und D) (u1 : und D ≤ 16) {w c : Int} (w_0 : -2147483648 ≤ w) (w_1 : w < 2147483648) (c_0 : -2147483648 ≤ c) (c_1 : c < 2147483648) : ∃ m', mm_ev d 217 0 [some (.ref 316), some (.int (iI (w))), some (.int (iI (c)))] [] m = some (some (some (.int (iI (bI (startOk D w c))))), m') ∧ MD (startD D w c) E m' ∧ Fr scA m m' := by
  have h1 := h.fr thr0
  obtain ⟨c0, c1⟩ := hI.1
  obtain ⟨k0, k1⟩ := hI.2.2.2.2.2.1
  rw [sg_217_0 (by omega)]
  simp (disch := omega) only [shM h.1, ↓reduceIte, not_false_eq_true, not_true_eq_false, and_self, and_true, true_and, reduceCtorEq, mm_q, Option.getD_some, cI_some, cJ_some, cV_some, cS_some, Nat.reduceLeDiff, Nat.reduceEqDiff, kd_sI, M200' h1 hI]
  rw [sg_217_10 (by omega)]
  unfold startD startOk
  cases z1 : isWk D w
  · exact ⟨_, by simp (disch := omega) only [↓reduceIte, not_false_eq_true, not_true_eq_false, and_self, and_true, true_and, false_and, and_false, or_true, true_or, or_false, false_or, or_self, reduceCtorEq, mm_q, Option.getD_some, cI_some, cJ_some, cV_some, cS_some, kd_sI, kd_sL, kd_sR, kd_cp, ln_sI, ln_sL, ln_sR, ln_cp, gR_sI, gR_sL, gR_sR, gR_cp, gL_sI, gL_sR, gL_cp, gI_sL, gI_sR, iI_add, iI_sub, iI_mul, iI_neg, iI_in, iI_tn, iI_lt, iI_eq, Nat.reduceLeDiff, Nat.reduceEqDiff, Nat.reduceAdd, Int.reduceEq, Int.reduceLT, Int.reduceLE, Int.reduceNeg, Int.reduceAdd, Int.reduceSub, Int.reduceMul, bI_t, bI_f, decide_true, decide_false, Bool.and_true, Bool.and_false, Bool.true_and, Bool.false_and, Bool.false_eq_true, Bool.and_self, Bool.not_true, Bool.not_false], h1, thr0.MA⟩
  · simp (disch := omega) only [shM h1.1, ↓reduceIte, not_false_eq_true, not_true_eq_false, and_self, and_true, true_and, false_and, and_false, or_true, true_or, or_false, false_or, or_self, reduceCtorEq, mm_q, Option.getD_some, cI_some, cJ_some, cV_some, cS_some, kd_sI, kd_sL, kd_sR, kd_cp, ln_sI, ln_sL, ln_sR, ln_cp, gR_sI, gR_sL, gR_sR, gR_cp, gL_sI, gL_sR, gL_cp, gI_sL, gI_sR, iI_add, iI_sub, iI_mul, iI_neg, iI_in, iI_tn, iI_lt, iI_eq, Nat.reduceLeDiff, Nat.reduceEqDiff, Nat.reduceAdd, Int.reduceEq, Int.reduceLT, Int.reduceLE, Int.reduceNeg, Int.reduceAdd, Int.reduceSub, Int.reduceMul, bI_t, bI_f, decide_true, decide_false, Bool.and_true, Bool.and_false, Bool.true_and, Bool.false_and, Bool.false_eq_true, Bool.and_self, Bool.not_true, Bool.not_false, M208 h1]
    rw [sg_217_19 (by omega)]
    cases z2 : inB c 0 (st D 0 - 1)
    · exact ⟨_, by simp (disch := omega) only [↓reduceIte, not_false_eq_true, not_true_eq_false, and_self, and_true, true_and, false_and, and_false, or_true, true_or, or_false, false_or, or_self, reduceCtorEq, mm_q, Option.getD_some, cI_some, cJ_some, cV_some, cS_some, kd_sI, kd_sL, kd_sR, kd_cp, ln_sI, ln_sL, ln_sR, ln_cp, gR_sI, gR_sL, gR_sR, gR_cp, gL_sI, gL_sR, gL_cp, gI_sL, gI_sR, iI_add, iI_sub, iI_mul, iI_neg, iI_in, iI_tn, iI_lt, iI_eq, Nat.reduceLeDiff, Nat.reduceEqDiff, Nat.reduceAdd, Int.reduceEq, Int.reduceLT, Int.reduceLE, Int.reduceNeg, Int.reduceAdd, Int.reduceSub, Int.reduceMul, bI_t, bI_f, decide_true, decide_false, Bool.and_true, Bool.and_false, Bool.true_and, Bool.false_and, Bool.false_eq_true, Bool.and_self, Bool.not_true, Bool.not_false, M188', z2], h1, thr0.MA⟩
    · obtain ⟨a0, a1⟩ := isWk_t.mp z1
      obtain ⟨m', e1, h2, f1⟩ := M218' (d := d - 1) h1 (by omega) u0 u1
      refine ⟨mm_sI m' 332 (1 + w).toNat (iI c), ?_, h2.sI, (thr0.MA.tr f1).tr (Fr.sA (by omega) (by omega))⟩
      simp (disch := omega) only [shM h1.1, ↓reduceIte, not_false_eq_true, not_true_eq_false, and_self, and_true, true_and, false_and, and_false, or_true, true_or, or_false, false_or, or_self, reduceCtorEq, mm_q, Option.getD_some, cI_some, cJ_some, cV_some, cS_some, kd_sI, kd_sL, kd_sR, kd_cp, ln_sI, ln_sL, ln_sR, ln_cp, gR_sI, gR_sL, gR_sR, gR_cp, gL_sI, gL_sR, gL_cp, gI_sL, gI_sR, iI_add, iI_sub, iI_mul, iI_neg, iI_in, iI_tn, iI_lt, iI_eq, Nat.reduceLeDiff, Nat.reduceEqDiff, Nat.reduceAdd, Int.reduceEq, Int.reduceLT, Int.reduceLE, Int.reduceNeg, Int.reduceAdd, Int.reduceSub, Int.reduceMul, bI_t, bI_f, decide_true, decide_false, Bool.and_true, Bool.and_false, Bool.true_and, Bool.false_and, Bool.false_eq_true, Bool.and_self, Bool.not_true, Bool.not_false, M188', z2, e1]
      rw [sg_217_33]
      simp (disch := omega) only [shM h2.1, ↓reduceIte, not_false_eq_true, not_true_eq_false, and_self, and_true, true_and, false_and, and_false, or_true, true_or, or_false, false_or, or_self, reduceCtorEq, mm_q, Option.getD_some, cI_some, cJ_some, cV_some, cS_some, kd_sI, kd_sL, kd_sR, kd_cp, ln_sI, ln_sL, ln_sR, ln_cp, gR_sI, gR_sL, gR_sR, gR_cp, gL_sI, gL_sR, gL_cp, gI_sL, gI_sR, iI_add, iI_sub, iI_mul, iI_neg, iI_in, iI_tn, iI_lt, iI_eq, Nat.reduceLeDiff, Nat.reduceEqDiff, Nat.reduceAdd, Int.reduceEq, Int.reduceLT, Int.reduceLE, Int.reduceNeg, Int.reduceAdd, Int.reduceSub, Int.reduceMul]
/-- turn -/
theorem M220 (h : MD D E m) (hI : InvS D) (hd : 3 ≤ d) (u0 : 0 ≤ und D) (u1 : und D ≤ 16) {w : Int} (w_0 : -2147483648 ≤ w) (w_1 : w < 2147483648) : ∃ m', mm_ev d 220 0 [some (.ref 316), some (.int (iI (w)))] [] m = some (some (some (.int (iI (bI (isWk D w))))), m') ∧ MD (turnD D w) E m' ∧ Fr scA m m' := by
  have h1 := h.fr thr0
  obtain ⟨k0, k1⟩ := hI.2.2.2.2.2.1
  rw [sg_220_0 (by omega)]
  unfold turnD
  cases z1 : isWk D w
  · exact ⟨_, by simp (disch := omega) only [shM h.1, ↓reduceIte, not_false_eq_true, not_true_eq_false, and_self, and_true, true_and, false_and, and_false, or_true, true_or, or_false, false_or, or_self, reduceCtorEq, mm_q, Option.getD_some, cI_some, cJ_some, cV_some, cS_some, kd_sI, kd_sL, kd_sR, kd_cp, ln_sI, ln_sL, ln_sR, ln_cp, gR_sI, gR_sL, gR_sR, gR_cp, gL_sI, gL_sR, gL_cp, gI_sL, gI_sR, iI_add, iI_sub, iI_mul, iI_neg, iI_in, iI_tn, iI_lt, iI_eq, Nat.reduceLeDiff, Nat.reduceEqDiff, Nat.reduceAdd, Int.reduceEq, Int.reduceLT, Int.reduceLE, Int.reduceNeg, Int.reduceAdd, Int.reduceSub, Int.reduceMul, bI_t, bI_f, decide_true, decide_false, Bool.and_true, Bool.and_false, Bool.true_and, Bool.false_and, Bool.false_eq_true, Bool.and_self, Bool.not_true, Bool.not_false, M200' h1 hI, z1], h1, thr0.MA⟩
  · obtain ⟨a0, a1⟩ := isWk_t.mp z1
    obtain ⟨m', e1, h2, f1⟩ := M218' (d := d - 1) h1 (by omega) u0 u1
    refine ⟨mm_sI m' 332 (9 + w).toNat (iI (1 - sa D (9 + w))), ?_, h2.sI, (thr0.MA.tr f1).tr (Fr.sA (by omega) (by omega))⟩
    simp (disch := omega) only [shM h.1, ↓reduceIte, not_false_eq_true, not_true_eq_false, and_self, and_true, true_and, false_and, and_false, or_true, true_or, or_false, false_or, or_self, reduceCtorEq, mm_q, Option.getD_some, cI_some, cJ_some, cV_some, cS_some, kd_sI, kd_sL, kd_sR, kd_cp, ln_sI, ln_sL, ln_sR, ln_cp, gR_sI, gR_sL, gR_sR, gR_cp, gL_sI, gL_sR, gL_cp, gI_sL, gI_sR, iI_add, iI_sub, iI_mul, iI_neg, iI_in, iI_tn, iI_lt, iI_eq, Nat.reduceLeDiff, Nat.reduceEqDiff, Nat.reduceAdd, Int.reduceEq, Int.reduceLT, Int.reduceLE, Int.reduceNeg, Int.reduceAdd, Int.reduceSub, Int.reduceMul, bI_t, bI_f, decide_true, decide_false, Bool.and_true, Bool.and_false, Bool.true_and, Bool.false_and, Bool.false_eq_true, Bool.and_self, Bool.not_true, Bool.not_false, M200' h1 hI, z1, e1]
    rw [sg_220_19]
    have e2 : mm_gI m' 332 (9 + w).toNat = iI (sa D (9 + w)) := by
      rw [MD_sa h2 (by omega) (by omega)]
      unfold sa
      rw [keep_lo (by omega)]
    simp (disch := omega) only [shM h2.1, ↓reduceIte, not_false_eq_true, not_true_eq_false, and_self, and_true, true_and, false_and, and_false, or_true, true_or, or_false, false_or, or_self, reduceCtorEq, mm_q, Option.getD_some, cI_some, cJ_some, cV_some, cS_some, kd_sI, kd_sL, kd_sR, kd_cp, ln_sI, ln_sL, ln_sR, ln_cp, gR_sI, gR_sL, gR_sR, gR_cp, gL_sI, gL_sR, gL_cp, gI_sL, gI_sR, iI_add, iI_sub, iI_mul, iI_neg, iI_in, iI_tn, iI_lt, iI_eq, Nat.reduceLeDiff, Nat.reduceEqDiff, Nat.reduceAdd, Int.reduceEq, Int.reduceLT, Int.reduceLE, Int.reduceNeg, Int.reduceAdd, Int.reduceSub, Int.reduceMul, e2]
/-- late -/
theorem M221 (h : MD D E m) (hI : InvS D) (hd : 3 ≤ d) (u0 : 0 ≤ und D) (u1 : und D ≤ 16) {w c : Int} (w_0 : -2147483648 ≤ w) (w_1 : w < 2147483648) (c_0 : -2147483648 ≤ c) (c_1 : c < 2147483648) : ∃ m', mm_ev d 221 0 [some (.ref 316), some (.int (iI (w))), some (.int (iI (c)))] [] m = some (some (some (.int (iI (bI (lateOk D w c))))), m') ∧ MD (lateD D w c) E m' ∧ Fr scA m m' := by
  have h1 := h.fr thr0
  obtain ⟨k0, k1⟩ := hI.2.2.2.2.2.1
  rw [sg_221_0 (by omega)]
  simp (disch := omega) only [shM h.1, ↓reduceIte, not_false_eq_true, not_true_eq_false, and_self, and_true, true_and, reduceCtorEq, mm_q, Option.getD_some, cI_some, cJ_some, cV_some, cS_some, Nat.reduceLeDiff, Nat.reduceEqDiff, kd_sI, M200' h1 hI]
  rw [sg_221_10 (by omega)]
  unfold lateD lateOk
  cases z1 : isWk D w
  · exact ⟨_, by simp (disch := omega) only [↓reduceIte, not_false_eq_true, not_true_eq_false, and_self, and_true, true_and, false_and, and_false, or_true, true_or, or_false, false_or, or_self, reduceCtorEq, mm_q, Option.getD_some, cI_some, cJ_some, cV_some, cS_some, kd_sI, kd_sL, kd_sR, kd_cp, ln_sI, ln_sL, ln_sR, ln_cp, gR_sI, gR_sL, gR_sR, gR_cp, gL_sI, gL_sR, gL_cp, gI_sL, gI_sR, iI_add, iI_sub, iI_mul, iI_neg, iI_in, iI_tn, iI_lt, iI_eq, Nat.reduceLeDiff, Nat.reduceEqDiff, Nat.reduceAdd, Int.reduceEq, Int.reduceLT, Int.reduceLE, Int.reduceNeg, Int.reduceAdd, Int.reduceSub, Int.reduceMul, bI_t, bI_f, decide_true, decide_false, Bool.and_true, Bool.and_false, Bool.true_and, Bool.false_and, Bool.false_eq_true, Bool.and_self, Bool.not_true, Bool.not_false], h1, thr0.MA⟩
  · cases z2 : inB c 0 99
    · exact ⟨_, by simp (disch := omega) only [↓reduceIte, not_false_eq_true, not_true_eq_false, and_self, and_true, true_and, false_and, and_false, or_true, true_or, or_false, false_or, or_self, reduceCtorEq, mm_q, Option.getD_some, cI_some, cJ_some, cV_some, cS_some, kd_sI, kd_sL, kd_sR, kd_cp, ln_sI, ln_sL, ln_sR, ln_cp, gR_sI, gR_sL, gR_sR, gR_cp, gL_sI, gL_sR, gL_cp, gI_sL, gI_sR, iI_add, iI_sub, iI_mul, iI_neg, iI_in, iI_tn, iI_lt, iI_eq, Nat.reduceLeDiff, Nat.reduceEqDiff, Nat.reduceAdd, Int.reduceEq, Int.reduceLT, Int.reduceLE, Int.reduceNeg, Int.reduceAdd, Int.reduceSub, Int.reduceMul, bI_t, bI_f, decide_true, decide_false, Bool.and_true, Bool.and_false, Bool.true_and, Bool.false_and, Bool.false_eq_true, Bool.and_self, Bool.not_true, Bool.not_false, M188', z2], h1, thr0.MA⟩
    · obtain ⟨a0, a1⟩ := isWk_t.mp z1
      obtain ⟨m', e1, h2, f1⟩ := M218' (d := d - 1) h1 (by omega) u0 u1
      refine ⟨mm_sI m' 332 (17 + w).toNat (iI c), ?_, h2.sI, (thr0.MA.tr f1).tr (Fr.sA (by omega) (by omega))⟩
      simp (disch := omega) only [shM h1.1, ↓reduceIte, not_false_eq_true, not_true_eq_false, and_self, and_true, true_and, false_and, and_false, or_true, true_or, or_false, false_or, or_self, reduceCtorEq, mm_q, Option.getD_some, cI_some, cJ_some, cV_some, cS_some, kd_sI, kd_sL, kd_sR, kd_cp, ln_sI, ln_sL, ln_sR, ln_cp, gR_sI, gR_sL, gR_sR, gR_cp, gL_sI, gL_sR, gL_cp, gI_sL, gI_sR, iI_add, iI_sub, iI_mul, iI_neg, iI_in, iI_tn, iI_lt, iI_eq, Nat.reduceLeDiff, Nat.reduceEqDiff, Nat.reduceAdd, Int.reduceEq, Int.reduceLT, Int.reduceLE, Int.reduceNeg, Int.reduceAdd, Int.reduceSub, Int.reduceMul, bI_t, bI_f, decide_true, decide_false, Bool.and_true, Bool.and_false, Bool.true_and, Bool.false_and, Bool.false_eq_true, Bool.and_self, Bool.not_true, Bool.not_false, M188', z2, e1]
      rw [sg_221_29]
      simp (disch := omega) only [shM h2.1, ↓reduceIte, not_false_eq_true, not_true_eq_false, and_self, and_true, true_and, false_and, and_false, or_true, true_or, or_false, false_or, or_self, reduceCtorEq, mm_q, Option.getD_some, cI_some, cJ_some, cV_some, cS_some, kd_sI, kd_sL, kd_sR, kd_cp, ln_sI, ln_sL, ln_sR, ln_cp, gR_sI, gR_sL, gR_sR, gR_cp, gL_sI, gL_sR, gL_cp, gI_sL, gI_sR, iI_add, iI_sub, iI_mul, iI_neg, iI_in, iI_tn, iI_lt, iI_eq, Nat.reduceLeDiff, Nat.reduceEqDiff, Nat.reduceAdd, Int.reduceEq, Int.reduceLT, Int.reduceLE, Int.reduceNeg, Int.reduceAdd, Int.reduceSub, Int.reduceMul]
/-- next -/
theorem M223L (hs : Sh m) {b : Nat} (b1 : b ≤ 1760) : ∀ (k j : Nat) (m1 : mm_M), j + k = 8 → Upd m m1 (fun a q => if a = 332 ∧ q = b then mm_gI m 332 b + iI 1 else if a = 332 ∧ b + 17 ≤ q ∧ q < b + 17 + j then iI 0 else mm_gI m a q) → ∃ m', mm_ev d 223 14 [some (.ref 316), some (.int (iI ((b : Int)))), some (.int (iI ((j : Int))))] [] m1 = some (some none, m') ∧ Upd m m' (nextD (mm_gI m) b)
  | 0, j, m1, hj, u1 => by
    refine ⟨m1, ?_, u1.cg (fun a q => ?_)⟩
    · rw [sg_223_14, show j = 8 by omega]
      simp (disch := omega) only [↓reduceIte, not_false_eq_true, not_true_eq_false, and_self, and_true, true_and, false_and, and_false, or_true, true_or, or_false, false_or, or_self, reduceCtorEq, mm_q, Option.getD_some, cI_some, cJ_some, cV_some, cS_some, kd_sI, kd_sL, kd_sR, kd_cp, ln_sI, ln_sL, ln_sR, ln_cp, gR_sI, gR_sL, gR_sR, gR_cp, gL_sI, gL_sR, gL_cp, gI_sL, gI_sR, iI_add, iI_sub, iI_mul, iI_neg, iI_in, iI_tn, iI_lt, iI_eq, Nat.reduceLeDiff, Nat.reduceEqDiff, Nat.reduceAdd, Int.reduceEq, Int.reduceLT, Int.reduceLE, Int.reduceNeg, Int.reduceAdd, Int.reduceSub, Int.reduceMul, show ((8 : Nat) : Int) = 8 from rfl, Int.lt_irrefl]
    · unfold nextD
      rw [show j = 8 by omega]
  | k + 1, j, m1, hj, u1 => by
    have hs1 := u1.sh hs
    have u2 := (u1.tr (Upd.sI (a := 332) (k := b + 17 + j) (v := iI 0))).cg (G := fun a q => if a = 332 ∧ q = b then mm_gI m 332 b + iI 1 else if a = 332 ∧ b + 17 ≤ q ∧ q < b + 17 + (j + 1) then iI 0 else mm_gI m a q) (fun a q => by
      unfold up
      rw [u1.2.2.2.2 a q]
      dsimp only
      by_cases z : a = 332 ∧ q = b + 17 + j
      · rw [if_pos z, if_neg (by omega), if_pos (by omega)]
      · rw [if_neg z]
        by_cases z2 : a = 332 ∧ q = b
        · rw [if_pos z2, if_pos z2]
        · rw [if_neg z2, if_neg z2]
          by_cases z3 : a = 332 ∧ b + 17 ≤ q ∧ q < b + 17 + j
          · rw [if_pos z3, if_pos (by omega)]
          · rw [if_neg z3, if_neg (by omega)])
    obtain ⟨m', e3, u3⟩ := M223L hs b1 k (j + 1) _ (by omega) u2
    refine ⟨m', ?_, u3⟩
    rw [sg_223_14]
    rw [show ((j + 1 : Nat) : Int) = (j : Int) + 1 by omega] at e3
    simp (disch := omega) only [shM hs1, ↓reduceIte, not_false_eq_true, not_true_eq_false, and_self, and_true, true_and, false_and, and_false, or_true, true_or, or_false, false_or, or_self, reduceCtorEq, mm_q, Option.getD_some, cI_some, cJ_some, cV_some, cS_some, kd_sI, kd_sL, kd_sR, kd_cp, ln_sI, ln_sL, ln_sR, ln_cp, gR_sI, gR_sL, gR_sR, gR_cp, gL_sI, gL_sR, gL_cp, gI_sL, gI_sR, iI_add, iI_sub, iI_mul, iI_neg, iI_in, iI_tn, iI_lt, iI_eq, Nat.reduceLeDiff, Nat.reduceEqDiff, Nat.reduceAdd, Int.reduceEq, Int.reduceLT, Int.reduceLE, Int.reduceNeg, Int.reduceAdd, Int.reduceSub, Int.reduceMul, show (j : Int) < 8 by omega, show ((b : Int) + 17 + (j : Int)).toNat = b + 17 + j by omega]
    exact e3
theorem M223 (hs : Sh m) {b : Nat} (b1 : b ≤ 1760) : ∃ m', mm_ev d 223 0 [some (.ref 316), some (.int (iI ((b : Int)))), none] [] m = some (some none, m') ∧ Upd m m' (nextD (mm_gI m) b) := by
  obtain ⟨m', e1, u1⟩ := M223L (d := d) hs b1 8 0 (mm_sI m 332 b (mm_gI m 332 b + iI 1)) (by omega) (Upd.sI.cg (fun a q => by
    unfold up
    by_cases z : a = 332 ∧ q = b
    · rw [if_pos z, if_pos z]
    · rw [if_neg z, if_neg z, if_neg (by omega)]))
  refine ⟨m', ?_, u1⟩
  rw [sg_223_0]
  rw [show ((0 : Nat) : Int) = 0 from rfl] at e1
  simp (disch := omega) only [shM hs, ↓reduceIte, not_false_eq_true, not_true_eq_false, and_self, and_true, true_and, false_and, and_false, or_true, true_or, or_false, false_or, or_self, reduceCtorEq, mm_q, Option.getD_some, cI_some, cJ_some, cV_some, cS_some, kd_sI, kd_sL, kd_sR, kd_cp, ln_sI, ln_sL, ln_sR, ln_cp, gR_sI, gR_sL, gR_sR, gR_cp, gL_sI, gL_sR, gL_cp, gI_sL, gI_sR, iI_add, iI_sub, iI_mul, iI_neg, iI_in, iI_tn, iI_lt, iI_eq, Nat.reduceLeDiff, Nat.reduceEqDiff, Nat.reduceAdd, Int.reduceEq, Int.reduceLT, Int.reduceLE, Int.reduceNeg, Int.reduceAdd, Int.reduceSub, Int.reduceMul, show ((b : Int) + 0).toNat = b by omega]
  exact e1
theorem next_c (h : MD D E m) : ∀ a k, pmI a k = true → nextD (mm_gI m) 0 a k = nextD D 0 a k := by
  intro a k p
  unfold nextD
  rw [h.2.1 a k p, h.2.1 332 0 rfl]
theorem next_f {b : Nat} : ∀ a k, scA a k = false → nextD D b a k = D a k := by
  intro a k z
  have z2 : ¬ a = 332 := by rintro rfl; simp [scA] at z
  unfold nextD
  rw [if_neg (by omega), if_neg (by omega)]
/-- take -/
theorem M222 (h : MD D E m) (hd : 3 ≤ d) (u0 : 0 ≤ und D) (u1 : und D ≤ 16) (s0 : 0 ≤ sa D 0) (s1 : sa D 0 ≤ 60) : ∃ m', mm_ev d 222 0 [some (.ref 316)] [] m = some (some (some (.int (iI (takeS D)))), m') ∧ MD (takeD D) E m' ∧ Fr scA m m' := by
  have h1 := h.fr thr0
  rw [sg_222_0 (by omega)]
  unfold takeS takeD
  by_cases z : sa D 0 = 60
  · exact ⟨_, by simp (disch := omega) only [shM h.1, ↓reduceIte, not_false_eq_true, not_true_eq_false, and_self, and_true, true_and, false_and, and_false, or_true, true_or, or_false, false_or, or_self, reduceCtorEq, mm_q, Option.getD_some, cI_some, cJ_some, cV_some, cS_some, kd_sI, kd_sL, kd_sR, kd_cp, ln_sI, ln_sL, ln_sR, ln_cp, gR_sI, gR_sL, gR_sR, gR_cp, gL_sI, gL_sR, gL_cp, gI_sL, gI_sR, iI_add, iI_sub, iI_mul, iI_neg, iI_in, iI_tn, iI_lt, iI_eq, Nat.reduceLeDiff, Nat.reduceEqDiff, Nat.reduceAdd, Int.reduceEq, Int.reduceLT, Int.reduceLE, Int.reduceNeg, Int.reduceAdd, Int.reduceSub, Int.reduceMul, MD_sa h1, z], by rw [if_pos z]; exact h1, thr0.MA⟩
  · obtain ⟨m1, e1, h2, f1⟩ := M218' (d := d - 1) h1 (by omega) u0 u1
    obtain ⟨m', e2, v2⟩ := M223 (d := d - 1) h2.1 (b := 0) (by omega)
    have h3 : MD (nextD (keepD D) 0) E m' := h2.ud v2 (next_c h2)
    refine ⟨m', ?_, by rw [if_neg z]; exact h3, (thr0.MA.tr f1).tr (v2.fr next_f)⟩
    have e3 : mm_gI m' 332 0 = iI (sa D 0 + 1) := by
      rw [v2.2.2.2.2]
      unfold nextD
      rw [if_pos ⟨rfl, rfl⟩, h2.2.1 332 0 rfl, keep_lo (by omega), ← iI_add]
      unfold sa
      rw [iI_toInt]
      rfl
    rw [show ((0 : Nat) : Int) = 0 from rfl] at e2
    simp (disch := omega) only [shM h.1, ↓reduceIte, not_false_eq_true, not_true_eq_false, and_self, and_true, true_and, false_and, and_false, or_true, true_or, or_false, false_or, or_self, reduceCtorEq, mm_q, Option.getD_some, cI_some, cJ_some, cV_some, cS_some, kd_sI, kd_sL, kd_sR, kd_cp, ln_sI, ln_sL, ln_sR, ln_cp, gR_sI, gR_sL, gR_sR, gR_cp, gL_sI, gL_sR, gL_cp, gI_sL, gI_sR, iI_add, iI_sub, iI_mul, iI_neg, iI_in, iI_tn, iI_lt, iI_eq, Nat.reduceLeDiff, Nat.reduceEqDiff, Nat.reduceAdd, Int.reduceEq, Int.reduceLT, Int.reduceLE, Int.reduceNeg, Int.reduceAdd, Int.reduceSub, Int.reduceMul, MD_sa h1, z, e1]
    rw [sg_222_22 (by omega)]
    simp (disch := omega) only [shM h2.1, shM h3.1, ↓reduceIte, not_false_eq_true, not_true_eq_false, and_self, and_true, true_and, false_and, and_false, or_true, true_or, or_false, false_or, or_self, reduceCtorEq, mm_q, Option.getD_some, cI_some, cJ_some, cV_some, cS_some, kd_sI, kd_sL, kd_sR, kd_cp, ln_sI, ln_sL, ln_sR, ln_cp, gR_sI, gR_sL, gR_sR, gR_cp, gL_sI, gL_sR, gL_cp, gI_sL, gI_sR, iI_add, iI_sub, iI_mul, iI_neg, iI_in, iI_tn, iI_lt, iI_eq, Nat.reduceLeDiff, Nat.reduceEqDiff, Nat.reduceAdd, Int.reduceEq, Int.reduceLT, Int.reduceLE, Int.reduceNeg, Int.reduceAdd, Int.reduceSub, Int.reduceMul, e2, show Int.toNat 0 = 0 from rfl, e3]
theorem cp_c (h : MD D E m) {f n : Nat} (hf : f + n ≤ 1680) : ∀ a k, pmI a k = true → cpD (mm_gI m) f 0 n a k = cpD D f 0 n a k := by
  have e1 : ∀ k, k < 1680 → mm_gI m 332 k = D 332 k := fun k hk => h.2.1 332 k (by
    unfold pmI
    rw [show Nat.blt k 1680 = true by rw [Nat.blt_eq]; exact hk]
    rfl)
  intro a k p
  unfold cpD
  rw [h.2.1 a k p]
  by_cases z : a = 332 ∧ 0 ≤ k ∧ k < 0 + n
  · rw [if_pos z, if_pos z, e1 _ (by omega)]
  · rw [if_neg z, if_neg z]
theorem cp_f {f t n : Nat} : ∀ a k, scA a k = false → cpD D f t n a k = D a k := by
  intro a k z
  have z2 : ¬ a = 332 := by rintro rfl; simp [scA] at z
  unfold cpD
  rw [if_neg (by omega)]
/-- undo -/
theorem M224 (h : MD D E m) (hd : 3 ≤ d) (u0 : 0 ≤ und D) (u1 : und D ≤ 16) : ∃ m', mm_ev d 224 0 [some (.ref 316)] [] m = some (some (some (.int (iI (bI (!decide (und D = 0)))))), m') ∧ MD (undoD D) E m' ∧ Fr scA m m' := by
  have h1 := h.fr thr0
  have e0 : mm_gI (mm_sI m 316 0 (iI 0)) 316 26 = iI (und D) := by
    rw [h1.2.1 316 26 rfl]
    exact (iI_toInt _).symm
  rw [sg_224_0 (by omega)]
  unfold undoD
  by_cases z : und D = 0
  · exact ⟨_, by simp (disch := omega) only [shM h.1, ↓reduceIte, not_false_eq_true, not_true_eq_false, and_self, and_true, true_and, false_and, and_false, or_true, true_or, or_false, false_or, or_self, reduceCtorEq, mm_q, Option.getD_some, cI_some, cJ_some, cV_some, cS_some, kd_sI, kd_sL, kd_sR, kd_cp, ln_sI, ln_sL, ln_sR, ln_cp, gR_sI, gR_sL, gR_sR, gR_cp, gL_sI, gL_sR, gL_cp, gI_sL, gI_sR, iI_add, iI_sub, iI_mul, iI_neg, iI_in, iI_tn, iI_lt, iI_eq, Nat.reduceLeDiff, Nat.reduceEqDiff, Nat.reduceAdd, Int.reduceEq, Int.reduceLT, Int.reduceLE, Int.reduceNeg, Int.reduceAdd, Int.reduceSub, Int.reduceMul, bI_t, bI_f, decide_true, decide_false, Bool.and_true, Bool.and_false, Bool.true_and, Bool.false_and, Bool.false_eq_true, Bool.and_self, Bool.not_true, Bool.not_false, e0, z], by rw [if_pos z]; exact h1, thr0.MA⟩
  · have h2 : MD (up D 316 26 (iI (und D - 1))) E (mm_sI (mm_sI m 316 0 (iI 0)) 316 26 (iI (und D - 1))) := h1.sI
    obtain ⟨m', e2, v2⟩ := M219 (d := d - 1) h2.1 (f := 80 * (4 + (und D).toNat)) (t := 0) (n := 25) (by omega) (by omega) (by omega)
    refine ⟨m', ?_, by rw [if_neg z]; exact h2.ud v2 (cp_c h2 (by omega)), (thr0.MA.tr (Fr.sA (by omega) (by omega))).tr (v2.fr cp_f)⟩
    rw [show ((0 : Nat) : Int) = 0 from rfl, show ((25 : Nat) : Int) = 25 from rfl, show ((80 * (4 + (und D).toNat) : Nat) : Int) = 80 * (5 + (und D - 1)) by omega] at e2
    have e5 : mm_gI (mm_sI (mm_sI m 316 0 (iI 0)) 316 26 (iI (und D - 1))) 316 26 = iI (und D - 1) := by rw [gI_sI, if_pos ⟨rfl, rfl⟩]
    simp (disch := omega) only [shM h.1, ↓reduceIte, not_false_eq_true, not_true_eq_false, and_self, and_true, true_and, false_and, and_false, or_true, true_or, or_false, false_or, or_self, reduceCtorEq, mm_q, Option.getD_some, cI_some, cJ_some, cV_some, cS_some, kd_sI, kd_sL, kd_sR, kd_cp, ln_sI, ln_sL, ln_sR, ln_cp, gR_sI, gR_sL, gR_sR, gR_cp, gL_sI, gL_sR, gL_cp, gI_sL, gI_sR, iI_add, iI_sub, iI_mul, iI_neg, iI_in, iI_tn, iI_lt, iI_eq, Nat.reduceLeDiff, Nat.reduceEqDiff, Nat.reduceAdd, Int.reduceEq, Int.reduceLT, Int.reduceLE, Int.reduceNeg, Int.reduceAdd, Int.reduceSub, Int.reduceMul, bI_t, bI_f, decide_true, decide_false, Bool.and_true, Bool.and_false, Bool.true_and, Bool.false_and, Bool.false_eq_true, Bool.and_self, Bool.not_true, Bool.not_false, e0, z, e5, e2]
end
