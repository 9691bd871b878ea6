section
variable {D : Nat → Nat → Int32} {E : Nat → Nat → Int64} {m : mm_M} {d : Nat}
theorem MD_op (h : MD D E m) {i : Int} (h0 : 0 ≤ i) (h1 : i < 1100) : mm_gI m 323 i.toNat = iI (opS D i) := by
  rw [h.2.1 323 i.toNat (by
    have : Nat.blt i.toNat 1100 = true := by rw [Nat.blt_eq]; omega
    unfold pmI
    rw [this]
    rfl)]
  unfold opS
  rw [iI_toInt]
theorem MD_ar (h : MD D E m) {i : Int} (h0 : 0 ≤ i) (h1 : i < 1100) : mm_gI m 324 i.toNat = iI (arS D i) := by
  rw [h.2.1 324 i.toNat (by
    have : Nat.blt i.toNat 1100 = true := by rw [Nat.blt_eq]; omega
    unfold pmI
    rw [this]
    rfl)]
  unfold arS
  rw [iI_toInt]
theorem opS_r (i : Int) : -2147483648 ≤ opS D i ∧ opS D i < 2147483648 := ⟨Int32.le_toInt _, Int32.toInt_lt _⟩
theorem arS_r (i : Int) : -2147483648 ≤ arS D i ∧ arS D i < 2147483648 := ⟨Int32.le_toInt _, Int32.toInt_lt _⟩
theorem M204 {c : Int} {a b : Int32} (h0 : 4 ≤ c) (h1 : c ≤ 10) : mm_ev d 204 0 [some (.int (iI c)), some (.int a), some (.int b)] [] m = some (some (some (.int (bothS c a b))), m) := by
  have hc : c = 4 ∨ c = 5 ∨ c = 6 ∨ c = 7 ∨ c = 8 ∨ c = 9 ∨ c = 10 := by omega
  rw [sg_204_0]
  unfold bothS
  rcases hc with rfl | rfl | rfl | rfl | rfl | rfl | rfl
  · simp (disch := omega) only [↓reduceIte, not_false_eq_true, not_true_eq_false, and_self, and_true, true_and, false_and, and_false, or_true, true_or, or_false, false_or, or_self, reduceCtorEq, mm_q, Option.getD_some, cI_some, cJ_some, cV_some, cS_some, kd_sI, kd_sL, kd_sR, kd_cp, ln_sI, ln_sL, ln_sR, ln_cp, gR_sI, gR_sL, gR_sR, gR_cp, gL_sI, gL_sR, gL_cp, gI_sL, gI_sR, iI_add, iI_sub, iI_mul, iI_neg, iI_in, iI_tn, iI_lt, iI_eq, Nat.reduceLeDiff, Nat.reduceEqDiff, Nat.reduceAdd, Int.reduceEq, Int.reduceLT, Int.reduceLE, Int.reduceNeg, Int.reduceAdd, Int.reduceSub, Int.reduceMul]
  · simp (disch := omega) only [↓reduceIte, not_false_eq_true, not_true_eq_false, and_self, and_true, true_and, false_and, and_false, or_true, true_or, or_false, false_or, or_self, reduceCtorEq, mm_q, Option.getD_some, cI_some, cJ_some, cV_some, cS_some, kd_sI, kd_sL, kd_sR, kd_cp, ln_sI, ln_sL, ln_sR, ln_cp, gR_sI, gR_sL, gR_sR, gR_cp, gL_sI, gL_sR, gL_cp, gI_sL, gI_sR, iI_add, iI_sub, iI_mul, iI_neg, iI_in, iI_tn, iI_lt, iI_eq, Nat.reduceLeDiff, Nat.reduceEqDiff, Nat.reduceAdd, Int.reduceEq, Int.reduceLT, Int.reduceLE, Int.reduceNeg, Int.reduceAdd, Int.reduceSub, Int.reduceMul]
  · simp (disch := omega) only [↓reduceIte, not_false_eq_true, not_true_eq_false, and_self, and_true, true_and, false_and, and_false, or_true, true_or, or_false, false_or, or_self, reduceCtorEq, mm_q, Option.getD_some, cI_some, cJ_some, cV_some, cS_some, kd_sI, kd_sL, kd_sR, kd_cp, ln_sI, ln_sL, ln_sR, ln_cp, gR_sI, gR_sL, gR_sR, gR_cp, gL_sI, gL_sR, gL_cp, gI_sL, gI_sR, iI_add, iI_sub, iI_mul, iI_neg, iI_in, iI_tn, iI_lt, iI_eq, Nat.reduceLeDiff, Nat.reduceEqDiff, Nat.reduceAdd, Int.reduceEq, Int.reduceLT, Int.reduceLE, Int.reduceNeg, Int.reduceAdd, Int.reduceSub, Int.reduceMul]
  · simp (disch := omega) only [↓reduceIte, not_false_eq_true, not_true_eq_false, and_self, and_true, true_and, false_and, and_false, or_true, true_or, or_false, false_or, or_self, reduceCtorEq, mm_q, Option.getD_some, cI_some, cJ_some, cV_some, cS_some, kd_sI, kd_sL, kd_sR, kd_cp, ln_sI, ln_sL, ln_sR, ln_cp, gR_sI, gR_sL, gR_sR, gR_cp, gL_sI, gL_sR, gL_cp, gI_sL, gI_sR, iI_add, iI_sub, iI_mul, iI_neg, iI_in, iI_tn, iI_lt, iI_eq, Nat.reduceLeDiff, Nat.reduceEqDiff, Nat.reduceAdd, Int.reduceEq, Int.reduceLT, Int.reduceLE, Int.reduceNeg, Int.reduceAdd, Int.reduceSub, Int.reduceMul]
    split <;> rfl
  · simp (disch := omega) only [↓reduceIte, not_false_eq_true, not_true_eq_false, and_self, and_true, true_and, false_and, and_false, or_true, true_or, or_false, false_or, or_self, reduceCtorEq, mm_q, Option.getD_some, cI_some, cJ_some, cV_some, cS_some, kd_sI, kd_sL, kd_sR, kd_cp, ln_sI, ln_sL, ln_sR, ln_cp, gR_sI, gR_sL, gR_sR, gR_cp, gL_sI, gL_sR, gL_cp, gI_sL, gI_sR, iI_add, iI_sub, iI_mul, iI_neg, iI_in, iI_tn, iI_lt, iI_eq, Nat.reduceLeDiff, Nat.reduceEqDiff, Nat.reduceAdd, Int.reduceEq, Int.reduceLT, Int.reduceLE, Int.reduceNeg, Int.reduceAdd, Int.reduceSub, Int.reduceMul]
    split <;> rfl
  · simp (disch := omega) only [↓reduceIte, not_false_eq_true, not_true_eq_false, and_self, and_true, true_and, false_and, and_false, or_true, true_or, or_false, false_or, or_self, reduceCtorEq, mm_q, Option.getD_some, cI_some, cJ_some, cV_some, cS_some, kd_sI, kd_sL, kd_sR, kd_cp, ln_sI, ln_sL, ln_sR, ln_cp, gR_sI, gR_sL, gR_sR, gR_cp, gL_sI, gL_sR, gL_cp, gI_sL, gI_sR, iI_add, iI_sub, iI_mul, iI_neg, iI_in, iI_tn, iI_lt, iI_eq, Nat.reduceLeDiff, Nat.reduceEqDiff, Nat.reduceAdd, Int.reduceEq, Int.reduceLT, Int.reduceLE, Int.reduceNeg, Int.reduceAdd, Int.reduceSub, Int.reduceMul]
    split
    · rfl
    · split <;> rfl
  · simp (disch := omega) only [↓reduceIte, not_false_eq_true, not_true_eq_false, and_self, and_true, true_and, false_and, and_false, or_true, true_or, or_false, false_or, or_self, reduceCtorEq, mm_q, Option.getD_some, cI_some, cJ_some, cV_some, cS_some, kd_sI, kd_sL, kd_sR, kd_cp, ln_sI, ln_sL, ln_sR, ln_cp, gR_sI, gR_sL, gR_sR, gR_cp, gL_sI, gL_sR, gL_cp, gI_sL, gI_sR, iI_add, iI_sub, iI_mul, iI_neg, iI_in, iI_tn, iI_lt, iI_eq, Nat.reduceLeDiff, Nat.reduceEqDiff, Nat.reduceAdd, Int.reduceEq, Int.reduceLT, Int.reduceLE, Int.reduceNeg, Int.reduceAdd, Int.reduceSub, Int.reduceMul]
    split
    · split <;> rfl
    · rfl
theorem pile_up {h : Nat} {v : Int32} : (fun k => mm_gI (mm_sI m 331 h v) 331 k) = upS (fun k => mm_gI m 331 k) h v := by
  funext k
  unfold upS
  rw [gI_sI]
  simp only [true_and]
theorem Fr.s331 {k : Nat} {v : Int32} : Fr scL m (mm_sI m 331 k v) := Fr.sI rfl
theorem M203L (hd : 1 ≤ d) {lo : Int} (hlo : lo = 0 ∨ lo = 2) {x y : Int32} : ∀ (n : Nat) (i : Int) (h : Nat) (m : mm_M) (z : Option Value) (l1 : Int32), lawOk D lo n i h → h ≤ 32 → MD D E m → mm_gI m 330 lo.toNat = x → mm_gI m 330 (lo + 1).toNat = y → ∃ m', mm_ev d 203 4 [some (.ref 316), some (.int l1), some (.int (iI h)), some (.int (iI i)), z] [] m = some (some (some (.int (lawGo D lo x y n i (fun k => mm_gI m 331 k) h))), m') ∧ Fr scL m m'
  | 0, _, _, _, _, _, ok, _, _, _, _ => ok.elim
  | n + 1, i, h, m, z, l1, ok, hh, hM, hx, hy => by
    obtain ⟨⟨i0, i1⟩, c⟩ := ok
    have key : ∀ (h2 : Nat) (k : Nat) (v : Int32) (z : Option Value), lawOk D lo n (i + 1) h2 → h2 ≤ 32 → ∃ m', mm_ev d 203 4 [some (.ref 316), some (.int l1), some (.int (iI h2)), some (.int (iI (i + 1))), z] [] (mm_sI m 331 k v) = some (some (some (.int (lawGo D lo x y n (i + 1) (upS (fun k => mm_gI m 331 k) k v) h2))), m') ∧ Fr scL m m' := by
      intro h2 k v z ok2 hh2
      obtain ⟨m', e1, f1⟩ := M203L (x := x) (y := y) hd hlo n (i + 1) h2 (mm_sI m 331 k v) z l1 ok2 hh2 (hM.frL Fr.s331) (by rw [gI_sI, if_neg (by omega)]; exact hx) (by rw [gI_sI, if_neg (by omega)]; exact hy)
      rw [pile_up] at e1
      exact ⟨m', e1, Fr.s331.tr f1⟩
    have o9 := opS_r (D := D) i
    have a9 := arS_r (D := D) i
    unfold lawGo
    rw [sg_203_4 (by omega)]
    rcases c with ⟨o, rfl⟩ | ⟨o, b0, h1, ok⟩ | ⟨o, b0, h1, ok⟩ | ⟨o, h1, ok⟩ | ⟨o1, o2, h1, ok⟩
    · refine ⟨m, ?_, Fr.rf⟩
      simp (disch := omega) only [shM hM.1, ↓reduceIte, not_false_eq_true, not_true_eq_false, and_self, and_true, true_and, false_and, and_false, or_true, true_or, or_false, false_or, or_self, reduceCtorEq, mm_q, Option.getD_some, cI_some, cJ_some, cV_some, cS_some, kd_sI, kd_sL, kd_sR, kd_cp, ln_sI, ln_sL, ln_sR, ln_cp, gR_sI, gR_sL, gR_sR, gR_cp, gL_sI, gL_sR, gL_cp, gI_sL, gI_sR, iI_add, iI_sub, iI_mul, iI_neg, iI_in, iI_tn, iI_lt, iI_eq, Nat.reduceLeDiff, Nat.reduceEqDiff, Nat.reduceAdd, Int.reduceEq, Int.reduceLT, Int.reduceLE, Int.reduceNeg, Int.reduceAdd, Int.reduceSub, Int.reduceMul, MD_op hM, o]
      rfl
    · obtain ⟨m', e1, f1⟩ := key (h + 1) h (iI (arS D i)) (some (.int (iI 1))) ok (by omega)
      refine ⟨m', ?_, f1⟩
      simp (disch := omega) only [shM hM.1, ↓reduceIte, not_false_eq_true, not_true_eq_false, and_self, and_true, true_and, false_and, and_false, or_true, true_or, or_false, false_or, or_self, reduceCtorEq, mm_q, Option.getD_some, cI_some, cJ_some, cV_some, cS_some, kd_sI, kd_sL, kd_sR, kd_cp, ln_sI, ln_sL, ln_sR, ln_cp, gR_sI, gR_sL, gR_sR, gR_cp, gL_sI, gL_sR, gL_cp, gI_sL, gI_sR, iI_add, iI_sub, iI_mul, iI_neg, iI_in, iI_tn, iI_lt, iI_eq, Nat.reduceLeDiff, Nat.reduceEqDiff, Nat.reduceAdd, Int.reduceEq, Int.reduceLT, Int.reduceLE, Int.reduceNeg, Int.reduceAdd, Int.reduceSub, Int.reduceMul, MD_op hM, o, sg_203_33, sg_203_64, sg_203_134, MD_ar hM, Int.toNat_natCast]
      exact e1
    · obtain ⟨m', e1, f1⟩ := key (h + 1) h (if arS D i = lo then x else y) (some (.int (iI 2))) ok (by omega)
      refine ⟨m', ?_, f1⟩
      have e3 : mm_gI m 330 (arS D i).toNat = if arS D i = lo then x else y := by
        rcases b0 with b0 | b0
        · rw [if_pos b0, b0, hx]
        · rw [if_neg (by omega), b0, hy]
      have b1 : 0 ≤ arS D i ∧ arS D i < 4 := by omega
      simp (disch := omega) only [shM hM.1, ↓reduceIte, not_false_eq_true, not_true_eq_false, and_self, and_true, true_and, false_and, and_false, or_true, true_or, or_false, false_or, or_self, reduceCtorEq, mm_q, Option.getD_some, cI_some, cJ_some, cV_some, cS_some, kd_sI, kd_sL, kd_sR, kd_cp, ln_sI, ln_sL, ln_sR, ln_cp, gR_sI, gR_sL, gR_sR, gR_cp, gL_sI, gL_sR, gL_cp, gI_sL, gI_sR, iI_add, iI_sub, iI_mul, iI_neg, iI_in, iI_tn, iI_lt, iI_eq, Nat.reduceLeDiff, Nat.reduceEqDiff, Nat.reduceAdd, Int.reduceEq, Int.reduceLT, Int.reduceLE, Int.reduceNeg, Int.reduceAdd, Int.reduceSub, Int.reduceMul, MD_op hM, o, sg_203_33, sg_203_64, sg_203_134, MD_ar hM, Int.toNat_natCast, e3]
      exact e1
    · obtain ⟨m', e1, f1⟩ := key h (h - 1) (if mm_gI m 331 (h - 1) = iI 0 then iI 1 else iI 0) (some (.int (iI 3))) ok (by omega)
      refine ⟨m', ?_, f1⟩
      have e4 : ((h : Int) - 1).toNat = h - 1 := by omega
      simp (disch := omega) only [shM hM.1, ↓reduceIte, not_false_eq_true, not_true_eq_false, and_self, and_true, true_and, false_and, and_false, or_true, true_or, or_false, false_or, or_self, reduceCtorEq, mm_q, Option.getD_some, cI_some, cJ_some, cV_some, cS_some, kd_sI, kd_sL, kd_sR, kd_cp, ln_sI, ln_sL, ln_sR, ln_cp, gR_sI, gR_sL, gR_sR, gR_cp, gL_sI, gL_sR, gL_cp, gI_sL, gI_sR, iI_add, iI_sub, iI_mul, iI_neg, iI_in, iI_tn, iI_lt, iI_eq, Nat.reduceLeDiff, Nat.reduceEqDiff, Nat.reduceAdd, Int.reduceEq, Int.reduceLT, Int.reduceLE, Int.reduceNeg, Int.reduceAdd, Int.reduceSub, Int.reduceMul, MD_op hM, o, sg_203_100, sg_203_134, e4]
      by_cases z9 : mm_gI m 331 (h - 1) = iI 0
      · rw [if_pos z9] at e1 ⊢
        simp (disch := omega) only [z9, ↓reduceIte, not_false_eq_true, not_true_eq_false, and_self, and_true, true_and, false_and, and_false, or_true, true_or, or_false, false_or, or_self, reduceCtorEq, mm_q, Option.getD_some, cI_some, cJ_some, cV_some, cS_some, kd_sI, kd_sL, kd_sR, kd_cp, ln_sI, ln_sL, ln_sR, ln_cp, gR_sI, gR_sL, gR_sR, gR_cp, gL_sI, gL_sR, gL_cp, gI_sL, gI_sR, iI_add, iI_sub, iI_mul, iI_neg, iI_in, iI_tn, iI_lt, iI_eq, Nat.reduceLeDiff, Nat.reduceEqDiff, Nat.reduceAdd, Int.reduceEq, Int.reduceLT, Int.reduceLE, Int.reduceNeg, Int.reduceAdd, Int.reduceSub, Int.reduceMul] at e1 ⊢
        exact e1
      · rw [if_neg z9] at e1 ⊢
        simp (disch := omega) only [z9, ↓reduceIte, not_false_eq_true, not_true_eq_false, and_self, and_true, true_and, false_and, and_false, or_true, true_or, or_false, false_or, or_self, reduceCtorEq, mm_q, Option.getD_some, cI_some, cJ_some, cV_some, cS_some, kd_sI, kd_sL, kd_sR, kd_cp, ln_sI, ln_sL, ln_sR, ln_cp, gR_sI, gR_sL, gR_sR, gR_cp, gL_sI, gL_sR, gL_cp, gI_sL, gI_sR, iI_add, iI_sub, iI_mul, iI_neg, iI_in, iI_tn, iI_lt, iI_eq, Nat.reduceLeDiff, Nat.reduceEqDiff, Nat.reduceAdd, Int.reduceEq, Int.reduceLT, Int.reduceLE, Int.reduceNeg, Int.reduceAdd, Int.reduceSub, Int.reduceMul] at e1 ⊢
        exact e1
    · obtain ⟨m', e1, f1⟩ := key (h - 1) (h - 2) (bothS (opS D i) (mm_gI m 331 (h - 2)) (mm_gI m 331 (h - 1))) (some (.int (iI (opS D i)))) ok (by omega)
      refine ⟨m', ?_, f1⟩
      have e4 : ((h : Int) + -1 - 1).toNat = h - 2 := by omega
      have e5 : ((h : Int) + -1).toNat = h - 1 := by omega
      have e6 : ((h - 1 : Nat) : Int) = (h : Int) + -1 := by omega
      have n0 : ¬ opS D i = 0 := by omega
      have n1 : ¬ opS D i = 1 := by omega
      have n2 : ¬ opS D i = 2 := by omega
      have n3 : ¬ opS D i = 3 := by omega
      simp (disch := omega) only [shM hM.1, ↓reduceIte, not_false_eq_true, not_true_eq_false, and_self, and_true, true_and, false_and, and_false, or_true, true_or, or_false, false_or, or_self, reduceCtorEq, mm_q, Option.getD_some, cI_some, cJ_some, cV_some, cS_some, kd_sI, kd_sL, kd_sR, kd_cp, ln_sI, ln_sL, ln_sR, ln_cp, gR_sI, gR_sL, gR_sR, gR_cp, gL_sI, gL_sR, gL_cp, gI_sL, gI_sR, iI_add, iI_sub, iI_mul, iI_neg, iI_in, iI_tn, iI_lt, iI_eq, Nat.reduceLeDiff, Nat.reduceEqDiff, Nat.reduceAdd, Int.reduceEq, Int.reduceLT, Int.reduceLE, Int.reduceNeg, Int.reduceAdd, Int.reduceSub, Int.reduceMul, MD_op hM, n0, n1, n2, n3, sg_203_133, sg_203_134, e4, e5, M204]
      rw [e6] at e1
      exact e1
/-- worthAt -/
theorem M203 (hd : 1 ≤ d) {lo : Int} (hlo : lo = 0 ∨ lo = 2) {x y : Int32} {i : Int} (ok : lawOk D lo 1100 i 0) (hM : MD D E m) (hx : mm_gI m 330 lo.toNat = x) (hy : mm_gI m 330 (lo + 1).toNat = y) : ∃ m', mm_ev d 203 0 [some (.ref 316), some (.int (iI i)), none, none, none] [] m = some (some (some (.int (lawS D lo x y i))), m') ∧ Fr scL m m' := by
  obtain ⟨m', e1, f1⟩ := M203L (D := D) (E := E) hd hlo 1100 i 0 m none (iI i) ok (by omega) hM hx hy
  refine ⟨m', ?_, f1⟩
  rw [sg_203_0]
  unfold lawS
  rw [lawGo_c 1100 i 0 (fun _ => iI 0) (fun k => mm_gI m 331 k) ok (fun k hk => by omega)]
  exact e1
end
