/-- takes as far as read: A holds kind, walker, number -/
def KM (A : Nat → Int) (k : Int) (m : mm_M) : Prop := ∀ j : Nat, (j : Int) < 3 * k → mm_gI m 329 (100 + j) = iI (A j)
def KC (A : Nat → Int) (k : Int) (c : mm_M) (p : Nat) : Prop := mm_gI c p 0 = iI k ∧ ∀ j : Nat, (j : Int) < k → mm_gI c (p + 1) j = iI (17 + A (3 * j)) ∧ (A (3 * j) < 3 → mm_gI c (p + 2) j = iI (A (3 * j + 1))) ∧ (A (3 * j) = 0 ∨ A (3 * j) = 2 → mm_gI c (p + 3) j = iI (A (3 * j + 2)))
def KB (D : Nat → Nat → Int32) (A : Nat → Int) (k : Int) : Prop := ∀ j : Nat, (j : Int) < k → (0 ≤ A (3 * j) ∧ A (3 * j) ≤ 3) ∧ (A (3 * j) < 3 → 0 ≤ A (3 * j + 1) ∧ A (3 * j + 1) < st D 6) ∧ (A (3 * j) = 0 → 0 ≤ A (3 * j + 2) ∧ A (3 * j + 2) < st D 0) ∧ (A (3 * j) = 2 → 0 ≤ A (3 * j + 2) ∧ A (3 * j + 2) ≤ 99)
def nxA (A : Nat → Int) (k w x y : Int) : Nat → Int := fun j => if (j : Int) = 3 * k then w else if (j : Int) = 3 * k + 1 then x else if (j : Int) = 3 * k + 2 then y else A j
section
variable {D : Nat → Nat → Int32} {E : Nat → Nat → Int64} {m m' c c' c'' : mm_M} {d s p : Nat} {n N i f : Int} {T : TK} {Y : Nat → Int64} {W : Nat → Int32} {cnt k w v x y Ln : Int} {A : Nat → Int}
theorem nx_0 {j : Nat} (h : (j : Int) = 3 * k) : nxA A k w x y j = w := by unfold nxA; rw [if_pos h]
theorem nx_1 {j : Nat} (h : (j : Int) = 3 * k + 1) : nxA A k w x y j = x := by unfold nxA; rw [if_neg (by omega), if_pos h]
theorem nx_2 {j : Nat} (h : (j : Int) = 3 * k + 2) : nxA A k w x y j = y := by unfold nxA; rw [if_neg (by omega), if_neg (by omega), if_pos h]
theorem nx_o {j : Nat} (h : (j : Int) < 3 * k) : nxA A k w x y j = A j := by unfold nxA; rw [if_neg (by omega), if_neg (by omega), if_neg (by omega)]
theorem KM.nx (h : KM A k m) (k0 : 0 ≤ k) (e0 : mm_gI m' 329 (100 + 3 * k).toNat = iI w) (e1 : mm_gI m' 329 (101 + 3 * k).toNat = iI x) (e2 : mm_gI m' 329 (102 + 3 * k).toNat = iI y) (e : ∀ x : Nat, (x : Int) < 100 + 3 * k → mm_gI m' 329 x = mm_gI m 329 x) : KM (nxA A k w x y) (k + 1) m' := fun j hj => by
  by_cases z0 : (j : Int) = 3 * k
  · rw [nx_0 z0, show 100 + j = (100 + 3 * k).toNat by omega]; exact e0
  · by_cases z1 : (j : Int) = 3 * k + 1
    · rw [nx_1 z1, show 100 + j = (101 + 3 * k).toNat by omega]; exact e1
    · by_cases z2 : (j : Int) = 3 * k + 2
      · rw [nx_2 z2, show 100 + j = (102 + 3 * k).toNat by omega]; exact e2
      · rw [nx_o (by omega), e _ (by omega)]; exact h j (by omega)
theorem KC.nx (h : KC A k c p) (k0 : 0 ≤ k) (e : mm_gI c' p 0 = iI (k + 1)) (e0 : mm_gI c' (p + 1) k.toNat = iI (17 + w)) (e1 : w < 3 → mm_gI c' (p + 2) k.toNat = iI x) (e2 : w = 0 ∨ w = 2 → mm_gI c' (p + 3) k.toNat = iI y) (eo : ∀ a j, p < a → a ≤ p + 3 → j < k.toNat → mm_gI c' a j = mm_gI c a j) : KC (nxA A k w x y) (k + 1) c' p := ⟨e, fun j hj => by
  by_cases z0 : (j : Int) = k
  · rw [nx_0 (show ((3 * j : Nat) : Int) = 3 * k by omega), nx_1 (show ((3 * j + 1 : Nat) : Int) = 3 * k + 1 by omega), nx_2 (show ((3 * j + 2 : Nat) : Int) = 3 * k + 2 by omega), show j = k.toNat by omega]
    exact ⟨e0, e1, e2⟩
  · rw [nx_o (show ((3 * j : Nat) : Int) < 3 * k by omega), nx_o (show ((3 * j + 1 : Nat) : Int) < 3 * k by omega), nx_o (show ((3 * j + 2 : Nat) : Int) < 3 * k by omega), eo _ _ (by omega) (by omega) (by omega), eo _ _ (by omega) (by omega) (by omega), eo _ _ (by omega) (by omega) (by omega)]
    exact h.2 j (by omega)⟩
theorem KB.nx (h : KB D A k) (w0 : 0 ≤ w) (w1 : w ≤ 3) (e1 : w < 3 → 0 ≤ x ∧ x < st D 6) (e2 : w = 0 → 0 ≤ y ∧ y < st D 0) (e3 : w = 2 → 0 ≤ y ∧ y ≤ 99) : KB D (nxA A k w x y) (k + 1) := fun j hj => by
  by_cases z0 : (j : Int) = k
  · rw [nx_0 (show ((3 * j : Nat) : Int) = 3 * k by omega), nx_1 (show ((3 * j + 1 : Nat) : Int) = 3 * k + 1 by omega), nx_2 (show ((3 * j + 2 : Nat) : Int) = 3 * k + 2 by omega)]
    exact ⟨⟨w0, w1⟩, e1, e2, e3⟩
  · rw [nx_o (show ((3 * j : Nat) : Int) < 3 * k by omega), nx_o (show ((3 * j + 1 : Nat) : Int) < 3 * k by omega), nx_o (show ((3 * j + 2 : Nat) : Int) < 3 * k by omega)]
    exact h j (by omega)
theorem tkU_r (hT : TS D n T N) (i0 : 0 ≤ i) (i1 : i ≤ N) (h : (tkU T Ln w i f).2.2 = 0) : f = 0 ∧ (i ≤ (tkU T Ln w i f).2.1 ∧ (tkU T Ln w i f).2.1 ≤ N) ∧ (w = 0 → 0 ≤ (tkU T Ln w i f).1 ∧ (tkU T Ln w i f).1 < Ln) ∧ (w = 2 → 0 ≤ (tkU T Ln w i f).1 ∧ (tkU T Ln w i f).1 ≤ 99) := by
  by_cases z0 : w = 0
  · have q : tkU T Ln w i f = tnS T 0 (Ln - 1) i f := by unfold tkU; rw [if_pos z0]
    rw [q] at h ⊢
    obtain ⟨a1, a2, a3, a4, a5⟩ := tn_r hT i0 i1 h
    exact ⟨a1, ⟨by omega, by omega⟩, fun _ => ⟨by omega, by omega⟩, fun _ => by omega⟩
  · by_cases z2 : w = 2
    · have q : tkU T Ln w i f = tnS T 0 99 i f := by unfold tkU; rw [if_neg z0, if_pos z2]
      rw [q] at h ⊢
      obtain ⟨a1, a2, a3, a4, a5⟩ := tn_r hT i0 i1 h
      exact ⟨a1, ⟨by omega, by omega⟩, fun _ => by omega, fun _ => ⟨by omega, by omega⟩⟩
    · have q : tkU T Ln w i f = (0, i, f) := by unfold tkU; rw [if_neg z0, if_neg z2]
      rw [q] at h ⊢
      exact ⟨h, ⟨by show i ≤ i; omega, i1⟩, fun y => absurd y z0, fun y => absurd y z2⟩
theorem tkV_r (hT : TS D n T N) (i0 : 0 ≤ i) (i1 : i ≤ N) (h : (tkV T Y W cnt w i).2.2 = 0) : (i ≤ (tkV T Y W cnt w i).2.1 ∧ (tkV T Y W cnt w i).2.1 ≤ N) ∧ (w < 3 → 0 ≤ (tkV T Y W cnt w i).1 ∧ fdGo Y W (tV T i) cnt.toNat 0 = 20 + (tkV T Y W cnt w i).1) := by
  by_cases z3 : w < 3
  · have q : tkV T Y W cnt w i = ((thS T Y W cnt 20 8 i 0).1, (if 0 < (thS T Y W cnt 20 8 i 0).2 then i else i + 1), (thS T Y W cnt 20 8 i 0).2) := by unfold tkV; rw [if_pos z3]
    rw [q] at h ⊢
    dsimp only at h ⊢
    obtain ⟨a1, a2, a3, a4, a5, a6⟩ := th_r hT i0 i1 h
    rw [h, if_neg (by omega)]
    exact ⟨⟨by omega, by omega⟩, fun _ => ⟨a2, a6⟩⟩
  · have q : tkV T Y W cnt w i = (0, i, 0) := by unfold tkV; rw [if_neg z3]
    rw [q]
    exact ⟨⟨by show i ≤ i; omega, i1⟩, fun y => absurd y z3⟩
theorem M198x (h : PF D E T N i f m) (hf : ¬ f = 0) (hd : 1 ≤ d) {x : Int32} {z : Option Value} : mm_ev d 198 11 [some (.ref 316), some (.int x), z] [] m = mm_ev d 198 174 [some (.ref 316), some (.int x), z] [] m := by
  obtain ⟨f0, f1⟩ := h.2.2.2.2.2
  rw [sg_198_11 (by omega)]
  simp (disch := omega) only [shM h.1.1, ↓reduceIte, not_false_eq_true, not_true_eq_false, and_self, and_true, true_and, false_and, and_false, or_true, true_or, or_false, false_or, or_self, reduceCtorEq, mm_q, Option.getD_some, cI_some, cJ_some, cV_some, cS_some, kd_sI, kd_sL, kd_sR, kd_cp, ln_sI, ln_sL, ln_sR, ln_cp, gR_sI, gR_sL, gR_sR, gR_cp, gL_sI, gL_sR, gL_cp, gI_sL, gI_sR, iI_add, iI_sub, iI_mul, iI_neg, iI_in, iI_tn, iI_lt, iI_eq, Nat.reduceLeDiff, Nat.reduceEqDiff, Nat.reduceAdd, Int.reduceEq, Int.reduceLT, Int.reduceLE, Int.reduceNeg, Int.reduceAdd, Int.reduceSub, Int.reduceMul, h.2.2.2.1, hf]
theorem M198z (hT : TS D n T N) (h : PF D E T N N 0 m) (hd : 1 ≤ d) {x : Int32} {z : Option Value} : mm_ev d 198 11 [some (.ref 316), some (.int x), z] [] m = mm_ev d 198 174 [some (.ref 316), some (.int x), z] [] m := by
  have n2 := hT.1
  have q := hT.k h.2.2.2.2.1.1 h.2.2.2.2.1.2
  have q0 : tS T N = 0 := by omega
  obtain ⟨k1, -, -⟩ := h.2.1 N (by omega) (by omega)
  rw [q0] at k1
  rw [sg_198_11 (by omega)]
  simp (disch := omega) only [shM h.1.1, ↓reduceIte, not_false_eq_true, not_true_eq_false, and_self, and_true, true_and, false_and, and_false, or_true, true_or, or_false, false_or, or_self, reduceCtorEq, mm_q, Option.getD_some, cI_some, cJ_some, cV_some, cS_some, kd_sI, kd_sL, kd_sR, kd_cp, ln_sI, ln_sL, ln_sR, ln_cp, gR_sI, gR_sL, gR_sR, gR_cp, gL_sI, gL_sR, gL_cp, gI_sL, gI_sR, iI_add, iI_sub, iI_mul, iI_neg, iI_in, iI_tn, iI_lt, iI_eq, Nat.reduceLeDiff, Nat.reduceEqDiff, Nat.reduceAdd, Int.reduceEq, Int.reduceLT, Int.reduceLE, Int.reduceNeg, Int.reduceAdd, Int.reduceSub, Int.reduceMul, h.2.2.2.1, h.2.2.1, k1]
end
