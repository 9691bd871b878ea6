/-- the takes laid down -/
def lyD (D : Nat → Nat → Int32) (A : Nat → Int) (k : Int) : Nat → Nat → Int32 := fun a j => if a = 329 ∧ j = 0 then iI k else if a = 329 ∧ 1 ≤ j ∧ (j : Int) ≤ 3 * k then iI (A (j - 1)) else D a j
section
variable {D : Nat → Nat → Int32} {E : Nat → Nat → Int64} {m m' c c' c'' : mm_M} {d s p : Nat} {n N i f : Int} {T : TK} {k : Int} {A : Nat → Int}
theorem ly_o {a j : Nat} (h : ¬ a = 329) : lyD D A k a j = D a j := by unfold lyD; rw [if_neg (by omega), if_neg (by omega)]
theorem M198cL (hs : Sh m) (k0 : 0 ≤ k) (k1 : k ≤ 30) : ∀ (r j : Nat) (m1 : mm_M), (j : Int) + r = 3 * k → Upd m m1 (fun a q => if a = 329 ∧ 1 ≤ q ∧ q < 1 + j then mm_gI m 329 (99 + q) else mm_gI m a q) → ∃ m', mm_ev d 198 195 [some (.ref 316), some (.int (iI (k))), some (.int (iI ((j : Int))))] [] m1 = some (some (some (.int (iI 0))), m') ∧ Upd m m' (fun a q => if a = 329 ∧ 1 ≤ q ∧ (q : Int) ≤ 3 * k then mm_gI m 329 (99 + q) else mm_gI m a q)
  | 0, j, m1, hj, u => by
    refine ⟨m1, ?_, u.cg (fun a q => ?_)⟩
    · rw [sg_198_195]
      simp (disch := omega) only [↓reduceIte, not_false_eq_true, not_true_eq_false, and_self, and_true, true_and, false_and, and_false, or_true, true_or, or_false, false_or, or_self, reduceCtorEq, mm_q, Option.getD_some, cI_some, cJ_some, cV_some, cS_some, kd_sI, kd_sL, kd_sR, kd_cp, ln_sI, ln_sL, ln_sR, ln_cp, gR_sI, gR_sL, gR_sR, gR_cp, gL_sI, gL_sR, gL_cp, gI_sL, gI_sR, iI_add, iI_sub, iI_mul, iI_neg, iI_in, iI_tn, iI_lt, iI_eq, Nat.reduceLeDiff, Nat.reduceEqDiff, Nat.reduceAdd, Int.reduceEq, Int.reduceLT, Int.reduceLE, Int.reduceNeg, Int.reduceAdd, Int.reduceSub, Int.reduceMul, show ¬ (j : Int) < 3 * k by omega]
    · by_cases y : a = 329 ∧ 1 ≤ q ∧ q < 1 + j
      · rw [if_pos y, if_pos (by omega)]
      · rw [if_neg y, if_neg (by omega)]
  | r + 1, j, m1, hj, u => by
    have hs1 := u.sh hs
    have u2 : Upd m (mm_sI m1 329 (1 + j) (mm_gI m1 329 (100 + j))) (fun a q => if a = 329 ∧ 1 ≤ q ∧ q < 1 + (j + 1) then mm_gI m 329 (99 + q) else mm_gI m a q) := (u.tr Upd.sI).cg (fun a q => by
      unfold up
      simp only [u.2.2.2.2]
      by_cases y : a = 329 ∧ q = 1 + j
      · obtain ⟨rfl, rfl⟩ := y
        rw [if_pos ⟨rfl, rfl⟩, if_neg (by omega), if_pos (by omega), show 99 + (1 + j) = 100 + j by omega]
      · rw [if_neg y]
        by_cases y2 : a = 329 ∧ 1 ≤ q ∧ q < 1 + j
        · rw [if_pos y2, if_pos (by omega)]
        · rw [if_neg y2, if_neg (by omega)])
    obtain ⟨m', e, u3⟩ := M198cL hs k0 k1 r (j + 1) _ (by omega) u2
    refine ⟨m', ?_, u3⟩
    rw [← e, sg_198_195]
    simp (disch := omega) only [shM hs1, ↓reduceIte, not_false_eq_true, not_true_eq_false, and_self, and_true, true_and, false_and, and_false, or_true, true_or, or_false, false_or, or_self, reduceCtorEq, mm_q, Option.getD_some, cI_some, cJ_some, cV_some, cS_some, kd_sI, kd_sL, kd_sR, kd_cp, ln_sI, ln_sL, ln_sR, ln_cp, gR_sI, gR_sL, gR_sR, gR_cp, gL_sI, gL_sR, gL_cp, gI_sL, gI_sR, iI_add, iI_sub, iI_mul, iI_neg, iI_in, iI_tn, iI_lt, iI_eq, Nat.reduceLeDiff, Nat.reduceEqDiff, Nat.reduceAdd, Int.reduceEq, Int.reduceLT, Int.reduceLE, Int.reduceNeg, Int.reduceAdd, Int.reduceSub, Int.reduceMul, show (j : Int) < 3 * k by omega, show ((1 : Int) + j).toNat = 1 + j by omega, show ((100 : Int) + j).toNat = 100 + j by omega, show ((j : Int) + 1) = ((j + 1 : Nat) : Int) by omega]
/-- the model's takes are kept -/
theorem M198k (h : PF D E T N i 0 m) (hK : KM A k m) (k0 : 0 ≤ k) (k1 : k ≤ 30) {z : Option Value} : ∃ m', mm_ev d 198 174 [some (.ref 316), some (.int (iI (k))), z] [] m = some (some (some (.int (iI 0))), m') ∧ MD (lyD D A k) E m' ∧ Fr scA m m' := by
  obtain ⟨m', e, u⟩ := M198cL (d := d) (m := mm_sI m 329 0 (iI k)) (k := k) h.1.1 k0 k1 (3 * k).toNat 0 (mm_sI m 329 0 (iI k)) (by omega) (Upd.rf.cg (fun a q => by rw [if_neg (by omega)]))
  refine ⟨m', ?_, ⟨u.sh h.1.1, fun a q y => ?_, fun a q y => ?_⟩, (Fr.sA (by omega) (by omega)).tr (u.fr (fun a q y => if_neg (fun z => ?_)))⟩
  · rw [← e, sg_198_174]
    simp (disch := omega) only [shM h.1.1, ↓reduceIte, not_false_eq_true, not_true_eq_false, and_self, and_true, true_and, false_and, and_false, or_true, true_or, or_false, false_or, or_self, reduceCtorEq, mm_q, Option.getD_some, cI_some, cJ_some, cV_some, cS_some, kd_sI, kd_sL, kd_sR, kd_cp, ln_sI, ln_sL, ln_sR, ln_cp, gR_sI, gR_sL, gR_sR, gR_cp, gL_sI, gL_sR, gL_cp, gI_sL, gI_sR, iI_add, iI_sub, iI_mul, iI_neg, iI_in, iI_tn, iI_lt, iI_eq, Nat.reduceLeDiff, Nat.reduceEqDiff, Nat.reduceAdd, Int.reduceEq, Int.reduceLT, Int.reduceLE, Int.reduceNeg, Int.reduceAdd, Int.reduceSub, Int.reduceMul, h.2.2.2.1, Int.toNat_zero]
    rfl
  · rw [u.2.2.2.2]
    dsimp only
    unfold lyD
    by_cases y1 : a = 329 ∧ q = 0
    · obtain ⟨rfl, rfl⟩ := y1
      rw [if_neg (by omega), if_pos ⟨rfl, rfl⟩, gI_sI, if_pos ⟨rfl, rfl⟩]
    · by_cases y2 : a = 329 ∧ 1 ≤ q ∧ (q : Int) ≤ 3 * k
      · rw [if_pos y2, if_neg y1, if_pos y2, gI_sI, if_neg (by omega), show 99 + q = 100 + (q - 1) by omega]
        exact hK (q - 1) (by omega)
      · rw [if_neg y2, if_neg y1, if_neg y2, gI_sI, if_neg y1]
        exact h.1.2.1 a q y
  · rw [u.2.2.2.1]
    exact h.1.2.2 a q y
  · obtain ⟨rfl, z1, z2⟩ := z
    rw [show scA 329 q = true from rfl] at y
    cases y
theorem M198f (h : PF D E T N i f m) (hf : ¬ f = 0) {x : Int32} {z : Option Value} : mm_ev d 198 174 [some (.ref 316), some (.int x), z] [] m = some (some (some (.int (iI f))), m) := by
  obtain ⟨f0, f1⟩ := h.2.2.2.2.2
  rw [sg_198_174]
  simp (disch := omega) only [shM h.1.1, ↓reduceIte, not_false_eq_true, not_true_eq_false, and_self, and_true, true_and, false_and, and_false, or_true, true_or, or_false, false_or, or_self, reduceCtorEq, mm_q, Option.getD_some, cI_some, cJ_some, cV_some, cS_some, kd_sI, kd_sL, kd_sR, kd_cp, ln_sI, ln_sL, ln_sR, ln_cp, gR_sI, gR_sL, gR_sR, gR_cp, gL_sI, gL_sR, gL_cp, gI_sL, gI_sR, iI_add, iI_sub, iI_mul, iI_neg, iI_in, iI_tn, iI_lt, iI_eq, Nat.reduceLeDiff, Nat.reduceEqDiff, Nat.reduceAdd, Int.reduceEq, Int.reduceLT, Int.reduceLE, Int.reduceNeg, Int.reduceAdd, Int.reduceSub, Int.reduceMul, h.2.2.2.1, show 0 < f by omega]
/-- the class's takes are these -/
theorem KC.rn (h : KC A k c p) (k0 : 0 ≤ k) (k1 : k ≤ 30) (hB : KB D A k) (b8 : st D 6 ≤ 8) (l1 : st D 0 ≤ 40) : RN (lyD D A k) c p ∧ li (lyD D A k) 0 = k := by
  have e0 : li (lyD D A k) 0 = k := by unfold li lyD; rw [if_pos ⟨rfl, rfl⟩, iI_val (by omega) (by omega)]
  refine ⟨⟨by rw [e0]; exact h.1, fun j j0 j1 => ?_⟩, e0⟩
  rw [e0] at j1
  have hb := hB j.toNat (by omega)
  have hj := h.2 j.toNat (by omega)
  have q0 : li (lyD D A k) (1 + 3 * j) = A (3 * j.toNat) := by
    unfold li lyD
    rw [if_neg (by omega), if_pos (by omega), show (1 + 3 * j).toNat - 1 = 3 * j.toNat by omega, iI_val (by omega) (by omega)]
  have q1 : A (3 * j.toNat) < 3 → li (lyD D A k) (2 + 3 * j) = A (3 * j.toNat + 1) := fun y => by
    unfold li lyD
    rw [if_neg (by omega), if_pos (by omega), show (2 + 3 * j).toNat - 1 = 3 * j.toNat + 1 by omega, iI_val (by have := hb.2.1 y; omega) (by have := hb.2.1 y; omega)]
  have q2 : A (3 * j.toNat) = 0 ∨ A (3 * j.toNat) = 2 → li (lyD D A k) (3 + 3 * j) = A (3 * j.toNat + 2) := fun y => by
    have b0 := hb.2.2.1
    have b2 := hb.2.2.2
    unfold li lyD
    rw [if_neg (by omega), if_pos (by omega), show (3 + 3 * j).toNat - 1 = 3 * j.toNat + 2 by omega, iI_val (by omega) (by omega)]
  rw [q0]
  exact ⟨hj.1, fun y => by rw [q1 y]; exact hj.2.1 y, fun y => by rw [q2 y]; exact hj.2.2 y⟩
/-- and they are well -/
theorem KB.inv (hB : KB D A k) (k0 : 0 ≤ k) (k1 : k ≤ 30) (b8 : st D 6 ≤ 8) (l1 : st D 0 ≤ 40) : InvN (lyD D A k) := by
  have e0 : li (lyD D A k) 0 = k := by unfold li lyD; rw [if_pos ⟨rfl, rfl⟩, iI_val (by omega) (by omega)]
  have s0 : ∀ j, st (lyD D A k) j = st D j := fun j => by unfold st; rw [ly_o (by omega)]
  refine ⟨by rw [e0]; omega, fun j j0 j1 => ?_⟩
  rw [e0] at j1
  have hb := hB j.toNat (by omega)
  have q0 : li (lyD D A k) (1 + 3 * j) = A (3 * j.toNat) := by
    unfold li lyD
    rw [if_neg (by omega), if_pos (by omega), show (1 + 3 * j).toNat - 1 = 3 * j.toNat by omega, iI_val (by omega) (by omega)]
  have q1 : A (3 * j.toNat) < 3 → li (lyD D A k) (2 + 3 * j) = A (3 * j.toNat + 1) := fun y => by
    unfold li lyD
    rw [if_neg (by omega), if_pos (by omega), show (2 + 3 * j).toNat - 1 = 3 * j.toNat + 1 by omega, iI_val (by have := hb.2.1 y; omega) (by have := hb.2.1 y; omega)]
  have q2 : A (3 * j.toNat) = 0 ∨ A (3 * j.toNat) = 2 → li (lyD D A k) (3 + 3 * j) = A (3 * j.toNat + 2) := fun y => by
    have b0 := hb.2.2.1
    have b2 := hb.2.2.2
    unfold li lyD
    rw [if_neg (by omega), if_pos (by omega), show (3 + 3 * j).toNat - 1 = 3 * j.toNat + 2 by omega, iI_val (by omega) (by omega)]
  rw [q0, s0, s0]
  exact ⟨hb.1, fun y => by rw [q1 y]; exact hb.2.1 y, fun y => by rw [q2 (Or.inl y)]; exact hb.2.2.1 y, fun y => by rw [q2 (Or.inr y)]; exact hb.2.2.2 y⟩
end
