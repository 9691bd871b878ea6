section
variable {D : Nat → Nat → Int32} {m m' m'' : mm_M} {d : Nat} {A : Int → Bool} {x y : Int32}
/-- matched, the loop -/
theorem C7L (hPP : InvP D) (hA : ∀ j, 0 ≤ j → j < 10 → bi (y ^^^ iI (-1)) j = A j) (hd : 20 ≤ d) : ∀ (r : Nat) (k : Int) (q : Int × (Int → Int)) (m : mm_M), k = sa D 46 - r → 0 ≤ k → Sh m → FBt D m → (∀ j, 0 ≤ j → j < 10 → mm_gI m 210 j.toNat = iI (q.2 j)) → bfOk (sa D 46) q.2 → 0 ≤ q.1 → q.1 ≤ k → ∃ m', mm_ev d 7 13 [some (.ref 195), some (.int x), some (.int y), some (.int (iI (q.1))), some (.int (iI (k)))] [] m = some (some (some (.int (iI (matGoA (canF D) (sa D 46) A r k q).1))), m') ∧ Fr scV m m'
  | 0, k, q, m, hk, k0, hs, hF, hB, hO, q0, q1 => by
    refine ⟨m, ?_, Fr.rf⟩
    have p := hPP.1
    rw [sg_7_13 (by omega)]
    unfold matGoA
    simp (disch := omega) only [shF hs, ↓reduceIte, not_false_eq_true, not_true_eq_false, and_self, and_true, true_and, false_and, and_false, or_true, true_or, or_false, false_or, or_self, reduceCtorEq, mm_q, Option.getD_some, cI_some, cJ_some, cV_some, cS_some, kd_sI, kd_sL, kd_sR, kd_cp, ln_sI, ln_sL, ln_sR, ln_cp, gR_sI, gR_sL, gR_sR, gR_cp, gL_sI, gL_sR, gL_cp, gI_sL, gI_sR, iI_add, iI_sub, iI_mul, iI_neg, iI_in, iI_tn, iI_lt, iI_eq, Nat.reduceLeDiff, Nat.reduceEqDiff, Nat.reduceAdd, Int.reduceEq, Int.reduceLT, Int.reduceLE, Int.reduceNeg, Int.reduceAdd, Int.reduceSub, Int.reduceMul, hF.1, show ¬ k < sa D 46 by omega]
  | r + 1, k, q, m, hk, k0, hs, hF, hB, hO, q0, q1 => by
    have p := hPP.1
    have u := unA_n (n := (sa D 46).toNat) (A := A)
    have g1 : Fr scV m (mm_sI m 195 4 (y ^^^ iI (-1))) := Fr.sI rfl
    have h1 : HF (mm_sI m 195 4 (y ^^^ iI (-1))) q.2 A := fun j j0 j1 => ⟨by rw [gI_sI, if_neg (by omega)]; exact hB j j0 j1, by rw [gI_sI, if_pos ⟨rfl, rfl⟩]; exact hA j j0 j1⟩
    obtain ⟨m2, e2, g2, h2, o2⟩ := C8 hPP 11 k 0 (q.2, A) (d - 1) (mm_sI m 195 4 (y ^^^ iI (-1))) (by show unA _ A < 11; omega) (by omega) (by show unA _ A + 0 ≤ _; omega) (by omega) k0 (by omega) (g1.sh hs) (hF.f g1) h1 hO
    have F := g1.tr g2
    unfold matGoA
    generalize fnd (canF D) (sa D 46) 11 k (q.2, A) = w at e2 h2 o2 ⊢
    have run : mm_ev d 7 13 [some (.ref 195), some (.int x), some (.int y), some (.int (iI (q.1))), some (.int (iI (k)))] [] m = mm_ev d 7 13 [some (.ref 195), some (.int x), some (.int y), some (.int (iI (q.1 + bI w.1))), some (.int (iI (k + 1)))] [] m2 := by
      rw [sg_7_13 (by omega)]
      cases z : w.1
      · rw [z] at e2
        simp (disch := omega) only [shF hs, ↓reduceIte, not_false_eq_true, not_true_eq_false, and_self, and_true, true_and, false_and, and_false, or_true, true_or, or_false, false_or, or_self, reduceCtorEq, mm_q, Option.getD_some, cI_some, cJ_some, cV_some, cS_some, kd_sI, kd_sL, kd_sR, kd_cp, ln_sI, ln_sL, ln_sR, ln_cp, gR_sI, gR_sL, gR_sR, gR_cp, gL_sI, gL_sR, gL_cp, gI_sL, gI_sR, iI_add, iI_sub, iI_mul, iI_neg, iI_in, iI_tn, iI_lt, iI_eq, Nat.reduceLeDiff, Nat.reduceEqDiff, Nat.reduceAdd, Int.reduceEq, Int.reduceLT, Int.reduceLE, Int.reduceNeg, Int.reduceAdd, Int.reduceSub, Int.reduceMul, bI_t, bI_f, decide_true, decide_false, Bool.and_true, Bool.and_false, Bool.true_and, Bool.false_and, Bool.false_eq_true, Bool.and_self, Bool.not_true, Bool.not_false, Bool.true_or, Bool.false_or, Bool.or_true, Bool.or_false, hF.1, show k < sa D 46 by omega, e2, sg_7_42, Int.add_zero]
      · rw [z] at e2
        simp (disch := omega) only [shF hs, ↓reduceIte, not_false_eq_true, not_true_eq_false, and_self, and_true, true_and, false_and, and_false, or_true, true_or, or_false, false_or, or_self, reduceCtorEq, mm_q, Option.getD_some, cI_some, cJ_some, cV_some, cS_some, kd_sI, kd_sL, kd_sR, kd_cp, ln_sI, ln_sL, ln_sR, ln_cp, gR_sI, gR_sL, gR_sR, gR_cp, gL_sI, gL_sR, gL_cp, gI_sL, gI_sR, iI_add, iI_sub, iI_mul, iI_neg, iI_in, iI_tn, iI_lt, iI_eq, Nat.reduceLeDiff, Nat.reduceEqDiff, Nat.reduceAdd, Int.reduceEq, Int.reduceLT, Int.reduceLE, Int.reduceNeg, Int.reduceAdd, Int.reduceSub, Int.reduceMul, bI_t, bI_f, decide_true, decide_false, Bool.and_true, Bool.and_false, Bool.true_and, Bool.false_and, Bool.false_eq_true, Bool.and_self, Bool.not_true, Bool.not_false, Bool.true_or, Bool.false_or, Bool.or_true, Bool.or_false, hF.1, show k < sa D 46 by omega, e2, sg_7_42]
    have b01 : 0 ≤ bI w.1 ∧ bI w.1 ≤ 1 := by cases w.1 <;> decide
    obtain ⟨m3, e3, g3⟩ := C7L hPP hA hd r (k + 1) (q.1 + bI w.1, w.2.1) m2 (by omega) (by omega) (F.sh hs) (hF.f F) (fun j j0 j1 => (h2 j j0 j1).1) o2 (by show 0 ≤ q.1 + bI w.1; omega) (by show q.1 + bI w.1 ≤ k + 1; omega)
    exact ⟨m3, by rw [run]; exact e3, F.tr g3⟩
/-- matched -/
theorem C7 (hPP : InvP D) (hA : ∀ j, 0 ≤ j → j < 10 → bi (y ^^^ iI (-1)) j = A j) (hd : 20 ≤ d) {k : Int} (k0 : 0 ≤ k) (k1 : k ≤ sa D 46) (hs : Sh m) (hF : FBt D m) (hO : bfOk (sa D 46) (fun _ => -1)) : ∃ m', mm_ev d 7 0 [some (.ref 195), some (.int (iI (k))), some (.int y), none, none] [] m = some (some (some (.int (iI (matGoA (canF D) (sa D 46) A (sa D 46 - k).toNat k (0, fun _ => -1)).1))), m') ∧ Fr scV m m' := by
  have sF := shF hs
  obtain ⟨m1, e1, u1⟩ := C280 (d := d - 1) (v := iI (-1)) (m := m) (a := 210) (n := 10) (by omega) (by simp [sF]) (by simp [sF]) (by omega)
  have g1 : Fr scV m m1 := u1.fr (fun a q z => if_neg (fun w => by
    rw [w.1] at z
    cases z))
  obtain ⟨m2, e2, g2⟩ := C7L (x := iI k) hPP hA hd (sa D 46 - k).toNat k (0, fun _ => -1) m1 (by omega) k0 (g1.sh hs) (hF.f g1) (fun j j0 j1 => by rw [u1.2.2.2.2]; exact if_pos ⟨rfl, by omega⟩) hO (by show (0 : Int) ≤ 0; omega) (by show (0 : Int) ≤ k; omega)
  refine ⟨m2, ?_, g1.tr g2⟩
  rw [sg_7_0 (by omega)]
  simp (disch := omega) only [shF hs, ↓reduceIte, not_false_eq_true, not_true_eq_false, and_self, and_true, true_and, reduceCtorEq, mm_q, Option.getD_some, cI_some, cJ_some, cV_some, cS_some, Nat.reduceLeDiff, Nat.reduceEqDiff, e1]
  exact e2
end
