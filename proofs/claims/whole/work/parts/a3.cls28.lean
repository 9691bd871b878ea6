def sc209 (a _k : Nat) : Bool := Nat.beq a 209
section
variable {D : Nat → Nat → Int32} {m m' m'' : mm_M} {d s : Nat}
/-- the rows of whose the sights can be -/
theorem C4r (hst : isSt s) (hI : InvS D) (hPP : InvP D) (hd : 5 ≤ d) : ∀ (r : Nat) (k : Int) (m : mm_M), k = sa D 46 - r → 0 ≤ k → Sh m → RSt D m s → RP D m → mm_gI m 195 3 = iI (sa D 46) → (∀ i, 0 ≤ i → i < k → ∀ j, 0 ≤ j → j < 10 → bi (mm_gI m 209 i.toNat) j = (decide (j < sa D 46) && canF D i j)) → ∃ m', mm_ev d 4 10 [some (.ref 195), some (.ref 163), some (.ref s), some (.int (iI (k))), none, none, none, none, none] [] m = mm_ev d 4 10 [some (.ref 195), some (.ref 163), some (.ref s), some (.int (iI (sa D 46))), none, none, none, none, none] [] m' ∧ Fr sc209 m m' ∧ FBt D m' ∧ RSt D m' s ∧ RP D m'
  | 0, k, m, hk, k0, hs, hR, hP, h3, hb => by
    have kn : k = sa D 46 := by omega
    rw [kn] at hb ⊢
    exact ⟨m, rfl, Fr.rf, ⟨h3, hb⟩, hR, hP⟩
  | r + 1, k, m, hk, k0, hs, hR, hP, h3, hb => by
    have p := hPP.1
    have hst' : s = 104 ∨ s = 125 := hst
    obtain ⟨b, e, hbk⟩ := C5 (d := d - 1) hs hst hR hP hI hPP (by omega) k0 (show k < sa D 46 by omega)
    have g : Fr sc209 m (mm_sI m 209 k.toNat b) := Fr.sI rfl
    have o : ∀ a j, ¬ a = 209 → mm_gI (mm_sI m 209 k.toNat b) a j = mm_gI m a j := fun a j y => by rw [gI_sI, if_neg (by omega)]
    obtain ⟨m', e', g', q⟩ := C4r hst hI hPP hd r (k + 1) (mm_sI m 209 k.toNat b) (by omega) (by omega) (g.sh hs) (hR.cg (fun a j a0 a1 _ _ => o a j (by omega)) hI.2.2.2.2.2.1.2) (hP.ch (fun _ _ _ => rfl) (fun a j a0 a1 _ => o a j (by omega))) ((o _ _ (by omega)).trans h3) (fun i i0 i1 j j0 j1 => by
      by_cases y : i = k
      · rw [y, gI_sI, if_pos ⟨rfl, rfl⟩]; exact hbk j j0 j1
      · rw [gI_sI, if_neg (by omega)]; exact hb i i0 (by omega) j j0 j1)
    refine ⟨m', ?_, g.tr g', q⟩
    rw [← e', sg_4_10 (by omega)]
    simp (disch := omega) only [shF hs, ↓reduceIte, not_false_eq_true, not_true_eq_false, and_self, and_true, true_and, false_and, and_false, or_true, true_or, or_false, false_or, or_self, reduceCtorEq, mm_q, Option.getD_some, cI_some, cJ_some, cV_some, cS_some, kd_sI, kd_sL, kd_sR, kd_cp, ln_sI, ln_sL, ln_sR, ln_cp, gR_sI, gR_sL, gR_sR, gR_cp, gL_sI, gL_sR, gL_cp, gI_sL, gI_sR, iI_add, iI_sub, iI_mul, iI_neg, iI_in, iI_tn, iI_lt, iI_eq, Nat.reduceLeDiff, Nat.reduceEqDiff, Nat.reduceAdd, Int.reduceEq, Int.reduceLT, Int.reduceLE, Int.reduceNeg, Int.reduceAdd, Int.reduceSub, Int.reduceMul, h3, show k < sa D 46 by omega, e]
    rw [sg_4_29]
    simp (disch := omega) only [shF hs, ↓reduceIte, not_false_eq_true, not_true_eq_false, and_self, and_true, true_and, false_and, and_false, or_true, true_or, or_false, false_or, or_self, reduceCtorEq, mm_q, Option.getD_some, cI_some, cJ_some, cV_some, cS_some, kd_sI, kd_sL, kd_sR, kd_cp, ln_sI, ln_sL, ln_sR, ln_cp, gR_sI, gR_sL, gR_sR, gR_cp, gL_sI, gL_sR, gL_cp, gI_sL, gI_sR, iI_add, iI_sub, iI_mul, iI_neg, iI_in, iI_tn, iI_lt, iI_eq, Nat.reduceLeDiff, Nat.reduceEqDiff, Nat.reduceAdd, Int.reduceEq, Int.reduceLT, Int.reduceLE, Int.reduceNeg, Int.reduceAdd, Int.reduceSub, Int.reduceMul]
end
