section
variable {D D' : Nat → Nat → Int32} {m m' m'' : mm_M} {d s W L H p n : Nat} {B : Int → Int} {take : Int} {late : Bool}
theorem scR_t {a k : Nat} (h : (a = 100 ∧ (k = 10 ∨ k = 11)) ∨ (212 ≤ a ∧ a ≤ 275)) : scR a k = true := by
  unfold scR
  rcases h with ⟨rfl, rfl | rfl⟩ | ⟨h0, h1⟩
  · rfl
  · rfl
  · rw [Nat.ble_eq.mpr h0, Nat.ble_eq.mpr h1]
    simp
/-- remember -/
theorem C112 (hs : Sh m) (hh : HD D m 155 (sa D)) (h0 : mm_gI m 155 0 = iI (sa D 0)) (hU : RU D m) (k9 : st D 6 ≤ 8) (hd : 1 ≤ d) : ∃ m', mm_ev d 112 0 [some (.ref 100)] [] m = some (some none, m') ∧ Fr scR m m' ∧ RU (keepD D) m' := by
  have xf := shX hs
  have wf := shW hs
  obtain ⟨⟨u0, u1⟩, g10, e, ⟨e0, e1⟩, g11, hk⟩ := hU
  have hH := ringH e0 e1
  have hr := ringR hs e0 e1
  have hf := hF hs hH
  have hf2 := hF hs h155
  obtain ⟨m1, c1, v1⟩ := C11 (d := d - 1) hs (H := 212 + 4 * e.toNat) (G := 155) hH h155 (by omega) (by omega)
  have f1 : Fr scR m m1 := v1.fr (fun a k z => by
    have : ¬ (212 ≤ a ∧ a ≤ 275) := fun q => by rw [scR_t (Or.inr q)] at z; cases z
    rw [if_neg (by omega), if_neg (by omega), if_neg (by omega), if_neg (by omega)])
  have hs1 := f1.sh hs
  have xf1 := shX hs1
  have a11 : mm_gI m1 100 11 = iI e := by rw [v1.2.2.2.2]; dsimp only; rw [if_neg (by omega), if_neg (by omega), if_neg (by omega), if_neg (by omega)]; exact g11
  have a10 : mm_gI m1 100 10 = iI (und D) := by rw [v1.2.2.2.2]; dsimp only; rw [if_neg (by omega), if_neg (by omega), if_neg (by omega), if_neg (by omega)]; exact g10
  have f2 : Fr scR m1 (mm_sI m1 100 11 (iI (if e < 15 then e + 1 else 0))) := Fr.sI (scR_t (Or.inl ⟨rfl, Or.inr rfl⟩))
  have f3 : Fr scR (mm_sI m1 100 11 (iI (if e < 15 then e + 1 else 0))) (mm_sI (mm_sI m1 100 11 (iI (if e < 15 then e + 1 else 0))) 100 10 (iI (min (und D + 1) 16))) := Fr.sI (scR_t (Or.inl ⟨rfl, Or.inl rfl⟩))
  have un := keep_un u0 u1
  have q3 : ∀ (a k : Nat), 212 ≤ a → mm_gI (mm_sI (mm_sI m1 100 11 (iI (if e < 15 then e + 1 else 0))) 100 10 (iI (min (und D + 1) 16))) a k = mm_gI m1 a k := fun a k h => by rw [gI_sI, gI_sI, if_neg (by omega), if_neg (by omega)]
  have hdl : ∀ (J : Nat) (X : Int → Int), 212 ≤ J → HD D m1 J X → HD D (mm_sI (mm_sI m1 100 11 (iI (if e < 15 then e + 1 else 0))) 100 10 (iI (min (und D + 1) 16))) J X := fun J X hJ h w w0 w1 => by
    obtain ⟨p1, p2, p3⟩ := h w w0 w1
    rw [q3 _ _ (by omega), q3 _ _ (by omega), q3 _ _ (by omega)]
    exact ⟨p1, p2, p3⟩
  have old : ∀ i : Int, 0 ≤ i → i < 16 → ¬ i = e → ∀ X : Int → Int, ∀ t : Int32, HD D m (212 + 4 * i.toNat) X → mm_gI m (212 + 4 * i.toNat) 0 = t → HD D (mm_sI (mm_sI m1 100 11 (iI (if e < 15 then e + 1 else 0))) 100 10 (iI (min (und D + 1) 16))) (212 + 4 * i.toNat) X ∧ mm_gI (mm_sI (mm_sI m1 100 11 (iI (if e < 15 then e + 1 else 0))) 100 10 (iI (min (und D + 1) 16))) (212 + 4 * i.toNat) 0 = t := by
    intro i i0 i1 ie X t hX ht
    refine ⟨hdl _ _ (by omega) (hX.up3 v1 (by omega)), ?_⟩
    rw [q3 _ _ (by omega), v1.2.2.2.2]
    dsimp only
    rw [if_neg (by omega), if_neg (by omega), if_neg (by omega), if_neg (by omega)]
    exact ht
  have new : HD D (mm_sI (mm_sI m1 100 11 (iI (if e < 15 then e + 1 else 0))) 100 10 (iI (min (und D + 1) 16))) (212 + 4 * e.toNat) (sa D) ∧ mm_gI (mm_sI (mm_sI m1 100 11 (iI (if e < 15 then e + 1 else 0))) 100 10 (iI (min (und D + 1) 16))) (212 + 4 * e.toNat) 0 = iI (sa D 0) := by
    refine ⟨hdl _ _ (by omega) (hh.up2 v1 k9), ?_⟩
    rw [q3 _ _ (by omega), v1.2.2.2.2]
    dsimp only
    rw [if_pos ⟨rfl, rfl⟩]
    exact h0
  refine ⟨_, ?_, (f1.tr f2).tr f3, ?_⟩
  · rw [sg_112_0 (by omega)]
    by_cases z : e < 15
    · rw [if_pos z]
      simp (disch := omega) only [xf, wf, hr, hf, hf2, ↓reduceIte, not_false_eq_true, not_true_eq_false, and_self, and_true, true_and, false_and, and_false, or_true, true_or, or_false, false_or, or_self, reduceCtorEq, mm_q, Option.getD_some, cI_some, cJ_some, cV_some, cS_some, kd_sI, kd_sL, kd_sR, kd_cp, ln_sI, ln_sL, ln_sR, ln_cp, gR_sI, gR_sL, gR_sR, gR_cp, gL_sI, gL_sR, gL_cp, gI_sL, gI_sR, iI_add, iI_sub, iI_mul, iI_neg, iI_in, iI_tn, iI_lt, iI_eq, Nat.reduceLeDiff, Nat.reduceEqDiff, Nat.reduceAdd, Int.reduceEq, Int.reduceLT, Int.reduceLE, Int.reduceNeg, Int.reduceAdd, Int.reduceSub, Int.reduceMul, g11, c1, xf1, a11, z]
      rw [sg_112_36]
      simp (disch := omega) only [xf1, ↓reduceIte, not_false_eq_true, not_true_eq_false, and_self, and_true, true_and, false_and, and_false, or_true, true_or, or_false, false_or, or_self, reduceCtorEq, mm_q, Option.getD_some, cI_some, cJ_some, cV_some, cS_some, kd_sI, kd_sL, kd_sR, kd_cp, ln_sI, ln_sL, ln_sR, ln_cp, gR_sI, gR_sL, gR_sR, gR_cp, gL_sI, gL_sR, gL_cp, gI_sL, gI_sR, iI_add, iI_sub, iI_mul, iI_neg, iI_in, iI_tn, iI_lt, iI_eq, Nat.reduceLeDiff, Nat.reduceEqDiff, Nat.reduceAdd, Int.reduceEq, Int.reduceLT, Int.reduceLE, Int.reduceNeg, Int.reduceAdd, Int.reduceSub, Int.reduceMul, gI_sI, a10, iI_min]
    · rw [if_neg z]
      simp (disch := omega) only [xf, wf, hr, hf, hf2, ↓reduceIte, not_false_eq_true, not_true_eq_false, and_self, and_true, true_and, false_and, and_false, or_true, true_or, or_false, false_or, or_self, reduceCtorEq, mm_q, Option.getD_some, cI_some, cJ_some, cV_some, cS_some, kd_sI, kd_sL, kd_sR, kd_cp, ln_sI, ln_sL, ln_sR, ln_cp, gR_sI, gR_sL, gR_sR, gR_cp, gL_sI, gL_sR, gL_cp, gI_sL, gI_sR, iI_add, iI_sub, iI_mul, iI_neg, iI_in, iI_tn, iI_lt, iI_eq, Nat.reduceLeDiff, Nat.reduceEqDiff, Nat.reduceAdd, Int.reduceEq, Int.reduceLT, Int.reduceLE, Int.reduceNeg, Int.reduceAdd, Int.reduceSub, Int.reduceMul, g11, c1, xf1, a11, z]
      rw [sg_112_36]
      simp (disch := omega) only [xf1, ↓reduceIte, not_false_eq_true, not_true_eq_false, and_self, and_true, true_and, false_and, and_false, or_true, true_or, or_false, false_or, or_self, reduceCtorEq, mm_q, Option.getD_some, cI_some, cJ_some, cV_some, cS_some, kd_sI, kd_sL, kd_sR, kd_cp, ln_sI, ln_sL, ln_sR, ln_cp, gR_sI, gR_sL, gR_sR, gR_cp, gL_sI, gL_sR, gL_cp, gI_sL, gI_sR, iI_add, iI_sub, iI_mul, iI_neg, iI_in, iI_tn, iI_lt, iI_eq, Nat.reduceLeDiff, Nat.reduceEqDiff, Nat.reduceAdd, Int.reduceEq, Int.reduceLT, Int.reduceLE, Int.reduceNeg, Int.reduceAdd, Int.reduceSub, Int.reduceMul, gI_sI, a10, iI_min]
  · refine ⟨by rw [un]; split <;> omega, ?_, (if e < 15 then e + 1 else 0), by split <;> omega, ?_, ?_⟩
    · rw [gI_sI, if_pos ⟨rfl, rfl⟩, un]
      congr 1
      split <;> omega
    · rw [gI_sI, gI_sI, if_neg (by omega), if_pos ⟨rfl, rfl⟩]
    · intro k k0 k1
      rw [un] at k1 ⊢
      have conv : ∀ (X : Int) (J : Nat) (mm : mm_M), HD D mm J (ubS D X) → (∀ j, 0 ≤ j → j < 25 → sa D (X + j) = sa (keepD D) (80 * (5 + k) + j)) → HD (keepD D) mm J (ubS (keepD D) (80 * (5 + k))) := fun X J mm h hc => sam_keep.hd (h.sa (fun j j1 j2 => hc j (by omega) j2) k9)
      by_cases z : und D = 16
      · rw [if_pos z] at k1 ⊢
        by_cases y : k = 15
        · rw [show ((if e < 15 then e + 1 else 0) - 16 + k) % 16 = e by split <;> omega]
          refine ⟨conv 0 _ _ (new.1.sa (fun j j1 j2 => by unfold ubS; rw [show (0 : Int) + j = j by omega]) k9) (fun j j0 j1 => ?_), ?_⟩
          · rw [show (0 : Int) + j = j by omega]
            exact ((keep_b u0 u1 k0 j0 j1).2.1 z y).symm
          · rw [new.2]
            have := (keep_b u0 u1 k0 (show (0 : Int) ≤ 0 by omega) (by omega)).2.1 z y
            rw [show 80 * (5 + k) + 0 = 80 * (5 + k) by omega] at this
            rw [this]
        · have hkk := hk (k + 1) (by omega) (by omega)
          have ei : ((if e < 15 then e + 1 else 0) - 16 + k) % 16 = (e - und D + (k + 1)) % 16 := by split <;> omega
          rw [ei]
          have := old ((e - und D + (k + 1)) % 16) (by omega) (by omega) (by omega) _ _ hkk.1 hkk.2
          refine ⟨conv _ _ _ this.1 (fun j j0 j1 => ((keep_b u0 u1 k0 j0 j1).1 z (by omega)).symm), ?_⟩
          rw [this.2]
          have := (keep_b u0 u1 k0 (show (0 : Int) ≤ 0 by omega) (by omega)).1 z (by omega)
          rw [show 80 * (5 + k) + 0 = 80 * (5 + k) by omega, show 80 * (5 + (k + 1)) + 0 = 80 * (5 + (k + 1)) by omega] at this
          rw [this]
      · rw [if_neg z] at k1 ⊢
        by_cases y : k = und D
        · rw [show ((if e < 15 then e + 1 else 0) - (und D + 1) + k) % 16 = e by split <;> omega]
          refine ⟨conv 0 _ _ (new.1.sa (fun j j1 j2 => by unfold ubS; rw [show (0 : Int) + j = j by omega]) k9) (fun j j0 j1 => ?_), ?_⟩
          · rw [show (0 : Int) + j = j by omega]
            exact ((keep_b u0 u1 k0 j0 j1).2.2.1 (by omega) y).symm
          · rw [new.2]
            have := (keep_b u0 u1 k0 (show (0 : Int) ≤ 0 by omega) (by omega)).2.2.1 (by omega) y
            rw [show 80 * (5 + k) + 0 = 80 * (5 + k) by omega] at this
            rw [this]
        · have hkk := hk k k0 (by omega)
          have ei : ((if e < 15 then e + 1 else 0) - (und D + 1) + k) % 16 = (e - und D + k) % 16 := by split <;> omega
          rw [ei]
          have := old ((e - und D + k) % 16) (by omega) (by omega) (by omega) _ _ hkk.1 hkk.2
          refine ⟨conv _ _ _ this.1 (fun j j0 j1 => ((keep_b u0 u1 k0 j0 j1).2.2.2 (by omega) (by omega)).symm), ?_⟩
          rw [this.2]
          have := (keep_b u0 u1 k0 (show (0 : Int) ≤ 0 by omega) (by omega)).2.2.2 (by omega) (by omega)
          rw [show 80 * (5 + k) + 0 = 80 * (5 + k) by omega] at this
          rw [this]
/-- setNow -/
theorem C104 (hs : Sh m) (hst : isSt s) (hg : mm_gR m 100 1 = some s) (hR : RSt D m s) (hh : HD D m 155 (sa D)) (h0 : mm_gI m 155 0 = iI (sa D 0)) (hI : InvS D) (hL : InvL D) (hd : 4 ≤ d) : ∃ m', mm_ev d 104 0 [some (.ref 100)] [] m = some (some none, m') ∧ FW 172 m m' ∧ RQ D m' s := by
  obtain ⟨k8, k9⟩ := hI.2.2.2.2.2.1
  have xf := shX hs
  have hf := hF hs h155
  have wf := wF hs now2
  obtain ⟨m', e, f, r⟩ := C85 (d := d - 1) (take := sa D 0) (late := true) hs hst now2 h155 hR hh hI hL (by omega)
  refine ⟨m', ?_, f, f.sh now2 hs, hst, (f.2.2.1 _ _ (by omega)).trans hg, hR.fw hst now2 f k9, r, hh.fw h155 now2 f, (f.2.2.2.1 155 0 rfl).trans h0⟩
  rw [sg_104_0 (by omega)]
  rw [bI_t] at e
  simp (disch := omega) only [xf, hf, wf, hg, h0, ↓reduceIte, not_false_eq_true, not_true_eq_false, and_self, and_true, true_and, false_and, and_false, or_true, true_or, or_false, false_or, or_self, reduceCtorEq, mm_q, Option.getD_some, cI_some, cJ_some, cV_some, cS_some, kd_sI, kd_sL, kd_sR, kd_cp, ln_sI, ln_sL, ln_sR, ln_cp, gR_sI, gR_sL, gR_sR, gR_cp, gL_sI, gL_sR, gL_cp, gI_sL, gI_sR, iI_add, iI_sub, iI_mul, iI_neg, iI_in, iI_tn, iI_lt, iI_eq, Nat.reduceLeDiff, Nat.reduceEqDiff, Nat.reduceAdd, Int.reduceEq, Int.reduceLT, Int.reduceLE, Int.reduceNeg, Int.reduceAdd, Int.reduceSub, Int.reduceMul, e]
end
