/-- which fact a word is -/
def fxS (T : TK) (i : Int) : Int := if tS T i = 1 then (if tV T i = kwL 30 then 0 else if tV T i = kwL 31 then 1 else if tV T i = kwL 32 then 2 else if tV T i = kwL 33 then 3 else -1) else -1
def fcS (T : TK) (lo i : Int) : Int := if lo ≤ fxS T i ∧ fxS T i ≤ lo + 1 then fxS T i else -1
def paS (T : TK) (lo i : Int) : Int := if ty T i = 31 then 31 else if ty T i = 27 then 27 else if ty T i = 40 then 40 else if fcS T lo i = lo then -2 else if fcS T lo i = lo + 1 then -3 else -1
section
variable {D : Nat → Nat → Int32} {E : Nat → Nat → Int64} {m m' c c' c'' : mm_M} {d s L : Nat} {n N i f : Int} {T : TK} {X X' X'' : Nat → Nat → Int32} {Y : Nat → Int64} {lo start fh a b : Int} {h : Nat} {δ : Int}
theorem kx_f {k : Int} (k0 : 30 ≤ k) (k1 : k < 34) : kx (kwL k) = 30 := by
  have r := kx_r (v := kwL k)
  by_cases y : kx (kwL k) = 30
  · exact y
  · have := (kx_w (v := kwL k) (w := kx (kwL k)) (by omega) (by omega)).mpr rfl
    have := kwL_i (by omega) k1 (by omega) (by omega) this
    omega
theorem fxS_r : -1 ≤ fxS T i ∧ fxS T i ≤ 3 := by
  unfold fxS
  (repeat' split) <;> omega
/-- a fact, as both see it -/
theorem fc_w (hT : TS D n T N) (i0 : 0 ≤ i) (i1 : i ≤ N) (hlo : lo = 0 ∨ lo = 2) : (fcS T lo i = lo ∧ ty T i = 30 ∧ tW T i = kcL (30 + lo)) ∨ (fcS T lo i = lo + 1 ∧ ty T i = 30 ∧ tW T i = kcL (31 + lo) ∧ ¬ tW T i = kcL (30 + lo)) ∨ (fcS T lo i = -1 ∧ (ty T i = 30 → ¬ tW T i = kcL (30 + lo) ∧ ¬ tW T i = kcL (31 + lo))) := by
  rcases (hT.k i0 i1).2 with ⟨-, q, y⟩ | ⟨iN, ⟨q, y, y', w⟩ | ⟨q, y, y', v⟩ | ⟨q, y, g, v⟩ | ⟨q, y⟩⟩
  · exact Or.inr (Or.inr ⟨by unfold fcS fxS; rw [if_neg (show ¬ tS T i = 1 by omega)]; rcases hlo with rfl | rfl <;> rfl, by omega⟩)
  · have k0 := (kw_WR (k := 30 + lo) (by omega) (by omega)).iff w
    have k1 := (kw_WR (k := 31 + lo) (by omega) (by omega)).iff w
    have dj : ∀ a b : Int, 30 ≤ a → a < 34 → 30 ≤ b → b < 34 → ¬ a = b → tV T i = kwL a → ¬ tV T i = kwL b := fun a b a0 a1 b0 b1 ab ea eb => ab (kwL_i (by omega) a1 (by omega) b1 (ea.symm.trans eb))
    by_cases z0 : tV T i = kwL (30 + lo)
    · refine Or.inl ⟨?_, by rw [y, z0]; exact kx_f (by omega) (by omega), (k0.mp z0.symm).symm⟩
      unfold fcS fxS
      rw [if_pos q]
      rcases hlo with rfl | rfl
      · have z0' : tV T i = kwL 30 := z0
        rw [if_pos z0']; rfl
      · have z0' : tV T i = kwL 32 := z0
        rw [if_neg (dj 32 30 (by omega) (by omega) (by omega) (by omega) (by omega) z0'), if_neg (dj 32 31 (by omega) (by omega) (by omega) (by omega) (by omega) z0'), if_pos z0']; rfl
    · have z0n : ¬ tW T i = kcL (30 + lo) := fun e => z0 (k0.mpr e.symm).symm
      by_cases z1 : tV T i = kwL (31 + lo)
      · refine Or.inr (Or.inl ⟨?_, by rw [y, z1]; exact kx_f (by omega) (by omega), (k1.mp z1.symm).symm, z0n⟩)
        unfold fcS fxS
        rw [if_pos q]
        rcases hlo with rfl | rfl
        · have z1' : tV T i = kwL 31 := z1
          rw [if_neg (dj 31 30 (by omega) (by omega) (by omega) (by omega) (by omega) z1'), if_pos z1']; rfl
        · have z1' : tV T i = kwL 33 := z1
          rw [if_neg (dj 33 30 (by omega) (by omega) (by omega) (by omega) (by omega) z1'), if_neg (dj 33 31 (by omega) (by omega) (by omega) (by omega) (by omega) z1'), if_neg (dj 33 32 (by omega) (by omega) (by omega) (by omega) (by omega) z1'), if_pos z1']; rfl
      · refine Or.inr (Or.inr ⟨?_, fun _ => ⟨z0n, fun e => z1 (k1.mpr e.symm).symm⟩⟩)
        unfold fcS fxS
        rw [if_pos q]
        rcases hlo with rfl | rfl
        · have a0 : ¬ tV T i = kwL 30 := z0
          have a1 : ¬ tV T i = kwL 31 := z1
          rw [if_neg a0, if_neg a1, if_neg]
          split
          · omega
          · split <;> omega
        · have a0 : ¬ tV T i = kwL 32 := z0
          have a1 : ¬ tV T i = kwL 33 := z1
          rw [if_neg a0, if_neg a1, if_neg]
          split
          · omega
          · split <;> omega
  · exact Or.inr (Or.inr ⟨by unfold fcS fxS; rw [if_neg (show ¬ tS T i = 1 by omega)]; rcases hlo with rfl | rfl <;> rfl, by omega⟩)
  · unfold sgn at g
    exact Or.inr (Or.inr ⟨by unfold fcS fxS; rw [if_neg (show ¬ tS T i = 1 by omega)]; rcases hlo with rfl | rfl <;> rfl, by omega⟩)
  · exact Or.inr (Or.inr ⟨by unfold fcS fxS; rw [if_neg (show ¬ tS T i = 1 by omega)]; rcases hlo with rfl | rfl <;> rfl, by omega⟩)
/-- isWord of a fact -/
theorem M171x (hT : TS D n T N) (hE : EK E) (h : PF D E T N i 0 m) {w : Int} (w0 : 30 ≤ w) (w1 : w < 34) : mm_ev d 171 0 [some (.ref 316), some (.int (iI (w)))] [] m = some (some (some (.int (iI (bI (decide (tS T i = 1 ∧ tV T i = kwL w)))))), m) := by
  obtain ⟨hM, hK, h7, h8, ⟨i0, i1⟩, f0, f1⟩ := h
  obtain ⟨⟨p0, p1⟩, hk⟩ := hT.k i0 i1
  obtain ⟨k1, k2, k3⟩ := hK i i0 i1
  have n2 := hT.1
  have ew : mm_gL m 321 w.toNat = kwL w := by rw [hM.2.2 321 _ rfl]; exact hE w (by omega) w1
  rw [sg_171_0]
  have sr : 0 ≤ tS T i ∧ tS T i ≤ 4 := by
    rcases hk with ⟨-, s, y⟩ | ⟨iN, ⟨s, y, y', -⟩ | ⟨s, y, y', v⟩ | ⟨s, y, g, v⟩ | ⟨s, y⟩⟩ <;> omega
  by_cases z : tS T i = 1
  · have iN : i < N := by
      rcases hk with ⟨-, s, y⟩ | ⟨iN, -⟩
      · omega
      · exact iN
    by_cases z2 : tV T i = kwL w
    · rw [bI_1 ⟨z, z2⟩]
      simp (disch := omega) only [shM hM.1, ↓reduceIte, not_false_eq_true, not_true_eq_false, and_self, and_true, true_and, false_and, and_false, or_true, true_or, or_false, false_or, or_self, reduceCtorEq, mm_q, Option.getD_some, cI_some, cJ_some, cV_some, cS_some, kd_sI, kd_sL, kd_sR, kd_cp, ln_sI, ln_sL, ln_sR, ln_cp, gR_sI, gR_sL, gR_sR, gR_cp, gL_sI, gL_sR, gL_cp, gI_sL, gI_sR, iI_add, iI_sub, iI_mul, iI_neg, iI_in, iI_tn, iI_lt, iI_eq, Nat.reduceLeDiff, Nat.reduceEqDiff, Nat.reduceAdd, Int.reduceEq, Int.reduceLT, Int.reduceLE, Int.reduceNeg, Int.reduceAdd, Int.reduceSub, Int.reduceMul, h7, h8, k1, z, k3 iN, ew, lg_eq, z2]
    · rw [bI_0 (fun q => z2 q.2)]
      simp (disch := omega) only [shM hM.1, ↓reduceIte, not_false_eq_true, not_true_eq_false, and_self, and_true, true_and, false_and, and_false, or_true, true_or, or_false, false_or, or_self, reduceCtorEq, mm_q, Option.getD_some, cI_some, cJ_some, cV_some, cS_some, kd_sI, kd_sL, kd_sR, kd_cp, ln_sI, ln_sL, ln_sR, ln_cp, gR_sI, gR_sL, gR_sR, gR_cp, gL_sI, gL_sR, gL_cp, gI_sL, gI_sR, iI_add, iI_sub, iI_mul, iI_neg, iI_in, iI_tn, iI_lt, iI_eq, Nat.reduceLeDiff, Nat.reduceEqDiff, Nat.reduceAdd, Int.reduceEq, Int.reduceLT, Int.reduceLE, Int.reduceNeg, Int.reduceAdd, Int.reduceSub, Int.reduceMul, h7, h8, k1, z, k3 iN, ew, lg_eq, z2]
  · rw [bI_0 (fun q => z q.1)]
    simp (disch := omega) only [shM hM.1, ↓reduceIte, not_false_eq_true, not_true_eq_false, and_self, and_true, true_and, false_and, and_false, or_true, true_or, or_false, false_or, or_self, reduceCtorEq, mm_q, Option.getD_some, cI_some, cJ_some, cV_some, cS_some, kd_sI, kd_sL, kd_sR, kd_cp, ln_sI, ln_sL, ln_sR, ln_cp, gR_sI, gR_sL, gR_sR, gR_cp, gL_sI, gL_sR, gL_cp, gI_sL, gI_sR, iI_add, iI_sub, iI_mul, iI_neg, iI_in, iI_tn, iI_lt, iI_eq, Nat.reduceLeDiff, Nat.reduceEqDiff, Nat.reduceAdd, Int.reduceEq, Int.reduceLT, Int.reduceLE, Int.reduceNeg, Int.reduceAdd, Int.reduceSub, Int.reduceMul, h7, h8, k1, z]
theorem M181s (h : PF D E T N i 0 m) (hd : 1 ≤ d) {k w : Int} (k0 : 0 ≤ k) (k1 : k < 4) {q : Prop} [Decidable q] (e : mm_ev (d - 1) 171 0 [some (.ref 316), some (.int (iI (30 + k)))] [] m = some (some (some (.int (iI (bI (decide q))))), m)) : mm_ev d 181 5 [some (.ref 316), some (.int (iI (30))), some (.int (iI (4))), some (.int (iI (w))), some (.int (iI (k)))] [] m = mm_ev d 181 5 [some (.ref 316), some (.int (iI (30))), some (.int (iI (4))), some (.int (iI (if q then k else w))), some (.int (iI (k + 1)))] [] m := by
  rw [sg_181_5 (by omega)]
  by_cases z : q
  · rw [bI_1 z] at e
    rw [if_pos z]
    simp (disch := omega) only [shM h.1.1, ↓reduceIte, not_false_eq_true, not_true_eq_false, and_self, and_true, true_and, false_and, and_false, or_true, true_or, or_false, false_or, or_self, reduceCtorEq, mm_q, Option.getD_some, cI_some, cJ_some, cV_some, cS_some, kd_sI, kd_sL, kd_sR, kd_cp, ln_sI, ln_sL, ln_sR, ln_cp, gR_sI, gR_sL, gR_sR, gR_cp, gL_sI, gL_sR, gL_cp, gI_sL, gI_sR, iI_add, iI_sub, iI_mul, iI_neg, iI_in, iI_tn, iI_lt, iI_eq, Nat.reduceLeDiff, Nat.reduceEqDiff, Nat.reduceAdd, Int.reduceEq, Int.reduceLT, Int.reduceLE, Int.reduceNeg, Int.reduceAdd, Int.reduceSub, Int.reduceMul, k1, e]
    rw [sg_181_28]
    simp (disch := omega) only [↓reduceIte, not_false_eq_true, not_true_eq_false, and_self, and_true, true_and, false_and, and_false, or_true, true_or, or_false, false_or, or_self, reduceCtorEq, mm_q, Option.getD_some, cI_some, cJ_some, cV_some, cS_some, kd_sI, kd_sL, kd_sR, kd_cp, ln_sI, ln_sL, ln_sR, ln_cp, gR_sI, gR_sL, gR_sR, gR_cp, gL_sI, gL_sR, gL_cp, gI_sL, gI_sR, iI_add, iI_sub, iI_mul, iI_neg, iI_in, iI_tn, iI_lt, iI_eq, Nat.reduceLeDiff, Nat.reduceEqDiff, Nat.reduceAdd, Int.reduceEq, Int.reduceLT, Int.reduceLE, Int.reduceNeg, Int.reduceAdd, Int.reduceSub, Int.reduceMul]
  · rw [bI_0 z] at e
    rw [if_neg z]
    simp (disch := omega) only [shM h.1.1, ↓reduceIte, not_false_eq_true, not_true_eq_false, and_self, and_true, true_and, false_and, and_false, or_true, true_or, or_false, false_or, or_self, reduceCtorEq, mm_q, Option.getD_some, cI_some, cJ_some, cV_some, cS_some, kd_sI, kd_sL, kd_sR, kd_cp, ln_sI, ln_sL, ln_sR, ln_cp, gR_sI, gR_sL, gR_sR, gR_cp, gL_sI, gL_sR, gL_cp, gI_sL, gI_sR, iI_add, iI_sub, iI_mul, iI_neg, iI_in, iI_tn, iI_lt, iI_eq, Nat.reduceLeDiff, Nat.reduceEqDiff, Nat.reduceAdd, Int.reduceEq, Int.reduceLT, Int.reduceLE, Int.reduceNeg, Int.reduceAdd, Int.reduceSub, Int.reduceMul, k1, e]
    rw [sg_181_28]
    simp (disch := omega) only [↓reduceIte, not_false_eq_true, not_true_eq_false, and_self, and_true, true_and, false_and, and_false, or_true, true_or, or_false, false_or, or_self, reduceCtorEq, mm_q, Option.getD_some, cI_some, cJ_some, cV_some, cS_some, kd_sI, kd_sL, kd_sR, kd_cp, ln_sI, ln_sL, ln_sR, ln_cp, gR_sI, gR_sL, gR_sR, gR_cp, gL_sI, gL_sR, gL_cp, gI_sL, gI_sR, iI_add, iI_sub, iI_mul, iI_neg, iI_in, iI_tn, iI_lt, iI_eq, Nat.reduceLeDiff, Nat.reduceEqDiff, Nat.reduceAdd, Int.reduceEq, Int.reduceLT, Int.reduceLE, Int.reduceNeg, Int.reduceAdd, Int.reduceSub, Int.reduceMul]
/-- wordHere of the facts -/
theorem M181x (hT : TS D n T N) (hE : EK E) (h : PF D E T N i 0 m) (hd : 1 ≤ d) : mm_ev d 181 0 [some (.ref 316), some (.int (iI (30))), some (.int (iI (4))), none, none] [] m = some (some (some (.int (iI (fxS T i)))), m) := by
  have a0 := M181s (d := d) (w := -1) h hd (k := 0) (by omega) (by omega) (M171x (d := d - 1) hT hE h (w := 30 + 0) (by omega) (by omega))
  have a1 := fun w => M181s (d := d) (w := w) h hd (k := 0 + 1) (by omega) (by omega) (M171x (d := d - 1) hT hE h (w := 30 + (0 + 1)) (by omega) (by omega))
  have a2 := fun w => M181s (d := d) (w := w) h hd (k := 0 + 1 + 1) (by omega) (by omega) (M171x (d := d - 1) hT hE h (w := 30 + (0 + 1 + 1)) (by omega) (by omega))
  have a3 := fun w => M181s (d := d) (w := w) h hd (k := 0 + 1 + 1 + 1) (by omega) (by omega) (M171x (d := d - 1) hT hE h (w := 30 + (0 + 1 + 1 + 1)) (by omega) (by omega))
  rw [sg_181_0, a0, a1, a2, a3, sg_181_5 (by omega)]
  simp (disch := omega) only [↓reduceIte, not_false_eq_true, not_true_eq_false, and_self, and_true, true_and, false_and, and_false, or_true, true_or, or_false, false_or, or_self, reduceCtorEq, mm_q, Option.getD_some, cI_some, cJ_some, cV_some, cS_some, kd_sI, kd_sL, kd_sR, kd_cp, ln_sI, ln_sL, ln_sR, ln_cp, gR_sI, gR_sL, gR_sR, gR_cp, gL_sI, gL_sR, gL_cp, gI_sL, gI_sR, iI_add, iI_sub, iI_mul, iI_neg, iI_in, iI_tn, iI_lt, iI_eq, Nat.reduceLeDiff, Nat.reduceEqDiff, Nat.reduceAdd, Int.reduceEq, Int.reduceLT, Int.reduceLE, Int.reduceNeg, Int.reduceAdd, Int.reduceSub, Int.reduceMul]
  unfold fxS
  have dj : ∀ a b : Int, 30 ≤ a → a < 34 → 30 ≤ b → b < 34 → ¬ a = b → tV T i = kwL a → ¬ tV T i = kwL b := fun a b a0 a1 b0 b1 ab ea eb => ab (kwL_i (by omega) a1 (by omega) b1 (ea.symm.trans eb))
  by_cases z : tS T i = 1
  · by_cases z0 : tV T i = kwL 30
    · have b1 := dj 30 31 (by omega) (by omega) (by omega) (by omega) (by omega) z0
      have b2 := dj 30 32 (by omega) (by omega) (by omega) (by omega) (by omega) z0
      have b3 := dj 30 33 (by omega) (by omega) (by omega) (by omega) (by omega) z0
      simp only [z, true_and, b1, b2, b3, z0, if_true, if_false]
      simp only [← z0, b1, b2, b3, if_false]
    · by_cases z1 : tV T i = kwL 31
      · have b2 := dj 31 32 (by omega) (by omega) (by omega) (by omega) (by omega) z1
        have b3 := dj 31 33 (by omega) (by omega) (by omega) (by omega) (by omega) z1
        simp only [z, true_and, z0, b2, b3, if_true, if_false]
        try simp only [z1, if_true]
      · by_cases z2 : tV T i = kwL 32
        · have b3 := dj 32 33 (by omega) (by omega) (by omega) (by omega) (by omega) z2
          simp only [z, true_and, z0, z1, b3, if_true, if_false]
          try simp only [z2, if_true]
        · by_cases z3 : tV T i = kwL 33
          · simp only [z, true_and, z0, z1, z2, if_true, if_false]
            try simp only [z3, if_true]
          · simp only [z, true_and, z0, z1, z2, z3, if_true, if_false]
  · simp only [z, false_and, if_false]
theorem fbit (hlo : lo = 0 ∨ lo = 2) (hfh : fh = if lo = 0 then 3 else 12) {x : Int} (x0 : 0 ≤ x) (x1 : x ≤ 3) : ((iShr (iI fh) (iI x)) &&& iI 1 = iI 1) ↔ (lo ≤ x ∧ x ≤ lo + 1) := by
  have : x = 0 ∨ x = 1 ∨ x = 2 ∨ x = 3 := by omega
  rcases hlo with rfl | rfl
  · rw [if_pos rfl] at hfh
    subst hfh
    rcases this with rfl | rfl | rfl | rfl <;> decide
  · rw [if_neg (by decide)] at hfh
    subst hfh
    rcases this with rfl | rfl | rfl | rfl <;> decide
/-- takePart as far as it looks at its token -/
theorem M195h (hT : TS D n T N) (hE : EK E) (hlo : lo = 0 ∨ lo = 2) (hfh : fh = if lo = 0 then 3 else 12) (hM : EM D E T N Y fh X i m) (hd : 2 ≤ d) : mm_ev d 195 0 [some (.ref 316), some (.int (iI (δ))), none, none] [] m = mm_ev d 195 56 [some (.ref 316), some (.int (iI (δ))), some (.int (iI (bI (decide (ty T i = 31))))), some (.int (iI (fxS T i)))] [.int (iI (fcS T lo i))] m := by
  obtain ⟨hP, hD, hfa⟩ := hM
  have e1 := M181x (d := d - 1) hT hE hP (by omega)
  obtain ⟨i0, i1⟩ := hP.2.2.2.2.1
  obtain ⟨k1, k2, k3⟩ := hP.2.1 i i0 i1
  have nn := hT.1
  have fr := fxS_r (T := T) (i := i)
  have ts : tS T i = 2 ↔ ty T i = 31 := by
    rcases (hT.k i0 i1).2 with ⟨-, q, y⟩ | ⟨iN, ⟨q, y, y', w⟩ | ⟨q, y, y', v⟩ | ⟨q, y, g, v⟩ | ⟨q, y⟩⟩
    · omega
    · omega
    · omega
    · unfold sgn at g; omega
    · omega
  have sr : 0 ≤ tS T i ∧ tS T i ≤ 4 := by
    rcases (hT.k i0 i1).2 with ⟨-, q, y⟩ | ⟨iN, ⟨q, y, y', w⟩ | ⟨q, y, y', v⟩ | ⟨q, y, g, v⟩ | ⟨q, y⟩⟩ <;> omega
  have e26 : ∀ b : Int32, mm_ev d 195 26 [some (.ref 316), some (.int (iI (δ))), none, none] [.int b] m = mm_ev d 195 56 [some (.ref 316), some (.int (iI (δ))), some (.int b), some (.int (iI (fxS T i)))] [.int (iI (fcS T lo i))] m := fun b => by
    rw [sg_195_26 (by omega)]
    unfold fcS
    by_cases z : fxS T i < 0
    · rw [if_neg (show ¬ (lo ≤ fxS T i ∧ fxS T i ≤ lo + 1) by omega)]
      simp (disch := omega) only [shM hP.1.1, ↓reduceIte, not_false_eq_true, not_true_eq_false, and_self, and_true, true_and, false_and, and_false, or_true, true_or, or_false, false_or, or_self, reduceCtorEq, mm_q, Option.getD_some, cI_some, cJ_some, cV_some, cS_some, kd_sI, kd_sL, kd_sR, kd_cp, ln_sI, ln_sL, ln_sR, ln_cp, gR_sI, gR_sL, gR_sR, gR_cp, gL_sI, gL_sR, gL_cp, gI_sL, gI_sR, iI_add, iI_sub, iI_mul, iI_neg, iI_in, iI_tn, iI_lt, iI_eq, Nat.reduceLeDiff, Nat.reduceEqDiff, Nat.reduceAdd, Int.reduceEq, Int.reduceLT, Int.reduceLE, Int.reduceNeg, Int.reduceAdd, Int.reduceSub, Int.reduceMul, e1, z]
      rw [sg_195_55]
    · have fb := fbit (fh := fh) hlo hfh (x := fxS T i) (by omega) (by omega)
      by_cases z2 : lo ≤ fxS T i ∧ fxS T i ≤ lo + 1
      · rw [if_pos z2]
        simp (disch := omega) only [shM hP.1.1, ↓reduceIte, not_false_eq_true, not_true_eq_false, and_self, and_true, true_and, false_and, and_false, or_true, true_or, or_false, false_or, or_self, reduceCtorEq, mm_q, Option.getD_some, cI_some, cJ_some, cV_some, cS_some, kd_sI, kd_sL, kd_sR, kd_cp, ln_sI, ln_sL, ln_sR, ln_cp, gR_sI, gR_sL, gR_sR, gR_cp, gL_sI, gL_sR, gL_cp, gI_sL, gI_sR, iI_add, iI_sub, iI_mul, iI_neg, iI_in, iI_tn, iI_lt, iI_eq, Nat.reduceLeDiff, Nat.reduceEqDiff, Nat.reduceAdd, Int.reduceEq, Int.reduceLT, Int.reduceLE, Int.reduceNeg, Int.reduceAdd, Int.reduceSub, Int.reduceMul, e1, z, hfa, fb.mpr z2]
      · rw [if_neg z2]
        have nb : ¬ ((iShr (iI fh) (iI (fxS T i))) &&& iI 1 = iI 1) := fun q => z2 (fb.mp q)
        simp (disch := omega) only [shM hP.1.1, ↓reduceIte, not_false_eq_true, not_true_eq_false, and_self, and_true, true_and, false_and, and_false, or_true, true_or, or_false, false_or, or_self, reduceCtorEq, mm_q, Option.getD_some, cI_some, cJ_some, cV_some, cS_some, kd_sI, kd_sL, kd_sR, kd_cp, ln_sI, ln_sL, ln_sR, ln_cp, gR_sI, gR_sL, gR_sR, gR_cp, gL_sI, gL_sR, gL_cp, gI_sL, gI_sR, iI_add, iI_sub, iI_mul, iI_neg, iI_in, iI_tn, iI_lt, iI_eq, Nat.reduceLeDiff, Nat.reduceEqDiff, Nat.reduceAdd, Int.reduceEq, Int.reduceLT, Int.reduceLE, Int.reduceNeg, Int.reduceAdd, Int.reduceSub, Int.reduceMul, e1, z, hfa, nb]
        rw [sg_195_55]
  rw [sg_195_0]
  by_cases z : ty T i = 31
  · rw [decide_eq_true z]
    have z' := ts.mpr z
    simp (disch := omega) only [shM hP.1.1, ↓reduceIte, not_false_eq_true, not_true_eq_false, and_self, and_true, true_and, false_and, and_false, or_true, true_or, or_false, false_or, or_self, reduceCtorEq, mm_q, Option.getD_some, cI_some, cJ_some, cV_some, cS_some, kd_sI, kd_sL, kd_sR, kd_cp, ln_sI, ln_sL, ln_sR, ln_cp, gR_sI, gR_sL, gR_sR, gR_cp, gL_sI, gL_sR, gL_cp, gI_sL, gI_sR, iI_add, iI_sub, iI_mul, iI_neg, iI_in, iI_tn, iI_lt, iI_eq, Nat.reduceLeDiff, Nat.reduceEqDiff, Nat.reduceAdd, Int.reduceEq, Int.reduceLT, Int.reduceLE, Int.reduceNeg, Int.reduceAdd, Int.reduceSub, Int.reduceMul, bI_t, bI_f, decide_true, decide_false, Bool.and_true, Bool.and_false, Bool.true_and, Bool.false_and, Bool.false_eq_true, Bool.and_self, Bool.not_true, Bool.not_false, Bool.true_or, Bool.false_or, Bool.or_true, Bool.or_false, hP.2.2.2.1, hP.2.2.1, k1, z']
    exact e26 _
  · rw [decide_eq_false z]
    have z' : ¬ tS T i = 2 := fun q => z (ts.mp q)
    simp (disch := omega) only [shM hP.1.1, ↓reduceIte, not_false_eq_true, not_true_eq_false, and_self, and_true, true_and, false_and, and_false, or_true, true_or, or_false, false_or, or_self, reduceCtorEq, mm_q, Option.getD_some, cI_some, cJ_some, cV_some, cS_some, kd_sI, kd_sL, kd_sR, kd_cp, ln_sI, ln_sL, ln_sR, ln_cp, gR_sI, gR_sL, gR_sR, gR_cp, gL_sI, gL_sR, gL_cp, gI_sL, gI_sR, iI_add, iI_sub, iI_mul, iI_neg, iI_in, iI_tn, iI_lt, iI_eq, Nat.reduceLeDiff, Nat.reduceEqDiff, Nat.reduceAdd, Int.reduceEq, Int.reduceLT, Int.reduceLE, Int.reduceNeg, Int.reduceAdd, Int.reduceSub, Int.reduceMul, bI_t, bI_f, decide_true, decide_false, Bool.and_true, Bool.and_false, Bool.true_and, Bool.false_and, Bool.false_eq_true, Bool.and_self, Bool.not_true, Bool.not_false, Bool.true_or, Bool.false_or, Bool.or_true, Bool.or_false, hP.2.2.2.1, hP.2.2.1, k1, z']
    exact e26 _
theorem fc_r (hlo : lo = 0 ∨ lo = 2) : -1 ≤ fcS T lo i ∧ fcS T lo i ≤ 3 := by
  have := fxS_r (T := T) (i := i)
  unfold fcS
  split <;> omega
/-- a PART can begin here -/
theorem M195g (hT : TS D n T N) (hE : EK E) (hlo : lo = 0 ∨ lo = 2) (hfh : fh = if lo = 0 then 3 else 12) (hM : EM D E T N Y fh X i m) (hd : 2 ≤ d) (hg : ¬ paS T lo i = -1) : mm_ev d 195 0 [some (.ref 316), some (.int (iI (δ))), none, none] [] m = mm_ev d 195 91 [some (.ref 316), some (.int (iI (δ))), some (.int (iI (bI (decide (ty T i = 31))))), some (.int (iI (fcS T lo i)))] [] m := by
  rw [M195h hT hE hlo hfh hM hd, sg_195_56 (by omega)]
  have fr := fc_r (T := T) (i := i) hlo
  by_cases z : fcS T lo i < 0
  · by_cases y : ty T i = 31
    · rw [decide_eq_true y]
      simp (disch := omega) only [↓reduceIte, not_false_eq_true, not_true_eq_false, and_self, and_true, true_and, false_and, and_false, or_true, true_or, or_false, false_or, or_self, reduceCtorEq, mm_q, Option.getD_some, cI_some, cJ_some, cV_some, cS_some, kd_sI, kd_sL, kd_sR, kd_cp, ln_sI, ln_sL, ln_sR, ln_cp, gR_sI, gR_sL, gR_sR, gR_cp, gL_sI, gL_sR, gL_cp, gI_sL, gI_sR, iI_add, iI_sub, iI_mul, iI_neg, iI_in, iI_tn, iI_lt, iI_eq, Nat.reduceLeDiff, Nat.reduceEqDiff, Nat.reduceAdd, Int.reduceEq, Int.reduceLT, Int.reduceLE, Int.reduceNeg, Int.reduceAdd, Int.reduceSub, Int.reduceMul, bI_t, bI_f, decide_true, decide_false, Bool.and_true, Bool.and_false, Bool.true_and, Bool.false_and, Bool.false_eq_true, Bool.and_self, Bool.not_true, Bool.not_false, Bool.true_or, Bool.false_or, Bool.or_true, Bool.or_false, z]
    · rw [decide_eq_false y]
      have e1 := M176 (d := d - 1) hT hM.1 g40
      by_cases y2 : ty T i = 40
      · rw [bI_1 ⟨rfl, y2⟩] at e1
        simp (disch := omega) only [shM hM.1.1.1, ↓reduceIte, not_false_eq_true, not_true_eq_false, and_self, and_true, true_and, false_and, and_false, or_true, true_or, or_false, false_or, or_self, reduceCtorEq, mm_q, Option.getD_some, cI_some, cJ_some, cV_some, cS_some, kd_sI, kd_sL, kd_sR, kd_cp, ln_sI, ln_sL, ln_sR, ln_cp, gR_sI, gR_sL, gR_sR, gR_cp, gL_sI, gL_sR, gL_cp, gI_sL, gI_sR, iI_add, iI_sub, iI_mul, iI_neg, iI_in, iI_tn, iI_lt, iI_eq, Nat.reduceLeDiff, Nat.reduceEqDiff, Nat.reduceAdd, Int.reduceEq, Int.reduceLT, Int.reduceLE, Int.reduceNeg, Int.reduceAdd, Int.reduceSub, Int.reduceMul, bI_t, bI_f, decide_true, decide_false, Bool.and_true, Bool.and_false, Bool.true_and, Bool.false_and, Bool.false_eq_true, Bool.and_self, Bool.not_true, Bool.not_false, Bool.true_or, Bool.false_or, Bool.or_true, Bool.or_false, z, e1]
        rw [sg_195_71 (by omega)]
        simp (disch := omega) only [↓reduceIte, not_false_eq_true, not_true_eq_false, and_self, and_true, true_and, false_and, and_false, or_true, true_or, or_false, false_or, or_self, reduceCtorEq, mm_q, Option.getD_some, cI_some, cJ_some, cV_some, cS_some, kd_sI, kd_sL, kd_sR, kd_cp, ln_sI, ln_sL, ln_sR, ln_cp, gR_sI, gR_sL, gR_sR, gR_cp, gL_sI, gL_sR, gL_cp, gI_sL, gI_sR, iI_add, iI_sub, iI_mul, iI_neg, iI_in, iI_tn, iI_lt, iI_eq, Nat.reduceLeDiff, Nat.reduceEqDiff, Nat.reduceAdd, Int.reduceEq, Int.reduceLT, Int.reduceLE, Int.reduceNeg, Int.reduceAdd, Int.reduceSub, Int.reduceMul]
      · rw [bI_0 (fun q => y2 q.2)] at e1
        have e2 := M171 (d := d - 1) hT hE hM.1 (w := 27) (by omega) (by omega)
        have y3 : ty T i = 27 := by
          by_cases y3 : ty T i = 27
          · exact y3
          · exfalso
            apply hg
            unfold paS
            rw [if_neg y, if_neg y3, if_neg y2, if_neg (by omega), if_neg (by omega)]
        rw [bI_1 ⟨rfl, y3⟩] at e2
        simp (disch := omega) only [shM hM.1.1.1, ↓reduceIte, not_false_eq_true, not_true_eq_false, and_self, and_true, true_and, false_and, and_false, or_true, true_or, or_false, false_or, or_self, reduceCtorEq, mm_q, Option.getD_some, cI_some, cJ_some, cV_some, cS_some, kd_sI, kd_sL, kd_sR, kd_cp, ln_sI, ln_sL, ln_sR, ln_cp, gR_sI, gR_sL, gR_sR, gR_cp, gL_sI, gL_sR, gL_cp, gI_sL, gI_sR, iI_add, iI_sub, iI_mul, iI_neg, iI_in, iI_tn, iI_lt, iI_eq, Nat.reduceLeDiff, Nat.reduceEqDiff, Nat.reduceAdd, Int.reduceEq, Int.reduceLT, Int.reduceLE, Int.reduceNeg, Int.reduceAdd, Int.reduceSub, Int.reduceMul, bI_t, bI_f, decide_true, decide_false, Bool.and_true, Bool.and_false, Bool.true_and, Bool.false_and, Bool.false_eq_true, Bool.and_self, Bool.not_true, Bool.not_false, Bool.true_or, Bool.false_or, Bool.or_true, Bool.or_false, z, e1]
        rw [sg_195_71 (by omega)]
        simp (disch := omega) only [shM hM.1.1.1, ↓reduceIte, not_false_eq_true, not_true_eq_false, and_self, and_true, true_and, false_and, and_false, or_true, true_or, or_false, false_or, or_self, reduceCtorEq, mm_q, Option.getD_some, cI_some, cJ_some, cV_some, cS_some, kd_sI, kd_sL, kd_sR, kd_cp, ln_sI, ln_sL, ln_sR, ln_cp, gR_sI, gR_sL, gR_sR, gR_cp, gL_sI, gL_sR, gL_cp, gI_sL, gI_sR, iI_add, iI_sub, iI_mul, iI_neg, iI_in, iI_tn, iI_lt, iI_eq, Nat.reduceLeDiff, Nat.reduceEqDiff, Nat.reduceAdd, Int.reduceEq, Int.reduceLT, Int.reduceLE, Int.reduceNeg, Int.reduceAdd, Int.reduceSub, Int.reduceMul, e2]
        rw [sg_195_80 (by omega)]
        simp (disch := omega) only [↓reduceIte, not_false_eq_true, not_true_eq_false, and_self, and_true, true_and, false_and, and_false, or_true, true_or, or_false, false_or, or_self, reduceCtorEq, mm_q, Option.getD_some, cI_some, cJ_some, cV_some, cS_some, kd_sI, kd_sL, kd_sR, kd_cp, ln_sI, ln_sL, ln_sR, ln_cp, gR_sI, gR_sL, gR_sR, gR_cp, gL_sI, gL_sR, gL_cp, gI_sL, gI_sR, iI_add, iI_sub, iI_mul, iI_neg, iI_in, iI_tn, iI_lt, iI_eq, Nat.reduceLeDiff, Nat.reduceEqDiff, Nat.reduceAdd, Int.reduceEq, Int.reduceLT, Int.reduceLE, Int.reduceNeg, Int.reduceAdd, Int.reduceSub, Int.reduceMul]
  · simp (disch := omega) only [↓reduceIte, not_false_eq_true, not_true_eq_false, and_self, and_true, true_and, false_and, and_false, or_true, true_or, or_false, false_or, or_self, reduceCtorEq, mm_q, Option.getD_some, cI_some, cJ_some, cV_some, cS_some, kd_sI, kd_sL, kd_sR, kd_cp, ln_sI, ln_sL, ln_sR, ln_cp, gR_sI, gR_sL, gR_sR, gR_cp, gL_sI, gL_sR, gL_cp, gI_sL, gI_sR, iI_add, iI_sub, iI_mul, iI_neg, iI_in, iI_tn, iI_lt, iI_eq, Nat.reduceLeDiff, Nat.reduceEqDiff, Nat.reduceAdd, Int.reduceEq, Int.reduceLT, Int.reduceLE, Int.reduceNeg, Int.reduceAdd, Int.reduceSub, Int.reduceMul, z]
/-- partOf -/
theorem C56 (hT : TS D n T N) (hlo : lo = 0 ∨ lo = 2) (hC : EC D n T N s L lo start X i c) : mm_ev d 56 0 [some (.ref 154), some (.ref L)] [] c = some (some (some (.int (iI (paS T lo i)))), c) := by
  obtain ⟨t, hL, -, -, -, n0, n1⟩ := hC
  obtain ⟨i0, i1⟩ := t.2.2.1
  have tr := hT.tyr i0 i1
  have lf := lwF t.1.1 hL
  have h36 : ∀ x : Int, ty T i = x → mm_ev d 56 36 [some (.ref 154), some (.ref L)] [] c = some (some (some (.int (iI x))), c) := fun x hx => by
    rw [sg_56_36]
    simp (disch := omega) only [shP t.1.1, shT t.1.1, ↓reduceIte, not_false_eq_true, not_true_eq_false, and_self, and_true, true_and, false_and, and_false, or_true, true_or, or_false, false_or, or_self, reduceCtorEq, mm_q, Option.getD_some, cI_some, cJ_some, cV_some, cS_some, kd_sI, kd_sL, kd_sR, kd_cp, ln_sI, ln_sL, ln_sR, ln_cp, gR_sI, gR_sL, gR_sR, gR_cp, gL_sI, gL_sR, gL_cp, gI_sL, gI_sR, iI_add, iI_sub, iI_mul, iI_neg, iI_in, iI_tn, iI_lt, iI_eq, Nat.reduceLeDiff, Nat.reduceEqDiff, Nat.reduceAdd, Int.reduceEq, Int.reduceLT, Int.reduceLE, Int.reduceNeg, Int.reduceAdd, Int.reduceSub, Int.reduceMul, t.2.1.2.1, hx]
  rw [sg_56_0]
  unfold paS
  by_cases z1 : ty T i = 31
  · rw [if_pos z1]
    simp (disch := omega) only [shP t.1.1, shT t.1.1, ↓reduceIte, not_false_eq_true, not_true_eq_false, and_self, and_true, true_and, false_and, and_false, or_true, true_or, or_false, false_or, or_self, reduceCtorEq, mm_q, Option.getD_some, cI_some, cJ_some, cV_some, cS_some, kd_sI, kd_sL, kd_sR, kd_cp, ln_sI, ln_sL, ln_sR, ln_cp, gR_sI, gR_sL, gR_sR, gR_cp, gL_sI, gL_sR, gL_cp, gI_sL, gI_sR, iI_add, iI_sub, iI_mul, iI_neg, iI_in, iI_tn, iI_lt, iI_eq, Nat.reduceLeDiff, Nat.reduceEqDiff, Nat.reduceAdd, Int.reduceEq, Int.reduceLT, Int.reduceLE, Int.reduceNeg, Int.reduceAdd, Int.reduceSub, Int.reduceMul, t.2.1.2.1, z1]
    exact h36 31 z1
  · rw [if_neg z1]
    by_cases z2 : ty T i = 27
    · rw [if_pos z2]
      simp (disch := omega) only [shP t.1.1, shT t.1.1, ↓reduceIte, not_false_eq_true, not_true_eq_false, and_self, and_true, true_and, false_and, and_false, or_true, true_or, or_false, false_or, or_self, reduceCtorEq, mm_q, Option.getD_some, cI_some, cJ_some, cV_some, cS_some, kd_sI, kd_sL, kd_sR, kd_cp, ln_sI, ln_sL, ln_sR, ln_cp, gR_sI, gR_sL, gR_sR, gR_cp, gL_sI, gL_sR, gL_cp, gI_sL, gI_sR, iI_add, iI_sub, iI_mul, iI_neg, iI_in, iI_tn, iI_lt, iI_eq, Nat.reduceLeDiff, Nat.reduceEqDiff, Nat.reduceAdd, Int.reduceEq, Int.reduceLT, Int.reduceLE, Int.reduceNeg, Int.reduceAdd, Int.reduceSub, Int.reduceMul, t.2.1.2.1, z2]
      exact h36 27 z2
    · rw [if_neg z2]
      by_cases z3 : ty T i = 40
      · rw [if_pos z3]
        simp (disch := omega) only [shP t.1.1, shT t.1.1, ↓reduceIte, not_false_eq_true, not_true_eq_false, and_self, and_true, true_and, false_and, and_false, or_true, true_or, or_false, false_or, or_self, reduceCtorEq, mm_q, Option.getD_some, cI_some, cJ_some, cV_some, cS_some, kd_sI, kd_sL, kd_sR, kd_cp, ln_sI, ln_sL, ln_sR, ln_cp, gR_sI, gR_sL, gR_sR, gR_cp, gL_sI, gL_sR, gL_cp, gI_sL, gI_sR, iI_add, iI_sub, iI_mul, iI_neg, iI_in, iI_tn, iI_lt, iI_eq, Nat.reduceLeDiff, Nat.reduceEqDiff, Nat.reduceAdd, Int.reduceEq, Int.reduceLT, Int.reduceLE, Int.reduceNeg, Int.reduceAdd, Int.reduceSub, Int.reduceMul, t.2.1.2.1, z3]
        exact h36 40 z3
      · rw [if_neg z3]
        rcases fc_w (lo := lo) hT i0 i1 hlo with ⟨f1, f2, f3⟩ | ⟨f1, f2, f3, f4⟩ | ⟨f1, f2⟩
        · have hw := (t.w hT f2).1
          rw [if_pos f1]
          simp (disch := omega) only [shP t.1.1, shT t.1.1, lf, ↓reduceIte, not_false_eq_true, not_true_eq_false, and_self, and_true, true_and, false_and, and_false, or_true, true_or, or_false, false_or, or_self, reduceCtorEq, mm_q, Option.getD_some, cI_some, cJ_some, cV_some, cS_some, kd_sI, kd_sL, kd_sR, kd_cp, ln_sI, ln_sL, ln_sR, ln_cp, gR_sI, gR_sL, gR_sR, gR_cp, gL_sI, gL_sR, gL_cp, gI_sL, gI_sR, iI_add, iI_sub, iI_mul, iI_neg, iI_in, iI_tn, iI_lt, iI_eq, Nat.reduceLeDiff, Nat.reduceEqDiff, Nat.reduceAdd, Int.reduceEq, Int.reduceLT, Int.reduceLE, Int.reduceNeg, Int.reduceAdd, Int.reduceSub, Int.reduceMul, t.2.1.2.1, z1, z2, z3, f2, hw, n0, lg_eq, f3]
        · have hw := (t.w hT f2).1
          rw [if_neg (show ¬ fcS T lo i = lo by omega), if_pos f1]
          simp (disch := omega) only [shP t.1.1, shT t.1.1, lf, ↓reduceIte, not_false_eq_true, not_true_eq_false, and_self, and_true, true_and, false_and, and_false, or_true, true_or, or_false, false_or, or_self, reduceCtorEq, mm_q, Option.getD_some, cI_some, cJ_some, cV_some, cS_some, kd_sI, kd_sL, kd_sR, kd_cp, ln_sI, ln_sL, ln_sR, ln_cp, gR_sI, gR_sL, gR_sR, gR_cp, gL_sI, gL_sR, gL_cp, gI_sL, gI_sR, iI_add, iI_sub, iI_mul, iI_neg, iI_in, iI_tn, iI_lt, iI_eq, Nat.reduceLeDiff, Nat.reduceEqDiff, Nat.reduceAdd, Int.reduceEq, Int.reduceLT, Int.reduceLE, Int.reduceNeg, Int.reduceAdd, Int.reduceSub, Int.reduceMul, t.2.1.2.1, z1, z2, z3, f2, hw, n0, n1, lg_eq, f4]
          try simp (disch := omega) only [f3, ↓reduceIte, not_false_eq_true, not_true_eq_false, and_self, and_true, true_and, false_and, and_false, or_true, true_or, or_false, false_or, or_self, reduceCtorEq, mm_q, Option.getD_some, cI_some, cJ_some, cV_some, cS_some, kd_sI, kd_sL, kd_sR, kd_cp, ln_sI, ln_sL, ln_sR, ln_cp, gR_sI, gR_sL, gR_sR, gR_cp, gL_sI, gL_sR, gL_cp, gI_sL, gI_sR, iI_add, iI_sub, iI_mul, iI_neg, iI_in, iI_tn, iI_lt, iI_eq, Nat.reduceLeDiff, Nat.reduceEqDiff, Nat.reduceAdd, Int.reduceEq, Int.reduceLT, Int.reduceLE, Int.reduceNeg, Int.reduceAdd, Int.reduceSub, Int.reduceMul]
        · rw [if_neg (show ¬ fcS T lo i = lo by omega), if_neg (show ¬ fcS T lo i = lo + 1 by omega)]
          by_cases z4 : ty T i = 30
          · have hw := (t.w hT z4).1
            obtain ⟨q1, q2⟩ := f2 z4
            simp (disch := omega) only [shP t.1.1, shT t.1.1, lf, ↓reduceIte, not_false_eq_true, not_true_eq_false, and_self, and_true, true_and, false_and, and_false, or_true, true_or, or_false, false_or, or_self, reduceCtorEq, mm_q, Option.getD_some, cI_some, cJ_some, cV_some, cS_some, kd_sI, kd_sL, kd_sR, kd_cp, ln_sI, ln_sL, ln_sR, ln_cp, gR_sI, gR_sL, gR_sR, gR_cp, gL_sI, gL_sR, gL_cp, gI_sL, gI_sR, iI_add, iI_sub, iI_mul, iI_neg, iI_in, iI_tn, iI_lt, iI_eq, Nat.reduceLeDiff, Nat.reduceEqDiff, Nat.reduceAdd, Int.reduceEq, Int.reduceLT, Int.reduceLE, Int.reduceNeg, Int.reduceAdd, Int.reduceSub, Int.reduceMul, t.2.1.2.1, z1, z2, z3, z4, hw, n0, n1, lg_eq, q1, q2]
          · simp (disch := omega) only [shP t.1.1, shT t.1.1, lf, ↓reduceIte, not_false_eq_true, not_true_eq_false, and_self, and_true, true_and, false_and, and_false, or_true, true_or, or_false, false_or, or_self, reduceCtorEq, mm_q, Option.getD_some, cI_some, cJ_some, cV_some, cS_some, kd_sI, kd_sL, kd_sR, kd_cp, ln_sI, ln_sL, ln_sR, ln_cp, gR_sI, gR_sL, gR_sR, gR_cp, gL_sI, gL_sR, gL_cp, gI_sL, gI_sR, iI_add, iI_sub, iI_mul, iI_neg, iI_in, iI_tn, iI_lt, iI_eq, Nat.reduceLeDiff, Nat.reduceEqDiff, Nat.reduceAdd, Int.reduceEq, Int.reduceLT, Int.reduceLE, Int.reduceNeg, Int.reduceAdd, Int.reduceSub, Int.reduceMul, t.2.1.2.1, z1, z2, z3, z4]
end
