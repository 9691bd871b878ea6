/-- the class while it reads: at the token i, into the street s -/
def CR (D : Nat → Nat → Int32) (n : Int) (T : TK) (N i : Int) (s : Nat) (c : mm_M) : Prop := CX D n c ∧ CT T N i c ∧ (0 ≤ i ∧ i ≤ N) ∧ isSt s ∧ (mm_gR c 154 1 = some s ∧ mm_gI c 154 3 = iI 0)
def scBr (a k : Nat) : Bool := scVt a k || Nat.beq a 154
/-- names as the class holds them -/
def NR (Y : Nat → Int64) (W : Nat → Int32) (cnt a b : Int) (s : Nat) (c : mm_M) : Prop := cnt = a + b ∧ (0 ≤ a ∧ a ≤ 6) ∧ (0 ≤ b ∧ b ≤ 8) ∧ (∀ k : Nat, (k : Int) < cnt → (0 ≤ (W k).toInt ∧ (W k).toInt < a ∧ WR (Y k) (mm_gL c (s + 1) (W k).toInt.toNat)) ∨ (20 ≤ (W k).toInt ∧ (W k).toInt < 20 + b ∧ WR (Y k) (mm_gL c (s + 13 + ((W k).toInt - 20).toNat) 0))) ∧ (∀ k j : Nat, (k : Int) < cnt → (j : Int) < cnt → Y k = Y j → k = j) ∧ (∀ w, 0 ≤ w → w < a → ∃ k : Nat, (k : Int) < cnt ∧ (W k).toInt = w) ∧ (∀ w, 0 ≤ w → w < b → ∃ k : Nat, (k : Int) < cnt ∧ (W k).toInt = 20 + w)
theorem fd_1 {Y : Nat → Int64} {W : Nat → Int32} {u : Int64} : ∀ r k : Nat, (∀ j, k ≤ j → j < k + r → ¬ Y j = u) → fdGo Y W u r k = -1
  | 0, _, _ => rfl
  | r + 1, k, h => by
    unfold fdGo
    rw [if_neg (h k (by omega) (by omega)), fd_1 r (k + 1) (fun j j0 j1 => h j (by omega) (by omega))]
theorem fd_2 {Y : Nat → Int64} {W : Nat → Int32} {u : Int64} {q : Nat} (hq : Y q = u) : ∀ r k : Nat, k ≤ q → q < k + r → (∀ j, k ≤ j → j < k + r → Y j = u → j = q) → fdGo Y W u r k = (W q).toInt
  | 0, k, h0, h1, _ => by omega
  | r + 1, k, h0, h1, h => by
    unfold fdGo
    by_cases z : Y k = u
    · rw [if_pos z, h k (by omega) (by omega) z]
    · rw [if_neg z]
      have : ¬ k = q := fun e => z (by rw [e]; exact hq)
      exact fd_2 hq r (k + 1) (by omega) (by omega) (fun j j0 j1 => h j (by omega) (by omega))
section
variable {D : Nat → Nat → Int32} {E : Nat → Nat → Int64} {c c' : mm_M} {d s : Nat} {n N i f : Int} {T : TK} {Y : Nat → Int64} {W : Nat → Int32} {cnt a b : Int}
theorem fd_n (h : NR Y W cnt a b s c) {u : Int64} (z : ∀ k : Nat, (k : Int) < cnt → ¬ Y k = u) : fdGo Y W u cnt.toNat 0 = -1 := by
  obtain ⟨e, ⟨a0, a1⟩, ⟨b0, b1⟩, -⟩ := h
  exact fd_1 _ _ (fun j j0 j1 => z j (by omega))
theorem fd_k (h : NR Y W cnt a b s c) {u : Int64} {k : Nat} (k1 : (k : Int) < cnt) (z : Y k = u) : fdGo Y W u cnt.toNat 0 = (W k).toInt := by
  obtain ⟨e, ⟨a0, a1⟩, ⟨b0, b1⟩, -, hj, -⟩ := h
  exact fd_2 z _ _ (by omega) (by omega) (fun j j0 j1 y => hj j k (by omega) k1 (y.trans z.symm))
/-- what find may answer -/
theorem fd_a (h : NR Y W cnt a b s c) (u : Int64) : fdGo Y W u cnt.toNat 0 = -1 ∨ (0 ≤ fdGo Y W u cnt.toNat 0 ∧ fdGo Y W u cnt.toNat 0 < a) ∨ (20 ≤ fdGo Y W u cnt.toNat 0 ∧ fdGo Y W u cnt.toNat 0 < 20 + b) := by
  by_cases z : ∃ k : Nat, (k : Int) < cnt ∧ Y k = u
  · obtain ⟨k, k1, ky⟩ := z
    rw [fd_k h k1 ky]
    rcases h.2.2.2.1 k k1 with ⟨x0, x1, -⟩ | ⟨x0, x1, -⟩
    · exact Or.inr (Or.inl ⟨x0, x1⟩)
    · exact Or.inr (Or.inr ⟨x0, x1⟩)
  · exact Or.inl (fd_n h (fun k k1 ky => z ⟨k, k1, ky⟩))
theorem NR.fr {P : Nat → Nat → Bool} (h : NR Y W cnt a b s c) (g : Fr P c c') (z : ∀ x k : Nat, (x = s + 1 ∧ (k : Int) < a) ∨ (s + 13 ≤ x ∧ (x : Int) < s + 13 + b ∧ k = 0) → P x k = false) : NR Y W cnt a b s c' := by
  obtain ⟨e, ra, rb, hk, hj, h1, h2⟩ := h
  refine ⟨e, ra, rb, fun k k1 => ?_, hj, h1, h2⟩
  rcases hk k k1 with ⟨x0, x1, x2⟩ | ⟨x0, x1, x2⟩
  · refine Or.inl ⟨x0, x1, ?_⟩
    rw [g.gL (z _ _ (Or.inl ⟨rfl, by omega⟩))]
    exact x2
  · refine Or.inr ⟨x0, x1, ?_⟩
    rw [g.gL (z _ _ (Or.inr ⟨by omega, by omega, rfl⟩))]
    exact x2
theorem scB_st {x k : Nat} (hs : isSt s) (h0 : s ≤ x) (h1 : x ≤ s + 20) : scBr x k = false := by
  have : ¬ x = 101 ∧ ¬ x = 154 := by rcases hs with rfl | rfl <;> omega
  cases e : scBr x k
  · rfl
  · exfalso
    unfold scBr scVt at e
    simp only [Bool.or_eq_true, Bool.and_eq_true] at e
    rcases e with ⟨e, -⟩ | e
    · exact this.1 (Nat.eq_of_beq_eq_true e)
    · exact this.2 (Nat.eq_of_beq_eq_true e)
theorem NR.br (h : NR Y W cnt a b s c) (hs : isSt s) (g : Fr scBr c c') : NR Y W cnt a b s c' := h.fr g (fun x k z => by
  have := h.2.2.1
  rcases z with ⟨rfl, -⟩ | ⟨y0, y1, -⟩
  · exact scB_st hs (by omega) (by omega)
  · exact scB_st hs (by omega) (by omega))
theorem Fr.vB (h : Fr scVt c c') : Fr scBr c c' := h.mono (fun x k z => by
  unfold scBr at z
  simp only [Bool.or_eq_false_iff] at z
  exact z.1)
theorem scB_z {x k : Nat} (h : (x = 101 ∧ k = 3) ∨ x = 102 ∨ x = 103) : scBr x k = false := by
  rcases h with ⟨rfl, rfl⟩ | rfl | rfl <;> rfl
theorem CX.br (h : CX D n c) (g : Fr scBr c c') : CX D n c' := h.fr g (fun _ _ => scB_z)
/-- places of the reader are set -/
theorem CT.o {P : Nat → Nat → Bool} (h : CT T N i c) (g : Fr P c c') (z : ∀ k, P 101 k = false) : CT T N i c' := ⟨fun y => (g.gI (z _)).trans (h.1 y), (g.gI (z _)).trans h.2.1, (g.gI (z _)).trans h.2.2.1, fun y => (g.gI (z _)).trans (h.2.2.2.1 y), fun y => (g.gL (z _)).trans (h.2.2.2.2 y)⟩
theorem CR.o {P : Nat → Nat → Bool} (h : CR D n T N i s c) (g : Fr P c c') (z : ∀ x k, x = 101 ∨ x = 102 ∨ x = 103 → P x k = false) (z3 : P 154 3 = false) : CR D n T N i s c' := ⟨h.1.fr g (fun x k y => z x k (by omega)), h.2.1.o g (fun k => z 101 k (Or.inl rfl)), h.2.2.1, h.2.2.2.1, (g.2.2.1 _ _).trans h.2.2.2.2.1, (g.gI z3).trans h.2.2.2.2.2⟩
theorem Fr.r154 {k : Nat} {v : Int32} : Fr scBr c (mm_sI c 154 k v) := Fr.sI (by unfold scBr; simp)
theorem Fr.l154 {k : Nat} {v : Int64} : Fr scBr c (mm_sL c 154 k v) := Fr.sL (by unfold scBr; simp)
def sc154 (q a k : Nat) : Bool := Nat.beq a 154 && Nat.beq k q
theorem sc154_3 {q : Nat} (h : ¬ q = 3) : sc154 q 154 3 = false := by
  unfold sc154
  cases e : Nat.beq 3 q
  · rfl
  · exact absurd (Nat.eq_of_beq_eq_true e).symm h
theorem CR.r (h : CR D n T N i s c) {k : Nat} {v : Int32} (hk : ¬ k = 3 := by decide) : CR D n T N i s (mm_sI c 154 k v) := h.o (P := sc154 k) (Fr.sI (by unfold sc154; simp)) (fun x k z => by rcases z with rfl | rfl | rfl <;> rfl) (sc154_3 hk)
theorem CR.l (h : CR D n T N i s c) {k : Nat} {v : Int64} (hk : ¬ k = 3 := by decide) : CR D n T N i s (mm_sL c 154 k v) := h.o (P := sc154 k) (Fr.sL (by unfold sc154; simp)) (fun x k z => by rcases z with rfl | rfl | rfl <;> rfl) (sc154_3 hk)
/-- one token on -/
theorem CR.nx (hT : TS D n T N) (h : CR D n T N i s c) (hd : 8 ≤ d) (iN : i < N) : ∃ c', mm_ev d 79 0 [some (.ref 101), none] [] c = some (some none, c') ∧ Fr scBr c c' ∧ CR D n T N (i + 1) s c' ∧ (∀ k, mm_gI c' 154 k = mm_gI c 154 k ∧ mm_gL c' 154 k = mm_gL c 154 k) := by
  obtain ⟨c', e, g, t⟩ := C79n hT h.1 hd h.2.2.1.1 iN h.2.1
  exact ⟨c', e, g.vB, ⟨h.1.v g, t, ⟨by have := h.2.2.1; omega, by omega⟩, h.2.2.2.1, (g.2.2.1 _ _).trans h.2.2.2.2.1, (g.gI rfl).trans h.2.2.2.2.2⟩, fun k => ⟨g.gI rfl, g.gL rfl⟩⟩
/-- fail -/
theorem C40 (hT : TS D n T N) (h : CR D n T N i s c) {k : Int} (k0 : 0 ≤ k) (k1 : k ≤ 9) : mm_ev d 40 0 [some (.ref 154), some (.int (iI (k)))] [] c = some (some (some (.int (iI 0))), mm_sI c 154 3 (iI (k + 16 * tP T i))) := by
  have pr := (hT.k h.2.2.1.1 h.2.2.1.2).1
  rw [sg_40_0]
  simp (disch := omega) only [shP h.1.1, shT h.1.1, ↓reduceIte, not_false_eq_true, not_true_eq_false, and_self, and_true, true_and, false_and, and_false, or_true, true_or, or_false, false_or, or_self, reduceCtorEq, mm_q, Option.getD_some, cI_some, cJ_some, cV_some, cS_some, kd_sI, kd_sL, kd_sR, kd_cp, ln_sI, ln_sL, ln_sR, ln_cp, gR_sI, gR_sL, gR_sR, gR_cp, gL_sI, gL_sR, gL_cp, gI_sL, gI_sR, iI_add, iI_sub, iI_mul, iI_neg, iI_in, iI_tn, iI_lt, iI_eq, Nat.reduceLeDiff, Nat.reduceEqDiff, Nat.reduceAdd, Int.reduceEq, Int.reduceLT, Int.reduceLE, Int.reduceNeg, Int.reduceAdd, Int.reduceSub, Int.reduceMul, h.2.1.2.2.1]
/-- readToken -/
theorem C39 (hT : TS D n T N) (h : CR D n T N i s c) (hd : 9 ≤ d) {w : Int} (w0 : 0 ≤ w) (w1 : w < 127) : ∃ c', mm_ev d 39 0 [some (.ref 154), some (.int (iI (w)))] [] c = some (some (some (.int (iI (bI (decide ((twS T w i 0).2 = 0)))))), c') ∧ Fr scBr c c' ∧ ((twS T w i 0).2 = 0 → CR D n T N (twS T w i 0).1 s c') ∧ (¬ (twS T w i 0).2 = 0 → mm_gI c' 154 3 = iI (twS T w i 0).2) := by
  obtain ⟨i0, i1⟩ := h.2.2.1
  have tr := hT.tyr i0 i1
  have pr := (hT.k i0 i1).1
  rw [sg_39_0 (by omega)]
  unfold twS
  rw [if_pos rfl]
  by_cases z : ty T i = w
  · obtain ⟨c', e, g, r, -⟩ := CR.nx (d := d - 1) hT h (by omega) (hT.lt i0 i1 (by omega))
    rw [if_pos z]
    refine ⟨c', ?_, g, fun _ => r, fun y => absurd rfl y⟩
    simp (disch := omega) only [shP h.1.1, shT h.1.1, ↓reduceIte, not_false_eq_true, not_true_eq_false, and_self, and_true, true_and, false_and, and_false, or_true, true_or, or_false, false_or, or_self, reduceCtorEq, mm_q, Option.getD_some, cI_some, cJ_some, cV_some, cS_some, kd_sI, kd_sL, kd_sR, kd_cp, ln_sI, ln_sL, ln_sR, ln_cp, gR_sI, gR_sL, gR_sR, gR_cp, gL_sI, gL_sR, gL_cp, gI_sL, gI_sR, iI_add, iI_sub, iI_mul, iI_neg, iI_in, iI_tn, iI_lt, iI_eq, Nat.reduceLeDiff, Nat.reduceEqDiff, Nat.reduceAdd, Int.reduceEq, Int.reduceLT, Int.reduceLE, Int.reduceNeg, Int.reduceAdd, Int.reduceSub, Int.reduceMul, h.2.1.2.1, z, e]
    rfl
  · rw [if_neg z]
    refine ⟨mm_sI c 154 3 (iI (1 + 16 * tP T i)), ?_, Fr.r154, fun y => by dsimp only at y; omega, fun _ => by simp [gI_sI]⟩
    simp (disch := omega) only [shP h.1.1, shT h.1.1, ↓reduceIte, not_false_eq_true, not_true_eq_false, and_self, and_true, true_and, false_and, and_false, or_true, true_or, or_false, false_or, or_self, reduceCtorEq, mm_q, Option.getD_some, cI_some, cJ_some, cV_some, cS_some, kd_sI, kd_sL, kd_sR, kd_cp, ln_sI, ln_sL, ln_sR, ln_cp, gR_sI, gR_sL, gR_sR, gR_cp, gL_sI, gL_sR, gL_cp, gI_sL, gI_sR, iI_add, iI_sub, iI_mul, iI_neg, iI_in, iI_tn, iI_lt, iI_eq, Nat.reduceLeDiff, Nat.reduceEqDiff, Nat.reduceAdd, Int.reduceEq, Int.reduceLT, Int.reduceLE, Int.reduceNeg, Int.reduceAdd, Int.reduceSub, Int.reduceMul, h.2.1.2.1, z, C40 hT h]
    rw [decide_eq_false (by first | omega | (dsimp only; omega))]
    rfl
/-- readNumber -/
theorem C41 (hT : TS D n T N) (h : CR D n T N i s c) (hd : 9 ≤ d) {lo hi : Int} (l0 : -1000 ≤ lo) (l1 : lo ≤ 1000) (u0 : -1000 ≤ hi) (u1 : hi ≤ 1000) : ∃ c', mm_ev d 41 0 [some (.ref 154), some (.int (iI (lo))), some (.int (iI (hi)))] [] c = some (some (some (.int (iI (bI (decide ((tnS T lo hi i 0).2.2 = 0)))))), c') ∧ Fr scBr c c' ∧ ((tnS T lo hi i 0).2.2 = 0 → CR D n T N (tnS T lo hi i 0).2.1 s c' ∧ mm_gI c' 154 4 = iI (tnS T lo hi i 0).1 ∧ (∀ k, ¬ k = 4 → mm_gI c' 154 k = mm_gI c 154 k) ∧ (∀ k, mm_gL c' 154 k = mm_gL c 154 k)) ∧ (¬ (tnS T lo hi i 0).2.2 = 0 → mm_gI c' 154 3 = iI (tnS T lo hi i 0).2.2) := by
  obtain ⟨i0, i1⟩ := h.2.2.1
  have tr := hT.tyr i0 i1
  obtain ⟨pr, hk⟩ := hT.k i0 i1
  have e40 : ∃ c', mm_ev d 41 40 [some (.ref 154), some (.int (iI (lo))), some (.int (iI (hi)))] [] c = some (some (some (.int (iI 0))), c') ∧ Fr scBr c c' ∧ mm_gI c' 154 3 = iI (4 + 16 * tP T i) := by
    refine ⟨mm_sI c 154 3 (iI (4 + 16 * tP T i)), ?_, Fr.r154, by simp [gI_sI]⟩
    rw [sg_41_40 (by omega)]
    simp (disch := omega) only [shP h.1.1, shT h.1.1, ↓reduceIte, not_false_eq_true, not_true_eq_false, and_self, and_true, true_and, false_and, and_false, or_true, true_or, or_false, false_or, or_self, reduceCtorEq, mm_q, Option.getD_some, cI_some, cJ_some, cV_some, cS_some, kd_sI, kd_sL, kd_sR, kd_cp, ln_sI, ln_sL, ln_sR, ln_cp, gR_sI, gR_sL, gR_sR, gR_cp, gL_sI, gL_sR, gL_cp, gI_sL, gI_sR, iI_add, iI_sub, iI_mul, iI_neg, iI_in, iI_tn, iI_lt, iI_eq, Nat.reduceLeDiff, Nat.reduceEqDiff, Nat.reduceAdd, Int.reduceEq, Int.reduceLT, Int.reduceLE, Int.reduceNeg, Int.reduceAdd, Int.reduceSub, Int.reduceMul, C40 hT h]
  rw [sg_41_0 (by omega)]
  unfold tnS
  rw [if_pos rfl]
  by_cases z : ty T i = 31
  · have hk2 : tS T i = 2 ∧ i < N ∧ (0 ≤ tN T i ∧ tN T i ≤ 9999) := by
      rcases hk with ⟨-, q, y⟩ | ⟨iN, ⟨q, y, y', -⟩ | ⟨q, y, y', v⟩ | ⟨q, y, g, v⟩ | ⟨q, y⟩⟩
      · omega
      · omega
      · exact ⟨q, iN, y'⟩
      · unfold sgn at g; omega
      · omega
    obtain ⟨q, iN, v0, v1⟩ := hk2
    have h6 := h.2.1.2.2.2.1 q
    rw [if_pos z]
    by_cases z2 : tN T i < lo
    · obtain ⟨c', e, g, r⟩ := e40
      rw [if_pos z2]
      refine ⟨c', ?_, g, fun y => by dsimp only at y; omega, fun _ => r⟩
      simp (disch := omega) only [shP h.1.1, shT h.1.1, ↓reduceIte, not_false_eq_true, not_true_eq_false, and_self, and_true, true_and, false_and, and_false, or_true, true_or, or_false, false_or, or_self, reduceCtorEq, mm_q, Option.getD_some, cI_some, cJ_some, cV_some, cS_some, kd_sI, kd_sL, kd_sR, kd_cp, ln_sI, ln_sL, ln_sR, ln_cp, gR_sI, gR_sL, gR_sR, gR_cp, gL_sI, gL_sR, gL_cp, gI_sL, gI_sR, iI_add, iI_sub, iI_mul, iI_neg, iI_in, iI_tn, iI_lt, iI_eq, Nat.reduceLeDiff, Nat.reduceEqDiff, Nat.reduceAdd, Int.reduceEq, Int.reduceLT, Int.reduceLE, Int.reduceNeg, Int.reduceAdd, Int.reduceSub, Int.reduceMul, h.2.1.2.1, z, h6, z2]
      rw [e, decide_eq_false (by first | omega | (dsimp only; omega))]
      rfl
    · by_cases z3 : hi < tN T i
      · obtain ⟨c', e, g, r⟩ := e40
        rw [if_neg z2, if_pos z3]
        refine ⟨c', ?_, g, fun y => by dsimp only at y; omega, fun _ => r⟩
        simp (disch := omega) only [shP h.1.1, shT h.1.1, ↓reduceIte, not_false_eq_true, not_true_eq_false, and_self, and_true, true_and, false_and, and_false, or_true, true_or, or_false, false_or, or_self, reduceCtorEq, mm_q, Option.getD_some, cI_some, cJ_some, cV_some, cS_some, kd_sI, kd_sL, kd_sR, kd_cp, ln_sI, ln_sL, ln_sR, ln_cp, gR_sI, gR_sL, gR_sR, gR_cp, gL_sI, gL_sR, gL_cp, gI_sL, gI_sR, iI_add, iI_sub, iI_mul, iI_neg, iI_in, iI_tn, iI_lt, iI_eq, Nat.reduceLeDiff, Nat.reduceEqDiff, Nat.reduceAdd, Int.reduceEq, Int.reduceLT, Int.reduceLE, Int.reduceNeg, Int.reduceAdd, Int.reduceSub, Int.reduceMul, h.2.1.2.1, z, h6, z2, z3]
        rw [e, decide_eq_false (by first | omega | (dsimp only; omega))]
        rfl
      · obtain ⟨c', e, g, r, k9⟩ := CR.nx (d := d - 1) hT (h.r (k := 4) (v := iI (tN T i))) (by omega) iN
        rw [if_neg z2, if_neg z3]
        refine ⟨c', ?_, Fr.r154.tr g, fun _ => ⟨r, ?_, ?_, ?_⟩, fun y => absurd rfl y⟩
        · simp (disch := omega) only [shP h.1.1, shT h.1.1, ↓reduceIte, not_false_eq_true, not_true_eq_false, and_self, and_true, true_and, false_and, and_false, or_true, true_or, or_false, false_or, or_self, reduceCtorEq, mm_q, Option.getD_some, cI_some, cJ_some, cV_some, cS_some, kd_sI, kd_sL, kd_sR, kd_cp, ln_sI, ln_sL, ln_sR, ln_cp, gR_sI, gR_sL, gR_sR, gR_cp, gL_sI, gL_sR, gL_cp, gI_sL, gI_sR, iI_add, iI_sub, iI_mul, iI_neg, iI_in, iI_tn, iI_lt, iI_eq, Nat.reduceLeDiff, Nat.reduceEqDiff, Nat.reduceAdd, Int.reduceEq, Int.reduceLT, Int.reduceLE, Int.reduceNeg, Int.reduceAdd, Int.reduceSub, Int.reduceMul, h.2.1.2.1, z, h6, z2, z3, e]
          rfl
        · rw [(k9 4).1]; simp [gI_sI]
        · intro k hk; rw [(k9 k).1]; simp [gI_sI, hk]
        · intro k; exact (k9 k).2
  · rw [if_neg z]
    refine ⟨mm_sI c 154 3 (iI (1 + 16 * tP T i)), ?_, Fr.r154, fun y => by dsimp only at y; omega, fun _ => by simp [gI_sI]⟩
    simp (disch := omega) only [shP h.1.1, shT h.1.1, ↓reduceIte, not_false_eq_true, not_true_eq_false, and_self, and_true, true_and, false_and, and_false, or_true, true_or, or_false, false_or, or_self, reduceCtorEq, mm_q, Option.getD_some, cI_some, cJ_some, cV_some, cS_some, kd_sI, kd_sL, kd_sR, kd_cp, ln_sI, ln_sL, ln_sR, ln_cp, gR_sI, gR_sL, gR_sR, gR_cp, gL_sI, gL_sR, gL_cp, gI_sL, gI_sR, iI_add, iI_sub, iI_mul, iI_neg, iI_in, iI_tn, iI_lt, iI_eq, Nat.reduceLeDiff, Nat.reduceEqDiff, Nat.reduceAdd, Int.reduceEq, Int.reduceLT, Int.reduceLE, Int.reduceNeg, Int.reduceAdd, Int.reduceSub, Int.reduceMul, h.2.1.2.1, z, C40 hT h]
    rw [decide_eq_false (by first | omega | (dsimp only; omega))]
    rfl
theorem tn_f {lo hi : Int} (h : ¬ f = 0) : tnS T lo hi i f = (0, i, f) := by unfold tnS; rw [if_neg h]
/-- readNumberBehind -/
theorem C38 (hT : TS D n T N) (h : CR D n T N i s c) (hd : 10 ≤ d) {w lo hi : Int} (w0 : 0 ≤ w) (w1 : w < 127) (l0 : -1000 ≤ lo) (l1 : lo ≤ 1000) (u0 : -1000 ≤ hi) (u1 : hi ≤ 1000) : ∃ c', mm_ev d 38 0 [some (.ref 154), some (.int (iI (w))), some (.int (iI (lo))), some (.int (iI (hi)))] [] c = some (some (some (.int (iI (bI (decide ((taS T w lo hi i 0).2.2 = 0)))))), c') ∧ Fr scBr c c' ∧ ((taS T w lo hi i 0).2.2 = 0 → CR D n T N (taS T w lo hi i 0).2.1 s c' ∧ mm_gI c' 154 4 = iI (taS T w lo hi i 0).1 ∧ (∀ k, ¬ k = 3 → ¬ k = 4 → mm_gI c' 154 k = mm_gI c 154 k) ∧ (∀ k, mm_gL c' 154 k = mm_gL c 154 k)) ∧ (¬ (taS T w lo hi i 0).2.2 = 0 → mm_gI c' 154 3 = iI (taS T w lo hi i 0).2.2) := by
  obtain ⟨i0, i1⟩ := h.2.2.1
  have tr := hT.tyr i0 i1
  have pr := (hT.k i0 i1).1
  unfold taS
  rw [sg_38_0 (by omega)]
  by_cases z : ty T i = w
  · have tw : twS T w i 0 = (i + 1, 0) := by unfold twS; rw [if_pos rfl, if_pos z]
    obtain ⟨c1, e1, g1, r1, k9⟩ := CR.nx (d := d - 1 - 1) hT h (by omega) (hT.lt i0 i1 (by omega))
    have e1' : mm_ev (d - 1) 39 0 [some (.ref 154), some (.int (iI (w)))] [] c = some (some (some (.int (iI 1))), c1) := by
      rw [sg_39_0 (by omega)]
      simp (disch := omega) only [shP h.1.1, shT h.1.1, ↓reduceIte, not_false_eq_true, not_true_eq_false, and_self, and_true, true_and, false_and, and_false, or_true, true_or, or_false, false_or, or_self, reduceCtorEq, mm_q, Option.getD_some, cI_some, cJ_some, cV_some, cS_some, kd_sI, kd_sL, kd_sR, kd_cp, ln_sI, ln_sL, ln_sR, ln_cp, gR_sI, gR_sL, gR_sR, gR_cp, gL_sI, gL_sR, gL_cp, gI_sL, gI_sR, iI_add, iI_sub, iI_mul, iI_neg, iI_in, iI_tn, iI_lt, iI_eq, Nat.reduceLeDiff, Nat.reduceEqDiff, Nat.reduceAdd, Int.reduceEq, Int.reduceLT, Int.reduceLE, Int.reduceNeg, Int.reduceAdd, Int.reduceSub, Int.reduceMul, h.2.1.2.1, z, e1]
    obtain ⟨c2, e2, g2, r2, q2⟩ := C41 (d := d - 1) hT r1 (by omega) l0 l1 u0 u1
    rw [tw]
    dsimp only
    generalize tnS T lo hi (i + 1) 0 = p at e2 r2 q2 ⊢
    refine ⟨c2, ?_, g1.tr g2, fun y => ⟨(r2 y).1, (r2 y).2.1, fun k k3 k4 => ((r2 y).2.2.1 k k4).trans (k9 k).1, fun k => ((r2 y).2.2.2 k).trans (k9 k).2⟩, q2⟩
    by_cases y : p.2.2 = 0
    · rw [decide_eq_true y] at e2 ⊢
      simp (disch := omega) only [shP h.1.1, ↓reduceIte, not_false_eq_true, not_true_eq_false, and_self, and_true, true_and, false_and, and_false, or_true, true_or, or_false, false_or, or_self, reduceCtorEq, mm_q, Option.getD_some, cI_some, cJ_some, cV_some, cS_some, kd_sI, kd_sL, kd_sR, kd_cp, ln_sI, ln_sL, ln_sR, ln_cp, gR_sI, gR_sL, gR_sR, gR_cp, gL_sI, gL_sR, gL_cp, gI_sL, gI_sR, iI_add, iI_sub, iI_mul, iI_neg, iI_in, iI_tn, iI_lt, iI_eq, Nat.reduceLeDiff, Nat.reduceEqDiff, Nat.reduceAdd, Int.reduceEq, Int.reduceLT, Int.reduceLE, Int.reduceNeg, Int.reduceAdd, Int.reduceSub, Int.reduceMul, e1']
      rw [sg_38_5 (by omega)]
      simp (disch := omega) only [shP r1.1.1, ↓reduceIte, not_false_eq_true, not_true_eq_false, and_self, and_true, true_and, false_and, and_false, or_true, true_or, or_false, false_or, or_self, reduceCtorEq, mm_q, Option.getD_some, cI_some, cJ_some, cV_some, cS_some, kd_sI, kd_sL, kd_sR, kd_cp, ln_sI, ln_sL, ln_sR, ln_cp, gR_sI, gR_sL, gR_sR, gR_cp, gL_sI, gL_sR, gL_cp, gI_sL, gI_sR, iI_add, iI_sub, iI_mul, iI_neg, iI_in, iI_tn, iI_lt, iI_eq, Nat.reduceLeDiff, Nat.reduceEqDiff, Nat.reduceAdd, Int.reduceEq, Int.reduceLT, Int.reduceLE, Int.reduceNeg, Int.reduceAdd, Int.reduceSub, Int.reduceMul, bI_t, bI_f, decide_true, decide_false, Bool.and_true, Bool.and_false, Bool.true_and, Bool.false_and, Bool.false_eq_true, Bool.and_self, Bool.not_true, Bool.not_false, Bool.true_or, Bool.false_or, Bool.or_true, Bool.or_false, e2]
    · rw [decide_eq_false y] at e2 ⊢
      simp (disch := omega) only [shP h.1.1, ↓reduceIte, not_false_eq_true, not_true_eq_false, and_self, and_true, true_and, false_and, and_false, or_true, true_or, or_false, false_or, or_self, reduceCtorEq, mm_q, Option.getD_some, cI_some, cJ_some, cV_some, cS_some, kd_sI, kd_sL, kd_sR, kd_cp, ln_sI, ln_sL, ln_sR, ln_cp, gR_sI, gR_sL, gR_sR, gR_cp, gL_sI, gL_sR, gL_cp, gI_sL, gI_sR, iI_add, iI_sub, iI_mul, iI_neg, iI_in, iI_tn, iI_lt, iI_eq, Nat.reduceLeDiff, Nat.reduceEqDiff, Nat.reduceAdd, Int.reduceEq, Int.reduceLT, Int.reduceLE, Int.reduceNeg, Int.reduceAdd, Int.reduceSub, Int.reduceMul, e1']
      rw [sg_38_5 (by omega)]
      simp (disch := omega) only [shP r1.1.1, ↓reduceIte, not_false_eq_true, not_true_eq_false, and_self, and_true, true_and, false_and, and_false, or_true, true_or, or_false, false_or, or_self, reduceCtorEq, mm_q, Option.getD_some, cI_some, cJ_some, cV_some, cS_some, kd_sI, kd_sL, kd_sR, kd_cp, ln_sI, ln_sL, ln_sR, ln_cp, gR_sI, gR_sL, gR_sR, gR_cp, gL_sI, gL_sR, gL_cp, gI_sL, gI_sR, iI_add, iI_sub, iI_mul, iI_neg, iI_in, iI_tn, iI_lt, iI_eq, Nat.reduceLeDiff, Nat.reduceEqDiff, Nat.reduceAdd, Int.reduceEq, Int.reduceLT, Int.reduceLE, Int.reduceNeg, Int.reduceAdd, Int.reduceSub, Int.reduceMul, bI_t, bI_f, decide_true, decide_false, Bool.and_true, Bool.and_false, Bool.true_and, Bool.false_and, Bool.false_eq_true, Bool.and_self, Bool.not_true, Bool.not_false, Bool.true_or, Bool.false_or, Bool.or_true, Bool.or_false, e2]
  · have tw : twS T w i 0 = (i, 1 + 16 * tP T i) := by unfold twS; rw [if_pos rfl, if_neg z]
    obtain ⟨c1, e1, g1, -, q1⟩ := C39 (d := d - 1) hT h (by omega) w0 w1
    rw [tw] at e1 q1 ⊢
    dsimp only at e1 q1 ⊢
    rw [tn_f (by omega)]
    dsimp only
    rw [decide_eq_false (by omega)] at e1 ⊢
    refine ⟨c1, ?_, g1, fun y => by omega, q1⟩
    simp (disch := omega) only [shP h.1.1, ↓reduceIte, not_false_eq_true, not_true_eq_false, and_self, and_true, true_and, false_and, and_false, or_true, true_or, or_false, false_or, or_self, reduceCtorEq, mm_q, Option.getD_some, cI_some, cJ_some, cV_some, cS_some, kd_sI, kd_sL, kd_sR, kd_cp, ln_sI, ln_sL, ln_sR, ln_cp, gR_sI, gR_sL, gR_sR, gR_cp, gL_sI, gL_sR, gL_cp, gI_sL, gI_sR, iI_add, iI_sub, iI_mul, iI_neg, iI_in, iI_tn, iI_lt, iI_eq, Nat.reduceLeDiff, Nat.reduceEqDiff, Nat.reduceAdd, Int.reduceEq, Int.reduceLT, Int.reduceLE, Int.reduceNeg, Int.reduceAdd, Int.reduceSub, Int.reduceMul, bI_t, bI_f, decide_true, decide_false, Bool.and_true, Bool.and_false, Bool.true_and, Bool.false_and, Bool.false_eq_true, Bool.and_self, Bool.not_true, Bool.not_false, Bool.true_or, Bool.false_or, Bool.or_true, Bool.or_false, e1]
    rw [sg_38_5 (by omega)]
    simp (disch := omega) only [↓reduceIte, not_false_eq_true, not_true_eq_false, and_self, and_true, true_and, false_and, and_false, or_true, true_or, or_false, false_or, or_self, reduceCtorEq, mm_q, Option.getD_some, cI_some, cJ_some, cV_some, cS_some, kd_sI, kd_sL, kd_sR, kd_cp, ln_sI, ln_sL, ln_sR, ln_cp, gR_sI, gR_sL, gR_sR, gR_cp, gL_sI, gL_sR, gL_cp, gI_sL, gI_sR, iI_add, iI_sub, iI_mul, iI_neg, iI_in, iI_tn, iI_lt, iI_eq, Nat.reduceLeDiff, Nat.reduceEqDiff, Nat.reduceAdd, Int.reduceEq, Int.reduceLT, Int.reduceLE, Int.reduceNeg, Int.reduceAdd, Int.reduceSub, Int.reduceMul, bI_t, bI_f, decide_true, decide_false, Bool.and_true, Bool.and_false, Bool.true_and, Bool.false_and, Bool.false_eq_true, Bool.and_self, Bool.not_true, Bool.not_false, Bool.true_or, Bool.false_or, Bool.or_true, Bool.or_false]
/-- findWord -/
theorem C66L (hs : Sh c) (hst : isSt s) (h : NR Y W cnt a b s c) (ha : mm_gI c s 7 = iI a) {u v : Int64} (hw : WR u v) : ∀ (r : Nat) (w : Int), w = a - r → 0 ≤ w → (∀ q, 0 ≤ q → q < w → ¬ mm_gL c (s + 1) q.toNat = v) → mm_ev d 66 2 [some (.ref s), some (.long v), none, some (.int (iI (w)))] [] c = some (some (some (.int (iI (if 0 ≤ fdGo Y W u cnt.toNat 0 ∧ fdGo Y W u cnt.toNat 0 < 20 then fdGo Y W u cnt.toNat 0 else -1)))), c)
  | 0, w, hr, w0, hn => by
    obtain ⟨he, ⟨a0, a1⟩, ⟨b0, b1⟩, hk, hj, h1, h2⟩ := h
    have hh : NR Y W cnt a b s c := ⟨he, ⟨a0, a1⟩, ⟨b0, b1⟩, hk, hj, h1, h2⟩
    rw [sg_66_2]
    have key : ¬ (0 ≤ fdGo Y W u cnt.toNat 0 ∧ fdGo Y W u cnt.toNat 0 < 20) := by
      by_cases z : ∃ k : Nat, (k : Int) < cnt ∧ Y k = u
      · obtain ⟨k, k1, ky⟩ := z
        rw [fd_k hh k1 ky]
        rcases hk k k1 with ⟨x0, x1, x2⟩ | ⟨x0, x1, -⟩
        · exact absurd ((x2.iff hw).mp ky) (hn _ x0 (by omega))
        · omega
      · rw [fd_n hh (fun k k1 ky => z ⟨k, k1, ky⟩)]
        omega
    rw [if_neg key]
    simp (disch := omega) only [stF hs hst, ↓reduceIte, not_false_eq_true, not_true_eq_false, and_self, and_true, true_and, false_and, and_false, or_true, true_or, or_false, false_or, or_self, reduceCtorEq, mm_q, Option.getD_some, cI_some, cJ_some, cV_some, cS_some, kd_sI, kd_sL, kd_sR, kd_cp, ln_sI, ln_sL, ln_sR, ln_cp, gR_sI, gR_sL, gR_sR, gR_cp, gL_sI, gL_sR, gL_cp, gI_sL, gI_sR, iI_add, iI_sub, iI_mul, iI_neg, iI_in, iI_tn, iI_lt, iI_eq, Nat.reduceLeDiff, Nat.reduceEqDiff, Nat.reduceAdd, Int.reduceEq, Int.reduceLT, Int.reduceLE, Int.reduceNeg, Int.reduceAdd, Int.reduceSub, Int.reduceMul, ha, show ¬ w < a by omega]
  | r + 1, w, hr, w0, hn => by
    have hh := h
    obtain ⟨he, ⟨a0, a1⟩, ⟨b0, b1⟩, hk, hj, h1, h2⟩ := h
    obtain ⟨k, k1, kw⟩ := h1 w w0 (by omega)
    rcases hk k k1 with ⟨x0, x1, x2⟩ | ⟨x0, x1, -⟩
    · rw [kw] at x2
      have hi := x2.iff hw
      by_cases z : mm_gL c (s + 1) w.toNat = v
      · rw [sg_66_2, fd_k hh k1 (hi.mpr z), kw, if_pos (show 0 ≤ w ∧ w < 20 by omega)]
        simp (disch := omega) only [stF hs hst, ↓reduceIte, not_false_eq_true, not_true_eq_false, and_self, and_true, true_and, false_and, and_false, or_true, true_or, or_false, false_or, or_self, reduceCtorEq, mm_q, Option.getD_some, cI_some, cJ_some, cV_some, cS_some, kd_sI, kd_sL, kd_sR, kd_cp, ln_sI, ln_sL, ln_sR, ln_cp, gR_sI, gR_sL, gR_sR, gR_cp, gL_sI, gL_sR, gL_cp, gI_sL, gI_sR, iI_add, iI_sub, iI_mul, iI_neg, iI_in, iI_tn, iI_lt, iI_eq, Nat.reduceLeDiff, Nat.reduceEqDiff, Nat.reduceAdd, Int.reduceEq, Int.reduceLT, Int.reduceLE, Int.reduceNeg, Int.reduceAdd, Int.reduceSub, Int.reduceMul, ha, show w < a by omega, lg_eq, z]
      · have ih := C66L hs hst hh ha hw r (w + 1) (by omega) (by omega) (fun q q0 q1 => by
          by_cases y : q = w
          · rw [y]; exact z
          · exact hn q q0 (by omega))
        rw [sg_66_2, ← ih]
        simp (disch := omega) only [stF hs hst, ↓reduceIte, not_false_eq_true, not_true_eq_false, and_self, and_true, true_and, false_and, and_false, or_true, true_or, or_false, false_or, or_self, reduceCtorEq, mm_q, Option.getD_some, cI_some, cJ_some, cV_some, cS_some, kd_sI, kd_sL, kd_sR, kd_cp, ln_sI, ln_sL, ln_sR, ln_cp, gR_sI, gR_sL, gR_sR, gR_cp, gL_sI, gL_sR, gL_cp, gI_sL, gI_sR, iI_add, iI_sub, iI_mul, iI_neg, iI_in, iI_tn, iI_lt, iI_eq, Nat.reduceLeDiff, Nat.reduceEqDiff, Nat.reduceAdd, Int.reduceEq, Int.reduceLT, Int.reduceLE, Int.reduceNeg, Int.reduceAdd, Int.reduceSub, Int.reduceMul, ha, show w < a by omega, lg_eq, z]
    · omega
theorem C66 (hs : Sh c) (hst : isSt s) (h : NR Y W cnt a b s c) (ha : mm_gI c s 7 = iI a) {u v : Int64} (hw : WR u v) : mm_ev d 66 0 [some (.ref s), some (.long v), none, none] [] c = some (some (some (.int (iI (if 0 ≤ fdGo Y W u cnt.toNat 0 ∧ fdGo Y W u cnt.toNat 0 < 20 then fdGo Y W u cnt.toNat 0 else -1)))), c) := by
  have := h.2.1
  rw [sg_66_0]
  exact C66L hs hst h ha hw a.toNat 0 (by omega) (by omega) (fun q q0 q1 => by omega)
/-- findWalker -/
theorem C67L (hs : Sh c) (hst : isSt s) (h : NR Y W cnt a b s c) (hb : mm_gI c s 10 = iI b) {u v : Int64} (hw : WR u v) : ∀ (r : Nat) (w : Int), w = b - r → 0 ≤ w → (∀ q, 0 ≤ q → q < w → ¬ mm_gL c (s + 13 + q.toNat) 0 = v) → mm_ev d 67 2 [some (.ref s), some (.long v), none, some (.int (iI (w)))] [] c = some (some (some (.int (iI (if 20 ≤ fdGo Y W u cnt.toNat 0 then fdGo Y W u cnt.toNat 0 - 20 else -1)))), c)
  | 0, w, hr, w0, hn => by
    have hh := h
    obtain ⟨he, ⟨a0, a1⟩, ⟨b0, b1⟩, hk, hj, h1, h2⟩ := h
    rw [sg_67_2]
    have key : ¬ 20 ≤ fdGo Y W u cnt.toNat 0 := by
      by_cases z : ∃ k : Nat, (k : Int) < cnt ∧ Y k = u
      · obtain ⟨k, k1, ky⟩ := z
        rw [fd_k hh k1 ky]
        rcases hk k k1 with ⟨x0, x1, x2⟩ | ⟨x0, x1, x2⟩
        · omega
        · exact absurd ((x2.iff hw).mp ky) (hn _ (by omega) (by omega))
      · rw [fd_n hh (fun k k1 ky => z ⟨k, k1, ky⟩)]
        omega
    rw [if_neg key]
    simp (disch := omega) only [stF hs hst, ↓reduceIte, not_false_eq_true, not_true_eq_false, and_self, and_true, true_and, false_and, and_false, or_true, true_or, or_false, false_or, or_self, reduceCtorEq, mm_q, Option.getD_some, cI_some, cJ_some, cV_some, cS_some, kd_sI, kd_sL, kd_sR, kd_cp, ln_sI, ln_sL, ln_sR, ln_cp, gR_sI, gR_sL, gR_sR, gR_cp, gL_sI, gL_sR, gL_cp, gI_sL, gI_sR, iI_add, iI_sub, iI_mul, iI_neg, iI_in, iI_tn, iI_lt, iI_eq, Nat.reduceLeDiff, Nat.reduceEqDiff, Nat.reduceAdd, Int.reduceEq, Int.reduceLT, Int.reduceLE, Int.reduceNeg, Int.reduceAdd, Int.reduceSub, Int.reduceMul, hb, show ¬ w < b by omega]
  | r + 1, w, hr, w0, hn => by
    have hh := h
    obtain ⟨he, ⟨a0, a1⟩, ⟨b0, b1⟩, hk, hj, h1, h2⟩ := h
    obtain ⟨k, k1, kw⟩ := h2 w w0 (by omega)
    have wf := wkF hs hst w0 (show w < 8 by omega)
    rcases hk k k1 with ⟨x0, x1, -⟩ | ⟨x0, x1, x2⟩
    · omega
    · rw [kw, show (20 + w - 20).toNat = w.toNat by omega] at x2
      have hi := x2.iff hw
      by_cases z : mm_gL c (s + 13 + w.toNat) 0 = v
      · rw [sg_67_2, fd_k hh k1 (hi.mpr z), kw, if_pos (show 20 ≤ 20 + w by omega), show 20 + w - 20 = w by omega]
        simp (disch := omega) only [stF hs hst, wf, ↓reduceIte, not_false_eq_true, not_true_eq_false, and_self, and_true, true_and, false_and, and_false, or_true, true_or, or_false, false_or, or_self, reduceCtorEq, mm_q, Option.getD_some, cI_some, cJ_some, cV_some, cS_some, kd_sI, kd_sL, kd_sR, kd_cp, ln_sI, ln_sL, ln_sR, ln_cp, gR_sI, gR_sL, gR_sR, gR_cp, gL_sI, gL_sR, gL_cp, gI_sL, gI_sR, iI_add, iI_sub, iI_mul, iI_neg, iI_in, iI_tn, iI_lt, iI_eq, Nat.reduceLeDiff, Nat.reduceEqDiff, Nat.reduceAdd, Int.reduceEq, Int.reduceLT, Int.reduceLE, Int.reduceNeg, Int.reduceAdd, Int.reduceSub, Int.reduceMul, hb, show w < b by omega, lg_eq, z]
      · have ih := C67L hs hst hh hb hw r (w + 1) (by omega) (by omega) (fun q q0 q1 => by
          by_cases y : q = w
          · rw [y]; exact z
          · exact hn q q0 (by omega))
        rw [sg_67_2, ← ih]
        simp (disch := omega) only [stF hs hst, wf, ↓reduceIte, not_false_eq_true, not_true_eq_false, and_self, and_true, true_and, false_and, and_false, or_true, true_or, or_false, false_or, or_self, reduceCtorEq, mm_q, Option.getD_some, cI_some, cJ_some, cV_some, cS_some, kd_sI, kd_sL, kd_sR, kd_cp, ln_sI, ln_sL, ln_sR, ln_cp, gR_sI, gR_sL, gR_sR, gR_cp, gL_sI, gL_sR, gL_cp, gI_sL, gI_sR, iI_add, iI_sub, iI_mul, iI_neg, iI_in, iI_tn, iI_lt, iI_eq, Nat.reduceLeDiff, Nat.reduceEqDiff, Nat.reduceAdd, Int.reduceEq, Int.reduceLT, Int.reduceLE, Int.reduceNeg, Int.reduceAdd, Int.reduceSub, Int.reduceMul, hb, show w < b by omega, lg_eq, z]
theorem C67 (hs : Sh c) (hst : isSt s) (h : NR Y W cnt a b s c) (hb : mm_gI c s 10 = iI b) {u v : Int64} (hw : WR u v) : mm_ev d 67 0 [some (.ref s), some (.long v), none, none] [] c = some (some (some (.int (iI (if 20 ≤ fdGo Y W u cnt.toNat 0 then fdGo Y W u cnt.toNat 0 - 20 else -1)))), c) := by
  have := h.2.2.1
  rw [sg_67_0]
  exact C67L hs hst h hb hw b.toNat 0 (by omega) (by omega) (fun q q0 q1 => by omega)
/-- a NAME's word -/
theorem CR.w (hT : TS D n T N) (h : CR D n T N i s c) (z : ty T i = 30) : mm_gL c 101 7 = tW T i ∧ WR (tV T i) (tW T i) ∧ i < N := by
  rcases (hT.k h.2.2.1.1 h.2.2.1.2).2 with ⟨-, q, y⟩ | ⟨iN, ⟨q, y, y', w⟩ | ⟨q, y, y', v⟩ | ⟨q, y, g, v⟩ | ⟨q, y⟩⟩
  · omega
  · exact ⟨h.2.1.2.2.2.2 q, w, iN⟩
  · omega
  · unfold sgn at g; omega
  · omega
def rnS (T : TK) (Y : Nat → Int64) (W : Nat → Int32) (cnt i : Int) : Int × Int := if ty T i = 30 then (if 0 ≤ fdGo Y W (tV T i) cnt.toNat 0 then (i, 3 + 16 * tP T i) else (i + 1, 0)) else (i, 1 + 16 * tP T i)
/-- readNewName -/
theorem C43 (hT : TS D n T N) (h : CR D n T N i s c) (hd : 9 ≤ d) (hN : NR Y W cnt a b s c) (ha : mm_gI c s 7 = iI a) (hb : mm_gI c s 10 = iI b) : ∃ c', mm_ev d 43 0 [some (.ref 154)] [] c = some (some (some (.int (iI (bI (decide ((rnS T Y W cnt i).2 = 0)))))), c') ∧ Fr scBr c c' ∧ ((rnS T Y W cnt i).2 = 0 → CR D n T N (rnS T Y W cnt i).1 s c' ∧ mm_gL c' 154 6 = tW T i ∧ WR (tV T i) (tW T i) ∧ i < N ∧ fdGo Y W (tV T i) cnt.toNat 0 = -1) ∧ (¬ (rnS T Y W cnt i).2 = 0 → mm_gI c' 154 3 = iI (rnS T Y W cnt i).2) := by
  obtain ⟨i0, i1⟩ := h.2.2.1
  have pr := (hT.k i0 i1).1
  have tr := hT.tyr i0 i1
  have hst := h.2.2.2.1
  have h1 := h.2.2.2.2.1
  unfold rnS
  rw [sg_43_0 (by omega)]
  by_cases z : ty T i = 30
  · obtain ⟨hv, hw, iN⟩ := h.w hT z
    have e66 := C66 (d := d - 1) h.1.1 hst hN ha hw
    have e67 := C67 (d := d - 1) h.1.1 hst hN hb hw
    have fa := fd_a hN (tV T i)
    have ra := hN.2.1
    have rb := hN.2.2.1
    generalize hy : fdGo Y W (tV T i) cnt.toNat 0 = y at e66 e67 fa ⊢
    have e54 : mm_ev d 43 54 [some (.ref 154)] [] c = some (some (some (.int (iI 0))), mm_sI c 154 3 (iI (3 + 16 * tP T i))) := by
      rw [sg_43_54 (by omega)]
      simp (disch := omega) only [shP h.1.1, ↓reduceIte, not_false_eq_true, not_true_eq_false, and_self, and_true, true_and, false_and, and_false, or_true, true_or, or_false, false_or, or_self, reduceCtorEq, mm_q, Option.getD_some, cI_some, cJ_some, cV_some, cS_some, kd_sI, kd_sL, kd_sR, kd_cp, ln_sI, ln_sL, ln_sR, ln_cp, gR_sI, gR_sL, gR_sR, gR_cp, gL_sI, gL_sR, gL_cp, gI_sL, gI_sR, iI_add, iI_sub, iI_mul, iI_neg, iI_in, iI_tn, iI_lt, iI_eq, Nat.reduceLeDiff, Nat.reduceEqDiff, Nat.reduceAdd, Int.reduceEq, Int.reduceLT, Int.reduceLE, Int.reduceNeg, Int.reduceAdd, Int.reduceSub, Int.reduceMul, C40 hT h]
    rw [if_pos z]
    by_cases z2 : 0 ≤ y
    · rw [if_pos z2]
      refine ⟨mm_sI c 154 3 (iI (3 + 16 * tP T i)), ?_, Fr.r154, fun q => by dsimp only at q; omega, fun _ => by simp [gI_sI]⟩
      rw [decide_eq_false (by first | omega | (dsimp only; omega))]
      by_cases z3 : y < 20
      · rw [if_pos ⟨z2, z3⟩] at e66
        simp (disch := omega) only [shP h.1.1, shT h.1.1, ↓reduceIte, not_false_eq_true, not_true_eq_false, and_self, and_true, true_and, false_and, and_false, or_true, true_or, or_false, false_or, or_self, reduceCtorEq, mm_q, Option.getD_some, cI_some, cJ_some, cV_some, cS_some, kd_sI, kd_sL, kd_sR, kd_cp, ln_sI, ln_sL, ln_sR, ln_cp, gR_sI, gR_sL, gR_sR, gR_cp, gL_sI, gL_sR, gL_cp, gI_sL, gI_sR, iI_add, iI_sub, iI_mul, iI_neg, iI_in, iI_tn, iI_lt, iI_eq, Nat.reduceLeDiff, Nat.reduceEqDiff, Nat.reduceAdd, Int.reduceEq, Int.reduceLT, Int.reduceLE, Int.reduceNeg, Int.reduceAdd, Int.reduceSub, Int.reduceMul, h.2.1.2.1, z, h1, stF h.1.1 hst, hv, e66]
        rw [sg_43_32 (by omega)]
        simp (disch := omega) only [↓reduceIte, not_false_eq_true, not_true_eq_false, and_self, and_true, true_and, false_and, and_false, or_true, true_or, or_false, false_or, or_self, reduceCtorEq, mm_q, Option.getD_some, cI_some, cJ_some, cV_some, cS_some, kd_sI, kd_sL, kd_sR, kd_cp, ln_sI, ln_sL, ln_sR, ln_cp, gR_sI, gR_sL, gR_sR, gR_cp, gL_sI, gL_sR, gL_cp, gI_sL, gI_sR, iI_add, iI_sub, iI_mul, iI_neg, iI_in, iI_tn, iI_lt, iI_eq, Nat.reduceLeDiff, Nat.reduceEqDiff, Nat.reduceAdd, Int.reduceEq, Int.reduceLT, Int.reduceLE, Int.reduceNeg, Int.reduceAdd, Int.reduceSub, Int.reduceMul, show ¬ y = -1 by omega]
        rw [e54]
        rfl
      · rw [if_neg (fun q => z3 q.2)] at e66
        rw [if_pos (by omega)] at e67
        simp (disch := omega) only [shP h.1.1, shT h.1.1, ↓reduceIte, not_false_eq_true, not_true_eq_false, and_self, and_true, true_and, false_and, and_false, or_true, true_or, or_false, false_or, or_self, reduceCtorEq, mm_q, Option.getD_some, cI_some, cJ_some, cV_some, cS_some, kd_sI, kd_sL, kd_sR, kd_cp, ln_sI, ln_sL, ln_sR, ln_cp, gR_sI, gR_sL, gR_sR, gR_cp, gL_sI, gL_sR, gL_cp, gI_sL, gI_sR, iI_add, iI_sub, iI_mul, iI_neg, iI_in, iI_tn, iI_lt, iI_eq, Nat.reduceLeDiff, Nat.reduceEqDiff, Nat.reduceAdd, Int.reduceEq, Int.reduceLT, Int.reduceLE, Int.reduceNeg, Int.reduceAdd, Int.reduceSub, Int.reduceMul, h.2.1.2.1, z, h1, stF h.1.1 hst, hv, e66]
        rw [sg_43_32 (by omega)]
        simp (disch := omega) only [shP h.1.1, shT h.1.1, ↓reduceIte, not_false_eq_true, not_true_eq_false, and_self, and_true, true_and, false_and, and_false, or_true, true_or, or_false, false_or, or_self, reduceCtorEq, mm_q, Option.getD_some, cI_some, cJ_some, cV_some, cS_some, kd_sI, kd_sL, kd_sR, kd_cp, ln_sI, ln_sL, ln_sR, ln_cp, gR_sI, gR_sL, gR_sR, gR_cp, gL_sI, gL_sR, gL_cp, gI_sL, gI_sR, iI_add, iI_sub, iI_mul, iI_neg, iI_in, iI_tn, iI_lt, iI_eq, Nat.reduceLeDiff, Nat.reduceEqDiff, Nat.reduceAdd, Int.reduceEq, Int.reduceLT, Int.reduceLE, Int.reduceNeg, Int.reduceAdd, Int.reduceSub, Int.reduceMul, h1, stF h.1.1 hst, hv, e67]
        rw [sg_43_50 (by omega)]
        simp (disch := omega) only [↓reduceIte, not_false_eq_true, not_true_eq_false, and_self, and_true, true_and, false_and, and_false, or_true, true_or, or_false, false_or, or_self, reduceCtorEq, mm_q, Option.getD_some, cI_some, cJ_some, cV_some, cS_some, kd_sI, kd_sL, kd_sR, kd_cp, ln_sI, ln_sL, ln_sR, ln_cp, gR_sI, gR_sL, gR_sR, gR_cp, gL_sI, gL_sR, gL_cp, gI_sL, gI_sR, iI_add, iI_sub, iI_mul, iI_neg, iI_in, iI_tn, iI_lt, iI_eq, Nat.reduceLeDiff, Nat.reduceEqDiff, Nat.reduceAdd, Int.reduceEq, Int.reduceLT, Int.reduceLE, Int.reduceNeg, Int.reduceAdd, Int.reduceSub, Int.reduceMul, show ¬ y - 20 = -1 by omega]
        rw [e54]
        rfl
    · rw [if_neg (fun q => z2 q.1)] at e66
      rw [if_neg (by omega)] at e67
      obtain ⟨c', e, g, r, k9⟩ := CR.nx (d := d - 1) hT (h.l (k := 6) (v := tW T i)) (by omega) iN
      rw [if_neg z2]
      refine ⟨c', ?_, Fr.l154.tr g, fun _ => ⟨r, by rw [(k9 6).2]; simp [gL_sL], hw, iN, by omega⟩, fun q => absurd rfl q⟩
      simp (disch := omega) only [shP h.1.1, shT h.1.1, ↓reduceIte, not_false_eq_true, not_true_eq_false, and_self, and_true, true_and, false_and, and_false, or_true, true_or, or_false, false_or, or_self, reduceCtorEq, mm_q, Option.getD_some, cI_some, cJ_some, cV_some, cS_some, kd_sI, kd_sL, kd_sR, kd_cp, ln_sI, ln_sL, ln_sR, ln_cp, gR_sI, gR_sL, gR_sR, gR_cp, gL_sI, gL_sR, gL_cp, gI_sL, gI_sR, iI_add, iI_sub, iI_mul, iI_neg, iI_in, iI_tn, iI_lt, iI_eq, Nat.reduceLeDiff, Nat.reduceEqDiff, Nat.reduceAdd, Int.reduceEq, Int.reduceLT, Int.reduceLE, Int.reduceNeg, Int.reduceAdd, Int.reduceSub, Int.reduceMul, h.2.1.2.1, z, h1, stF h.1.1 hst, hv, e66]
      rw [sg_43_32 (by omega)]
      simp (disch := omega) only [shP h.1.1, shT h.1.1, ↓reduceIte, not_false_eq_true, not_true_eq_false, and_self, and_true, true_and, false_and, and_false, or_true, true_or, or_false, false_or, or_self, reduceCtorEq, mm_q, Option.getD_some, cI_some, cJ_some, cV_some, cS_some, kd_sI, kd_sL, kd_sR, kd_cp, ln_sI, ln_sL, ln_sR, ln_cp, gR_sI, gR_sL, gR_sR, gR_cp, gL_sI, gL_sR, gL_cp, gI_sL, gI_sR, iI_add, iI_sub, iI_mul, iI_neg, iI_in, iI_tn, iI_lt, iI_eq, Nat.reduceLeDiff, Nat.reduceEqDiff, Nat.reduceAdd, Int.reduceEq, Int.reduceLT, Int.reduceLE, Int.reduceNeg, Int.reduceAdd, Int.reduceSub, Int.reduceMul, h1, stF h.1.1 hst, hv, e67]
      rw [sg_43_50 (by omega)]
      simp (disch := omega) only [shP h.1.1, shT h.1.1, ↓reduceIte, not_false_eq_true, not_true_eq_false, and_self, and_true, true_and, false_and, and_false, or_true, true_or, or_false, false_or, or_self, reduceCtorEq, mm_q, Option.getD_some, cI_some, cJ_some, cV_some, cS_some, kd_sI, kd_sL, kd_sR, kd_cp, ln_sI, ln_sL, ln_sR, ln_cp, gR_sI, gR_sL, gR_sR, gR_cp, gL_sI, gL_sR, gL_cp, gI_sL, gI_sR, iI_add, iI_sub, iI_mul, iI_neg, iI_in, iI_tn, iI_lt, iI_eq, Nat.reduceLeDiff, Nat.reduceEqDiff, Nat.reduceAdd, Int.reduceEq, Int.reduceLT, Int.reduceLE, Int.reduceNeg, Int.reduceAdd, Int.reduceSub, Int.reduceMul, hv, e]
      rfl
  · rw [if_neg z]
    refine ⟨mm_sI c 154 3 (iI (1 + 16 * tP T i)), ?_, Fr.r154, fun q => by dsimp only at q; omega, fun _ => by simp [gI_sI]⟩
    simp (disch := omega) only [shP h.1.1, shT h.1.1, ↓reduceIte, not_false_eq_true, not_true_eq_false, and_self, and_true, true_and, false_and, and_false, or_true, true_or, or_false, false_or, or_self, reduceCtorEq, mm_q, Option.getD_some, cI_some, cJ_some, cV_some, cS_some, kd_sI, kd_sL, kd_sR, kd_cp, ln_sI, ln_sL, ln_sR, ln_cp, gR_sI, gR_sL, gR_sR, gR_cp, gL_sI, gL_sR, gL_cp, gI_sL, gI_sR, iI_add, iI_sub, iI_mul, iI_neg, iI_in, iI_tn, iI_lt, iI_eq, Nat.reduceLeDiff, Nat.reduceEqDiff, Nat.reduceAdd, Int.reduceEq, Int.reduceLT, Int.reduceLE, Int.reduceNeg, Int.reduceAdd, Int.reduceSub, Int.reduceMul, h.2.1.2.1, z, C40 hT h]
    rw [decide_eq_false (by first | omega | (dsimp only; omega))]
    rfl
/-- readWalkerName -/
theorem C51 (hT : TS D n T N) (h : CR D n T N i s c) (hd : 9 ≤ d) (hN : NR Y W cnt a b s c) (hb : mm_gI c s 10 = iI b) : ∃ c', mm_ev d 51 0 [some (.ref 154)] [] c = some (some (some (.int (iI (bI (decide ((thS T Y W cnt 20 8 i 0).2 = 0)))))), c') ∧ Fr scBr c c' ∧ ((thS T Y W cnt 20 8 i 0).2 = 0 → CR D n T N (i + 1) s c' ∧ mm_gI c' 154 5 = iI (thS T Y W cnt 20 8 i 0).1 ∧ (∀ k, ¬ k = 5 → mm_gI c' 154 k = mm_gI c 154 k) ∧ i < N) ∧ (¬ (thS T Y W cnt 20 8 i 0).2 = 0 → mm_gI c' 154 3 = iI (thS T Y W cnt 20 8 i 0).2) := by
  obtain ⟨i0, i1⟩ := h.2.2.1
  have pr := (hT.k i0 i1).1
  have tr := hT.tyr i0 i1
  have hst := h.2.2.2.1
  have h1 := h.2.2.2.2.1
  unfold thS
  rw [sg_51_0 (by omega), if_pos rfl]
  by_cases z : ty T i = 30
  · obtain ⟨hv, hw, iN⟩ := h.w hT z
    have e67 := C67 (d := d - 1) h.1.1 hst hN hb hw
    have fa := fd_a hN (tV T i)
    have ra := hN.2.1
    have rb := hN.2.2.1
    generalize hy : fdGo Y W (tV T i) cnt.toNat 0 = y at e67 fa ⊢
    rw [if_pos z]
    by_cases z2 : 20 ≤ y
    · rw [if_pos z2] at e67
      rw [if_pos (show 20 ≤ y ∧ y < 20 + 8 by omega)]
      obtain ⟨c', e, g, r, k9⟩ := CR.nx (d := d - 1) hT (h.r (k := 5) (v := iI (y - 20))) (by omega) iN
      refine ⟨c', ?_, Fr.r154.tr g, fun _ => ⟨r, by rw [(k9 5).1]; simp [gI_sI], fun k hk => by rw [(k9 k).1]; simp [gI_sI, hk], iN⟩, fun q => absurd rfl q⟩
      simp (disch := omega) only [shP h.1.1, shT h.1.1, ↓reduceIte, not_false_eq_true, not_true_eq_false, and_self, and_true, true_and, false_and, and_false, or_true, true_or, or_false, false_or, or_self, reduceCtorEq, mm_q, Option.getD_some, cI_some, cJ_some, cV_some, cS_some, kd_sI, kd_sL, kd_sR, kd_cp, ln_sI, ln_sL, ln_sR, ln_cp, gR_sI, gR_sL, gR_sR, gR_cp, gL_sI, gL_sR, gL_cp, gI_sL, gI_sR, iI_add, iI_sub, iI_mul, iI_neg, iI_in, iI_tn, iI_lt, iI_eq, Nat.reduceLeDiff, Nat.reduceEqDiff, Nat.reduceAdd, Int.reduceEq, Int.reduceLT, Int.reduceLE, Int.reduceNeg, Int.reduceAdd, Int.reduceSub, Int.reduceMul, h.2.1.2.1, z, h1, stF h.1.1 hst, hv, e67]
      rw [sg_51_33 (by omega)]
      simp (disch := omega) only [shP h.1.1, shT h.1.1, ↓reduceIte, not_false_eq_true, not_true_eq_false, and_self, and_true, true_and, false_and, and_false, or_true, true_or, or_false, false_or, or_self, reduceCtorEq, mm_q, Option.getD_some, cI_some, cJ_some, cV_some, cS_some, kd_sI, kd_sL, kd_sR, kd_cp, ln_sI, ln_sL, ln_sR, ln_cp, gR_sI, gR_sL, gR_sR, gR_cp, gL_sI, gL_sR, gL_cp, gI_sL, gI_sR, iI_add, iI_sub, iI_mul, iI_neg, iI_in, iI_tn, iI_lt, iI_eq, Nat.reduceLeDiff, Nat.reduceEqDiff, Nat.reduceAdd, Int.reduceEq, Int.reduceLT, Int.reduceLE, Int.reduceNeg, Int.reduceAdd, Int.reduceSub, Int.reduceMul, gI_sI, show ¬ y - 20 = -1 by omega, e]
      rfl
    · rw [if_neg z2] at e67
      rw [if_neg (show ¬ (20 ≤ y ∧ y < 20 + 8) by omega)]
      have h' := h.r (k := 5) (v := iI (-1))
      refine ⟨mm_sI (mm_sI c 154 5 (iI (-1))) 154 3 (iI (2 + 16 * tP T i)), ?_, Fr.r154.tr Fr.r154, fun q => by dsimp only at q; omega, fun _ => by simp [gI_sI]⟩
      simp (disch := omega) only [shP h.1.1, shT h.1.1, ↓reduceIte, not_false_eq_true, not_true_eq_false, and_self, and_true, true_and, false_and, and_false, or_true, true_or, or_false, false_or, or_self, reduceCtorEq, mm_q, Option.getD_some, cI_some, cJ_some, cV_some, cS_some, kd_sI, kd_sL, kd_sR, kd_cp, ln_sI, ln_sL, ln_sR, ln_cp, gR_sI, gR_sL, gR_sR, gR_cp, gL_sI, gL_sR, gL_cp, gI_sL, gI_sR, iI_add, iI_sub, iI_mul, iI_neg, iI_in, iI_tn, iI_lt, iI_eq, Nat.reduceLeDiff, Nat.reduceEqDiff, Nat.reduceAdd, Int.reduceEq, Int.reduceLT, Int.reduceLE, Int.reduceNeg, Int.reduceAdd, Int.reduceSub, Int.reduceMul, h.2.1.2.1, z, h1, stF h.1.1 hst, hv, e67]
      rw [sg_51_33 (by omega)]
      simp (disch := omega) only [shP h.1.1, shT h.1.1, ↓reduceIte, not_false_eq_true, not_true_eq_false, and_self, and_true, true_and, false_and, and_false, or_true, true_or, or_false, false_or, or_self, reduceCtorEq, mm_q, Option.getD_some, cI_some, cJ_some, cV_some, cS_some, kd_sI, kd_sL, kd_sR, kd_cp, ln_sI, ln_sL, ln_sR, ln_cp, gR_sI, gR_sL, gR_sR, gR_cp, gL_sI, gL_sR, gL_cp, gI_sL, gI_sR, iI_add, iI_sub, iI_mul, iI_neg, iI_in, iI_tn, iI_lt, iI_eq, Nat.reduceLeDiff, Nat.reduceEqDiff, Nat.reduceAdd, Int.reduceEq, Int.reduceLT, Int.reduceLE, Int.reduceNeg, Int.reduceAdd, Int.reduceSub, Int.reduceMul, gI_sI, C40 hT h']
      rw [decide_eq_false (by first | omega | (dsimp only; omega))]
      rfl
  · rw [if_neg z]
    refine ⟨mm_sI c 154 3 (iI (1 + 16 * tP T i)), ?_, Fr.r154, fun q => by dsimp only at q; omega, fun _ => by simp [gI_sI]⟩
    simp (disch := omega) only [shP h.1.1, shT h.1.1, ↓reduceIte, not_false_eq_true, not_true_eq_false, and_self, and_true, true_and, false_and, and_false, or_true, true_or, or_false, false_or, or_self, reduceCtorEq, mm_q, Option.getD_some, cI_some, cJ_some, cV_some, cS_some, kd_sI, kd_sL, kd_sR, kd_cp, ln_sI, ln_sL, ln_sR, ln_cp, gR_sI, gR_sL, gR_sR, gR_cp, gL_sI, gL_sR, gL_cp, gI_sL, gI_sR, iI_add, iI_sub, iI_mul, iI_neg, iI_in, iI_tn, iI_lt, iI_eq, Nat.reduceLeDiff, Nat.reduceEqDiff, Nat.reduceAdd, Int.reduceEq, Int.reduceLT, Int.reduceLE, Int.reduceNeg, Int.reduceAdd, Int.reduceSub, Int.reduceMul, h.2.1.2.1, z, C40 hT h]
    rw [decide_eq_false (by first | omega | (dsimp only; omega))]
    rfl
/-- seeWordName -/
theorem C49 (hT : TS D n T N) (h : CR D n T N i s c) (hd : 9 ≤ d) (hN : NR Y W cnt a b s c) (ha : mm_gI c s 7 = iI a) : ∃ c', mm_ev d 49 0 [some (.ref 154)] [] c = some (some (some (.int (iI (bI (decide ((thS T Y W cnt 0 6 i 0).2 = 0)))))), c') ∧ Fr scBr c c' ∧ ((thS T Y W cnt 0 6 i 0).2 = 0 → CR D n T N i s c' ∧ mm_gI c' 154 5 = iI (thS T Y W cnt 0 6 i 0).1 ∧ i < N ∧ (∀ k, mm_gL c' 154 k = mm_gL c 154 k)) ∧ (¬ (thS T Y W cnt 0 6 i 0).2 = 0 → mm_gI c' 154 3 = iI (thS T Y W cnt 0 6 i 0).2) := by
  obtain ⟨i0, i1⟩ := h.2.2.1
  have pr := (hT.k i0 i1).1
  have tr := hT.tyr i0 i1
  have hst := h.2.2.2.1
  have h1 := h.2.2.2.2.1
  unfold thS
  rw [sg_49_0 (by omega), if_pos rfl]
  by_cases z : ty T i = 30
  · obtain ⟨hv, hw, iN⟩ := h.w hT z
    have e66 := C66 (d := d - 1) h.1.1 hst hN ha hw
    have fa := fd_a hN (tV T i)
    have ra := hN.2.1
    have rb := hN.2.2.1
    generalize hy : fdGo Y W (tV T i) cnt.toNat 0 = y at e66 fa ⊢
    rw [if_pos z]
    by_cases z2 : 0 ≤ y ∧ y < 20
    · rw [if_pos z2] at e66
      rw [if_pos (show 0 ≤ y ∧ y < 0 + 6 by omega)]
      refine ⟨mm_sI c 154 5 (iI y), ?_, Fr.r154, fun _ => ⟨h.r, by rw [Int.sub_zero]; simp [gI_sI], iN, fun _ => rfl⟩, fun q => absurd rfl q⟩
      simp (disch := omega) only [shP h.1.1, shT h.1.1, ↓reduceIte, not_false_eq_true, not_true_eq_false, and_self, and_true, true_and, false_and, and_false, or_true, true_or, or_false, false_or, or_self, reduceCtorEq, mm_q, Option.getD_some, cI_some, cJ_some, cV_some, cS_some, kd_sI, kd_sL, kd_sR, kd_cp, ln_sI, ln_sL, ln_sR, ln_cp, gR_sI, gR_sL, gR_sR, gR_cp, gL_sI, gL_sR, gL_cp, gI_sL, gI_sR, iI_add, iI_sub, iI_mul, iI_neg, iI_in, iI_tn, iI_lt, iI_eq, Nat.reduceLeDiff, Nat.reduceEqDiff, Nat.reduceAdd, Int.reduceEq, Int.reduceLT, Int.reduceLE, Int.reduceNeg, Int.reduceAdd, Int.reduceSub, Int.reduceMul, h.2.1.2.1, z, h1, stF h.1.1 hst, hv, e66]
      rw [sg_49_33 (by omega)]
      simp (disch := omega) only [shP h.1.1, shT h.1.1, ↓reduceIte, not_false_eq_true, not_true_eq_false, and_self, and_true, true_and, false_and, and_false, or_true, true_or, or_false, false_or, or_self, reduceCtorEq, mm_q, Option.getD_some, cI_some, cJ_some, cV_some, cS_some, kd_sI, kd_sL, kd_sR, kd_cp, ln_sI, ln_sL, ln_sR, ln_cp, gR_sI, gR_sL, gR_sR, gR_cp, gL_sI, gL_sR, gL_cp, gI_sL, gI_sR, iI_add, iI_sub, iI_mul, iI_neg, iI_in, iI_tn, iI_lt, iI_eq, Nat.reduceLeDiff, Nat.reduceEqDiff, Nat.reduceAdd, Int.reduceEq, Int.reduceLT, Int.reduceLE, Int.reduceNeg, Int.reduceAdd, Int.reduceSub, Int.reduceMul, gI_sI, show ¬ y = -1 by omega]
      rfl
    · rw [if_neg z2] at e66
      rw [if_neg (show ¬ (0 ≤ y ∧ y < 0 + 6) by omega)]
      have h' := h.r (k := 5) (v := iI (-1))
      refine ⟨mm_sI (mm_sI c 154 5 (iI (-1))) 154 3 (iI (2 + 16 * tP T i)), ?_, Fr.r154.tr Fr.r154, fun q => by dsimp only at q; omega, fun _ => by simp [gI_sI]⟩
      simp (disch := omega) only [shP h.1.1, shT h.1.1, ↓reduceIte, not_false_eq_true, not_true_eq_false, and_self, and_true, true_and, false_and, and_false, or_true, true_or, or_false, false_or, or_self, reduceCtorEq, mm_q, Option.getD_some, cI_some, cJ_some, cV_some, cS_some, kd_sI, kd_sL, kd_sR, kd_cp, ln_sI, ln_sL, ln_sR, ln_cp, gR_sI, gR_sL, gR_sR, gR_cp, gL_sI, gL_sR, gL_cp, gI_sL, gI_sR, iI_add, iI_sub, iI_mul, iI_neg, iI_in, iI_tn, iI_lt, iI_eq, Nat.reduceLeDiff, Nat.reduceEqDiff, Nat.reduceAdd, Int.reduceEq, Int.reduceLT, Int.reduceLE, Int.reduceNeg, Int.reduceAdd, Int.reduceSub, Int.reduceMul, h.2.1.2.1, z, h1, stF h.1.1 hst, hv, e66]
      rw [sg_49_33 (by omega)]
      simp (disch := omega) only [shP h.1.1, shT h.1.1, ↓reduceIte, not_false_eq_true, not_true_eq_false, and_self, and_true, true_and, false_and, and_false, or_true, true_or, or_false, false_or, or_self, reduceCtorEq, mm_q, Option.getD_some, cI_some, cJ_some, cV_some, cS_some, kd_sI, kd_sL, kd_sR, kd_cp, ln_sI, ln_sL, ln_sR, ln_cp, gR_sI, gR_sL, gR_sR, gR_cp, gL_sI, gL_sR, gL_cp, gI_sL, gI_sR, iI_add, iI_sub, iI_mul, iI_neg, iI_in, iI_tn, iI_lt, iI_eq, Nat.reduceLeDiff, Nat.reduceEqDiff, Nat.reduceAdd, Int.reduceEq, Int.reduceLT, Int.reduceLE, Int.reduceNeg, Int.reduceAdd, Int.reduceSub, Int.reduceMul, gI_sI, C40 hT h']
      rw [decide_eq_false (by first | omega | (dsimp only; omega))]
      rfl
  · rw [if_neg z]
    refine ⟨mm_sI c 154 3 (iI (1 + 16 * tP T i)), ?_, Fr.r154, fun q => by dsimp only at q; omega, fun _ => by simp [gI_sI]⟩
    simp (disch := omega) only [shP h.1.1, shT h.1.1, ↓reduceIte, not_false_eq_true, not_true_eq_false, and_self, and_true, true_and, false_and, and_false, or_true, true_or, or_false, false_or, or_self, reduceCtorEq, mm_q, Option.getD_some, cI_some, cJ_some, cV_some, cS_some, kd_sI, kd_sL, kd_sR, kd_cp, ln_sI, ln_sL, ln_sR, ln_cp, gR_sI, gR_sL, gR_sR, gR_cp, gL_sI, gL_sR, gL_cp, gI_sL, gI_sR, iI_add, iI_sub, iI_mul, iI_neg, iI_in, iI_tn, iI_lt, iI_eq, Nat.reduceLeDiff, Nat.reduceEqDiff, Nat.reduceAdd, Int.reduceEq, Int.reduceLT, Int.reduceLE, Int.reduceNeg, Int.reduceAdd, Int.reduceSub, Int.reduceMul, h.2.1.2.1, z, C40 hT h]
    rw [decide_eq_false (by first | omega | (dsimp only; omega))]
    rfl
end
