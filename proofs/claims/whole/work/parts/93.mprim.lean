/-- the model while it reads: at the token i, with the fault f -/
def PF (D : Nat → Nat → Int32) (E : Nat → Nat → Int64) (T : TK) (N i f : Int) (m : mm_M) : Prop := MD D E m ∧ TM T 0 N m ∧ mm_gI m 316 7 = iI i ∧ mm_gI m 316 8 = iI f ∧ (0 ≤ i ∧ i ≤ N) ∧ (0 ≤ f ∧ f < 20000)
def EK (E : Nat → Nat → Int64) : Prop := ∀ k, 0 ≤ k → k < 34 → E 321 k.toNat = kwL k
def scAt (a k : Nat) : Bool := Nat.beq a 316 && (Nat.beq k 7 || Nat.beq k 8)
def twS (T : TK) (w i f : Int) : Int × Int := if f = 0 then (if ty T i = w then (i + 1, 0) else (i, 1 + 16 * tP T i)) else (i, f)
def tnS (T : TK) (lo hi i f : Int) : Int × Int × Int := if f = 0 then (if ty T i = 31 then (if tN T i < lo then (0, i, 4 + 16 * tP T i) else if hi < tN T i then (0, i, 4 + 16 * tP T i) else (tN T i, i + 1, 0)) else (0, i, 1 + 16 * tP T i)) else (0, i, f)
def taS (T : TK) (w lo hi i f : Int) : Int × Int × Int := tnS T lo hi (twS T w i f).1 (twS T w i f).2
def toS (T : TK) (a n i f : Int) : Int × Int × Int := if f = 0 then (if a ≤ ty T i ∧ ty T i < a + n then (ty T i - a, i + 1, 0) else (0, i, 1 + 16 * tP T i)) else (0, i, f)
/-- a name's number among those told -/
def fdGo (Y : Nat → Int64) (W : Nat → Int32) (u : Int64) : Nat → Nat → Int
  | 0, _ => -1
  | r + 1, k => if Y k = u then (W k).toInt else fdGo Y W u r (k + 1)
def thS (T : TK) (Y : Nat → Int64) (W : Nat → Int32) (cnt a n i f : Int) : Int × Int := if f = 0 then (if ty T i = 30 then (if a ≤ fdGo Y W (tV T i) cnt.toNat 0 ∧ fdGo Y W (tV T i) cnt.toNat 0 < a + n then (fdGo Y W (tV T i) cnt.toNat 0 - a, 0) else (0, 2 + 16 * tP T i)) else (0, 1 + 16 * tP T i)) else (0, f)
def NMm (Y : Nat → Int64) (W : Nat → Int32) (cnt : Int) (a b : Nat) (m : mm_M) : Prop := ∀ k : Nat, (k : Int) < cnt → mm_gL m a k = Y k ∧ mm_gI m b k = W k
theorem nv_r {X : Int → Int} {p : Int} : ∀ k : Nat, (∀ i : Nat, i < k → isG (X (p + i))) → 0 ≤ nv X p k ∧ nv X p k < 10 ^ k
  | 0, _ => by unfold nv; simp
  | k + 1, h => by
    obtain ⟨a, b⟩ := nv_r (X := X) (p := p) k (fun i hi => h i (by omega))
    have c := h k (by omega)
    unfold isG at c
    rw [nv_s, Int.pow_succ, Int.mul_comm ((10 : Int) ^ k) 10]
    generalize (10 : Int) ^ k = y at b ⊢
    omega
theorem pw_4 {k : Nat} (h : k ≤ 4) : (10 : Int) ^ k ≤ 10000 := by
  have : k = 0 ∨ k = 1 ∨ k = 2 ∨ k = 3 ∨ k = 4 := by omega
  rcases this with rfl | rfl | rfl | rfl | rfl <;> decide
section
variable {D : Nat → Nat → Int32} {E : Nat → Nat → Int64} {m m' : mm_M} {d : Nat} {n N i f : Int} {T : TK}
/-- what a token is -/
theorem TS.k (h : TS D n T N) (i0 : 0 ≤ i) (i1 : i ≤ N) : (0 ≤ tP T i ∧ tP T i ≤ 1000) ∧ ((i = N ∧ tS T i = 0 ∧ ty T i = 128) ∨ (i < N ∧ ((tS T i = 1 ∧ ty T i = kx (tV T i) ∧ (0 ≤ ty T i ∧ ty T i ≤ 30) ∧ WR (tV T i) (tW T i)) ∨ (tS T i = 2 ∧ ty T i = 31 ∧ (0 ≤ tN T i ∧ tN T i ≤ 9999) ∧ tV T i = lI (tN T i)) ∨ (tS T i = 3 ∧ ty T i = tN T i ∧ sgn (tN T i) ∧ tV T i = lI (tN T i)) ∨ (tS T i = 4 ∧ ty T i = 127)))) := by
  obtain ⟨a1, a2, a3, a4⟩ := h.t i0 i1
  have n2 := h.1.2.2
  refine ⟨⟨by omega, by omega⟩, ?_⟩
  by_cases y : i = N
  · have e8 : tS T i = 0 := by rw [y]; exact h.2.2.2.1.1
    exact Or.inl ⟨y, e8, by unfold ty; rw [if_pos e8]⟩
  · refine Or.inr ⟨by omega, ?_⟩
    obtain ⟨⟨b1, b2, b3, b4⟩, -, -, hc⟩ := h.2.2.1 i i0 (by omega)
    unfold ty
    rcases hc with ⟨z, hl, he, hs⟩ | ⟨z, hl, he, hs⟩ | ⟨z1, z2, he, hs⟩
    · rcases hs with ⟨s1, s2⟩ | ⟨s1, s2, s3, s4⟩
      · exact Or.inr (Or.inr (Or.inr ⟨s2, by rw [if_neg (by omega), if_pos s2]⟩))
      · refine Or.inl ⟨s2, by rw [if_neg (by omega), if_neg (by omega), if_neg (by omega), if_neg (by omega)], ?_, tx D, tP T i, (tX T (i + 1) - tP T i).toNat, ⟨by omega, by omega⟩, fun q hq => hl _ (by omega) (by omega), s3, s4⟩
        rw [if_neg (by omega), if_neg (by omega), if_neg (by omega), if_neg (by omega)]
        exact kx_r
    · rcases hs with ⟨s1, s2⟩ | ⟨s1, s2, s3, s4⟩
      · exact Or.inr (Or.inr (Or.inr ⟨s2, by rw [if_neg (by omega), if_pos s2]⟩))
      · have hn := nv_r (X := tx D) (p := tP T i) (tX T (i + 1) - tP T i).toNat (fun q hq => hl _ (by omega) (by omega))
        have hp := pw_4 (k := (tX T (i + 1) - tP T i).toNat) (by omega)
        exact Or.inr (Or.inl ⟨s2, by rw [if_neg (by omega), if_neg (by omega), if_pos s2], ⟨by omega, by omega⟩, s4⟩)
    · rcases hs with ⟨s1, s2, s3, s4⟩ | ⟨s1, s2⟩
      · exact Or.inr (Or.inr (Or.inl ⟨s2, by rw [if_neg (by omega), if_neg (by omega), if_neg (by omega), if_pos s2], by rw [s3]; exact s1, s4⟩))
      · exact Or.inr (Or.inr (Or.inr ⟨s2, by rw [if_neg (by omega), if_pos s2]⟩))
theorem TS.lt (h : TS D n T N) (i0 : 0 ≤ i) (i1 : i ≤ N) (z : ¬ ty T i = 128) : i < N := by
  rcases (h.k i0 i1).2 with ⟨-, -, y⟩ | ⟨y, -⟩
  · exact absurd y z
  · exact y
theorem TS.tyr (h : TS D n T N) (i0 : 0 ≤ i) (i1 : i ≤ N) : 0 ≤ ty T i ∧ ty T i ≤ 128 := by
  rcases (h.k i0 i1).2 with ⟨-, -, y⟩ | ⟨-, ⟨-, -, y, -⟩ | ⟨-, y, -⟩ | ⟨-, y, z, -⟩ | ⟨-, y⟩⟩
  · omega
  · omega
  · omega
  · unfold sgn at z; omega
  · omega
theorem scAt_M {a k : Nat} (h : scM a k = false) : scAt a k = false := by
  cases e : scAt a k
  · rfl
  · unfold scAt at e
    simp only [Bool.or_eq_true, Bool.and_eq_true] at e
    exfalso
    obtain ⟨e, e'⟩ := e
    rw [Nat.eq_of_beq_eq_true e] at h
    rcases e' with e' | e'
    · rw [Nat.eq_of_beq_eq_true e'] at h; exact absurd h (by decide)
    · rw [Nat.eq_of_beq_eq_true e'] at h; exact absurd h (by decide)
theorem Fr.AtM (h : Fr scAt m m') : Fr scM m m' := h.mono (fun _ _ => scAt_M)
theorem TM.fr {P : Nat → Nat → Bool} {j : Int} (h : TM T j N m) (g : Fr P m m') (z : ∀ a k, a = 318 ∨ a = 319 ∨ a = 320 → P a k = false) : TM T j N m' := fun k k0 k1 => by
  obtain ⟨a, b, c⟩ := h k k0 k1
  exact ⟨(g.gI (z _ _ (Or.inl rfl))).trans a, (g.gI (z _ _ (Or.inr (Or.inl rfl)))).trans b, fun y => (g.gL (z _ _ (Or.inr (Or.inr rfl)))).trans (c y)⟩
theorem scAt_z {a k : Nat} (h : a = 318 ∨ a = 319 ∨ a = 320) : scAt a k = false := by
  rcases h with rfl | rfl | rfl <;> rfl
theorem Fr.at7 {v : Int32} : Fr scAt m (mm_sI m 316 7 v) := Fr.sI rfl
theorem Fr.at8 {v : Int32} : Fr scAt m (mm_sI m 316 8 v) := Fr.sI rfl
/-- at is set -/
theorem PF.at (h : PF D E T N i f m) {j : Int} (j0 : 0 ≤ j) (j1 : j ≤ N) : PF D E T N j f (mm_sI m 316 7 (iI j)) := ⟨h.1.fr Fr.at7.AtM, h.2.1.fr Fr.at7 (fun _ _ => scAt_z), by simp [gI_sI], by rw [gI_sI, if_neg (by decide)]; exact h.2.2.2.1, ⟨j0, j1⟩, h.2.2.2.2.2⟩
theorem PF.ft (h : PF D E T N i f m) {g : Int} (j0 : 0 ≤ g) (j1 : g < 20000) : PF D E T N i g (mm_sI m 316 8 (iI g)) := ⟨h.1.fr Fr.at8.AtM, h.2.1.fr Fr.at8 (fun _ _ => scAt_z), by rw [gI_sI, if_neg (by decide)]; exact h.2.2.1, by simp [gI_sI], h.2.2.2.2.1, ⟨j0, j1⟩⟩
/-- isWord -/
theorem M171 (hT : TS D n T N) (hE : EK E) (h : PF D E T N i f m) {w : Int} (w0 : 0 ≤ w) (w1 : w < 30) : mm_ev d 171 0 [some (.ref 316), some (.int (iI (w)))] [] m = some (some (some (.int (iI (bI (decide (f = 0 ∧ ty T i = w)))))), m) := by
  obtain ⟨hM, hK, h7, h8, ⟨i0, i1⟩, f0, f1⟩ := h
  obtain ⟨⟨p0, p1⟩, hk⟩ := hT.k i0 i1
  obtain ⟨k1, k2, k3⟩ := hK i i0 i1
  have n2 := hT.1
  have ew : mm_gL m 321 w.toNat = kwL w := by rw [hM.2.2 321 _ rfl]; exact hE w w0 (by omega)
  rw [sg_171_0]
  by_cases z : f = 0
  · subst z
    rcases hk with ⟨-, s, y⟩ | ⟨iN, ⟨s, y, -, -⟩ | ⟨s, y, -⟩ | ⟨s, y, g, -⟩ | ⟨s, y⟩⟩
    · simp (disch := omega) only [shM hM.1, ↓reduceIte, not_false_eq_true, not_true_eq_false, and_self, and_true, true_and, false_and, and_false, or_true, true_or, or_false, false_or, or_self, reduceCtorEq, mm_q, Option.getD_some, cI_some, cJ_some, cV_some, cS_some, kd_sI, kd_sL, kd_sR, kd_cp, ln_sI, ln_sL, ln_sR, ln_cp, gR_sI, gR_sL, gR_sR, gR_cp, gL_sI, gL_sR, gL_cp, gI_sL, gI_sR, iI_add, iI_sub, iI_mul, iI_neg, iI_in, iI_tn, iI_lt, iI_eq, Nat.reduceLeDiff, Nat.reduceEqDiff, Nat.reduceAdd, Int.reduceEq, Int.reduceLT, Int.reduceLE, Int.reduceNeg, Int.reduceAdd, Int.reduceSub, Int.reduceMul, h7, h8, k1, s]
      rw [decide_eq_false (by omega)]
      rfl
    · have hw := kx_w (v := tV T i) w0 w1
      by_cases z2 : ty T i = w
      · simp (disch := omega) only [shM hM.1, ↓reduceIte, not_false_eq_true, not_true_eq_false, and_self, and_true, true_and, false_and, and_false, or_true, true_or, or_false, false_or, or_self, reduceCtorEq, mm_q, Option.getD_some, cI_some, cJ_some, cV_some, cS_some, kd_sI, kd_sL, kd_sR, kd_cp, ln_sI, ln_sL, ln_sR, ln_cp, gR_sI, gR_sL, gR_sR, gR_cp, gL_sI, gL_sR, gL_cp, gI_sL, gI_sR, iI_add, iI_sub, iI_mul, iI_neg, iI_in, iI_tn, iI_lt, iI_eq, Nat.reduceLeDiff, Nat.reduceEqDiff, Nat.reduceAdd, Int.reduceEq, Int.reduceLT, Int.reduceLE, Int.reduceNeg, Int.reduceAdd, Int.reduceSub, Int.reduceMul, h7, h8, k1, s, k3 iN, ew, lg_eq, hw.mpr (y ▸ z2)]
        rw [decide_eq_true z2]
        rfl
      · simp (disch := omega) only [shM hM.1, ↓reduceIte, not_false_eq_true, not_true_eq_false, and_self, and_true, true_and, false_and, and_false, or_true, true_or, or_false, false_or, or_self, reduceCtorEq, mm_q, Option.getD_some, cI_some, cJ_some, cV_some, cS_some, kd_sI, kd_sL, kd_sR, kd_cp, ln_sI, ln_sL, ln_sR, ln_cp, gR_sI, gR_sL, gR_sR, gR_cp, gL_sI, gL_sR, gL_cp, gI_sL, gI_sR, iI_add, iI_sub, iI_mul, iI_neg, iI_in, iI_tn, iI_lt, iI_eq, Nat.reduceLeDiff, Nat.reduceEqDiff, Nat.reduceAdd, Int.reduceEq, Int.reduceLT, Int.reduceLE, Int.reduceNeg, Int.reduceAdd, Int.reduceSub, Int.reduceMul, h7, h8, k1, s, k3 iN, ew, lg_eq, show ¬ tV T i = kwL w from fun q => z2 (y.trans (hw.mp q))]
        rw [decide_eq_false z2]
        rfl
    · simp (disch := omega) only [shM hM.1, ↓reduceIte, not_false_eq_true, not_true_eq_false, and_self, and_true, true_and, false_and, and_false, or_true, true_or, or_false, false_or, or_self, reduceCtorEq, mm_q, Option.getD_some, cI_some, cJ_some, cV_some, cS_some, kd_sI, kd_sL, kd_sR, kd_cp, ln_sI, ln_sL, ln_sR, ln_cp, gR_sI, gR_sL, gR_sR, gR_cp, gL_sI, gL_sR, gL_cp, gI_sL, gI_sR, iI_add, iI_sub, iI_mul, iI_neg, iI_in, iI_tn, iI_lt, iI_eq, Nat.reduceLeDiff, Nat.reduceEqDiff, Nat.reduceAdd, Int.reduceEq, Int.reduceLT, Int.reduceLE, Int.reduceNeg, Int.reduceAdd, Int.reduceSub, Int.reduceMul, h7, h8, k1, s]
      rw [decide_eq_false (by omega)]
      rfl
    · unfold sgn at g
      simp (disch := omega) only [shM hM.1, ↓reduceIte, not_false_eq_true, not_true_eq_false, and_self, and_true, true_and, false_and, and_false, or_true, true_or, or_false, false_or, or_self, reduceCtorEq, mm_q, Option.getD_some, cI_some, cJ_some, cV_some, cS_some, kd_sI, kd_sL, kd_sR, kd_cp, ln_sI, ln_sL, ln_sR, ln_cp, gR_sI, gR_sL, gR_sR, gR_cp, gL_sI, gL_sR, gL_cp, gI_sL, gI_sR, iI_add, iI_sub, iI_mul, iI_neg, iI_in, iI_tn, iI_lt, iI_eq, Nat.reduceLeDiff, Nat.reduceEqDiff, Nat.reduceAdd, Int.reduceEq, Int.reduceLT, Int.reduceLE, Int.reduceNeg, Int.reduceAdd, Int.reduceSub, Int.reduceMul, h7, h8, k1, s]
      rw [decide_eq_false (by omega)]
      rfl
    · simp (disch := omega) only [shM hM.1, ↓reduceIte, not_false_eq_true, not_true_eq_false, and_self, and_true, true_and, false_and, and_false, or_true, true_or, or_false, false_or, or_self, reduceCtorEq, mm_q, Option.getD_some, cI_some, cJ_some, cV_some, cS_some, kd_sI, kd_sL, kd_sR, kd_cp, ln_sI, ln_sL, ln_sR, ln_cp, gR_sI, gR_sL, gR_sR, gR_cp, gL_sI, gL_sR, gL_cp, gI_sL, gI_sR, iI_add, iI_sub, iI_mul, iI_neg, iI_in, iI_tn, iI_lt, iI_eq, Nat.reduceLeDiff, Nat.reduceEqDiff, Nat.reduceAdd, Int.reduceEq, Int.reduceLT, Int.reduceLE, Int.reduceNeg, Int.reduceAdd, Int.reduceSub, Int.reduceMul, h7, h8, k1, s]
      rw [decide_eq_false (by omega)]
      rfl
  · simp (disch := omega) only [shM hM.1, ↓reduceIte, not_false_eq_true, not_true_eq_false, and_self, and_true, true_and, false_and, and_false, or_true, true_or, or_false, false_or, or_self, reduceCtorEq, mm_q, Option.getD_some, cI_some, cJ_some, cV_some, cS_some, kd_sI, kd_sL, kd_sR, kd_cp, ln_sI, ln_sL, ln_sR, ln_cp, gR_sI, gR_sL, gR_sR, gR_cp, gL_sI, gL_sR, gL_cp, gI_sL, gI_sR, iI_add, iI_sub, iI_mul, iI_neg, iI_in, iI_tn, iI_lt, iI_eq, Nat.reduceLeDiff, Nat.reduceEqDiff, Nat.reduceAdd, Int.reduceEq, Int.reduceLT, Int.reduceLE, Int.reduceNeg, Int.reduceAdd, Int.reduceSub, Int.reduceMul, h8, z]
    rw [decide_eq_false (by exact fun q => q)]
    rfl
/-- isSign -/
theorem M176 (hT : TS D n T N) (h : PF D E T N i f m) {w : Int} (hw : sgn w) : mm_ev d 176 0 [some (.ref 316), some (.int (iI (w)))] [] m = some (some (some (.int (iI (bI (decide (f = 0 ∧ ty T i = w)))))), m) := by
  obtain ⟨hM, hK, h7, h8, ⟨i0, i1⟩, f0, f1⟩ := h
  obtain ⟨⟨p0, p1⟩, hk⟩ := hT.k i0 i1
  obtain ⟨k1, k2, k3⟩ := hK i i0 i1
  have n2 := hT.1
  have hw' := hw
  unfold sgn at hw'
  rw [sg_176_0]
  by_cases z : f = 0
  · subst z
    rcases hk with ⟨-, s, y⟩ | ⟨iN, ⟨s, y, y', -⟩ | ⟨s, y, -⟩ | ⟨s, y, g, v⟩ | ⟨s, y⟩⟩
    · simp (disch := omega) only [shM hM.1, ↓reduceIte, not_false_eq_true, not_true_eq_false, and_self, and_true, true_and, false_and, and_false, or_true, true_or, or_false, false_or, or_self, reduceCtorEq, mm_q, Option.getD_some, cI_some, cJ_some, cV_some, cS_some, kd_sI, kd_sL, kd_sR, kd_cp, ln_sI, ln_sL, ln_sR, ln_cp, gR_sI, gR_sL, gR_sR, gR_cp, gL_sI, gL_sR, gL_cp, gI_sL, gI_sR, iI_add, iI_sub, iI_mul, iI_neg, iI_in, iI_tn, iI_lt, iI_eq, Nat.reduceLeDiff, Nat.reduceEqDiff, Nat.reduceAdd, Int.reduceEq, Int.reduceLT, Int.reduceLE, Int.reduceNeg, Int.reduceAdd, Int.reduceSub, Int.reduceMul, h7, h8, k1, s]
      rw [decide_eq_false (by omega)]
      rfl
    · simp (disch := omega) only [shM hM.1, ↓reduceIte, not_false_eq_true, not_true_eq_false, and_self, and_true, true_and, false_and, and_false, or_true, true_or, or_false, false_or, or_self, reduceCtorEq, mm_q, Option.getD_some, cI_some, cJ_some, cV_some, cS_some, kd_sI, kd_sL, kd_sR, kd_cp, ln_sI, ln_sL, ln_sR, ln_cp, gR_sI, gR_sL, gR_sR, gR_cp, gL_sI, gL_sR, gL_cp, gI_sL, gI_sR, iI_add, iI_sub, iI_mul, iI_neg, iI_in, iI_tn, iI_lt, iI_eq, Nat.reduceLeDiff, Nat.reduceEqDiff, Nat.reduceAdd, Int.reduceEq, Int.reduceLT, Int.reduceLE, Int.reduceNeg, Int.reduceAdd, Int.reduceSub, Int.reduceMul, h7, h8, k1, s]
      rw [decide_eq_false (by omega)]
      rfl
    · simp (disch := omega) only [shM hM.1, ↓reduceIte, not_false_eq_true, not_true_eq_false, and_self, and_true, true_and, false_and, and_false, or_true, true_or, or_false, false_or, or_self, reduceCtorEq, mm_q, Option.getD_some, cI_some, cJ_some, cV_some, cS_some, kd_sI, kd_sL, kd_sR, kd_cp, ln_sI, ln_sL, ln_sR, ln_cp, gR_sI, gR_sL, gR_sR, gR_cp, gL_sI, gL_sR, gL_cp, gI_sL, gI_sR, iI_add, iI_sub, iI_mul, iI_neg, iI_in, iI_tn, iI_lt, iI_eq, Nat.reduceLeDiff, Nat.reduceEqDiff, Nat.reduceAdd, Int.reduceEq, Int.reduceLT, Int.reduceLE, Int.reduceNeg, Int.reduceAdd, Int.reduceSub, Int.reduceMul, h7, h8, k1, s]
      rw [decide_eq_false (by omega)]
      rfl
    · unfold sgn at g
      by_cases z2 : ty T i = w
      · simp (disch := omega) only [shM hM.1, ↓reduceIte, not_false_eq_true, not_true_eq_false, and_self, and_true, true_and, false_and, and_false, or_true, true_or, or_false, false_or, or_self, reduceCtorEq, mm_q, Option.getD_some, cI_some, cJ_some, cV_some, cS_some, kd_sI, kd_sL, kd_sR, kd_cp, ln_sI, ln_sL, ln_sR, ln_cp, gR_sI, gR_sL, gR_sR, gR_cp, gL_sI, gL_sR, gL_cp, gI_sL, gI_sR, iI_add, iI_sub, iI_mul, iI_neg, iI_in, iI_tn, iI_lt, iI_eq, Nat.reduceLeDiff, Nat.reduceEqDiff, Nat.reduceAdd, Int.reduceEq, Int.reduceLT, Int.reduceLE, Int.reduceNeg, Int.reduceAdd, Int.reduceSub, Int.reduceMul, h7, h8, k1, s, k3 iN, lg_eq, iI_l (show -2147483648 ≤ w by omega) (by omega), v, show tN T i = w by omega]
        rw [decide_eq_true z2]
        rfl
      · simp (disch := omega) only [shM hM.1, ↓reduceIte, not_false_eq_true, not_true_eq_false, and_self, and_true, true_and, false_and, and_false, or_true, true_or, or_false, false_or, or_self, reduceCtorEq, mm_q, Option.getD_some, cI_some, cJ_some, cV_some, cS_some, kd_sI, kd_sL, kd_sR, kd_cp, ln_sI, ln_sL, ln_sR, ln_cp, gR_sI, gR_sL, gR_sR, gR_cp, gL_sI, gL_sR, gL_cp, gI_sL, gI_sR, iI_add, iI_sub, iI_mul, iI_neg, iI_in, iI_tn, iI_lt, iI_eq, Nat.reduceLeDiff, Nat.reduceEqDiff, Nat.reduceAdd, Int.reduceEq, Int.reduceLT, Int.reduceLE, Int.reduceNeg, Int.reduceAdd, Int.reduceSub, Int.reduceMul, h7, h8, k1, s, k3 iN, lg_eq, iI_l (show -2147483648 ≤ w by omega) (by omega), v, show ¬ lI (tN T i) = lI w from fun q => z2 (y.trans (lI_inj (by omega) (by omega) (by omega) (by omega) q))]
        rw [decide_eq_false z2]
        rfl
    · simp (disch := omega) only [shM hM.1, ↓reduceIte, not_false_eq_true, not_true_eq_false, and_self, and_true, true_and, false_and, and_false, or_true, true_or, or_false, false_or, or_self, reduceCtorEq, mm_q, Option.getD_some, cI_some, cJ_some, cV_some, cS_some, kd_sI, kd_sL, kd_sR, kd_cp, ln_sI, ln_sL, ln_sR, ln_cp, gR_sI, gR_sL, gR_sR, gR_cp, gL_sI, gL_sR, gL_cp, gI_sL, gI_sR, iI_add, iI_sub, iI_mul, iI_neg, iI_in, iI_tn, iI_lt, iI_eq, Nat.reduceLeDiff, Nat.reduceEqDiff, Nat.reduceAdd, Int.reduceEq, Int.reduceLT, Int.reduceLE, Int.reduceNeg, Int.reduceAdd, Int.reduceSub, Int.reduceMul, h7, h8, k1, s]
      rw [decide_eq_false (by omega)]
      rfl
  · simp (disch := omega) only [shM hM.1, ↓reduceIte, not_false_eq_true, not_true_eq_false, and_self, and_true, true_and, false_and, and_false, or_true, true_or, or_false, false_or, or_self, reduceCtorEq, mm_q, Option.getD_some, cI_some, cJ_some, cV_some, cS_some, kd_sI, kd_sL, kd_sR, kd_cp, ln_sI, ln_sL, ln_sR, ln_cp, gR_sI, gR_sL, gR_sR, gR_cp, gL_sI, gL_sR, gL_cp, gI_sL, gI_sR, iI_add, iI_sub, iI_mul, iI_neg, iI_in, iI_tn, iI_lt, iI_eq, Nat.reduceLeDiff, Nat.reduceEqDiff, Nat.reduceAdd, Int.reduceEq, Int.reduceLT, Int.reduceLE, Int.reduceNeg, Int.reduceAdd, Int.reduceSub, Int.reduceMul, h8, z]
    rw [decide_eq_false (by exact fun q => q)]
    rfl
/-- wrong -/
theorem M172 (hT : TS D n T N) (h : PF D E T N i f m) {k : Int} (k0 : 1 ≤ k) (k1 : k ≤ 5) : ∃ m', mm_ev d 172 0 [some (.ref 316), some (.int (iI (k)))] [] m = some (some none, m') ∧ PF D E T N i (if f = 0 then k + 16 * tP T i else f) m' ∧ Fr scAt m m' := by
  obtain ⟨⟨p0, p1⟩, hk⟩ := hT.k h.2.2.2.2.1.1 h.2.2.2.2.1.2
  have h' := h
  obtain ⟨hM, hK, h7, h8, ⟨i0, i1⟩, f0, f1⟩ := h
  obtain ⟨k1, k2, k3⟩ := hK i i0 i1
  have n2 := hT.1
  rw [sg_172_0]
  by_cases z : f = 0
  · refine ⟨mm_sI m 316 8 (iI (k + 16 * tP T i)), ?_, ?_, Fr.at8⟩
    · subst z
      simp (disch := omega) only [shM hM.1, ↓reduceIte, not_false_eq_true, not_true_eq_false, and_self, and_true, true_and, false_and, and_false, or_true, true_or, or_false, false_or, or_self, reduceCtorEq, mm_q, Option.getD_some, cI_some, cJ_some, cV_some, cS_some, kd_sI, kd_sL, kd_sR, kd_cp, ln_sI, ln_sL, ln_sR, ln_cp, gR_sI, gR_sL, gR_sR, gR_cp, gL_sI, gL_sR, gL_cp, gI_sL, gI_sR, iI_add, iI_sub, iI_mul, iI_neg, iI_in, iI_tn, iI_lt, iI_eq, Nat.reduceLeDiff, Nat.reduceEqDiff, Nat.reduceAdd, Int.reduceEq, Int.reduceLT, Int.reduceLE, Int.reduceNeg, Int.reduceAdd, Int.reduceSub, Int.reduceMul, h7, h8, k2]
    · rw [if_pos z]
      exact h'.ft (by omega) (by omega)
  · refine ⟨m, ?_, ?_, Fr.rf⟩
    · simp (disch := omega) only [shM hM.1, ↓reduceIte, not_false_eq_true, not_true_eq_false, and_self, and_true, true_and, false_and, and_false, or_true, true_or, or_false, false_or, or_self, reduceCtorEq, mm_q, Option.getD_some, cI_some, cJ_some, cV_some, cS_some, kd_sI, kd_sL, kd_sR, kd_cp, ln_sI, ln_sL, ln_sR, ln_cp, gR_sI, gR_sL, gR_sR, gR_cp, gL_sI, gL_sR, gL_cp, gI_sL, gI_sR, iI_add, iI_sub, iI_mul, iI_neg, iI_in, iI_tn, iI_lt, iI_eq, Nat.reduceLeDiff, Nat.reduceEqDiff, Nat.reduceAdd, Int.reduceEq, Int.reduceLT, Int.reduceLE, Int.reduceNeg, Int.reduceAdd, Int.reduceSub, Int.reduceMul, h8, z]
    · rw [if_neg z]
      exact h'
/-- hasWord, hasSign -/
theorem M170 (hT : TS D n T N) (hE : EK E) (h : PF D E T N i f m) (hd : 1 ≤ d) {w : Int} (w0 : 0 ≤ w) (w1 : w < 30) : ∃ m', mm_ev d 170 0 [some (.ref 316), some (.int (iI (w))), none] [] m = some (some (some (.int (iI (bI (decide (f = 0 ∧ ty T i = w)))))), m') ∧ PF D E T N (if f = 0 ∧ ty T i = w then i + 1 else i) f m' ∧ Fr scAt m m' := by
  have e1 := M171 (d := d - 1) hT hE h w0 w1
  have hM := h.1
  have h7 := h.2.2.1
  obtain ⟨i0, i1⟩ := h.2.2.2.2.1
  by_cases z : f = 0 ∧ ty T i = w
  · have iN := hT.lt i0 i1 (by omega)
    rw [decide_eq_true z] at e1 ⊢
    rw [if_pos z]
    refine ⟨mm_sI m 316 7 (iI (i + 1)), ?_, h.at (by omega) (by omega), Fr.at7⟩
    rw [sg_170_0 (by omega)]
    simp (disch := omega) only [shM hM.1, ↓reduceIte, not_false_eq_true, not_true_eq_false, and_self, and_true, true_and, false_and, and_false, or_true, true_or, or_false, false_or, or_self, reduceCtorEq, mm_q, Option.getD_some, cI_some, cJ_some, cV_some, cS_some, kd_sI, kd_sL, kd_sR, kd_cp, ln_sI, ln_sL, ln_sR, ln_cp, gR_sI, gR_sL, gR_sR, gR_cp, gL_sI, gL_sR, gL_cp, gI_sL, gI_sR, iI_add, iI_sub, iI_mul, iI_neg, iI_in, iI_tn, iI_lt, iI_eq, Nat.reduceLeDiff, Nat.reduceEqDiff, Nat.reduceAdd, Int.reduceEq, Int.reduceLT, Int.reduceLE, Int.reduceNeg, Int.reduceAdd, Int.reduceSub, Int.reduceMul, bI_t, bI_f, decide_true, decide_false, Bool.and_true, Bool.and_false, Bool.true_and, Bool.false_and, Bool.false_eq_true, Bool.and_self, Bool.not_true, Bool.not_false, Bool.true_or, Bool.false_or, Bool.or_true, Bool.or_false, e1, h7]
    rw [sg_170_20]
    simp (disch := omega) only [shM hM.1, ↓reduceIte, not_false_eq_true, not_true_eq_false, and_self, and_true, true_and, false_and, and_false, or_true, true_or, or_false, false_or, or_self, reduceCtorEq, mm_q, Option.getD_some, cI_some, cJ_some, cV_some, cS_some, kd_sI, kd_sL, kd_sR, kd_cp, ln_sI, ln_sL, ln_sR, ln_cp, gR_sI, gR_sL, gR_sR, gR_cp, gL_sI, gL_sR, gL_cp, gI_sL, gI_sR, iI_add, iI_sub, iI_mul, iI_neg, iI_in, iI_tn, iI_lt, iI_eq, Nat.reduceLeDiff, Nat.reduceEqDiff, Nat.reduceAdd, Int.reduceEq, Int.reduceLT, Int.reduceLE, Int.reduceNeg, Int.reduceAdd, Int.reduceSub, Int.reduceMul]
  · rw [decide_eq_false z] at e1 ⊢
    rw [if_neg z]
    refine ⟨mm_sI m 316 7 (iI i), ?_, h.at (by omega) (by omega), Fr.at7⟩
    rw [sg_170_0 (by omega)]
    simp (disch := omega) only [shM hM.1, ↓reduceIte, not_false_eq_true, not_true_eq_false, and_self, and_true, true_and, false_and, and_false, or_true, true_or, or_false, false_or, or_self, reduceCtorEq, mm_q, Option.getD_some, cI_some, cJ_some, cV_some, cS_some, kd_sI, kd_sL, kd_sR, kd_cp, ln_sI, ln_sL, ln_sR, ln_cp, gR_sI, gR_sL, gR_sR, gR_cp, gL_sI, gL_sR, gL_cp, gI_sL, gI_sR, iI_add, iI_sub, iI_mul, iI_neg, iI_in, iI_tn, iI_lt, iI_eq, Nat.reduceLeDiff, Nat.reduceEqDiff, Nat.reduceAdd, Int.reduceEq, Int.reduceLT, Int.reduceLE, Int.reduceNeg, Int.reduceAdd, Int.reduceSub, Int.reduceMul, bI_t, bI_f, decide_true, decide_false, Bool.and_true, Bool.and_false, Bool.true_and, Bool.false_and, Bool.false_eq_true, Bool.and_self, Bool.not_true, Bool.not_false, Bool.true_or, Bool.false_or, Bool.or_true, Bool.or_false, e1, h7]
    rw [sg_170_20]
    simp (disch := omega) only [shM hM.1, ↓reduceIte, not_false_eq_true, not_true_eq_false, and_self, and_true, true_and, false_and, and_false, or_true, true_or, or_false, false_or, or_self, reduceCtorEq, mm_q, Option.getD_some, cI_some, cJ_some, cV_some, cS_some, kd_sI, kd_sL, kd_sR, kd_cp, ln_sI, ln_sL, ln_sR, ln_cp, gR_sI, gR_sL, gR_sR, gR_cp, gL_sI, gL_sR, gL_cp, gI_sL, gI_sR, iI_add, iI_sub, iI_mul, iI_neg, iI_in, iI_tn, iI_lt, iI_eq, Nat.reduceLeDiff, Nat.reduceEqDiff, Nat.reduceAdd, Int.reduceEq, Int.reduceLT, Int.reduceLE, Int.reduceNeg, Int.reduceAdd, Int.reduceSub, Int.reduceMul, Int.add_zero]
theorem M197 (hT : TS D n T N) (h : PF D E T N i f m) (hd : 1 ≤ d) {w : Int} (hw : sgn w) : ∃ m', mm_ev d 197 0 [some (.ref 316), some (.int (iI (w))), none] [] m = some (some (some (.int (iI (bI (decide (f = 0 ∧ ty T i = w)))))), m') ∧ PF D E T N (if f = 0 ∧ ty T i = w then i + 1 else i) f m' ∧ Fr scAt m m' := by
  have e1 := M176 (d := d - 1) hT h hw
  have hM := h.1
  have h7 := h.2.2.1
  have hw' := hw
  unfold sgn at hw'
  obtain ⟨i0, i1⟩ := h.2.2.2.2.1
  by_cases z : f = 0 ∧ ty T i = w
  · have iN := hT.lt i0 i1 (by omega)
    rw [decide_eq_true z] at e1 ⊢
    rw [if_pos z]
    refine ⟨mm_sI m 316 7 (iI (i + 1)), ?_, h.at (by omega) (by omega), Fr.at7⟩
    rw [sg_197_0 (by omega)]
    simp (disch := omega) only [shM hM.1, ↓reduceIte, not_false_eq_true, not_true_eq_false, and_self, and_true, true_and, false_and, and_false, or_true, true_or, or_false, false_or, or_self, reduceCtorEq, mm_q, Option.getD_some, cI_some, cJ_some, cV_some, cS_some, kd_sI, kd_sL, kd_sR, kd_cp, ln_sI, ln_sL, ln_sR, ln_cp, gR_sI, gR_sL, gR_sR, gR_cp, gL_sI, gL_sR, gL_cp, gI_sL, gI_sR, iI_add, iI_sub, iI_mul, iI_neg, iI_in, iI_tn, iI_lt, iI_eq, Nat.reduceLeDiff, Nat.reduceEqDiff, Nat.reduceAdd, Int.reduceEq, Int.reduceLT, Int.reduceLE, Int.reduceNeg, Int.reduceAdd, Int.reduceSub, Int.reduceMul, bI_t, bI_f, decide_true, decide_false, Bool.and_true, Bool.and_false, Bool.true_and, Bool.false_and, Bool.false_eq_true, Bool.and_self, Bool.not_true, Bool.not_false, Bool.true_or, Bool.false_or, Bool.or_true, Bool.or_false, e1, h7]
    rw [sg_197_20]
    simp (disch := omega) only [shM hM.1, ↓reduceIte, not_false_eq_true, not_true_eq_false, and_self, and_true, true_and, false_and, and_false, or_true, true_or, or_false, false_or, or_self, reduceCtorEq, mm_q, Option.getD_some, cI_some, cJ_some, cV_some, cS_some, kd_sI, kd_sL, kd_sR, kd_cp, ln_sI, ln_sL, ln_sR, ln_cp, gR_sI, gR_sL, gR_sR, gR_cp, gL_sI, gL_sR, gL_cp, gI_sL, gI_sR, iI_add, iI_sub, iI_mul, iI_neg, iI_in, iI_tn, iI_lt, iI_eq, Nat.reduceLeDiff, Nat.reduceEqDiff, Nat.reduceAdd, Int.reduceEq, Int.reduceLT, Int.reduceLE, Int.reduceNeg, Int.reduceAdd, Int.reduceSub, Int.reduceMul]
  · rw [decide_eq_false z] at e1 ⊢
    rw [if_neg z]
    refine ⟨mm_sI m 316 7 (iI i), ?_, h.at (by omega) (by omega), Fr.at7⟩
    rw [sg_197_0 (by omega)]
    simp (disch := omega) only [shM hM.1, ↓reduceIte, not_false_eq_true, not_true_eq_false, and_self, and_true, true_and, false_and, and_false, or_true, true_or, or_false, false_or, or_self, reduceCtorEq, mm_q, Option.getD_some, cI_some, cJ_some, cV_some, cS_some, kd_sI, kd_sL, kd_sR, kd_cp, ln_sI, ln_sL, ln_sR, ln_cp, gR_sI, gR_sL, gR_sR, gR_cp, gL_sI, gL_sR, gL_cp, gI_sL, gI_sR, iI_add, iI_sub, iI_mul, iI_neg, iI_in, iI_tn, iI_lt, iI_eq, Nat.reduceLeDiff, Nat.reduceEqDiff, Nat.reduceAdd, Int.reduceEq, Int.reduceLT, Int.reduceLE, Int.reduceNeg, Int.reduceAdd, Int.reduceSub, Int.reduceMul, bI_t, bI_f, decide_true, decide_false, Bool.and_true, Bool.and_false, Bool.true_and, Bool.false_and, Bool.false_eq_true, Bool.and_self, Bool.not_true, Bool.not_false, Bool.true_or, Bool.false_or, Bool.or_true, Bool.or_false, e1, h7]
    rw [sg_197_20]
    simp (disch := omega) only [shM hM.1, ↓reduceIte, not_false_eq_true, not_true_eq_false, and_self, and_true, true_and, false_and, and_false, or_true, true_or, or_false, false_or, or_self, reduceCtorEq, mm_q, Option.getD_some, cI_some, cJ_some, cV_some, cS_some, kd_sI, kd_sL, kd_sR, kd_cp, ln_sI, ln_sL, ln_sR, ln_cp, gR_sI, gR_sL, gR_sR, gR_cp, gL_sI, gL_sR, gL_cp, gI_sL, gI_sR, iI_add, iI_sub, iI_mul, iI_neg, iI_in, iI_tn, iI_lt, iI_eq, Nat.reduceLeDiff, Nat.reduceEqDiff, Nat.reduceAdd, Int.reduceEq, Int.reduceLT, Int.reduceLE, Int.reduceNeg, Int.reduceAdd, Int.reduceSub, Int.reduceMul, Int.add_zero]
/-- takeWord, takeSign -/
theorem M169 (hT : TS D n T N) (hE : EK E) (h : PF D E T N i f m) (hd : 2 ≤ d) {w : Int} (w0 : 0 ≤ w) (w1 : w < 30) : ∃ m', mm_ev d 169 0 [some (.ref 316), some (.int (iI (w)))] [] m = some (some none, m') ∧ PF D E T N (twS T w i f).1 (twS T w i f).2 m' ∧ Fr scAt m m' := by
  obtain ⟨m1, e1, h1, f1⟩ := M170 (d := d - 1) hT hE h (by omega) w0 w1
  rw [sg_169_0 (by omega)]
  unfold twS
  by_cases z : f = 0 ∧ ty T i = w
  · rw [decide_eq_true z] at e1
    rw [if_pos z] at h1
    rw [if_pos z.1, if_pos z.2]
    refine ⟨m1, ?_, ?_, f1⟩
    · simp (disch := omega) only [shM h.1.1, ↓reduceIte, not_false_eq_true, not_true_eq_false, and_self, and_true, true_and, false_and, and_false, or_true, true_or, or_false, false_or, or_self, reduceCtorEq, mm_q, Option.getD_some, cI_some, cJ_some, cV_some, cS_some, kd_sI, kd_sL, kd_sR, kd_cp, ln_sI, ln_sL, ln_sR, ln_cp, gR_sI, gR_sL, gR_sR, gR_cp, gL_sI, gL_sR, gL_cp, gI_sL, gI_sR, iI_add, iI_sub, iI_mul, iI_neg, iI_in, iI_tn, iI_lt, iI_eq, Nat.reduceLeDiff, Nat.reduceEqDiff, Nat.reduceAdd, Int.reduceEq, Int.reduceLT, Int.reduceLE, Int.reduceNeg, Int.reduceAdd, Int.reduceSub, Int.reduceMul, bI_t, bI_f, decide_true, decide_false, Bool.and_true, Bool.and_false, Bool.true_and, Bool.false_and, Bool.false_eq_true, Bool.and_self, Bool.not_true, Bool.not_false, Bool.true_or, Bool.false_or, Bool.or_true, Bool.or_false, e1]
    · rw [z.1] at h1; exact h1
  · rw [decide_eq_false z] at e1
    rw [if_neg z] at h1
    obtain ⟨m2, e2, h2, f2⟩ := M172 (d := d - 1) hT h1 (k := 1) (by omega) (by omega)
    refine ⟨m2, ?_, ?_, f1.tr f2⟩
    · simp (disch := omega) only [shM h.1.1, shM h1.1.1, ↓reduceIte, not_false_eq_true, not_true_eq_false, and_self, and_true, true_and, false_and, and_false, or_true, true_or, or_false, false_or, or_self, reduceCtorEq, mm_q, Option.getD_some, cI_some, cJ_some, cV_some, cS_some, kd_sI, kd_sL, kd_sR, kd_cp, ln_sI, ln_sL, ln_sR, ln_cp, gR_sI, gR_sL, gR_sR, gR_cp, gL_sI, gL_sR, gL_cp, gI_sL, gI_sR, iI_add, iI_sub, iI_mul, iI_neg, iI_in, iI_tn, iI_lt, iI_eq, Nat.reduceLeDiff, Nat.reduceEqDiff, Nat.reduceAdd, Int.reduceEq, Int.reduceLT, Int.reduceLE, Int.reduceNeg, Int.reduceAdd, Int.reduceSub, Int.reduceMul, bI_t, bI_f, decide_true, decide_false, Bool.and_true, Bool.and_false, Bool.true_and, Bool.false_and, Bool.false_eq_true, Bool.and_self, Bool.not_true, Bool.not_false, Bool.true_or, Bool.false_or, Bool.or_true, Bool.or_false, e1, e2]
    · by_cases y : f = 0
      · rw [if_pos y] at h2
        rw [if_pos y, if_neg (fun q => z ⟨y, q⟩)]
        exact h2
      · rw [if_neg y] at h2
        rw [if_neg y]
        exact h2
theorem M175 (hT : TS D n T N) (h : PF D E T N i f m) (hd : 2 ≤ d) {w : Int} (hw : sgn w) : ∃ m', mm_ev d 175 0 [some (.ref 316), some (.int (iI (w)))] [] m = some (some none, m') ∧ PF D E T N (twS T w i f).1 (twS T w i f).2 m' ∧ Fr scAt m m' := by
  have e1 := M176 (d := d - 1) hT h hw
  have hw' := hw
  unfold sgn at hw'
  obtain ⟨i0, i1⟩ := h.2.2.2.2.1
  rw [sg_175_0 (by omega)]
  unfold twS
  by_cases z : f = 0 ∧ ty T i = w
  · have iN := hT.lt i0 i1 (by omega)
    rw [decide_eq_true z] at e1
    rw [if_pos z.1, if_pos z.2]
    refine ⟨mm_sI m 316 7 (iI (i + 1)), ?_, ?_, Fr.at7⟩
    · simp (disch := omega) only [shM h.1.1, ↓reduceIte, not_false_eq_true, not_true_eq_false, and_self, and_true, true_and, false_and, and_false, or_true, true_or, or_false, false_or, or_self, reduceCtorEq, mm_q, Option.getD_some, cI_some, cJ_some, cV_some, cS_some, kd_sI, kd_sL, kd_sR, kd_cp, ln_sI, ln_sL, ln_sR, ln_cp, gR_sI, gR_sL, gR_sR, gR_cp, gL_sI, gL_sR, gL_cp, gI_sL, gI_sR, iI_add, iI_sub, iI_mul, iI_neg, iI_in, iI_tn, iI_lt, iI_eq, Nat.reduceLeDiff, Nat.reduceEqDiff, Nat.reduceAdd, Int.reduceEq, Int.reduceLT, Int.reduceLE, Int.reduceNeg, Int.reduceAdd, Int.reduceSub, Int.reduceMul, bI_t, bI_f, decide_true, decide_false, Bool.and_true, Bool.and_false, Bool.true_and, Bool.false_and, Bool.false_eq_true, Bool.and_self, Bool.not_true, Bool.not_false, Bool.true_or, Bool.false_or, Bool.or_true, Bool.or_false, e1]
      rw [sg_175_5 (by omega)]
      simp (disch := omega) only [shM h.1.1, ↓reduceIte, not_false_eq_true, not_true_eq_false, and_self, and_true, true_and, false_and, and_false, or_true, true_or, or_false, false_or, or_self, reduceCtorEq, mm_q, Option.getD_some, cI_some, cJ_some, cV_some, cS_some, kd_sI, kd_sL, kd_sR, kd_cp, ln_sI, ln_sL, ln_sR, ln_cp, gR_sI, gR_sL, gR_sR, gR_cp, gL_sI, gL_sR, gL_cp, gI_sL, gI_sR, iI_add, iI_sub, iI_mul, iI_neg, iI_in, iI_tn, iI_lt, iI_eq, Nat.reduceLeDiff, Nat.reduceEqDiff, Nat.reduceAdd, Int.reduceEq, Int.reduceLT, Int.reduceLE, Int.reduceNeg, Int.reduceAdd, Int.reduceSub, Int.reduceMul, h.2.2.1]
    · have := h.at (j := i + 1) (by omega) (by omega)
      rw [z.1] at this
      exact this
  · rw [decide_eq_false z] at e1
    obtain ⟨m2, e2, h2, f2⟩ := M172 (d := d - 1) hT h (k := 1) (by omega) (by omega)
    refine ⟨m2, ?_, ?_, f2⟩
    · simp (disch := omega) only [shM h.1.1, ↓reduceIte, not_false_eq_true, not_true_eq_false, and_self, and_true, true_and, false_and, and_false, or_true, true_or, or_false, false_or, or_self, reduceCtorEq, mm_q, Option.getD_some, cI_some, cJ_some, cV_some, cS_some, kd_sI, kd_sL, kd_sR, kd_cp, ln_sI, ln_sL, ln_sR, ln_cp, gR_sI, gR_sL, gR_sR, gR_cp, gL_sI, gL_sR, gL_cp, gI_sL, gI_sR, iI_add, iI_sub, iI_mul, iI_neg, iI_in, iI_tn, iI_lt, iI_eq, Nat.reduceLeDiff, Nat.reduceEqDiff, Nat.reduceAdd, Int.reduceEq, Int.reduceLT, Int.reduceLE, Int.reduceNeg, Int.reduceAdd, Int.reduceSub, Int.reduceMul, bI_t, bI_f, decide_true, decide_false, Bool.and_true, Bool.and_false, Bool.true_and, Bool.false_and, Bool.false_eq_true, Bool.and_self, Bool.not_true, Bool.not_false, Bool.true_or, Bool.false_or, Bool.or_true, Bool.or_false, e1]
      rw [sg_175_5 (by omega)]
      simp (disch := omega) only [shM h.1.1, ↓reduceIte, not_false_eq_true, not_true_eq_false, and_self, and_true, true_and, false_and, and_false, or_true, true_or, or_false, false_or, or_self, reduceCtorEq, mm_q, Option.getD_some, cI_some, cJ_some, cV_some, cS_some, kd_sI, kd_sL, kd_sR, kd_cp, ln_sI, ln_sL, ln_sR, ln_cp, gR_sI, gR_sL, gR_sR, gR_cp, gL_sI, gL_sR, gL_cp, gI_sL, gI_sR, iI_add, iI_sub, iI_mul, iI_neg, iI_in, iI_tn, iI_lt, iI_eq, Nat.reduceLeDiff, Nat.reduceEqDiff, Nat.reduceAdd, Int.reduceEq, Int.reduceLT, Int.reduceLE, Int.reduceNeg, Int.reduceAdd, Int.reduceSub, Int.reduceMul, e2]
    · by_cases y : f = 0
      · rw [if_pos y] at h2
        rw [if_pos y, if_neg (fun q => z ⟨y, q⟩)]
        exact h2
      · rw [if_neg y] at h2
        rw [if_neg y]
        exact h2
theorem lg_lt' {a b : Int} (a0 : -9223372036854775808 ≤ a) (a1 : a < 9223372036854775808) (b0 : -9223372036854775808 ≤ b) (b1 : b < 9223372036854775808) : (lg_cmp (lI a) (lI b) < iI 0) = (a < b) := by
  apply propext
  unfold lg_cmp
  have e : (lI a > lI b) ↔ b < a := by
    show lI b < lI a ↔ _
    rw [Int64.lt_iff_toInt_lt, lI_val a0 a1, lI_val b0 b1]
  split
  · next z => exact ⟨fun q => absurd q (by decide), fun q => by have := e.mp z; omega⟩
  · next z =>
    split
    · next y =>
      have : a = b := by
        have := congrArg Int64.toInt y
        rw [lI_val a0 a1, lI_val b0 b1] at this
        exact this
      exact ⟨fun q => absurd q (by decide), fun q => by omega⟩
    · next y =>
      refine ⟨fun _ => ?_, fun _ => by decide⟩
      by_cases w : a = b
      · exact absurd (by rw [w]) y
      · have : ¬ b < a := fun q => z (e.mpr q)
        omega
/-- takeNumber -/
theorem M173 (hT : TS D n T N) (h : PF D E T N i f m) (hd : 1 ≤ d) {lo hi : Int} (l0 : -1000 ≤ lo) (l1 : lo ≤ 1000) (u0 : -1000 ≤ hi) (u1 : hi ≤ 1000) : ∃ m', mm_ev d 173 0 [some (.ref 316), some (.int (iI (lo))), some (.int (iI (hi)))] [] m = some (some (some (.int (iI (tnS T lo hi i f).1))), m') ∧ PF D E T N (tnS T lo hi i f).2.1 (tnS T lo hi i f).2.2 m' ∧ Fr scAt m m' := by
  obtain ⟨⟨p0, p1⟩, hk⟩ := hT.k h.2.2.2.2.1.1 h.2.2.2.2.1.2
  have h' := h
  obtain ⟨hM, hK, h7, h8, ⟨i0, i1⟩, f0, f1⟩ := h
  obtain ⟨k1, k2, k3⟩ := hK i i0 i1
  have n2 := hT.1
  have fin : ∀ {m2 : mm_M} {g : Int}, PF D E T N i g m2 → 0 < g → mm_ev d 173 70 [some (.ref 316), some (.int (iI (lo))), some (.int (iI (hi)))] [] m2 = some (some (some (.int (iI 0))), m2) := fun h2 g0 => by
    have := h2.2.2.2.2.2
    rw [sg_173_70]
    simp (disch := omega) only [shM h2.1.1, ↓reduceIte, not_false_eq_true, not_true_eq_false, and_self, and_true, true_and, false_and, and_false, or_true, true_or, or_false, false_or, or_self, reduceCtorEq, mm_q, Option.getD_some, cI_some, cJ_some, cV_some, cS_some, kd_sI, kd_sL, kd_sR, kd_cp, ln_sI, ln_sL, ln_sR, ln_cp, gR_sI, gR_sL, gR_sR, gR_cp, gL_sI, gL_sR, gL_cp, gI_sL, gI_sR, iI_add, iI_sub, iI_mul, iI_neg, iI_in, iI_tn, iI_lt, iI_eq, Nat.reduceLeDiff, Nat.reduceEqDiff, Nat.reduceAdd, Int.reduceEq, Int.reduceLT, Int.reduceLE, Int.reduceNeg, Int.reduceAdd, Int.reduceSub, Int.reduceMul, h2.2.2.2.1, g0]
  rw [sg_173_0 (by omega)]
  unfold tnS
  by_cases z : f = 0
  · subst z
    rw [if_pos rfl]
    by_cases z2 : ty T i = 31
    · have hk2 : tS T i = 2 ∧ i < N ∧ (0 ≤ tN T i ∧ tN T i ≤ 9999) ∧ tV T i = lI (tN T i) := by
        rcases hk with ⟨-, s, y⟩ | ⟨iN, ⟨s, y, y', -⟩ | ⟨s, y, y', v⟩ | ⟨s, y, g, v⟩ | ⟨s, y⟩⟩
        · omega
        · omega
        · exact ⟨s, iN, y', v⟩
        · unfold sgn at g; omega
        · omega
      obtain ⟨s, iN, ⟨v0, v1⟩, v⟩ := hk2
      rw [if_pos z2]
      have e65 : ∃ m', mm_ev d 173 65 [some (.ref 316), some (.int (iI (lo))), some (.int (iI (hi)))] [] m = some (some (some (.int (iI 0))), m') ∧ PF D E T N i (4 + 16 * tP T i) m' ∧ Fr scAt m m' := by
        obtain ⟨m2, e2, h2, f2⟩ := M172 (d := d - 1) hT h' (k := 4) (by omega) (by omega)
        rw [if_pos rfl] at h2
        refine ⟨m2, ?_, h2, f2⟩
        rw [sg_173_65 (by omega)]
        simp (disch := omega) only [shM hM.1, ↓reduceIte, not_false_eq_true, not_true_eq_false, and_self, and_true, true_and, false_and, and_false, or_true, true_or, or_false, false_or, or_self, reduceCtorEq, mm_q, Option.getD_some, cI_some, cJ_some, cV_some, cS_some, kd_sI, kd_sL, kd_sR, kd_cp, ln_sI, ln_sL, ln_sR, ln_cp, gR_sI, gR_sL, gR_sR, gR_cp, gL_sI, gL_sR, gL_cp, gI_sL, gI_sR, iI_add, iI_sub, iI_mul, iI_neg, iI_in, iI_tn, iI_lt, iI_eq, Nat.reduceLeDiff, Nat.reduceEqDiff, Nat.reduceAdd, Int.reduceEq, Int.reduceLT, Int.reduceLE, Int.reduceNeg, Int.reduceAdd, Int.reduceSub, Int.reduceMul, e2]
        exact fin h2 (by omega)
      have ilo := iI_l (z := lo) (by omega) (by omega)
      have ihi := iI_l (z := hi) (by omega) (by omega)
      by_cases z3 : tN T i < lo
      · obtain ⟨m2, e2, h2, f2⟩ := e65
        rw [if_pos z3]
        refine ⟨m2, ?_, h2, f2⟩
        simp (disch := omega) only [shM hM.1, ↓reduceIte, not_false_eq_true, not_true_eq_false, and_self, and_true, true_and, false_and, and_false, or_true, true_or, or_false, false_or, or_self, reduceCtorEq, mm_q, Option.getD_some, cI_some, cJ_some, cV_some, cS_some, kd_sI, kd_sL, kd_sR, kd_cp, ln_sI, ln_sL, ln_sR, ln_cp, gR_sI, gR_sL, gR_sR, gR_cp, gL_sI, gL_sR, gL_cp, gI_sL, gI_sR, iI_add, iI_sub, iI_mul, iI_neg, iI_in, iI_tn, iI_lt, iI_eq, Nat.reduceLeDiff, Nat.reduceEqDiff, Nat.reduceAdd, Int.reduceEq, Int.reduceLT, Int.reduceLE, Int.reduceNeg, Int.reduceAdd, Int.reduceSub, Int.reduceMul, h7, h8, k1, s]
        rw [sg_173_28]
        simp (disch := omega) only [shM hM.1, ↓reduceIte, not_false_eq_true, not_true_eq_false, and_self, and_true, true_and, false_and, and_false, or_true, true_or, or_false, false_or, or_self, reduceCtorEq, mm_q, Option.getD_some, cI_some, cJ_some, cV_some, cS_some, kd_sI, kd_sL, kd_sR, kd_cp, ln_sI, ln_sL, ln_sR, ln_cp, gR_sI, gR_sL, gR_sR, gR_cp, gL_sI, gL_sR, gL_cp, gI_sL, gI_sR, iI_add, iI_sub, iI_mul, iI_neg, iI_in, iI_tn, iI_lt, iI_eq, Nat.reduceLeDiff, Nat.reduceEqDiff, Nat.reduceAdd, Int.reduceEq, Int.reduceLT, Int.reduceLE, Int.reduceNeg, Int.reduceAdd, Int.reduceSub, Int.reduceMul, h7, h8, k3 iN, v, ilo, lg_lt', z3]
        exact e2
      · by_cases z4 : hi < tN T i
        · obtain ⟨m2, e2, h2, f2⟩ := e65
          rw [if_neg z3, if_pos z4]
          refine ⟨m2, ?_, h2, f2⟩
          simp (disch := omega) only [shM hM.1, ↓reduceIte, not_false_eq_true, not_true_eq_false, and_self, and_true, true_and, false_and, and_false, or_true, true_or, or_false, false_or, or_self, reduceCtorEq, mm_q, Option.getD_some, cI_some, cJ_some, cV_some, cS_some, kd_sI, kd_sL, kd_sR, kd_cp, ln_sI, ln_sL, ln_sR, ln_cp, gR_sI, gR_sL, gR_sR, gR_cp, gL_sI, gL_sR, gL_cp, gI_sL, gI_sR, iI_add, iI_sub, iI_mul, iI_neg, iI_in, iI_tn, iI_lt, iI_eq, Nat.reduceLeDiff, Nat.reduceEqDiff, Nat.reduceAdd, Int.reduceEq, Int.reduceLT, Int.reduceLE, Int.reduceNeg, Int.reduceAdd, Int.reduceSub, Int.reduceMul, h7, h8, k1, s]
          rw [sg_173_28]
          simp (disch := omega) only [shM hM.1, ↓reduceIte, not_false_eq_true, not_true_eq_false, and_self, and_true, true_and, false_and, and_false, or_true, true_or, or_false, false_or, or_self, reduceCtorEq, mm_q, Option.getD_some, cI_some, cJ_some, cV_some, cS_some, kd_sI, kd_sL, kd_sR, kd_cp, ln_sI, ln_sL, ln_sR, ln_cp, gR_sI, gR_sL, gR_sR, gR_cp, gL_sI, gL_sR, gL_cp, gI_sL, gI_sR, iI_add, iI_sub, iI_mul, iI_neg, iI_in, iI_tn, iI_lt, iI_eq, Nat.reduceLeDiff, Nat.reduceEqDiff, Nat.reduceAdd, Int.reduceEq, Int.reduceLT, Int.reduceLE, Int.reduceNeg, Int.reduceAdd, Int.reduceSub, Int.reduceMul, h7, h8, k3 iN, v, ilo, ihi, lg_lt', lg_lt, z3, z4]
          exact e2
        · rw [if_neg z3, if_neg z4]
          refine ⟨mm_sI m 316 7 (iI (i + 1)), ?_, h'.at (j := i + 1) (by omega) (by omega), Fr.at7⟩
          simp (disch := omega) only [shM hM.1, ↓reduceIte, not_false_eq_true, not_true_eq_false, and_self, and_true, true_and, false_and, and_false, or_true, true_or, or_false, false_or, or_self, reduceCtorEq, mm_q, Option.getD_some, cI_some, cJ_some, cV_some, cS_some, kd_sI, kd_sL, kd_sR, kd_cp, ln_sI, ln_sL, ln_sR, ln_cp, gR_sI, gR_sL, gR_sR, gR_cp, gL_sI, gL_sR, gL_cp, gI_sL, gI_sR, iI_add, iI_sub, iI_mul, iI_neg, iI_in, iI_tn, iI_lt, iI_eq, Nat.reduceLeDiff, Nat.reduceEqDiff, Nat.reduceAdd, Int.reduceEq, Int.reduceLT, Int.reduceLE, Int.reduceNeg, Int.reduceAdd, Int.reduceSub, Int.reduceMul, h7, h8, k1, s]
          rw [sg_173_28]
          simp (disch := omega) only [shM hM.1, ↓reduceIte, not_false_eq_true, not_true_eq_false, and_self, and_true, true_and, false_and, and_false, or_true, true_or, or_false, false_or, or_self, reduceCtorEq, mm_q, Option.getD_some, cI_some, cJ_some, cV_some, cS_some, kd_sI, kd_sL, kd_sR, kd_cp, ln_sI, ln_sL, ln_sR, ln_cp, gR_sI, gR_sL, gR_sR, gR_cp, gL_sI, gL_sR, gL_cp, gI_sL, gI_sR, iI_add, iI_sub, iI_mul, iI_neg, iI_in, iI_tn, iI_lt, iI_eq, Nat.reduceLeDiff, Nat.reduceEqDiff, Nat.reduceAdd, Int.reduceEq, Int.reduceLT, Int.reduceLE, Int.reduceNeg, Int.reduceAdd, Int.reduceSub, Int.reduceMul, h7, h8, k3 iN, v, ilo, ihi, lg_lt', lg_lt, z3, z4]
          rw [sg_173_70]
          simp (disch := omega) only [shM hM.1, ↓reduceIte, not_false_eq_true, not_true_eq_false, and_self, and_true, true_and, false_and, and_false, or_true, true_or, or_false, false_or, or_self, reduceCtorEq, mm_q, Option.getD_some, cI_some, cJ_some, cV_some, cS_some, kd_sI, kd_sL, kd_sR, kd_cp, ln_sI, ln_sL, ln_sR, ln_cp, gR_sI, gR_sL, gR_sR, gR_cp, gL_sI, gL_sR, gL_cp, gI_sL, gI_sR, iI_add, iI_sub, iI_mul, iI_neg, iI_in, iI_tn, iI_lt, iI_eq, Nat.reduceLeDiff, Nat.reduceEqDiff, Nat.reduceAdd, Int.reduceEq, Int.reduceLT, Int.reduceLE, Int.reduceNeg, Int.reduceAdd, Int.reduceSub, Int.reduceMul, h7, h8, gI_sI, show i + 1 - 1 = i by omega, k3 iN, v, lI_i]
    · have s : ¬ tS T i = 2 := fun q => z2 (by
        rcases hk with ⟨-, s, y⟩ | ⟨iN, ⟨s, y, y', -⟩ | ⟨s, y, y', v⟩ | ⟨s, y, g, v⟩ | ⟨s, y⟩⟩ <;> omega)
      have sr : 0 ≤ tS T i ∧ tS T i ≤ 4 := by
        rcases hk with ⟨-, s, y⟩ | ⟨iN, ⟨s, y, y', -⟩ | ⟨s, y, y', v⟩ | ⟨s, y, g, v⟩ | ⟨s, y⟩⟩ <;> omega
      rw [if_neg z2]
      obtain ⟨m2, e2, h2, f2⟩ := M172 (d := d - 1) hT h' (k := 1) (by omega) (by omega)
      rw [if_pos rfl] at h2
      refine ⟨m2, ?_, h2, f2⟩
      simp (disch := omega) only [shM hM.1, ↓reduceIte, not_false_eq_true, not_true_eq_false, and_self, and_true, true_and, false_and, and_false, or_true, true_or, or_false, false_or, or_self, reduceCtorEq, mm_q, Option.getD_some, cI_some, cJ_some, cV_some, cS_some, kd_sI, kd_sL, kd_sR, kd_cp, ln_sI, ln_sL, ln_sR, ln_cp, gR_sI, gR_sL, gR_sR, gR_cp, gL_sI, gL_sR, gL_cp, gI_sL, gI_sR, iI_add, iI_sub, iI_mul, iI_neg, iI_in, iI_tn, iI_lt, iI_eq, Nat.reduceLeDiff, Nat.reduceEqDiff, Nat.reduceAdd, Int.reduceEq, Int.reduceLT, Int.reduceLE, Int.reduceNeg, Int.reduceAdd, Int.reduceSub, Int.reduceMul, h7, h8, k1, s, e2]
      exact fin h2 (by omega)
  · rw [if_neg z]
    refine ⟨m, ?_, h', Fr.rf⟩
    simp (disch := omega) only [shM hM.1, ↓reduceIte, not_false_eq_true, not_true_eq_false, and_self, and_true, true_and, false_and, and_false, or_true, true_or, or_false, false_or, or_self, reduceCtorEq, mm_q, Option.getD_some, cI_some, cJ_some, cV_some, cS_some, kd_sI, kd_sL, kd_sR, kd_cp, ln_sI, ln_sL, ln_sR, ln_cp, gR_sI, gR_sL, gR_sR, gR_cp, gL_sI, gL_sR, gL_cp, gI_sL, gI_sR, iI_add, iI_sub, iI_mul, iI_neg, iI_in, iI_tn, iI_lt, iI_eq, Nat.reduceLeDiff, Nat.reduceEqDiff, Nat.reduceAdd, Int.reduceEq, Int.reduceLT, Int.reduceLE, Int.reduceNeg, Int.reduceAdd, Int.reduceSub, Int.reduceMul, h8, z]
    rw [sg_173_28]
    simp (disch := omega) only [shM hM.1, ↓reduceIte, not_false_eq_true, not_true_eq_false, and_self, and_true, true_and, false_and, and_false, or_true, true_or, or_false, false_or, or_self, reduceCtorEq, mm_q, Option.getD_some, cI_some, cJ_some, cV_some, cS_some, kd_sI, kd_sL, kd_sR, kd_cp, ln_sI, ln_sL, ln_sR, ln_cp, gR_sI, gR_sL, gR_sR, gR_cp, gL_sI, gL_sR, gL_cp, gI_sL, gI_sR, iI_add, iI_sub, iI_mul, iI_neg, iI_in, iI_tn, iI_lt, iI_eq, Nat.reduceLeDiff, Nat.reduceEqDiff, Nat.reduceAdd, Int.reduceEq, Int.reduceLT, Int.reduceLE, Int.reduceNeg, Int.reduceAdd, Int.reduceSub, Int.reduceMul, h8, z]
    exact fin h' (by omega)
/-- takeAfter -/
theorem M174 (hT : TS D n T N) (hE : EK E) (h : PF D E T N i f m) (hd : 3 ≤ d) {w lo hi : Int} (w0 : 0 ≤ w) (w1 : w < 30) (l0 : -1000 ≤ lo) (l1 : lo ≤ 1000) (u0 : -1000 ≤ hi) (u1 : hi ≤ 1000) : ∃ m', mm_ev d 174 0 [some (.ref 316), some (.int (iI (w))), some (.int (iI (lo))), some (.int (iI (hi)))] [] m = some (some (some (.int (iI (taS T w lo hi i f).1))), m') ∧ PF D E T N (taS T w lo hi i f).2.1 (taS T w lo hi i f).2.2 m' ∧ Fr scAt m m' := by
  obtain ⟨m1, e1, h1, f1⟩ := M169 (d := d - 1) hT hE h (by omega) w0 w1
  obtain ⟨m2, e2, h2, f2⟩ := M173 (d := d - 1) hT h1 (by omega) l0 l1 u0 u1
  refine ⟨m2, ?_, h2, f1.tr f2⟩
  rw [sg_174_0 (by omega)]
  simp (disch := omega) only [shM h.1.1, shM h1.1.1, ↓reduceIte, not_false_eq_true, not_true_eq_false, and_self, and_true, true_and, false_and, and_false, or_true, true_or, or_false, false_or, or_self, reduceCtorEq, mm_q, Option.getD_some, cI_some, cJ_some, cV_some, cS_some, kd_sI, kd_sL, kd_sR, kd_cp, ln_sI, ln_sL, ln_sR, ln_cp, gR_sI, gR_sL, gR_sR, gR_cp, gL_sI, gL_sR, gL_cp, gI_sL, gI_sR, iI_add, iI_sub, iI_mul, iI_neg, iI_in, iI_tn, iI_lt, iI_eq, Nat.reduceLeDiff, Nat.reduceEqDiff, Nat.reduceAdd, Int.reduceEq, Int.reduceLT, Int.reduceLE, Int.reduceNeg, Int.reduceAdd, Int.reduceSub, Int.reduceMul, e1, e2]
  rfl
/-- wordHere -/
theorem M181L (hT : TS D n T N) (hE : EK E) (h : PF D E T N i f m) (hd : 1 ≤ d) {a c : Int} (a0 : 0 ≤ a) (a1 : a + c ≤ 30) : ∀ (r : Nat) (k w : Int), k = c - r → 0 ≤ k → w = (if f = 0 ∧ a ≤ ty T i ∧ ty T i < a + k then ty T i - a else -1) → mm_ev d 181 5 [some (.ref 316), some (.int (iI (a))), some (.int (iI (c))), some (.int (iI (w))), some (.int (iI (k)))] [] m = some (some (some (.int (iI (if f = 0 ∧ a ≤ ty T i ∧ ty T i < a + c then ty T i - a else -1)))), m)
  | 0, k, w, hk, k0, hw => by
    rw [sg_181_5 (by omega)]
    simp (disch := omega) only [↓reduceIte, not_false_eq_true, not_true_eq_false, and_self, and_true, true_and, false_and, and_false, or_true, true_or, or_false, false_or, or_self, reduceCtorEq, mm_q, Option.getD_some, cI_some, cJ_some, cV_some, cS_some, kd_sI, kd_sL, kd_sR, kd_cp, ln_sI, ln_sL, ln_sR, ln_cp, gR_sI, gR_sL, gR_sR, gR_cp, gL_sI, gL_sR, gL_cp, gI_sL, gI_sR, iI_add, iI_sub, iI_mul, iI_neg, iI_in, iI_tn, iI_lt, iI_eq, Nat.reduceLeDiff, Nat.reduceEqDiff, Nat.reduceAdd, Int.reduceEq, Int.reduceLT, Int.reduceLE, Int.reduceNeg, Int.reduceAdd, Int.reduceSub, Int.reduceMul, show ¬ k < c by omega]
    rw [hw, show a + k = a + c by omega]
  | r + 1, k, w, hk, k0, hw => by
    have e1 := M171 (d := d - 1) hT hE h (w := a + k) (by omega) (by omega)
    have rcc := fun w' hw' => M181L hT hE h hd a0 a1 r (k + 1) w' (by omega) (by omega) hw'
    rw [sg_181_5 (by omega)]
    by_cases z : f = 0 ∧ ty T i = a + k
    · rw [decide_eq_true z] at e1
      simp (disch := omega) only [shM h.1.1, ↓reduceIte, not_false_eq_true, not_true_eq_false, and_self, and_true, true_and, false_and, and_false, or_true, true_or, or_false, false_or, or_self, reduceCtorEq, mm_q, Option.getD_some, cI_some, cJ_some, cV_some, cS_some, kd_sI, kd_sL, kd_sR, kd_cp, ln_sI, ln_sL, ln_sR, ln_cp, gR_sI, gR_sL, gR_sR, gR_cp, gL_sI, gL_sR, gL_cp, gI_sL, gI_sR, iI_add, iI_sub, iI_mul, iI_neg, iI_in, iI_tn, iI_lt, iI_eq, Nat.reduceLeDiff, Nat.reduceEqDiff, Nat.reduceAdd, Int.reduceEq, Int.reduceLT, Int.reduceLE, Int.reduceNeg, Int.reduceAdd, Int.reduceSub, Int.reduceMul, bI_t, bI_f, decide_true, decide_false, Bool.and_true, Bool.and_false, Bool.true_and, Bool.false_and, Bool.false_eq_true, Bool.and_self, Bool.not_true, Bool.not_false, Bool.true_or, Bool.false_or, Bool.or_true, Bool.or_false, show k < c by omega, e1]
      rw [sg_181_28]
      simp (disch := omega) only [↓reduceIte, not_false_eq_true, not_true_eq_false, and_self, and_true, true_and, false_and, and_false, or_true, true_or, or_false, false_or, or_self, reduceCtorEq, mm_q, Option.getD_some, cI_some, cJ_some, cV_some, cS_some, kd_sI, kd_sL, kd_sR, kd_cp, ln_sI, ln_sL, ln_sR, ln_cp, gR_sI, gR_sL, gR_sR, gR_cp, gL_sI, gL_sR, gL_cp, gI_sL, gI_sR, iI_add, iI_sub, iI_mul, iI_neg, iI_in, iI_tn, iI_lt, iI_eq, Nat.reduceLeDiff, Nat.reduceEqDiff, Nat.reduceAdd, Int.reduceEq, Int.reduceLT, Int.reduceLE, Int.reduceNeg, Int.reduceAdd, Int.reduceSub, Int.reduceMul]
      refine rcc k ?_
      rw [if_pos ⟨z.1, by omega, by omega⟩]
      omega
    · rw [decide_eq_false z] at e1
      simp (disch := omega) only [shM h.1.1, ↓reduceIte, not_false_eq_true, not_true_eq_false, and_self, and_true, true_and, false_and, and_false, or_true, true_or, or_false, false_or, or_self, reduceCtorEq, mm_q, Option.getD_some, cI_some, cJ_some, cV_some, cS_some, kd_sI, kd_sL, kd_sR, kd_cp, ln_sI, ln_sL, ln_sR, ln_cp, gR_sI, gR_sL, gR_sR, gR_cp, gL_sI, gL_sR, gL_cp, gI_sL, gI_sR, iI_add, iI_sub, iI_mul, iI_neg, iI_in, iI_tn, iI_lt, iI_eq, Nat.reduceLeDiff, Nat.reduceEqDiff, Nat.reduceAdd, Int.reduceEq, Int.reduceLT, Int.reduceLE, Int.reduceNeg, Int.reduceAdd, Int.reduceSub, Int.reduceMul, bI_t, bI_f, decide_true, decide_false, Bool.and_true, Bool.and_false, Bool.true_and, Bool.false_and, Bool.false_eq_true, Bool.and_self, Bool.not_true, Bool.not_false, Bool.true_or, Bool.false_or, Bool.or_true, Bool.or_false, show k < c by omega, e1]
      rw [sg_181_28]
      simp (disch := omega) only [↓reduceIte, not_false_eq_true, not_true_eq_false, and_self, and_true, true_and, false_and, and_false, or_true, true_or, or_false, false_or, or_self, reduceCtorEq, mm_q, Option.getD_some, cI_some, cJ_some, cV_some, cS_some, kd_sI, kd_sL, kd_sR, kd_cp, ln_sI, ln_sL, ln_sR, ln_cp, gR_sI, gR_sL, gR_sR, gR_cp, gL_sI, gL_sR, gL_cp, gI_sL, gI_sR, iI_add, iI_sub, iI_mul, iI_neg, iI_in, iI_tn, iI_lt, iI_eq, Nat.reduceLeDiff, Nat.reduceEqDiff, Nat.reduceAdd, Int.reduceEq, Int.reduceLT, Int.reduceLE, Int.reduceNeg, Int.reduceAdd, Int.reduceSub, Int.reduceMul]
      refine rcc w ?_
      rw [hw]
      by_cases y : f = 0 ∧ a ≤ ty T i ∧ ty T i < a + k
      · rw [if_pos y, if_pos ⟨y.1, y.2.1, by omega⟩]
      · rw [if_neg y, if_neg (fun q => by
          by_cases y2 : ty T i = a + k
          · exact z ⟨q.1, y2⟩
          · exact y ⟨q.1, q.2.1, by omega⟩)]
theorem M181 (hT : TS D n T N) (hE : EK E) (h : PF D E T N i f m) (hd : 1 ≤ d) {a c : Int} (a0 : 0 ≤ a) (c0 : 0 ≤ c) (a1 : a + c ≤ 30) : mm_ev d 181 0 [some (.ref 316), some (.int (iI (a))), some (.int (iI (c))), none, none] [] m = some (some (some (.int (iI (if f = 0 ∧ a ≤ ty T i ∧ ty T i < a + c then ty T i - a else -1)))), m) := by
  rw [sg_181_0]
  exact M181L hT hE h hd a0 a1 c.toNat 0 (-1) (by omega) (by omega) (by rw [if_neg (by omega)])
/-- takeOne -/
theorem M184 (hT : TS D n T N) (hE : EK E) (h : PF D E T N i f m) (hd : 2 ≤ d) {a c : Int} (a0 : 0 ≤ a) (c0 : 0 ≤ c) (a1 : a + c ≤ 30) : ∃ m', mm_ev d 184 0 [some (.ref 316), some (.int (iI (a))), some (.int (iI (c))), none] [] m = some (some (some (.int (iI (toS T a c i f).1))), m') ∧ PF D E T N (toS T a c i f).2.1 (toS T a c i f).2.2 m' ∧ Fr scAt m m' := by
  obtain ⟨i0, i1⟩ := h.2.2.2.2.1
  have e1 := M181 (d := d - 1) hT hE h (by omega) a0 c0 a1
  have n2 := hT.1
  have tr := hT.tyr i0 i1
  have fr := h.2.2.2.2.2
  have fin : ∀ {m2 : mm_M} {g k : Int}, PF D E T N i g m2 → (g = 0 → i < N) → ∃ m3, mm_ev d 184 34 [some (.ref 316), some (.int (iI (a))), some (.int (iI (c))), some (.int (iI (k)))] [] m2 = some (some (some (.int (iI (if 0 < g then 0 else k)))), m3) ∧ PF D E T N (if 0 < g then i else i + 1) g m3 ∧ Fr scAt m2 m3 := fun {m2 g k} h2 gi => by
    have g9 := h2.2.2.2.2.2
    rw [sg_184_34]
    by_cases y : 0 < g
    · refine ⟨mm_sI m2 316 7 (iI i), ?_, by rw [if_pos y]; exact h2.at i0 i1, Fr.at7⟩
      simp (disch := omega) only [shM h2.1.1, ↓reduceIte, not_false_eq_true, not_true_eq_false, and_self, and_true, true_and, false_and, and_false, or_true, true_or, or_false, false_or, or_self, reduceCtorEq, mm_q, Option.getD_some, cI_some, cJ_some, cV_some, cS_some, kd_sI, kd_sL, kd_sR, kd_cp, ln_sI, ln_sL, ln_sR, ln_cp, gR_sI, gR_sL, gR_sR, gR_cp, gL_sI, gL_sR, gL_cp, gI_sL, gI_sR, iI_add, iI_sub, iI_mul, iI_neg, iI_in, iI_tn, iI_lt, iI_eq, Nat.reduceLeDiff, Nat.reduceEqDiff, Nat.reduceAdd, Int.reduceEq, Int.reduceLT, Int.reduceLE, Int.reduceNeg, Int.reduceAdd, Int.reduceSub, Int.reduceMul, h2.2.2.2.1, h2.2.2.1, y]
      rw [sg_184_51]
      simp (disch := omega) only [shM h2.1.1, ↓reduceIte, not_false_eq_true, not_true_eq_false, and_self, and_true, true_and, false_and, and_false, or_true, true_or, or_false, false_or, or_self, reduceCtorEq, mm_q, Option.getD_some, cI_some, cJ_some, cV_some, cS_some, kd_sI, kd_sL, kd_sR, kd_cp, ln_sI, ln_sL, ln_sR, ln_cp, gR_sI, gR_sL, gR_sR, gR_cp, gL_sI, gL_sR, gL_cp, gI_sL, gI_sR, iI_add, iI_sub, iI_mul, iI_neg, iI_in, iI_tn, iI_lt, iI_eq, Nat.reduceLeDiff, Nat.reduceEqDiff, Nat.reduceAdd, Int.reduceEq, Int.reduceLT, Int.reduceLE, Int.reduceNeg, Int.reduceAdd, Int.reduceSub, Int.reduceMul, gI_sI, h2.2.2.2.1, y, Int.add_zero]
    · refine ⟨mm_sI m2 316 7 (iI (i + 1)), ?_, by rw [if_neg y]; exact h2.at (by omega) (by have := gi (by omega); omega), Fr.at7⟩
      simp (disch := omega) only [shM h2.1.1, ↓reduceIte, not_false_eq_true, not_true_eq_false, and_self, and_true, true_and, false_and, and_false, or_true, true_or, or_false, false_or, or_self, reduceCtorEq, mm_q, Option.getD_some, cI_some, cJ_some, cV_some, cS_some, kd_sI, kd_sL, kd_sR, kd_cp, ln_sI, ln_sL, ln_sR, ln_cp, gR_sI, gR_sL, gR_sR, gR_cp, gL_sI, gL_sR, gL_cp, gI_sL, gI_sR, iI_add, iI_sub, iI_mul, iI_neg, iI_in, iI_tn, iI_lt, iI_eq, Nat.reduceLeDiff, Nat.reduceEqDiff, Nat.reduceAdd, Int.reduceEq, Int.reduceLT, Int.reduceLE, Int.reduceNeg, Int.reduceAdd, Int.reduceSub, Int.reduceMul, h2.2.2.2.1, h2.2.2.1, y]
      rw [sg_184_51]
      simp (disch := omega) only [shM h2.1.1, ↓reduceIte, not_false_eq_true, not_true_eq_false, and_self, and_true, true_and, false_and, and_false, or_true, true_or, or_false, false_or, or_self, reduceCtorEq, mm_q, Option.getD_some, cI_some, cJ_some, cV_some, cS_some, kd_sI, kd_sL, kd_sR, kd_cp, ln_sI, ln_sL, ln_sR, ln_cp, gR_sI, gR_sL, gR_sR, gR_cp, gL_sI, gL_sR, gL_cp, gI_sL, gI_sR, iI_add, iI_sub, iI_mul, iI_neg, iI_in, iI_tn, iI_lt, iI_eq, Nat.reduceLeDiff, Nat.reduceEqDiff, Nat.reduceAdd, Int.reduceEq, Int.reduceLT, Int.reduceLE, Int.reduceNeg, Int.reduceAdd, Int.reduceSub, Int.reduceMul, gI_sI, h2.2.2.2.1, y]
  rw [sg_184_0 (by omega)]
  unfold toS
  by_cases z : f = 0
  · subst z
    rw [if_pos rfl]
    by_cases z2 : a ≤ ty T i ∧ ty T i < a + c
    · rw [if_pos ⟨rfl, z2⟩] at e1
      rw [if_pos z2]
      obtain ⟨m3, e3, h3, f3⟩ := fin (k := ty T i - a) h (fun _ => hT.lt i0 i1 (by omega))
      refine ⟨m3, ?_, h3, f3⟩
      simp (disch := omega) only [shM h.1.1, ↓reduceIte, not_false_eq_true, not_true_eq_false, and_self, and_true, true_and, false_and, and_false, or_true, true_or, or_false, false_or, or_self, reduceCtorEq, mm_q, Option.getD_some, cI_some, cJ_some, cV_some, cS_some, kd_sI, kd_sL, kd_sR, kd_cp, ln_sI, ln_sL, ln_sR, ln_cp, gR_sI, gR_sL, gR_sR, gR_cp, gL_sI, gL_sR, gL_cp, gI_sL, gI_sR, iI_add, iI_sub, iI_mul, iI_neg, iI_in, iI_tn, iI_lt, iI_eq, Nat.reduceLeDiff, Nat.reduceEqDiff, Nat.reduceAdd, Int.reduceEq, Int.reduceLT, Int.reduceLE, Int.reduceNeg, Int.reduceAdd, Int.reduceSub, Int.reduceMul, h.2.2.2.1, e1]
      rw [sg_184_17 (by omega)]
      simp (disch := omega) only [shM h.1.1, ↓reduceIte, not_false_eq_true, not_true_eq_false, and_self, and_true, true_and, false_and, and_false, or_true, true_or, or_false, false_or, or_self, reduceCtorEq, mm_q, Option.getD_some, cI_some, cJ_some, cV_some, cS_some, kd_sI, kd_sL, kd_sR, kd_cp, ln_sI, ln_sL, ln_sR, ln_cp, gR_sI, gR_sL, gR_sR, gR_cp, gL_sI, gL_sR, gL_cp, gI_sL, gI_sR, iI_add, iI_sub, iI_mul, iI_neg, iI_in, iI_tn, iI_lt, iI_eq, Nat.reduceLeDiff, Nat.reduceEqDiff, Nat.reduceAdd, Int.reduceEq, Int.reduceLT, Int.reduceLE, Int.reduceNeg, Int.reduceAdd, Int.reduceSub, Int.reduceMul, h.2.2.2.1, show ¬ ty T i - a < 0 by omega]
      exact e3
    · rw [if_neg (fun q => z2 q.2)] at e1
      rw [if_neg z2]
      obtain ⟨m2, e2, h2, f2⟩ := M172 (d := d - 1) hT h (k := 1) (by omega) (by omega)
      rw [if_pos rfl] at h2
      have pr := (hT.k i0 i1).1
      obtain ⟨m3, e3, h3, f3⟩ := fin (k := -1) h2 (by omega)
      rw [if_pos (by omega)] at h3 e3
      refine ⟨m3, ?_, h3, f2.tr f3⟩
      simp (disch := omega) only [shM h.1.1, ↓reduceIte, not_false_eq_true, not_true_eq_false, and_self, and_true, true_and, false_and, and_false, or_true, true_or, or_false, false_or, or_self, reduceCtorEq, mm_q, Option.getD_some, cI_some, cJ_some, cV_some, cS_some, kd_sI, kd_sL, kd_sR, kd_cp, ln_sI, ln_sL, ln_sR, ln_cp, gR_sI, gR_sL, gR_sR, gR_cp, gL_sI, gL_sR, gL_cp, gI_sL, gI_sR, iI_add, iI_sub, iI_mul, iI_neg, iI_in, iI_tn, iI_lt, iI_eq, Nat.reduceLeDiff, Nat.reduceEqDiff, Nat.reduceAdd, Int.reduceEq, Int.reduceLT, Int.reduceLE, Int.reduceNeg, Int.reduceAdd, Int.reduceSub, Int.reduceMul, h.2.2.2.1, e1]
      rw [sg_184_17 (by omega)]
      simp (disch := omega) only [shM h.1.1, ↓reduceIte, not_false_eq_true, not_true_eq_false, and_self, and_true, true_and, false_and, and_false, or_true, true_or, or_false, false_or, or_self, reduceCtorEq, mm_q, Option.getD_some, cI_some, cJ_some, cV_some, cS_some, kd_sI, kd_sL, kd_sR, kd_cp, ln_sI, ln_sL, ln_sR, ln_cp, gR_sI, gR_sL, gR_sR, gR_cp, gL_sI, gL_sR, gL_cp, gI_sL, gI_sR, iI_add, iI_sub, iI_mul, iI_neg, iI_in, iI_tn, iI_lt, iI_eq, Nat.reduceLeDiff, Nat.reduceEqDiff, Nat.reduceAdd, Int.reduceEq, Int.reduceLT, Int.reduceLE, Int.reduceNeg, Int.reduceAdd, Int.reduceSub, Int.reduceMul, h.2.2.2.1, e2]
      exact e3
  · rw [if_neg z]
    obtain ⟨m3, e3, h3, f3⟩ := fin (k := -1) h (by omega)
    rw [if_pos (by omega)] at h3 e3
    refine ⟨m3, ?_, h3, f3⟩
    simp (disch := omega) only [shM h.1.1, ↓reduceIte, not_false_eq_true, not_true_eq_false, and_self, and_true, true_and, false_and, and_false, or_true, true_or, or_false, false_or, or_self, reduceCtorEq, mm_q, Option.getD_some, cI_some, cJ_some, cV_some, cS_some, kd_sI, kd_sL, kd_sR, kd_cp, ln_sI, ln_sL, ln_sR, ln_cp, gR_sI, gR_sL, gR_sR, gR_cp, gL_sI, gL_sR, gL_cp, gI_sL, gI_sR, iI_add, iI_sub, iI_mul, iI_neg, iI_in, iI_tn, iI_lt, iI_eq, Nat.reduceLeDiff, Nat.reduceEqDiff, Nat.reduceAdd, Int.reduceEq, Int.reduceLT, Int.reduceLE, Int.reduceNeg, Int.reduceAdd, Int.reduceSub, Int.reduceMul, h.2.2.2.1, show 0 < f by omega]
    rw [sg_184_17 (by omega)]
    simp (disch := omega) only [shM h.1.1, ↓reduceIte, not_false_eq_true, not_true_eq_false, and_self, and_true, true_and, false_and, and_false, or_true, true_or, or_false, false_or, or_self, reduceCtorEq, mm_q, Option.getD_some, cI_some, cJ_some, cV_some, cS_some, kd_sI, kd_sL, kd_sR, kd_cp, ln_sI, ln_sL, ln_sR, ln_cp, gR_sI, gR_sL, gR_sR, gR_cp, gL_sI, gL_sR, gL_cp, gI_sL, gI_sR, iI_add, iI_sub, iI_mul, iI_neg, iI_in, iI_tn, iI_lt, iI_eq, Nat.reduceLeDiff, Nat.reduceEqDiff, Nat.reduceAdd, Int.reduceEq, Int.reduceLT, Int.reduceLE, Int.reduceNeg, Int.reduceAdd, Int.reduceSub, Int.reduceMul, h.2.2.2.1, z]
    exact e3
/-- isName -/
theorem M180 (hT : TS D n T N) (hE : EK E) (h : PF D E T N i f m) (hd : 2 ≤ d) : mm_ev d 180 0 [some (.ref 316)] [] m = some (some (some (.int (iI (bI (decide (f = 0 ∧ ty T i = 30)))))), m) := by
  have e1 := M181 (d := d - 1) hT hE h (by omega) (a := 0) (c := 30) (by omega) (by omega) (by omega)
  obtain ⟨⟨p0, p1⟩, hk⟩ := hT.k h.2.2.2.2.1.1 h.2.2.2.2.1.2
  obtain ⟨hM, hK, h7, h8, ⟨i0, i1⟩, f0, f1⟩ := h
  obtain ⟨k1, k2, k3⟩ := hK i i0 i1
  have n2 := hT.1
  rw [sg_180_0 (by omega)]
  by_cases z : f = 0
  · subst z
    rcases hk with ⟨-, s, y⟩ | ⟨iN, ⟨s, y, y', -⟩ | ⟨s, y, -⟩ | ⟨s, y, g, -⟩ | ⟨s, y⟩⟩
    · simp (disch := omega) only [shM hM.1, ↓reduceIte, not_false_eq_true, not_true_eq_false, and_self, and_true, true_and, false_and, and_false, or_true, true_or, or_false, false_or, or_self, reduceCtorEq, mm_q, Option.getD_some, cI_some, cJ_some, cV_some, cS_some, kd_sI, kd_sL, kd_sR, kd_cp, ln_sI, ln_sL, ln_sR, ln_cp, gR_sI, gR_sL, gR_sR, gR_cp, gL_sI, gL_sR, gL_cp, gI_sL, gI_sR, iI_add, iI_sub, iI_mul, iI_neg, iI_in, iI_tn, iI_lt, iI_eq, Nat.reduceLeDiff, Nat.reduceEqDiff, Nat.reduceAdd, Int.reduceEq, Int.reduceLT, Int.reduceLE, Int.reduceNeg, Int.reduceAdd, Int.reduceSub, Int.reduceMul, h7, h8, k1, s]
      rw [decide_eq_false (by omega)]
      rfl
    · by_cases z2 : ty T i = 30
      · rw [if_neg (by omega)] at e1
        simp (disch := omega) only [shM hM.1, ↓reduceIte, not_false_eq_true, not_true_eq_false, and_self, and_true, true_and, false_and, and_false, or_true, true_or, or_false, false_or, or_self, reduceCtorEq, mm_q, Option.getD_some, cI_some, cJ_some, cV_some, cS_some, kd_sI, kd_sL, kd_sR, kd_cp, ln_sI, ln_sL, ln_sR, ln_cp, gR_sI, gR_sL, gR_sR, gR_cp, gL_sI, gL_sR, gL_cp, gI_sL, gI_sR, iI_add, iI_sub, iI_mul, iI_neg, iI_in, iI_tn, iI_lt, iI_eq, Nat.reduceLeDiff, Nat.reduceEqDiff, Nat.reduceAdd, Int.reduceEq, Int.reduceLT, Int.reduceLE, Int.reduceNeg, Int.reduceAdd, Int.reduceSub, Int.reduceMul, h7, h8, k1, s, e1]
        rw [decide_eq_true z2]
        rfl
      · rw [if_pos ⟨rfl, by omega, by omega⟩] at e1
        simp (disch := omega) only [shM hM.1, ↓reduceIte, not_false_eq_true, not_true_eq_false, and_self, and_true, true_and, false_and, and_false, or_true, true_or, or_false, false_or, or_self, reduceCtorEq, mm_q, Option.getD_some, cI_some, cJ_some, cV_some, cS_some, kd_sI, kd_sL, kd_sR, kd_cp, ln_sI, ln_sL, ln_sR, ln_cp, gR_sI, gR_sL, gR_sR, gR_cp, gL_sI, gL_sR, gL_cp, gI_sL, gI_sR, iI_add, iI_sub, iI_mul, iI_neg, iI_in, iI_tn, iI_lt, iI_eq, Nat.reduceLeDiff, Nat.reduceEqDiff, Nat.reduceAdd, Int.reduceEq, Int.reduceLT, Int.reduceLE, Int.reduceNeg, Int.reduceAdd, Int.reduceSub, Int.reduceMul, h7, h8, k1, s, e1, show ¬ ty T i - 0 < 0 by omega]
        rw [decide_eq_false z2]
        rfl
    · simp (disch := omega) only [shM hM.1, ↓reduceIte, not_false_eq_true, not_true_eq_false, and_self, and_true, true_and, false_and, and_false, or_true, true_or, or_false, false_or, or_self, reduceCtorEq, mm_q, Option.getD_some, cI_some, cJ_some, cV_some, cS_some, kd_sI, kd_sL, kd_sR, kd_cp, ln_sI, ln_sL, ln_sR, ln_cp, gR_sI, gR_sL, gR_sR, gR_cp, gL_sI, gL_sR, gL_cp, gI_sL, gI_sR, iI_add, iI_sub, iI_mul, iI_neg, iI_in, iI_tn, iI_lt, iI_eq, Nat.reduceLeDiff, Nat.reduceEqDiff, Nat.reduceAdd, Int.reduceEq, Int.reduceLT, Int.reduceLE, Int.reduceNeg, Int.reduceAdd, Int.reduceSub, Int.reduceMul, h7, h8, k1, s]
      rw [decide_eq_false (by omega)]
      rfl
    · unfold sgn at g
      simp (disch := omega) only [shM hM.1, ↓reduceIte, not_false_eq_true, not_true_eq_false, and_self, and_true, true_and, false_and, and_false, or_true, true_or, or_false, false_or, or_self, reduceCtorEq, mm_q, Option.getD_some, cI_some, cJ_some, cV_some, cS_some, kd_sI, kd_sL, kd_sR, kd_cp, ln_sI, ln_sL, ln_sR, ln_cp, gR_sI, gR_sL, gR_sR, gR_cp, gL_sI, gL_sR, gL_cp, gI_sL, gI_sR, iI_add, iI_sub, iI_mul, iI_neg, iI_in, iI_tn, iI_lt, iI_eq, Nat.reduceLeDiff, Nat.reduceEqDiff, Nat.reduceAdd, Int.reduceEq, Int.reduceLT, Int.reduceLE, Int.reduceNeg, Int.reduceAdd, Int.reduceSub, Int.reduceMul, h7, h8, k1, s]
      rw [decide_eq_false (by omega)]
      rfl
    · simp (disch := omega) only [shM hM.1, ↓reduceIte, not_false_eq_true, not_true_eq_false, and_self, and_true, true_and, false_and, and_false, or_true, true_or, or_false, false_or, or_self, reduceCtorEq, mm_q, Option.getD_some, cI_some, cJ_some, cV_some, cS_some, kd_sI, kd_sL, kd_sR, kd_cp, ln_sI, ln_sL, ln_sR, ln_cp, gR_sI, gR_sL, gR_sR, gR_cp, gL_sI, gL_sR, gL_cp, gI_sL, gI_sR, iI_add, iI_sub, iI_mul, iI_neg, iI_in, iI_tn, iI_lt, iI_eq, Nat.reduceLeDiff, Nat.reduceEqDiff, Nat.reduceAdd, Int.reduceEq, Int.reduceLT, Int.reduceLE, Int.reduceNeg, Int.reduceAdd, Int.reduceSub, Int.reduceMul, h7, h8, k1, s]
      rw [decide_eq_false (by omega)]
      rfl
  · simp (disch := omega) only [shM hM.1, ↓reduceIte, not_false_eq_true, not_true_eq_false, and_self, and_true, true_and, false_and, and_false, or_true, true_or, or_false, false_or, or_self, reduceCtorEq, mm_q, Option.getD_some, cI_some, cJ_some, cV_some, cS_some, kd_sI, kd_sL, kd_sR, kd_cp, ln_sI, ln_sL, ln_sR, ln_cp, gR_sI, gR_sL, gR_sR, gR_cp, gL_sI, gL_sR, gL_cp, gI_sL, gI_sR, iI_add, iI_sub, iI_mul, iI_neg, iI_in, iI_tn, iI_lt, iI_eq, Nat.reduceLeDiff, Nat.reduceEqDiff, Nat.reduceAdd, Int.reduceEq, Int.reduceLT, Int.reduceLE, Int.reduceNeg, Int.reduceAdd, Int.reduceSub, Int.reduceMul, h8, z]
    rw [decide_eq_false (by exact fun q => q)]
    rfl
/-- find, among the names read or told -/
theorem M182L {Y : Nat → Int64} {W : Nat → Int32} {cnt : Int} {b : Bool} (hT : TS D n T N) (h : PF D E T N i f m) (iN : i < N) (hc : mm_gI m 316 (if b = true then 19 else 18) = iI cnt) (c1 : cnt ≤ 14) (hN : NMm Y W cnt (if b = true then 326 else 325) (if b = true then 328 else 327) m) : ∀ (r k : Nat), (k : Int) = cnt - r → mm_ev d 182 2 [some (.ref 316), some (.int (iI (bI b))), some (.int (iI ((k : Int))))] [] m = some (some (some (.int (iI (fdGo Y W (tV T i) r k)))), m)
  | 0, k, hk => by
    rw [sg_182_2]
    unfold fdGo
    cases b
    · simp only [Bool.false_eq_true, if_false] at hc
      simp (disch := omega) only [shM h.1.1, ↓reduceIte, not_false_eq_true, not_true_eq_false, and_self, and_true, true_and, false_and, and_false, or_true, true_or, or_false, false_or, or_self, reduceCtorEq, mm_q, Option.getD_some, cI_some, cJ_some, cV_some, cS_some, kd_sI, kd_sL, kd_sR, kd_cp, ln_sI, ln_sL, ln_sR, ln_cp, gR_sI, gR_sL, gR_sR, gR_cp, gL_sI, gL_sR, gL_cp, gI_sL, gI_sR, iI_add, iI_sub, iI_mul, iI_neg, iI_in, iI_tn, iI_lt, iI_eq, Nat.reduceLeDiff, Nat.reduceEqDiff, Nat.reduceAdd, Int.reduceEq, Int.reduceLT, Int.reduceLE, Int.reduceNeg, Int.reduceAdd, Int.reduceSub, Int.reduceMul, bI_t, bI_f, decide_true, decide_false, Bool.and_true, Bool.and_false, Bool.true_and, Bool.false_and, Bool.false_eq_true, Bool.and_self, Bool.not_true, Bool.not_false, Bool.true_or, Bool.false_or, Bool.or_true, Bool.or_false, hc]
      rw [sg_182_18]
      simp (disch := omega) only [↓reduceIte, not_false_eq_true, not_true_eq_false, and_self, and_true, true_and, false_and, and_false, or_true, true_or, or_false, false_or, or_self, reduceCtorEq, mm_q, Option.getD_some, cI_some, cJ_some, cV_some, cS_some, kd_sI, kd_sL, kd_sR, kd_cp, ln_sI, ln_sL, ln_sR, ln_cp, gR_sI, gR_sL, gR_sR, gR_cp, gL_sI, gL_sR, gL_cp, gI_sL, gI_sR, iI_add, iI_sub, iI_mul, iI_neg, iI_in, iI_tn, iI_lt, iI_eq, Nat.reduceLeDiff, Nat.reduceEqDiff, Nat.reduceAdd, Int.reduceEq, Int.reduceLT, Int.reduceLE, Int.reduceNeg, Int.reduceAdd, Int.reduceSub, Int.reduceMul, show ¬ (k : Int) < cnt by omega]
    · simp only [if_true] at hc
      simp (disch := omega) only [shM h.1.1, ↓reduceIte, not_false_eq_true, not_true_eq_false, and_self, and_true, true_and, false_and, and_false, or_true, true_or, or_false, false_or, or_self, reduceCtorEq, mm_q, Option.getD_some, cI_some, cJ_some, cV_some, cS_some, kd_sI, kd_sL, kd_sR, kd_cp, ln_sI, ln_sL, ln_sR, ln_cp, gR_sI, gR_sL, gR_sR, gR_cp, gL_sI, gL_sR, gL_cp, gI_sL, gI_sR, iI_add, iI_sub, iI_mul, iI_neg, iI_in, iI_tn, iI_lt, iI_eq, Nat.reduceLeDiff, Nat.reduceEqDiff, Nat.reduceAdd, Int.reduceEq, Int.reduceLT, Int.reduceLE, Int.reduceNeg, Int.reduceAdd, Int.reduceSub, Int.reduceMul, bI_t, bI_f, decide_true, decide_false, Bool.and_true, Bool.and_false, Bool.true_and, Bool.false_and, Bool.false_eq_true, Bool.and_self, Bool.not_true, Bool.not_false, Bool.true_or, Bool.false_or, Bool.or_true, Bool.or_false, hc]
      rw [sg_182_18]
      simp (disch := omega) only [↓reduceIte, not_false_eq_true, not_true_eq_false, and_self, and_true, true_and, false_and, and_false, or_true, true_or, or_false, false_or, or_self, reduceCtorEq, mm_q, Option.getD_some, cI_some, cJ_some, cV_some, cS_some, kd_sI, kd_sL, kd_sR, kd_cp, ln_sI, ln_sL, ln_sR, ln_cp, gR_sI, gR_sL, gR_sR, gR_cp, gL_sI, gL_sR, gL_cp, gI_sL, gI_sR, iI_add, iI_sub, iI_mul, iI_neg, iI_in, iI_tn, iI_lt, iI_eq, Nat.reduceLeDiff, Nat.reduceEqDiff, Nat.reduceAdd, Int.reduceEq, Int.reduceLT, Int.reduceLE, Int.reduceNeg, Int.reduceAdd, Int.reduceSub, Int.reduceMul, show ¬ (k : Int) < cnt by omega]
  | r + 1, k, hk => by
    obtain ⟨i0, i1⟩ := h.2.2.2.2.1
    have n2 := hT.1
    have hv := (h.2.1 i i0 i1).2.2 iN
    have ih := M182L hT h iN hc c1 hN r (k + 1) (by omega)
    rw [show ((k + 1 : Nat) : Int) = (k : Int) + 1 by omega] at ih
    obtain ⟨n3, n4⟩ := hN k (by omega)
    rw [sg_182_2]
    unfold fdGo
    have kn : ((k : Int)).toNat = k := by omega
    cases b
    · simp only [Bool.false_eq_true, if_false] at hc n3 n4
      simp (disch := omega) only [shM h.1.1, ↓reduceIte, not_false_eq_true, not_true_eq_false, and_self, and_true, true_and, false_and, and_false, or_true, true_or, or_false, false_or, or_self, reduceCtorEq, mm_q, Option.getD_some, cI_some, cJ_some, cV_some, cS_some, kd_sI, kd_sL, kd_sR, kd_cp, ln_sI, ln_sL, ln_sR, ln_cp, gR_sI, gR_sL, gR_sR, gR_cp, gL_sI, gL_sR, gL_cp, gI_sL, gI_sR, iI_add, iI_sub, iI_mul, iI_neg, iI_in, iI_tn, iI_lt, iI_eq, Nat.reduceLeDiff, Nat.reduceEqDiff, Nat.reduceAdd, Int.reduceEq, Int.reduceLT, Int.reduceLE, Int.reduceNeg, Int.reduceAdd, Int.reduceSub, Int.reduceMul, bI_t, bI_f, decide_true, decide_false, Bool.and_true, Bool.and_false, Bool.true_and, Bool.false_and, Bool.false_eq_true, Bool.and_self, Bool.not_true, Bool.not_false, Bool.true_or, Bool.false_or, Bool.or_true, Bool.or_false, hc]
      rw [sg_182_18]
      simp (disch := omega) only [shM h.1.1, ↓reduceIte, not_false_eq_true, not_true_eq_false, and_self, and_true, true_and, false_and, and_false, or_true, true_or, or_false, false_or, or_self, reduceCtorEq, mm_q, Option.getD_some, cI_some, cJ_some, cV_some, cS_some, kd_sI, kd_sL, kd_sR, kd_cp, ln_sI, ln_sL, ln_sR, ln_cp, gR_sI, gR_sL, gR_sR, gR_cp, gL_sI, gL_sR, gL_cp, gI_sL, gI_sR, iI_add, iI_sub, iI_mul, iI_neg, iI_in, iI_tn, iI_lt, iI_eq, Nat.reduceLeDiff, Nat.reduceEqDiff, Nat.reduceAdd, Int.reduceEq, Int.reduceLT, Int.reduceLE, Int.reduceNeg, Int.reduceAdd, Int.reduceSub, Int.reduceMul, bI_t, bI_f, decide_true, decide_false, Bool.and_true, Bool.and_false, Bool.true_and, Bool.false_and, Bool.false_eq_true, Bool.and_self, Bool.not_true, Bool.not_false, Bool.true_or, Bool.false_or, Bool.or_true, Bool.or_false, show (k : Int) < cnt by omega, kn, n3]
      rw [sg_182_40]
      by_cases z : Y k = tV T i
      · simp (disch := omega) only [shM h.1.1, ↓reduceIte, not_false_eq_true, not_true_eq_false, and_self, and_true, true_and, false_and, and_false, or_true, true_or, or_false, false_or, or_self, reduceCtorEq, mm_q, Option.getD_some, cI_some, cJ_some, cV_some, cS_some, kd_sI, kd_sL, kd_sR, kd_cp, ln_sI, ln_sL, ln_sR, ln_cp, gR_sI, gR_sL, gR_sR, gR_cp, gL_sI, gL_sR, gL_cp, gI_sL, gI_sR, iI_add, iI_sub, iI_mul, iI_neg, iI_in, iI_tn, iI_lt, iI_eq, Nat.reduceLeDiff, Nat.reduceEqDiff, Nat.reduceAdd, Int.reduceEq, Int.reduceLT, Int.reduceLE, Int.reduceNeg, Int.reduceAdd, Int.reduceSub, Int.reduceMul, bI_t, bI_f, decide_true, decide_false, Bool.and_true, Bool.and_false, Bool.true_and, Bool.false_and, Bool.false_eq_true, Bool.and_self, Bool.not_true, Bool.not_false, Bool.true_or, Bool.false_or, Bool.or_true, Bool.or_false, h.2.2.1, hv, lg_eq, z, kn, n4, iI_toInt]
      · simp (disch := omega) only [shM h.1.1, ↓reduceIte, not_false_eq_true, not_true_eq_false, and_self, and_true, true_and, false_and, and_false, or_true, true_or, or_false, false_or, or_self, reduceCtorEq, mm_q, Option.getD_some, cI_some, cJ_some, cV_some, cS_some, kd_sI, kd_sL, kd_sR, kd_cp, ln_sI, ln_sL, ln_sR, ln_cp, gR_sI, gR_sL, gR_sR, gR_cp, gL_sI, gL_sR, gL_cp, gI_sL, gI_sR, iI_add, iI_sub, iI_mul, iI_neg, iI_in, iI_tn, iI_lt, iI_eq, Nat.reduceLeDiff, Nat.reduceEqDiff, Nat.reduceAdd, Int.reduceEq, Int.reduceLT, Int.reduceLE, Int.reduceNeg, Int.reduceAdd, Int.reduceSub, Int.reduceMul, bI_t, bI_f, decide_true, decide_false, Bool.and_true, Bool.and_false, Bool.true_and, Bool.false_and, Bool.false_eq_true, Bool.and_self, Bool.not_true, Bool.not_false, Bool.true_or, Bool.false_or, Bool.or_true, Bool.or_false, h.2.2.1, hv, lg_eq, z]
        exact ih
    · simp only [if_true] at hc n3 n4
      simp (disch := omega) only [shM h.1.1, ↓reduceIte, not_false_eq_true, not_true_eq_false, and_self, and_true, true_and, false_and, and_false, or_true, true_or, or_false, false_or, or_self, reduceCtorEq, mm_q, Option.getD_some, cI_some, cJ_some, cV_some, cS_some, kd_sI, kd_sL, kd_sR, kd_cp, ln_sI, ln_sL, ln_sR, ln_cp, gR_sI, gR_sL, gR_sR, gR_cp, gL_sI, gL_sR, gL_cp, gI_sL, gI_sR, iI_add, iI_sub, iI_mul, iI_neg, iI_in, iI_tn, iI_lt, iI_eq, Nat.reduceLeDiff, Nat.reduceEqDiff, Nat.reduceAdd, Int.reduceEq, Int.reduceLT, Int.reduceLE, Int.reduceNeg, Int.reduceAdd, Int.reduceSub, Int.reduceMul, bI_t, bI_f, decide_true, decide_false, Bool.and_true, Bool.and_false, Bool.true_and, Bool.false_and, Bool.false_eq_true, Bool.and_self, Bool.not_true, Bool.not_false, Bool.true_or, Bool.false_or, Bool.or_true, Bool.or_false, hc]
      rw [sg_182_18]
      simp (disch := omega) only [shM h.1.1, ↓reduceIte, not_false_eq_true, not_true_eq_false, and_self, and_true, true_and, false_and, and_false, or_true, true_or, or_false, false_or, or_self, reduceCtorEq, mm_q, Option.getD_some, cI_some, cJ_some, cV_some, cS_some, kd_sI, kd_sL, kd_sR, kd_cp, ln_sI, ln_sL, ln_sR, ln_cp, gR_sI, gR_sL, gR_sR, gR_cp, gL_sI, gL_sR, gL_cp, gI_sL, gI_sR, iI_add, iI_sub, iI_mul, iI_neg, iI_in, iI_tn, iI_lt, iI_eq, Nat.reduceLeDiff, Nat.reduceEqDiff, Nat.reduceAdd, Int.reduceEq, Int.reduceLT, Int.reduceLE, Int.reduceNeg, Int.reduceAdd, Int.reduceSub, Int.reduceMul, bI_t, bI_f, decide_true, decide_false, Bool.and_true, Bool.and_false, Bool.true_and, Bool.false_and, Bool.false_eq_true, Bool.and_self, Bool.not_true, Bool.not_false, Bool.true_or, Bool.false_or, Bool.or_true, Bool.or_false, show (k : Int) < cnt by omega, kn, n3]
      rw [sg_182_40]
      by_cases z : Y k = tV T i
      · simp (disch := omega) only [shM h.1.1, ↓reduceIte, not_false_eq_true, not_true_eq_false, and_self, and_true, true_and, false_and, and_false, or_true, true_or, or_false, false_or, or_self, reduceCtorEq, mm_q, Option.getD_some, cI_some, cJ_some, cV_some, cS_some, kd_sI, kd_sL, kd_sR, kd_cp, ln_sI, ln_sL, ln_sR, ln_cp, gR_sI, gR_sL, gR_sR, gR_cp, gL_sI, gL_sR, gL_cp, gI_sL, gI_sR, iI_add, iI_sub, iI_mul, iI_neg, iI_in, iI_tn, iI_lt, iI_eq, Nat.reduceLeDiff, Nat.reduceEqDiff, Nat.reduceAdd, Int.reduceEq, Int.reduceLT, Int.reduceLE, Int.reduceNeg, Int.reduceAdd, Int.reduceSub, Int.reduceMul, bI_t, bI_f, decide_true, decide_false, Bool.and_true, Bool.and_false, Bool.true_and, Bool.false_and, Bool.false_eq_true, Bool.and_self, Bool.not_true, Bool.not_false, Bool.true_or, Bool.false_or, Bool.or_true, Bool.or_false, h.2.2.1, hv, lg_eq, z, kn, n4, iI_toInt]
      · simp (disch := omega) only [shM h.1.1, ↓reduceIte, not_false_eq_true, not_true_eq_false, and_self, and_true, true_and, false_and, and_false, or_true, true_or, or_false, false_or, or_self, reduceCtorEq, mm_q, Option.getD_some, cI_some, cJ_some, cV_some, cS_some, kd_sI, kd_sL, kd_sR, kd_cp, ln_sI, ln_sL, ln_sR, ln_cp, gR_sI, gR_sL, gR_sR, gR_cp, gL_sI, gL_sR, gL_cp, gI_sL, gI_sR, iI_add, iI_sub, iI_mul, iI_neg, iI_in, iI_tn, iI_lt, iI_eq, Nat.reduceLeDiff, Nat.reduceEqDiff, Nat.reduceAdd, Int.reduceEq, Int.reduceLT, Int.reduceLE, Int.reduceNeg, Int.reduceAdd, Int.reduceSub, Int.reduceMul, bI_t, bI_f, decide_true, decide_false, Bool.and_true, Bool.and_false, Bool.true_and, Bool.false_and, Bool.false_eq_true, Bool.and_self, Bool.not_true, Bool.not_false, Bool.true_or, Bool.false_or, Bool.or_true, Bool.or_false, h.2.2.1, hv, lg_eq, z]
        exact ih
theorem M182 {Y : Nat → Int64} {W : Nat → Int32} {cnt : Int} {b : Bool} (hT : TS D n T N) (h : PF D E T N i f m) (iN : i < N) (hc : mm_gI m 316 (if b = true then 19 else 18) = iI cnt) (c0 : 0 ≤ cnt) (c1 : cnt ≤ 14) (hN : NMm Y W cnt (if b = true then 326 else 325) (if b = true then 328 else 327) m) : mm_ev d 182 0 [some (.ref 316), some (.int (iI (bI b))), none] [] m = some (some (some (.int (iI (fdGo Y W (tV T i) cnt.toNat 0)))), m) := by
  rw [sg_182_0]
  exact M182L hT h iN hc c1 hN cnt.toNat 0 (by omega)
theorem fdGo_r {Y : Nat → Int64} {W : Nat → Int32} {u : Int64} : ∀ r k : Nat, -2147483648 ≤ fdGo Y W u r k ∧ fdGo Y W u r k < 2147483648
  | 0, _ => by unfold fdGo; omega
  | r + 1, k => by
    unfold fdGo
    split
    · exact ⟨Int32.le_toInt _, Int32.toInt_lt _⟩
    · exact fdGo_r r (k + 1)
theorem M188w {x lo hi : Int} (x_0 : -2147483648 ≤ x) (x_1 : x < 2147483648) (lo_0 : -2147483648 ≤ lo) (lo_1 : lo < 2147483648) (hi_0 : -2147483648 ≤ hi) (hi_1 : hi < 2147483648) : mm_ev d 188 0 [some (.int (iI (x))), some (.int (iI (lo))), some (.int (iI (hi)))] [] m = some (some (some (.int (iI (bI (decide (lo ≤ x ∧ x ≤ hi)))))), m) := by
  rw [sg_188_0]
  by_cases z1 : x < lo
  · simp (disch := omega) only [↓reduceIte, not_false_eq_true, not_true_eq_false, and_self, and_true, true_and, false_and, and_false, or_true, true_or, or_false, false_or, or_self, reduceCtorEq, mm_q, Option.getD_some, cI_some, cJ_some, cV_some, cS_some, kd_sI, kd_sL, kd_sR, kd_cp, ln_sI, ln_sL, ln_sR, ln_cp, gR_sI, gR_sL, gR_sR, gR_cp, gL_sI, gL_sR, gL_cp, gI_sL, gI_sR, iI_add, iI_sub, iI_mul, iI_neg, iI_in, iI_tn, iI_lt, iI_eq, Nat.reduceLeDiff, Nat.reduceEqDiff, Nat.reduceAdd, Int.reduceEq, Int.reduceLT, Int.reduceLE, Int.reduceNeg, Int.reduceAdd, Int.reduceSub, Int.reduceMul, z1]
    rw [decide_eq_false (by omega)]
    rfl
  · by_cases z2 : hi < x
    · simp (disch := omega) only [↓reduceIte, not_false_eq_true, not_true_eq_false, and_self, and_true, true_and, false_and, and_false, or_true, true_or, or_false, false_or, or_self, reduceCtorEq, mm_q, Option.getD_some, cI_some, cJ_some, cV_some, cS_some, kd_sI, kd_sL, kd_sR, kd_cp, ln_sI, ln_sL, ln_sR, ln_cp, gR_sI, gR_sL, gR_sR, gR_cp, gL_sI, gL_sR, gL_cp, gI_sL, gI_sR, iI_add, iI_sub, iI_mul, iI_neg, iI_in, iI_tn, iI_lt, iI_eq, Nat.reduceLeDiff, Nat.reduceEqDiff, Nat.reduceAdd, Int.reduceEq, Int.reduceLT, Int.reduceLE, Int.reduceNeg, Int.reduceAdd, Int.reduceSub, Int.reduceMul, z1, z2]
      rw [decide_eq_false (by omega)]
      rfl
    · simp (disch := omega) only [↓reduceIte, not_false_eq_true, not_true_eq_false, and_self, and_true, true_and, false_and, and_false, or_true, true_or, or_false, false_or, or_self, reduceCtorEq, mm_q, Option.getD_some, cI_some, cJ_some, cV_some, cS_some, kd_sI, kd_sL, kd_sR, kd_cp, ln_sI, ln_sL, ln_sR, ln_cp, gR_sI, gR_sL, gR_sR, gR_cp, gL_sI, gL_sR, gL_cp, gI_sL, gI_sR, iI_add, iI_sub, iI_mul, iI_neg, iI_in, iI_tn, iI_lt, iI_eq, Nat.reduceLeDiff, Nat.reduceEqDiff, Nat.reduceAdd, Int.reduceEq, Int.reduceLT, Int.reduceLE, Int.reduceNeg, Int.reduceAdd, Int.reduceSub, Int.reduceMul, z1, z2]
      rw [decide_eq_true (by omega)]
      rfl
/-- toldHere -/
theorem M187 {Y : Nat → Int64} {W : Nat → Int32} {cnt : Int} {b : Bool} (hT : TS D n T N) (hE : EK E) (h : PF D E T N i f m) (hd : 3 ≤ d) (hc : mm_gI m 316 (if b = true then 19 else 18) = iI cnt) (c0 : 0 ≤ cnt) (c1 : cnt ≤ 14) (hN : NMm Y W cnt (if b = true then 326 else 325) (if b = true then 328 else 327) m) (hr : -1 ≤ fdGo Y W (tV T i) cnt.toNat 0 ∧ fdGo Y W (tV T i) cnt.toNat 0 ≤ 100) {a c : Int} (a0 : 0 ≤ a) (a1 : a ≤ 100) (b0 : 1 ≤ c) (b1 : c ≤ 100) : ∃ m', mm_ev d 187 0 [some (.ref 316), some (.int (iI (bI b))), some (.int (iI (a))), some (.int (iI (c))), none] [] m = some (some (some (.int (iI (thS T Y W cnt a c i f).1))), m') ∧ PF D E T N i (thS T Y W cnt a c i f).2 m' ∧ Fr scAt m m' := by
  obtain ⟨i0, i1⟩ := h.2.2.2.2.1
  have pr := (hT.k i0 i1).1
  have fr := h.2.2.2.2.2
  have e1 := M180 (d := d - 1) hT hE h (by omega)
  have fin : ∀ {m2 : mm_M} {g v : Int}, PF D E T N i g m2 → mm_ev d 187 63 [some (.ref 316), some (.int (iI (bI b))), some (.int (iI (a))), some (.int (iI (c))), some (.int (iI (v)))] [] m2 = some (some (some (.int (iI (if 0 < g then 0 else v)))), m2) := fun {m2 g v} h2 => by
    have := h2.2.2.2.2.2
    rw [sg_187_63]
    by_cases y : 0 < g
    · simp (disch := omega) only [shM h2.1.1, ↓reduceIte, not_false_eq_true, not_true_eq_false, and_self, and_true, true_and, false_and, and_false, or_true, true_or, or_false, false_or, or_self, reduceCtorEq, mm_q, Option.getD_some, cI_some, cJ_some, cV_some, cS_some, kd_sI, kd_sL, kd_sR, kd_cp, ln_sI, ln_sL, ln_sR, ln_cp, gR_sI, gR_sL, gR_sR, gR_cp, gL_sI, gL_sR, gL_cp, gI_sL, gI_sR, iI_add, iI_sub, iI_mul, iI_neg, iI_in, iI_tn, iI_lt, iI_eq, Nat.reduceLeDiff, Nat.reduceEqDiff, Nat.reduceAdd, Int.reduceEq, Int.reduceLT, Int.reduceLE, Int.reduceNeg, Int.reduceAdd, Int.reduceSub, Int.reduceMul, h2.2.2.2.1, y]
    · simp (disch := omega) only [shM h2.1.1, ↓reduceIte, not_false_eq_true, not_true_eq_false, and_self, and_true, true_and, false_and, and_false, or_true, true_or, or_false, false_or, or_self, reduceCtorEq, mm_q, Option.getD_some, cI_some, cJ_some, cV_some, cS_some, kd_sI, kd_sL, kd_sR, kd_cp, ln_sI, ln_sL, ln_sR, ln_cp, gR_sI, gR_sL, gR_sR, gR_cp, gL_sI, gL_sR, gL_cp, gI_sL, gI_sR, iI_add, iI_sub, iI_mul, iI_neg, iI_in, iI_tn, iI_lt, iI_eq, Nat.reduceLeDiff, Nat.reduceEqDiff, Nat.reduceAdd, Int.reduceEq, Int.reduceLT, Int.reduceLE, Int.reduceNeg, Int.reduceAdd, Int.reduceSub, Int.reduceMul, h2.2.2.2.1, y]
  have f19 : ∀ {m2 : mm_M} {g : Int}, PF D E T N i g m2 → 0 < g → mm_ev d 187 19 [some (.ref 316), some (.int (iI (bI b))), some (.int (iI (a))), some (.int (iI (c))), none] [] m2 = some (some (some (.int (iI 0))), m2) := fun {m2 g} h2 y => by
    have := h2.2.2.2.2.2
    have e := fin (v := -1) h2
    rw [if_pos y] at e
    rw [sg_187_19 (by omega)]
    simp (disch := omega) only [shM h2.1.1, ↓reduceIte, not_false_eq_true, not_true_eq_false, and_self, and_true, true_and, false_and, and_false, or_true, true_or, or_false, false_or, or_self, reduceCtorEq, mm_q, Option.getD_some, cI_some, cJ_some, cV_some, cS_some, kd_sI, kd_sL, kd_sR, kd_cp, ln_sI, ln_sL, ln_sR, ln_cp, gR_sI, gR_sL, gR_sR, gR_cp, gL_sI, gL_sR, gL_cp, gI_sL, gI_sR, iI_add, iI_sub, iI_mul, iI_neg, iI_in, iI_tn, iI_lt, iI_eq, Nat.reduceLeDiff, Nat.reduceEqDiff, Nat.reduceAdd, Int.reduceEq, Int.reduceLT, Int.reduceLE, Int.reduceNeg, Int.reduceAdd, Int.reduceSub, Int.reduceMul, h2.2.2.2.1, y]
    rw [sg_187_37 (by omega)]
    simp (disch := omega) only [shM h2.1.1, ↓reduceIte, not_false_eq_true, not_true_eq_false, and_self, and_true, true_and, false_and, and_false, or_true, true_or, or_false, false_or, or_self, reduceCtorEq, mm_q, Option.getD_some, cI_some, cJ_some, cV_some, cS_some, kd_sI, kd_sL, kd_sR, kd_cp, ln_sI, ln_sL, ln_sR, ln_cp, gR_sI, gR_sL, gR_sR, gR_cp, gL_sI, gL_sR, gL_cp, gI_sL, gI_sR, iI_add, iI_sub, iI_mul, iI_neg, iI_in, iI_tn, iI_lt, iI_eq, Nat.reduceLeDiff, Nat.reduceEqDiff, Nat.reduceAdd, Int.reduceEq, Int.reduceLT, Int.reduceLE, Int.reduceNeg, Int.reduceAdd, Int.reduceSub, Int.reduceMul, h2.2.2.2.1, show ¬ g = 0 by omega]
    exact e
  rw [sg_187_0 (by omega)]
  unfold thS
  by_cases z : f = 0
  · subst z
    rw [if_pos rfl]
    by_cases z2 : ty T i = 30
    · rw [decide_eq_true (by exact ⟨rfl, z2⟩)] at e1
      have iN := hT.lt i0 i1 (by omega)
      have e2 := M182 (d := d - 1) hT h iN hc c0 c1 hN
      rw [if_pos z2]
      generalize fdGo Y W (tV T i) cnt.toNat 0 = y at hr e2 ⊢
      have e3 := M188w (d := d - 1) (m := m) (x := y - a) (lo := 0) (hi := c - 1) (by omega) (by omega) (by omega) (by omega) (by omega) (by omega)
      by_cases z3 : a ≤ y ∧ y < a + c
      · rw [decide_eq_true (by omega)] at e3
        rw [if_pos z3]
        have e := fin (v := y - a) h
        refine ⟨m, ?_, h, Fr.rf⟩
        simp (disch := omega) only [shM h.1.1, ↓reduceIte, not_false_eq_true, not_true_eq_false, and_self, and_true, true_and, false_and, and_false, or_true, true_or, or_false, false_or, or_self, reduceCtorEq, mm_q, Option.getD_some, cI_some, cJ_some, cV_some, cS_some, kd_sI, kd_sL, kd_sR, kd_cp, ln_sI, ln_sL, ln_sR, ln_cp, gR_sI, gR_sL, gR_sR, gR_cp, gL_sI, gL_sR, gL_cp, gI_sL, gI_sR, iI_add, iI_sub, iI_mul, iI_neg, iI_in, iI_tn, iI_lt, iI_eq, Nat.reduceLeDiff, Nat.reduceEqDiff, Nat.reduceAdd, Int.reduceEq, Int.reduceLT, Int.reduceLE, Int.reduceNeg, Int.reduceAdd, Int.reduceSub, Int.reduceMul, bI_t, bI_f, decide_true, decide_false, Bool.and_true, Bool.and_false, Bool.true_and, Bool.false_and, Bool.false_eq_true, Bool.and_self, Bool.not_true, Bool.not_false, Bool.true_or, Bool.false_or, Bool.or_true, Bool.or_false, h.2.2.2.1, e1]
        rw [sg_187_11 (by omega)]
        simp (disch := omega) only [shM h.1.1, ↓reduceIte, not_false_eq_true, not_true_eq_false, and_self, and_true, true_and, false_and, and_false, or_true, true_or, or_false, false_or, or_self, reduceCtorEq, mm_q, Option.getD_some, cI_some, cJ_some, cV_some, cS_some, kd_sI, kd_sL, kd_sR, kd_cp, ln_sI, ln_sL, ln_sR, ln_cp, gR_sI, gR_sL, gR_sR, gR_cp, gL_sI, gL_sR, gL_cp, gI_sL, gI_sR, iI_add, iI_sub, iI_mul, iI_neg, iI_in, iI_tn, iI_lt, iI_eq, Nat.reduceLeDiff, Nat.reduceEqDiff, Nat.reduceAdd, Int.reduceEq, Int.reduceLT, Int.reduceLE, Int.reduceNeg, Int.reduceAdd, Int.reduceSub, Int.reduceMul, bI_t, bI_f, decide_true, decide_false, Bool.and_true, Bool.and_false, Bool.true_and, Bool.false_and, Bool.false_eq_true, Bool.and_self, Bool.not_true, Bool.not_false, Bool.true_or, Bool.false_or, Bool.or_true, Bool.or_false]
        rw [sg_187_19 (by omega)]
        simp (disch := omega) only [shM h.1.1, ↓reduceIte, not_false_eq_true, not_true_eq_false, and_self, and_true, true_and, false_and, and_false, or_true, true_or, or_false, false_or, or_self, reduceCtorEq, mm_q, Option.getD_some, cI_some, cJ_some, cV_some, cS_some, kd_sI, kd_sL, kd_sR, kd_cp, ln_sI, ln_sL, ln_sR, ln_cp, gR_sI, gR_sL, gR_sR, gR_cp, gL_sI, gL_sR, gL_cp, gI_sL, gI_sR, iI_add, iI_sub, iI_mul, iI_neg, iI_in, iI_tn, iI_lt, iI_eq, Nat.reduceLeDiff, Nat.reduceEqDiff, Nat.reduceAdd, Int.reduceEq, Int.reduceLT, Int.reduceLE, Int.reduceNeg, Int.reduceAdd, Int.reduceSub, Int.reduceMul, bI_t, bI_f, decide_true, decide_false, Bool.and_true, Bool.and_false, Bool.true_and, Bool.false_and, Bool.false_eq_true, Bool.and_self, Bool.not_true, Bool.not_false, Bool.true_or, Bool.false_or, Bool.or_true, Bool.or_false, h.2.2.2.1, e2]
        rw [sg_187_37 (by omega)]
        simp (disch := omega) only [shM h.1.1, ↓reduceIte, not_false_eq_true, not_true_eq_false, and_self, and_true, true_and, false_and, and_false, or_true, true_or, or_false, false_or, or_self, reduceCtorEq, mm_q, Option.getD_some, cI_some, cJ_some, cV_some, cS_some, kd_sI, kd_sL, kd_sR, kd_cp, ln_sI, ln_sL, ln_sR, ln_cp, gR_sI, gR_sL, gR_sR, gR_cp, gL_sI, gL_sR, gL_cp, gI_sL, gI_sR, iI_add, iI_sub, iI_mul, iI_neg, iI_in, iI_tn, iI_lt, iI_eq, Nat.reduceLeDiff, Nat.reduceEqDiff, Nat.reduceAdd, Int.reduceEq, Int.reduceLT, Int.reduceLE, Int.reduceNeg, Int.reduceAdd, Int.reduceSub, Int.reduceMul, bI_t, bI_f, decide_true, decide_false, Bool.and_true, Bool.and_false, Bool.true_and, Bool.false_and, Bool.false_eq_true, Bool.and_self, Bool.not_true, Bool.not_false, Bool.true_or, Bool.false_or, Bool.or_true, Bool.or_false, h.2.2.2.1, e3]
        rw [sg_187_55 (by omega)]
        simp (disch := omega) only [shM h.1.1, ↓reduceIte, not_false_eq_true, not_true_eq_false, and_self, and_true, true_and, false_and, and_false, or_true, true_or, or_false, false_or, or_self, reduceCtorEq, mm_q, Option.getD_some, cI_some, cJ_some, cV_some, cS_some, kd_sI, kd_sL, kd_sR, kd_cp, ln_sI, ln_sL, ln_sR, ln_cp, gR_sI, gR_sL, gR_sR, gR_cp, gL_sI, gL_sR, gL_cp, gI_sL, gI_sR, iI_add, iI_sub, iI_mul, iI_neg, iI_in, iI_tn, iI_lt, iI_eq, Nat.reduceLeDiff, Nat.reduceEqDiff, Nat.reduceAdd, Int.reduceEq, Int.reduceLT, Int.reduceLE, Int.reduceNeg, Int.reduceAdd, Int.reduceSub, Int.reduceMul, bI_t, bI_f, decide_true, decide_false, Bool.and_true, Bool.and_false, Bool.true_and, Bool.false_and, Bool.false_eq_true, Bool.and_self, Bool.not_true, Bool.not_false, Bool.true_or, Bool.false_or, Bool.or_true, Bool.or_false]
        exact e
      · rw [decide_eq_false (by omega)] at e3
        rw [if_neg z3]
        obtain ⟨m2, e4, h2, f2⟩ := M172 (d := d - 1) hT h (k := 2) (by omega) (by omega)
        rw [if_pos rfl] at h2
        have e := fin (v := y - a) h2
        rw [if_pos (by omega)] at e
        refine ⟨m2, ?_, h2, f2⟩
        simp (disch := omega) only [shM h.1.1, ↓reduceIte, not_false_eq_true, not_true_eq_false, and_self, and_true, true_and, false_and, and_false, or_true, true_or, or_false, false_or, or_self, reduceCtorEq, mm_q, Option.getD_some, cI_some, cJ_some, cV_some, cS_some, kd_sI, kd_sL, kd_sR, kd_cp, ln_sI, ln_sL, ln_sR, ln_cp, gR_sI, gR_sL, gR_sR, gR_cp, gL_sI, gL_sR, gL_cp, gI_sL, gI_sR, iI_add, iI_sub, iI_mul, iI_neg, iI_in, iI_tn, iI_lt, iI_eq, Nat.reduceLeDiff, Nat.reduceEqDiff, Nat.reduceAdd, Int.reduceEq, Int.reduceLT, Int.reduceLE, Int.reduceNeg, Int.reduceAdd, Int.reduceSub, Int.reduceMul, bI_t, bI_f, decide_true, decide_false, Bool.and_true, Bool.and_false, Bool.true_and, Bool.false_and, Bool.false_eq_true, Bool.and_self, Bool.not_true, Bool.not_false, Bool.true_or, Bool.false_or, Bool.or_true, Bool.or_false, h.2.2.2.1, e1]
        rw [sg_187_11 (by omega)]
        simp (disch := omega) only [shM h.1.1, ↓reduceIte, not_false_eq_true, not_true_eq_false, and_self, and_true, true_and, false_and, and_false, or_true, true_or, or_false, false_or, or_self, reduceCtorEq, mm_q, Option.getD_some, cI_some, cJ_some, cV_some, cS_some, kd_sI, kd_sL, kd_sR, kd_cp, ln_sI, ln_sL, ln_sR, ln_cp, gR_sI, gR_sL, gR_sR, gR_cp, gL_sI, gL_sR, gL_cp, gI_sL, gI_sR, iI_add, iI_sub, iI_mul, iI_neg, iI_in, iI_tn, iI_lt, iI_eq, Nat.reduceLeDiff, Nat.reduceEqDiff, Nat.reduceAdd, Int.reduceEq, Int.reduceLT, Int.reduceLE, Int.reduceNeg, Int.reduceAdd, Int.reduceSub, Int.reduceMul, bI_t, bI_f, decide_true, decide_false, Bool.and_true, Bool.and_false, Bool.true_and, Bool.false_and, Bool.false_eq_true, Bool.and_self, Bool.not_true, Bool.not_false, Bool.true_or, Bool.false_or, Bool.or_true, Bool.or_false]
        rw [sg_187_19 (by omega)]
        simp (disch := omega) only [shM h.1.1, ↓reduceIte, not_false_eq_true, not_true_eq_false, and_self, and_true, true_and, false_and, and_false, or_true, true_or, or_false, false_or, or_self, reduceCtorEq, mm_q, Option.getD_some, cI_some, cJ_some, cV_some, cS_some, kd_sI, kd_sL, kd_sR, kd_cp, ln_sI, ln_sL, ln_sR, ln_cp, gR_sI, gR_sL, gR_sR, gR_cp, gL_sI, gL_sR, gL_cp, gI_sL, gI_sR, iI_add, iI_sub, iI_mul, iI_neg, iI_in, iI_tn, iI_lt, iI_eq, Nat.reduceLeDiff, Nat.reduceEqDiff, Nat.reduceAdd, Int.reduceEq, Int.reduceLT, Int.reduceLE, Int.reduceNeg, Int.reduceAdd, Int.reduceSub, Int.reduceMul, bI_t, bI_f, decide_true, decide_false, Bool.and_true, Bool.and_false, Bool.true_and, Bool.false_and, Bool.false_eq_true, Bool.and_self, Bool.not_true, Bool.not_false, Bool.true_or, Bool.false_or, Bool.or_true, Bool.or_false, h.2.2.2.1, e2]
        rw [sg_187_37 (by omega)]
        simp (disch := omega) only [shM h.1.1, ↓reduceIte, not_false_eq_true, not_true_eq_false, and_self, and_true, true_and, false_and, and_false, or_true, true_or, or_false, false_or, or_self, reduceCtorEq, mm_q, Option.getD_some, cI_some, cJ_some, cV_some, cS_some, kd_sI, kd_sL, kd_sR, kd_cp, ln_sI, ln_sL, ln_sR, ln_cp, gR_sI, gR_sL, gR_sR, gR_cp, gL_sI, gL_sR, gL_cp, gI_sL, gI_sR, iI_add, iI_sub, iI_mul, iI_neg, iI_in, iI_tn, iI_lt, iI_eq, Nat.reduceLeDiff, Nat.reduceEqDiff, Nat.reduceAdd, Int.reduceEq, Int.reduceLT, Int.reduceLE, Int.reduceNeg, Int.reduceAdd, Int.reduceSub, Int.reduceMul, bI_t, bI_f, decide_true, decide_false, Bool.and_true, Bool.and_false, Bool.true_and, Bool.false_and, Bool.false_eq_true, Bool.and_self, Bool.not_true, Bool.not_false, Bool.true_or, Bool.false_or, Bool.or_true, Bool.or_false, h.2.2.2.1, e3]
        rw [sg_187_55 (by omega)]
        simp (disch := omega) only [shM h.1.1, ↓reduceIte, not_false_eq_true, not_true_eq_false, and_self, and_true, true_and, false_and, and_false, or_true, true_or, or_false, false_or, or_self, reduceCtorEq, mm_q, Option.getD_some, cI_some, cJ_some, cV_some, cS_some, kd_sI, kd_sL, kd_sR, kd_cp, ln_sI, ln_sL, ln_sR, ln_cp, gR_sI, gR_sL, gR_sR, gR_cp, gL_sI, gL_sR, gL_cp, gI_sL, gI_sR, iI_add, iI_sub, iI_mul, iI_neg, iI_in, iI_tn, iI_lt, iI_eq, Nat.reduceLeDiff, Nat.reduceEqDiff, Nat.reduceAdd, Int.reduceEq, Int.reduceLT, Int.reduceLE, Int.reduceNeg, Int.reduceAdd, Int.reduceSub, Int.reduceMul, bI_t, bI_f, decide_true, decide_false, Bool.and_true, Bool.and_false, Bool.true_and, Bool.false_and, Bool.false_eq_true, Bool.and_self, Bool.not_true, Bool.not_false, Bool.true_or, Bool.false_or, Bool.or_true, Bool.or_false, e4]
        exact e
    · rw [decide_eq_false (by exact fun q => z2 q.2)] at e1
      rw [if_neg z2]
      obtain ⟨m2, e4, h2, f2⟩ := M172 (d := d - 1) hT h (k := 1) (by omega) (by omega)
      rw [if_pos rfl] at h2
      refine ⟨m2, ?_, h2, f2⟩
      simp (disch := omega) only [shM h.1.1, ↓reduceIte, not_false_eq_true, not_true_eq_false, and_self, and_true, true_and, false_and, and_false, or_true, true_or, or_false, false_or, or_self, reduceCtorEq, mm_q, Option.getD_some, cI_some, cJ_some, cV_some, cS_some, kd_sI, kd_sL, kd_sR, kd_cp, ln_sI, ln_sL, ln_sR, ln_cp, gR_sI, gR_sL, gR_sR, gR_cp, gL_sI, gL_sR, gL_cp, gI_sL, gI_sR, iI_add, iI_sub, iI_mul, iI_neg, iI_in, iI_tn, iI_lt, iI_eq, Nat.reduceLeDiff, Nat.reduceEqDiff, Nat.reduceAdd, Int.reduceEq, Int.reduceLT, Int.reduceLE, Int.reduceNeg, Int.reduceAdd, Int.reduceSub, Int.reduceMul, bI_t, bI_f, decide_true, decide_false, Bool.and_true, Bool.and_false, Bool.true_and, Bool.false_and, Bool.false_eq_true, Bool.and_self, Bool.not_true, Bool.not_false, Bool.true_or, Bool.false_or, Bool.or_true, Bool.or_false, h.2.2.2.1, e1]
      rw [sg_187_11 (by omega)]
      simp (disch := omega) only [shM h.1.1, ↓reduceIte, not_false_eq_true, not_true_eq_false, and_self, and_true, true_and, false_and, and_false, or_true, true_or, or_false, false_or, or_self, reduceCtorEq, mm_q, Option.getD_some, cI_some, cJ_some, cV_some, cS_some, kd_sI, kd_sL, kd_sR, kd_cp, ln_sI, ln_sL, ln_sR, ln_cp, gR_sI, gR_sL, gR_sR, gR_cp, gL_sI, gL_sR, gL_cp, gI_sL, gI_sR, iI_add, iI_sub, iI_mul, iI_neg, iI_in, iI_tn, iI_lt, iI_eq, Nat.reduceLeDiff, Nat.reduceEqDiff, Nat.reduceAdd, Int.reduceEq, Int.reduceLT, Int.reduceLE, Int.reduceNeg, Int.reduceAdd, Int.reduceSub, Int.reduceMul, bI_t, bI_f, decide_true, decide_false, Bool.and_true, Bool.and_false, Bool.true_and, Bool.false_and, Bool.false_eq_true, Bool.and_self, Bool.not_true, Bool.not_false, Bool.true_or, Bool.false_or, Bool.or_true, Bool.or_false, e4]
      exact f19 h2 (by omega)
  · rw [if_neg z]
    refine ⟨m, ?_, h, Fr.rf⟩
    simp (disch := omega) only [shM h.1.1, ↓reduceIte, not_false_eq_true, not_true_eq_false, and_self, and_true, true_and, false_and, and_false, or_true, true_or, or_false, false_or, or_self, reduceCtorEq, mm_q, Option.getD_some, cI_some, cJ_some, cV_some, cS_some, kd_sI, kd_sL, kd_sR, kd_cp, ln_sI, ln_sL, ln_sR, ln_cp, gR_sI, gR_sL, gR_sR, gR_cp, gL_sI, gL_sR, gL_cp, gI_sL, gI_sR, iI_add, iI_sub, iI_mul, iI_neg, iI_in, iI_tn, iI_lt, iI_eq, Nat.reduceLeDiff, Nat.reduceEqDiff, Nat.reduceAdd, Int.reduceEq, Int.reduceLT, Int.reduceLE, Int.reduceNeg, Int.reduceAdd, Int.reduceSub, Int.reduceMul, bI_t, bI_f, decide_true, decide_false, Bool.and_true, Bool.and_false, Bool.true_and, Bool.false_and, Bool.false_eq_true, Bool.and_self, Bool.not_true, Bool.not_false, Bool.true_or, Bool.false_or, Bool.or_true, Bool.or_false, h.2.2.2.1, z]
    exact f19 h (by omega)
/-- takeTold -/
theorem M186 {Y : Nat → Int64} {W : Nat → Int32} {cnt : Int} {b : Bool} (hT : TS D n T N) (hE : EK E) (h : PF D E T N i f m) (hd : 4 ≤ d) (hc : mm_gI m 316 (if b = true then 19 else 18) = iI cnt) (c0 : 0 ≤ cnt) (c1 : cnt ≤ 14) (hN : NMm Y W cnt (if b = true then 326 else 325) (if b = true then 328 else 327) m) (hr : -1 ≤ fdGo Y W (tV T i) cnt.toNat 0 ∧ fdGo Y W (tV T i) cnt.toNat 0 ≤ 100) {a c : Int} (a0 : 0 ≤ a) (a1 : a ≤ 100) (b0 : 1 ≤ c) (b1 : c ≤ 100) : ∃ m', mm_ev d 186 0 [some (.ref 316), some (.int (iI (bI b))), some (.int (iI (a))), some (.int (iI (c))), none] [] m = some (some (some (.int (iI (thS T Y W cnt a c i f).1))), m') ∧ PF D E T N (if 0 < (thS T Y W cnt a c i f).2 then i else i + 1) (thS T Y W cnt a c i f).2 m' ∧ Fr scAt m m' := by
  obtain ⟨i0, i1⟩ := h.2.2.2.2.1
  have pr := (hT.k i0 i1).1
  have fr := h.2.2.2.2.2
  obtain ⟨m1, e1, h1, f1⟩ := M187 (d := d - 1) hT hE h (by omega) hc c0 c1 hN hr a0 a1 b0 b1
  have hi : ¬ 0 < (thS T Y W cnt a c i f).2 → i < N := by
    intro y
    unfold thS at y
    by_cases z : f = 0
    · rw [if_pos z] at y
      by_cases z2 : ty T i = 30
      · exact hT.lt i0 i1 (by omega)
      · rw [if_neg z2] at y
        exfalso
        dsimp only at y
        omega
    · rw [if_neg z] at y
      exfalso
      dsimp only at y
      omega
  generalize thS T Y W cnt a c i f = p at e1 h1 hi ⊢
  have g9 := h1.2.2.2.2.2
  rw [sg_186_0 (by omega)]
  by_cases y : 0 < p.2
  · refine ⟨mm_sI m1 316 7 (iI i), ?_, by rw [if_pos y]; exact h1.at i0 i1, f1.tr Fr.at7⟩
    simp (disch := omega) only [shM h.1.1, shM h1.1.1, ↓reduceIte, not_false_eq_true, not_true_eq_false, and_self, and_true, true_and, false_and, and_false, or_true, true_or, or_false, false_or, or_self, reduceCtorEq, mm_q, Option.getD_some, cI_some, cJ_some, cV_some, cS_some, kd_sI, kd_sL, kd_sR, kd_cp, ln_sI, ln_sL, ln_sR, ln_cp, gR_sI, gR_sL, gR_sR, gR_cp, gL_sI, gL_sR, gL_cp, gI_sL, gI_sR, iI_add, iI_sub, iI_mul, iI_neg, iI_in, iI_tn, iI_lt, iI_eq, Nat.reduceLeDiff, Nat.reduceEqDiff, Nat.reduceAdd, Int.reduceEq, Int.reduceLT, Int.reduceLE, Int.reduceNeg, Int.reduceAdd, Int.reduceSub, Int.reduceMul, e1, h1.2.2.2.1, h1.2.2.1, y]
    rw [sg_186_26]
    simp (disch := omega) only [shM h1.1.1, ↓reduceIte, not_false_eq_true, not_true_eq_false, and_self, and_true, true_and, false_and, and_false, or_true, true_or, or_false, false_or, or_self, reduceCtorEq, mm_q, Option.getD_some, cI_some, cJ_some, cV_some, cS_some, kd_sI, kd_sL, kd_sR, kd_cp, ln_sI, ln_sL, ln_sR, ln_cp, gR_sI, gR_sL, gR_sR, gR_cp, gL_sI, gL_sR, gL_cp, gI_sL, gI_sR, iI_add, iI_sub, iI_mul, iI_neg, iI_in, iI_tn, iI_lt, iI_eq, Nat.reduceLeDiff, Nat.reduceEqDiff, Nat.reduceAdd, Int.reduceEq, Int.reduceLT, Int.reduceLE, Int.reduceNeg, Int.reduceAdd, Int.reduceSub, Int.reduceMul, Int.add_zero]
  · refine ⟨mm_sI m1 316 7 (iI (i + 1)), ?_, by rw [if_neg y]; exact h1.at (by omega) (by have := hi y; omega), f1.tr Fr.at7⟩
    simp (disch := omega) only [shM h.1.1, shM h1.1.1, ↓reduceIte, not_false_eq_true, not_true_eq_false, and_self, and_true, true_and, false_and, and_false, or_true, true_or, or_false, false_or, or_self, reduceCtorEq, mm_q, Option.getD_some, cI_some, cJ_some, cV_some, cS_some, kd_sI, kd_sL, kd_sR, kd_cp, ln_sI, ln_sL, ln_sR, ln_cp, gR_sI, gR_sL, gR_sR, gR_cp, gL_sI, gL_sR, gL_cp, gI_sL, gI_sR, iI_add, iI_sub, iI_mul, iI_neg, iI_in, iI_tn, iI_lt, iI_eq, Nat.reduceLeDiff, Nat.reduceEqDiff, Nat.reduceAdd, Int.reduceEq, Int.reduceLT, Int.reduceLE, Int.reduceNeg, Int.reduceAdd, Int.reduceSub, Int.reduceMul, e1, h1.2.2.2.1, h1.2.2.1, y]
    rw [sg_186_26]
    simp (disch := omega) only [shM h1.1.1, ↓reduceIte, not_false_eq_true, not_true_eq_false, and_self, and_true, true_and, false_and, and_false, or_true, true_or, or_false, false_or, or_self, reduceCtorEq, mm_q, Option.getD_some, cI_some, cJ_some, cV_some, cS_some, kd_sI, kd_sL, kd_sR, kd_cp, ln_sI, ln_sL, ln_sR, ln_cp, gR_sI, gR_sL, gR_sR, gR_cp, gL_sI, gL_sR, gL_cp, gI_sL, gI_sR, iI_add, iI_sub, iI_mul, iI_neg, iI_in, iI_tn, iI_lt, iI_eq, Nat.reduceLeDiff, Nat.reduceEqDiff, Nat.reduceAdd, Int.reduceEq, Int.reduceLT, Int.reduceLE, Int.reduceNeg, Int.reduceAdd, Int.reduceSub, Int.reduceMul]
end
