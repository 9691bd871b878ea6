def diS (D : Nat → Nat → Int32) (i k : Int) : Int := if sa D (47 + 3 * i + 2) = 1 then sa D (47 + 3 * k + 1) - sa D (47 + 3 * i + 1) else sa D (47 + 3 * i + 1) - sa D (47 + 3 * k + 1)
def tiS (D : Nat → Nat → Int32) (i k : Int) : Int := sa D (47 + 3 * k) - sa D (47 + 3 * i)
def canF (D : Nat → Nat → Int32) (i k : Int) : Bool := decide (0 < tiS D i k) && (decide (sa D (47 + 3 * i + 2) = sa D (47 + 3 * k + 2)) && ((decide (1 ≤ diS D i k) && inB (tiS D i k) (diS D i k) (9 * diS D i k)) || inB (tiS D i k - st D 8) (diS D i k + st D 0) (9 * (diS D i k + st D 0))))
def edgeS (D : Nat → Nat → Int32) (nxt : Int → Int) (i k : Int) : Bool := if nxt i = -2 then canF D i k else decide (nxt i = k)
def updA (A : Int → Bool) (k : Int) (v : Bool) : Int → Bool := fun j => if j = k then v else A j
def fndL (rec : Int → (Int → Int) × (Int → Bool) → Bool × (Int → Int) × (Int → Bool)) (ed : Int → Int → Bool) (one : Int) : Nat → Int → (Int → Int) × (Int → Bool) → Bool × (Int → Int) × (Int → Bool)
  | 0, _, s => (false, s)
  | r + 1, k, s => if s.2 k = true then fndL rec ed one r (k + 1) s else if ed one k = true then (if s.1 k < 0 then (true, updB s.1 k one, updA s.2 k true) else if (rec (s.1 k) (s.1, updA s.2 k true)).1 = true then (true, updB (rec (s.1 k) (s.1, updA s.2 k true)).2.1 k one, (rec (s.1 k) (s.1, updA s.2 k true)).2.2) else fndL rec ed one r (k + 1) (rec (s.1 k) (s.1, updA s.2 k true)).2) else fndL rec ed one r (k + 1) s
def fnd (ed : Int → Int → Bool) (n : Int) : Nat → Int → (Int → Int) × (Int → Bool) → Bool × (Int → Int) × (Int → Bool)
  | 0, _, s => (false, s)
  | f + 1, one, s => fndL (fnd ed n f) ed one n.toNat 0 s
def unA (n : Nat) (A : Int → Bool) : Int := cntGo (fun k => !A k) n 0 0
def matGo (ed : Int → Int → Bool) (n : Int) : Nat → Int → Int × (Int → Int) → Int × (Int → Int)
  | 0, _, s => s
  | r + 1, k, s => matGo ed n r (k + 1) (s.1 + bI (fnd ed n 11 k (s.2, fun _ => false)).1, (fnd ed n 11 k (s.2, fun _ => false)).2.1)
def matN (ed : Int → Int → Bool) (n : Int) : Int := (matGo ed n n.toNat 0 (0, fun _ => -1)).1
def layE (D : Nat → Nat → Int32) (n most k : Int) : Nat → Int → Bool × (Int → Int) → Bool × (Int → Int)
  | 0, _, s => s
  | r + 1, e, s => if s.1 = true then s else if (canF D k e && !anyB (fun j => decide (s.2 j = e)) k.toNat 0) = true then layE D n most k r (e + 1) (decide (matN (edgeS D (updB s.2 k e)) n = most), updB s.2 k e) else layE D n most k r (e + 1) s
def layK (D : Nat → Nat → Int32) (n most : Int) : Nat → Int → (Int → Int) → Int → Int
  | 0, _, nxt => nxt
  | r + 1, k, nxt => layK D n most r (k + 1) (updB (layE D n most k n.toNat 0 (false, nxt)).2 k (if (layE D n most k n.toNat 0 (false, nxt)).1 = true then (layE D n most k n.toNat 0 (false, nxt)).2 k else -1))
def hiredS (D : Nat → Nat → Int32) (what : Int) : Int := if inB what (-1) (sa D 46 - 1) = true then (if what < 0 then sa D 46 - matN (edgeS D (fun _ => -2)) (sa D 46) else layK D (sa D 46) (matN (edgeS D (fun _ => -2)) (sa D 46)) (sa D 46).toNat 0 (fun _ => -2) what) else -2
def InvP (D : Nat → Nat → Int32) : Prop := (0 ≤ sa D 46 ∧ sa D 46 ≤ 10) ∧ ∀ k, 0 ≤ k → k < sa D 46 → (0 ≤ sa D (47 + 3 * k) ∧ sa D (47 + 3 * k) ≤ 600) ∧ (0 ≤ sa D (47 + 3 * k + 1) ∧ sa D (47 + 3 * k + 1) < st D 0) ∧ (0 ≤ sa D (47 + 3 * k + 2) ∧ sa D (47 + 3 * k + 2) ≤ 1)
/-- before, asked, nextOf -/
def HS (m : mm_M) (bf : Int → Int) (ak : Int → Bool) (nxt : Int → Int) : Prop := ∀ k, 0 ≤ k → k < 10 → mm_gI m 340 k.toNat = iI (bf k) ∧ mm_gI m 341 k.toNat = iI (bI (ak k)) ∧ mm_gI m 342 k.toNat = iI (nxt k)
def scH (a _k : Nat) : Bool := Nat.ble 340 a && Nat.ble a 341
section
theorem cntGo_a (f : Int → Bool) : ∀ (k : Nat) (q n : Int), cntGo f k q n = n + cntGo f k q 0
  | 0, _, n => by unfold cntGo; omega
  | k + 1, q, n => by
    unfold cntGo
    rw [cntGo_a f k (q + 1) (if f q = true then n + 1 else n), cntGo_a f k (q + 1) (if f q = true then 0 + 1 else 0)]
    split <;> omega
theorem cntGo_m (f g : Int → Bool) : ∀ (k : Nat) (q : Int), (∀ i, q ≤ i → i < q + k → f i = true → g i = true) → cntGo f k q 0 ≤ cntGo g k q 0
  | 0, _, _ => by unfold cntGo; omega
  | k + 1, q, h => by
    unfold cntGo
    rw [cntGo_a f, cntGo_a g]
    have h1 := cntGo_m f g k (q + 1) (fun i i0 i1 => h i (by omega) (by omega))
    have h2 := h q (by omega) (by omega)
    cases e1 : f q
    · simp
      split <;> omega
    · rw [h2 e1]
      simp
      omega
theorem cntGo_s (f g : Int → Bool) (x : Int) : ∀ (k : Nat) (q : Int), q ≤ x → x < q + k → f x = false → g x = true → (∀ i, ¬ i = x → f i = g i) → cntGo f k q 0 + 1 = cntGo g k q 0
  | 0, _, _, _, _, _, _ => by omega
  | k + 1, q, h0, h1, h2, h3, h4 => by
    unfold cntGo
    rw [cntGo_a f, cntGo_a g]
    by_cases z : q = x
    · have e := cntGo_m f g k (q + 1) (fun i i0 i1 => by rw [h4 i (by omega)]; exact id)
      have e' := cntGo_m g f k (q + 1) (fun i i0 i1 => by rw [h4 i (by omega)]; exact id)
      rw [z, h2, h3]
      rw [z] at e e'
      simp
      omega
    · have e := cntGo_s f g x k (q + 1) (by omega) (by omega) h2 h3 h4
      rw [h4 q z]
      omega
theorem unA_u {n : Nat} {A : Int → Bool} {k : Int} (k0 : 0 ≤ k) (k1 : k < n) (h : A k = false) : unA n (updA A k true) + 1 = unA n A := by
  unfold unA
  refine cntGo_s _ _ k n 0 k0 (by omega) ?_ ?_ ?_
  · unfold updA; simp
  · simp [h]
  · intro i hi
    unfold updA
    rw [if_neg hi]
theorem unA_m {n : Nat} {A C : Int → Bool} (h : ∀ i, A i = true → C i = true) : unA n C ≤ unA n A := by
  unfold unA
  refine cntGo_m _ _ n 0 (fun i _ _ z => ?_)
  cases e : A i
  · rfl
  · rw [h i e] at z
    exact absurd z (by decide)
theorem unA_p {n : Nat} {A : Int → Bool} {k : Int} (k0 : 0 ≤ k) (k1 : k < n) (h : A k = false) : 0 < unA n A := by
  have := unA_u k0 k1 h
  have := (cntGo_r (fun j => !(updA A k true) j) n 0 0).1
  unfold unA at *
  omega
theorem unA_n {n : Nat} {A : Int → Bool} : 0 ≤ unA n A ∧ unA n A ≤ n := by
  have := cntGo_r (fun j => !A j) n 0 0
  unfold unA
  omega
/-- asked stays asked -/
theorem fndL_a {rec : Int → (Int → Int) × (Int → Bool) → Bool × (Int → Int) × (Int → Bool)} {ed : Int → Int → Bool} {one : Int} (hr : ∀ o s i, s.2 i = true → (rec o s).2.2 i = true) : ∀ (r : Nat) (k : Int) (s : (Int → Int) × (Int → Bool)) (i : Int), s.2 i = true → (fndL rec ed one r k s).2.2 i = true
  | 0, _, _, _, h => h
  | r + 1, k, s, i, h => by
    have ha : updA s.2 k true i = true := by
      unfold updA
      split
      · rfl
      · exact h
    unfold fndL
    split
    · exact fndL_a hr r _ _ i h
    · split
      · split
        · exact ha
        · split
          · exact hr _ _ i ha
          · exact fndL_a hr r _ _ i (hr _ _ i ha)
      · exact fndL_a hr r _ _ i h
theorem fnd_a {ed : Int → Int → Bool} {n : Int} : ∀ (f : Nat) (o : Int) (s : (Int → Int) × (Int → Bool)) (i : Int), s.2 i = true → (fnd ed n f o s).2.2 i = true
  | 0, _, _, _, h => h
  | f + 1, _, _, i, h => fndL_a (fun o s i h => fnd_a f o s i h) _ _ _ i h
end
section
variable {D : Nat → Nat → Int32} {E : Nat → Nat → Int64} {m m' m'' : mm_M} {d : Nat} {bf nxt : Int → Int} {ak : Int → Bool}
theorem scH_M {a k : Nat} (h : scM a k = false) : scH a k = false := by
  cases e : scH a k
  · rfl
  · unfold scH at e
    rw [Bool.and_eq_true, Nat.ble_eq, Nat.ble_eq] at e
    have : a = 340 ∨ a = 341 := by omega
    rcases this with rfl | rfl <;> exact absurd h (by simp [scM, pmI, pmL])
theorem Fr.HM (h : Fr scH m m') : Fr scM m m' := h.mono (fun _ _ => scH_M)
/-- canFollow -/
theorem M270 (h : MD D E m) (hI : InvS D) (hP : InvP D) (hd : 1 ≤ d) {i k : Int} (i0 : 0 ≤ i) (i1 : i < sa D 46) (k0 : 0 ≤ k) (k1 : k < sa D 46) : mm_ev d 270 0 [some (.ref 316), some (.int (iI (i))), some (.int (iI (k))), none, none, none, none, none, none, none] [] m = some (some (some (.int (iI (bI (canF D i k))))), m) := by
  obtain ⟨⟨n0, n1⟩, hp⟩ := hP
  obtain ⟨⟨a0, a1⟩, ⟨b0, b1⟩, ⟨c0, c1⟩⟩ := hp i i0 i1
  obtain ⟨⟨d0, d1⟩, ⟨e0, e1⟩, ⟨f0, f1⟩⟩ := hp k k0 k1
  obtain ⟨q0, q1⟩ := hI.1
  obtain ⟨r0, r1⟩ := hI.2.2.2.2.2.2.2.1
  have key : ∀ di : Int, di = diS D i k → -100 < di → di < 100 → mm_ev d 270 82 [some (.ref 316), some (.int (iI (i))), some (.int (iI (k))), some (.int (iI (47 + 3 * i))), some (.int (iI (47 + 3 * k))), some (.int (iI (tiS D i k))), none, none, none, none] [.int (iI di)] m = some (some (some (.int (iI (bI (canF D i k))))), m) := by
    intro di hdi x0 x1
    have ti0 : -601 < tiS D i k ∧ tiS D i k < 601 := by unfold tiS; omega
    have e110 : ∀ y : Bool, mm_ev d 270 110 [some (.ref 316), some (.int (iI (i))), some (.int (iI (k))), some (.int (iI (47 + 3 * i))), some (.int (iI (47 + 3 * k))), some (.int (iI (tiS D i k))), some (.int (iI (di))), none, none, none] [.int (iI (bI y))] m = some (some (some (.int (iI (bI (decide (0 < tiS D i k) && (decide (sa D (47 + 3 * i + 2) = sa D (47 + 3 * k + 2)) && (y || inB (tiS D i k - st D 8) (di + st D 0) (9 * (di + st D 0))))))))), m) := by
      intro y
      rw [sg_270_110 (by omega)]
      simp (disch := omega) only [shM h.1, ↓reduceIte, not_false_eq_true, not_true_eq_false, and_self, and_true, true_and, reduceCtorEq, mm_q, Option.getD_some, cI_some, cJ_some, cV_some, cS_some, Nat.reduceLeDiff, Nat.reduceEqDiff, M208 h]
      rw [sg_270_118 (by omega)]
      simp (disch := omega) only [shM h.1, ↓reduceIte, not_false_eq_true, not_true_eq_false, and_self, and_true, true_and, false_and, and_false, or_true, true_or, or_false, false_or, or_self, reduceCtorEq, mm_q, Option.getD_some, cI_some, cJ_some, cV_some, cS_some, kd_sI, kd_sL, kd_sR, kd_cp, ln_sI, ln_sL, ln_sR, ln_cp, gR_sI, gR_sL, gR_sR, gR_cp, gL_sI, gL_sR, gL_cp, gI_sL, gI_sR, iI_add, iI_sub, iI_mul, iI_neg, iI_in, iI_tn, iI_lt, iI_eq, Nat.reduceLeDiff, Nat.reduceEqDiff, Nat.reduceAdd, Int.reduceEq, Int.reduceLT, Int.reduceLE, Int.reduceNeg, Int.reduceAdd, Int.reduceSub, Int.reduceMul, MD_st h, M188']
      rw [sg_270_141]
      by_cases z1 : 0 < tiS D i k
      · by_cases z2 : sa D (47 + 3 * i + 2) = sa D (47 + 3 * k + 2)
        · cases y
          · cases z3 : inB (tiS D i k - st D 8) (di + st D 0) (9 * (di + st D 0))
            · simp (disch := omega) only [shM h.1, ↓reduceIte, not_false_eq_true, not_true_eq_false, and_self, and_true, true_and, false_and, and_false, or_true, true_or, or_false, false_or, or_self, reduceCtorEq, mm_q, Option.getD_some, cI_some, cJ_some, cV_some, cS_some, kd_sI, kd_sL, kd_sR, kd_cp, ln_sI, ln_sL, ln_sR, ln_cp, gR_sI, gR_sL, gR_sR, gR_cp, gL_sI, gL_sR, gL_cp, gI_sL, gI_sR, iI_add, iI_sub, iI_mul, iI_neg, iI_in, iI_tn, iI_lt, iI_eq, Nat.reduceLeDiff, Nat.reduceEqDiff, Nat.reduceAdd, Int.reduceEq, Int.reduceLT, Int.reduceLE, Int.reduceNeg, Int.reduceAdd, Int.reduceSub, Int.reduceMul, bI_t, bI_f, decide_true, decide_false, Bool.and_true, Bool.and_false, Bool.true_and, Bool.false_and, Bool.false_eq_true, Bool.and_self, Bool.not_true, Bool.not_false, Bool.true_or, Bool.false_or, Bool.or_true, Bool.or_false, MD_sa h, z1, z2, Bool.false_or]
            · simp (disch := omega) only [shM h.1, ↓reduceIte, not_false_eq_true, not_true_eq_false, and_self, and_true, true_and, false_and, and_false, or_true, true_or, or_false, false_or, or_self, reduceCtorEq, mm_q, Option.getD_some, cI_some, cJ_some, cV_some, cS_some, kd_sI, kd_sL, kd_sR, kd_cp, ln_sI, ln_sL, ln_sR, ln_cp, gR_sI, gR_sL, gR_sR, gR_cp, gL_sI, gL_sR, gL_cp, gI_sL, gI_sR, iI_add, iI_sub, iI_mul, iI_neg, iI_in, iI_tn, iI_lt, iI_eq, Nat.reduceLeDiff, Nat.reduceEqDiff, Nat.reduceAdd, Int.reduceEq, Int.reduceLT, Int.reduceLE, Int.reduceNeg, Int.reduceAdd, Int.reduceSub, Int.reduceMul, bI_t, bI_f, decide_true, decide_false, Bool.and_true, Bool.and_false, Bool.true_and, Bool.false_and, Bool.false_eq_true, Bool.and_self, Bool.not_true, Bool.not_false, Bool.true_or, Bool.false_or, Bool.or_true, Bool.or_false, MD_sa h, z1, z2, Bool.false_or]
          · simp (disch := omega) only [shM h.1, ↓reduceIte, not_false_eq_true, not_true_eq_false, and_self, and_true, true_and, false_and, and_false, or_true, true_or, or_false, false_or, or_self, reduceCtorEq, mm_q, Option.getD_some, cI_some, cJ_some, cV_some, cS_some, kd_sI, kd_sL, kd_sR, kd_cp, ln_sI, ln_sL, ln_sR, ln_cp, gR_sI, gR_sL, gR_sR, gR_cp, gL_sI, gL_sR, gL_cp, gI_sL, gI_sR, iI_add, iI_sub, iI_mul, iI_neg, iI_in, iI_tn, iI_lt, iI_eq, Nat.reduceLeDiff, Nat.reduceEqDiff, Nat.reduceAdd, Int.reduceEq, Int.reduceLT, Int.reduceLE, Int.reduceNeg, Int.reduceAdd, Int.reduceSub, Int.reduceMul, bI_t, bI_f, decide_true, decide_false, Bool.and_true, Bool.and_false, Bool.true_and, Bool.false_and, Bool.false_eq_true, Bool.and_self, Bool.not_true, Bool.not_false, Bool.true_or, Bool.false_or, Bool.or_true, Bool.or_false, MD_sa h, z1, z2, Bool.true_or]
        · simp (disch := omega) only [shM h.1, ↓reduceIte, not_false_eq_true, not_true_eq_false, and_self, and_true, true_and, false_and, and_false, or_true, true_or, or_false, false_or, or_self, reduceCtorEq, mm_q, Option.getD_some, cI_some, cJ_some, cV_some, cS_some, kd_sI, kd_sL, kd_sR, kd_cp, ln_sI, ln_sL, ln_sR, ln_cp, gR_sI, gR_sL, gR_sR, gR_cp, gL_sI, gL_sR, gL_cp, gI_sL, gI_sR, iI_add, iI_sub, iI_mul, iI_neg, iI_in, iI_tn, iI_lt, iI_eq, Nat.reduceLeDiff, Nat.reduceEqDiff, Nat.reduceAdd, Int.reduceEq, Int.reduceLT, Int.reduceLE, Int.reduceNeg, Int.reduceAdd, Int.reduceSub, Int.reduceMul, bI_t, bI_f, decide_true, decide_false, Bool.and_true, Bool.and_false, Bool.true_and, Bool.false_and, Bool.false_eq_true, Bool.and_self, Bool.not_true, Bool.not_false, Bool.true_or, Bool.false_or, Bool.or_true, Bool.or_false, MD_sa h, z1, z2]
      · simp (disch := omega) only [↓reduceIte, not_false_eq_true, not_true_eq_false, and_self, and_true, true_and, false_and, and_false, or_true, true_or, or_false, false_or, or_self, reduceCtorEq, mm_q, Option.getD_some, cI_some, cJ_some, cV_some, cS_some, kd_sI, kd_sL, kd_sR, kd_cp, ln_sI, ln_sL, ln_sR, ln_cp, gR_sI, gR_sL, gR_sR, gR_cp, gL_sI, gL_sR, gL_cp, gI_sL, gI_sR, iI_add, iI_sub, iI_mul, iI_neg, iI_in, iI_tn, iI_lt, iI_eq, Nat.reduceLeDiff, Nat.reduceEqDiff, Nat.reduceAdd, Int.reduceEq, Int.reduceLT, Int.reduceLE, Int.reduceNeg, Int.reduceAdd, Int.reduceSub, Int.reduceMul, bI_t, bI_f, decide_true, decide_false, Bool.and_true, Bool.and_false, Bool.true_and, Bool.false_and, Bool.false_eq_true, Bool.and_self, Bool.not_true, Bool.not_false, Bool.true_or, Bool.false_or, Bool.or_true, Bool.or_false, z1]
    rw [sg_270_82 (by omega)]
    unfold canF
    rw [← hdi]
    by_cases z1 : di < 1
    · rw [if_pos (by rw [iI_lt] <;> omega), sg_270_109, show (iI 0) = iI (bI false) from rfl, e110 false]
      rw [show decide (1 ≤ di) = false from decide_eq_false (by omega), Bool.false_and]
    · rw [if_neg (by rw [iI_lt] <;> omega)]
      simp (disch := omega) only [↓reduceIte, not_false_eq_true, not_true_eq_false, and_self, and_true, true_and, false_and, and_false, or_true, true_or, or_false, false_or, or_self, reduceCtorEq, mm_q, Option.getD_some, cI_some, cJ_some, cV_some, cS_some, kd_sI, kd_sL, kd_sR, kd_cp, ln_sI, ln_sL, ln_sR, ln_cp, gR_sI, gR_sL, gR_sR, gR_cp, gL_sI, gL_sR, gL_cp, gI_sL, gI_sR, iI_add, iI_sub, iI_mul, iI_neg, iI_in, iI_tn, iI_lt, iI_eq, Nat.reduceLeDiff, Nat.reduceEqDiff, Nat.reduceAdd, Int.reduceEq, Int.reduceLT, Int.reduceLE, Int.reduceNeg, Int.reduceAdd, Int.reduceSub, Int.reduceMul, M188']
      rw [show decide (1 ≤ di) = true from decide_eq_true (by omega), Bool.true_and]
      cases z2 : inB (tiS D i k) di (9 * di)
      · simp (disch := omega) only [↓reduceIte, not_false_eq_true, not_true_eq_false, and_self, and_true, true_and, false_and, and_false, or_true, true_or, or_false, false_or, or_self, reduceCtorEq, mm_q, Option.getD_some, cI_some, cJ_some, cV_some, cS_some, kd_sI, kd_sL, kd_sR, kd_cp, ln_sI, ln_sL, ln_sR, ln_cp, gR_sI, gR_sL, gR_sR, gR_cp, gL_sI, gL_sR, gL_cp, gI_sL, gI_sR, iI_add, iI_sub, iI_mul, iI_neg, iI_in, iI_tn, iI_lt, iI_eq, Nat.reduceLeDiff, Nat.reduceEqDiff, Nat.reduceAdd, Int.reduceEq, Int.reduceLT, Int.reduceLE, Int.reduceNeg, Int.reduceAdd, Int.reduceSub, Int.reduceMul, bI_t, bI_f, decide_true, decide_false, Bool.and_true, Bool.and_false, Bool.true_and, Bool.false_and, Bool.false_eq_true, Bool.and_self, Bool.not_true, Bool.not_false, Bool.true_or, Bool.false_or, Bool.or_true, Bool.or_false, sg_270_109]
        exact e110 false
      · have e := e110 true
        simp (disch := omega) only [↓reduceIte, not_false_eq_true, not_true_eq_false, and_self, and_true, true_and, false_and, and_false, or_true, true_or, or_false, false_or, or_self, reduceCtorEq, mm_q, Option.getD_some, cI_some, cJ_some, cV_some, cS_some, kd_sI, kd_sL, kd_sR, kd_cp, ln_sI, ln_sL, ln_sR, ln_cp, gR_sI, gR_sL, gR_sR, gR_cp, gL_sI, gL_sR, gL_cp, gI_sL, gI_sR, iI_add, iI_sub, iI_mul, iI_neg, iI_in, iI_tn, iI_lt, iI_eq, Nat.reduceLeDiff, Nat.reduceEqDiff, Nat.reduceAdd, Int.reduceEq, Int.reduceLT, Int.reduceLE, Int.reduceNeg, Int.reduceAdd, Int.reduceSub, Int.reduceMul, bI_t, bI_f, decide_true, decide_false, Bool.and_true, Bool.and_false, Bool.true_and, Bool.false_and, Bool.false_eq_true, Bool.and_self, Bool.not_true, Bool.not_false, Bool.true_or, Bool.false_or, Bool.or_true, Bool.or_false] at e ⊢
        exact e
  rw [sg_270_0]
  by_cases z : sa D (47 + 3 * i + 2) = 1
  · have e := key (sa D (47 + 3 * k + 1) - sa D (47 + 3 * i + 1)) (by unfold diS; rw [if_pos z]) (by omega) (by omega)
    unfold tiS at e
    simp (disch := omega) only [shM h.1, ↓reduceIte, not_false_eq_true, not_true_eq_false, and_self, and_true, true_and, false_and, and_false, or_true, true_or, or_false, false_or, or_self, reduceCtorEq, mm_q, Option.getD_some, cI_some, cJ_some, cV_some, cS_some, kd_sI, kd_sL, kd_sR, kd_cp, ln_sI, ln_sL, ln_sR, ln_cp, gR_sI, gR_sL, gR_sR, gR_cp, gL_sI, gL_sR, gL_cp, gI_sL, gI_sR, iI_add, iI_sub, iI_mul, iI_neg, iI_in, iI_tn, iI_lt, iI_eq, Nat.reduceLeDiff, Nat.reduceEqDiff, Nat.reduceAdd, Int.reduceEq, Int.reduceLT, Int.reduceLE, Int.reduceNeg, Int.reduceAdd, Int.reduceSub, Int.reduceMul, MD_sa h, z]
    exact e
  · have e := key (sa D (47 + 3 * i + 1) - sa D (47 + 3 * k + 1)) (by unfold diS; rw [if_neg z]) (by omega) (by omega)
    unfold tiS at e
    simp (disch := omega) only [shM h.1, ↓reduceIte, not_false_eq_true, not_true_eq_false, and_self, and_true, true_and, false_and, and_false, or_true, true_or, or_false, false_or, or_self, reduceCtorEq, mm_q, Option.getD_some, cI_some, cJ_some, cV_some, cS_some, kd_sI, kd_sL, kd_sR, kd_cp, ln_sI, ln_sL, ln_sR, ln_cp, gR_sI, gR_sL, gR_sR, gR_cp, gL_sI, gL_sR, gL_cp, gI_sL, gI_sR, iI_add, iI_sub, iI_mul, iI_neg, iI_in, iI_tn, iI_lt, iI_eq, Nat.reduceLeDiff, Nat.reduceEqDiff, Nat.reduceAdd, Int.reduceEq, Int.reduceLT, Int.reduceLE, Int.reduceNeg, Int.reduceAdd, Int.reduceSub, Int.reduceMul, MD_sa h, z]
    exact e
/-- mayBe -/
theorem M269 (h : MD D E m) (hI : InvS D) (hP : InvP D) (hd : 2 ≤ d) (hH : HS m bf ak nxt) (hn : ∀ k, 0 ≤ k → k < 10 → -2 ≤ nxt k ∧ nxt k < 10) {i k : Int} (i0 : 0 ≤ i) (i1 : i < sa D 46) (k0 : 0 ≤ k) (k1 : k < sa D 46) : mm_ev d 269 0 [some (.ref 316), some (.int (iI (i))), some (.int (iI (k)))] [] m = some (some (some (.int (iI (bI (edgeS D nxt i k))))), m) := by
  have hP2 := hP
  obtain ⟨⟨n0, n1⟩, -⟩ := hP
  have e1 := (hH i i0 (by omega)).2.2
  have e2 := hn i i0 (by omega)
  rw [sg_269_0 (by omega)]
  unfold edgeS
  by_cases z : nxt i = -2
  · cases z2 : canF D i k <;> simp (disch := omega) only [shM h.1, ↓reduceIte, not_false_eq_true, not_true_eq_false, and_self, and_true, true_and, false_and, and_false, or_true, true_or, or_false, false_or, or_self, reduceCtorEq, mm_q, Option.getD_some, cI_some, cJ_some, cV_some, cS_some, kd_sI, kd_sL, kd_sR, kd_cp, ln_sI, ln_sL, ln_sR, ln_cp, gR_sI, gR_sL, gR_sR, gR_cp, gL_sI, gL_sR, gL_cp, gI_sL, gI_sR, iI_add, iI_sub, iI_mul, iI_neg, iI_in, iI_tn, iI_lt, iI_eq, Nat.reduceLeDiff, Nat.reduceEqDiff, Nat.reduceAdd, Int.reduceEq, Int.reduceLT, Int.reduceLE, Int.reduceNeg, Int.reduceAdd, Int.reduceSub, Int.reduceMul, bI_t, bI_f, decide_true, decide_false, Bool.and_true, Bool.and_false, Bool.true_and, Bool.false_and, Bool.false_eq_true, Bool.and_self, Bool.not_true, Bool.not_false, Bool.true_or, Bool.false_or, Bool.or_true, Bool.or_false, e1, z, M270 h hI hP2, z2]
  · by_cases z2 : nxt i = k
    · simp (disch := omega) only [shM h.1, ↓reduceIte, not_false_eq_true, not_true_eq_false, and_self, and_true, true_and, false_and, and_false, or_true, true_or, or_false, false_or, or_self, reduceCtorEq, mm_q, Option.getD_some, cI_some, cJ_some, cV_some, cS_some, kd_sI, kd_sL, kd_sR, kd_cp, ln_sI, ln_sL, ln_sR, ln_cp, gR_sI, gR_sL, gR_sR, gR_cp, gL_sI, gL_sR, gL_cp, gI_sL, gI_sR, iI_add, iI_sub, iI_mul, iI_neg, iI_in, iI_tn, iI_lt, iI_eq, Nat.reduceLeDiff, Nat.reduceEqDiff, Nat.reduceAdd, Int.reduceEq, Int.reduceLT, Int.reduceLE, Int.reduceNeg, Int.reduceAdd, Int.reduceSub, Int.reduceMul, bI_t, bI_f, decide_true, decide_false, Bool.and_true, Bool.and_false, Bool.true_and, Bool.false_and, Bool.false_eq_true, Bool.and_self, Bool.not_true, Bool.not_false, Bool.true_or, Bool.false_or, Bool.or_true, Bool.or_false, e1, z, z2, show ¬ k = -2 by omega]
    · simp (disch := omega) only [shM h.1, ↓reduceIte, not_false_eq_true, not_true_eq_false, and_self, and_true, true_and, false_and, and_false, or_true, true_or, or_false, false_or, or_self, reduceCtorEq, mm_q, Option.getD_some, cI_some, cJ_some, cV_some, cS_some, kd_sI, kd_sL, kd_sR, kd_cp, ln_sI, ln_sL, ln_sR, ln_cp, gR_sI, gR_sL, gR_sR, gR_cp, gL_sI, gL_sR, gL_cp, gI_sL, gI_sR, iI_add, iI_sub, iI_mul, iI_neg, iI_in, iI_tn, iI_lt, iI_eq, Nat.reduceLeDiff, Nat.reduceEqDiff, Nat.reduceAdd, Int.reduceEq, Int.reduceLT, Int.reduceLE, Int.reduceNeg, Int.reduceAdd, Int.reduceSub, Int.reduceMul, bI_t, bI_f, decide_true, decide_false, Bool.and_true, Bool.and_false, Bool.true_and, Bool.false_and, Bool.false_eq_true, Bool.and_self, Bool.not_true, Bool.not_false, Bool.true_or, Bool.false_or, Bool.or_true, Bool.or_false, e1, z, z2]
theorem HS.ask (h : HS m bf ak nxt) {k : Int} {b : Bool} (k0 : 0 ≤ k) : HS (mm_sI m 341 k.toNat (iI (bI b))) bf (updA ak k b) nxt := fun j j0 j1 => by
  obtain ⟨h1, h2, h3⟩ := h j j0 j1
  refine ⟨?_, ?_, ?_⟩
  · rw [gI_sI, if_neg (by omega)]; exact h1
  · rw [gI_sI]
    unfold updA
    by_cases z : j = k
    · rw [if_pos ⟨rfl, by omega⟩, if_pos z]
    · rw [if_neg (by omega), if_neg z]; exact h2
  · rw [gI_sI, if_neg (by omega)]; exact h3
theorem HS.bef (h : HS m bf ak nxt) {k v : Int} (k0 : 0 ≤ k) : HS (mm_sI m 340 k.toNat (iI v)) (updB bf k v) ak nxt := fun j j0 j1 => by
  obtain ⟨h1, h2, h3⟩ := h j j0 j1
  refine ⟨?_, ?_, ?_⟩
  · rw [gI_sI]
    unfold updB
    by_cases z : j = k
    · rw [if_pos ⟨rfl, by omega⟩, if_pos z]
    · rw [if_neg (by omega), if_neg z]; exact h1
  · rw [gI_sI, if_neg (by omega)]; exact h2
  · rw [gI_sI, if_neg (by omega)]; exact h3
theorem Fr.sH {a k : Nat} {v : Int32} (h0 : 340 ≤ a) (h1 : a ≤ 341) : Fr scH m (mm_sI m a k v) := Fr.sI (by
  unfold scH
  rw [Nat.ble_eq.mpr h0, Nat.ble_eq.mpr h1]
  rfl)
def bfOk (n : Int) (bf : Int → Int) : Prop := ∀ k, 0 ≤ k → k < 10 → -1 ≤ bf k ∧ bf k < n
theorem bfOk.upd {n : Int} (h : bfOk n bf) {k v : Int} (v0 : -1 ≤ v) (v1 : v < n) : bfOk n (updB bf k v) := fun j j0 j1 => by
  unfold updB
  split
  · exact ⟨v0, v1⟩
  · exact h j j0 j1
/-- finds -/
theorem M268 (hI : InvS D) (hP : InvP D) (hn : ∀ k, 0 ≤ k → k < 10 → -2 ≤ nxt k ∧ nxt k < 10) : ∀ (f : Nat) (one : Int) (s : (Int → Int) × (Int → Bool)) (d : Nat) (m : mm_M), unA (sa D 46).toNat s.2 < f → f + 4 ≤ d → 0 ≤ one → one < sa D 46 → MD D E m → HS m s.1 s.2 nxt → bfOk (sa D 46) s.1 → ∃ m', mm_ev d 268 0 [some (.ref 316), some (.int (iI (one))), none] [] m = some (some (some (.int (iI (bI (fnd (edgeS D nxt) (sa D 46) f one s).1)))), m') ∧ Fr scH m m' ∧ HS m' (fnd (edgeS D nxt) (sa D 46) f one s).2.1 (fnd (edgeS D nxt) (sa D 46) f one s).2.2 nxt ∧ bfOk (sa D 46) (fnd (edgeS D nxt) (sa D 46) f one s).2.1
  | 0, one, s, d, m, hu, _, _, _, _, _, _ => by
    have := (unA_n (n := (sa D 46).toNat) (A := s.2)).1
    omega
  | f + 1, one, s, d, m, hu, hd, o0, o1, h, hH, hb => by
    obtain ⟨n0, n1⟩ := hP.1
    have ih := M268 hI hP hn f
    have loop : ∀ (r : Nat) (k : Int) (s : (Int → Int) × (Int → Bool)) (m : mm_M), k = sa D 46 - r → 0 ≤ k → unA (sa D 46).toNat s.2 < f + 1 → MD D E m → HS m s.1 s.2 nxt → bfOk (sa D 46) s.1 → ∃ m', mm_ev d 268 2 [some (.ref 316), some (.int (iI (one))), some (.int (iI (k)))] [] m = some (some (some (.int (iI (bI (fndL (fnd (edgeS D nxt) (sa D 46) f) (edgeS D nxt) one r k s).1)))), m') ∧ Fr scH m m' ∧ HS m' (fndL (fnd (edgeS D nxt) (sa D 46) f) (edgeS D nxt) one r k s).2.1 (fndL (fnd (edgeS D nxt) (sa D 46) f) (edgeS D nxt) one r k s).2.2 nxt ∧ bfOk (sa D 46) (fndL (fnd (edgeS D nxt) (sa D 46) f) (edgeS D nxt) one r k s).2.1 := by
      intro r
      induction r with
      | zero =>
        intro k s m hk k0 hu h hH hb
        refine ⟨m, ?_, Fr.rf, hH, hb⟩
        rw [sg_268_2 (by omega)]
        unfold fndL
        simp (disch := omega) only [shM h.1, ↓reduceIte, not_false_eq_true, not_true_eq_false, and_self, and_true, true_and, false_and, and_false, or_true, true_or, or_false, false_or, or_self, reduceCtorEq, mm_q, Option.getD_some, cI_some, cJ_some, cV_some, cS_some, kd_sI, kd_sL, kd_sR, kd_cp, ln_sI, ln_sL, ln_sR, ln_cp, gR_sI, gR_sL, gR_sR, gR_cp, gL_sI, gL_sR, gL_cp, gI_sL, gI_sR, iI_add, iI_sub, iI_mul, iI_neg, iI_in, iI_tn, iI_lt, iI_eq, Nat.reduceLeDiff, Nat.reduceEqDiff, Nat.reduceAdd, Int.reduceEq, Int.reduceLT, Int.reduceLE, Int.reduceNeg, Int.reduceAdd, Int.reduceSub, Int.reduceMul, bI_t, bI_f, decide_true, decide_false, Bool.and_true, Bool.and_false, Bool.true_and, Bool.false_and, Bool.false_eq_true, Bool.and_self, Bool.not_true, Bool.not_false, Bool.true_or, Bool.false_or, Bool.or_true, Bool.or_false, MD_sa h, show ¬ k < sa D 46 by omega]
      | succ r ihr =>
        intro k s m hk k0 hu h hH hb
        have k1 : k < sa D 46 := by omega
        obtain ⟨q1, q2, q3⟩ := hH k k0 (by omega)
        rw [sg_268_2 (by omega)]
        cases z1 : s.2 k
        · rw [z1, bI_f] at q2
          simp (disch := omega) only [shM h.1, ↓reduceIte, not_false_eq_true, not_true_eq_false, and_self, and_true, true_and, false_and, and_false, or_true, true_or, or_false, false_or, or_self, reduceCtorEq, mm_q, Option.getD_some, cI_some, cJ_some, cV_some, cS_some, kd_sI, kd_sL, kd_sR, kd_cp, ln_sI, ln_sL, ln_sR, ln_cp, gR_sI, gR_sL, gR_sR, gR_cp, gL_sI, gL_sR, gL_cp, gI_sL, gI_sR, iI_add, iI_sub, iI_mul, iI_neg, iI_in, iI_tn, iI_lt, iI_eq, Nat.reduceLeDiff, Nat.reduceEqDiff, Nat.reduceAdd, Int.reduceEq, Int.reduceLT, Int.reduceLE, Int.reduceNeg, Int.reduceAdd, Int.reduceSub, Int.reduceMul, MD_sa h, k1, q2, M269 h hI hP (d := d - 1) (by omega) hH hn o0 o1 k0 k1]
          rw [sg_268_28 (by omega)]
          cases z2 : edgeS D nxt one k
          · obtain ⟨m', e1, f1, r1⟩ := ihr (k + 1) s m (by omega) (by omega) hu h hH hb
            have ef : fndL (fnd (edgeS D nxt) (sa D 46) f) (edgeS D nxt) one (r + 1) k s = fndL (fnd (edgeS D nxt) (sa D 46) f) (edgeS D nxt) one r (k + 1) s := by
              rw [fndL, z1, z2]
              simp
            rw [ef]
            refine ⟨m', ?_, f1, r1⟩
            simp (disch := omega) only [↓reduceIte, not_false_eq_true, not_true_eq_false, and_self, and_true, true_and, false_and, and_false, or_true, true_or, or_false, false_or, or_self, reduceCtorEq, mm_q, Option.getD_some, cI_some, cJ_some, cV_some, cS_some, kd_sI, kd_sL, kd_sR, kd_cp, ln_sI, ln_sL, ln_sR, ln_cp, gR_sI, gR_sL, gR_sR, gR_cp, gL_sI, gL_sR, gL_cp, gI_sL, gI_sR, iI_add, iI_sub, iI_mul, iI_neg, iI_in, iI_tn, iI_lt, iI_eq, Nat.reduceLeDiff, Nat.reduceEqDiff, Nat.reduceAdd, Int.reduceEq, Int.reduceLT, Int.reduceLE, Int.reduceNeg, Int.reduceAdd, Int.reduceSub, Int.reduceMul, bI_t, bI_f, decide_true, decide_false, Bool.and_true, Bool.and_false, Bool.true_and, Bool.false_and, Bool.false_eq_true, Bool.and_self, Bool.not_true, Bool.not_false, Bool.true_or, Bool.false_or, Bool.or_true, Bool.or_false, sg_268_69]
            exact e1
          · have hH1 := hH.ask (b := true) k0
            have g1 : Fr scH m (mm_sI m 341 k.toNat (iI (bI true))) := Fr.sH (by omega) (by omega)
            have h1 := h.fr g1.HM
            have hbk := hb k k0 (by omega)
            have q4 : mm_gI (mm_sI m 341 k.toNat (iI 1)) 340 k.toNat = iI (s.1 k) := by rw [gI_sI, if_neg (by omega)]; exact q1
            by_cases z3 : s.1 k < 0
            · have ef : fndL (fnd (edgeS D nxt) (sa D 46) f) (edgeS D nxt) one (r + 1) k s = (true, updB s.1 k one, updA s.2 k true) := by
                rw [fndL, z1, z2]
                simp [z3]
              rw [ef]
              refine ⟨mm_sI (mm_sI m 341 k.toNat (iI (bI true))) 340 k.toNat (iI one), ?_, g1.tr (Fr.sH (by omega) (by omega)), hH1.bef k0, hb.upd (by omega) o1⟩
              simp (disch := omega) only [shM h.1, ↓reduceIte, not_false_eq_true, not_true_eq_false, and_self, and_true, true_and, false_and, and_false, or_true, true_or, or_false, false_or, or_self, reduceCtorEq, mm_q, Option.getD_some, cI_some, cJ_some, cV_some, cS_some, kd_sI, kd_sL, kd_sR, kd_cp, ln_sI, ln_sL, ln_sR, ln_cp, gR_sI, gR_sL, gR_sR, gR_cp, gL_sI, gL_sR, gL_cp, gI_sL, gI_sR, iI_add, iI_sub, iI_mul, iI_neg, iI_in, iI_tn, iI_lt, iI_eq, Nat.reduceLeDiff, Nat.reduceEqDiff, Nat.reduceAdd, Int.reduceEq, Int.reduceLT, Int.reduceLE, Int.reduceNeg, Int.reduceAdd, Int.reduceSub, Int.reduceMul, bI_t, bI_f, decide_true, decide_false, Bool.and_true, Bool.and_false, Bool.true_and, Bool.false_and, Bool.false_eq_true, Bool.and_self, Bool.not_true, Bool.not_false, Bool.true_or, Bool.false_or, Bool.or_true, Bool.or_false, nar1, q4]
              rw [if_pos z3, sg_268_60]
              simp (disch := omega) only [shM h.1, ↓reduceIte, not_false_eq_true, not_true_eq_false, and_self, and_true, true_and, false_and, and_false, or_true, true_or, or_false, false_or, or_self, reduceCtorEq, mm_q, Option.getD_some, cI_some, cJ_some, cV_some, cS_some, kd_sI, kd_sL, kd_sR, kd_cp, ln_sI, ln_sL, ln_sR, ln_cp, gR_sI, gR_sL, gR_sR, gR_cp, gL_sI, gL_sR, gL_cp, gI_sL, gI_sR, iI_add, iI_sub, iI_mul, iI_neg, iI_in, iI_tn, iI_lt, iI_eq, Nat.reduceLeDiff, Nat.reduceEqDiff, Nat.reduceAdd, Int.reduceEq, Int.reduceLT, Int.reduceLE, Int.reduceNeg, Int.reduceAdd, Int.reduceSub, Int.reduceMul]
            · have u1 := unA_u (n := (sa D 46).toNat) k0 (by omega) z1
              obtain ⟨m2, e2, g2, hH2, hb2⟩ := ih (s.1 k) (s.1, updA s.2 k true) (d - 1) _ (by simp only; omega) (by omega) (by omega) hbk.2 h1 hH1 hb
              cases z4 : (fnd (edgeS D nxt) (sa D 46) f (s.1 k) (s.1, updA s.2 k true)).1
              · have ef : fndL (fnd (edgeS D nxt) (sa D 46) f) (edgeS D nxt) one (r + 1) k s = fndL (fnd (edgeS D nxt) (sa D 46) f) (edgeS D nxt) one r (k + 1) (fnd (edgeS D nxt) (sa D 46) f (s.1 k) (s.1, updA s.2 k true)).2 := by
                  rw [fndL, z1, z2]
                  simp [z3, z4]
                rw [ef]
                have u2 := unA_m (n := (sa D 46).toNat) (A := updA s.2 k true) (C := (fnd (edgeS D nxt) (sa D 46) f (s.1 k) (s.1, updA s.2 k true)).2.2) (fun i hi => fnd_a f _ (s.1, updA s.2 k true) i hi)
                obtain ⟨m', e3, g3, r3⟩ := ihr (k + 1) (fnd (edgeS D nxt) (sa D 46) f (s.1 k) (s.1, updA s.2 k true)).2 m2 (by omega) (by omega) (by omega) (h1.fr g2.HM) hH2 hb2
                refine ⟨m', ?_, (g1.tr g2).tr g3, r3⟩
                rw [z4, bI_f, bI_t] at e2
                simp (disch := omega) only [shM h.1, ↓reduceIte, not_false_eq_true, not_true_eq_false, and_self, and_true, true_and, false_and, and_false, or_true, true_or, or_false, false_or, or_self, reduceCtorEq, mm_q, Option.getD_some, cI_some, cJ_some, cV_some, cS_some, kd_sI, kd_sL, kd_sR, kd_cp, ln_sI, ln_sL, ln_sR, ln_cp, gR_sI, gR_sL, gR_sR, gR_cp, gL_sI, gL_sR, gL_cp, gI_sL, gI_sR, iI_add, iI_sub, iI_mul, iI_neg, iI_in, iI_tn, iI_lt, iI_eq, Nat.reduceLeDiff, Nat.reduceEqDiff, Nat.reduceAdd, Int.reduceEq, Int.reduceLT, Int.reduceLE, Int.reduceNeg, Int.reduceAdd, Int.reduceSub, Int.reduceMul, bI_t, bI_f, decide_true, decide_false, Bool.and_true, Bool.and_false, Bool.true_and, Bool.false_and, Bool.false_eq_true, Bool.and_self, Bool.not_true, Bool.not_false, Bool.true_or, Bool.false_or, Bool.or_true, Bool.or_false, nar1, q4, z3, e2, sg_268_69]
                exact e3
              · have ef : fndL (fnd (edgeS D nxt) (sa D 46) f) (edgeS D nxt) one (r + 1) k s = (true, updB (fnd (edgeS D nxt) (sa D 46) f (s.1 k) (s.1, updA s.2 k true)).2.1 k one, (fnd (edgeS D nxt) (sa D 46) f (s.1 k) (s.1, updA s.2 k true)).2.2) := by
                  rw [fndL, z1, z2]
                  simp [z3, z4]
                rw [ef]
                have h2 := h1.fr g2.HM
                refine ⟨mm_sI m2 340 k.toNat (iI one), ?_, (g1.tr g2).tr (Fr.sH (by omega) (by omega)), hH2.bef k0, hb2.upd (by omega) o1⟩
                rw [z4, bI_t] at e2
                simp (disch := omega) only [shM h.1, ↓reduceIte, not_false_eq_true, not_true_eq_false, and_self, and_true, true_and, false_and, and_false, or_true, true_or, or_false, false_or, or_self, reduceCtorEq, mm_q, Option.getD_some, cI_some, cJ_some, cV_some, cS_some, kd_sI, kd_sL, kd_sR, kd_cp, ln_sI, ln_sL, ln_sR, ln_cp, gR_sI, gR_sL, gR_sR, gR_cp, gL_sI, gL_sR, gL_cp, gI_sL, gI_sR, iI_add, iI_sub, iI_mul, iI_neg, iI_in, iI_tn, iI_lt, iI_eq, Nat.reduceLeDiff, Nat.reduceEqDiff, Nat.reduceAdd, Int.reduceEq, Int.reduceLT, Int.reduceLE, Int.reduceNeg, Int.reduceAdd, Int.reduceSub, Int.reduceMul, bI_t, bI_f, decide_true, decide_false, Bool.and_true, Bool.and_false, Bool.true_and, Bool.false_and, Bool.false_eq_true, Bool.and_self, Bool.not_true, Bool.not_false, Bool.true_or, Bool.false_or, Bool.or_true, Bool.or_false, nar1, q4, z3, e2]
                rw [sg_268_60]
                simp (disch := omega) only [shM h2.1, ↓reduceIte, not_false_eq_true, not_true_eq_false, and_self, and_true, true_and, false_and, and_false, or_true, true_or, or_false, false_or, or_self, reduceCtorEq, mm_q, Option.getD_some, cI_some, cJ_some, cV_some, cS_some, kd_sI, kd_sL, kd_sR, kd_cp, ln_sI, ln_sL, ln_sR, ln_cp, gR_sI, gR_sL, gR_sR, gR_cp, gL_sI, gL_sR, gL_cp, gI_sL, gI_sR, iI_add, iI_sub, iI_mul, iI_neg, iI_in, iI_tn, iI_lt, iI_eq, Nat.reduceLeDiff, Nat.reduceEqDiff, Nat.reduceAdd, Int.reduceEq, Int.reduceLT, Int.reduceLE, Int.reduceNeg, Int.reduceAdd, Int.reduceSub, Int.reduceMul]
        · rw [z1, bI_t] at q2
          obtain ⟨m', e1, f1, r1⟩ := ihr (k + 1) s m (by omega) (by omega) hu h hH hb
          have ef : fndL (fnd (edgeS D nxt) (sa D 46) f) (edgeS D nxt) one (r + 1) k s = fndL (fnd (edgeS D nxt) (sa D 46) f) (edgeS D nxt) one r (k + 1) s := by
            rw [fndL, z1]
            simp
          rw [ef]
          refine ⟨m', ?_, f1, r1⟩
          simp (disch := omega) only [shM h.1, ↓reduceIte, not_false_eq_true, not_true_eq_false, and_self, and_true, true_and, false_and, and_false, or_true, true_or, or_false, false_or, or_self, reduceCtorEq, mm_q, Option.getD_some, cI_some, cJ_some, cV_some, cS_some, kd_sI, kd_sL, kd_sR, kd_cp, ln_sI, ln_sL, ln_sR, ln_cp, gR_sI, gR_sL, gR_sR, gR_cp, gL_sI, gL_sR, gL_cp, gI_sL, gI_sR, iI_add, iI_sub, iI_mul, iI_neg, iI_in, iI_tn, iI_lt, iI_eq, Nat.reduceLeDiff, Nat.reduceEqDiff, Nat.reduceAdd, Int.reduceEq, Int.reduceLT, Int.reduceLE, Int.reduceNeg, Int.reduceAdd, Int.reduceSub, Int.reduceMul, MD_sa h, k1, q2, sg_268_69]
          exact e1
    obtain ⟨m', e1, r1⟩ := loop (sa D 46).toNat 0 s m (by omega) (by omega) hu h hH hb
    refine ⟨m', ?_, r1⟩
    rw [sg_268_0]
    exact e1
end
