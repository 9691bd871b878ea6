/-- the passing places of the class -/
def scC (a k : Nat) : Bool := Nat.beq a 113 || Nat.beq a 116 || Nat.beq a 134 || Nat.beq a 137 || Nat.beq a 176 || (Nat.ble 178 a && Nat.ble a 211) || (Nat.ble 159 a && Nat.ble a 162) || (Nat.beq a 163 && Nat.ble 7 k)
def rC (a k : Nat) : Bool := (Nat.beq a 178 && Nat.beq k 4) || (Nat.beq a 184 && Nat.beq k 6)
def FC (m m' : mm_M) : Prop := m'.1 = m.1 ∧ m'.2.1 = m.2.1 ∧ (∀ a k, rC a k = false → mm_gR m' a k = mm_gR m a k) ∧ (∀ a k, scC a k = false → mm_gI m' a k = mm_gI m a k ∧ mm_gL m' a k = mm_gL m a k)
section
variable {m m' m'' : mm_M} {s W L : Nat}
theorem FC.rf : FC m m := ⟨rfl, rfl, fun _ _ _ => rfl, fun _ _ _ => ⟨rfl, rfl⟩⟩
theorem FC.tr (h : FC m m') (h' : FC m' m'') : FC m m'' := ⟨h'.1.trans h.1, h'.2.1.trans h.2.1, fun a k z => (h'.2.2.1 a k z).trans (h.2.2.1 a k z), fun a k z => ⟨(h'.2.2.2 a k z).1.trans (h.2.2.2 a k z).1, (h'.2.2.2 a k z).2.trans (h.2.2.2 a k z).2⟩⟩
theorem Fr.C (h : Fr scC m m') : FC m m' := ⟨h.1, h.2.1, fun a k _ => h.2.2.1 a k, h.2.2.2⟩
theorem rC_s {a k : Nat} (h : mm_swp a k = false) : rC a k = false := by
  unfold rC
  cases e1 : (Nat.beq a 178 && Nat.beq k 4)
  · cases e2 : (Nat.beq a 184 && Nat.beq k 6)
    · rfl
    · rw [Bool.and_eq_true] at e2
      rw [Nat.eq_of_beq_eq_true e2.1, Nat.eq_of_beq_eq_true e2.2] at h
      exact absurd h (by decide)
  · rw [Bool.and_eq_true] at e1
    rw [Nat.eq_of_beq_eq_true e1.1, Nat.eq_of_beq_eq_true e1.2] at h
    exact absurd h (by decide)
theorem FC.sh (h : FC m m') (s : Sh m) : Sh m' := ⟨h.1.trans s.1, fun a k h1 h2 => (h.2.2.1 a k (rC_s h2)).trans (s.2 a k h1 h2)⟩
theorem FC.gI (h : FC m m') {a k : Nat} (z : scC a k = false) : mm_gI m' a k = mm_gI m a k := (h.2.2.2 a k z).1
theorem FC.gL (h : FC m m') {a k : Nat} (z : scC a k = false) : mm_gL m' a k = mm_gL m a k := (h.2.2.2 a k z).2
theorem FC.gR (h : FC m m') {a k : Nat} (z : rC a k = false) : mm_gR m' a k = mm_gR m a k := h.2.2.1 a k z
def isSt (s : Nat) : Prop := s = 104 ∨ s = 125
theorem stF (h : Sh m) (hs : isSt s) : mm_kd m s = 7 ∧ mm_kd m (s + 1) = 21 ∧ mm_ln m (s + 1) = 6 ∧ mm_kd m (s + 2) = 20 ∧ mm_ln m (s + 2) = 6 ∧ mm_kd m (s + 3) = 26 ∧ mm_ln m (s + 3) = 8 ∧ mm_kd m (s + 4) = 20 ∧ mm_ln m (s + 4) = 8 ∧ mm_kd m (s + 5) = 20 ∧ mm_ln m (s + 5) = 8 ∧ mm_kd m (s + 6) = 20 ∧ mm_ln m (s + 6) = 8 ∧ mm_kd m (s + 7) = 3 ∧ mm_kd m (s + 10) = 3 ∧ mm_gR m s 8 = some (s + 1) ∧ mm_gR m s 9 = some (s + 2) ∧ mm_gR m s 11 = some (s + 3) ∧ mm_gR m s 13 = some (s + 4) ∧ mm_gR m s 14 = some (s + 5) ∧ mm_gR m s 15 = some (s + 6) ∧ mm_gR m s 16 = some (s + 7) ∧ mm_gR m s 17 = some (s + 10) := by
  rcases hs with rfl | rfl
  · have := shS h
    simp only [this, and_self]
  · have := shS2 h
    simp only [this, and_self]
def isLw (L : Nat) : Prop := L = 111 ∨ L = 114 ∨ L = 132 ∨ L = 135
theorem lwF (h : Sh m) (hL : isLw L) : mm_kd m L = 3 ∧ mm_kd m (L + 1) = 20 ∧ mm_ln m (L + 1) = 1000 ∧ mm_kd m (L + 2) = 20 ∧ mm_ln m (L + 2) = 32 ∧ mm_gR m L 2 = some (L + 1) ∧ mm_gR m L 3 = some (L + 2) ∧ 100 ≤ L + 2 := by
  rcases hL with rfl | rfl | rfl | rfl
  · have := shS h
    simp only [this, and_self, Nat.reduceLeDiff]
  · have := shS h
    simp only [this, and_self, Nat.reduceLeDiff]
  · have := shS2 h
    simp only [this, and_self, Nat.reduceLeDiff]
  · have := shS2 h
    simp only [this, and_self, Nat.reduceLeDiff]
theorem lwQ (hs : isSt s) : isLw (s + 7) := by rcases hs with rfl | rfl <;> simp [isLw]
theorem lwO (hs : isSt s) : isLw (s + 10) := by rcases hs with rfl | rfl <;> simp [isLw]
theorem wkF (h : Sh m) (hs : isSt s) {w : Int} (w0 : 0 ≤ w) (w1 : w < 8) : mm_gR m (s + 3) w.toNat = some (s + 13 + w.toNat) ∧ mm_kd m (s + 13 + w.toNat) = 9 := by
  have hw : w = 0 ∨ w = 1 ∨ w = 2 ∨ w = 3 ∨ w = 4 ∨ w = 5 ∨ w = 6 ∨ w = 7 := by omega
  rcases hs with rfl | rfl <;> rcases hw with rfl | rfl | rfl | rfl | rfl | rfl | rfl | rfl <;> exact ⟨h.gR (by decide) rfl rfl, h.kd (by decide)⟩
def isW (W : Nat) : Prop := W = 172 ∨ W = 178
theorem wF (h : Sh m) (hW : isW W) : mm_kd m W = 10 ∧ mm_kd m (W + 1) = 20 ∧ mm_ln m (W + 1) = 8 ∧ mm_kd m (W + 2) = 20 ∧ mm_ln m (W + 2) = 8 ∧ mm_kd m (W + 3) = 20 ∧ mm_ln m (W + 3) = 8 ∧ mm_kd m (W + 4) = 21 ∧ mm_ln m (W + 4) = 4 ∧ mm_kd m (W + 5) = 20 ∧ mm_ln m (W + 5) = 8 ∧ mm_gR m W 0 = some (W + 1) ∧ mm_gR m W 1 = some (W + 2) ∧ mm_gR m W 2 = some (W + 3) ∧ mm_gR m W 3 = some (W + 4) ∧ mm_gR m W 5 = some (W + 5) ∧ 100 ≤ W + 1 ∧ 100 ≤ W + 2 ∧ 100 ≤ W + 3 ∧ 100 ≤ W + 5 := by
  have := shW h
  rcases hW with rfl | rfl <;> simp only [this, and_self, Nat.reduceLeDiff]
end
/-- laws as the class holds them -/
def encO (c : Int) : Int := if c = 4 then -9 else if c = 5 then -10 else if c = 6 then -11 else if c = 7 then -7 else if c = 8 then -8 else if c = 9 then -5 else -6
def encS (D : Nat → Nat → Int32) (lo i : Int) : Int := if opS D i = 1 then arS D i else if opS D i = 2 then (if arS D i = lo then -2 else -3) else if opS D i = 3 then -4 else encO (opS D i)
def LawR (D : Nat → Nat → Int32) (m : mm_M) (L : Nat) (lo start : Int) : Prop := (start < 0 ∧ lo = 0 ∧ mm_gI m L 4 = iI 1 ∧ mm_gI m (L + 1) 0 = iI (-2)) ∨ (start < 0 ∧ lo = 2 ∧ mm_gI m L 4 = iI 3 ∧ mm_gI m (L + 1) 0 = iI (-3) ∧ mm_gI m (L + 1) 1 = iI 1 ∧ mm_gI m (L + 1) 2 = iI (-10)) ∨ (0 ≤ start ∧ (lo = 0 ∨ lo = 2) ∧ ∃ n, (0 ≤ n ∧ n ≤ 1000) ∧ mm_gI m L 4 = iI n ∧ opS D (start + n) = 0 ∧ ∀ i, 0 ≤ i → i < n → ¬ opS D (start + i) = 0 ∧ mm_gI m (L + 1) i.toNat = iI (encS D lo (start + i)))
def lawV (D : Nat → Nat → Int32) (lo start : Int) (x y : Int32) : Int32 := if start < 0 then (if lo = 0 then x else y - iI 1) else lawS D lo x y start
def scS (L a _k : Nat) : Bool := Nat.beq a (L + 2)
/-- a street as the class holds it -/
def RSt (D : Nat → Nat → Int32) (m : mm_M) (s : Nat) : Prop := (mm_gI m s 0 = iI (st D 0) ∧ mm_gI m s 1 = iI (st D 1) ∧ mm_gI m s 2 = iI (st D 2) ∧ mm_gI m s 3 = iI (st D 3) ∧ mm_gI m s 4 = iI (st D 4) ∧ mm_gI m s 5 = iI (st D 8) ∧ mm_gI m s 7 = iI (st D 5) ∧ mm_gI m s 10 = iI (st D 6) ∧ mm_gI m s 12 = iI (st D 7)) ∧ (∀ w, 0 ≤ w → w < st D 5 → mm_gI m (s + 2) w.toNat = iI (te D w)) ∧ (∀ w, 0 ≤ w → w < st D 6 → mm_gI m (s + 13 + w.toNat) 1 = iI (wk D w 0) ∧ mm_gI m (s + 13 + w.toNat) 2 = iI (wk D w 1) ∧ mm_gI m (s + 13 + w.toNat) 3 = iI (wk D w 2) ∧ mm_gI m (s + 13 + w.toNat) 4 = iI (wk D w 3) ∧ mm_gI m (s + 13 + w.toNat) 5 = iI (wk D w 4) ∧ mm_gI m (s + 13 + w.toNat) 6 = iI (wk D w 5) ∧ mm_gI m (s + 13 + w.toNat) 7 = iI (wk D w 6)) ∧ (∀ q, 0 ≤ q → q < st D 7 → mm_gI m (s + 4) q.toNat = iI (mu D q 0) ∧ mm_gI m (s + 5) q.toNat = iI (mu D q 1) ∧ mm_gI m (s + 6) q.toNat = iI (mu D q 2)) ∧ LawR D m (s + 7) 0 (st D 9) ∧ LawR D m (s + 10) 2 (st D 10)
section
variable {D : Nat → Nat → Int32} {m m' m'' : mm_M} {d s W L : Nat}
theorem scS_C {a k : Nat} (hL : isLw L) (h : scC a k = false) : scS L a k = false := by
  unfold scS
  cases e : Nat.beq a (L + 2)
  · rfl
  · rw [Nat.eq_of_beq_eq_true e] at h
    rcases hL with rfl | rfl | rfl | rfl <;> exact absurd h (by simp [scC])
def scK (a _k : Nat) : Bool := Nat.beq a 113 || Nat.beq a 116 || Nat.beq a 134 || Nat.beq a 137
theorem scS_K {a k : Nat} (hL : isLw L) (h : scK a k = false) : scS L a k = false := by
  unfold scS
  cases e : Nat.beq a (L + 2)
  · rfl
  · rw [Nat.eq_of_beq_eq_true e] at h
    rcases hL with rfl | rfl | rfl | rfl <;> exact absurd h (by simp [scK])
theorem Fr.SC (hL : isLw L) (h : Fr (scS L) m m') : Fr scK m m' := h.mono (fun _ _ => scS_K hL)
theorem scK_C {a k : Nat} (h : scC a k = false) : scK a k = false := by
  unfold scC at h
  unfold scK
  simp only [Bool.or_eq_false_iff] at h ⊢
  exact ⟨⟨⟨h.1.1.1.1.1.1.1, h.1.1.1.1.1.1.2⟩, h.1.1.1.1.1.2⟩, h.1.1.1.1.2⟩
theorem Fr.KC (h : Fr scK m m') : FC m m' := (h.mono (fun _ _ => scK_C)).C
theorem LawR.cg {lo start : Int} (h : LawR D m L lo start) (e1 : mm_gI m' L 4 = mm_gI m L 4) (e2 : ∀ k, mm_gI m' (L + 1) k = mm_gI m (L + 1) k) : LawR D m' L lo start := by
  rcases h with ⟨a, b, c, d⟩ | ⟨a, b, c, d, e, f⟩ | ⟨a, b, n, n0, c, e, f⟩
  · exact Or.inl ⟨a, b, e1.trans c, (e2 _).trans d⟩
  · exact Or.inr (Or.inl ⟨a, b, e1.trans c, (e2 _).trans d, (e2 _).trans e, (e2 _).trans f⟩)
  · exact Or.inr (Or.inr ⟨a, b, n, n0, e1.trans c, e, fun i i0 i1 => ⟨(f i i0 i1).1, (e2 _).trans (f i i0 i1).2⟩⟩)
/-- a street stays while its places do -/
theorem RSt.cg (h : RSt D m s) (e : ∀ a k, s ≤ a → a ≤ s + 20 → ¬ a = s + 9 → ¬ a = s + 12 → mm_gI m' a k = mm_gI m a k) (k8 : st D 6 ≤ 8) : RSt D m' s := by
  obtain ⟨⟨h0, h1, h2, h3, h4, h5, h6, h7, h8⟩, ht, hw, hq, l1, l2⟩ := h
  have es : ∀ k, mm_gI m' s k = mm_gI m s k := fun k => e s k (by omega) (by omega) (by omega) (by omega)
  refine ⟨⟨(es _).trans h0, (es _).trans h1, (es _).trans h2, (es _).trans h3, (es _).trans h4, (es _).trans h5, (es _).trans h6, (es _).trans h7, (es _).trans h8⟩, fun w w0 w1 => (e _ _ (by omega) (by omega) (by omega) (by omega)).trans (ht w w0 w1), fun w w0 w1 => ?_, fun q q0 q1 => ?_, ?_, ?_⟩
  · have ew : ∀ k, mm_gI m' (s + 13 + w.toNat) k = mm_gI m (s + 13 + w.toNat) k := fun k => e _ k (by omega) (by omega) (by omega) (by omega)
    obtain ⟨a, b, c, d, f, g, i⟩ := hw w w0 w1
    exact ⟨(ew _).trans a, (ew _).trans b, (ew _).trans c, (ew _).trans d, (ew _).trans f, (ew _).trans g, (ew _).trans i⟩
  · obtain ⟨a, b, c⟩ := hq q q0 q1
    exact ⟨(e _ _ (by omega) (by omega) (by omega) (by omega)).trans a, (e _ _ (by omega) (by omega) (by omega) (by omega)).trans b, (e _ _ (by omega) (by omega) (by omega) (by omega)).trans c⟩
  · exact l1.cg (e _ _ (by omega) (by omega) (by omega) (by omega)) (fun k => e _ _ (by omega) (by omega) (by omega) (by omega))
  · exact l2.cg (e _ _ (by omega) (by omega) (by omega) (by omega)) (fun k => e _ _ (by omega) (by omega) (by omega) (by omega))
theorem sc_st {a k : Nat} (hs : isSt s) (h0 : s ≤ a) (h1 : a ≤ s + 20) (h2 : ¬ a = s + 9) (h3 : ¬ a = s + 12) : scC a k = false := by
  have n : ∀ x : Nat, ¬ a = x → Nat.beq a x = false := fun x hx => by
    cases e : Nat.beq a x
    · rfl
    · exact absurd (Nat.eq_of_beq_eq_true e) hx
  have b : ∀ x y : Nat, ¬ x ≤ y → Nat.ble x y = false := fun x y hx => by
    cases e : Nat.ble x y
    · rfl
    · exact absurd (Nat.ble_eq.mp e) hx
  have g : s = 104 ∨ s = 125 := hs
  unfold scC
  rw [n 113 (by omega), n 116 (by omega), n 134 (by omega), n 137 (by omega), n 176 (by omega), b 178 a (by omega), b 159 a (by omega), n 163 (by omega)]
  rfl
theorem RSt.fc (h : RSt D m s) (hs : isSt s) (f : FC m m') (k8 : st D 6 ≤ 8) : RSt D m' s := h.cg (fun _ _ a b c e => f.gI (sc_st hs a b c e)) k8
/-- act -/
theorem C27 {c : Int} {a b : Int32} (h0 : 4 ≤ c) (h1 : c ≤ 10) : mm_ev d 27 0 [some (.int (iI (encO c))), some (.int a), some (.int b)] [] m = some (some (some (.int (bothS c a b))), m) := by
  have hc : c = 4 ∨ c = 5 ∨ c = 6 ∨ c = 7 ∨ c = 8 ∨ c = 9 ∨ c = 10 := by omega
  rw [sg_27_0]
  unfold bothS encO
  rcases hc with rfl | rfl | rfl | rfl | rfl | rfl | rfl
  · simp (disch := omega) only [↓reduceIte, not_false_eq_true, not_true_eq_false, and_self, and_true, true_and, false_and, and_false, or_true, true_or, or_false, false_or, or_self, reduceCtorEq, mm_q, Option.getD_some, cI_some, cJ_some, cV_some, cS_some, kd_sI, kd_sL, kd_sR, kd_cp, ln_sI, ln_sL, ln_sR, ln_cp, gR_sI, gR_sL, gR_sR, gR_cp, gL_sI, gL_sR, gL_cp, gI_sL, gI_sR, iI_add, iI_sub, iI_mul, iI_neg, iI_in, iI_tn, iI_lt, iI_eq, Nat.reduceLeDiff, Nat.reduceEqDiff, Nat.reduceAdd, Int.reduceEq, Int.reduceLT, Int.reduceLE, Int.reduceNeg, Int.reduceAdd, Int.reduceSub, Int.reduceMul]
  · simp (disch := omega) only [↓reduceIte, not_false_eq_true, not_true_eq_false, and_self, and_true, true_and, false_and, and_false, or_true, true_or, or_false, false_or, or_self, reduceCtorEq, mm_q, Option.getD_some, cI_some, cJ_some, cV_some, cS_some, kd_sI, kd_sL, kd_sR, kd_cp, ln_sI, ln_sL, ln_sR, ln_cp, gR_sI, gR_sL, gR_sR, gR_cp, gL_sI, gL_sR, gL_cp, gI_sL, gI_sR, iI_add, iI_sub, iI_mul, iI_neg, iI_in, iI_tn, iI_lt, iI_eq, Nat.reduceLeDiff, Nat.reduceEqDiff, Nat.reduceAdd, Int.reduceEq, Int.reduceLT, Int.reduceLE, Int.reduceNeg, Int.reduceAdd, Int.reduceSub, Int.reduceMul]
  · simp (disch := omega) only [↓reduceIte, not_false_eq_true, not_true_eq_false, and_self, and_true, true_and, false_and, and_false, or_true, true_or, or_false, false_or, or_self, reduceCtorEq, mm_q, Option.getD_some, cI_some, cJ_some, cV_some, cS_some, kd_sI, kd_sL, kd_sR, kd_cp, ln_sI, ln_sL, ln_sR, ln_cp, gR_sI, gR_sL, gR_sR, gR_cp, gL_sI, gL_sR, gL_cp, gI_sL, gI_sR, iI_add, iI_sub, iI_mul, iI_neg, iI_in, iI_tn, iI_lt, iI_eq, Nat.reduceLeDiff, Nat.reduceEqDiff, Nat.reduceAdd, Int.reduceEq, Int.reduceLT, Int.reduceLE, Int.reduceNeg, Int.reduceAdd, Int.reduceSub, Int.reduceMul]
  · simp (disch := omega) only [↓reduceIte, not_false_eq_true, not_true_eq_false, and_self, and_true, true_and, false_and, and_false, or_true, true_or, or_false, false_or, or_self, reduceCtorEq, mm_q, Option.getD_some, cI_some, cJ_some, cV_some, cS_some, kd_sI, kd_sL, kd_sR, kd_cp, ln_sI, ln_sL, ln_sR, ln_cp, gR_sI, gR_sL, gR_sR, gR_cp, gL_sI, gL_sR, gL_cp, gI_sL, gI_sR, iI_add, iI_sub, iI_mul, iI_neg, iI_in, iI_tn, iI_lt, iI_eq, Nat.reduceLeDiff, Nat.reduceEqDiff, Nat.reduceAdd, Int.reduceEq, Int.reduceLT, Int.reduceLE, Int.reduceNeg, Int.reduceAdd, Int.reduceSub, Int.reduceMul]
    split <;> rfl
  · simp (disch := omega) only [↓reduceIte, not_false_eq_true, not_true_eq_false, and_self, and_true, true_and, false_and, and_false, or_true, true_or, or_false, false_or, or_self, reduceCtorEq, mm_q, Option.getD_some, cI_some, cJ_some, cV_some, cS_some, kd_sI, kd_sL, kd_sR, kd_cp, ln_sI, ln_sL, ln_sR, ln_cp, gR_sI, gR_sL, gR_sR, gR_cp, gL_sI, gL_sR, gL_cp, gI_sL, gI_sR, iI_add, iI_sub, iI_mul, iI_neg, iI_in, iI_tn, iI_lt, iI_eq, Nat.reduceLeDiff, Nat.reduceEqDiff, Nat.reduceAdd, Int.reduceEq, Int.reduceLT, Int.reduceLE, Int.reduceNeg, Int.reduceAdd, Int.reduceSub, Int.reduceMul]
    split <;> rfl
  · simp (disch := omega) only [↓reduceIte, not_false_eq_true, not_true_eq_false, and_self, and_true, true_and, false_and, and_false, or_true, true_or, or_false, false_or, or_self, reduceCtorEq, mm_q, Option.getD_some, cI_some, cJ_some, cV_some, cS_some, kd_sI, kd_sL, kd_sR, kd_cp, ln_sI, ln_sL, ln_sR, ln_cp, gR_sI, gR_sL, gR_sR, gR_cp, gL_sI, gL_sR, gL_cp, gI_sL, gI_sR, iI_add, iI_sub, iI_mul, iI_neg, iI_in, iI_tn, iI_lt, iI_eq, Nat.reduceLeDiff, Nat.reduceEqDiff, Nat.reduceAdd, Int.reduceEq, Int.reduceLT, Int.reduceLE, Int.reduceNeg, Int.reduceAdd, Int.reduceSub, Int.reduceMul]
    split
    · rfl
    · split <;> rfl
  · simp (disch := omega) only [↓reduceIte, not_false_eq_true, not_true_eq_false, and_self, and_true, true_and, false_and, and_false, or_true, true_or, or_false, false_or, or_self, reduceCtorEq, mm_q, Option.getD_some, cI_some, cJ_some, cV_some, cS_some, kd_sI, kd_sL, kd_sR, kd_cp, ln_sI, ln_sL, ln_sR, ln_cp, gR_sI, gR_sL, gR_sR, gR_cp, gL_sI, gL_sR, gL_cp, gI_sL, gI_sR, iI_add, iI_sub, iI_mul, iI_neg, iI_in, iI_tn, iI_lt, iI_eq, Nat.reduceLeDiff, Nat.reduceEqDiff, Nat.reduceAdd, Int.reduceEq, Int.reduceLT, Int.reduceLE, Int.reduceNeg, Int.reduceAdd, Int.reduceSub, Int.reduceMul]
    split
    · split <;> rfl
    · rfl
theorem stk_up {h : Nat} {v : Int32} : (fun k => mm_gI (mm_sI m (L + 2) h v) (L + 2) k) = upS (fun k => mm_gI m (L + 2) k) h v := by
  funext k
  unfold upS
  rw [gI_sI]
  simp only [true_and]
theorem encO_r {c : Int} : -11 ≤ encO c ∧ encO c ≤ -5 := by
  unfold encO
  repeat' split
  all_goals omega
/-- valueFor, told -/
theorem C26L (hL : isLw L) (hd : 1 ≤ d) {lo start n : Int} {x y : Int32} (hlo : lo = 0 ∨ lo = 2) (s0 : 0 ≤ start) (n1 : n ≤ 1000) (hn : opS D (start + n) = 0) : ∀ (f : Nat) (i : Int) (h : Nat) (m : mm_M) (z : Option Value), lawOk D lo f (start + i) h → h ≤ 32 → 0 ≤ i → i ≤ n → Sh m → mm_gI m L 4 = iI n → (∀ i, 0 ≤ i → i < n → ¬ opS D (start + i) = 0 ∧ mm_gI m (L + 1) i.toNat = iI (encS D lo (start + i))) → ∃ m', mm_ev d 26 5 [some (.ref L), some (.int x), some (.int y), some (.int (iI ((h : Int)))), some (.int (iI (i))), z] [] m = some (some (some (.int (lawGo D lo x y f (start + i) (fun k => mm_gI m (L + 2) k) h))), m') ∧ Fr (scS L) m m'
  | 0, _, _, _, _, ok, _, _, _, _, _, _ => ok.elim
  | f + 1, i, h, m, z, ok, hh, i0, i1, hs, hlen, hcd => by
    obtain ⟨-, c⟩ := ok
    have lf := lwF hs hL
    have gst : ∀ (k : Nat) (v : Int32), Fr (scS L) m (mm_sI m (L + 2) k v) := fun k v => Fr.sI (by unfold scS; exact Nat.beq_refl _)
    have key : ∀ (h2 : Nat) (k : Nat) (v : Int32) (z : Option Value), lawOk D lo f (start + (i + 1)) h2 → h2 ≤ 32 → i < n → ∃ m', mm_ev d 26 5 [some (.ref L), some (.int x), some (.int y), some (.int (iI ((h2 : Int)))), some (.int (iI (i + 1))), z] [] (mm_sI m (L + 2) k v) = some (some (some (.int (lawGo D lo x y f (start + (i + 1)) (upS (fun k => mm_gI m (L + 2) k) k v) h2))), m') ∧ Fr (scS L) m m' := by
      intro h2 k v z ok2 hh2 hi
      obtain ⟨m', e1, f1⟩ := C26L hL hd (x := x) (y := y) hlo s0 n1 hn f (i + 1) h2 (mm_sI m (L + 2) k v) z ok2 hh2 (by omega) (by omega) ((gst k v).sh hs) (by rw [gI_sI, if_neg (by omega)]; exact hlen) (fun j j0 j1 => ⟨(hcd j j0 j1).1, by rw [gI_sI, if_neg (by omega)]; exact (hcd j j0 j1).2⟩)
      rw [stk_up] at e1
      exact ⟨m', e1, (gst k v).tr f1⟩
    have o9 := opS_r (D := D) (start + i)
    have a9 := arS_r (D := D) (start + i)
    unfold lawGo
    rw [sg_26_5]
    have hin : ¬ opS D (start + i) = 0 → i < n := fun hz => by
      by_cases e : i = n
      · rw [e] at hz; exact absurd hn hz
      · omega
    have ec : i < n → mm_gI m (L + 1) i.toNat = iI (encS D lo (start + i)) := fun hi => (hcd i i0 hi).2
    rw [show start + i + 1 = start + (i + 1) by omega] at c ⊢
    rcases c with ⟨o, rfl⟩ | ⟨o, b0, h1, ok⟩ | ⟨o, b0, h1, ok⟩ | ⟨o, h1, ok⟩ | ⟨o1, o2, h1, ok⟩
    · refine ⟨m, ?_, Fr.rf⟩
      have hi : ¬ i < n := fun hi => (hcd i i0 hi).1 o
      simp (disch := omega) only [lf, ↓reduceIte, not_false_eq_true, not_true_eq_false, and_self, and_true, true_and, false_and, and_false, or_true, true_or, or_false, false_or, or_self, reduceCtorEq, mm_q, Option.getD_some, cI_some, cJ_some, cV_some, cS_some, kd_sI, kd_sL, kd_sR, kd_cp, ln_sI, ln_sL, ln_sR, ln_cp, gR_sI, gR_sL, gR_sR, gR_cp, gL_sI, gL_sR, gL_cp, gI_sL, gI_sR, iI_add, iI_sub, iI_mul, iI_neg, iI_in, iI_tn, iI_lt, iI_eq, Nat.reduceLeDiff, Nat.reduceEqDiff, Nat.reduceAdd, Int.reduceEq, Int.reduceLT, Int.reduceLE, Int.reduceNeg, Int.reduceAdd, Int.reduceSub, Int.reduceMul, hlen, hi, o]
      rfl
    · have hi := hin (by omega)
      have e2 := ec hi
      unfold encS at e2
      rw [if_pos o] at e2
      obtain ⟨m', e1, f1⟩ := key (h + 1) h (iI (arS D (start + i))) (some (.int (iI (arS D (start + i))))) ok (by omega) hi
      refine ⟨m', ?_, f1⟩
      rw [show ((h + 1 : Nat) : Int) = (h : Int) + 1 by omega] at e1
      simp (disch := omega) only [lf, ↓reduceIte, not_false_eq_true, not_true_eq_false, and_self, and_true, true_and, false_and, and_false, or_true, true_or, or_false, false_or, or_self, reduceCtorEq, mm_q, Option.getD_some, cI_some, cJ_some, cV_some, cS_some, kd_sI, kd_sL, kd_sR, kd_cp, ln_sI, ln_sL, ln_sR, ln_cp, gR_sI, gR_sL, gR_sR, gR_cp, gL_sI, gL_sR, gL_cp, gI_sL, gI_sR, iI_add, iI_sub, iI_mul, iI_neg, iI_in, iI_tn, iI_lt, iI_eq, Nat.reduceLeDiff, Nat.reduceEqDiff, Nat.reduceAdd, Int.reduceEq, Int.reduceLT, Int.reduceLE, Int.reduceNeg, Int.reduceAdd, Int.reduceSub, Int.reduceMul, hlen, hi, e2, o, show ¬ arS D (start + i) < -3 by omega, show ¬ arS D (start + i) = -2 by omega, show ¬ arS D (start + i) = -3 by omega, show (h : Int) < 32 by omega]
      rw [sg_26_65]
      simp (disch := omega) only [lf, ↓reduceIte, not_false_eq_true, not_true_eq_false, and_self, and_true, true_and, false_and, and_false, or_true, true_or, or_false, false_or, or_self, reduceCtorEq, mm_q, Option.getD_some, cI_some, cJ_some, cV_some, cS_some, kd_sI, kd_sL, kd_sR, kd_cp, ln_sI, ln_sL, ln_sR, ln_cp, gR_sI, gR_sL, gR_sR, gR_cp, gL_sI, gL_sR, gL_cp, gI_sL, gI_sR, iI_add, iI_sub, iI_mul, iI_neg, iI_in, iI_tn, iI_lt, iI_eq, Nat.reduceLeDiff, Nat.reduceEqDiff, Nat.reduceAdd, Int.reduceEq, Int.reduceLT, Int.reduceLE, Int.reduceNeg, Int.reduceAdd, Int.reduceSub, Int.reduceMul, Int.toNat_natCast, sg_26_145]
      exact e1
    · have hi := hin (by omega)
      have e2 := ec hi
      unfold encS at e2
      rw [if_neg (show ¬ opS D (start + i) = 1 by omega), if_pos o] at e2
      rcases b0 with b0 | b0
      · rw [if_pos b0] at e2
        obtain ⟨m', e1, f1⟩ := key (h + 1) h x (some (.int (iI (-2)))) ok (by omega) hi
        refine ⟨m', ?_, f1⟩
        rw [show ((h + 1 : Nat) : Int) = (h : Int) + 1 by omega] at e1
        rw [if_pos b0]
        simp (disch := omega) only [lf, ↓reduceIte, not_false_eq_true, not_true_eq_false, and_self, and_true, true_and, false_and, and_false, or_true, true_or, or_false, false_or, or_self, reduceCtorEq, mm_q, Option.getD_some, cI_some, cJ_some, cV_some, cS_some, kd_sI, kd_sL, kd_sR, kd_cp, ln_sI, ln_sL, ln_sR, ln_cp, gR_sI, gR_sL, gR_sR, gR_cp, gL_sI, gL_sR, gL_cp, gI_sL, gI_sR, iI_add, iI_sub, iI_mul, iI_neg, iI_in, iI_tn, iI_lt, iI_eq, Nat.reduceLeDiff, Nat.reduceEqDiff, Nat.reduceAdd, Int.reduceEq, Int.reduceLT, Int.reduceLE, Int.reduceNeg, Int.reduceAdd, Int.reduceSub, Int.reduceMul, hlen, hi, e2, o, show (h : Int) < 32 by omega]
        rw [sg_26_65]
        simp (disch := omega) only [lf, ↓reduceIte, not_false_eq_true, not_true_eq_false, and_self, and_true, true_and, false_and, and_false, or_true, true_or, or_false, false_or, or_self, reduceCtorEq, mm_q, Option.getD_some, cI_some, cJ_some, cV_some, cS_some, kd_sI, kd_sL, kd_sR, kd_cp, ln_sI, ln_sL, ln_sR, ln_cp, gR_sI, gR_sL, gR_sR, gR_cp, gL_sI, gL_sR, gL_cp, gI_sL, gI_sR, iI_add, iI_sub, iI_mul, iI_neg, iI_in, iI_tn, iI_lt, iI_eq, Nat.reduceLeDiff, Nat.reduceEqDiff, Nat.reduceAdd, Int.reduceEq, Int.reduceLT, Int.reduceLE, Int.reduceNeg, Int.reduceAdd, Int.reduceSub, Int.reduceMul, Int.toNat_natCast, sg_26_145]
        exact e1
      · rw [if_neg (by omega)] at e2
        obtain ⟨m', e1, f1⟩ := key (h + 1) h y (some (.int (iI (-3)))) ok (by omega) hi
        refine ⟨m', ?_, f1⟩
        rw [show ((h + 1 : Nat) : Int) = (h : Int) + 1 by omega] at e1
        rw [if_neg (show ¬ arS D (start + i) = lo by omega)]
        simp (disch := omega) only [lf, ↓reduceIte, not_false_eq_true, not_true_eq_false, and_self, and_true, true_and, false_and, and_false, or_true, true_or, or_false, false_or, or_self, reduceCtorEq, mm_q, Option.getD_some, cI_some, cJ_some, cV_some, cS_some, kd_sI, kd_sL, kd_sR, kd_cp, ln_sI, ln_sL, ln_sR, ln_cp, gR_sI, gR_sL, gR_sR, gR_cp, gL_sI, gL_sR, gL_cp, gI_sL, gI_sR, iI_add, iI_sub, iI_mul, iI_neg, iI_in, iI_tn, iI_lt, iI_eq, Nat.reduceLeDiff, Nat.reduceEqDiff, Nat.reduceAdd, Int.reduceEq, Int.reduceLT, Int.reduceLE, Int.reduceNeg, Int.reduceAdd, Int.reduceSub, Int.reduceMul, hlen, hi, e2, o, show (h : Int) < 32 by omega]
        rw [sg_26_65]
        simp (disch := omega) only [lf, ↓reduceIte, not_false_eq_true, not_true_eq_false, and_self, and_true, true_and, false_and, and_false, or_true, true_or, or_false, false_or, or_self, reduceCtorEq, mm_q, Option.getD_some, cI_some, cJ_some, cV_some, cS_some, kd_sI, kd_sL, kd_sR, kd_cp, ln_sI, ln_sL, ln_sR, ln_cp, gR_sI, gR_sL, gR_sR, gR_cp, gL_sI, gL_sR, gL_cp, gI_sL, gI_sR, iI_add, iI_sub, iI_mul, iI_neg, iI_in, iI_tn, iI_lt, iI_eq, Nat.reduceLeDiff, Nat.reduceEqDiff, Nat.reduceAdd, Int.reduceEq, Int.reduceLT, Int.reduceLE, Int.reduceNeg, Int.reduceAdd, Int.reduceSub, Int.reduceMul, Int.toNat_natCast, sg_26_145]
        exact e1
    · have hi := hin (by omega)
      have e2 := ec hi
      unfold encS at e2
      rw [if_neg (show ¬ opS D (start + i) = 1 by omega), if_neg (show ¬ opS D (start + i) = 2 by omega), if_pos o] at e2
      obtain ⟨m', e1, f1⟩ := key h (h - 1) (if mm_gI m (L + 2) (h - 1) = iI 0 then iI 1 else iI 0) (some (.int (iI (-4)))) ok (by omega) hi
      refine ⟨m', ?_, f1⟩
      have e4 : ((h : Int) - 1).toNat = h - 1 := by omega
      simp (disch := omega) only [lf, ↓reduceIte, not_false_eq_true, not_true_eq_false, and_self, and_true, true_and, false_and, and_false, or_true, true_or, or_false, false_or, or_self, reduceCtorEq, mm_q, Option.getD_some, cI_some, cJ_some, cV_some, cS_some, kd_sI, kd_sL, kd_sR, kd_cp, ln_sI, ln_sL, ln_sR, ln_cp, gR_sI, gR_sL, gR_sR, gR_cp, gL_sI, gL_sR, gL_cp, gI_sL, gI_sR, iI_add, iI_sub, iI_mul, iI_neg, iI_in, iI_tn, iI_lt, iI_eq, Nat.reduceLeDiff, Nat.reduceEqDiff, Nat.reduceAdd, Int.reduceEq, Int.reduceLT, Int.reduceLE, Int.reduceNeg, Int.reduceAdd, Int.reduceSub, Int.reduceMul, hlen, hi, e2, o, show (0 : Int) < (h : Int) by omega, e4]
      by_cases z9 : mm_gI m (L + 2) (h - 1) = iI 0
      · rw [if_pos z9] at e1 ⊢
        rw [if_pos z9, sg_26_106]
        simp (disch := omega) only [lf, ↓reduceIte, not_false_eq_true, not_true_eq_false, and_self, and_true, true_and, false_and, and_false, or_true, true_or, or_false, false_or, or_self, reduceCtorEq, mm_q, Option.getD_some, cI_some, cJ_some, cV_some, cS_some, kd_sI, kd_sL, kd_sR, kd_cp, ln_sI, ln_sL, ln_sR, ln_cp, gR_sI, gR_sL, gR_sR, gR_cp, gL_sI, gL_sR, gL_cp, gI_sL, gI_sR, iI_add, iI_sub, iI_mul, iI_neg, iI_in, iI_tn, iI_lt, iI_eq, Nat.reduceLeDiff, Nat.reduceEqDiff, Nat.reduceAdd, Int.reduceEq, Int.reduceLT, Int.reduceLE, Int.reduceNeg, Int.reduceAdd, Int.reduceSub, Int.reduceMul, e4, sg_26_145]
        exact e1
      · rw [if_neg z9] at e1 ⊢
        rw [if_neg z9, sg_26_106]
        simp (disch := omega) only [lf, ↓reduceIte, not_false_eq_true, not_true_eq_false, and_self, and_true, true_and, false_and, and_false, or_true, true_or, or_false, false_or, or_self, reduceCtorEq, mm_q, Option.getD_some, cI_some, cJ_some, cV_some, cS_some, kd_sI, kd_sL, kd_sR, kd_cp, ln_sI, ln_sL, ln_sR, ln_cp, gR_sI, gR_sL, gR_sR, gR_cp, gL_sI, gL_sR, gL_cp, gI_sL, gI_sR, iI_add, iI_sub, iI_mul, iI_neg, iI_in, iI_tn, iI_lt, iI_eq, Nat.reduceLeDiff, Nat.reduceEqDiff, Nat.reduceAdd, Int.reduceEq, Int.reduceLT, Int.reduceLE, Int.reduceNeg, Int.reduceAdd, Int.reduceSub, Int.reduceMul, e4, sg_26_145]
        exact e1
    · have hi := hin (by omega)
      have e2 := ec hi
      have er := encO_r (c := opS D (start + i))
      have e3 : encO (opS D (start + i)) ≠ -4 := by omega
      unfold encS at e2
      rw [if_neg (show ¬ opS D (start + i) = 1 by omega), if_neg (show ¬ opS D (start + i) = 2 by omega), if_neg (show ¬ opS D (start + i) = 3 by omega)] at e2
      obtain ⟨m', e1, f1⟩ := key (h - 1) (h - 2) (bothS (opS D (start + i)) (mm_gI m (L + 2) (h - 2)) (mm_gI m (L + 2) (h - 1))) (some (.int (iI (encO (opS D (start + i)))))) ok (by omega) hi
      refine ⟨m', ?_, f1⟩
      have e4 : ((h : Int) + -1 - 1).toNat = h - 2 := by omega
      have e5 : ((h : Int) + -1).toNat = h - 1 := by omega
      have e6 : ((h - 1 : Nat) : Int) = (h : Int) + -1 := by omega
      have n0 : ¬ opS D (start + i) = 0 := by omega
      have n1' : ¬ opS D (start + i) = 1 := by omega
      have n2 : ¬ opS D (start + i) = 2 := by omega
      have n3 : ¬ opS D (start + i) = 3 := by omega
      simp (disch := omega) only [lf, ↓reduceIte, not_false_eq_true, not_true_eq_false, and_self, and_true, true_and, false_and, and_false, or_true, true_or, or_false, false_or, or_self, reduceCtorEq, mm_q, Option.getD_some, cI_some, cJ_some, cV_some, cS_some, kd_sI, kd_sL, kd_sR, kd_cp, ln_sI, ln_sL, ln_sR, ln_cp, gR_sI, gR_sL, gR_sR, gR_cp, gL_sI, gL_sR, gL_cp, gI_sL, gI_sR, iI_add, iI_sub, iI_mul, iI_neg, iI_in, iI_tn, iI_lt, iI_eq, Nat.reduceLeDiff, Nat.reduceEqDiff, Nat.reduceAdd, Int.reduceEq, Int.reduceLT, Int.reduceLE, Int.reduceNeg, Int.reduceAdd, Int.reduceSub, Int.reduceMul, hlen, hi, e2, n0, n1', n2, n3, show encO (opS D (start + i)) < -3 by omega, show ¬ encO (opS D (start + i)) = -4 by omega]
      rw [sg_26_110 (by omega)]
      simp (disch := omega) only [lf, ↓reduceIte, not_false_eq_true, not_true_eq_false, and_self, and_true, true_and, false_and, and_false, or_true, true_or, or_false, false_or, or_self, reduceCtorEq, mm_q, Option.getD_some, cI_some, cJ_some, cV_some, cS_some, kd_sI, kd_sL, kd_sR, kd_cp, ln_sI, ln_sL, ln_sR, ln_cp, gR_sI, gR_sL, gR_sR, gR_cp, gL_sI, gL_sR, gL_cp, gI_sL, gI_sR, iI_add, iI_sub, iI_mul, iI_neg, iI_in, iI_tn, iI_lt, iI_eq, Nat.reduceLeDiff, Nat.reduceEqDiff, Nat.reduceAdd, Int.reduceEq, Int.reduceLT, Int.reduceLE, Int.reduceNeg, Int.reduceAdd, Int.reduceSub, Int.reduceMul, show (1 : Int) < (h : Int) by omega, e4, e5, C27]
      rw [sg_26_144]
      simp (disch := omega) only [lf, ↓reduceIte, not_false_eq_true, not_true_eq_false, and_self, and_true, true_and, false_and, and_false, or_true, true_or, or_false, false_or, or_self, reduceCtorEq, mm_q, Option.getD_some, cI_some, cJ_some, cV_some, cS_some, kd_sI, kd_sL, kd_sR, kd_cp, ln_sI, ln_sL, ln_sR, ln_cp, gR_sI, gR_sL, gR_sR, gR_cp, gL_sI, gL_sR, gL_cp, gI_sL, gI_sR, iI_add, iI_sub, iI_mul, iI_neg, iI_in, iI_tn, iI_lt, iI_eq, Nat.reduceLeDiff, Nat.reduceEqDiff, Nat.reduceAdd, Int.reduceEq, Int.reduceLT, Int.reduceLE, Int.reduceNeg, Int.reduceAdd, Int.reduceSub, Int.reduceMul, e4, sg_26_145]
      rw [e6] at e1
      exact e1
/-- valueFor -/
theorem C26 (hs : Sh m) (hL : isLw L) (hd : 1 ≤ d) {lo start : Int} {x y : Int32} (hR : LawR D m L lo start) (ok : 0 ≤ start → lawOk D lo 1100 start 0) : ∃ m', mm_ev d 26 0 [some (.ref L), some (.int x), some (.int y), none, none, none] [] m = some (some (some (.int (lawV D lo start x y))), m') ∧ Fr scK m m' := by
  have lf := lwF hs hL
  have gst : ∀ (m : mm_M) (k : Nat) (v : Int32), Fr (scS L) m (mm_sI m (L + 2) k v) := fun m k v => Fr.sI (by unfold scS; exact Nat.beq_refl _)
  unfold lawV
  rw [sg_26_0]
  rcases hR with ⟨a, b, c, e⟩ | ⟨a, b, c, e, f, g⟩ | ⟨a, b, n, ⟨n0, n1⟩, c, e, f⟩
  · refine ⟨mm_sI m (L + 2) 0 x, ?_, (gst m 0 x).SC hL⟩
    rw [if_pos a, if_pos b, sg_26_5]
    simp (disch := omega) only [lf, ↓reduceIte, not_false_eq_true, not_true_eq_false, and_self, and_true, true_and, false_and, and_false, or_true, true_or, or_false, false_or, or_self, reduceCtorEq, mm_q, Option.getD_some, cI_some, cJ_some, cV_some, cS_some, kd_sI, kd_sL, kd_sR, kd_cp, ln_sI, ln_sL, ln_sR, ln_cp, gR_sI, gR_sL, gR_sR, gR_cp, gL_sI, gL_sR, gL_cp, gI_sL, gI_sR, iI_add, iI_sub, iI_mul, iI_neg, iI_in, iI_tn, iI_lt, iI_eq, Nat.reduceLeDiff, Nat.reduceEqDiff, Nat.reduceAdd, Int.reduceEq, Int.reduceLT, Int.reduceLE, Int.reduceNeg, Int.reduceAdd, Int.reduceSub, Int.reduceMul, c, show Int.toNat 0 = 0 from rfl, e]
    rw [sg_26_65]
    simp (disch := omega) only [lf, ↓reduceIte, not_false_eq_true, not_true_eq_false, and_self, and_true, true_and, false_and, and_false, or_true, true_or, or_false, false_or, or_self, reduceCtorEq, mm_q, Option.getD_some, cI_some, cJ_some, cV_some, cS_some, kd_sI, kd_sL, kd_sR, kd_cp, ln_sI, ln_sL, ln_sR, ln_cp, gR_sI, gR_sL, gR_sR, gR_cp, gL_sI, gL_sR, gL_cp, gI_sL, gI_sR, iI_add, iI_sub, iI_mul, iI_neg, iI_in, iI_tn, iI_lt, iI_eq, Nat.reduceLeDiff, Nat.reduceEqDiff, Nat.reduceAdd, Int.reduceEq, Int.reduceLT, Int.reduceLE, Int.reduceNeg, Int.reduceAdd, Int.reduceSub, Int.reduceMul, show Int.toNat 0 = 0 from rfl, sg_26_145]
    rw [sg_26_5]
    simp (disch := omega) only [lf, ↓reduceIte, not_false_eq_true, not_true_eq_false, and_self, and_true, true_and, false_and, and_false, or_true, true_or, or_false, false_or, or_self, reduceCtorEq, mm_q, Option.getD_some, cI_some, cJ_some, cV_some, cS_some, kd_sI, kd_sL, kd_sR, kd_cp, ln_sI, ln_sL, ln_sR, ln_cp, gR_sI, gR_sL, gR_sR, gR_cp, gL_sI, gL_sR, gL_cp, gI_sL, gI_sR, iI_add, iI_sub, iI_mul, iI_neg, iI_in, iI_tn, iI_lt, iI_eq, Nat.reduceLeDiff, Nat.reduceEqDiff, Nat.reduceAdd, Int.reduceEq, Int.reduceLT, Int.reduceLE, Int.reduceNeg, Int.reduceAdd, Int.reduceSub, Int.reduceMul, gI_sI, show ¬ L = L + 2 by omega, c, show Int.toNat 0 = 0 from rfl]
  · refine ⟨mm_sI (mm_sI (mm_sI m (L + 2) 0 y) (L + 2) 1 (iI 1)) (L + 2) 0 (y - iI 1), ?_, (((gst _ _ _).tr (gst _ _ _)).tr (gst _ _ _)).SC hL⟩
    rw [if_pos a, if_neg (by omega), sg_26_5]
    simp (disch := omega) only [lf, ↓reduceIte, not_false_eq_true, not_true_eq_false, and_self, and_true, true_and, false_and, and_false, or_true, true_or, or_false, false_or, or_self, reduceCtorEq, mm_q, Option.getD_some, cI_some, cJ_some, cV_some, cS_some, kd_sI, kd_sL, kd_sR, kd_cp, ln_sI, ln_sL, ln_sR, ln_cp, gR_sI, gR_sL, gR_sR, gR_cp, gL_sI, gL_sR, gL_cp, gI_sL, gI_sR, iI_add, iI_sub, iI_mul, iI_neg, iI_in, iI_tn, iI_lt, iI_eq, Nat.reduceLeDiff, Nat.reduceEqDiff, Nat.reduceAdd, Int.reduceEq, Int.reduceLT, Int.reduceLE, Int.reduceNeg, Int.reduceAdd, Int.reduceSub, Int.reduceMul, c, show Int.toNat 0 = 0 from rfl, e]
    rw [sg_26_65]
    simp (disch := omega) only [lf, ↓reduceIte, not_false_eq_true, not_true_eq_false, and_self, and_true, true_and, false_and, and_false, or_true, true_or, or_false, false_or, or_self, reduceCtorEq, mm_q, Option.getD_some, cI_some, cJ_some, cV_some, cS_some, kd_sI, kd_sL, kd_sR, kd_cp, ln_sI, ln_sL, ln_sR, ln_cp, gR_sI, gR_sL, gR_sR, gR_cp, gL_sI, gL_sR, gL_cp, gI_sL, gI_sR, iI_add, iI_sub, iI_mul, iI_neg, iI_in, iI_tn, iI_lt, iI_eq, Nat.reduceLeDiff, Nat.reduceEqDiff, Nat.reduceAdd, Int.reduceEq, Int.reduceLT, Int.reduceLE, Int.reduceNeg, Int.reduceAdd, Int.reduceSub, Int.reduceMul, show Int.toNat 0 = 0 from rfl, sg_26_145]
    rw [sg_26_5]
    simp (disch := omega) only [lf, ↓reduceIte, not_false_eq_true, not_true_eq_false, and_self, and_true, true_and, false_and, and_false, or_true, true_or, or_false, false_or, or_self, reduceCtorEq, mm_q, Option.getD_some, cI_some, cJ_some, cV_some, cS_some, kd_sI, kd_sL, kd_sR, kd_cp, ln_sI, ln_sL, ln_sR, ln_cp, gR_sI, gR_sL, gR_sR, gR_cp, gL_sI, gL_sR, gL_cp, gI_sL, gI_sR, iI_add, iI_sub, iI_mul, iI_neg, iI_in, iI_tn, iI_lt, iI_eq, Nat.reduceLeDiff, Nat.reduceEqDiff, Nat.reduceAdd, Int.reduceEq, Int.reduceLT, Int.reduceLE, Int.reduceNeg, Int.reduceAdd, Int.reduceSub, Int.reduceMul, gI_sI, show ¬ L = L + 2 by omega, show ¬ L + 1 = L + 2 by omega, c, show Int.toNat 1 = 1 from rfl, f]
    rw [sg_26_65]
    simp (disch := omega) only [lf, ↓reduceIte, not_false_eq_true, not_true_eq_false, and_self, and_true, true_and, false_and, and_false, or_true, true_or, or_false, false_or, or_self, reduceCtorEq, mm_q, Option.getD_some, cI_some, cJ_some, cV_some, cS_some, kd_sI, kd_sL, kd_sR, kd_cp, ln_sI, ln_sL, ln_sR, ln_cp, gR_sI, gR_sL, gR_sR, gR_cp, gL_sI, gL_sR, gL_cp, gI_sL, gI_sR, iI_add, iI_sub, iI_mul, iI_neg, iI_in, iI_tn, iI_lt, iI_eq, Nat.reduceLeDiff, Nat.reduceEqDiff, Nat.reduceAdd, Int.reduceEq, Int.reduceLT, Int.reduceLE, Int.reduceNeg, Int.reduceAdd, Int.reduceSub, Int.reduceMul, show Int.toNat 1 = 1 from rfl, sg_26_145]
    rw [sg_26_5]
    simp (disch := omega) only [lf, ↓reduceIte, not_false_eq_true, not_true_eq_false, and_self, and_true, true_and, false_and, and_false, or_true, true_or, or_false, false_or, or_self, reduceCtorEq, mm_q, Option.getD_some, cI_some, cJ_some, cV_some, cS_some, kd_sI, kd_sL, kd_sR, kd_cp, ln_sI, ln_sL, ln_sR, ln_cp, gR_sI, gR_sL, gR_sR, gR_cp, gL_sI, gL_sR, gL_cp, gI_sL, gI_sR, iI_add, iI_sub, iI_mul, iI_neg, iI_in, iI_tn, iI_lt, iI_eq, Nat.reduceLeDiff, Nat.reduceEqDiff, Nat.reduceAdd, Int.reduceEq, Int.reduceLT, Int.reduceLE, Int.reduceNeg, Int.reduceAdd, Int.reduceSub, Int.reduceMul, gI_sI, show ¬ L = L + 2 by omega, show ¬ L + 1 = L + 2 by omega, c, show Int.toNat 2 = 2 from rfl, g]
    rw [sg_26_110 (by omega)]
    have e27 := C27 (d := d - 1) (m := mm_sI (mm_sI m (L + 2) 0 y) (L + 2) 1 (iI 1)) (c := 5) (a := y) (b := iI 1) (by omega) (by omega)
    rw [show encO 5 = -10 from rfl, show bothS 5 y (iI 1) = y - iI 1 from rfl] at e27
    simp (disch := omega) only [lf, ↓reduceIte, not_false_eq_true, not_true_eq_false, and_self, and_true, true_and, false_and, and_false, or_true, true_or, or_false, false_or, or_self, reduceCtorEq, mm_q, Option.getD_some, cI_some, cJ_some, cV_some, cS_some, kd_sI, kd_sL, kd_sR, kd_cp, ln_sI, ln_sL, ln_sR, ln_cp, gR_sI, gR_sL, gR_sR, gR_cp, gL_sI, gL_sR, gL_cp, gI_sL, gI_sR, iI_add, iI_sub, iI_mul, iI_neg, iI_in, iI_tn, iI_lt, iI_eq, Nat.reduceLeDiff, Nat.reduceEqDiff, Nat.reduceAdd, Int.reduceEq, Int.reduceLT, Int.reduceLE, Int.reduceNeg, Int.reduceAdd, Int.reduceSub, Int.reduceMul, gI_sI, show Int.toNat 0 = 0 from rfl, show Int.toNat 1 = 1 from rfl, e27]
    rw [sg_26_144]
    simp (disch := omega) only [lf, ↓reduceIte, not_false_eq_true, not_true_eq_false, and_self, and_true, true_and, false_and, and_false, or_true, true_or, or_false, false_or, or_self, reduceCtorEq, mm_q, Option.getD_some, cI_some, cJ_some, cV_some, cS_some, kd_sI, kd_sL, kd_sR, kd_cp, ln_sI, ln_sL, ln_sR, ln_cp, gR_sI, gR_sL, gR_sR, gR_cp, gL_sI, gL_sR, gL_cp, gI_sL, gI_sR, iI_add, iI_sub, iI_mul, iI_neg, iI_in, iI_tn, iI_lt, iI_eq, Nat.reduceLeDiff, Nat.reduceEqDiff, Nat.reduceAdd, Int.reduceEq, Int.reduceLT, Int.reduceLE, Int.reduceNeg, Int.reduceAdd, Int.reduceSub, Int.reduceMul, show Int.toNat 0 = 0 from rfl, sg_26_145]
    rw [sg_26_5]
    simp (disch := omega) only [lf, ↓reduceIte, not_false_eq_true, not_true_eq_false, and_self, and_true, true_and, false_and, and_false, or_true, true_or, or_false, false_or, or_self, reduceCtorEq, mm_q, Option.getD_some, cI_some, cJ_some, cV_some, cS_some, kd_sI, kd_sL, kd_sR, kd_cp, ln_sI, ln_sL, ln_sR, ln_cp, gR_sI, gR_sL, gR_sR, gR_cp, gL_sI, gL_sR, gL_cp, gI_sL, gI_sR, iI_add, iI_sub, iI_mul, iI_neg, iI_in, iI_tn, iI_lt, iI_eq, Nat.reduceLeDiff, Nat.reduceEqDiff, Nat.reduceAdd, Int.reduceEq, Int.reduceLT, Int.reduceLE, Int.reduceNeg, Int.reduceAdd, Int.reduceSub, Int.reduceMul, gI_sI, show ¬ L = L + 2 by omega, c, show Int.toNat 0 = 0 from rfl, Int.lt_irrefl]
  · have ok2 := ok a
    rw [show start = start + 0 by omega] at ok2
    obtain ⟨m', e1, f1⟩ := C26L (x := x) (y := y) hL hd b a n1 e 1100 0 0 m none ok2 (by omega) (by omega) n0 hs c f
    refine ⟨m', ?_, f1.SC hL⟩
    rw [if_neg (by omega)]
    unfold lawS
    rw [show start + 0 = start by omega] at e1 ok2
    rw [lawGo_c 1100 start 0 (fun _ => iI 0) (fun k => mm_gI m (L + 2) k) ok2 (fun k hk => by omega)]
    exact e1
end
