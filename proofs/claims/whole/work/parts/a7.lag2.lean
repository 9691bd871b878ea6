/-- the rows of the chosen ones -/
def ROWS (D : Nat → Nat → Int32) (m : mm_M) (n : Int) (c : Int → Int) : Prop := ∀ i, 0 ≤ i → i < n → mm_gI m 185 i.toNat = iI (c i) ∧ ∀ t, 0 ≤ t → t ≤ 600 → mm_gI m (187 + i.toNat) t.toNat = iI (lpW D (c i) 0 t)
def TB (D : Nat → Nat → Int32) (m : mm_M) (c : Int → Int) (i k : Int) (P : Int → Int → Prop) : Prop := ∀ a b, 0 ≤ a → a < 24 → 0 ≤ b → b < 24 → (bi (mm_gI m 192 ((i * 4 + k) * 24 + a).toNat) b = true ↔ ¬ (P a b ∧ bmp D (c i) (c k) a b))
def sc192 (a _k : Nat) : Bool := Nat.beq a 192
def F19 (i k : Int) (m m' : mm_M) : Prop := Fr sc192 m m' ∧ ∀ j : Nat, (j < ((i * 4 + k) * 24).toNat ∨ ((i * 4 + k) * 24 + 24).toNat ≤ j) → mm_gI m' 192 j = mm_gI m 192 j
def Pg (g e a b : Int) : Prop := (a - b < g ∧ b - a < g) ∨ (a - b = g ∧ b < e) ∨ (b - a = g ∧ a < e)
section
variable {D : Nat → Nat → Int32} {m m' m'' : mm_M} {d s : Nat} {c : Int → Int} {n : Int} {P Q : Int → Int → Prop}
theorem rowF (hs : Sh m) {i : Int} (i0 : 0 ≤ i) (i1 : i < 4) : mm_gR m 186 i.toNat = some (187 + i.toNat) ∧ mm_kd m (187 + i.toNat) = 20 ∧ mm_ln m (187 + i.toNat) = 601 := by
  have w := shW hs
  have : i = 0 ∨ i = 1 ∨ i = 2 ∨ i = 3 := by omega
  rcases this with rfl | rfl | rfl | rfl
  · exact ⟨by simp [w], by simp [w], by simp [w]⟩
  · exact ⟨by simp [w], by simp [w], by simp [w]⟩
  · exact ⟨by simp [w], by simp [w], by simp [w]⟩
  · exact ⟨by simp [w], by simp [w], by simp [w]⟩
theorem ROWS.f (h : ROWS D m n c) (f : Fr sc192 m m') (n4 : n ≤ 4) : ROWS D m' n c := fun i i0 i1 => ⟨(f.gI rfl).trans (h i i0 i1).1, fun t t0 t1 => by
  rw [f.gI (by
    unfold sc192
    cases e : Nat.beq (187 + i.toNat) 192
    · rfl
    · have := Nat.eq_of_beq_eq_true e
      omega)]
  exact (h i i0 i1).2 t t0 t1⟩
/-- cellWith -/
theorem C17 (hs : Sh m) (h : ROWS D m n c) (hc : coK D n c) (hI : InvS D) (hIB : InvB D (sa D)) {i a t : Int} (i0 : 0 ≤ i) (i1 : i < n) (a0 : 0 ≤ a) (a1 : a < 24) (t0 : 0 ≤ t) (t1 : t ≤ 600) : mm_ev d 17 0 [some (.ref 184), (some (.int (iI (i)))), (some (.int (iI (a)))), (some (.int (iI (t))))] [] m = some (some (some (.int (iI (lpW D (c i) a t)))), m) := by
  obtain ⟨w0, w1⟩ := hc.2 i i0 i1
  obtain ⟨n0, n1⟩ := hc.1
  obtain ⟨r1, r2, r3⟩ := rowF hs i0 (by omega)
  have e := (h i i0 i1).2 (max 0 (t - a)) (by omega) (by omega)
  rw [lp_sh hI hIB w0 w1 a0 t0, ← e, sg_17_0]
  simp (disch := omega) only [shW hs, ↓reduceIte, not_false_eq_true, not_true_eq_false, and_self, and_true, true_and, false_and, and_false, or_true, true_or, or_false, false_or, or_self, reduceCtorEq, mm_q, Option.getD_some, cI_some, cJ_some, cV_some, cS_some, kd_sI, kd_sL, kd_sR, kd_cp, ln_sI, ln_sL, ln_sR, ln_cp, gR_sI, gR_sL, gR_sR, gR_cp, gL_sI, gL_sR, gL_cp, gI_sL, gI_sR, iI_add, iI_sub, iI_mul, iI_neg, iI_in, iI_tn, iI_lt, iI_eq, Nat.reduceLeDiff, Nat.reduceEqDiff, Nat.reduceAdd, Int.reduceEq, Int.reduceLT, Int.reduceLE, Int.reduceNeg, Int.reduceAdd, Int.reduceSub, Int.reduceMul, iI_max, r1, r2, r3, Nat.reduceLeDiff]
/-- firstBump -/
theorem C20L (hs : Sh m) (h : ROWS D m n c) (hc : coK D n c) (hI : InvS D) (hIB : InvB D (sa D)) (hd : 1 ≤ d) {i a k b : Int} (i0 : 0 ≤ i) (i1 : i < n) (a0 : 0 ≤ a) (a1 : a < 24) (k0 : 0 ≤ k) (k1 : k < n) (b0 : 0 ≤ b) (b1 : b < 24) : ∀ (r : Nat) (t : Int) (z : Option Value), t = 601 - r → 0 ≤ t → mm_ev d 20 3 [some (.ref 184), (some (.int (iI (i)))), (some (.int (iI (a)))), (some (.int (iI (k)))), (some (.int (iI (b)))), (some (.int (iI (t)))), z] [] m = some (some (some (.int (iI (fbGo (fbP D (c i) (c k) a b) r t)))), m)
  | 0, t, z, ht, t0 => by
    rw [sg_20_3 (by omega)]
    unfold fbGo
    simp (disch := omega) only [↓reduceIte, not_false_eq_true, not_true_eq_false, and_self, and_true, true_and, false_and, and_false, or_true, true_or, or_false, false_or, or_self, reduceCtorEq, mm_q, Option.getD_some, cI_some, cJ_some, cV_some, cS_some, kd_sI, kd_sL, kd_sR, kd_cp, ln_sI, ln_sL, ln_sR, ln_cp, gR_sI, gR_sL, gR_sR, gR_cp, gL_sI, gL_sR, gL_cp, gI_sL, gI_sR, iI_add, iI_sub, iI_mul, iI_neg, iI_in, iI_tn, iI_lt, iI_eq, Nat.reduceLeDiff, Nat.reduceEqDiff, Nat.reduceAdd, Int.reduceEq, Int.reduceLT, Int.reduceLE, Int.reduceNeg, Int.reduceAdd, Int.reduceSub, Int.reduceMul, show 600 < t by omega]
  | r + 1, t, z, ht, t0 => by
    obtain ⟨w0, w1⟩ := hc.2 i i0 i1
    obtain ⟨v0, v1⟩ := hc.2 k k0 k1
    have x := hI.1
    have l1 := lp_r hI hIB w0 w1 (b := a) (t := t)
    have l2 := lp_r hI hIB v0 v1 (b := b) (t := t)
    have q1 := C17 (d := d - 1) hs h hc hI hIB i0 i1 a0 a1 t0 (show t ≤ 600 by omega)
    have q2 := C17 (d := d - 1) hs h hc hI hIB k0 k1 b0 b1 t0 (show t ≤ 600 by omega)
    have ih := C20L hs h hc hI hIB hd i0 i1 a0 a1 k0 k1 b0 b1 r (t + 1)
    have run : mm_ev d 20 3 [some (.ref 184), (some (.int (iI (i)))), (some (.int (iI (a)))), (some (.int (iI (k)))), (some (.int (iI (b)))), (some (.int (iI (t)))), z] [] m = mm_ev d 20 19 [some (.ref 184), (some (.int (iI (i)))), (some (.int (iI (a)))), (some (.int (iI (k)))), (some (.int (iI (b)))), (some (.int (iI (t)))), z] [.int (iI (lpW D (c i) a t))] m := by
      rw [sg_20_3 (by omega)]
      simp (disch := omega) only [shW hs, ↓reduceIte, not_false_eq_true, not_true_eq_false, and_self, and_true, true_and, false_and, and_false, or_true, true_or, or_false, false_or, or_self, reduceCtorEq, mm_q, Option.getD_some, cI_some, cJ_some, cV_some, cS_some, kd_sI, kd_sL, kd_sR, kd_cp, ln_sI, ln_sL, ln_sR, ln_cp, gR_sI, gR_sL, gR_sR, gR_cp, gL_sI, gL_sR, gL_cp, gI_sL, gI_sR, iI_add, iI_sub, iI_mul, iI_neg, iI_in, iI_tn, iI_lt, iI_eq, Nat.reduceLeDiff, Nat.reduceEqDiff, Nat.reduceAdd, Int.reduceEq, Int.reduceLT, Int.reduceLE, Int.reduceNeg, Int.reduceAdd, Int.reduceSub, Int.reduceMul, show ¬ 600 < t by omega, q1]
    rw [run]
    by_cases y : lpW D (c i) a t = -1
    · have hf : fbGo (fbP D (c i) (c k) a b) (r + 1) t = fbGo (fbP D (c i) (c k) a b) r (t + 1) := by
        rw [fbGo, if_neg]
        unfold fbP
        rw [decide_eq_false (show ¬ 0 ≤ lpW D (c i) a t by omega), Bool.false_and]
        decide
      rw [hf, sg_20_19 (by omega)]
      simp (disch := omega) only [shW hs, ↓reduceIte, not_false_eq_true, not_true_eq_false, and_self, and_true, true_and, false_and, and_false, or_true, true_or, or_false, false_or, or_self, reduceCtorEq, mm_q, Option.getD_some, cI_some, cJ_some, cV_some, cS_some, kd_sI, kd_sL, kd_sR, kd_cp, ln_sI, ln_sL, ln_sR, ln_cp, gR_sI, gR_sL, gR_sR, gR_cp, gL_sI, gL_sR, gL_cp, gI_sL, gI_sR, iI_add, iI_sub, iI_mul, iI_neg, iI_in, iI_tn, iI_lt, iI_eq, Nat.reduceLeDiff, Nat.reduceEqDiff, Nat.reduceAdd, Int.reduceEq, Int.reduceLT, Int.reduceLE, Int.reduceNeg, Int.reduceAdd, Int.reduceSub, Int.reduceMul, y]
      rw [sg_20_44]
      simp (disch := omega) only [↓reduceIte, not_false_eq_true, not_true_eq_false, and_self, and_true, true_and, false_and, and_false, or_true, true_or, or_false, false_or, or_self, reduceCtorEq, mm_q, Option.getD_some, cI_some, cJ_some, cV_some, cS_some, kd_sI, kd_sL, kd_sR, kd_cp, ln_sI, ln_sL, ln_sR, ln_cp, gR_sI, gR_sL, gR_sR, gR_cp, gL_sI, gL_sR, gL_cp, gI_sL, gI_sR, iI_add, iI_sub, iI_mul, iI_neg, iI_in, iI_tn, iI_lt, iI_eq, Nat.reduceLeDiff, Nat.reduceEqDiff, Nat.reduceAdd, Int.reduceEq, Int.reduceLT, Int.reduceLE, Int.reduceNeg, Int.reduceAdd, Int.reduceSub, Int.reduceMul]
      exact ih _ (by omega) (by omega)
    · by_cases u : lpW D (c i) a t = lpW D (c k) b t
      · have hf : fbGo (fbP D (c i) (c k) a b) (r + 1) t = t := by
          rw [fbGo, if_pos]
          unfold fbP
          rw [decide_eq_true (show 0 ≤ lpW D (c i) a t by omega), decide_eq_true u, Bool.and_self]
        rw [hf, sg_20_19 (by omega)]
        simp (disch := omega) only [shW hs, ↓reduceIte, not_false_eq_true, not_true_eq_false, and_self, and_true, true_and, false_and, and_false, or_true, true_or, or_false, false_or, or_self, reduceCtorEq, mm_q, Option.getD_some, cI_some, cJ_some, cV_some, cS_some, kd_sI, kd_sL, kd_sR, kd_cp, ln_sI, ln_sL, ln_sR, ln_cp, gR_sI, gR_sL, gR_sR, gR_cp, gL_sI, gL_sR, gL_cp, gI_sL, gI_sR, iI_add, iI_sub, iI_mul, iI_neg, iI_in, iI_tn, iI_lt, iI_eq, Nat.reduceLeDiff, Nat.reduceEqDiff, Nat.reduceAdd, Int.reduceEq, Int.reduceLT, Int.reduceLE, Int.reduceNeg, Int.reduceAdd, Int.reduceSub, Int.reduceMul, y, q2, u, show ¬ lpW D (c k) b t = -1 by omega]
      · have hf : fbGo (fbP D (c i) (c k) a b) (r + 1) t = fbGo (fbP D (c i) (c k) a b) r (t + 1) := by
          rw [fbGo, if_neg]
          unfold fbP
          rw [decide_eq_false u, Bool.and_false]
          decide
        rw [hf, sg_20_19 (by omega)]
        simp (disch := omega) only [shW hs, ↓reduceIte, not_false_eq_true, not_true_eq_false, and_self, and_true, true_and, false_and, and_false, or_true, true_or, or_false, false_or, or_self, reduceCtorEq, mm_q, Option.getD_some, cI_some, cJ_some, cV_some, cS_some, kd_sI, kd_sL, kd_sR, kd_cp, ln_sI, ln_sL, ln_sR, ln_cp, gR_sI, gR_sL, gR_sR, gR_cp, gL_sI, gL_sR, gL_cp, gI_sL, gI_sR, iI_add, iI_sub, iI_mul, iI_neg, iI_in, iI_tn, iI_lt, iI_eq, Nat.reduceLeDiff, Nat.reduceEqDiff, Nat.reduceAdd, Int.reduceEq, Int.reduceLT, Int.reduceLE, Int.reduceNeg, Int.reduceAdd, Int.reduceSub, Int.reduceMul, y, q2, u]
        rw [sg_20_44]
        simp (disch := omega) only [↓reduceIte, not_false_eq_true, not_true_eq_false, and_self, and_true, true_and, false_and, and_false, or_true, true_or, or_false, false_or, or_self, reduceCtorEq, mm_q, Option.getD_some, cI_some, cJ_some, cV_some, cS_some, kd_sI, kd_sL, kd_sR, kd_cp, ln_sI, ln_sL, ln_sR, ln_cp, gR_sI, gR_sL, gR_sR, gR_cp, gL_sI, gL_sR, gL_cp, gI_sL, gI_sR, iI_add, iI_sub, iI_mul, iI_neg, iI_in, iI_tn, iI_lt, iI_eq, Nat.reduceLeDiff, Nat.reduceEqDiff, Nat.reduceAdd, Int.reduceEq, Int.reduceLT, Int.reduceLE, Int.reduceNeg, Int.reduceAdd, Int.reduceSub, Int.reduceMul]
        exact ih _ (by omega) (by omega)
theorem C20 (hs : Sh m) (h : ROWS D m n c) (hc : coK D n c) (hI : InvS D) (hIB : InvB D (sa D)) (hd : 1 ≤ d) {i a k b : Int} (i0 : 0 ≤ i) (i1 : i < n) (a0 : 0 ≤ a) (a1 : a < 24) (k0 : 0 ≤ k) (k1 : k < n) (b0 : 0 ≤ b) (b1 : b < 24) : mm_ev d 20 0 [some (.ref 184), (some (.int (iI (i)))), (some (.int (iI (a)))), (some (.int (iI (k)))), (some (.int (iI (b)))), none, none] [] m = some (some (some (.int (iI (fbGo (fbP D (c i) (c k) a b) 601 0)))), m) := by
  rw [sg_20_0]
  exact C20L hs h hc hI hIB hd i0 i1 a0 a1 k0 k1 b0 b1 601 0 none (by omega) (by omega)
/-- forbid -/
theorem C21 (hs : Sh m) {i a k b : Int} (i0 : 0 ≤ i) (i1 : i < 4) (a0 : 0 ≤ a) (a1 : a < 24) (k0 : 0 ≤ k) (k1 : k < 4) : mm_ev d 21 0 [some (.ref 184), (some (.int (iI (i)))), (some (.int (iI (a)))), (some (.int (iI (k)))), (some (.int (iI (b))))] [] m = some (some none, mm_sI m 192 ((i * 4 + k) * 24 + a).toNat (mm_gI m 192 ((i * 4 + k) * 24 + a).toNat &&& (iShl (iI 1) (iI b) ^^^ iI (-1)))) := by
  rw [sg_21_0]
  simp (disch := omega) only [shW hs, ↓reduceIte, not_false_eq_true, not_true_eq_false, and_self, and_true, true_and, false_and, and_false, or_true, true_or, or_false, false_or, or_self, reduceCtorEq, mm_q, Option.getD_some, cI_some, cJ_some, cV_some, cS_some, kd_sI, kd_sL, kd_sR, kd_cp, ln_sI, ln_sL, ln_sR, ln_cp, gR_sI, gR_sL, gR_sR, gR_cp, gL_sI, gL_sR, gL_cp, gI_sL, gI_sR, iI_add, iI_sub, iI_mul, iI_neg, iI_in, iI_tn, iI_lt, iI_eq, Nat.reduceLeDiff, Nat.reduceEqDiff, Nat.reduceAdd, Int.reduceEq, Int.reduceLT, Int.reduceLE, Int.reduceNeg, Int.reduceAdd, Int.reduceSub, Int.reduceMul]
theorem TB.cg {i k : Int} (h : TB D m c i k P) (e : ∀ a b, 0 ≤ a → a < 24 → 0 ≤ b → b < 24 → (P a b ↔ Q a b)) : TB D m c i k Q := fun a b a0 a1 b0 b1 => by
  rw [h a b a0 a1 b0 b1, e a b a0 a1 b0 b1]
theorem TB.st {i k x y : Int} (h : TB D m c i k P) (i0 : 0 ≤ i) (k0 : 0 ≤ k) (x0 : 0 ≤ x) (x1 : x < 24) (y0 : 0 ≤ y) (y1 : y < 24) (hb : bmp D (c i) (c k) x y) : TB D (mm_sI m 192 ((i * 4 + k) * 24 + x).toNat (mm_gI m 192 ((i * 4 + k) * 24 + x).toNat &&& (iShl (iI 1) (iI y) ^^^ iI (-1)))) c i k (fun a b => P a b ∨ (a = x ∧ b = y)) := fun a b a0 a1 b0 b1 => by
  have o := h a b a0 a1 b0 b1
  rw [gI_sI]
  by_cases z : a = x
  · rw [z] at o ⊢
    rw [if_pos ⟨rfl, rfl⟩, bi_and, bi_not b0 (by omega), bi_shl y0 (by omega) b0 (by omega), Bool.and_eq_true, o]
    by_cases u : b = y
    · rw [decide_eq_true u, u]
      constructor
      · rintro ⟨_, q⟩; cases q
      · intro q; exact absurd ⟨Or.inr ⟨rfl, rfl⟩, hb⟩ q
    · rw [decide_eq_false u]
      constructor
      · rintro ⟨q, _⟩ ⟨p | p, w⟩
        · exact q ⟨p, w⟩
        · exact u p.2
      · intro q
        exact ⟨fun p => q ⟨Or.inl p.1, p.2⟩, rfl⟩
  · rw [if_neg (by omega), o]
    constructor
    · rintro q ⟨p | p, w⟩
      · exact q ⟨p, w⟩
      · exact z p.1
    · intro q p
      exact q ⟨Or.inl p.1, p.2⟩
theorem TB.no {i k x y : Int} (h : TB D m c i k P) (hb : ¬ bmp D (c i) (c k) x y) : TB D m c i k (fun a b => P a b ∨ (a = x ∧ b = y)) := fun a b a0 a1 b0 b1 => by
  rw [h a b a0 a1 b0 b1]
  constructor
  · rintro q ⟨p | p, w⟩
    · exact q ⟨p, w⟩
    · rw [p.1, p.2] at w; exact hb w
  · intro q p
    exact q ⟨Or.inl p.1, p.2⟩
theorem F19.rf {i k : Int} : F19 i k m m := ⟨Fr.rf, fun _ _ => rfl⟩
theorem F19.tr {i k : Int} (h : F19 i k m m') (h' : F19 i k m' m'') : F19 i k m m'' := ⟨h.1.tr h'.1, fun j q => (h'.2 j q).trans (h.2 j q)⟩
theorem F19.st {i k x : Int} {v : Int32} (i0 : 0 ≤ i) (k0 : 0 ≤ k) (x0 : 0 ≤ x) (x1 : x < 24) : F19 i k m (mm_sI m 192 ((i * 4 + k) * 24 + x).toNat v) := ⟨Fr.sI rfl, fun j q => by
  rw [gI_sI, if_neg (by omega)]⟩
/-- forbid where they bump -/
theorem C21b (hs : Sh m) {i k x y u : Int} (i0 : 0 ≤ i) (i1 : i < 4) (k0 : 0 ≤ k) (k1 : k < 4) (x0 : 0 ≤ x) (x1 : x < 24) (y0 : 0 ≤ y) (y1 : y < 24) (h : TB D m c i k P) (hu : u ≤ 600 ↔ bmp D (c i) (c k) x y) : ∃ m', (if u ≤ 600 then mm_ev d 21 0 [some (.ref 184), (some (.int (iI (i)))), (some (.int (iI (x)))), (some (.int (iI (k)))), (some (.int (iI (y))))] [] m else some (some none, m)) = some (some none, m') ∧ F19 i k m m' ∧ TB D m' c i k (fun a b => P a b ∨ (a = x ∧ b = y)) := by
  by_cases q : u ≤ 600
  · rw [if_pos q, C21 hs i0 i1 x0 x1 k0 k1]
    exact ⟨_, rfl, F19.st i0 k0 x0 x1, h.st i0 k0 x0 x1 y0 y1 (hu.mp q)⟩
  · rw [if_neg q]
    exact ⟨_, rfl, F19.rf, h.no (fun w => q (hu.mpr w))⟩
/-- forbidBumps, of one difference -/
theorem C19e (hc : coK D n c) (hI : InvS D) (hIB : InvB D (sa D)) (hd : 2 ≤ d) {i k g : Int} (i0 : 0 ≤ i) (i1 : i < n) (k0 : 0 ≤ k) (k1 : k < n) (g0 : 0 ≤ g) (g1 : g < 24) : ∀ (r : Nat) (e : Int) (m : mm_M), e = 24 - g - r → 0 ≤ e → Sh m → TB D m c i k (Pg g e) → ∃ m' y6, mm_ev d 19 31 [some (.ref 184), (some (.int (iI (i)))), (some (.int (iI (k)))), (some (.int (iI (g)))), (some (.int (iI (fbGo (fbP D (c i) (c k) g 0) 601 0)))), (some (.int (iI (fbGo (fbP D (c i) (c k) 0 g) 601 0)))), (some (.int (iI (e))))] [] m = mm_ev d 19 2 [some (.ref 184), (some (.int (iI (i)))), (some (.int (iI (k)))), (some (.int (iI (g + 1)))), (some (.int (iI (fbGo (fbP D (c i) (c k) g 0) 601 0)))), (some (.int (iI (fbGo (fbP D (c i) (c k) 0 g) 601 0)))), y6] [] m' ∧ F19 i k m m' ∧ TB D m' c i k (Pg (g + 1) 0)
  | 0, e, m, he, e0, hs, h => by
    refine ⟨m, (some (.int (iI (e)))), ?_, F19.rf, h.cg (fun a b a0 a1 b0 b1 => by unfold Pg; omega)⟩
    rw [sg_19_31 (by omega)]
    simp (disch := omega) only [↓reduceIte, not_false_eq_true, not_true_eq_false, and_self, and_true, true_and, false_and, and_false, or_true, true_or, or_false, false_or, or_self, reduceCtorEq, mm_q, Option.getD_some, cI_some, cJ_some, cV_some, cS_some, kd_sI, kd_sL, kd_sR, kd_cp, ln_sI, ln_sL, ln_sR, ln_cp, gR_sI, gR_sL, gR_sR, gR_cp, gL_sI, gL_sR, gL_cp, gI_sL, gI_sR, iI_add, iI_sub, iI_mul, iI_neg, iI_in, iI_tn, iI_lt, iI_eq, Nat.reduceLeDiff, Nat.reduceEqDiff, Nat.reduceAdd, Int.reduceEq, Int.reduceLT, Int.reduceLE, Int.reduceNeg, Int.reduceAdd, Int.reduceSub, Int.reduceMul, show ¬ e + g < 24 by omega]
  | r + 1, e, m, he, e0, hs, h => by
    obtain ⟨w0, w1⟩ := hc.2 i i0 i1
    obtain ⟨v0, v1⟩ := hc.2 k k0 k1
    obtain ⟨n0, n1⟩ := hc.1
    have f1 := fb_r (f := fbP D (c i) (c k) g 0) 601 0 (by omega) (by omega)
    have f2 := fb_r (f := fbP D (c i) (c k) 0 g) 601 0 (by omega) (by omega)
    have b1 := bmp_sh hI hIB w0 w1 v0 v1 g0 (show (0 : Int) ≤ 0 by omega) e0 (show e < 24 by omega)
    have b2 := bmp_sh hI hIB w0 w1 v0 v1 (show (0 : Int) ≤ 0 by omega) g0 e0 (show e < 24 by omega)
    rw [Int.zero_add, Int.add_comm g e] at b1 b2
    obtain ⟨m1, e1, g1', h1⟩ := C21b (d := d - 1) hs i0 (show i < 4 by omega) k0 (show k < 4 by omega) (show 0 ≤ e + g by omega) (show e + g < 24 by omega) e0 (show e < 24 by omega) h b1
    have hs1 := g1'.1.sh hs
    obtain ⟨m2, e2, g2', h2⟩ := C21b (d := d - 1) hs1 i0 (show i < 4 by omega) k0 (show k < 4 by omega) e0 (show e < 24 by omega) (show 0 ≤ e + g by omega) (show e + g < 24 by omega) h1 b2
    have hs2 := g2'.1.sh hs1
    obtain ⟨m3, y6, e3, g3', h3⟩ := C19e hc hI hIB hd i0 i1 k0 k1 g0 g1 r (e + 1) m2 (by omega) (by omega) hs2 (h2.cg (fun a b a0 a1 b0 b1 => by unfold Pg; omega))
    refine ⟨m3, y6, ?_, (g1'.tr g2').tr g3', h3⟩
    rw [← e3]
    have r1 : mm_ev d 19 31 [some (.ref 184), (some (.int (iI (i)))), (some (.int (iI (k)))), (some (.int (iI (g)))), (some (.int (iI (fbGo (fbP D (c i) (c k) g 0) 601 0)))), (some (.int (iI (fbGo (fbP D (c i) (c k) 0 g) 601 0)))), (some (.int (iI (e))))] [] m = mm_ev d 19 63 [some (.ref 184), (some (.int (iI (i)))), (some (.int (iI (k)))), (some (.int (iI (g)))), (some (.int (iI (fbGo (fbP D (c i) (c k) g 0) 601 0)))), (some (.int (iI (fbGo (fbP D (c i) (c k) 0 g) 601 0)))), (some (.int (iI (e))))] [] m1 := by
      rw [sg_19_31 (by omega)]
      by_cases q : fbGo (fbP D (c i) (c k) g 0) 601 0 + e ≤ 600
      · rw [if_pos q] at e1
        simp (disch := omega) only [shW hs, ↓reduceIte, not_false_eq_true, not_true_eq_false, and_self, and_true, true_and, false_and, and_false, or_true, true_or, or_false, false_or, or_self, reduceCtorEq, mm_q, Option.getD_some, cI_some, cJ_some, cV_some, cS_some, kd_sI, kd_sL, kd_sR, kd_cp, ln_sI, ln_sL, ln_sR, ln_cp, gR_sI, gR_sL, gR_sR, gR_cp, gL_sI, gL_sR, gL_cp, gI_sL, gI_sR, iI_add, iI_sub, iI_mul, iI_neg, iI_in, iI_tn, iI_lt, iI_eq, Nat.reduceLeDiff, Nat.reduceEqDiff, Nat.reduceAdd, Int.reduceEq, Int.reduceLT, Int.reduceLE, Int.reduceNeg, Int.reduceAdd, Int.reduceSub, Int.reduceMul, show e + g < 24 by omega, show ¬ 600 < fbGo (fbP D (c i) (c k) g 0) 601 0 + e by omega, e1]
      · rw [if_neg q] at e1
        simp only [Option.some.injEq, Prod.mk.injEq, true_and] at e1
        simp (disch := omega) only [shW hs, ↓reduceIte, not_false_eq_true, not_true_eq_false, and_self, and_true, true_and, false_and, and_false, or_true, true_or, or_false, false_or, or_self, reduceCtorEq, mm_q, Option.getD_some, cI_some, cJ_some, cV_some, cS_some, kd_sI, kd_sL, kd_sR, kd_cp, ln_sI, ln_sL, ln_sR, ln_cp, gR_sI, gR_sL, gR_sR, gR_cp, gL_sI, gL_sR, gL_cp, gI_sL, gI_sR, iI_add, iI_sub, iI_mul, iI_neg, iI_in, iI_tn, iI_lt, iI_eq, Nat.reduceLeDiff, Nat.reduceEqDiff, Nat.reduceAdd, Int.reduceEq, Int.reduceLT, Int.reduceLE, Int.reduceNeg, Int.reduceAdd, Int.reduceSub, Int.reduceMul, show e + g < 24 by omega, show 600 < fbGo (fbP D (c i) (c k) g 0) 601 0 + e by omega, e1]
    have r2 : mm_ev d 19 63 [some (.ref 184), (some (.int (iI (i)))), (some (.int (iI (k)))), (some (.int (iI (g)))), (some (.int (iI (fbGo (fbP D (c i) (c k) g 0) 601 0)))), (some (.int (iI (fbGo (fbP D (c i) (c k) 0 g) 601 0)))), (some (.int (iI (e))))] [] m1 = mm_ev d 19 86 [some (.ref 184), (some (.int (iI (i)))), (some (.int (iI (k)))), (some (.int (iI (g)))), (some (.int (iI (fbGo (fbP D (c i) (c k) g 0) 601 0)))), (some (.int (iI (fbGo (fbP D (c i) (c k) 0 g) 601 0)))), (some (.int (iI (e))))] [] m2 := by
      rw [sg_19_63 (by omega)]
      by_cases q : fbGo (fbP D (c i) (c k) 0 g) 601 0 + e ≤ 600
      · rw [if_pos q] at e2
        simp (disch := omega) only [shW hs1, ↓reduceIte, not_false_eq_true, not_true_eq_false, and_self, and_true, true_and, false_and, and_false, or_true, true_or, or_false, false_or, or_self, reduceCtorEq, mm_q, Option.getD_some, cI_some, cJ_some, cV_some, cS_some, kd_sI, kd_sL, kd_sR, kd_cp, ln_sI, ln_sL, ln_sR, ln_cp, gR_sI, gR_sL, gR_sR, gR_cp, gL_sI, gL_sR, gL_cp, gI_sL, gI_sR, iI_add, iI_sub, iI_mul, iI_neg, iI_in, iI_tn, iI_lt, iI_eq, Nat.reduceLeDiff, Nat.reduceEqDiff, Nat.reduceAdd, Int.reduceEq, Int.reduceLT, Int.reduceLE, Int.reduceNeg, Int.reduceAdd, Int.reduceSub, Int.reduceMul, show ¬ 600 < fbGo (fbP D (c i) (c k) 0 g) 601 0 + e by omega, e2]
      · rw [if_neg q] at e2
        simp only [Option.some.injEq, Prod.mk.injEq, true_and] at e2
        simp (disch := omega) only [shW hs1, ↓reduceIte, not_false_eq_true, not_true_eq_false, and_self, and_true, true_and, false_and, and_false, or_true, true_or, or_false, false_or, or_self, reduceCtorEq, mm_q, Option.getD_some, cI_some, cJ_some, cV_some, cS_some, kd_sI, kd_sL, kd_sR, kd_cp, ln_sI, ln_sL, ln_sR, ln_cp, gR_sI, gR_sL, gR_sR, gR_cp, gL_sI, gL_sR, gL_cp, gI_sL, gI_sR, iI_add, iI_sub, iI_mul, iI_neg, iI_in, iI_tn, iI_lt, iI_eq, Nat.reduceLeDiff, Nat.reduceEqDiff, Nat.reduceAdd, Int.reduceEq, Int.reduceLT, Int.reduceLE, Int.reduceNeg, Int.reduceAdd, Int.reduceSub, Int.reduceMul, show 600 < fbGo (fbP D (c i) (c k) 0 g) 601 0 + e by omega, e2]
    rw [r1, r2, sg_19_86]
    simp (disch := omega) only [↓reduceIte, not_false_eq_true, not_true_eq_false, and_self, and_true, true_and, false_and, and_false, or_true, true_or, or_false, false_or, or_self, reduceCtorEq, mm_q, Option.getD_some, cI_some, cJ_some, cV_some, cS_some, kd_sI, kd_sL, kd_sR, kd_cp, ln_sI, ln_sL, ln_sR, ln_cp, gR_sI, gR_sL, gR_sR, gR_cp, gL_sI, gL_sR, gL_cp, gI_sL, gI_sR, iI_add, iI_sub, iI_mul, iI_neg, iI_in, iI_tn, iI_lt, iI_eq, Nat.reduceLeDiff, Nat.reduceEqDiff, Nat.reduceAdd, Int.reduceEq, Int.reduceLT, Int.reduceLE, Int.reduceNeg, Int.reduceAdd, Int.reduceSub, Int.reduceMul]
/-- forbidBumps -/
theorem C19L (hc : coK D n c) (hI : InvS D) (hIB : InvB D (sa D)) (hd : 2 ≤ d) {i k : Int} (i0 : 0 ≤ i) (i1 : i < n) (k0 : 0 ≤ k) (k1 : k < n) : ∀ (r : Nat) (g : Int) (z4 z5 z6 : Option Value) (m : mm_M), g = 24 - r → 0 ≤ g → Sh m → ROWS D m n c → TB D m c i k (Pg g 0) → ∃ m', mm_ev d 19 2 [some (.ref 184), (some (.int (iI (i)))), (some (.int (iI (k)))), (some (.int (iI (g)))), z4, z5, z6] [] m = some (some none, m') ∧ F19 i k m m' ∧ TB D m' c i k (fun _ _ => True)
  | 0, g, z4, z5, z6, m, hg, g0, hs, hR, h => by
    refine ⟨m, ?_, F19.rf, h.cg (fun a b a0 a1 b0 b1 => by unfold Pg; simp only [iff_true]; omega)⟩
    rw [sg_19_2 (by omega)]
    simp (disch := omega) only [↓reduceIte, not_false_eq_true, not_true_eq_false, and_self, and_true, true_and, false_and, and_false, or_true, true_or, or_false, false_or, or_self, reduceCtorEq, mm_q, Option.getD_some, cI_some, cJ_some, cV_some, cS_some, kd_sI, kd_sL, kd_sR, kd_cp, ln_sI, ln_sL, ln_sR, ln_cp, gR_sI, gR_sL, gR_sR, gR_cp, gL_sI, gL_sR, gL_cp, gI_sL, gI_sR, iI_add, iI_sub, iI_mul, iI_neg, iI_in, iI_tn, iI_lt, iI_eq, Nat.reduceLeDiff, Nat.reduceEqDiff, Nat.reduceAdd, Int.reduceEq, Int.reduceLT, Int.reduceLE, Int.reduceNeg, Int.reduceAdd, Int.reduceSub, Int.reduceMul, show ¬ g < 24 by omega]
  | r + 1, g, z4, z5, z6, m, hg, g0, hs, hR, h => by
    have g1 : g < 24 := by omega
    have q1 := C20 (d := d - 1) hs hR hc hI hIB (by omega) i0 i1 g0 g1 k0 k1 (show (0 : Int) ≤ 0 by omega) (show (0 : Int) < 24 by omega)
    have q2 := C20 (d := d - 1) hs hR hc hI hIB (by omega) i0 i1 (show (0 : Int) ≤ 0 by omega) (show (0 : Int) < 24 by omega) k0 k1 g0 g1
    obtain ⟨m1, y6, e1, f1, h1⟩ := C19e hc hI hIB hd i0 i1 k0 k1 g0 g1 (24 - g).toNat 0 m (by omega) (by omega) hs h
    obtain ⟨m2, e2, f2, h2⟩ := C19L hc hI hIB hd i0 i1 k0 k1 r (g + 1) (some (.int (iI (fbGo (fbP D (c i) (c k) g 0) 601 0)))) (some (.int (iI (fbGo (fbP D (c i) (c k) 0 g) 601 0)))) y6 m1 (by omega) (by omega) (f1.1.sh hs) (hR.f f1.1 hc.1.2) h1
    refine ⟨m2, ?_, f1.tr f2, h2⟩
    rw [← e2, ← e1, sg_19_2 (by omega)]
    simp (disch := omega) only [shW hs, ↓reduceIte, not_false_eq_true, not_true_eq_false, and_self, and_true, true_and, false_and, and_false, or_true, true_or, or_false, false_or, or_self, reduceCtorEq, mm_q, Option.getD_some, cI_some, cJ_some, cV_some, cS_some, kd_sI, kd_sL, kd_sR, kd_cp, ln_sI, ln_sL, ln_sR, ln_cp, gR_sI, gR_sL, gR_sR, gR_cp, gL_sI, gL_sR, gL_cp, gI_sL, gI_sR, iI_add, iI_sub, iI_mul, iI_neg, iI_in, iI_tn, iI_lt, iI_eq, Nat.reduceLeDiff, Nat.reduceEqDiff, Nat.reduceAdd, Int.reduceEq, Int.reduceLT, Int.reduceLE, Int.reduceNeg, Int.reduceAdd, Int.reduceSub, Int.reduceMul, g1, q1]
    rw [sg_19_16 (by omega)]
    simp (disch := omega) only [shW hs, ↓reduceIte, not_false_eq_true, not_true_eq_false, and_self, and_true, true_and, false_and, and_false, or_true, true_or, or_false, false_or, or_self, reduceCtorEq, mm_q, Option.getD_some, cI_some, cJ_some, cV_some, cS_some, kd_sI, kd_sL, kd_sR, kd_cp, ln_sI, ln_sL, ln_sR, ln_cp, gR_sI, gR_sL, gR_sR, gR_cp, gL_sI, gL_sR, gL_cp, gI_sL, gI_sR, iI_add, iI_sub, iI_mul, iI_neg, iI_in, iI_tn, iI_lt, iI_eq, Nat.reduceLeDiff, Nat.reduceEqDiff, Nat.reduceAdd, Int.reduceEq, Int.reduceLT, Int.reduceLE, Int.reduceNeg, Int.reduceAdd, Int.reduceSub, Int.reduceMul, q2]
theorem C19 (hs : Sh m) (hR : ROWS D m n c) (hc : coK D n c) (hI : InvS D) (hIB : InvB D (sa D)) (hd : 2 ≤ d) {i k : Int} (i0 : 0 ≤ i) (i1 : i < n) (k0 : 0 ≤ k) (k1 : k < n) (h : TB D m c i k (fun _ _ => False)) : ∃ m', mm_ev d 19 0 [some (.ref 184), (some (.int (iI (i)))), (some (.int (iI (k)))), none, none, none, none] [] m = some (some none, m') ∧ F19 i k m m' ∧ TB D m' c i k (fun _ _ => True) := by
  obtain ⟨m', e, r⟩ := C19L hc hI hIB hd i0 i1 k0 k1 24 0 none none none m (by omega) (by omega) hs hR (h.cg (fun a b a0 a1 b0 b1 => by unfold Pg; simp only [false_iff]; omega))
  refine ⟨m', ?_, r⟩
  rw [← e, sg_19_0]
end
/-- which pairs are through -/
def Dn (i k x y : Int) : Prop := x < i ∨ (x = i ∧ y < k)
def TBs (D : Nat → Nat → Int32) (m : mm_M) (n : Int) (c : Int → Int) (i k : Int) : Prop := ∀ x y, 0 ≤ x → x < y → y < n → TB D m c x y (fun _ _ => Dn i k x y ∧ wk D (c x) 1 = wk D (c y) 1)
section
variable {D : Nat → Nat → Int32} {m m' m'' : mm_M} {d s : Nat} {c : Int → Int} {n : Int}
theorem TB.o {P : Int → Int → Prop} {i k x y : Int} (h : TB D m c x y P) (f : F19 i k m m') (x0 : 0 ≤ x) (y0 : 0 ≤ y) (y1 : y < 4) (i0 : 0 ≤ i) (k0 : 0 ≤ k) (k1 : k < 4) (ne : ¬ (x = i ∧ y = k)) : TB D m' c x y P := fun a b a0 a1 b0 b1 => by
  rw [f.2 _ (by omega)]
  exact h a b a0 a1 b0 b1
theorem chF (hs : Sh m) (hst : isSt s) (hR : RSt D m s) (hW : ROWS D m n c) (hc : coK D n c) (h8 : st D 6 ≤ 8) {i : Int} (i0 : 0 ≤ i) (i1 : i < n) : mm_gI m 185 i.toNat = iI (c i) ∧ mm_gR m (s + 3) (c i).toNat = some (s + 13 + (c i).toNat) ∧ mm_kd m (s + 13 + (c i).toNat) = 9 ∧ mm_gI m (s + 13 + (c i).toNat) 2 = iI (wk D (c i) 1) := by
  obtain ⟨w0, w1⟩ := hc.2 i i0 i1
  obtain ⟨a, b⟩ := wkF hs hst w0 (show c i < 8 by omega)
  exact ⟨(hW i i0 i1).1, a, b, (hR.2.2.1 _ w0 w1).2.1⟩
/-- fillTogether, the inner loop -/
theorem C18I (hst : isSt s) (hc : coK D n c) (hI : InvS D) (hIB : InvB D (sa D)) (hd : 3 ≤ d) {i : Int} (i0 : 0 ≤ i) (i1 : i < n) : ∀ (r : Nat) (k : Int) (m : mm_M), k = n - r → i < k → Sh m → RSt D m s → mm_gR m 184 6 = some s → mm_gI m 184 5 = iI n → ROWS D m n c → TBs D m n c i k → ∃ m', mm_ev d 18 23 [some (.ref 184), (some (.int (iI (i)))), (some (.int (iI (k))))] [] m = mm_ev d 18 11 [some (.ref 184), (some (.int (iI (i + 1)))), (some (.int (iI (n))))] [] m' ∧ Fr sc192 m m' ∧ TBs D m' n c (i + 1) 0
  | 0, k, m, hk, k0, hs, hR, hg, h5, hW, h => by
    obtain ⟨n0, n1⟩ := hc.1
    refine ⟨m, ?_, Fr.rf, fun x y x0 xy yn => (h x y x0 xy yn).cg (fun a b a0 a1 b0 b1 => by unfold Dn; omega)⟩
    rw [sg_18_23 (by omega), show k = n by omega]
    simp (disch := omega) only [shW hs, ↓reduceIte, not_false_eq_true, not_true_eq_false, and_self, and_true, true_and, false_and, and_false, or_true, true_or, or_false, false_or, or_self, reduceCtorEq, mm_q, Option.getD_some, cI_some, cJ_some, cV_some, cS_some, kd_sI, kd_sL, kd_sR, kd_cp, ln_sI, ln_sL, ln_sR, ln_cp, gR_sI, gR_sL, gR_sR, gR_cp, gL_sI, gL_sR, gL_cp, gI_sL, gI_sR, iI_add, iI_sub, iI_mul, iI_neg, iI_in, iI_tn, iI_lt, iI_eq, Nat.reduceLeDiff, Nat.reduceEqDiff, Nat.reduceAdd, Int.reduceEq, Int.reduceLT, Int.reduceLE, Int.reduceNeg, Int.reduceAdd, Int.reduceSub, Int.reduceMul, h5, show ¬ n < n by omega]
  | r + 1, k, m, hk, k0, hs, hR, hg, h5, hW, h => by
    obtain ⟨n0, n1⟩ := hc.1
    have k1 : k < n := by omega
    have q8 := hI.2.2.2.2.2.1
    have L := hI.2.1
    have sF := stF hs hst
    have hst' : s = 104 ∨ s = 125 := hst
    obtain ⟨w0, w1⟩ := hc.2 i i0 i1
    obtain ⟨v0, v1⟩ := hc.2 k (by omega) k1
    obtain ⟨-, ⟨wl0, wl1⟩, -⟩ := hI.2.2.2.2.2.2.2.2.2.1 _ w0 w1
    obtain ⟨-, ⟨vl0, vl1⟩, -⟩ := hI.2.2.2.2.2.2.2.2.2.1 _ v0 v1
    obtain ⟨a1, a2, a3, a4⟩ := chF hs hst hR hW hc q8.2 i0 i1
    obtain ⟨b1, b2, b3, b4⟩ := chF hs hst hR hW hc q8.2 (show 0 ≤ k by omega) k1
    by_cases y : wk D (c i) 1 = wk D (c k) 1
    · obtain ⟨m1, e1, f1, h1⟩ := C19 (d := d - 1) hs hW hc hI hIB (by omega) i0 i1 (show 0 ≤ k by omega) k1 ((h i k i0 k0 k1).cg (fun a b a0 a1 b0 b1 => by unfold Dn; simp only [iff_false]; omega))
      have hs1 := f1.1.sh hs
      have o1 : ∀ a j, ¬ a = 192 → mm_gI m1 a j = mm_gI m a j := fun a j z => f1.1.gI (by
        unfold sc192
        cases e : Nat.beq a 192
        · rfl
        · exact absurd (Nat.eq_of_beq_eq_true e) z)
      obtain ⟨m2, e2, f2, h2⟩ := C18I hst hc hI hIB hd i0 i1 r (k + 1) m1 (by omega) (by omega) hs1 (hR.cg (fun a j a0 a1 _ _ => o1 a j (by omega)) q8.2) ((f1.1.2.2.1 _ _).trans hg) ((o1 _ _ (by omega)).trans h5) (hW.f f1.1 n1) (fun x z x0 xz zn => by
        by_cases w : x = i ∧ z = k
        · obtain ⟨rfl, rfl⟩ := w
          exact h1.cg (fun a b a0 a1 b0 b1 => ⟨fun _ => ⟨Or.inr ⟨rfl, by omega⟩, y⟩, fun _ => trivial⟩)
        · exact ((h x z x0 xz zn).o f1 x0 (by omega) (by omega) i0 (by omega) (by omega) w).cg (fun a b a0 a1 b0 b1 => by unfold Dn; omega))
      refine ⟨m2, ?_, f1.1.tr f2, h2⟩
      rw [← e2, sg_18_23 (by omega)]
      simp (disch := omega) only [shW hs, ↓reduceIte, not_false_eq_true, not_true_eq_false, and_self, and_true, true_and, false_and, and_false, or_true, true_or, or_false, false_or, or_self, reduceCtorEq, mm_q, Option.getD_some, cI_some, cJ_some, cV_some, cS_some, kd_sI, kd_sL, kd_sR, kd_cp, ln_sI, ln_sL, ln_sR, ln_cp, gR_sI, gR_sL, gR_sR, gR_cp, gL_sI, gL_sR, gL_cp, gI_sL, gI_sR, iI_add, iI_sub, iI_mul, iI_neg, iI_in, iI_tn, iI_lt, iI_eq, Nat.reduceLeDiff, Nat.reduceEqDiff, Nat.reduceAdd, Int.reduceEq, Int.reduceLT, Int.reduceLE, Int.reduceNeg, Int.reduceAdd, Int.reduceSub, Int.reduceMul, h5, k1, hg, sF, a1, a2, a3, a4, b1, b2, b3, b4, y, e1, sg_18_74]
    · obtain ⟨m2, e2, f2, h2⟩ := C18I hst hc hI hIB hd i0 i1 r (k + 1) m (by omega) (by omega) hs hR hg h5 hW (fun x z x0 xz zn => (h x z x0 xz zn).cg (fun a b a0 a1 b0 b1 => by
        unfold Dn
        by_cases w : x = i ∧ z = k
        · obtain ⟨rfl, rfl⟩ := w
          exact ⟨fun p => ⟨by omega, p.2⟩, fun p => absurd p.2 y⟩
        · omega))
      refine ⟨m2, ?_, f2, h2⟩
      rw [← e2, sg_18_23 (by omega)]
      simp (disch := omega) only [shW hs, ↓reduceIte, not_false_eq_true, not_true_eq_false, and_self, and_true, true_and, false_and, and_false, or_true, true_or, or_false, false_or, or_self, reduceCtorEq, mm_q, Option.getD_some, cI_some, cJ_some, cV_some, cS_some, kd_sI, kd_sL, kd_sR, kd_cp, ln_sI, ln_sL, ln_sR, ln_cp, gR_sI, gR_sL, gR_sR, gR_cp, gL_sI, gL_sR, gL_cp, gI_sL, gI_sR, iI_add, iI_sub, iI_mul, iI_neg, iI_in, iI_tn, iI_lt, iI_eq, Nat.reduceLeDiff, Nat.reduceEqDiff, Nat.reduceAdd, Int.reduceEq, Int.reduceLT, Int.reduceLE, Int.reduceNeg, Int.reduceAdd, Int.reduceSub, Int.reduceMul, h5, k1, hg, sF, a1, a2, a3, a4, b1, b2, b3, b4, y, sg_18_74]
theorem C18L (hst : isSt s) (hc : coK D n c) (hI : InvS D) (hIB : InvB D (sa D)) (hd : 3 ≤ d) : ∀ (r : Nat) (i : Int) (z : Option Value) (m : mm_M), i = n - r → 0 ≤ i → Sh m → RSt D m s → mm_gR m 184 6 = some s → mm_gI m 184 5 = iI n → ROWS D m n c → TBs D m n c i 0 → ∃ m', mm_ev d 18 11 [some (.ref 184), (some (.int (iI (i)))), z] [] m = some (some none, m') ∧ Fr sc192 m m' ∧ TBs D m' n c n 0
  | 0, i, z, m, hk, k0, hs, hR, hg, h5, hW, h => by
    obtain ⟨n0, n1⟩ := hc.1
    refine ⟨m, ?_, Fr.rf, by rw [show n = i by omega] at h ⊢; exact h⟩
    rw [sg_18_11]
    simp (disch := omega) only [shW hs, ↓reduceIte, not_false_eq_true, not_true_eq_false, and_self, and_true, true_and, false_and, and_false, or_true, true_or, or_false, false_or, or_self, reduceCtorEq, mm_q, Option.getD_some, cI_some, cJ_some, cV_some, cS_some, kd_sI, kd_sL, kd_sR, kd_cp, ln_sI, ln_sL, ln_sR, ln_cp, gR_sI, gR_sL, gR_sR, gR_cp, gL_sI, gL_sR, gL_cp, gI_sL, gI_sR, iI_add, iI_sub, iI_mul, iI_neg, iI_in, iI_tn, iI_lt, iI_eq, Nat.reduceLeDiff, Nat.reduceEqDiff, Nat.reduceAdd, Int.reduceEq, Int.reduceLT, Int.reduceLE, Int.reduceNeg, Int.reduceAdd, Int.reduceSub, Int.reduceMul, h5, show ¬ i < n by omega]
  | r + 1, i, z, m, hk, k0, hs, hR, hg, h5, hW, h => by
    obtain ⟨n0, n1⟩ := hc.1
    have q8 := hI.2.2.2.2.2.1
    have hst' : s = 104 ∨ s = 125 := hst
    obtain ⟨m1, e1, f1, h1⟩ := C18I hst hc hI hIB hd k0 (show i < n by omega) (n - (i + 1)).toNat (i + 1) m (by omega) (by omega) hs hR hg h5 hW (fun x y x0 xy yn => (h x y x0 xy yn).cg (fun a b a0 a1 b0 b1 => by unfold Dn; omega))
    have o1 : ∀ a j, ¬ a = 192 → mm_gI m1 a j = mm_gI m a j := fun a j z => f1.gI (by
      unfold sc192
      cases e : Nat.beq a 192
      · rfl
      · exact absurd (Nat.eq_of_beq_eq_true e) z)
    obtain ⟨m2, e2, f2, h2⟩ := C18L hst hc hI hIB hd r (i + 1) (some (.int (iI (n)))) m1 (by omega) (by omega) (f1.sh hs) (hR.cg (fun a j a0 a1 _ _ => o1 a j (by omega)) q8.2) ((f1.2.2.1 _ _).trans hg) ((o1 _ _ (by omega)).trans h5) (hW.f f1 n1) h1
    refine ⟨m2, ?_, f1.tr f2, h2⟩
    rw [← e2, ← e1, sg_18_11]
    simp (disch := omega) only [shW hs, ↓reduceIte, not_false_eq_true, not_true_eq_false, and_self, and_true, true_and, false_and, and_false, or_true, true_or, or_false, false_or, or_self, reduceCtorEq, mm_q, Option.getD_some, cI_some, cJ_some, cV_some, cS_some, kd_sI, kd_sL, kd_sR, kd_cp, ln_sI, ln_sL, ln_sR, ln_cp, gR_sI, gR_sL, gR_sR, gR_cp, gL_sI, gL_sR, gL_cp, gI_sL, gI_sR, iI_add, iI_sub, iI_mul, iI_neg, iI_in, iI_tn, iI_lt, iI_eq, Nat.reduceLeDiff, Nat.reduceEqDiff, Nat.reduceAdd, Int.reduceEq, Int.reduceLT, Int.reduceLE, Int.reduceNeg, Int.reduceAdd, Int.reduceSub, Int.reduceMul, h5, show i < n by omega]
theorem bi_all : ∀ b : Fin 24, bi (iI 16777215) (b.val : Int) = true := by decide +kernel
/-- fillTogether -/
theorem C18 (hs : Sh m) (hst : isSt s) (hR : RSt D m s) (hg : mm_gR m 184 6 = some s) (h5 : mm_gI m 184 5 = iI n) (hW : ROWS D m n c) (hc : coK D n c) (hI : InvS D) (hIB : InvB D (sa D)) (hd : 3 ≤ d) : ∃ m', mm_ev d 18 0 [some (.ref 184), none, none] [] m = some (some none, m') ∧ Fr sc192 m m' ∧ ∀ i k a b, 0 ≤ i → i < k → k < n → 0 ≤ a → a < 24 → 0 ≤ b → b < 24 → bi (mm_gI m' 192 ((i * 4 + k) * 24 + a).toNat) b = togS D c i a k b := by
  obtain ⟨n0, n1⟩ := hc.1
  have q8 := hI.2.2.2.2.2.1
  have hst' : s = 104 ∨ s = 125 := hst
  have sW := shW hs
  obtain ⟨m1, e1, u1⟩ := C280 (d := d - 1) (v := iI 16777215) (m := m) (a := 192) (n := 384) (by omega) (by simp [sW]) (by simp [sW]) (by omega)
  have f1 : Fr sc192 m m1 := u1.fr (fun a q z => if_neg (fun w => by
    rw [w.1] at z
    cases z))
  have o1 : ∀ a j, ¬ a = 192 → mm_gI m1 a j = mm_gI m a j := fun a j z => f1.gI (by
    unfold sc192
    cases e : Nat.beq a 192
    · rfl
    · exact absurd (Nat.eq_of_beq_eq_true e) z)
  obtain ⟨m2, e2, f2, h2⟩ := C18L (s := s) hst hc hI hIB hd n.toNat 0 none m1 (by omega) (by omega) (f1.sh hs) (hR.cg (fun a j a0 a1 _ _ => o1 a j (by omega)) q8.2) ((f1.2.2.1 _ _).trans hg) ((o1 _ _ (by omega)).trans h5) (hW.f f1 n1) (fun x y x0 xy yn a b a0 a1 b0 b1 => by
    have : bi (mm_gI m1 192 ((x * 4 + y) * 24 + a).toNat) b = true := by
      rw [u1.2.2.2.2]
      dsimp only
      rw [if_pos ⟨rfl, by omega⟩]
      have := bi_all ⟨b.toNat, by omega⟩
      simp only at this
      rw [show ((b.toNat : Nat) : Int) = b by omega] at this
      exact this
    rw [this]
    unfold Dn
    simp only [true_iff]
    omega)
  refine ⟨m2, ?_, f1.tr f2, fun i k a b i0 ik kn a0 a1 b0 b1 => ?_⟩
  · rw [← e2, sg_18_0 (by omega)]
    simp (disch := omega) only [shW hs, ↓reduceIte, not_false_eq_true, not_true_eq_false, and_self, and_true, true_and, reduceCtorEq, mm_q, Option.getD_some, cI_some, cJ_some, cV_some, cS_some, Nat.reduceLeDiff, Nat.reduceEqDiff, e1]
  · apply Bool.eq_iff_iff.mpr
    rw [h2 i k i0 ik kn a b a0 a1 b0 b1, tog_t]
    unfold Dn
    constructor
    · intro q e w
      exact q ⟨⟨Or.inl (by omega), e⟩, w⟩
    · rintro q ⟨⟨_, e⟩, w⟩
      exact q e w
end
