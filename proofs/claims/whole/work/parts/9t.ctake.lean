section
variable {D : Nat → Nat → Int32} {E : Nat → Nat → Int64} {m m' c c' c'' : mm_M} {d s p : Nat} {n N i f : Int} {T : TK} {Y : Nat → Int64} {W : Nat → Int32} {cnt k w v Ln a0 b0 : Int}
def scS4 (p a _k : Nat) : Bool := Nat.ble p a && Nat.ble a (p + 3)
def scTk (p a k : Nat) : Bool := scBr a k || scS4 p a k
theorem scS4_n {a k : Nat} (h : ¬ (p ≤ a ∧ a ≤ p + 3)) : scS4 p a k = false := by
  unfold scS4
  by_cases y : p ≤ a
  · rw [nl (show ¬ a ≤ p + 3 by omega)]; simp
  · rw [nl y]; rfl
theorem scS4_t {a k : Nat} (h : p ≤ a) (h1 : a ≤ p + 3) : scS4 p a k = true := by
  unfold scS4
  rw [Nat.ble_eq_true_of_le h, Nat.ble_eq_true_of_le h1]; rfl
theorem Fr.BT (h : Fr scBr c c') : Fr (scTk p) c c' := h.mono (fun x k z => by
  unfold scTk at z
  exact (Bool.or_eq_false_iff.mp z).1)
theorem Fr.ST (h : Fr (scS4 p) c c') : Fr (scTk p) c c' := h.mono (fun x k z => by
  unfold scTk at z
  exact (Bool.or_eq_false_iff.mp z).2)
theorem CR.s4 (h : CR D n T N i s c) (hp : isSc p) (g : Fr (scS4 p) c c') : CR D n T N i s c' := by
  have hp' : p = 146 ∨ p = 150 := hp
  exact h.o g (fun x k y => scS4_n (by omega)) (scS4_n (by omega))
theorem scBr_s4 {a k : Nat} (hp : isSc p) (h0 : p ≤ a) (h1 : a ≤ p + 3) : scBr a k = false := by
  have hp' : p = 146 ∨ p = 150 := hp
  unfold scBr scVt
  rw [nb (show ¬ a = 154 by omega), nb (show ¬ a = 101 by omega)]; rfl
theorem brS (hp : isSc p) (g : Fr scBr c c') {a k : Nat} (h0 : p ≤ a) (h1 : a ≤ p + 3) : mm_gI c' a k = mm_gI c a k := g.gI (scBr_s4 hp h0 h1)
theorem pcF (hs : Sh c) (hp : isSc p) : mm_kd c p = 6 ∧ mm_kd c (p + 1) = 20 ∧ mm_ln c (p + 1) = 30 ∧ mm_kd c (p + 2) = 20 ∧ mm_ln c (p + 2) = 30 ∧ mm_kd c (p + 3) = 20 ∧ mm_ln c (p + 3) = 30 ∧ mm_gR c p 1 = some (p + 1) ∧ mm_gR c p 2 = some (p + 2) ∧ mm_gR c p 3 = some (p + 3) := by
  rcases hp with rfl | rfl
  · simp [shP hs]
  · simp [shP hs]
/-- add -/
theorem C62 (hs : Sh c) (hp : isSc p) (hk : mm_gI c p 0 = iI k) (k0 : 0 ≤ k) (k1 : k < 30) {x y z : Int32} : ∃ c', mm_ev d 62 0 [some (.ref p), some (.int x), some (.int y), some (.int z)] [] c = some (some none, c') ∧ Fr (scS4 p) c c' ∧ mm_gI c' p 0 = iI (k + 1) ∧ mm_gI c' (p + 1) k.toNat = x ∧ mm_gI c' (p + 2) k.toNat = y ∧ mm_gI c' (p + 3) k.toNat = z ∧ ∀ a j, ¬ a = p → ¬ j = k.toNat → mm_gI c' a j = mm_gI c a j := by
  have hp' : p = 146 ∨ p = 150 := hp
  have p1 : ¬ p + 1 = p := by omega
  have p2 : ¬ p + 2 = p := by omega
  have p3 : ¬ p + 3 = p := by omega
  refine ⟨mm_sI (mm_sI (mm_sI (mm_sI c (p + 1) k.toNat x) (p + 2) k.toNat y) (p + 3) k.toNat z) p 0 (iI (k + 1)), ?_, (((Fr.sI (scS4_t (by omega) (by omega))).tr (Fr.sI (scS4_t (by omega) (by omega)))).tr (Fr.sI (scS4_t (by omega) (by omega)))).tr (Fr.sI (scS4_t (by omega) (by omega))), ?_, ?_, ?_, ?_, fun a j h1 h2 => ?_⟩
  · have q1 : mm_gI (mm_sI c (p + 1) k.toNat x) p 0 = iI k := by rw [gI_sI, if_neg (by omega)]; exact hk
    have q2 : mm_gI (mm_sI (mm_sI c (p + 1) k.toNat x) (p + 2) k.toNat y) p 0 = iI k := by rw [gI_sI, if_neg (by omega)]; exact q1
    have q3 : mm_gI (mm_sI (mm_sI (mm_sI c (p + 1) k.toNat x) (p + 2) k.toNat y) (p + 3) k.toNat z) p 0 = iI k := by rw [gI_sI, if_neg (by omega)]; exact q2
    rw [sg_62_0]
    simp (disch := omega) only [pcF hs hp, ↓reduceIte, not_false_eq_true, not_true_eq_false, and_self, and_true, true_and, false_and, and_false, or_true, true_or, or_false, false_or, or_self, reduceCtorEq, mm_q, Option.getD_some, cI_some, cJ_some, cV_some, cS_some, kd_sI, kd_sL, kd_sR, kd_cp, ln_sI, ln_sL, ln_sR, ln_cp, gR_sI, gR_sL, gR_sR, gR_cp, gL_sI, gL_sR, gL_cp, gI_sL, gI_sR, iI_add, iI_sub, iI_mul, iI_neg, iI_in, iI_tn, iI_lt, iI_eq, Nat.reduceLeDiff, Nat.reduceEqDiff, Nat.reduceAdd, Int.reduceEq, Int.reduceLT, Int.reduceLE, Int.reduceNeg, Int.reduceAdd, Int.reduceSub, Int.reduceMul, hk, q1, q2, q3, k1, show 100 ≤ p + 1 by omega, show 100 ≤ p + 2 by omega, show 100 ≤ p + 3 by omega]
  · rw [gI_sI, if_pos ⟨rfl, rfl⟩]
  · rw [gI_sI, if_neg (by omega), gI_sI, if_neg (by omega), gI_sI, if_neg (by omega), gI_sI, if_pos ⟨rfl, rfl⟩]
  · rw [gI_sI, if_neg (by omega), gI_sI, if_neg (by omega), gI_sI, if_pos ⟨rfl, rfl⟩]
  · rw [gI_sI, if_neg (by omega), gI_sI, if_pos ⟨rfl, rfl⟩]
  · rw [gI_sI, if_neg (by omega), gI_sI, if_neg (by omega), gI_sI, if_neg (by omega), gI_sI, if_neg (by omega)]
/-- the end of a take -/
theorem C60e (hT : TS D n T N) (h : CR D n T N i s c) (hp : isSc p) (h2 : mm_gR c 154 2 = some p) (hk : mm_gI c p 0 = iI k) (k0 : 0 ≤ k) (k1 : k < 30) (hd : 12 ≤ d) {x : Int32} {t : Int × Int} (ht : t = twS T 59 i 0) : ∃ c', mm_ev d 60 119 [some (.ref 154), some (.int x)] [] c = some (some (some (.int (iI (bI (decide (t.2 = 0)))))), c') ∧ Fr (scTk p) c c' ∧ (t.2 = 0 → CR D n T N t.1 s c' ∧ mm_gI c' p 0 = iI (k + 1) ∧ mm_gI c' (p + 1) k.toNat = x ∧ mm_gI c' (p + 2) k.toNat = mm_gI c 154 5 ∧ mm_gI c' (p + 3) k.toNat = mm_gI c 154 4 ∧ ∀ a j, p < a → a ≤ p + 3 → j < k.toNat → mm_gI c' a j = mm_gI c a j) ∧ (¬ t.2 = 0 → mm_gI c' 154 3 = iI t.2) := by
  have hp' : p = 146 ∨ p = 150 := hp
  obtain ⟨c1, e1, g1, v0, v1, v2, v3, v4⟩ := C62 (d := d - 1) (x := x) (y := mm_gI c 154 5) (z := mm_gI c 154 4) h.1.1 hp hk k0 k1
  have h1 := h.s4 hp g1
  obtain ⟨c2, e2, g2, s2, u2⟩ := C39 (d := d - 1) hT h1 (by omega) (w := 59) (by omega) (by omega)
  rw [← ht] at e2 s2 u2
  refine ⟨c2, ?_, g1.ST.tr g2.BT, fun y => ⟨s2 y, ?_, ?_, ?_, ?_, fun a j y0 y1 y2 => ?_⟩, u2⟩
  · rw [sg_60_119 (by omega)]
    have b01 : iI (bI (decide (t.2 = 0))) = iI 0 ∨ iI (bI (decide (t.2 = 0))) = iI 1 := by
      by_cases y : t.2 = 0
      · right; exact bI_1 y
      · left; exact bI_0 y
    simp (disch := omega) only [shP h.1.1, shP h1.1.1, pcF h.1.1 hp, ↓reduceIte, not_false_eq_true, not_true_eq_false, and_self, and_true, true_and, reduceCtorEq, mm_q, Option.getD_some, cI_some, cJ_some, cV_some, cS_some, Nat.reduceLeDiff, Nat.reduceEqDiff, h2, e1, e2, b01]
  · rw [brS hp g2 (by omega) (by omega)]; exact v0
  · rw [brS hp g2 (by omega) (by omega)]; exact v1
  · rw [brS hp g2 (by omega) (by omega)]; exact v2
  · rw [brS hp g2 (by omega) (by omega)]; exact v3
  · rw [brS hp g2 (by omega) (by omega)]; exact v4 _ _ (by omega) (by omega)
/-- a bad take -/
theorem C60b (hT : TS D n T N) (h : CR D n T N i s c) (hp : isSc p) (h2 : mm_gR c 154 2 = some p) (hk : mm_gI c p 0 = iI k) (k0 : 0 ≤ k) (k1 : k ≤ 30) (hd : 12 ≤ d) {g : Int} (hg : (¬ (17 ≤ ty T i ∧ ty T i < 21) ∧ g = 1) ∨ ((17 ≤ ty T i ∧ ty T i < 21) ∧ k = 30 ∧ g = 5)) : mm_ev d 60 0 [some (.ref 154), none] [] c = some (some (some (.int (iI 0))), mm_sI c 154 3 (iI (g + 16 * tP T i))) := by
  obtain ⟨i0, i1⟩ := h.2.2.1
  have tr := hT.tyr i0 i1
  have hy := h.2.1.2.1
  have e20 : ∀ x : Int32, mm_ev d 60 20 [some (.ref 154), some (.int x)] [] c = some (some (some (.int (iI 0))), mm_sI c 154 3 (iI (1 + 16 * tP T i))) := fun x => by
    rw [sg_60_20 (by omega)]
    simp (disch := omega) only [shP h.1.1, ↓reduceIte, not_false_eq_true, not_true_eq_false, and_self, and_true, true_and, false_and, and_false, or_true, true_or, or_false, false_or, or_self, reduceCtorEq, mm_q, Option.getD_some, cI_some, cJ_some, cV_some, cS_some, kd_sI, kd_sL, kd_sR, kd_cp, ln_sI, ln_sL, ln_sR, ln_cp, gR_sI, gR_sL, gR_sR, gR_cp, gL_sI, gL_sR, gL_cp, gI_sL, gI_sR, iI_add, iI_sub, iI_mul, iI_neg, iI_in, iI_tn, iI_lt, iI_eq, Nat.reduceLeDiff, Nat.reduceEqDiff, Nat.reduceAdd, Int.reduceEq, Int.reduceLT, Int.reduceLE, Int.reduceNeg, Int.reduceAdd, Int.reduceSub, Int.reduceMul, C40 (d := d - 1) hT h]
  rw [sg_60_0 (by omega)]
  rcases hg with ⟨y, rfl⟩ | ⟨⟨y0, y1⟩, rfl, rfl⟩
  · by_cases y1 : ty T i < 17
    · simp (disch := omega) only [shP h.1.1, shT h.1.1, ↓reduceIte, not_false_eq_true, not_true_eq_false, and_self, and_true, true_and, false_and, and_false, or_true, true_or, or_false, false_or, or_self, reduceCtorEq, mm_q, Option.getD_some, cI_some, cJ_some, cV_some, cS_some, kd_sI, kd_sL, kd_sR, kd_cp, ln_sI, ln_sL, ln_sR, ln_cp, gR_sI, gR_sL, gR_sR, gR_cp, gL_sI, gL_sR, gL_cp, gI_sL, gI_sR, iI_add, iI_sub, iI_mul, iI_neg, iI_in, iI_tn, iI_lt, iI_eq, Nat.reduceLeDiff, Nat.reduceEqDiff, Nat.reduceAdd, Int.reduceEq, Int.reduceLT, Int.reduceLE, Int.reduceNeg, Int.reduceAdd, Int.reduceSub, Int.reduceMul, hy, y1, e20]
    · simp (disch := omega) only [shP h.1.1, shT h.1.1, ↓reduceIte, not_false_eq_true, not_true_eq_false, and_self, and_true, true_and, false_and, and_false, or_true, true_or, or_false, false_or, or_self, reduceCtorEq, mm_q, Option.getD_some, cI_some, cJ_some, cV_some, cS_some, kd_sI, kd_sL, kd_sR, kd_cp, ln_sI, ln_sL, ln_sR, ln_cp, gR_sI, gR_sL, gR_sR, gR_cp, gL_sI, gL_sR, gL_cp, gI_sL, gI_sR, iI_add, iI_sub, iI_mul, iI_neg, iI_in, iI_tn, iI_lt, iI_eq, Nat.reduceLeDiff, Nat.reduceEqDiff, Nat.reduceAdd, Int.reduceEq, Int.reduceLT, Int.reduceLE, Int.reduceNeg, Int.reduceAdd, Int.reduceSub, Int.reduceMul, hy, y1, show 20 < ty T i by omega, e20]
  · simp (disch := omega) only [shP h.1.1, shT h.1.1, pcF h.1.1 hp, ↓reduceIte, not_false_eq_true, not_true_eq_false, and_self, and_true, true_and, false_and, and_false, or_true, true_or, or_false, false_or, or_self, reduceCtorEq, mm_q, Option.getD_some, cI_some, cJ_some, cV_some, cS_some, kd_sI, kd_sL, kd_sR, kd_cp, ln_sI, ln_sL, ln_sR, ln_cp, gR_sI, gR_sL, gR_sR, gR_cp, gL_sI, gL_sR, gL_cp, gI_sL, gI_sR, iI_add, iI_sub, iI_mul, iI_neg, iI_in, iI_tn, iI_lt, iI_eq, Nat.reduceLeDiff, Nat.reduceEqDiff, Nat.reduceAdd, Int.reduceEq, Int.reduceLT, Int.reduceLE, Int.reduceNeg, Int.reduceAdd, Int.reduceSub, Int.reduceMul, hy, show ¬ ty T i < 17 by omega, show ¬ 20 < ty T i by omega, h2, hk, C40 (d := d - 1) hT h]
/-- the number of a take -/
theorem C60n (hT : TS D n T N) (h : CR D n T N i s c) (hp : isSc p) (h2 : mm_gR c 154 2 = some p) (hk : mm_gI c p 0 = iI k) (k0 : 0 ≤ k) (k1 : k < 30) (w0 : 0 ≤ w) (w1 : w < 4) (hL : mm_gI c s 0 = iI Ln) (l0 : 4 ≤ Ln) (l1 : Ln ≤ 40) (hd : 12 ≤ d) {b : Int × Int × Int} {t : Int × Int} (hb : b = tkU T Ln w i 0) (ht : t = twS T 59 b.2.1 b.2.2) : ∃ c', mm_ev d 60 76 [some (.ref 154), some (.int (iI (17 + w)))] [] c = some (some (some (.int (iI (bI (decide (t.2 = 0)))))), c') ∧ Fr (scTk p) c c' ∧ (t.2 = 0 → CR D n T N t.1 s c' ∧ mm_gI c' p 0 = iI (k + 1) ∧ mm_gI c' (p + 1) k.toNat = iI (17 + w) ∧ mm_gI c' (p + 2) k.toNat = mm_gI c 154 5 ∧ (w = 0 ∨ w = 2 → mm_gI c' (p + 3) k.toNat = iI b.1) ∧ ∀ a j, p < a → a ≤ p + 3 → j < k.toNat → mm_gI c' a j = mm_gI c a j) ∧ (¬ t.2 = 0 → mm_gI c' 154 3 = iI t.2) := by
  have hp' : p = 146 ∨ p = 150 := hp
  have hst := h.2.2.2.1
  have r1 := h.2.2.2.2.1
  -- both with a number end alike
  have num : ∀ hi : Int, -1000 ≤ hi → hi ≤ 1000 → b = tnS T 0 hi i 0 → (∀ (c1 : mm_M), mm_ev (d - 1) 41 0 [some (.ref 154), some (.int (iI 0)), some (.int (iI (hi)))] [] c = some (some (some (.int (iI 0))), c1) → mm_ev d 60 76 [some (.ref 154), some (.int (iI (17 + w)))] [] c = some (some (some (.int (iI 0))), c1)) → (∀ (c1 : mm_M), mm_ev (d - 1) 41 0 [some (.ref 154), some (.int (iI 0)), some (.int (iI (hi)))] [] c = some (some (some (.int (iI 1))), c1) → mm_ev d 60 76 [some (.ref 154), some (.int (iI (17 + w)))] [] c = mm_ev d 60 119 [some (.ref 154), some (.int (iI (17 + w)))] [] c1) → ∃ c', mm_ev d 60 76 [some (.ref 154), some (.int (iI (17 + w)))] [] c = some (some (some (.int (iI (bI (decide (t.2 = 0)))))), c') ∧ Fr (scTk p) c c' ∧ (t.2 = 0 → CR D n T N t.1 s c' ∧ mm_gI c' p 0 = iI (k + 1) ∧ mm_gI c' (p + 1) k.toNat = iI (17 + w) ∧ mm_gI c' (p + 2) k.toNat = mm_gI c 154 5 ∧ (w = 0 ∨ w = 2 → mm_gI c' (p + 3) k.toNat = iI b.1) ∧ ∀ a j, p < a → a ≤ p + 3 → j < k.toNat → mm_gI c' a j = mm_gI c a j) ∧ (¬ t.2 = 0 → mm_gI c' 154 3 = iI t.2) := fun hi u0 u1 q f0 f1 => by
    obtain ⟨c1, e1, g1, s1, u1⟩ := C41 (d := d - 1) hT h (by omega) (lo := 0) (hi := hi) (by omega) (by omega) u0 u1
    rw [← q] at e1 s1 u1
    by_cases y : b.2.2 = 0
    · obtain ⟨h1, v1, v2, -⟩ := s1 y
      rw [bI_1 y] at e1
      rw [y] at ht
      obtain ⟨c2, e2, g2, s2, u2⟩ := C60e (d := d) (x := iI (17 + w)) hT h1 hp ((g1.2.2.1 _ _).trans h2) ((brS hp g1 (by omega) (by omega)).trans hk) k0 k1 hd ht
      refine ⟨c2, by rw [f1 _ e1]; exact e2, g1.BT.tr g2, fun y2 => ?_, u2⟩
      obtain ⟨x1, x2, x3, x4, x5, x6⟩ := s2 y2
      exact ⟨x1, x2, x3, x4.trans (v2 5 (by omega)), fun _ => x5.trans v1, fun a j y0 y1 y2 => (x6 a j y0 y1 y2).trans (brS hp g1 (by omega) (by omega))⟩
    · have tq : t = (b.2.1, b.2.2) := by rw [ht]; unfold twS; rw [if_neg y]
      have t2 : t.2 = b.2.2 := by rw [tq]
      rw [bI_0 y] at e1
      rw [t2, bI_0 y]
      exact ⟨c1, f0 _ e1, g1.BT, fun y2 => absurd y2 y, u1⟩
  have st0 : mm_kd c s = 7 := (stF h.1.1 hst).1
  by_cases z0 : w = 0
  · subst z0
    refine num (Ln - 1) (by omega) (by omega) (by rw [hb]; unfold tkU; rw [if_pos rfl]) (fun c1 e => ?_) (fun c1 e => ?_)
    · rw [sg_60_76 (by omega)]
      simp (disch := omega) only [shP h.1.1, st0, ↓reduceIte, not_false_eq_true, not_true_eq_false, and_self, and_true, true_and, false_and, and_false, or_true, true_or, or_false, false_or, or_self, reduceCtorEq, mm_q, Option.getD_some, cI_some, cJ_some, cV_some, cS_some, kd_sI, kd_sL, kd_sR, kd_cp, ln_sI, ln_sL, ln_sR, ln_cp, gR_sI, gR_sL, gR_sR, gR_cp, gL_sI, gL_sR, gL_cp, gI_sL, gI_sR, iI_add, iI_sub, iI_mul, iI_neg, iI_in, iI_tn, iI_lt, iI_eq, Nat.reduceLeDiff, Nat.reduceEqDiff, Nat.reduceAdd, Int.reduceEq, Int.reduceLT, Int.reduceLE, Int.reduceNeg, Int.reduceAdd, Int.reduceSub, Int.reduceMul, r1, hL, e]
    · rw [sg_60_76 (by omega)]
      simp (disch := omega) only [shP h.1.1, st0, ↓reduceIte, not_false_eq_true, not_true_eq_false, and_self, and_true, true_and, false_and, and_false, or_true, true_or, or_false, false_or, or_self, reduceCtorEq, mm_q, Option.getD_some, cI_some, cJ_some, cV_some, cS_some, kd_sI, kd_sL, kd_sR, kd_cp, ln_sI, ln_sL, ln_sR, ln_cp, gR_sI, gR_sL, gR_sR, gR_cp, gL_sI, gL_sR, gL_cp, gI_sL, gI_sR, iI_add, iI_sub, iI_mul, iI_neg, iI_in, iI_tn, iI_lt, iI_eq, Nat.reduceLeDiff, Nat.reduceEqDiff, Nat.reduceAdd, Int.reduceEq, Int.reduceLT, Int.reduceLE, Int.reduceNeg, Int.reduceAdd, Int.reduceSub, Int.reduceMul, r1, hL, e]
      rw [sg_60_101 (by omega)]
      simp (disch := omega) only [↓reduceIte, not_false_eq_true, not_true_eq_false, and_self, and_true, true_and, false_and, and_false, or_true, true_or, or_false, false_or, or_self, reduceCtorEq, mm_q, Option.getD_some, cI_some, cJ_some, cV_some, cS_some, kd_sI, kd_sL, kd_sR, kd_cp, ln_sI, ln_sL, ln_sR, ln_cp, gR_sI, gR_sL, gR_sR, gR_cp, gL_sI, gL_sR, gL_cp, gI_sL, gI_sR, iI_add, iI_sub, iI_mul, iI_neg, iI_in, iI_tn, iI_lt, iI_eq, Nat.reduceLeDiff, Nat.reduceEqDiff, Nat.reduceAdd, Int.reduceEq, Int.reduceLT, Int.reduceLE, Int.reduceNeg, Int.reduceAdd, Int.reduceSub, Int.reduceMul]
  · by_cases z2 : w = 2
    · subst z2
      refine num 99 (by omega) (by omega) (by rw [hb]; unfold tkU; rw [if_neg (by omega), if_pos rfl]) (fun c1 e => ?_) (fun c1 e => ?_)
      · rw [sg_60_76 (by omega)]
        simp (disch := omega) only [↓reduceIte, not_false_eq_true, not_true_eq_false, and_self, and_true, true_and, false_and, and_false, or_true, true_or, or_false, false_or, or_self, reduceCtorEq, mm_q, Option.getD_some, cI_some, cJ_some, cV_some, cS_some, kd_sI, kd_sL, kd_sR, kd_cp, ln_sI, ln_sL, ln_sR, ln_cp, gR_sI, gR_sL, gR_sR, gR_cp, gL_sI, gL_sR, gL_cp, gI_sL, gI_sR, iI_add, iI_sub, iI_mul, iI_neg, iI_in, iI_tn, iI_lt, iI_eq, Nat.reduceLeDiff, Nat.reduceEqDiff, Nat.reduceAdd, Int.reduceEq, Int.reduceLT, Int.reduceLE, Int.reduceNeg, Int.reduceAdd, Int.reduceSub, Int.reduceMul]
        rw [sg_60_101 (by omega)]
        simp (disch := omega) only [shP h.1.1, ↓reduceIte, not_false_eq_true, not_true_eq_false, and_self, and_true, true_and, false_and, and_false, or_true, true_or, or_false, false_or, or_self, reduceCtorEq, mm_q, Option.getD_some, cI_some, cJ_some, cV_some, cS_some, kd_sI, kd_sL, kd_sR, kd_cp, ln_sI, ln_sL, ln_sR, ln_cp, gR_sI, gR_sL, gR_sR, gR_cp, gL_sI, gL_sR, gL_cp, gI_sL, gI_sR, iI_add, iI_sub, iI_mul, iI_neg, iI_in, iI_tn, iI_lt, iI_eq, Nat.reduceLeDiff, Nat.reduceEqDiff, Nat.reduceAdd, Int.reduceEq, Int.reduceLT, Int.reduceLE, Int.reduceNeg, Int.reduceAdd, Int.reduceSub, Int.reduceMul, e]
      · rw [sg_60_76 (by omega)]
        simp (disch := omega) only [↓reduceIte, not_false_eq_true, not_true_eq_false, and_self, and_true, true_and, false_and, and_false, or_true, true_or, or_false, false_or, or_self, reduceCtorEq, mm_q, Option.getD_some, cI_some, cJ_some, cV_some, cS_some, kd_sI, kd_sL, kd_sR, kd_cp, ln_sI, ln_sL, ln_sR, ln_cp, gR_sI, gR_sL, gR_sR, gR_cp, gL_sI, gL_sR, gL_cp, gI_sL, gI_sR, iI_add, iI_sub, iI_mul, iI_neg, iI_in, iI_tn, iI_lt, iI_eq, Nat.reduceLeDiff, Nat.reduceEqDiff, Nat.reduceAdd, Int.reduceEq, Int.reduceLT, Int.reduceLE, Int.reduceNeg, Int.reduceAdd, Int.reduceSub, Int.reduceMul]
        rw [sg_60_101 (by omega)]
        simp (disch := omega) only [shP h.1.1, ↓reduceIte, not_false_eq_true, not_true_eq_false, and_self, and_true, true_and, false_and, and_false, or_true, true_or, or_false, false_or, or_self, reduceCtorEq, mm_q, Option.getD_some, cI_some, cJ_some, cV_some, cS_some, kd_sI, kd_sL, kd_sR, kd_cp, ln_sI, ln_sL, ln_sR, ln_cp, gR_sI, gR_sL, gR_sR, gR_cp, gL_sI, gL_sR, gL_cp, gI_sL, gI_sR, iI_add, iI_sub, iI_mul, iI_neg, iI_in, iI_tn, iI_lt, iI_eq, Nat.reduceLeDiff, Nat.reduceEqDiff, Nat.reduceAdd, Int.reduceEq, Int.reduceLT, Int.reduceLE, Int.reduceNeg, Int.reduceAdd, Int.reduceSub, Int.reduceMul, e]
    · have q : b = (0, i, 0) := by rw [hb]; unfold tkU; rw [if_neg z0, if_neg z2]
      have ht' : t = twS T 59 i 0 := by rw [ht, q]
      obtain ⟨c2, e2, g2, s2, u2⟩ := C60e (d := d) (x := iI (17 + w)) hT h hp h2 hk k0 k1 hd ht'
      refine ⟨c2, ?_, g2, fun y2 => ?_, u2⟩
      · rw [← e2, sg_60_76 (by omega)]
        simp (disch := omega) only [↓reduceIte, not_false_eq_true, not_true_eq_false, and_self, and_true, true_and, false_and, and_false, or_true, true_or, or_false, false_or, or_self, reduceCtorEq, mm_q, Option.getD_some, cI_some, cJ_some, cV_some, cS_some, kd_sI, kd_sL, kd_sR, kd_cp, ln_sI, ln_sL, ln_sR, ln_cp, gR_sI, gR_sL, gR_sR, gR_cp, gL_sI, gL_sR, gL_cp, gI_sL, gI_sR, iI_add, iI_sub, iI_mul, iI_neg, iI_in, iI_tn, iI_lt, iI_eq, Nat.reduceLeDiff, Nat.reduceEqDiff, Nat.reduceAdd, Int.reduceEq, Int.reduceLT, Int.reduceLE, Int.reduceNeg, Int.reduceAdd, Int.reduceSub, Int.reduceMul, show ¬ 17 + w = 17 by omega]
        rw [sg_60_101 (by omega)]
        simp (disch := omega) only [↓reduceIte, not_false_eq_true, not_true_eq_false, and_self, and_true, true_and, false_and, and_false, or_true, true_or, or_false, false_or, or_self, reduceCtorEq, mm_q, Option.getD_some, cI_some, cJ_some, cV_some, cS_some, kd_sI, kd_sL, kd_sR, kd_cp, ln_sI, ln_sL, ln_sR, ln_cp, gR_sI, gR_sL, gR_sR, gR_cp, gL_sI, gL_sR, gL_cp, gI_sL, gI_sR, iI_add, iI_sub, iI_mul, iI_neg, iI_in, iI_tn, iI_lt, iI_eq, Nat.reduceLeDiff, Nat.reduceEqDiff, Nat.reduceAdd, Int.reduceEq, Int.reduceLT, Int.reduceLE, Int.reduceNeg, Int.reduceAdd, Int.reduceSub, Int.reduceMul, show ¬ 17 + w = 19 by omega]
      · obtain ⟨x1, x2, x3, x4, x5, x6⟩ := s2 y2
        exact ⟨x1, x2, x3, x4, fun y => by omega, x6⟩
/-- a good take -/
theorem C60g (hT : TS D n T N) (h : CR D n T N i s c) (hp : isSc p) (h2 : mm_gR c 154 2 = some p) (hk : mm_gI c p 0 = iI k) (k0 : 0 ≤ k) (k1 : k < 30) (hw : ty T i = 17 + w) (w0 : 0 ≤ w) (w1 : w < 4) (hL : mm_gI c s 0 = iI Ln) (l0 : 4 ≤ Ln) (l1 : Ln ≤ 40) (hN : NR Y W cnt a0 b0 s c) (h10 : mm_gI c s 10 = iI b0) (hd : 14 ≤ d) {a b : Int × Int × Int} {t : Int × Int} (ha : a = tkV T Y W cnt w (i + 1)) (hb : b = tkU T Ln w a.2.1 a.2.2) (ht : t = twS T 59 b.2.1 b.2.2) : ∃ c', mm_ev d 60 0 [some (.ref 154), none] [] c = some (some (some (.int (iI (bI (decide (t.2 = 0)))))), c') ∧ Fr (scTk p) c c' ∧ (t.2 = 0 → CR D n T N t.1 s c' ∧ mm_gI c' p 0 = iI (k + 1) ∧ mm_gI c' (p + 1) k.toNat = iI (17 + w) ∧ (w < 3 → mm_gI c' (p + 2) k.toNat = iI a.1) ∧ (w = 0 ∨ w = 2 → mm_gI c' (p + 3) k.toNat = iI b.1) ∧ ∀ a j, p < a → a ≤ p + 3 → j < k.toNat → mm_gI c' a j = mm_gI c a j) ∧ (¬ t.2 = 0 → mm_gI c' 154 3 = iI t.2) := by
  have hp' : p = 146 ∨ p = 150 := hp
  have hst := h.2.2.2.1
  obtain ⟨i0, i1⟩ := h.2.2.1
  have hy := h.2.1.2.1
  have iN := hT.lt i0 i1 (by omega)
  obtain ⟨c1, e1, g1, h1, -⟩ := CR.nx (d := d - 1) hT h (by omega) iN
  have run1 : mm_ev d 60 0 [some (.ref 154), none] [] c = mm_ev d 60 51 [some (.ref 154), some (.int (iI (17 + w)))] [] c1 := by
    rw [sg_60_0 (by omega)]
    simp (disch := omega) only [shP h.1.1, shT h.1.1, pcF h.1.1 hp, ↓reduceIte, not_false_eq_true, not_true_eq_false, and_self, and_true, true_and, false_and, and_false, or_true, true_or, or_false, false_or, or_self, reduceCtorEq, mm_q, Option.getD_some, cI_some, cJ_some, cV_some, cS_some, kd_sI, kd_sL, kd_sR, kd_cp, ln_sI, ln_sL, ln_sR, ln_cp, gR_sI, gR_sL, gR_sR, gR_cp, gL_sI, gL_sR, gL_cp, gI_sL, gI_sR, iI_add, iI_sub, iI_mul, iI_neg, iI_in, iI_tn, iI_lt, iI_eq, Nat.reduceLeDiff, Nat.reduceEqDiff, Nat.reduceAdd, Int.reduceEq, Int.reduceLT, Int.reduceLE, Int.reduceNeg, Int.reduceAdd, Int.reduceSub, Int.reduceMul, hy, hw, show ¬ 17 + w < 17 by omega, show ¬ 20 < 17 + w by omega, h2, hk, k1, e1]
  have h2' : CR D n T N (i + 1) s (mm_sI (mm_sI c1 154 5 (iI (-1))) 154 4 (iI 0)) := (h1.r (k := 5)).r (k := 4)
  have g2' : Fr scBr c (mm_sI (mm_sI c1 154 5 (iI (-1))) 154 4 (iI 0)) := (g1.tr Fr.r154).tr Fr.r154
  have stI : ∀ (c' : mm_M) (x : Nat), Fr scBr c c' → mm_gI c' s x = mm_gI c s x := fun c' x g => g.gI (scB_st hst (by omega) (by omega))
  rw [run1]
  by_cases z3 : w < 3
  · have q : a = ((thS T Y W cnt 20 8 (i + 1) 0).1, (if 0 < (thS T Y W cnt 20 8 (i + 1) 0).2 then i + 1 else i + 1 + 1), (thS T Y W cnt 20 8 (i + 1) 0).2) := by rw [ha]; unfold tkV; rw [if_pos z3]
    have q1 : a.1 = (thS T Y W cnt 20 8 (i + 1) 0).1 := by rw [q]
    have q2 : a.2.1 = (if 0 < (thS T Y W cnt 20 8 (i + 1) 0).2 then i + 1 else i + 1 + 1) := by rw [q]
    have q3 : a.2.2 = (thS T Y W cnt 20 8 (i + 1) 0).2 := by rw [q]
    obtain ⟨c3, e3, g3, s3, u3⟩ := C51 (d := d - 1) hT h2' (by omega) (hN.br hst g2') ((stI _ 10 g2').trans h10)
    rw [← q3] at e3 s3 u3 q2
    have run2 : mm_ev d 60 51 [some (.ref 154), some (.int (iI (17 + w)))] [] c1 = (if iI (bI (decide (a.2.2 = 0))) = iI 0 then some (some (some (.int (iI 0))), c3) else mm_ev d 60 76 [some (.ref 154), some (.int (iI (17 + w)))] [] c3) := by
      rw [sg_60_51 (by omega)]
      simp (disch := omega) only [shP h1.1.1, ↓reduceIte, not_false_eq_true, not_true_eq_false, and_self, and_true, true_and, false_and, and_false, or_true, true_or, or_false, false_or, or_self, reduceCtorEq, mm_q, Option.getD_some, cI_some, cJ_some, cV_some, cS_some, kd_sI, kd_sL, kd_sR, kd_cp, ln_sI, ln_sL, ln_sR, ln_cp, gR_sI, gR_sL, gR_sR, gR_cp, gL_sI, gL_sR, gL_cp, gI_sL, gI_sR, iI_add, iI_sub, iI_mul, iI_neg, iI_in, iI_tn, iI_lt, iI_eq, Nat.reduceLeDiff, Nat.reduceEqDiff, Nat.reduceAdd, Int.reduceEq, Int.reduceLT, Int.reduceLE, Int.reduceNeg, Int.reduceAdd, Int.reduceSub, Int.reduceMul, show ¬ 17 + w = 20 by omega, e3]
    rw [run2]
    by_cases y : a.2.2 = 0
    · obtain ⟨h3, v3, -, -⟩ := s3 y
      have g3' := g2'.tr g3
      rw [bI_1 y, if_neg (by decide)]
      rw [if_neg (by omega)] at q2
      rw [q2, y] at hb
      obtain ⟨c4, e4, g4, s4, u4⟩ := C60n (d := d) hT h3 hp ((g3'.2.2.1 _ _).trans h2) ((brS hp g3' (by omega) (by omega)).trans hk) k0 k1 w0 w1 ((stI _ 0 g3').trans hL) l0 l1 (by omega) hb ht
      refine ⟨c4, e4, g3'.BT.tr g4, fun y2 => ?_, u4⟩
      obtain ⟨x1, x2, x3, x4, x5, x6⟩ := s4 y2
      exact ⟨x1, x2, x3, fun _ => by rw [x4, v3, q1], x5, fun a j y0 y1 y2 => (x6 a j y0 y1 y2).trans (brS hp g3' (by omega) (by omega))⟩
    · rw [bI_0 y, if_pos rfl]
      have b2 : b.2.2 = a.2.2 := by
        rw [hb]; unfold tkU
        by_cases z0 : w = 0
        · rw [if_pos z0, tn_f y]
        · by_cases z2 : w = 2
          · rw [if_neg z0, if_pos z2, tn_f y]
          · rw [if_neg z0, if_neg z2]
      have t2 : t.2 = a.2.2 := by rw [ht]; unfold twS; rw [b2, if_neg y]
      rw [t2, bI_0 y]
      exact ⟨c3, rfl, (g2'.tr g3).BT, fun y2 => absurd y2 y, u3⟩
  · have q : a = (0, i + 1, 0) := by rw [ha]; unfold tkV; rw [if_neg z3]
    have run2 : mm_ev d 60 51 [some (.ref 154), some (.int (iI (17 + w)))] [] c1 = mm_ev d 60 76 [some (.ref 154), some (.int (iI (17 + w)))] [] (mm_sI (mm_sI c1 154 5 (iI (-1))) 154 4 (iI 0)) := by
      rw [sg_60_51 (by omega)]
      simp (disch := omega) only [shP h1.1.1, ↓reduceIte, not_false_eq_true, not_true_eq_false, and_self, and_true, true_and, false_and, and_false, or_true, true_or, or_false, false_or, or_self, reduceCtorEq, mm_q, Option.getD_some, cI_some, cJ_some, cV_some, cS_some, kd_sI, kd_sL, kd_sR, kd_cp, ln_sI, ln_sL, ln_sR, ln_cp, gR_sI, gR_sL, gR_sR, gR_cp, gL_sI, gL_sR, gL_cp, gI_sL, gI_sR, iI_add, iI_sub, iI_mul, iI_neg, iI_in, iI_tn, iI_lt, iI_eq, Nat.reduceLeDiff, Nat.reduceEqDiff, Nat.reduceAdd, Int.reduceEq, Int.reduceLT, Int.reduceLE, Int.reduceNeg, Int.reduceAdd, Int.reduceSub, Int.reduceMul, show 17 + w = 20 by omega]
    rw [run2]
    rw [q] at hb
    obtain ⟨c4, e4, g4, s4, u4⟩ := C60n (d := d) hT h2' hp ((g2'.2.2.1 _ _).trans h2) ((brS hp g2' (by omega) (by omega)).trans hk) k0 k1 w0 w1 ((stI _ 0 g2').trans hL) l0 l1 (by omega) hb ht
    refine ⟨c4, e4, g2'.BT.tr g4, fun y2 => ?_, u4⟩
    obtain ⟨x1, x2, x3, x4, x5, x6⟩ := s4 y2
    exact ⟨x1, x2, x3, fun y => absurd y z3, x5, fun a j y0 y1 y2 => (x6 a j y0 y1 y2).trans (brS hp g2' (by omega) (by omega))⟩
end
