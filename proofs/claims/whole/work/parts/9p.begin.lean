section
variable {D D' D2 : Nat → Nat → Int32} {E : Nat → Nat → Int64} {m m' c c' c'' : mm_M} {d s t p L : Nat} {n N i f : Int} {T : TK} {X X' X'' : Nat → Nat → Int32} {Y : Nat → Int64}
/-- the new data as the draft has them -/
theorem bc_22 {k : Nat} (h : k < 100) : bgD (cmD D X) 322 k = X 322 k := by
  unfold bgD beginD cmD
  rw [if_neg (by omega), if_neg (by omega), if_neg (by omega), if_neg (by omega), if_neg (by omega), if_neg (by omega), if_neg (by omega), if_neg (by omega), if_pos ⟨rfl, h⟩]
theorem bc_st {j : Int} (j0 : 0 ≤ j) (j1 : j < 100) : st (bgD (cmD D X)) j = st X j := by
  unfold st
  rw [bc_22 (by omega)]
theorem bc_op {k : Int} (k0 : 0 ≤ k) (k1 : k < cdX X) : opS (bgD (cmD D X)) k = opS X k ∧ arS (bgD (cmD D X)) k = arS X k := by
  unfold opS arS bgD beginD cmD
  constructor
  · rw [if_neg (by omega), if_neg (by omega), if_neg (by omega), if_neg (by omega), if_neg (by omega), if_neg (by omega), if_neg (by omega), if_neg (by omega), if_neg (by omega), if_pos ⟨rfl, by omega⟩]
  · rw [if_neg (by omega), if_neg (by omega), if_neg (by omega), if_neg (by omega), if_neg (by omega), if_neg (by omega), if_neg (by omega), if_neg (by omega), if_neg (by omega), if_neg (by omega), if_pos ⟨rfl, by omega⟩]
theorem bc_27 {k : Nat} (h : (k : Int) < rmX X) : bgD (cmD D X) 327 k = X 327 k := by
  unfold bgD beginD cmD
  rw [if_neg (by omega), if_neg (by omega), if_neg (by omega), if_neg (by omega), if_neg (by omega), if_neg (by omega), if_neg (by omega), if_neg (by omega), if_neg (by omega), if_neg (by omega), if_neg (by omega), if_pos ⟨rfl, h⟩]
theorem bc_18 : bgD (cmD D X) 316 18 = X 316 19 := by
  unfold bgD beginD cmD
  rw [if_neg (by omega), if_neg (by omega), if_neg (by omega), if_neg (by omega), if_neg (by omega), if_neg (by omega), if_neg (by omega), if_neg (by omega), if_neg (by omega), if_neg (by omega), if_neg (by omega), if_neg (by omega), if_pos ⟨rfl, rfl⟩]
theorem bc_o {a k : Nat} (h : a = 317 ∨ (a = 316 ∧ k = 2)) : bgD (cmD D X) a k = D a k := by
  unfold bgD beginD cmD
  rw [if_neg (by omega), if_neg (by omega), if_neg (by omega), if_neg (by omega), if_neg (by omega), if_neg (by omega), if_neg (by omega), if_neg (by omega), if_neg (by omega), if_neg (by omega), if_neg (by omega), if_neg (by omega), if_neg (by omega)]
theorem bc_sa {j : Int} (j0 : 25 < j) (j1 : ¬ j = 46) : sa (bgD (cmD D X)) j = sa D j := by
  unfold sa bgD beginD cmD
  rw [if_neg (by omega), if_neg (by omega), if_neg (by omega), if_neg (by omega), if_neg (by omega), if_neg (by omega), if_neg (by omega), if_neg (by omega), if_neg (by omega), if_neg (by omega), if_neg (by omega), if_neg (by omega), if_neg (by omega)]
theorem bc_s0 : sa (bgD (cmD D X)) 25 = 0 ∧ sa (bgD (cmD D X)) 46 = 0 ∧ sa (bgD (cmD D X)) 0 = 0 := by
  refine ⟨?_, ?_, ?_⟩
  · unfold sa bgD
    rw [if_neg (by omega), if_neg (by omega), if_neg (by omega), if_pos ⟨rfl, by omega⟩]; rfl
  · unfold sa bgD
    rw [if_neg (by omega), if_neg (by omega), if_neg (by omega), if_pos ⟨rfl, by omega⟩]; rfl
  · unfold sa bgD beginD
    rw [if_neg (by omega), if_neg (by omega), if_neg (by omega), if_neg (by omega), if_pos ⟨rfl, by omega⟩]; rfl
theorem bc_mk {k : Int} (k0 : 0 ≤ k) (k1 : k < 4) : mkd (bgD (cmD D X)) k = 0 := by
  unfold mkd bgD
  rw [if_pos ⟨rfl, by omega⟩]; rfl
theorem bc_un : und (bgD (cmD D X)) = 0 := by
  unfold und bgD
  rw [if_neg (by omega), if_pos ⟨rfl, rfl⟩]; rfl
theorem bc_li : li (bgD (cmD D X)) 0 = 0 := by
  unfold li bgD
  rw [if_neg (by omega), if_neg (by omega), if_pos ⟨rfl, by omega⟩]; rfl
/-- hands as told -/
theorem bc_b {j : Int} (j0 : 1 ≤ j) (j1 : j < 25) : begB (bgD (cmD D X)) j = sa (bgD (cmD D X)) j := by
  have e22 : ∀ q : Nat, q < 100 → (cmD D X) 322 q = X 322 q := fun q hq => by unfold cmD; rw [if_pos ⟨rfl, hq⟩]
  unfold begB
  rw [if_neg (by omega)]
  by_cases y1 : j < 9
  · rw [if_pos y1]
    unfold wk
    rw [bc_st (by omega) (by omega)]
    unfold sa st bgD beginD
    rw [if_neg (by omega), if_neg (by omega), if_neg (by omega), if_neg (by omega), if_neg (by omega), if_pos ⟨rfl, by omega⟩, e22 _ (by omega), show (17 + 7 * (j - 1) + 2).toNat = 19 + 7 * (j.toNat - 0 - 1) by omega]
  · rw [if_neg y1]
    by_cases y2 : j < 17
    · rw [if_pos y2]
      unfold wk
      rw [bc_st (by omega) (by omega)]
      unfold sa st bgD beginD
      rw [if_neg (by omega), if_neg (by omega), if_neg (by omega), if_neg (by omega), if_neg (by omega), if_neg (by omega), if_pos ⟨rfl, by omega⟩, e22 _ (by omega), show (17 + 7 * (j - 9) + 3).toNat = 20 + 7 * (j.toNat - 0 - 9) by omega]
    · rw [if_neg y2]
      unfold sa bgD beginD
      rw [if_neg (by omega), if_neg (by omega), if_neg (by omega), if_neg (by omega), if_neg (by omega), if_neg (by omega), if_neg (by omega), if_pos ⟨rfl, by omega⟩]; rfl
theorem bc_S (h : InvS X) : InvS (bgD (cmD D X)) := by
  obtain ⟨⟨c0, c1⟩, ⟨l0, l1⟩, ⟨f0, f1, f2⟩, ⟨p0, p1⟩, ⟨w0, w1⟩, ⟨q0, q1⟩, ⟨x0, x1⟩, ⟨r0, r1⟩, hte, hwk, hmu⟩ := h
  refine ⟨?_, ?_, ?_, ?_, ?_, ?_, ?_, ?_, fun x y0 y1 => ?_, fun x y0 y1 => ?_, fun x y0 y1 => ?_⟩
  · rw [bc_st (by omega) (by omega)]; omega
  · rw [bc_st (by omega) (by omega)]; omega
  · rw [bc_st (by omega) (by omega), bc_st (by omega) (by omega), bc_st (by omega) (by omega)]; omega
  · rw [bc_st (by omega) (by omega), bc_st (by omega) (by omega)]; omega
  · rw [bc_st (by omega) (by omega)]; omega
  · rw [bc_st (by omega) (by omega)]; omega
  · rw [bc_st (by omega) (by omega)]; omega
  · rw [bc_st (by omega) (by omega)]; omega
  · rw [bc_st (by omega) (by omega)] at y1
    unfold te
    rw [bc_st (by omega) (by omega)]
    exact hte x y0 y1
  · rw [bc_st (by omega) (by omega)] at y1
    have := hwk x y0 y1
    unfold InvW wk at *
    rw [bc_st (j := 0) (by omega) (by omega), bc_st (j := 1) (by omega) (by omega), bc_st (j := 5) (by omega) (by omega), bc_st (by omega) (by omega), bc_st (by omega) (by omega), bc_st (by omega) (by omega), bc_st (by omega) (by omega), bc_st (by omega) (by omega), bc_st (by omega) (by omega), bc_st (by omega) (by omega)]
    exact this
  · rw [bc_st (by omega) (by omega)] at y1
    have := hmu x y0 y1
    unfold InvQ mu at *
    rw [bc_st (j := 0) (by omega) (by omega), bc_st (j := 5) (by omega) (by omega), bc_st (j := 6) (by omega) (by omega), bc_st (by omega) (by omega), bc_st (by omega) (by omega), bc_st (by omega) (by omega)]
    exact this
theorem bc_L (h : LX X i) : InvL (bgD (cmD D X)) := by
  unfold InvL
  rw [bc_st (by omega) (by omega), bc_st (by omega) (by omega)]
  constructor
  · rcases h.2.1.1 with q | ⟨q, w⟩
    · exact Or.inl q
    · obtain ⟨e, u0, u1, u2⟩ := h.2.2.1.1 q
      exact Or.inr ⟨q, lawOk_ext (e := e) (fun j j0 j1 => bc_op j0 (by omega)) u2 1100 _ 0 u0 w⟩
  · rcases h.2.1.2 with q | ⟨q, w⟩
    · exact Or.inl q
    · obtain ⟨e, u0, u1, u2⟩ := h.2.2.1.2 q
      exact Or.inr ⟨q, lawOk_ext (e := e) (fun j j0 j1 => bc_op j0 (by omega)) u2 1100 _ 0 u0 w⟩
theorem bc_R (h : RSt X c t) (hX : LX X i) : RSt (bgD (cmD D X)) c t := by
  obtain ⟨⟨c0, c1⟩, ⟨l0, l1⟩, ⟨f0, f1, f2⟩, ⟨p0, p1⟩, ⟨w0, w1⟩, ⟨q0, q1⟩, ⟨x0, x1⟩, ⟨r0, r1⟩, hte, hwk, hmu⟩ := hX.1
  obtain ⟨⟨b0, b1, b2, b3, b4, b5, b6, b7, b8⟩, bt, bw, bq, la, lb⟩ := h
  refine ⟨⟨?_, ?_, ?_, ?_, ?_, ?_, ?_, ?_, ?_⟩, fun x y0 y1 => ?_, fun x y0 y1 => ?_, fun x y0 y1 => ?_, ?_, ?_⟩
  · rw [bc_st (by omega) (by omega)]; exact b0
  · rw [bc_st (by omega) (by omega)]; exact b1
  · rw [bc_st (by omega) (by omega)]; exact b2
  · rw [bc_st (by omega) (by omega)]; exact b3
  · rw [bc_st (by omega) (by omega)]; exact b4
  · rw [bc_st (by omega) (by omega)]; exact b5
  · rw [bc_st (by omega) (by omega)]; exact b6
  · rw [bc_st (by omega) (by omega)]; exact b7
  · rw [bc_st (by omega) (by omega)]; exact b8
  · rw [bc_st (by omega) (by omega)] at y1
    unfold te
    rw [bc_st (by omega) (by omega)]
    exact bt x y0 y1
  · rw [bc_st (by omega) (by omega)] at y1
    unfold wk
    rw [bc_st (by omega) (by omega), bc_st (by omega) (by omega), bc_st (by omega) (by omega), bc_st (by omega) (by omega), bc_st (by omega) (by omega), bc_st (by omega) (by omega), bc_st (by omega) (by omega)]
    exact bw x y0 y1
  · rw [bc_st (by omega) (by omega)] at y1
    unfold mu
    rw [bc_st (by omega) (by omega), bc_st (by omega) (by omega), bc_st (by omega) (by omega)]
    exact bq x y0 y1
  · rw [bc_st (by omega) (by omega)]
    exact la.ext hX.2.2.1.1 (fun k k0 k1 => bc_op k0 k1)
  · rw [bc_st (by omega) (by omega)]
    exact lb.ext hX.2.2.1.2 (fun k k0 k1 => bc_op k0 k1)
theorem NR.cgY {Y' : Nat → Int64} {W W' : Nat → Int32} {cnt a b : Int} (h : NR Y W cnt a b s c) (e : ∀ k : Nat, (k : Int) < cnt → Y' k = Y k ∧ W' k = W k) : NR Y' W' cnt a b s c := by
  obtain ⟨v1, v2, v3, v4, v5, v6, v7⟩ := h
  refine ⟨v1, v2, v3, fun j hj => ?_, fun k j hk hj q => ?_, fun w w0 w1 => ?_, fun w w0 w1 => ?_⟩
  · rw [(e j hj).1, (e j hj).2]; exact v4 j hj
  · rw [(e k hk).1, (e j hj).1] at q; exact v5 k j hk hj q
  · obtain ⟨k, k1, k2⟩ := v6 w w0 w1
    exact ⟨k, k1, by rw [(e k k1).2]; exact k2⟩
  · obtain ⟨k, k1, k2⟩ := v7 w w0 w1
    exact ⟨k, k1, by rw [(e k k1).2]; exact k2⟩
/-- beginStreet -/
theorem C102 (hs : Sh c) (ht : isSt t) (hp : isSc p) (g1 : mm_gR c 100 1 = some t) (g3 : mm_gR c 100 3 = some p) (hR : RSt X c t) (hX : LX X i) (hP : RP D c) (hd : 6 ≤ d) : ∃ c', mm_ev d 102 0 [some (.ref 100)] [] c = some (some none, c') ∧ RCm (bgD (cmD D X)) c' t p ∧ c'.1 = c.1 ∧ c'.2.1 = c.2.1 ∧ (∀ a k, ¬ (a = 172 ∧ k = 4) → mm_gR c' a k = mm_gR c a k) ∧ (∀ a k, (101 ≤ a ∧ a ≤ 145) → ¬ a = 113 → ¬ a = 116 → ¬ a = 134 → ¬ a = 137 → mm_gI c' a k = mm_gI c a k ∧ mm_gL c' a k = mm_gL c a k) ∧ (∀ a k, 316 ≤ a → mm_gI c' a k = mm_gI c a k ∧ mm_gL c' a k = mm_gL c a k) := by
  have ht' : t = 104 ∨ t = 125 := ht
  have hp' : p = 146 ∨ p = 150 := hp
  have hI := bc_S (D := D) hX.1
  have hL := bc_L (D := D) hX
  have hR2 := bc_R (D := D) hR hX
  have k9 := hI.2.2.2.2.2.1.2
  have xf := shX hs
  obtain ⟨c1, e1, f1, z1, h1⟩ := C10 (d := d - 1) (H := 155) hs ht h155 (by omega) hR2 hI (by omega)
  have hs1 := f1.sh hs
  have g1' : mm_gR c1 100 1 = some t := (f1.2.2.1 _ _).trans g1
  have g3' : mm_gR c1 100 3 = some p := (f1.2.2.1 _ _).trans g3
  generalize h5 : mm_sI (mm_sI (mm_sI (mm_sI (mm_sI (mm_sI c1 p 0 (iI 0)) 163 0 (iI 0)) 163 3 (iI 0)) 100 14 (iI 0)) 100 10 (iI 0)) 100 11 (iI 0) = c5
  have hs5 : Sh c5 := by rw [← h5]; exact hs1
  have o5 : ∀ a k, ¬ (a = p ∧ k = 0) → ¬ (a = 163 ∧ (k = 0 ∨ k = 3)) → ¬ (a = 100 ∧ (k = 14 ∨ k = 10 ∨ k = 11)) → mm_gI c5 a k = mm_gI c1 a k := fun a k y1 y2 y3 => by
    rw [← h5, gI_sI, if_neg (by omega), gI_sI, if_neg (by omega), gI_sI, if_neg (by omega), gI_sI, if_neg (by omega), gI_sI, if_neg (by omega), gI_sI, if_neg (by omega)]
  have oc : ∀ a k, (a < 155 ∨ 158 < a) → mm_gI c1 a k = mm_gI c a k := fun a k y => f1.gI (scD_n (by omega))
  have R5 : RSt (bgD (cmD D X)) c5 t := hR2.cg (fun a k a0 a1 _ _ => (o5 a k (by omega) (by omega) (by omega)).trans (oc a k (by omega))) k9
  have B0 := bc_s0 (D := D) (X := X)
  have H5 : HD (bgD (cmD D X)) c5 155 (sa (bgD (cmD D X))) := by
    have := h1.sa (C := sa (bgD (cmD D X))) (fun j j0 j1 => bc_b j0 j1) k9
    intro w w0 w1
    obtain ⟨q1, q2, q3⟩ := this w w0 w1
    exact ⟨(o5 _ _ (by omega) (by omega) (by omega)).trans q1, (o5 _ _ (by omega) (by omega) (by omega)).trans q2, (o5 _ _ (by omega) (by omega) (by omega)).trans q3⟩
  have g5 : mm_gR c5 100 1 = some t := by rw [← h5]; exact g1'
  obtain ⟨c6, e6, f6, q6⟩ := C104 (d := d - 1) hs5 ht g5 R5 H5 (by rw [o5 _ _ (by omega) (by omega) (by omega), z1, B0.2.2]) hI hL (by omega)
  have k6 : ∀ a k, ¬ (173 ≤ a ∧ a ≤ 177) → ¬ a = 113 → ¬ a = 116 → ¬ a = 134 → ¬ a = 137 → mm_gI c6 a k = mm_gI c5 a k := fun a k y y1 y2 y3 y4 => fw_o f6 y (by unfold scK; rw [nb y1, nb y2, nb y3, nb y4]; rfl)
  have v5 : mm_gI c5 p 0 = iI 0 ∧ mm_gI c5 163 0 = iI 0 ∧ mm_gI c5 163 3 = iI 0 ∧ mm_gI c5 100 14 = iI 0 ∧ mm_gI c5 100 10 = iI 0 ∧ mm_gI c5 100 11 = iI 0 := by
    rw [← h5]
    refine ⟨?_, ?_, ?_, ?_, ?_, ?_⟩
    · rw [gI_sI, if_neg (by omega), gI_sI, if_neg (by omega), gI_sI, if_neg (by omega), gI_sI, if_neg (by omega), gI_sI, if_neg (by omega), gI_sI, if_pos ⟨rfl, rfl⟩]
    · rw [gI_sI, if_neg (by omega), gI_sI, if_neg (by omega), gI_sI, if_neg (by omega), gI_sI, if_neg (by omega), gI_sI, if_pos ⟨rfl, rfl⟩]
    · rw [gI_sI, if_neg (by omega), gI_sI, if_neg (by omega), gI_sI, if_neg (by omega), gI_sI, if_pos ⟨rfl, rfl⟩]
    · rw [gI_sI, if_neg (by omega), gI_sI, if_neg (by omega), gI_sI, if_pos ⟨rfl, rfl⟩]
    · rw [gI_sI, if_neg (by omega), gI_sI, if_pos ⟨rfl, rfl⟩]
    · rw [gI_sI, if_pos ⟨rfl, rfl⟩]
  obtain ⟨v1, v2, v3, v4, v6, v7⟩ := v5
  refine ⟨c6, ?_, ⟨q6, hp, ?_, ⟨?_, fun k k0 k1 => ?_⟩, ⟨⟨?_, ?_⟩, fun k k0 k1 => ?_, fun k k0 k1 => ?_⟩, ⟨?_, ?_, 0, ⟨by omega, by omega⟩, ?_, fun k k0 k1 => ?_⟩, fun k k0 k1 => ⟨?_, fun y => ?_⟩⟩, ?_, ?_, fun a k y => ?_, fun a k y y1 y2 y3 y4 => ?_, fun a k y => ?_⟩
  · rw [sg_102_0 (by omega)]
    simp (disch := omega) only [xf, shP hs, ↓reduceIte, not_false_eq_true, not_true_eq_false, and_self, and_true, true_and, false_and, and_false, or_true, true_or, or_false, false_or, or_self, reduceCtorEq, mm_q, Option.getD_some, cI_some, cJ_some, cV_some, cS_some, kd_sI, kd_sL, kd_sR, kd_cp, ln_sI, ln_sL, ln_sR, ln_cp, gR_sI, gR_sL, gR_sR, gR_cp, gL_sI, gL_sR, gL_cp, gI_sL, gI_sR, iI_add, iI_sub, iI_mul, iI_neg, iI_in, iI_tn, iI_lt, iI_eq, Nat.reduceLeDiff, Nat.reduceEqDiff, Nat.reduceAdd, Int.reduceEq, Int.reduceLT, Int.reduceLE, Int.reduceNeg, Int.reduceAdd, Int.reduceSub, Int.reduceMul, g1, e1]
    rw [sg_102_11 (by omega)]
    have sp := spF hs1 hp
    have e103 : mm_ev (d - 1) 103 0 [some (.ref 100)] [] (mm_sI (mm_sI (mm_sI (mm_sI c1 p 0 (iI 0)) 163 0 (iI 0)) 163 3 (iI 0)) 100 14 (iI 0)) = some (some none, c5) := by
      rw [sg_103_0]
      simp (disch := omega) only [shX hs1, ↓reduceIte, not_false_eq_true, not_true_eq_false, and_self, and_true, true_and, false_and, and_false, or_true, true_or, or_false, false_or, or_self, reduceCtorEq, mm_q, Option.getD_some, cI_some, cJ_some, cV_some, cS_some, kd_sI, kd_sL, kd_sR, kd_cp, ln_sI, ln_sL, ln_sR, ln_cp, gR_sI, gR_sL, gR_sR, gR_cp, gL_sI, gL_sR, gL_cp, gI_sL, gI_sR, iI_add, iI_sub, iI_mul, iI_neg, iI_in, iI_tn, iI_lt, iI_eq, Nat.reduceLeDiff, Nat.reduceEqDiff, Nat.reduceAdd, Int.reduceEq, Int.reduceLT, Int.reduceLE, Int.reduceNeg, Int.reduceAdd, Int.reduceSub, Int.reduceMul, h5]
    simp (disch := omega) only [shX hs1, shP hs1, shX hs5, sp, ↓reduceIte, not_false_eq_true, not_true_eq_false, and_self, and_true, true_and, false_and, and_false, or_true, true_or, or_false, false_or, or_self, reduceCtorEq, mm_q, Option.getD_some, cI_some, cJ_some, cV_some, cS_some, kd_sI, kd_sL, kd_sR, kd_cp, ln_sI, ln_sL, ln_sR, ln_cp, gR_sI, gR_sL, gR_sR, gR_cp, gL_sI, gL_sR, gL_cp, gI_sL, gI_sR, iI_add, iI_sub, iI_mul, iI_neg, iI_in, iI_tn, iI_lt, iI_eq, Nat.reduceLeDiff, Nat.reduceEqDiff, Nat.reduceAdd, Int.reduceEq, Int.reduceLT, Int.reduceLE, Int.reduceNeg, Int.reduceAdd, Int.reduceSub, Int.reduceMul, g3', e103, e6]
  · have : mm_gR c6 100 3 = mm_gR c5 100 3 := f6.2.2.1 _ _ (by omega)
    rw [this, ← h5]; exact g3'
  · rw [k6 _ _ (by omega) (by omega) (by omega) (by omega) (by omega), v1, bc_li]
  · rw [bc_li] at k1; omega
  · rw [k6 _ _ (by omega) (by omega) (by omega) (by omega) (by omega), v2, show (0 : Int) + 25 = 25 by omega, B0.1]
  · rw [k6 _ _ (by omega) (by omega) (by omega) (by omega) (by omega), v3, show (0 : Int) + 46 = 46 by omega, B0.2.1]
  · obtain ⟨u1, u2⟩ := hP.2.1 k k0 k1
    rw [k6 _ _ (by omega) (by omega) (by omega) (by omega) (by omega), k6 _ _ (by omega) (by omega) (by omega) (by omega) (by omega), o5 _ _ (by omega) (by omega) (by omega), o5 _ _ (by omega) (by omega) (by omega), oc _ _ (by omega), oc _ _ (by omega), bc_sa (by omega) (by omega), bc_sa (by omega) (by omega)]
    exact ⟨u1, u2⟩
  · obtain ⟨u1, u2, u3⟩ := hP.2.2 k k0 k1
    rw [k6 _ _ (by omega) (by omega) (by omega) (by omega) (by omega), k6 _ _ (by omega) (by omega) (by omega) (by omega) (by omega), k6 _ _ (by omega) (by omega) (by omega) (by omega) (by omega), o5 _ _ (by omega) (by omega) (by omega), o5 _ _ (by omega) (by omega) (by omega), o5 _ _ (by omega) (by omega) (by omega), oc _ _ (by omega), oc _ _ (by omega), oc _ _ (by omega), bc_sa (by omega) (by omega), bc_sa (by omega) (by omega), bc_sa (by omega) (by omega)]
    exact ⟨u1, u2, u3⟩
  · rw [bc_un]; omega
  · rw [k6 _ _ (by omega) (by omega) (by omega) (by omega) (by omega), v6, bc_un]
  · rw [k6 _ _ (by omega) (by omega) (by omega) (by omega) (by omega), v7]
  · rw [bc_un] at k1; omega
  · rw [k6 _ _ (by omega) (by omega) (by omega) (by omega) (by omega), v4, bc_mk k0 k1]
    have : k = 0 ∨ k = 1 ∨ k = 2 ∨ k = 3 := by omega
    rcases this with rfl | rfl | rfl | rfl <;> decide
  · exact absurd (bc_mk k0 k1) y
  · rw [f6.1, ← h5]; exact f1.1
  · rw [f6.2.1, ← h5]; exact f1.2.1
  · have : mm_gR c6 a k = mm_gR c5 a k := f6.2.2.1 _ _ (by omega)
    rw [this, ← h5]
    exact f1.2.2.1 a k
  · refine ⟨?_, ?_⟩
    · rw [k6 _ _ (by omega) y1 y2 y3 y4, o5 _ _ (by omega) (by omega) (by omega), oc _ _ (by omega)]
    · have : mm_gL c6 a k = mm_gL c5 a k := f6.2.2.2.2 a k (by unfold scK; rw [nb y1, nb y2, nb y3, nb y4]; rfl)
      rw [this, ← h5]
      exact f1.gL (scD_n (by omega))
  · refine ⟨?_, ?_⟩
    · rw [k6 _ _ (by omega) (by omega) (by omega) (by omega) (by omega), o5 _ _ (by omega) (by omega) (by omega), oc _ _ (by omega)]
    · have : mm_gL c6 a k = mm_gL c5 a k := f6.2.2.2.2 a k (by unfold scK; rw [nb (by omega), nb (by omega), nb (by omega), nb (by omega)]; rfl)
      rw [this, ← h5]
      exact f1.gL (scD_n (by omega))
end
