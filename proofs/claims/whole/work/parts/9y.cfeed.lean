def scTp (a k : Nat) : Bool := (Nat.beq a 101 && Nat.beq k 3) || Nat.beq a 102
def TXs (D : Nat → Nat → Int32) : Prop := (0 ≤ (D 316 2).toInt ∧ (D 316 2).toInt ≤ 1000) ∧ ∀ k, 0 ≤ k → k < (D 316 2).toInt → 10 ≤ tx D k ∧ tx D k ≤ 126
section
variable {D : Nat → Nat → Int32} {E : Nat → Nat → Int64} {m m' c c' : mm_M} {d : Nat} {v : Int64}
theorem CX.lay (h : CX D (D 316 2).toInt c) (hx : TXs D) {x : Int32} (hc : okC x = true) (z : (D 316 2).toInt < 1000) : CX (up (up D 317 (D 316 2).toNatClampNeg x) 316 2 (D 316 2 + iI 1)) ((up (up D 317 (D 316 2).toNatClampNeg x) 316 2 (D 316 2 + iI 1)) 316 2).toInt (mm_sI (mm_sI c 102 (D 316 2).toInt.toNat x) 101 3 (iI ((D 316 2).toInt + 1))) ∧ TXs (up (up D 317 (D 316 2).toNatClampNeg x) 316 2 (D 316 2 + iI 1)) := by
  obtain ⟨⟨t0, t1⟩, ht⟩ := hx
  have e9 : (up (up D 317 (D 316 2).toNatClampNeg x) 316 2 (D 316 2 + iI 1)) 316 2 = iI ((D 316 2).toInt + 1) := by
    unfold up
    rw [if_pos ⟨rfl, rfl⟩, ← iI_add, iI_toInt]
  have e9' : ((up (up D 317 (D 316 2).toNatClampNeg x) 316 2 (D 316 2 + iI 1)) 316 2).toInt = (D 316 2).toInt + 1 := by rw [e9, iI_val (by omega) (by omega)]
  have cl : (D 316 2).toNatClampNeg = (D 316 2).toInt.toNat := rfl
  have et : ∀ k, 0 ≤ k → tx (up (up D 317 (D 316 2).toNatClampNeg x) 316 2 (D 316 2 + iI 1)) k = if k = (D 316 2).toInt then x.toInt else tx D k := fun k k0 => by
    unfold tx up
    rw [if_neg (by omega), cl]
    by_cases y : k = (D 316 2).toInt
    · rw [if_pos ⟨rfl, by omega⟩, if_pos y]
    · rw [if_neg (by omega), if_neg y]
  refine ⟨⟨h.1, ?_, fun k k0 k1 => ?_, fun k k0 k1 => ?_⟩, ⟨by omega, by omega⟩, fun k k0 k1 => ?_⟩
  · rw [e9', gI_sI, if_pos ⟨rfl, rfl⟩]
  · rw [e9'] at k1
    rw [et k k0, gI_sI, if_neg (by omega), gI_sI]
    by_cases y : k = (D 316 2).toInt
    · rw [if_pos ⟨rfl, by rw [y]⟩, if_pos y, iI_toInt]
    · rw [if_neg (by omega), if_neg y]
      exact h.2.2.1 k k0 (by omega)
  · exact h.2.2.2 k k0 k1
  · rw [e9'] at k1
    rw [et k k0]
    by_cases y : k = (D 316 2).toInt
    · rw [if_pos y]; exact (okC_r hc).1
    · rw [if_neg y]; exact ht k k0 (by omega)
/-- lay of the class -/
theorem C77L : ∀ (k : Nat) (s : Int) (z4 z5 : Option Value) (c : mm_M) (D : Nat → Nat → Int32), s = 8 * k - 8 → k ≤ 8 → CX D (D 316 2).toInt c → TXs D → ∃ c', mm_ev d 77 3 [some (.ref 101), some (.long v), none, some (.int (iI (s))), z4, z5] [] c = some (some none, c') ∧ CX (layGo v k s D) ((layGo v k s D) 316 2).toInt c' ∧ Fr scTp c c' ∧ TXs (layGo v k s D)
  | 0, s, z4, z5, c, D, hs, _, h, hx => by
    refine ⟨c, ?_, h, Fr.rf, hx⟩
    rw [sg_77_3]
    simp (disch := omega) only [↓reduceIte, not_false_eq_true, not_true_eq_false, and_self, and_true, true_and, false_and, and_false, or_true, true_or, or_false, false_or, or_self, reduceCtorEq, mm_q, Option.getD_some, cI_some, cJ_some, cV_some, cS_some, kd_sI, kd_sL, kd_sR, kd_cp, ln_sI, ln_sL, ln_sR, ln_cp, gR_sI, gR_sL, gR_sR, gR_cp, gL_sI, gL_sR, gL_cp, gI_sL, gI_sR, iI_add, iI_sub, iI_mul, iI_neg, iI_in, iI_tn, iI_lt, iI_eq, Nat.reduceLeDiff, Nat.reduceEqDiff, Nat.reduceAdd, Int.reduceEq, Int.reduceLT, Int.reduceLE, Int.reduceNeg, Int.reduceAdd, Int.reduceSub, Int.reduceMul, show s < 0 by omega]
  | k + 1, s, z4, z5, c, D, hs, hk, h, hx => by
    have key : ∀ x : Int32, x = (lShr v (iI s)).toInt32 &&& iI 255 → mm_ev d 77 3 [some (.ref 101), some (.long v), none, some (.int (iI (s))), z4, z5] [] c = mm_ev d 77 43 [some (.ref 101), some (.long v), none, some (.int (iI (s))), some (.int x), z5] [.int (iI (bI (okC x)))] c := by
      intro x hc
      rw [← by_eq (by omega) (by omega)] at hc
      rw [sg_77_3, ← hc]
      rw [if_neg (by rw [iI_lt] <;> omega), sg_77_38, sg_77_42]
      unfold okC
      by_cases z1 : x = iI 10
      · rw [if_pos z1, decide_eq_true z1]; rfl
      · rw [if_neg z1, decide_eq_false z1]
        by_cases z2 : x < iI 32
        · rw [if_pos z2, decide_eq_true z2]; rfl
        · rw [if_neg z2, decide_eq_false z2]
          by_cases z3 : iI 126 < x
          · rw [if_pos z3, decide_eq_true z3]; rfl
          · rw [if_neg z3, decide_eq_false z3]; rfl
    have kk := key _ rfl
    unfold layGo
    generalize (lShr v (iI s)).toInt32 &&& iI 255 = x at kk ⊢
    rw [kk, sg_77_43]
    unfold layC
    cases z1 : okC x
    · obtain ⟨c', e3, h3, f3, r3⟩ := C77L k (s - 8) (some (.int x)) (some (.int (iI 0))) c D (by omega) (by omega) h hx
      rw [if_neg (show ¬ (false = true) by decide)]
      refine ⟨c', ?_, h3, f3, r3⟩
      rw [show iI (bI false) = iI 0 from rfl, if_pos rfl, sg_77_84, iI_add, show s + -8 = s - 8 by omega]
      exact e3
    · have b1 : iI (bI true) = iI 1 := rfl
      have t0 := hx.1.1
      have t1 := hx.1.2
      have n1000 : Int32.ofNat 1000 = iI 1000 := by decide
      rw [if_pos rfl, b1]
      by_cases z2 : (D 316 2).toInt < 1000
      · have z3 : D 316 2 < iI 1000 := by rw [Int32.lt_iff_toInt_lt]; exact z2
        obtain ⟨h2, hx2⟩ := h.lay hx z1 z2
        obtain ⟨c', e3, h3, f3, r3⟩ := C77L k (s - 8) (some (.int x)) (some (.int (iI 1))) _ _ (by omega) (by omega) h2 hx2
        rw [if_pos z3]
        refine ⟨c', ?_, h3, ((Fr.sI rfl).tr (Fr.sI rfl)).tr f3, r3⟩
        simp (disch := omega) only [shT h.1, ↓reduceIte, not_false_eq_true, not_true_eq_false, and_self, and_true, true_and, false_and, and_false, or_true, true_or, or_false, false_or, or_self, reduceCtorEq, mm_q, Option.getD_some, cI_some, cJ_some, cV_some, cS_some, kd_sI, kd_sL, kd_sR, kd_cp, ln_sI, ln_sL, ln_sR, ln_cp, gR_sI, gR_sL, gR_sR, gR_cp, gL_sI, gL_sR, gL_cp, gI_sL, gI_sR, iI_add, iI_sub, iI_mul, iI_neg, iI_in, iI_tn, iI_lt, iI_eq, Nat.reduceLeDiff, Nat.reduceEqDiff, Nat.reduceAdd, Int.reduceEq, Int.reduceLT, Int.reduceLE, Int.reduceNeg, Int.reduceAdd, Int.reduceSub, Int.reduceMul, gI_sI, h.2.1, n1000, z2, (okC_r z1).2, sg_77_84]
        rw [show s + -8 = s - 8 by omega]
        exact e3
      · have z3 : ¬ D 316 2 < iI 1000 := by rw [Int32.lt_iff_toInt_lt]; exact z2
        obtain ⟨c', e3, h3, f3, r3⟩ := C77L k (s - 8) (some (.int x)) (some (.int (iI 1))) c D (by omega) (by omega) h hx
        rw [if_neg z3]
        refine ⟨c', ?_, h3, f3, r3⟩
        simp (disch := omega) only [shT h.1, ↓reduceIte, not_false_eq_true, not_true_eq_false, and_self, and_true, true_and, false_and, and_false, or_true, true_or, or_false, false_or, or_self, reduceCtorEq, mm_q, Option.getD_some, cI_some, cJ_some, cV_some, cS_some, kd_sI, kd_sL, kd_sR, kd_cp, ln_sI, ln_sL, ln_sR, ln_cp, gR_sI, gR_sL, gR_sR, gR_cp, gL_sI, gL_sR, gL_cp, gI_sL, gI_sR, iI_add, iI_sub, iI_mul, iI_neg, iI_in, iI_tn, iI_lt, iI_eq, Nat.reduceLeDiff, Nat.reduceEqDiff, Nat.reduceAdd, Int.reduceEq, Int.reduceLT, Int.reduceLE, Int.reduceNeg, Int.reduceAdd, Int.reduceSub, Int.reduceMul, h.2.1, n1000, z2, sg_77_84]
        rw [show s + -8 = s - 8 by omega]
        exact e3
theorem C77 (h : CX D (D 316 2).toInt c) (hx : TXs D) : ∃ c', mm_ev d 77 0 [some (.ref 101), some (.long v), none, none, none, none] [] c = some (some none, c') ∧ CX (layD D v) ((layD D v) 316 2).toInt c' ∧ Fr scTp c c' ∧ TXs (layD D v) := by
  obtain ⟨c', e, r⟩ := C77L (d := d) (v := v) 8 56 none none c D (by omega) (by omega) h hx
  exact ⟨c', by rw [sg_77_0]; exact e, r⟩
theorem lay_C {x : Int32} {a j : Nat} (h : ¬ a = 317) (h2 : ¬ (a = 316 ∧ j = 2)) : layC D x a j = D a j := by
  unfold layC
  by_cases y : okC x = true
  · rw [if_pos y]
    by_cases z : D 316 2 < iI 1000
    · rw [if_pos z]; unfold up; rw [if_neg h2, if_neg (by omega)]
    · rw [if_neg z]
  · rw [if_neg y]
theorem lay_G {a j : Nat} (h : ¬ a = 317) (h2 : ¬ (a = 316 ∧ j = 2)) : ∀ (k : Nat) (s : Int) (D : Nat → Nat → Int32), layGo v k s D a j = D a j
  | 0, _, _ => rfl
  | k + 1, s, D => by
    unfold layGo
    rw [lay_G h h2 k]
    exact lay_C h h2
theorem lay_o {a j : Nat} (h : ¬ a = 317) (h2 : ¬ (a = 316 ∧ j = 2)) : layD D v a j = D a j := lay_G h h2 _ _ _
/-- feed, of both -/
theorem Tfeed {s p : Nat} {u w : Int64} (h : RCm D c s p) (hT : RT D E c s p) (hM : MD D E c) (k9 : st D 6 ≤ 8) (hd : 4 ≤ d) : ∃ c1 c2, mm_ev d 100 0 [some (.ref 100), some (.long u), none, some (.long v), none, some (.long w), none] [] c = some (some (some (.int (layD (layD (layD D u) v) w 316 2))), c1) ∧ mm_ev d 156 0 [some (.ref 316), some (.long u), none, some (.long v), none, some (.long w), none] [] c1 = some (some (some (.int (layD (layD (layD D u) v) w 316 2))), c2) ∧ MD (layD (layD (layD D u) v) w) E c2 ∧ RCm (layD (layD (layD D u) v) w) c2 s p ∧ RT (layD (layD (layD D u) v) w) E c2 s p := by
  obtain ⟨⟨⟨t0, t1⟩, hCX, hx⟩, hF, hN, g2, g4, hE⟩ := hT
  have hst := h.1.2.1
  have hst' : s = 104 ∨ s = 125 := hst
  have hp' : p = 146 ∨ p = 150 := h.2.1
  obtain ⟨c1, e1, X1, f1, T1⟩ := C77 (d := d - 1) (v := u) hCX ⟨⟨t0, t1⟩, hx⟩
  obtain ⟨c2, e2, X2, f2, T2⟩ := C77 (d := d - 1) (v := v) X1 T1
  obtain ⟨c3, e3, X3, f3, T3⟩ := C77 (d := d - 1) (v := w) X2 T2
  have F := (f1.tr f2).tr f3
  have tp : ∀ a k, ¬ a = 101 → ¬ a = 102 → scTp a k = false := fun a k y1 y2 => by unfold scTp; rw [nb y1, nb y2]; rfl
  have lo : ∀ a j, ¬ a = 317 → ¬ (a = 316 ∧ j = 2) → layD (layD (layD D u) v) w a j = D a j := fun a j y1 y2 => by rw [lay_o y1 y2, lay_o y1 y2, lay_o y1 y2]
  have lof : ∀ a, ¬ a = 317 → ¬ a = 316 → layD (layD (layD D u) v) w a = D a := fun a y1 y2 => by funext j; exact lo a j y1 (by omega)
  have stl : st (layD (layD (layD D u) v) w) = st D := by funext j; unfold st; rw [lof 322 (by omega) (by omega)]
  have hM3 : MD D E c3 := hM.hi X3.1 (fun a k ha => ⟨F.gI (tp a k (by omega) (by omega)), F.gL (tp a k (by omega) (by omega))⟩)
  obtain ⟨c4, e4, hM4, g5⟩ := M156 (d := d) (u := u) (v := v) (w := w) hM3 (by omega) t0 t1
  have hR3 : RCm D c3 s p := h.mem k9 X3.1 ((F.2.2.1 _ _).trans h.1.2.2.1) ((F.2.2.1 _ _).trans h.2.2.1) ((F.2.2.1 _ _).trans h.1.2.2.2.2.1.1) (fun a k y => F.gI (tp a k (by omega) (by omega)))
  have hR3' : RCm (layD (layD (layD D u) v) w) c3 s p := hR3.dat k9 ⟨lof _ (by omega) (by omega), lof _ (by omega) (by omega), lof _ (by omega) (by omega)⟩ (lo _ _ (by omega) (by omega)) (lof _ (by omega) (by omega)) (fun j => lo _ _ (by omega) (by omega)) (fun j => lo _ _ (by omega) (by omega))
  refine ⟨c3, c4, ?_, e4, hM4, hR3'.fA (by rw [stl]; exact k9) g5, RT.fA ⟨⟨T3.1, X3, T3.2⟩, fun q hq => ?_, ?_, (F.2.2.1 _ _).trans g2, (F.2.2.1 _ _).trans g4, hE⟩ hst g5⟩
  · rw [sg_100_0 (by omega)]
    simp (disch := omega) only [shX h.1.1, shT h.1.1, ↓reduceIte, not_false_eq_true, not_true_eq_false, and_self, and_true, true_and, reduceCtorEq, mm_q, Option.getD_some, cI_some, cJ_some, cV_some, cS_some, Nat.reduceLeDiff, Nat.reduceEqDiff, e1]
    rw [sg_100_8 (by omega)]
    simp (disch := omega) only [shX X1.1, shT X1.1, ↓reduceIte, not_false_eq_true, not_true_eq_false, and_self, and_true, true_and, reduceCtorEq, mm_q, Option.getD_some, cI_some, cJ_some, cV_some, cS_some, Nat.reduceLeDiff, Nat.reduceEqDiff, e2]
    rw [sg_100_16 (by omega)]
    simp (disch := omega) only [shX X2.1, shT X2.1, shX X3.1, shT X3.1, ↓reduceIte, not_false_eq_true, not_true_eq_false, and_self, and_true, true_and, reduceCtorEq, mm_q, Option.getD_some, cI_some, cJ_some, cV_some, cS_some, Nat.reduceLeDiff, Nat.reduceEqDiff, e3, X3.2.1, iI_toInt]
  · have hq' : q = 104 ∨ q = 125 := hq
    obtain ⟨w1, w2, w3, w4⟩ := hF q hq
    exact ⟨(F.gL (tp _ _ (by omega) (by omega))).trans w1, (F.gL (tp _ _ (by omega) (by omega))).trans w2, (F.gL (tp _ _ (by omega) (by omega))).trans w3, (F.gL (tp _ _ (by omega) (by omega))).trans w4⟩
  · rw [lof 327 (by omega) (by omega), lo 316 18 (by omega) (by omega), stl]
    exact hN.fr F (fun x k y => tp _ _ (by omega) (by omega))
end
