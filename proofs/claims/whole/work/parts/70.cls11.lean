def scD (H a _k : Nat) : Bool := Nat.ble H a && Nat.ble a (H + 3)
/-- takes as told, as the class holds them -/
def RN (D : Nat → Nat → Int32) (m : mm_M) (p : Nat) : Prop := mm_gI m p 0 = iI (li D 0) ∧ ∀ k, 0 ≤ k → k < li D 0 → mm_gI m (p + 1) k.toNat = iI (17 + li D (1 + 3 * k)) ∧ (li D (1 + 3 * k) < 3 → mm_gI m (p + 2) k.toNat = iI (li D (2 + 3 * k))) ∧ (li D (1 + 3 * k) = 0 ∨ li D (1 + 3 * k) = 2 → mm_gI m (p + 3) k.toNat = iI (li D (3 + 3 * k)))
def isSc (p : Nat) : Prop := p = 146 ∨ p = 150
section
variable {D : Nat → Nat → Int32} {m m' m'' : mm_M} {d s W L H p n : Nat} {B : Int → Int} {take : Int} {late : Bool}
theorem gI_cp' {a sp b dp n c j : Nat} : mm_gI (mm_cp m a sp b dp n) c j = if c = b ∧ dp ≤ j ∧ j < dp + n then mm_gI m a (sp + (j - dp)) else mm_gI m c j := rfl
theorem scD_t {a k : Nat} (h0 : H ≤ a) (h1 : a ≤ H + 3) : scD H a k = true := by
  unfold scD
  rw [Nat.ble_eq.mpr h0, Nat.ble_eq.mpr h1]
  rfl
theorem scD_f {a k : Nat} (h : scD H a k = false) : a < H ∨ H + 3 < a := by
  by_cases z : H ≤ a ∧ a ≤ H + 3
  · rw [scD_t z.1 z.2] at h; cases h
  · omega
theorem scD_n {a k : Nat} (h : a < H ∨ H + 3 < a) : scD H a k = false := by
  cases e : scD H a k
  · rfl
  · unfold scD at e
    rw [Bool.and_eq_true, Nat.ble_eq, Nat.ble_eq] at e
    omega
theorem Upd.hd {F : Nat → Nat → Int32} (u : Upd m m' F) (h : ∀ a k, (a < H ∨ H + 3 < a) → F a k = mm_gI m a k) : Fr (scD H) m m' := u.fr (fun a k z => h a k (scD_f z))
theorem FrD_C (h : Fr (scD 159) m m') : FC m m' := (h.mono (fun a k z => by
  apply scD_n
  unfold scC at z
  simp only [Bool.or_eq_false_iff] at z
  have := z.1.2
  by_cases y : 159 ≤ a ∧ a ≤ 162
  · rw [Nat.ble_eq.mpr y.1, Nat.ble_eq.mpr y.2] at this; cases this
  · omega)).C
/-- Hands.goOn -/
theorem C12 (hs : Sh m) (hH : H ∈ hsL) (hd : 1 ≤ d) : ∃ m', mm_ev d 12 0 [some (.ref H)] [] m = some (some none, m') ∧ Upd m m' (fun a k => if a = H + 3 ∧ k < 8 then iI 0 else if a = H ∧ k = 0 then mm_gI m H 0 + iI 1 else mm_gI m a k) := by
  have hf := hF hs hH
  have u1 : Upd m (mm_sI m H 0 (mm_gI m H 0 + iI 1)) (up (mm_gI m) H 0 (mm_gI m H 0 + iI 1)) := Upd.sI
  have hs1 := u1.sh hs
  have hf1 := hF hs1 hH
  obtain ⟨m', e1, u2⟩ := C280 (d := d - 1) (v := iI 0) (m := mm_sI m H 0 (mm_gI m H 0 + iI 1)) hf1.2.2.2.2.2.2.2.2.2.2.2.2 hf1.2.2.2.2.2.1 hf1.2.2.2.2.2.2.1 (by omega)
  refine ⟨m', ?_, (u1.tr u2).cg (fun a k => ?_)⟩
  · rw [sg_12_0 (by omega)]
    simp (disch := omega) only [hf, ↓reduceIte, not_false_eq_true, not_true_eq_false, and_self, and_true, true_and, false_and, and_false, or_true, true_or, or_false, false_or, or_self, reduceCtorEq, mm_q, Option.getD_some, cI_some, cJ_some, cV_some, cS_some, kd_sI, kd_sL, kd_sR, kd_cp, ln_sI, ln_sL, ln_sR, ln_cp, gR_sI, gR_sL, gR_sR, gR_cp, gL_sI, gL_sR, gL_cp, gI_sL, gI_sR, iI_add, iI_sub, iI_mul, iI_neg, iI_in, iI_tn, iI_lt, iI_eq, Nat.reduceLeDiff, Nat.reduceEqDiff, Nat.reduceAdd, Int.reduceEq, Int.reduceLT, Int.reduceLE, Int.reduceNeg, Int.reduceAdd, Int.reduceSub, Int.reduceMul, e1]
  · rw [gI_sI]
/-- Hands.copyFrom -/
theorem C11 (hs : Sh m) {G : Nat} (hH : H ∈ hsL) (hG : G ∈ hsL) (hn : ¬ H = G) (hap : H + 3 < G ∨ G + 3 < H) : ∃ m', mm_ev d 11 0 [some (.ref H), some (.ref G)] [] m = some (some none, m') ∧ Upd m m' (fun a k => if a = H ∧ k = 0 then mm_gI m G 0 else if a = H + 1 ∧ k < 8 then mm_gI m (G + 1) k else if a = H + 2 ∧ k < 8 then mm_gI m (G + 2) k else if a = H + 3 ∧ k < 8 then mm_gI m (G + 3) k else mm_gI m a k) := by
  have hf := hF hs hH
  have gf := hF hs hG
  refine ⟨mm_cp (mm_cp (mm_cp (mm_sI m H 0 (mm_gI m G 0)) (G + 1) 0 (H + 1) 0 8) (G + 2) 0 (H + 2) 0 8) (G + 3) 0 (H + 3) 0 8, ?_, rfl, rfl, fun _ _ => rfl, fun _ _ => rfl, fun a k => ?_⟩
  · rw [sg_11_0]
    simp (disch := omega) only [hf, gf, ↓reduceIte, not_false_eq_true, not_true_eq_false, and_self, and_true, true_and, false_and, and_false, or_true, true_or, or_false, false_or, or_self, reduceCtorEq, mm_q, Option.getD_some, cI_some, cJ_some, cV_some, cS_some, kd_sI, kd_sL, kd_sR, kd_cp, ln_sI, ln_sL, ln_sR, ln_cp, gR_sI, gR_sL, gR_sR, gR_cp, gL_sI, gL_sR, gL_cp, gI_sL, gI_sR, iI_add, iI_sub, iI_mul, iI_neg, iI_in, iI_tn, iI_lt, iI_eq, Nat.reduceLeDiff, Nat.reduceEqDiff, Nat.reduceAdd, Int.reduceEq, Int.reduceLT, Int.reduceLE, Int.reduceNeg, Int.reduceAdd, Int.reduceSub, Int.reduceMul, show Int.toNat 0 = 0 from rfl, show Int.toNat 8 = 8 from rfl, Int.lt_irrefl, Nat.zero_add, Nat.le_refl]
  · dsimp only
    have ek : 0 + (k - 0) = k := by omega
    rw [gI_cp']
    by_cases z3 : a = H + 3 ∧ k < 8
    · rw [if_pos (show a = H + 3 ∧ 0 ≤ k ∧ k < 0 + 8 by omega), ek, gI_cp', if_neg (show ¬ (G + 3 = H + 2 ∧ 0 ≤ k ∧ k < 0 + 8) by omega), gI_cp', if_neg (show ¬ (G + 3 = H + 1 ∧ 0 ≤ k ∧ k < 0 + 8) by omega), gI_sI, if_neg (show ¬ (G + 3 = H ∧ k = 0) by omega), if_neg (show ¬ (a = H ∧ k = 0) by omega), if_neg (show ¬ (a = H + 1 ∧ k < 8) by omega), if_neg (show ¬ (a = H + 2 ∧ k < 8) by omega), if_pos z3]
    · rw [if_neg (show ¬ (a = H + 3 ∧ 0 ≤ k ∧ k < 0 + 8) by omega), gI_cp']
      by_cases z2 : a = H + 2 ∧ k < 8
      · rw [if_pos (show a = H + 2 ∧ 0 ≤ k ∧ k < 0 + 8 by omega), ek, gI_cp', if_neg (show ¬ (G + 2 = H + 1 ∧ 0 ≤ k ∧ k < 0 + 8) by omega), gI_sI, if_neg (show ¬ (G + 2 = H ∧ k = 0) by omega), if_neg (show ¬ (a = H ∧ k = 0) by omega), if_neg (show ¬ (a = H + 1 ∧ k < 8) by omega), if_pos z2]
      · rw [if_neg (show ¬ (a = H + 2 ∧ 0 ≤ k ∧ k < 0 + 8) by omega), gI_cp']
        by_cases z1 : a = H + 1 ∧ k < 8
        · rw [if_pos (show a = H + 1 ∧ 0 ≤ k ∧ k < 0 + 8 by omega), ek, gI_sI, if_neg (show ¬ (G + 1 = H ∧ k = 0) by omega), if_neg (show ¬ (a = H ∧ k = 0) by omega), if_pos z1]
        · rw [if_neg (show ¬ (a = H + 1 ∧ 0 ≤ k ∧ k < 0 + 8) by omega), gI_sI, if_neg z1, if_neg z2, if_neg z3]
/-- Hands.asTold -/
theorem C10L (hs : Sh m) (hst : isSt s) (hH : H ∈ hsL) (hap : s + 20 < H) (hR : RSt D m s) (hI : InvS D) (hd : 1 ≤ d) : ∀ (r : Nat) (w : Int) (m1 : mm_M), w = st D 6 - r → 0 ≤ w → Fr (scD H) m m1 → mm_gI m1 H 0 = iI 0 → (∀ j, 0 ≤ j → j < w → mm_gI m1 (H + 1) j.toNat = iI (wk D j 2) ∧ mm_gI m1 (H + 2) j.toNat = iI (wk D j 3)) → ∃ m', mm_ev d 10 7 [some (.ref H), some (.ref s), some (.int (iI (w)))] [] m1 = some (some none, m') ∧ Fr (scD H) m m' ∧ mm_gI m' H 0 = iI 0 ∧ HD D m' H (begB D)
  | 0, w, m1, hr, w0, f, h0, hj => by
    obtain ⟨k0, k1⟩ := hI.2.2.2.2.2.1
    have hs1 := f.sh hs
    have sf := stF hs1 hst
    have hf := hF hs1 hH
    have e10 : mm_gI m1 s 10 = iI (st D 6) := (f.gI (scD_n (by omega))).trans hR.1.2.2.2.2.2.2.2.1
    obtain ⟨m', e1, u1⟩ := C280 (d := d - 1) (v := iI 0) (m := m1) hf.2.2.2.2.2.2.2.2.2.2.2.2 hf.2.2.2.2.2.1 hf.2.2.2.2.2.2.1 (by omega)
    have f2 : Fr (scD H) m1 m' := u1.hd (fun a k z => by rw [if_neg (by omega)])
    refine ⟨m', ?_, f.tr f2, ?_, fun j j0 j1 => ?_⟩
    · rw [sg_10_7 (by omega)]
      simp (disch := omega) only [hf, sf, ↓reduceIte, not_false_eq_true, not_true_eq_false, and_self, and_true, true_and, false_and, and_false, or_true, true_or, or_false, false_or, or_self, reduceCtorEq, mm_q, Option.getD_some, cI_some, cJ_some, cV_some, cS_some, kd_sI, kd_sL, kd_sR, kd_cp, ln_sI, ln_sL, ln_sR, ln_cp, gR_sI, gR_sL, gR_sR, gR_cp, gL_sI, gL_sR, gL_cp, gI_sL, gI_sR, iI_add, iI_sub, iI_mul, iI_neg, iI_in, iI_tn, iI_lt, iI_eq, Nat.reduceLeDiff, Nat.reduceEqDiff, Nat.reduceAdd, Int.reduceEq, Int.reduceLT, Int.reduceLE, Int.reduceNeg, Int.reduceAdd, Int.reduceSub, Int.reduceMul, e10, show ¬ w < st D 6 by omega, e1]
    · rw [u1.2.2.2.2]; dsimp only; rw [if_neg (by omega)]; exact h0
    · rw [u1.2.2.2.2, u1.2.2.2.2, u1.2.2.2.2]
      dsimp only
      rw [if_neg (show ¬ (H + 1 = H + 3 ∧ j.toNat < 8) by omega), if_neg (show ¬ (H + 2 = H + 3 ∧ j.toNat < 8) by omega), if_pos (show H + 3 = H + 3 ∧ j.toNat < 8 by omega)]
      obtain ⟨a, b⟩ := hj j j0 (by omega)
      unfold begB
      rw [if_neg (by omega), if_pos (show 1 + j < 9 by omega), if_neg (by omega), if_neg (by omega), if_pos (show 9 + j < 17 by omega), if_neg (by omega), if_neg (by omega), if_neg (by omega), show 1 + j - 1 = j by omega, show 9 + j - 9 = j by omega]
      exact ⟨a, b, rfl⟩
  | r + 1, w, m1, hr, w0, f, h0, hj => by
    obtain ⟨k0, k1⟩ := hI.2.2.2.2.2.1
    have w1 : w < st D 6 := by omega
    have hs1 := f.sh hs
    have sf := stF hs1 hst
    have hf := hF hs1 hH
    have wkf := wkF hs1 hst w0 (show w < 8 by omega)
    have e10 : mm_gI m1 s 10 = iI (st D 6) := (f.gI (scD_n (by omega))).trans hR.1.2.2.2.2.2.2.2.1
    obtain ⟨-, -, a3, a4, -⟩ := hR.2.2.1 w w0 w1
    have b3 : mm_gI m1 (s + 13 + w.toNat) 3 = iI (wk D w 2) := (f.gI (scD_n (by omega))).trans a3
    have b4 : mm_gI m1 (s + 13 + w.toNat) 4 = iI (wk D w 3) := (f.gI (scD_n (by omega))).trans a4
    have f2 : Fr (scD H) m1 (mm_sI m1 (H + 1) w.toNat (iI (wk D w 2))) := Fr.sI (scD_t (by omega) (by omega))
    have f3 : Fr (scD H) (mm_sI m1 (H + 1) w.toNat (iI (wk D w 2))) (mm_sI (mm_sI m1 (H + 1) w.toNat (iI (wk D w 2))) (H + 2) w.toNat (iI (wk D w 3))) := Fr.sI (scD_t (by omega) (by omega))
    obtain ⟨m', e4, r4⟩ := C10L hs hst hH hap hR hI hd r (w + 1) _ (by omega) (by omega) ((f.tr f2).tr f3) (by rw [gI_sI, gI_sI, if_neg (by omega), if_neg (by omega)]; exact h0) (fun j j0 j1 => by
      rw [gI_sI, gI_sI, gI_sI, gI_sI]
      rw [if_neg (show ¬ (H + 1 = H + 2 ∧ j.toNat = w.toNat) by omega), if_neg (show ¬ (H + 2 = H + 1 ∧ j.toNat = w.toNat) by omega)]
      by_cases y : j = w
      · rw [y]
        simp only [and_self, if_true]
      · have y2 : ¬ j.toNat = w.toNat := by omega
        simp only [y2, and_false, if_false]
        exact hj j j0 (by omega))
    refine ⟨m', ?_, r4⟩
    have b4' : mm_gI (mm_sI m1 (H + 1) w.toNat (iI (wk D w 2))) (s + 13 + w.toNat) 4 = iI (wk D w 3) := by rw [gI_sI, if_neg (by omega)]; exact b4
    rw [sg_10_7 (by omega)]
    simp (disch := omega) only [hf, sf, wkf, ↓reduceIte, not_false_eq_true, not_true_eq_false, and_self, and_true, true_and, false_and, and_false, or_true, true_or, or_false, false_or, or_self, reduceCtorEq, mm_q, Option.getD_some, cI_some, cJ_some, cV_some, cS_some, kd_sI, kd_sL, kd_sR, kd_cp, ln_sI, ln_sL, ln_sR, ln_cp, gR_sI, gR_sL, gR_sR, gR_cp, gL_sI, gL_sR, gL_cp, gI_sL, gI_sR, iI_add, iI_sub, iI_mul, iI_neg, iI_in, iI_tn, iI_lt, iI_eq, Nat.reduceLeDiff, Nat.reduceEqDiff, Nat.reduceAdd, Int.reduceEq, Int.reduceLT, Int.reduceLE, Int.reduceNeg, Int.reduceAdd, Int.reduceSub, Int.reduceMul, e10, w1, b3, b4']
    exact e4
theorem C10 (hs : Sh m) (hst : isSt s) (hH : H ∈ hsL) (hap : s + 20 < H) (hR : RSt D m s) (hI : InvS D) (hd : 1 ≤ d) : ∃ m', mm_ev d 10 0 [some (.ref H), some (.ref s), none] [] m = some (some none, m') ∧ Fr (scD H) m m' ∧ mm_gI m' H 0 = iI 0 ∧ HD D m' H (begB D) := by
  obtain ⟨k0, k1⟩ := hI.2.2.2.2.2.1
  have hf := hF hs hH
  obtain ⟨m', e, r⟩ := C10L hs hst hH hap hR hI hd (st D 6).toNat 0 (mm_sI m H 0 (iI 0)) (by omega) (by omega) (Fr.sI (scD_t (by omega) (by omega))) (by rw [gI_sI, if_pos ⟨rfl, rfl⟩]) (fun j j0 j1 => by omega)
  refine ⟨m', ?_, r⟩
  rw [sg_10_0]
  simp (disch := omega) only [hf, ↓reduceIte, not_false_eq_true, not_true_eq_false, and_self, and_true, true_and, reduceCtorEq, mm_q, Option.getD_some, cI_some, cJ_some, cV_some, cS_some, Nat.reduceLeDiff, Nat.reduceEqDiff]
  exact e
theorem spF (h : Sh m) (hp : isSc p) : mm_kd m p = 6 ∧ mm_kd m (p + 1) = 20 ∧ mm_ln m (p + 1) = 30 ∧ mm_kd m (p + 2) = 20 ∧ mm_ln m (p + 2) = 30 ∧ mm_kd m (p + 3) = 20 ∧ mm_ln m (p + 3) = 30 ∧ mm_gR m p 1 = some (p + 1) ∧ mm_gR m p 2 = some (p + 2) ∧ mm_gR m p 3 = some (p + 3) := by
  have := shP h
  rcases hp with rfl | rfl <;> simp only [this, and_self]
theorem h159 : 159 ∈ hsL := by decide
theorem HD.ud (h : HD D m H B) (u : Upd m m' (fun a k => if a = H + 3 ∧ k < 8 then iI 0 else if a = H ∧ k = 0 then mm_gI m H 0 + iI 1 else mm_gI m a k)) (k9 : st D 6 ≤ 8) : HD D m' H (nextB B) := fun w w0 w1 => by
  obtain ⟨a, b, c⟩ := h w w0 w1
  rw [u.2.2.2.2, u.2.2.2.2, u.2.2.2.2]
  dsimp only
  rw [if_neg (show ¬ (H + 1 = H + 3 ∧ w.toNat < 8) by omega), if_neg (show ¬ (H + 1 = H ∧ w.toNat = 0) by omega), if_neg (show ¬ (H + 2 = H + 3 ∧ w.toNat < 8) by omega), if_neg (show ¬ (H + 2 = H ∧ w.toNat = 0) by omega), if_pos (show H + 3 = H + 3 ∧ w.toNat < 8 by omega)]
  unfold nextB
  rw [if_neg (by omega), if_neg (by omega), if_neg (by omega), if_neg (by omega), if_neg (by omega), if_pos (by omega)]
  exact ⟨a, b, rfl⟩
/-- Script.play -/
theorem C63 (hs : Sh m) (hp : isSc p) (hN : RN D m p) (hNN : InvN D) (hh : HD D m 159 B) (h0 : mm_gI m 159 0 = iI (B 0)) (hI : InvS D) (hIB : InvB D B) (hd : 2 ≤ d) {k : Int} (k0 : 0 ≤ k) (k1 : k < li D 0) : ∃ m', mm_ev d 63 0 [some (.ref p), some (.int (iI (k))), some (.ref 159), none] [] m = some (some none, m') ∧ Fr (scD 159) m m' ∧ HD D m' 159 (lineB D k B) ∧ mm_gI m' 159 0 = iI (lineB D k B 0) := by
  have pf := spF hs hp
  have hf := hF hs h159
  obtain ⟨q0, q1⟩ := hI.2.2.2.2.2.1
  obtain ⟨a, b, c⟩ := hN.2 k k0 k1
  obtain ⟨⟨n0, n1⟩, hn⟩ := hNN
  obtain ⟨⟨y0, y1⟩, y2, y3, y4⟩ := hn k k0 k1
  rw [sg_63_0 (by omega)]
  have upd1 : ∀ (x i v : Int), x = 1 ∨ x = 9 ∨ x = 17 → 0 ≤ i → i < st D 6 → ∀ H' : Nat, (x = 1 → H' = 160) → (x = 9 → H' = 161) → (x = 17 → H' = 162) → HD D (mm_sI m H' i.toNat (iI v)) 159 (updB B (x + i) v) ∧ mm_gI (mm_sI m H' i.toNat (iI v)) 159 0 = iI (updB B (x + i) v 0) := by
    intro x i v hx i0 i1 H' h1 h2 h3
    refine ⟨fun w w0 w1 => ?_, ?_⟩
    · obtain ⟨p1, p2, p3⟩ := hh w w0 w1
      rw [gI_sI, gI_sI, gI_sI]
      unfold updB
      refine ⟨?_, ?_, ?_⟩
      · by_cases z : 1 + w = x + i
        · rw [if_pos (by omega), if_pos z]
        · rw [if_neg (by omega), if_neg z]; exact p1
      · by_cases z : 9 + w = x + i
        · rw [if_pos (by omega), if_pos z]
        · rw [if_neg (by omega), if_neg z]; exact p2
      · by_cases z : 17 + w = x + i
        · rw [if_pos (by omega), if_pos z]
        · rw [if_neg (by omega), if_neg z]; exact p3
    · rw [gI_sI, if_neg (by omega)]
      unfold updB
      rw [if_neg (by omega)]
      exact h0
  have ht : li D (1 + 3 * k) = 0 ∨ li D (1 + 3 * k) = 1 ∨ li D (1 + 3 * k) = 2 ∨ li D (1 + 3 * k) = 3 := by omega
  unfold lineB
  rcases ht with t | t | t | t
  · obtain ⟨i0, i1⟩ := y2 (by omega)
    have u := upd1 1 (li D (2 + 3 * k)) (li D (3 + 3 * k)) (Or.inl rfl) i0 i1 160 (fun _ => rfl) (by omega) (by omega)
    refine ⟨mm_sI m 160 (li D (2 + 3 * k)).toNat (iI (li D (3 + 3 * k))), ?_, Fr.sI (scD_t (by omega) (by omega)), by rw [if_pos t]; exact u⟩
    simp (disch := omega) only [pf, hf, ↓reduceIte, not_false_eq_true, not_true_eq_false, and_self, and_true, true_and, false_and, and_false, or_true, true_or, or_false, false_or, or_self, reduceCtorEq, mm_q, Option.getD_some, cI_some, cJ_some, cV_some, cS_some, kd_sI, kd_sL, kd_sR, kd_cp, ln_sI, ln_sL, ln_sR, ln_cp, gR_sI, gR_sL, gR_sR, gR_cp, gL_sI, gL_sR, gL_cp, gI_sL, gI_sR, iI_add, iI_sub, iI_mul, iI_neg, iI_in, iI_tn, iI_lt, iI_eq, Nat.reduceLeDiff, Nat.reduceEqDiff, Nat.reduceAdd, Int.reduceEq, Int.reduceLT, Int.reduceLE, Int.reduceNeg, Int.reduceAdd, Int.reduceSub, Int.reduceMul, a, b (by omega), c (Or.inl t), t, show ¬ li D (2 + 3 * k) < 0 by omega, show li D (2 + 3 * k) < 8 by omega]
  · obtain ⟨i0, i1⟩ := y2 (by omega)
    obtain ⟨-, p2, -⟩ := hh _ i0 i1
    have u := upd1 9 (li D (2 + 3 * k)) (1 - B (9 + li D (2 + 3 * k))) (Or.inr (Or.inl rfl)) i0 i1 161 (by omega) (fun _ => rfl) (by omega)
    refine ⟨mm_sI m 161 (li D (2 + 3 * k)).toNat (iI (1 - B (9 + li D (2 + 3 * k)))), ?_, Fr.sI (scD_t (by omega) (by omega)), by rw [if_neg (by omega), if_pos t]; exact u⟩
    simp (disch := omega) only [pf, hf, ↓reduceIte, not_false_eq_true, not_true_eq_false, and_self, and_true, true_and, false_and, and_false, or_true, true_or, or_false, false_or, or_self, reduceCtorEq, mm_q, Option.getD_some, cI_some, cJ_some, cV_some, cS_some, kd_sI, kd_sL, kd_sR, kd_cp, ln_sI, ln_sL, ln_sR, ln_cp, gR_sI, gR_sL, gR_sR, gR_cp, gL_sI, gL_sR, gL_cp, gI_sL, gI_sR, iI_add, iI_sub, iI_mul, iI_neg, iI_in, iI_tn, iI_lt, iI_eq, Nat.reduceLeDiff, Nat.reduceEqDiff, Nat.reduceAdd, Int.reduceEq, Int.reduceLT, Int.reduceLE, Int.reduceNeg, Int.reduceAdd, Int.reduceSub, Int.reduceMul, a, b (by omega), t, show ¬ li D (2 + 3 * k) < 0 by omega, show li D (2 + 3 * k) < 8 by omega]
    rw [show mm_gI m 161 (li D (2 + 3 * k)).toNat = _ from p2]
    simp (disch := omega) only [↓reduceIte, not_false_eq_true, not_true_eq_false, and_self, and_true, true_and, false_and, and_false, or_true, true_or, or_false, false_or, or_self, reduceCtorEq, mm_q, Option.getD_some, cI_some, cJ_some, cV_some, cS_some, kd_sI, kd_sL, kd_sR, kd_cp, ln_sI, ln_sL, ln_sR, ln_cp, gR_sI, gR_sL, gR_sR, gR_cp, gL_sI, gL_sR, gL_cp, gI_sL, gI_sR, iI_add, iI_sub, iI_mul, iI_neg, iI_in, iI_tn, iI_lt, iI_eq, Nat.reduceLeDiff, Nat.reduceEqDiff, Nat.reduceAdd, Int.reduceEq, Int.reduceLT, Int.reduceLE, Int.reduceNeg, Int.reduceAdd, Int.reduceSub, Int.reduceMul]
  · obtain ⟨i0, i1⟩ := y2 (by omega)
    have u := upd1 17 (li D (2 + 3 * k)) (li D (3 + 3 * k)) (Or.inr (Or.inr rfl)) i0 i1 162 (by omega) (by omega) (fun _ => rfl)
    refine ⟨mm_sI m 162 (li D (2 + 3 * k)).toNat (iI (li D (3 + 3 * k))), ?_, Fr.sI (scD_t (by omega) (by omega)), by rw [if_neg (by omega), if_neg (by omega), if_pos t]; exact u⟩
    simp (disch := omega) only [pf, hf, ↓reduceIte, not_false_eq_true, not_true_eq_false, and_self, and_true, true_and, false_and, and_false, or_true, true_or, or_false, false_or, or_self, reduceCtorEq, mm_q, Option.getD_some, cI_some, cJ_some, cV_some, cS_some, kd_sI, kd_sL, kd_sR, kd_cp, ln_sI, ln_sL, ln_sR, ln_cp, gR_sI, gR_sL, gR_sR, gR_cp, gL_sI, gL_sR, gL_cp, gI_sL, gI_sR, iI_add, iI_sub, iI_mul, iI_neg, iI_in, iI_tn, iI_lt, iI_eq, Nat.reduceLeDiff, Nat.reduceEqDiff, Nat.reduceAdd, Int.reduceEq, Int.reduceLT, Int.reduceLE, Int.reduceNeg, Int.reduceAdd, Int.reduceSub, Int.reduceMul, a, b (by omega), c (Or.inr t), t, show ¬ li D (2 + 3 * k) < 0 by omega, show li D (2 + 3 * k) < 8 by omega]
  · obtain ⟨m', e1, u1⟩ := C12 (d := d - 1) hs h159 (by omega)
    refine ⟨m', ?_, u1.hd (fun a k z => by rw [if_neg (by omega), if_neg (by omega)]), ?_⟩
    · simp (disch := omega) only [pf, hf, ↓reduceIte, not_false_eq_true, not_true_eq_false, and_self, and_true, true_and, false_and, and_false, or_true, true_or, or_false, false_or, or_self, reduceCtorEq, mm_q, Option.getD_some, cI_some, cJ_some, cV_some, cS_some, kd_sI, kd_sL, kd_sR, kd_cp, ln_sI, ln_sL, ln_sR, ln_cp, gR_sI, gR_sL, gR_sR, gR_cp, gL_sI, gL_sR, gL_cp, gI_sL, gI_sR, iI_add, iI_sub, iI_mul, iI_neg, iI_in, iI_tn, iI_lt, iI_eq, Nat.reduceLeDiff, Nat.reduceEqDiff, Nat.reduceAdd, Int.reduceEq, Int.reduceLT, Int.reduceLE, Int.reduceNeg, Int.reduceAdd, Int.reduceSub, Int.reduceMul, a, t, e1]
    · rw [if_neg (by omega), if_neg (by omega), if_neg (by omega)]
      refine ⟨hh.ud u1 q1, ?_⟩
      rw [u1.2.2.2.2]
      dsimp only
      rw [if_neg (by omega), if_pos ⟨rfl, rfl⟩, h0, iI_add]
      unfold nextB
      rw [if_pos rfl]
end
