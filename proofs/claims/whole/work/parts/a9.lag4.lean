def sc14 (a k : Nat) : Bool := Nat.beq a 185 || (Nat.ble 187 a && Nat.ble a 191) || (Nat.beq a 184 && Nat.beq k 5)
/-- which lags keep the musts, of all chosen -/
def FitA (D : Nat → Nat → Int32) (m : mm_M) (n : Int) (c : Int → Int) : Prop := ∀ i a, 0 ≤ i → i < n → 0 ≤ a → a < 24 → bi (mm_gI m 191 i.toNat) a = hoW D (c i) a
section
variable {D : Nat → Nat → Int32} {m m' m'' : mm_M} {d s : Nat} {c : Int → Int} {n : Int}
theorem s14_o (f : Fr sc14 m m') {a j : Nat} (h : ¬ (a = 185 ∨ (187 ≤ a ∧ a ≤ 191) ∨ (a = 184 ∧ j = 5))) : mm_gI m' a j = mm_gI m a j := f.gI (by
  cases e : sc14 a j
  · rfl
  · exfalso
    unfold sc14 at e
    rw [Bool.or_eq_true, Bool.or_eq_true, Bool.and_eq_true, Bool.and_eq_true, Nat.ble_eq, Nat.ble_eq] at e
    rcases e with (e | e) | e
    · have := Nat.eq_of_beq_eq_true e; omega
    · omega
    · have a1 := Nat.eq_of_beq_eq_true e.1
      have a2 := Nat.eq_of_beq_eq_true e.2
      omega)
theorem Fr.Ro14 {i : Int} (h : Fr (scRo i) m m') (i0 : 0 ≤ i) (i1 : i < 4) : Fr sc14 m m' := h.mono (fun a k z => by
  unfold scRo
  cases e : Nat.beq a (187 + i.toNat)
  · rfl
  · have := Nat.eq_of_beq_eq_true e
    unfold sc14 at z
    rw [Bool.or_eq_false_iff, Bool.or_eq_false_iff, Bool.and_eq_false_iff] at z
    have z1 := z.1.2
    rw [← Bool.not_eq_true, ← Bool.not_eq_true, Nat.ble_eq, Nat.ble_eq] at z1
    omega)
theorem RW.f14 (h : RW D m s 178 (sa D) (sa D 0) false) (f : Fr sc14 m m') : RW D m' s 178 (sa D) (sa D 0) false := h.fr here178 f (fun a k a0 a1 _ => by
  cases e : sc14 a k
  · rfl
  · exfalso
    unfold sc14 at e
    rw [Bool.or_eq_true, Bool.or_eq_true, Bool.and_eq_true, Bool.and_eq_true, Nat.ble_eq, Nat.ble_eq] at e
    rcases e with (e | e) | e
    · have := Nat.eq_of_beq_eq_true e; omega
    · omega
    · have := Nat.eq_of_beq_eq_true e.1; omega)
theorem RSt.f14 (h : RSt D m s) (hst : isSt s) (hI : InvS D) (f : Fr sc14 m m') : RSt D m' s := h.cg (fun a j a0 a1 _ _ => s14_o f (by
  have hst' : s = 104 ∨ s = 125 := hst
  omega)) hI.2.2.2.2.2.1.2
theorem cho_z {so : Int} : ∀ (r : Nat) (w : Int) (s : Int × (Int → Int)), cntGo (hasW so) r w 0 = 0 → choGo so r w s = s
  | 0, _, _, _ => rfl
  | r + 1, w, s, h => by
    have e : cntGo (hasW so) (r + 1) w 0 = cntGo (hasW so) r (w + 1) (if hasW so w = true then 0 + 1 else 0) := rfl
    rw [e, cntGo_a] at h
    have p := (cntGo_r (hasW so) r (w + 1) 0).1
    unfold choGo
    by_cases y : hasW so w = true
    · rw [if_pos y] at h; omega
    · rw [if_neg y] at h ⊢
      exact cho_z r (w + 1) s (by omega)
/-- find, the chosen ones -/
theorem C14L (hst : isSt s) (hI : InvS D) (hIB : InvB D (sa D)) (hd : 3 ≤ d) {so : Int} : ∀ (r : Nat) (w : Int) (q : Int × (Int → Int)) (m : mm_M), w = st D 6 - r → 0 ≤ w → Sh m → RSt D m s → mm_gR m 184 6 = some s → RW D m s 178 (sa D) (sa D 0) false → mm_gI m 184 5 = iI q.1 → ROWS D m q.1 q.2 → coK D q.1 q.2 → FitA D m q.1 q.2 → q.1 + cntGo (hasW so) r w 0 ≤ 4 → ∃ m' y, mm_ev d 14 13 [some (.ref 184), some (.ref s), some (.ref 178), (some (.int (iI (so)))), (some (.int (iI (w))))] [] m = mm_ev d 14 95 [some (.ref 184), some (.ref s), some (.ref 178), (some (.int (iI (so)))), some (.int y)] [] m' ∧ Fr sc14 m m' ∧ mm_gI m' 184 5 = iI (choGo so r w q).1 ∧ ROWS D m' (choGo so r w q).1 (choGo so r w q).2 ∧ coK D (choGo so r w q).1 (choGo so r w q).2 ∧ FitA D m' (choGo so r w q).1 (choGo so r w q).2
  | 0, w, q, m, hw, w0, hs, hR, hg, hW, h5, hO, hc, hF, hn => by
    have sF := stF hs hst
    have q8 := hI.2.2.2.2.2.1
    have b7 := hR.1.2.2.2.2.2.2.2.1
    refine ⟨m, iI w, ?_, Fr.rf, h5, hO, hc, hF⟩
    rw [sg_14_13 (by omega)]
    simp (disch := omega) only [shW hs, sF, ↓reduceIte, not_false_eq_true, not_true_eq_false, and_self, and_true, true_and, false_and, and_false, or_true, true_or, or_false, false_or, or_self, reduceCtorEq, mm_q, Option.getD_some, cI_some, cJ_some, cV_some, cS_some, kd_sI, kd_sL, kd_sR, kd_cp, ln_sI, ln_sL, ln_sR, ln_cp, gR_sI, gR_sL, gR_sR, gR_cp, gL_sI, gL_sR, gL_cp, gI_sL, gI_sR, iI_add, iI_sub, iI_mul, iI_neg, iI_in, iI_tn, iI_lt, iI_eq, Nat.reduceLeDiff, Nat.reduceEqDiff, Nat.reduceAdd, Int.reduceEq, Int.reduceLT, Int.reduceLE, Int.reduceNeg, Int.reduceAdd, Int.reduceSub, Int.reduceMul, hg, b7, show ¬ w < st D 6 by omega]
  | r + 1, w, q, m, hw, w0, hs, hR, hg, hW, h5, hO, hc, hF, hn => by
    have sF := stF hs hst
    have q8 := hI.2.2.2.2.2.1
    have b7 := hR.1.2.2.2.2.2.2.2.1
    have w1 : w < st D 6 := by omega
    obtain ⟨n0, n1⟩ := hc.1
    have cp := (cntGo_r (hasW so) r (w + 1) 0).1
    have ce : cntGo (hasW so) (r + 1) w 0 = cntGo (hasW so) r (w + 1) (if hasW so w = true then 0 + 1 else 0) := rfl
    rw [ce, cntGo_a] at hn
    by_cases y4 : q.1 < 4
    · have hz := hasW_0 (x := so) (w := w)
      cases y : hasW so w
      · rw [y] at hz hn
        rw [if_neg (by decide)] at hn
        have hz' : (iShr (iI so) (iI w) &&& iI 1) = iI 0 := by
          cases e : decide ((iShr (iI so) (iI w) &&& iI 1) = iI 0)
          · rw [e] at hz; cases hz
          · exact of_decide_eq_true e
        obtain ⟨m', y', e', r'⟩ := C14L hst hI hIB hd (so := so) r (w + 1) q m (by omega) (by omega) hs hR hg hW h5 hO hc hF (by omega)
        have ec : choGo so (r + 1) w q = choGo so r (w + 1) q := by
          rw [choGo, y, if_neg (by decide)]
        rw [ec]
        refine ⟨m', y', ?_, r'⟩
        rw [← e', sg_14_13 (by omega)]
        simp (disch := omega) only [shW hs, sF, ↓reduceIte, not_false_eq_true, not_true_eq_false, and_self, and_true, true_and, false_and, and_false, or_true, true_or, or_false, false_or, or_self, reduceCtorEq, mm_q, Option.getD_some, cI_some, cJ_some, cV_some, cS_some, kd_sI, kd_sL, kd_sR, kd_cp, ln_sI, ln_sL, ln_sR, ln_cp, gR_sI, gR_sL, gR_sR, gR_cp, gL_sI, gL_sR, gL_cp, gI_sL, gI_sR, iI_add, iI_sub, iI_mul, iI_neg, iI_in, iI_tn, iI_lt, iI_eq, Nat.reduceLeDiff, Nat.reduceEqDiff, Nat.reduceAdd, Int.reduceEq, Int.reduceLT, Int.reduceLE, Int.reduceNeg, Int.reduceAdd, Int.reduceSub, Int.reduceMul, hg, b7, w1, h5, y4, hz', sg_14_89]
      · rw [y] at hz hn
        rw [if_pos rfl] at hn
        have hz' : ¬ (iShr (iI so) (iI w) &&& iI 1) = iI 0 := fun e => by
          rw [decide_eq_true e] at hz; cases hz
        have ec : choGo so (r + 1) w q = choGo so r (w + 1) (q.1 + 1, updB q.2 q.1 w) := by
          rw [choGo, y, if_pos rfl]
        rw [ec]
        have uk : updB q.2 q.1 w q.1 = w := if_pos rfl
        have uo : ∀ j, ¬ j = q.1 → updB q.2 q.1 w j = q.2 j := fun j y => if_neg y
        have g1 : Fr sc14 m (mm_sI m 185 q.1.toNat (iI w)) := Fr.sI rfl
        have hs1 := g1.sh hs
        have hR1 := hR.f14 hst hI g1
        have hW1 := hW.f14 g1
        have hg1 : mm_gR (mm_sI m 185 q.1.toNat (iI w)) 184 6 = some s := hg
        obtain ⟨m2, e2, f2, r2⟩ := C15 (d := d - 1) hs1 hst hR1 hg1 hW1 hI hIB (by omega) n0 y4 w0 w1 (by rw [gI_sI, if_pos ⟨rfl, rfl⟩])
        have g2 := f2.Ro14 n0 y4
        have hs2 := g2.sh hs1
        have hR2 := hR1.f14 hst hI g2
        have hg2 : mm_gR m2 184 6 = some s := (f2.2.2.1 _ _).trans hg1
        have hO2 : ROWS D m2 (q.1 + 1) (updB q.2 q.1 w) := fun i i0 i1 => by
          rw [Ro_o f2 (by omega)]
          by_cases v : i = q.1
          · rw [v, uk]
            exact ⟨by rw [gI_sI, if_pos ⟨rfl, rfl⟩], r2⟩
          · rw [uo i v]
            refine ⟨?_, fun t t0 t1 => ?_⟩
            · rw [gI_sI, if_neg (by omega)]
              exact (hO i i0 (by omega)).1
            · rw [Ro_o f2 (by omega), gI_sI, if_neg (by omega)]
              exact (hO i i0 (by omega)).2 t t0 t1
        have hc2 : coK D (q.1 + 1) (updB q.2 q.1 w) := ⟨⟨by omega, by omega⟩, fun i i0 i1 => by
          by_cases v : i = q.1
          · rw [v, uk]; exact ⟨w0, w1⟩
          · rw [uo i v]; exact hc.2 i i0 (by omega)⟩
        obtain ⟨y3, e3, r3⟩ := C16 (d := d - 1) hs2 hst hR2 hg2 hO2 hc2 hI hIB (by omega) n0 (show q.1 < q.1 + 1 by omega)
        rw [uk] at r3
        have g3 : Fr sc14 m2 (mm_sI (mm_sI m2 191 q.1.toNat y3) 184 5 (iI (q.1 + 1))) := Fr.tr (Fr.sI rfl) (Fr.sI rfl)
        have G := (g1.tr g2).tr g3
        have h52 : mm_gI m2 184 5 = iI q.1 := (Ro_o f2 (by omega)).trans h5
        have h52' : mm_gI (mm_sI m2 191 q.1.toNat y3) 184 5 = iI q.1 := h52
        have h51 : mm_gI (mm_sI m 185 q.1.toNat (iI w)) 184 5 = iI q.1 := h5
        obtain ⟨m', y', e', f', r'⟩ := C14L hst hI hIB hd (so := so) r (w + 1) (q.1 + 1, updB q.2 q.1 w) (mm_sI (mm_sI m2 191 q.1.toNat y3) 184 5 (iI (q.1 + 1))) (by omega) (by omega) (G.sh hs) (hR.f14 hst hI G) hg2 (hW.f14 G) (by rw [gI_sI, if_pos ⟨rfl, rfl⟩]) (fun i i0 i1 => by
          have := hO2 i i0 i1
          have i1' : i < q.1 + 1 := i1
          rw [gI_sI, if_neg (by omega), gI_sI, if_neg (by omega)]
          refine ⟨this.1, fun t t0 t1 => ?_⟩
          rw [gI_sI, if_neg (by omega), gI_sI, if_neg (by omega)]
          exact this.2 t t0 t1) hc2 (fun i a i0 i1 a0 a1 => by
          have i1' : i < q.1 + 1 := i1
          rw [gI_sI, if_neg (by omega), gI_sI]
          by_cases v : i = q.1
          · rw [v, if_pos ⟨rfl, rfl⟩]
            show bi y3 a = hoW D (updB q.2 q.1 w q.1) a
            rw [uk]
            exact r3 a a0 a1
          · rw [if_neg (by omega), Ro_o f2 (by omega), gI_sI, if_neg (by omega)]
            show _ = hoW D (updB q.2 q.1 w i) a
            rw [uo i v]
            exact hF i a i0 (by omega) a0 a1) (by show q.1 + 1 + _ ≤ 4; omega)
        refine ⟨m', y', ?_, G.tr f', r'⟩
        rw [← e', sg_14_13 (by omega)]
        simp (disch := omega) only [shW hs, sF, ↓reduceIte, not_false_eq_true, not_true_eq_false, and_self, and_true, true_and, false_and, and_false, or_true, true_or, or_false, false_or, or_self, reduceCtorEq, mm_q, Option.getD_some, cI_some, cJ_some, cV_some, cS_some, kd_sI, kd_sL, kd_sR, kd_cp, ln_sI, ln_sL, ln_sR, ln_cp, gR_sI, gR_sL, gR_sR, gR_cp, gL_sI, gL_sR, gL_cp, gI_sL, gI_sR, iI_add, iI_sub, iI_mul, iI_neg, iI_in, iI_tn, iI_lt, iI_eq, Nat.reduceLeDiff, Nat.reduceEqDiff, Nat.reduceAdd, Int.reduceEq, Int.reduceLT, Int.reduceLE, Int.reduceNeg, Int.reduceAdd, Int.reduceSub, Int.reduceMul, hg, b7, w1, h5, y4, hz', h51, shW hs1, e2]
        rw [sg_14_62 (by omega)]
        simp (disch := omega) only [shW hs2, ↓reduceIte, not_false_eq_true, not_true_eq_false, and_self, and_true, true_and, false_and, and_false, or_true, true_or, or_false, false_or, or_self, reduceCtorEq, mm_q, Option.getD_some, cI_some, cJ_some, cV_some, cS_some, kd_sI, kd_sL, kd_sR, kd_cp, ln_sI, ln_sL, ln_sR, ln_cp, gR_sI, gR_sL, gR_sR, gR_cp, gL_sI, gL_sR, gL_cp, gI_sL, gI_sR, iI_add, iI_sub, iI_mul, iI_neg, iI_in, iI_tn, iI_lt, iI_eq, Nat.reduceLeDiff, Nat.reduceEqDiff, Nat.reduceAdd, Int.reduceEq, Int.reduceLT, Int.reduceLE, Int.reduceNeg, Int.reduceAdd, Int.reduceSub, Int.reduceMul, h52, e3]
        rw [sg_14_78]
        simp (disch := omega) only [shW hs2, ↓reduceIte, not_false_eq_true, not_true_eq_false, and_self, and_true, true_and, false_and, and_false, or_true, true_or, or_false, false_or, or_self, reduceCtorEq, mm_q, Option.getD_some, cI_some, cJ_some, cV_some, cS_some, kd_sI, kd_sL, kd_sR, kd_cp, ln_sI, ln_sL, ln_sR, ln_cp, gR_sI, gR_sL, gR_sR, gR_cp, gL_sI, gL_sR, gL_cp, gI_sL, gI_sR, iI_add, iI_sub, iI_mul, iI_neg, iI_in, iI_tn, iI_lt, iI_eq, Nat.reduceLeDiff, Nat.reduceEqDiff, Nat.reduceAdd, Int.reduceEq, Int.reduceLT, Int.reduceLE, Int.reduceNeg, Int.reduceAdd, Int.reduceSub, Int.reduceMul, h52', sg_14_89]
    · have cz : cntGo (hasW so) (r + 1) w 0 = 0 := by
        rw [ce, cntGo_a]
        by_cases y : hasW so w = true
        · rw [if_pos y] at hn; omega
        · rw [if_neg y] at hn ⊢; omega
      rw [cho_z (r + 1) w q cz]
      refine ⟨m, iI w, ?_, Fr.rf, h5, hO, hc, hF⟩
      rw [sg_14_13 (by omega)]
      simp (disch := omega) only [shW hs, sF, ↓reduceIte, not_false_eq_true, not_true_eq_false, and_self, and_true, true_and, false_and, and_false, or_true, true_or, or_false, false_or, or_self, reduceCtorEq, mm_q, Option.getD_some, cI_some, cJ_some, cV_some, cS_some, kd_sI, kd_sL, kd_sR, kd_cp, ln_sI, ln_sL, ln_sR, ln_cp, gR_sI, gR_sL, gR_sR, gR_cp, gL_sI, gL_sR, gL_cp, gI_sL, gI_sR, iI_add, iI_sub, iI_mul, iI_neg, iI_in, iI_tn, iI_lt, iI_eq, Nat.reduceLeDiff, Nat.reduceEqDiff, Nat.reduceAdd, Int.reduceEq, Int.reduceLT, Int.reduceLE, Int.reduceNeg, Int.reduceAdd, Int.reduceSub, Int.reduceMul, hg, b7, w1, h5, y4]
end
