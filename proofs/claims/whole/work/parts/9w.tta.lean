section
variable {D D' : Nat → Nat → Int32} {E : Nat → Nat → Int64} {m m' c c' c'' : mm_M} {d s p P : Nat} {n N i f : Int} {T : TK} {k : Int} {A : Nat → Int}
/-- other papers -/
theorem RCm.ny (h : RCm D c s p) (k9 : st D 6 ≤ 8) (hs : Sh c') (g1 : mm_gR c' 100 1 = some s) (hP' : isSc P) (g3 : mm_gR c' 100 3 = some P) (g4 : mm_gR c' 172 4 = some s) (ee : ∀ a k, (a = 100 ∨ (155 ≤ a ∧ a ≤ 158) ∨ (163 ≤ a ∧ a ≤ 168) ∨ (173 ≤ a ∧ a ≤ 177) ∨ (212 ≤ a ∧ a ≤ 315) ∨ (s ≤ a ∧ a ≤ s + 20)) → mm_gI c' a k = mm_gI c a k) (e : SamS D D') (e26 : D' 316 26 = D 316 26) (e332 : D' 332 = D 332) (e333 : ∀ j, D' 333 j = D 333 j) (hN : RN D' c' P) : RCm D' c' s P := by
  obtain ⟨⟨hs0, hst, hg, hR, hW, hH, h0⟩, hp, hgp, hN0, hP, hU, hM⟩ := h
  have es := cD_sa e332
  refine ⟨⟨hs, hst, g1, e.rst (hR.cg (fun a k a0 a1 _ _ => ee a k (by omega)) k9), ?_, ?_, ?_⟩, hP', g3, hN, hP.ch (fun j _ _ => by rw [e332]) (fun a k a0 a1 _ => ee a k (by omega)), hU.ch e e26 (fun j _ => by rw [e332]) (fun a k y => ee a k (by omega)), hM.ch e k9 e333 (fun j _ _ => by rw [e332]) (fun a k y => ee a k (by omega))⟩
  · rw [es]
    apply e.rw
    refine ⟨g4, fun w w0 w1 => ?_⟩
    obtain ⟨q1, q2, q3, q4⟩ := hW.2 w w0 w1
    exact ⟨(ee _ _ (by omega)).trans q1, (ee _ _ (by omega)).trans q2, (ee _ _ (by omega)).trans q3, (ee _ _ (by omega)).trans q4⟩
  · rw [es]
    apply e.hd
    intro w w0 w1
    obtain ⟨q1, q2, q3⟩ := hH w w0 w1
    exact ⟨(ee _ _ (by omega)).trans q1, (ee _ _ (by omega)).trans q2, (ee _ _ (by omega)).trans q3⟩
  · rw [es]
    exact (ee _ _ (by omega)).trans h0
theorem oP_sc (h : isSc p) : isSc (oP p) ∧ (oP p + 3 < p ∨ p + 3 < oP p) ∧ oP (oP p) = p := by
  rcases h with rfl | rfl
  · exact ⟨Or.inr rfl, by decide, by decide⟩
  · exact ⟨Or.inl rfl, by decide, by decide⟩
theorem scTk_n {a k : Nat} (h : ¬ a = 101) (h1 : ¬ a = 154) (h2 : ¬ (P ≤ a ∧ a ≤ P + 3)) : scTk P a k = false := by
  unfold scTk scBr scVt
  rw [nb h, nb h1, scS4_n h2]
  rfl
/-- takes, of both -/
theorem Ttakes (h : RCm D c s p) (hT : RT D E c s p) (hM : MD D E c) (hI : InvS D) (hd : 70 ≤ d) : ∃ f c1 c2, mm_ev d 105 0 [some (.ref 100), none, none] [] c = some (some (some (.int (iI f))), c1) ∧ mm_ev d 198 0 [some (.ref 316), none, none] [] c1 = some (some (some (.int (iI f))), c2) ∧ ((MD (up D 316 2 (iI 0)) E c2 ∧ RCm (up D 316 2 (iI 0)) c2 s p ∧ RT (up D 316 2 (iI 0)) E c2 s p) ∨ ∃ (A : Nat → Int) (k : Int), MD (lyD (up D 316 2 (iI 0)) A k) E c2 ∧ RCm (lyD (up D 316 2 (iI 0)) A k) c2 s (oP p) ∧ RT (lyD (up D 316 2 (iI 0)) A k) E c2 s (oP p) ∧ InvN (lyD (up D 316 2 (iI 0)) A k)) := by
  obtain ⟨⟨⟨t0, t1⟩, hCX, hx⟩, hF, hN, g2, g4, hE⟩ := hT
  have hst := h.1.2.1
  have hst' : s = 104 ∨ s = 125 := hst
  have hp' : p = 146 ∨ p = 150 := h.2.1
  obtain ⟨P1, P2, P3⟩ := oP_sc h.2.1
  have k9 : st D 6 ≤ 8 := hI.2.2.2.2.2.1.2
  have stq : st (up D 316 2 (iI 0)) = st D := by rw [st_o (by omega)]
  have e27 : (up D 316 2 (iI 0)) 327 = D 327 := by funext k; unfold up; rw [if_neg (by omega)]
  have e18 : (up D 316 2 (iI 0)) 316 18 = D 316 18 := by unfold up; rw [if_neg (by omega)]
  have e20 : (up D 316 2 (iI 0)) 316 2 = iI 0 := by unfold up; rw [if_pos ⟨rfl, rfl⟩]
  obtain ⟨T, N, hTS, -⟩ := M163h (d := d) hM t0 t1 hx (by omega)
  have hN0 : NR (fun k => E 325 k) ((up D 316 2 (iI 0)) 327) (D 316 18).toInt (st (up D 316 2 (iI 0)) 5) (st (up D 316 2 (iI 0)) 6) s c := by rw [e27, stq]; exact hN
  have cn := hN.1
  have ca := hN.2.1
  have cb := hN.2.2.1
  have nn := hTS.1
  obtain ⟨f', k', A', Q1, Q2, Q3⟩ := Ltakes (D := up D 316 2 (iI 0)) (E := E) (cnt := (D 316 18).toInt) hTS hE (by rw [stq]; exact hI.1.1) (by rw [stq]; exact hI.1.2) (by rw [stq]; exact ca.2) (by rw [stq]; exact k9) (by rw [e18]) (by omega) (by omega) (fun u => fd_a hN0 u) 30 0 0 (fun _ => 0) (by omega) (by omega) (by omega) nn.1 (fun j hj => by omega)
  have hP : oP p = 146 ∨ oP p = 150 := P1
  have hPe : ∃ P, P = oP p := ⟨_, rfl⟩
  obtain ⟨P, hPe⟩ := hPe
  rw [← hPe] at g4 P1 P2 P3 hP ⊢
  -- the class
  have hs0 := h.1.1
  have hsb : Sh (mm_sR (mm_sR c 154 1 (some s)) 154 2 (some P)) := (hs0.sRw (by decide)).sRw (by decide)
  generalize hcb : mm_sR (mm_sR c 154 1 (some s)) 154 2 (some P) = b at hsb
  have bI' : ∀ a k, mm_gI b a k = mm_gI c a k := fun a k => by rw [← hcb]; rfl
  have bL' : ∀ a k, mm_gL b a k = mm_gL c a k := fun a k => by rw [← hcb]; rfl
  have bR1 : mm_gR b 154 1 = some s := by rw [← hcb, gR_sR, if_neg (by omega), gR_sR, if_pos ⟨rfl, rfl⟩]
  have bR2 : mm_gR b 154 2 = some P := by rw [← hcb, gR_sR, if_pos ⟨rfl, rfl⟩]
  have bR : ∀ a k, ¬ a = 154 → mm_gR b a k = mm_gR c a k := fun a k y => by rw [← hcb, gR_sR, if_neg (by omega), gR_sR, if_neg (by omega)]
  have hXb : CX (up D 316 2 (iI 0)) (D 316 2).toInt b := ⟨hsb, (bI' _ _).trans hCX.2.1, fun k k0 k1 => by rw [tx_up, bI']; exact hCX.2.2.1 k k0 k1, fun k k0 k1 => by rw [bL']; exact hCX.2.2.2 k k0 k1⟩
  have gb : Fr (scTk P) b (mm_sI (mm_sI b P 0 (iI 0)) 154 3 (iI 0)) := (Fr.ST (Fr.sI (scS4_t (by omega) (by omega)))).tr Fr.r154.BT
  have tkz : ∀ a k, (a = 101 ∧ k = 3) ∨ a = 102 ∨ a = 103 → scTk P a k = false := fun a k y => by
    unfold scTk
    rw [scB_z y, scS4_n (by omega)]
    rfl
  have hXe := hXb.fr gb tkz
  obtain ⟨c3, e3, g3, t3⟩ := C78 (d := d - 2) hTS hXe (by omega)
  have g3' : Fr (scTk P) b c3 := gb.tr g3.vB.BT
  have hC3 : CR (up D 316 2 (iI 0)) (D 316 2).toInt T N 0 s c3 := ⟨hXe.v g3, t3, ⟨by omega, nn.1⟩, hst, (g3'.2.2.1 _ _).trans bR1, by rw [g3.gI rfl, gI_sI, if_pos ⟨rfl, rfl⟩]⟩
  have sn : ∀ a k, s ≤ a → a ≤ s + 20 → scTk P a k = false := fun a k a0 a1 => scTk_n (by omega) (by omega) (by omega)
  have stI : ∀ x, mm_gI c3 s x = mm_gI c s x := fun x => (g3'.gI (sn _ _ (by omega) (by omega))).trans (bI' _ _)
  have hNb : NR (fun k => E 325 k) ((up D 316 2 (iI 0)) 327) (D 316 18).toInt (st (up D 316 2 (iI 0)) 5) (st (up D 316 2 (iI 0)) 6) s b := by
    obtain ⟨v1, v2, v3, v4, v5, v6, v7⟩ := hN0
    exact ⟨v1, v2, v3, fun j hj => by rw [bL', bL']; exact v4 j hj, v5, v6, v7⟩
  have nrz : ∀ x k : Nat, (x = s + 1 ∧ (k : Int) < st (up D 316 2 (iI 0)) 5) ∨ (s + 13 ≤ x ∧ (x : Int) < s + 13 + st (up D 316 2 (iI 0)) 6 ∧ k = 0) → scTk P x k = false := fun x k y => by
    rw [stq] at y
    exact sn _ _ (by omega) (by omega)
  have hN3 := hNb.fr g3' nrz
  have kc3 : KC (fun _ => 0) 0 c3 P := ⟨by rw [g3.gI (by unfold scVt; rw [nb (by omega)]; rfl), gI_sI, if_neg (by omega), gI_sI, if_pos ⟨rfl, rfl⟩], fun j hj => by omega⟩
  obtain ⟨c4, x4, y4, e4, hs4, g4', u4, K4⟩ := Q2 c3 (d - 1) s P (by omega) hC3 P1 ((g3'.2.2.1 _ _).trans bR2) kc3 (by rw [stI, stq]; exact h.1.2.2.2.1.1.1) hN3 (by rw [stI, stq]; exact h.1.2.2.2.1.1.2.2.2.2.2.2.2.1)
  have G4 : Fr (scTk P) b c4 := g3'.tr g4'
  have run59 : mm_ev (d - 1) 59 0 [some (.ref 154), some (.ref s), some (.ref P), none, none] [] c = some (some (some (.int (iI f'))), mm_sI c4 101 3 (iI 0)) := by
    have e82 : mm_ev (d - 1 - 1) 82 0 [some (.ref 101)] [] c4 = some (some none, mm_sI c4 101 3 (iI 0)) := by
      rw [sg_82_0]
      simp (disch := omega) only [shT hs4, ↓reduceIte, not_false_eq_true, not_true_eq_false, and_self, and_true, true_and, false_and, and_false, or_true, true_or, or_false, false_or, or_self, reduceCtorEq, mm_q, Option.getD_some, cI_some, cJ_some, cV_some, cS_some, kd_sI, kd_sL, kd_sR, kd_cp, ln_sI, ln_sL, ln_sR, ln_cp, gR_sI, gR_sL, gR_sR, gR_cp, gL_sI, gL_sR, gL_cp, gI_sL, gI_sR, iI_add, iI_sub, iI_mul, iI_neg, iI_in, iI_tn, iI_lt, iI_eq, Nat.reduceLeDiff, Nat.reduceEqDiff, Nat.reduceAdd, Int.reduceEq, Int.reduceLT, Int.reduceLE, Int.reduceNeg, Int.reduceAdd, Int.reduceSub, Int.reduceMul]
    have en : mm_ev (d - 1) 59 71 [some (.ref 154), some (.ref s), some (.ref P), some (.int x4), some (.int y4)] [] c4 = some (some (some (.int (iI f'))), mm_sI c4 101 3 (iI 0)) := by
      rw [sg_59_71 (by omega)]
      simp (disch := omega) only [shP hs4, shT hs4, ↓reduceIte, not_false_eq_true, not_true_eq_false, and_self, and_true, true_and, false_and, and_false, or_true, true_or, or_false, false_or, or_self, reduceCtorEq, mm_q, Option.getD_some, cI_some, cJ_some, cV_some, cS_some, kd_sI, kd_sL, kd_sR, kd_cp, ln_sI, ln_sL, ln_sR, ln_cp, gR_sI, gR_sL, gR_sR, gR_cp, gL_sI, gL_sR, gL_cp, gI_sL, gI_sR, iI_add, iI_sub, iI_mul, iI_neg, iI_in, iI_tn, iI_lt, iI_eq, Nat.reduceLeDiff, Nat.reduceEqDiff, Nat.reduceAdd, Int.reduceEq, Int.reduceLT, Int.reduceLE, Int.reduceNeg, Int.reduceAdd, Int.reduceSub, Int.reduceMul, e82, gI_sI, u4]
    rw [← en, ← e4, sg_59_0 (by omega)]
    have k5 : mm_kd c 154 = 5 := hs0.kd (by decide)
    rw [if_pos k5]
    show (if mm_kd (mm_sR c 154 1 (some s)) 154 = 5 then _ else none) = _
    rw [if_pos (show mm_kd (mm_sR c 154 1 (some s)) 154 = 5 from k5)]
    show (if mm_kd (mm_sR (mm_sR c 154 1 (some s)) 154 2 (some P)) 154 = 5 ∧ ¬ mm_gR (mm_sR (mm_sR c 154 1 (some s)) 154 2 (some P)) 154 2 = none then _ else none) = _
    rw [hcb]
    simp (disch := omega) only [shP hsb, pcF hsb P1, shP hXe.1, shT hXe.1, shT hsb, ↓reduceIte, not_false_eq_true, not_true_eq_false, and_self, and_true, true_and, false_and, and_false, or_true, true_or, or_false, false_or, or_self, reduceCtorEq, mm_q, Option.getD_some, cI_some, cJ_some, cV_some, cS_some, kd_sI, kd_sL, kd_sR, kd_cp, ln_sI, ln_sL, ln_sR, ln_cp, gR_sI, gR_sL, gR_sR, gR_cp, gL_sI, gL_sR, gL_cp, gI_sL, gI_sR, iI_add, iI_sub, iI_mul, iI_neg, iI_in, iI_tn, iI_lt, iI_eq, Nat.reduceLeDiff, Nat.reduceEqDiff, Nat.reduceAdd, Int.reduceEq, Int.reduceLT, Int.reduceLE, Int.reduceNeg, Int.reduceAdd, Int.reduceSub, Int.reduceMul, bR2, show d - 1 - 1 = d - 2 by omega, e3]
  have hs5 : Sh (mm_sI c4 101 3 (iI 0)) := hs4
  generalize hc5 : mm_sI c4 101 3 (iI 0) = c5 at run59 hs5
  have I5 : ∀ a k, ¬ a = 101 → ¬ a = 154 → ¬ (P ≤ a ∧ a ≤ P + 3) → mm_gI c5 a k = mm_gI c a k ∧ mm_gL c5 a k = mm_gL c a k := fun a k y1 y2 y3 => by
    rw [← hc5, gI_sI, if_neg (by omega), gL_sI, G4.gI (scTk_n y1 y2 y3), G4.gL (scTk_n y1 y2 y3)]
    exact ⟨bI' a k, bL' a k⟩
  have R5 : ∀ a k, ¬ a = 154 → mm_gR c5 a k = mm_gR c a k := fun a k y => by
    rw [← hc5]
    show mm_gR c4 a k = _
    rw [G4.2.2.1]
    exact bR a k y
  have z5 : mm_gI c5 101 3 = iI 0 := by rw [← hc5, gI_sI, if_pos ⟨rfl, rfl⟩]
  have run : mm_ev d 105 0 [some (.ref 100), none, none] [] c = mm_ev d 105 15 [some (.ref 100), none, none] [.int (iI f')] c5 := by
    have gs : mm_gR c 100 1 = some s := h.1.2.2.1
    rw [sg_105_0 (by omega)]
    simp (disch := omega) only [shX hs0, shP hs0, ↓reduceIte, not_false_eq_true, not_true_eq_false, and_self, and_true, true_and, false_and, and_false, or_true, true_or, or_false, false_or, or_self, reduceCtorEq, mm_q, Option.getD_some, cI_some, cJ_some, cV_some, cS_some, kd_sI, kd_sL, kd_sR, kd_cp, ln_sI, ln_sL, ln_sR, ln_cp, gR_sI, gR_sL, gR_sR, gR_cp, gL_sI, gL_sR, gL_cp, gI_sL, gI_sR, iI_add, iI_sub, iI_mul, iI_neg, iI_in, iI_tn, iI_lt, iI_eq, Nat.reduceLeDiff, Nat.reduceEqDiff, Nat.reduceAdd, Int.reduceEq, Int.reduceLT, Int.reduceLE, Int.reduceNeg, Int.reduceAdd, Int.reduceSub, Int.reduceMul, g4, gs, run59]
  have hN5 : NR (fun k => E 325 k) (D 327) (D 316 18).toInt (st D 5) (st D 6) s c5 := by
    obtain ⟨v1, v2, v3, v4, v5, v6, v7⟩ := hN
    refine ⟨v1, v2, v3, fun j hj => ?_, v5, v6, v7⟩
    rcases v4 j hj with ⟨r1, r2, r3⟩ | ⟨r1, r2, r3⟩
    · exact Or.inl ⟨r1, r2, by rw [(I5 _ _ (by omega) (by omega) (by omega)).2]; exact r3⟩
    · exact Or.inr ⟨r1, r2, by rw [(I5 _ _ (by omega) (by omega) (by omega)).2]; exact r3⟩
  have hF5 : FN c5 := fun q hq => by
    have hq' : q = 104 ∨ q = 125 := hq
    obtain ⟨w1, w2, w3, w4⟩ := hF q hq
    exact ⟨(I5 _ _ (by omega) (by omega) (by omega)).2.trans w1, (I5 _ _ (by omega) (by omega) (by omega)).2.trans w2, (I5 _ _ (by omega) (by omega) (by omega)).2.trans w3, (I5 _ _ (by omega) (by omega) (by omega)).2.trans w4⟩
  have kw5 : ∀ k, 0 ≤ k → k < 30 → mm_gL c5 103 k.toNat = kcL k := fun k k0 k1 => by
    rw [(I5 103 _ (by omega) (by omega) (by omega)).2]
    exact hCX.2.2.2 k k0 k1
  have mdl : ∀ c6 : mm_M, Sh c6 → (∀ a k, 316 ≤ a → mm_gI c6 a k = mm_gI c a k ∧ mm_gL c6 a k = mm_gL c a k) → ∃ m' z' i', mm_ev d 198 0 [some (.ref 316), none, none] [] c6 = mm_ev d 198 174 [some (.ref 316), some (.int (iI (k'))), z'] [] m' ∧ PF (up D 316 2 (iI 0)) E T N i' f' m' ∧ Fr scA c6 m' ∧ (f' = 0 → KM A' k' m') := fun c6 hs6 hi6 => by
    obtain ⟨U, K, hU, -, m1, e1, hP1, g1, -⟩ := M163h (d := d) (hM.hi hs6 hi6) t0 t1 hx (by omega)
    obtain ⟨m2, z2, i2, e2, h2, g2', M2⟩ := Q1 m1 none d (by omega) (PF.u hTS hU hP1) (fun j hj => by omega)
    refine ⟨m2, z2, i2, ?_, h2, g1.tr g2'.MA, M2⟩
    rw [← e2, sg_198_0 (by omega)]
    simp (disch := omega) only [shM hs6, ↓reduceIte, not_false_eq_true, not_true_eq_false, and_self, and_true, true_and, false_and, and_false, or_true, true_or, or_false, false_or, or_self, reduceCtorEq, mm_q, Option.getD_some, cI_some, cJ_some, cV_some, cS_some, kd_sI, kd_sL, kd_sR, kd_cp, ln_sI, ln_sL, ln_sR, ln_cp, gR_sI, gR_sL, gR_sR, gR_cp, gL_sI, gL_sR, gL_cp, gI_sL, gI_sR, iI_add, iI_sub, iI_mul, iI_neg, iI_in, iI_tn, iI_lt, iI_eq, Nat.reduceLeDiff, Nat.reduceEqDiff, Nat.reduceAdd, Int.reduceEq, Int.reduceLT, Int.reduceLE, Int.reduceNeg, Int.reduceAdd, Int.reduceSub, Int.reduceMul, e1]
  by_cases y : f' = 0
  · subst y
    obtain ⟨hB, k0, k1⟩ := Q3 rfl
    have ss := stq
    obtain ⟨rn, -⟩ := (K4 rfl).rn k0 k1 hB (by rw [stq]; exact k9) (by rw [stq]; exact hI.1.2)
    have hs6 : Sh (mm_sR (mm_sR c5 100 3 (some P)) 100 4 (some p)) := (hs5.sRw (by decide)).sRw (by decide)
    obtain ⟨m2, z2, i2, e2, h2, gA, M2⟩ := mdl (mm_sR (mm_sR c5 100 3 (some P)) 100 4 (some p)) hs6 (fun a k ha => I5 a k (by omega) (by omega) (by omega))
    obtain ⟨m3, e3', h3, gA3⟩ := M198k (d := d) (z := z2) h2 (M2 rfl) k0 k1
    have lo : ∀ a j, ¬ a = 329 → lyD (up D 316 2 (iI 0)) A' k' a j = up D 316 2 (iI 0) a j := fun a j y => ly_o y
    have lof : ∀ a, ¬ a = 329 → lyD (up D 316 2 (iI 0)) A' k' a = up D 316 2 (iI 0) a := fun a y => by funext j; exact lo a j y
    have upf : ∀ a, ¬ a = 316 → up D 316 2 (iI 0) a = D a := fun a y => by funext j; unfold up; rw [if_neg (by omega)]
    have lyf : ∀ a, ¬ a = 329 → ¬ a = 316 → lyD (up D 316 2 (iI 0)) A' k' a = D a := fun a y1 y2 => (lof a y1).trans (upf a y2)
    have stl : st (lyD (up D 316 2 (iI 0)) A' k') = st D := by funext j; unfold st; rw [lyf 322 (by omega) (by omega)]
    have sam : SamS D (lyD (up D 316 2 (iI 0)) A' k') := ⟨lyf _ (by omega) (by omega), lyf _ (by omega) (by omega), lyf _ (by omega) (by omega)⟩
    have rn5 : RN (lyD (up D 316 2 (iI 0)) A' k') (mm_sR (mm_sR c5 100 3 (some P)) 100 4 (some p)) P := rn.cg (fun a k a0 a1 => by
      show mm_gI c5 a k = _
      rw [← hc5, gI_sI, if_neg (by omega)])
    have R6 : RCm (lyD (up D 316 2 (iI 0)) A' k') (mm_sR (mm_sR c5 100 3 (some P)) 100 4 (some p)) s P := h.ny k9 hs6 (by rw [gR_sR, if_neg (by omega), gR_sR, if_neg (by omega), R5 _ _ (by omega)]; exact h.1.2.2.1) P1 (by rw [gR_sR, if_neg (by omega), gR_sR, if_pos ⟨rfl, rfl⟩]) (by rw [gR_sR, if_neg (by omega), gR_sR, if_neg (by omega), R5 _ _ (by omega)]; exact h.1.2.2.2.2.1.1) (fun a k y => (I5 a k (by omega) (by omega) (by omega)).1) sam (by rw [lo _ _ (by omega)]; unfold up; rw [if_neg (by omega)]) (lyf _ (by omega) (by omega)) (fun j => by rw [lyf _ (by omega) (by omega)]) rn5
    refine ⟨0, mm_sR (mm_sR c5 100 3 (some P)) 100 4 (some p), m3, ?_, by rw [e2, e3'], Or.inr ⟨A', k', h3, R6.fA (by rw [stl]; exact k9) (gA.tr gA3), RT.fA ?_ hst (gA.tr gA3), hB.inv k0 k1 (by rw [stq]; exact k9) (by rw [stq]; exact hI.1.2)⟩⟩
    · rw [run, sg_105_15]
      have q3 : mm_gR c5 100 3 = some p := (R5 _ _ (by omega)).trans h.2.2.1
      have q4 : mm_gR c5 100 4 = some P := (R5 _ _ (by omega)).trans g4
      have kd : mm_kd c5 100 = 11 := hs5.kd (by decide)
      have qa : mm_q c5 100 4 = P := by unfold mm_q; rw [q4]; rfl
      have qb : mm_q c5 100 3 = p := by unfold mm_q; rw [q3]; rfl
      rw [if_pos rfl, if_pos ⟨kd, by rw [q3]; simp⟩, if_pos ⟨kd, by rw [q4]; simp⟩, if_pos kd, qa, qb]
      show (if mm_kd (mm_sR c5 100 3 (some P)) 100 = 11 then _ else none) = _
      rw [if_pos (show mm_kd (mm_sR c5 100 3 (some P)) 100 = 11 from kd)]
      rfl
    · have n2 : (lyD (up D 316 2 (iI 0)) A' k' 316 2).toInt = 0 := by rw [lo _ _ (by omega), e20]; rfl
      refine ⟨⟨by rw [n2]; omega, ⟨hs6, by rw [n2]; exact z5, fun k k0 k1 => by rw [n2] at k1; omega, kw5⟩, fun k k0 k1 => by rw [n2] at k1; omega⟩, hF5, ?_, ?_, ?_, hE⟩
      · rw [lyf 327 (by omega) (by omega), lo 316 18 (by omega), e18, stl]
        exact hN5
      · rw [gR_sR, if_neg (by omega), gR_sR, if_neg (by omega), R5 _ _ (by omega)]; exact g2
      · rw [gR_sR, if_pos ⟨rfl, rfl⟩, P3]
  · obtain ⟨m2, z2, i2, e2, h2, gA, -⟩ := mdl c5 hs5 (fun a k ha => I5 a k (by omega) (by omega) (by omega))
    have fr := h2.2.2.2.2.2
    have hR5 : RCm D c5 s p := h.mem k9 hs5 ((R5 _ _ (by omega)).trans h.1.2.2.1) ((R5 _ _ (by omega)).trans h.2.2.1) ((R5 _ _ (by omega)).trans h.1.2.2.2.2.1.1) (fun a k y => (I5 a k (by omega) (by omega) (by omega)).1)
    have hR5' : RCm (up D 316 2 (iI 0)) c5 s p := hR5.dat k9 up_sam (by unfold up; rw [if_neg (by omega)]) (by funext j; unfold up; rw [if_neg (by omega)]) (fun j => by unfold up; rw [if_neg (by omega)]) (fun j => by unfold up; rw [if_neg (by omega)])
    refine ⟨f', c5, m2, ?_, by rw [e2]; exact M198f h2 y, Or.inl ⟨h2.1, hR5'.fA (by rw [stq]; exact k9) gA, RT.fA ?_ hst gA⟩⟩
    · rw [run, sg_105_15, if_neg (by rw [iI_eq] <;> omega)]
    · have n2 : ((up D 316 2 (iI 0)) 316 2).toInt = 0 := by rw [e20]; rfl
      refine ⟨⟨by rw [n2]; omega, ⟨hs5, by rw [n2]; exact z5, fun k k0 k1 => by rw [n2] at k1; omega, kw5⟩, fun k k0 k1 => by rw [n2] at k1; omega⟩, hF5, ?_, (R5 _ _ (by omega)).trans g2, ?_, hE⟩
      · rw [e27, e18, stq]
        exact hN5
      · rw [R5 _ _ (by omega), ← hPe]; exact g4
end
