section
variable {D D' D2 : Nat → Nat → Int32} {E : Nat → Nat → Int64} {m m' c c' c'' : mm_M} {d s t p L : Nat} {n N M i f : Int} {T U : TK} {X X' X'' : Nat → Nat → Int32} {Y : Nat → Int64}
theorem pm_hi {a k : Nat} (h : pmI a k = true) : 316 ≤ a := by
  unfold pmI at h
  simp only [Bool.or_eq_true, Bool.and_eq_true] at h
  rcases h with (((((((h | h) | h) | h) | h) | h) | h) | h) | h
  · have := Nat.eq_of_beq_eq_true h.1; omega
  · have := Nat.eq_of_beq_eq_true h.1; omega
  · have := Nat.eq_of_beq_eq_true h.1; omega
  · have := Nat.eq_of_beq_eq_true h.1; omega
  · have := Nat.eq_of_beq_eq_true h.1; omega
  · have := Nat.eq_of_beq_eq_true h.1; omega
  · have := Nat.eq_of_beq_eq_true h; omega
  · have := Nat.eq_of_beq_eq_true h; omega
  · have := Nat.eq_of_beq_eq_true h.1; omega
theorem pl_hi {a : Nat} (h : pmL a = true) : 316 ≤ a := by
  unfold pmL at h
  simp only [Bool.or_eq_true] at h
  rcases h with h | h
  · have := Nat.eq_of_beq_eq_true h; omega
  · have := Nat.eq_of_beq_eq_true h; omega
theorem MD.hi (h : MD D E c) (hs : Sh c') (e : ∀ a k, 316 ≤ a → mm_gI c' a k = mm_gI c a k ∧ mm_gL c' a k = mm_gL c a k) : MD D E c' := ⟨hs, fun a k z => (e a k (pm_hi z)).1.trans (h.2.1 a k z), fun a k z => (e a k (pl_hi z)).2.trans (h.2.2 a k z)⟩
theorem Sh.sRw (hs : Sh c) {a k : Nat} {v : Option Nat} (h : mm_swp a k = true) : Sh (mm_sR c a k v) := ⟨hs.1, fun b j h0 h1 => by
  rw [gR_sR, if_neg]
  · exact hs.2 b j h0 h1
  · rintro ⟨rfl, rfl⟩
    rw [h] at h1
    cases h1⟩
theorem up_sam {v : Int32} : SamS D (up D 316 2 v) := sam_up (by omega) (by omega) (by omega)
/-- the model's street, from its tokens on, where the class has been before -/
theorem M163m (hM : MD D E c) (t0 : 0 ≤ (D 316 2).toInt) (t1 : (D 316 2).toInt ≤ 1000) (hx : ∀ k, 0 ≤ k → k < (D 316 2).toInt → 10 ≤ tx D k ∧ tx D k ≤ 126) (hT : TS (up D 316 2 (iI 0)) (D 316 2).toInt T N) (hd : 6 ≤ d) : ∃ m', mm_ev d 163 0 [some (.ref 316), none] [] c = mm_ev d 163 9 [some (.ref 316), none] [] m' ∧ PF (up D 316 2 (iI 0)) E T N 0 0 m' ∧ Fr scA c m' := by
  obtain ⟨U, K, hU, -, m', e, hP, g, -⟩ := M163h (d := d) hM t0 t1 hx hd
  refine ⟨m', ?_, PF.u hT hU hP, g⟩
  rw [sg_163_0 (by omega)]
  simp (disch := omega) only [shM hM.1, ↓reduceIte, not_false_eq_true, not_true_eq_false, and_self, and_true, true_and, false_and, and_false, or_true, true_or, or_false, false_or, or_self, reduceCtorEq, mm_q, Option.getD_some, cI_some, cJ_some, cV_some, cS_some, kd_sI, kd_sL, kd_sR, kd_cp, ln_sI, ln_sL, ln_sR, ln_cp, gR_sI, gR_sL, gR_sR, gR_cp, gL_sI, gL_sR, gL_cp, gI_sL, gI_sR, iI_add, iI_sub, iI_mul, iI_neg, iI_in, iI_tn, iI_lt, iI_eq, Nat.reduceLeDiff, Nat.reduceEqDiff, Nat.reduceAdd, Int.reduceEq, Int.reduceLT, Int.reduceLE, Int.reduceNeg, Int.reduceAdd, Int.reduceSub, Int.reduceMul, e]
/-- street, of both -/
theorem Tstreet (h : RCm D c s p) (hT : RT D E c s p) (hM : MD D E c) (k9 : st D 6 ≤ 8) (hd : 70 ≤ d) : ∃ f c1 c2, mm_ev d 101 0 [some (.ref 100), none, none] [] c = some (some (some (.int (iI f))), c1) ∧ mm_ev d 163 0 [some (.ref 316), none] [] c1 = some (some (some (.int (iI f))), c2) ∧ ((MD (up D 316 2 (iI 0)) E c2 ∧ RCm (up D 316 2 (iI 0)) c2 s p ∧ RT (up D 316 2 (iI 0)) E c2 s p) ∨ ∃ (X : Nat → Nat → Int32) (Y : Nat → Int64) (j : Int), LX X j ∧ MD (bgD (cmD (up D 316 2 (iI 0)) X)) (cmE E X Y) c2 ∧ RCm (bgD (cmD (up D 316 2 (iI 0)) X)) c2 (oS s) p ∧ RT (bgD (cmD (up D 316 2 (iI 0)) X)) (cmE E X Y) c2 (oS s) p) := by
  have hRT := hT
  obtain ⟨⟨⟨t0, t1⟩, hCX, hx⟩, hF, hN, g2, g4, hE⟩ := hT
  have hst := h.1.2.1
  have hst' : s = 104 ∨ s = 125 := hst
  have hp' : p = 146 ∨ p = 150 := h.2.1
  obtain ⟨q1, q2, q3, q4⟩ := oS_st hst
  obtain ⟨T, N, hTS, -, m0, -, hP0, -, -⟩ := M163h (d := d) hM t0 t1 hx (by omega)
  have hCX0 : CX (up D 316 2 (iI 0)) (D 316 2).toInt c := ⟨hCX.1, hCX.2.1, fun k k0 k1 => by rw [tx_up]; exact hCX.2.2.1 k k0 k1, hCX.2.2.2⟩
  obtain ⟨f', X', Y', sm, sc, sx⟩ := Sread (E := E) hTS hE q1
  obtain ⟨c1, e1, fs, dc, z3, hF1⟩ := sc c (d - 1) (by omega) hCX0 hF
  have fr : 0 ≤ f' ∧ f' < 20000 := by
    obtain ⟨m2, i2, -, hp2, -, -⟩ := sm m0 64 (by omega) hP0
    exact hp2.2.2.2.2.2
  have hs1 := fs.sh h.1.1
  have hR1 := h.fs k9 rfl fs
  have e20 : (up D 316 2 (iI 0)) 316 2 = iI 0 := by unfold up; rw [if_pos ⟨rfl, rfl⟩]
  have hR1' : RCm (up D 316 2 (iI 0)) c1 s p := hR1.dat k9 up_sam (by unfold up; rw [if_neg (by omega)]) (by funext j; unfold up; rw [if_neg (by omega)]) (fun j => by unfold up; rw [if_neg (by omega)]) (fun j => by unfold up; rw [if_neg (by omega)])
  have stq : st (up D 316 2 (iI 0)) = st D := by rw [st_o (by omega)]
  have kw1 : ∀ k, 0 ≤ k → k < 30 → mm_gL c1 103 k.toNat = kcL k := fun k k0 k1 => by
    have hq : oS s = 104 ∨ oS s = 125 := q1
    rw [(fs.2.2.2.2 103 k.toNat (scQs_n q1 (by omega) (by omega) (by omega)) (by omega)).2]
    exact hCX.2.2.2 k k0 k1
  have hi1 : ∀ a k, 316 ≤ a → mm_gI c1 a k = mm_gI c a k ∧ mm_gL c1 a k = mm_gL c a k := fun a k ha => by
    have hq : oS s = 104 ∨ oS s = 125 := q1
    exact fs.2.2.2.2 a k (scQs_n q1 (by omega) (by omega) (by omega)) (by omega)
  have run : mm_ev d 101 0 [some (.ref 100), none, none] [] c = mm_ev d 101 11 [some (.ref 100), none, none] [.int (iI f')] c1 := by
    rw [sg_101_0 (by omega)]
    simp (disch := omega) only [shX h.1.1, shP h.1.1, ↓reduceIte, not_false_eq_true, not_true_eq_false, and_self, and_true, true_and, false_and, and_false, or_true, true_or, or_false, false_or, or_self, reduceCtorEq, mm_q, Option.getD_some, cI_some, cJ_some, cV_some, cS_some, kd_sI, kd_sL, kd_sR, kd_cp, ln_sI, ln_sL, ln_sR, ln_cp, gR_sI, gR_sL, gR_sR, gR_cp, gL_sI, gL_sR, gL_cp, gI_sL, gI_sR, iI_add, iI_sub, iI_mul, iI_neg, iI_in, iI_tn, iI_lt, iI_eq, Nat.reduceLeDiff, Nat.reduceEqDiff, Nat.reduceAdd, Int.reduceEq, Int.reduceLT, Int.reduceLE, Int.reduceNeg, Int.reduceAdd, Int.reduceSub, Int.reduceMul, g2, e1]
  by_cases y : f' = 0
  · subst y
    obtain ⟨j, hX, hj⟩ := sx rfl
    have DC1 := dc rfl
    have hs2 : Sh (mm_sR (mm_sR c1 100 1 (some (oS s))) 100 2 (some s)) := (hs1.sRw (by decide)).sRw (by decide)
    have ga : mm_gR (mm_sR (mm_sR c1 100 1 (some (oS s))) 100 2 (some s)) 100 1 = some (oS s) := by rw [gR_sR, if_neg (by omega), gR_sR, if_pos ⟨rfl, rfl⟩]
    have gb : mm_gR (mm_sR (mm_sR c1 100 1 (some (oS s))) 100 2 (some s)) 100 3 = some p := by rw [gR_sR, if_neg (by omega), gR_sR, if_neg (by omega)]; exact hR1.2.2.1
    obtain ⟨c3, e3, R3, u1, u2, u3, u4, u5⟩ := C102 (d := d - 1) (D := up D 316 2 (iI 0)) (X := X') (c := mm_sR (mm_sR c1 100 1 (some (oS s))) 100 2 (some s)) hs2 q1 h.2.1 ga gb DC1.1 hX hR1'.2.2.2.2.1 (by omega)
    have hM3 : MD D E c3 := hM.hi R3.1.1 (fun a k ha => ⟨((u5 a k ha).1).trans (hi1 a k ha).1, ((u5 a k ha).2).trans (hi1 a k ha).2⟩)
    obtain ⟨m1, e4, hP1, g1⟩ := M163m (d := d) hM3 t0 t1 hx hTS (by omega)
    obtain ⟨m2, i2, e5, hP2, dm, g5⟩ := sm m1 d (by omega) hP1
    obtain ⟨m3, e6, hM6, g6⟩ := M163k (d := d) hP2 (dm rfl) hX hj (by omega)
    have k9' : st (bgD (cmD (up D 316 2 (iI 0)) X')) 6 ≤ 8 := by rw [bc_st (by omega) (by omega)]; exact hX.1.2.2.2.2.2.1.2
    have gA : Fr scA c3 m3 := (g1.tr g5.MA).tr g6
    refine ⟨0, c3, m3, ?_, ?_, Or.inr ⟨X', Y', j, hX, hM6, R3.fA k9' gA, RT.fA ?_ q1 gA⟩⟩
    · rw [run, sg_101_11 (by omega)]
      have gc1 : mm_gR c1 100 1 = some s := hR1.1.2.2.1
      have gc2 : mm_gR c1 100 2 = some (oS s) := (fs.2.2.1 _ _ (by omega)).trans g2
      have kd : mm_kd c1 100 = 11 := hs1.kd (by decide)
      have qa : mm_q c1 100 2 = oS s := by unfold mm_q; rw [gc2]; rfl
      have qb : mm_q c1 100 1 = s := by unfold mm_q; rw [gc1]; rfl
      rw [if_pos rfl, if_pos ⟨kd, by rw [gc1]; simp⟩, if_pos ⟨kd, by rw [gc2]; simp⟩, if_pos kd, qa, qb]
      show (if mm_kd (mm_sR c1 100 1 (some (oS s))) 100 = 11 then _ else none) = _
      rw [if_pos (show mm_kd (mm_sR c1 100 1 (some (oS s))) 100 = 11 from kd)]
      show (if mm_kd (mm_sR (mm_sR c1 100 1 (some (oS s))) 100 2 (some s)) 100 = 11 then _ else none) = _
      rw [if_pos (show mm_kd (mm_sR (mm_sR c1 100 1 (some (oS s))) 100 2 (some s)) 100 = 11 from kd), e3]
      rfl
    · rw [e4, e5, e6]
    · have hq : oS s = 104 ∨ oS s = 125 := q1
      have n2 : (bgD (cmD (up D 316 2 (iI 0)) X') 316 2).toInt = 0 := by rw [bc_o (Or.inr ⟨rfl, rfl⟩), e20]; rfl
      have b6 := hX.1.2.2.2.2.2.1
      refine ⟨⟨by rw [n2]; omega, ⟨R3.1.1, ?_, fun k k0 k1 => by rw [n2] at k1; omega, fun k k0 k1 => ?_⟩, fun k k0 k1 => by rw [n2] at k1; omega⟩, fun q hq' => ?_, ?_, ?_, ?_, fun k k0 k1 => ?_⟩
      · rw [n2, (u4 101 3 (by omega) (by omega) (by omega) (by omega) (by omega)).1]; exact z3
      · rw [(u4 103 _ (by omega) (by omega) (by omega) (by omega) (by omega)).2]; exact kw1 k k0 k1
      · have hq'' : q = 104 ∨ q = 125 := hq'
        obtain ⟨w1, w2, w3, w4⟩ := hF1 q hq'
        exact ⟨(u4 _ _ (by omega) (by omega) (by omega) (by omega) (by omega)).2.trans w1, (u4 _ _ (by omega) (by omega) (by omega) (by omega) (by omega)).2.trans w2, (u4 _ _ (by omega) (by omega) (by omega) (by omega) (by omega)).2.trans w3, (u4 _ _ (by omega) (by omega) (by omega) (by omega) (by omega)).2.trans w4⟩
      · rw [bc_18, bc_st (by omega) (by omega), bc_st (by omega) (by omega)]
        have hN1 : NR Y' (X' 327) (rmX X') (st X' 5) (st X' 6) (oS s) c3 := by
          obtain ⟨v1, v2, v3, v4, v5, v6, v7⟩ := DC1.2.2.2.2
          refine ⟨v1, v2, v3, fun j hj => ?_, v5, v6, v7⟩
          rcases v4 j hj with ⟨r1, r2, r3⟩ | ⟨r1, r2, r3⟩
          · exact Or.inl ⟨r1, r2, by rw [(u4 _ _ (by omega) (by omega) (by omega) (by omega) (by omega)).2]; exact r3⟩
          · exact Or.inr ⟨r1, r2, by rw [(u4 _ _ (by omega) (by omega) (by omega) (by omega) (by omega)).2]; exact r3⟩
        exact hN1.cgY (fun k hk => ⟨by unfold cmE; rw [if_pos ⟨rfl, hk⟩], bc_27 hk⟩)
      · rw [u3 _ _ (by omega), gR_sR, if_pos ⟨rfl, rfl⟩, q4]
      · rw [u3 _ _ (by omega), gR_sR, if_neg (by omega), gR_sR, if_neg (by omega), fs.2.2.1 _ _ (by omega)]; exact g4
      · unfold cmE; rw [if_neg (by omega)]; exact hE k k0 k1
  · have hM1 : MD D E c1 := hM.hi hs1 hi1
    obtain ⟨m1, e4, hP1, g1⟩ := M163m (d := d) hM1 t0 t1 hx hTS (by omega)
    obtain ⟨m2, i2, e5, hP2, dm, g5⟩ := sm m1 d (by omega) hP1
    have gA : Fr scA c1 m2 := g1.tr g5.MA
    refine ⟨f', c1, m2, ?_, ?_, Or.inl ⟨hP2.1, hR1'.fA (by rw [stq]; exact k9) gA, RT.fA ?_ hst gA⟩⟩
    · rw [run, sg_101_11 (by omega), if_neg (by rw [iI_eq] <;> omega)]
    · rw [e4, e5, sg_163_171]
      simp (disch := omega) only [shM hP2.1.1, ↓reduceIte, not_false_eq_true, not_true_eq_false, and_self, and_true, true_and, false_and, and_false, or_true, true_or, or_false, false_or, or_self, reduceCtorEq, mm_q, Option.getD_some, cI_some, cJ_some, cV_some, cS_some, kd_sI, kd_sL, kd_sR, kd_cp, ln_sI, ln_sL, ln_sR, ln_cp, gR_sI, gR_sL, gR_sR, gR_cp, gL_sI, gL_sR, gL_cp, gI_sL, gI_sR, iI_add, iI_sub, iI_mul, iI_neg, iI_in, iI_tn, iI_lt, iI_eq, Nat.reduceLeDiff, Nat.reduceEqDiff, Nat.reduceAdd, Int.reduceEq, Int.reduceLT, Int.reduceLE, Int.reduceNeg, Int.reduceAdd, Int.reduceSub, Int.reduceMul, hP2.2.2.2.1, show 0 < f' by omega]
    · have n2 : ((up D 316 2 (iI 0)) 316 2).toInt = 0 := by rw [e20]; rfl
      refine ⟨⟨by rw [n2]; omega, ⟨hs1, by rw [n2]; exact z3, fun k k0 k1 => by rw [n2] at k1; omega, kw1⟩, fun k k0 k1 => by rw [n2] at k1; omega⟩, hF1, ?_, (fs.2.2.1 _ _ (by omega)).trans g2, (fs.2.2.1 _ _ (by omega)).trans g4, hE⟩
      have e27 : (up D 316 2 (iI 0)) 327 = D 327 := by funext k; unfold up; rw [if_neg (by omega)]
      have e18 : (up D 316 2 (iI 0)) 316 18 = D 316 18 := by unfold up; rw [if_neg (by omega)]
      rw [e27, e18, stq]
      exact hN.fs hst rfl fs
end
