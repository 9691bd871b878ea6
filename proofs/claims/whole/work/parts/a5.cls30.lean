section
variable {D : Nat → Nat → Int32} {m m' m'' : mm_M} {d s : Nat}
/-- all sights' next ones -/
theorem C4k (hPP : InvP D) (hd : 21 ≤ d) {M : Int} (M0 : 0 ≤ M) (M1 : M ≤ 10) : ∀ (r : Nat) (k : Int) (nx : Int → Int) (fr : Int32) (fd : Int) (z7 z8 : Option Value) (m : mm_M), k = sa D 46 - r → 0 ≤ k → NxO nx (sa D 46) k → FrE nx (sa D 46) k fr → fd = cntGo (fun j => decide (0 ≤ nx j)) k.toNat 0 0 → Sh m → FBt D m → (∀ j, 0 ≤ j → j < k → mm_gI m 211 j.toNat = iI (nx j)) → ∃ m', mm_ev d 4 59 [some (.ref 195), some (.ref 163), some (.ref s), some (.int fr), (some (.int (iI (M)))), (some (.int (iI (fd)))), (some (.int (iI (k)))), z7, z8] [] m = some (some (some (.int (iI M))), m') ∧ Fr scNx m m' ∧ ∀ j, 0 ≤ j → j < sa D 46 → mm_gI m' 211 j.toNat = iI (layK D (sa D 46) M r k nx j)
  | 0, k, nx, fr, fd, z7, z8, m, hk, k0, hn, hf, hfd, hs, hF, hx => by
    obtain ⟨n0, n1⟩ := hPP.1
    refine ⟨m, ?_, Fr.rf, fun j j0 j1 => hx j j0 (by omega)⟩
    rw [sg_4_59]
    simp (disch := omega) only [shF hs, ↓reduceIte, not_false_eq_true, not_true_eq_false, and_self, and_true, true_and, false_and, and_false, or_true, true_or, or_false, false_or, or_self, reduceCtorEq, mm_q, Option.getD_some, cI_some, cJ_some, cV_some, cS_some, kd_sI, kd_sL, kd_sR, kd_cp, ln_sI, ln_sL, ln_sR, ln_cp, gR_sI, gR_sL, gR_sR, gR_cp, gL_sI, gL_sR, gL_cp, gI_sL, gI_sR, iI_add, iI_sub, iI_mul, iI_neg, iI_in, iI_tn, iI_lt, iI_eq, Nat.reduceLeDiff, Nat.reduceEqDiff, Nat.reduceAdd, Int.reduceEq, Int.reduceLT, Int.reduceLE, Int.reduceNeg, Int.reduceAdd, Int.reduceSub, Int.reduceMul, hF.1, show ¬ k < sa D 46 by omega]
  | r + 1, k, nx, fr, fd, z7, z8, m, hk, k0, hn, hf, hfd, hs, hF, hx => by
    obtain ⟨n0, n1⟩ := hPP.1
    have k1 : k < sa D 46 := by omega
    have fc := cntGo_r (fun j => decide (0 ≤ nx j)) k.toNat 0 0
    have g0 : Fr scNx m (mm_sI m 211 k.toNat (iI (-1))) := Fr.sI rfl
    obtain ⟨m1, y7, y8, r1, g1, o1, v1, q1, w1⟩ := C4e (s := s) hPP hd k0 k1 hn hf hfd M0 M1 (sa D 46).toNat 0 nx z8 (mm_sI m 211 k.toNat (iI (-1))) (by omega) (by omega) (fun _ _ => rfl) (g0.sh hs) (hF.n g0) (by rw [gI_sI, if_pos ⟨rfl, rfl⟩])
    have F := g0.tr g1
    have hs1 := F.sh hs
    have hF1 := hF.n F
    rw [layK]
    generalize layE D (sa D 46) M k (sa D 46).toNat 0 (false, nx) = L at v1 q1 w1 ⊢
    have run1 : mm_ev d 4 59 [some (.ref 195), some (.ref 163), some (.ref s), some (.int fr), (some (.int (iI (M)))), (some (.int (iI (fd)))), (some (.int (iI (k)))), z7, z8] [] m = mm_ev d 4 169 [some (.ref 195), some (.ref 163), some (.ref s), some (.int fr), (some (.int (iI (M)))), (some (.int (iI (fd)))), (some (.int (iI (k)))), some (.int y7), y8] [] m1 := by
      rw [← r1, sg_4_59]
      simp (disch := omega) only [shF hs, ↓reduceIte, not_false_eq_true, not_true_eq_false, and_self, and_true, true_and, false_and, and_false, or_true, true_or, or_false, false_or, or_self, reduceCtorEq, mm_q, Option.getD_some, cI_some, cJ_some, cV_some, cS_some, kd_sI, kd_sL, kd_sR, kd_cp, ln_sI, ln_sL, ln_sR, ln_cp, gR_sI, gR_sL, gR_sR, gR_cp, gL_sI, gL_sR, gL_cp, gI_sL, gI_sR, iI_add, iI_sub, iI_mul, iI_neg, iI_in, iI_tn, iI_lt, iI_eq, Nat.reduceLeDiff, Nat.reduceEqDiff, Nat.reduceAdd, Int.reduceEq, Int.reduceLT, Int.reduceLE, Int.reduceNeg, Int.reduceAdd, Int.reduceSub, Int.reduceMul, hF.1, k1]
    have old : ∀ j, 0 ≤ j → j < k → mm_gI m1 211 j.toNat = iI (nx j) := fun j j0 j1 => by
      rw [o1 _ (by omega), gI_sI, if_neg (by omega)]
      exact hx j j0 j1
    cases z1 : L.1
    · rw [z1, if_neg (show ¬ (false = true) by decide)] at v1
      rw [if_neg (show ¬ (false = true) by decide)]
      have uk : updB L.2 k (-1) k = -1 := if_pos rfl
      have uo : ∀ j, ¬ j = k → updB L.2 k (-1) j = nx j := fun j y => (if_neg y).trans (q1 j y)
      have an : ∀ j, 0 ≤ j → anyB (fun i => decide (updB L.2 k (-1) i = j)) (k + 1).toNat 0 = anyB (fun i => decide (nx i = j)) k.toNat 0 := fun j j0 => by
        apply Bool.eq_iff_iff.mpr
        rw [any_t, any_t]
        constructor
        · rintro ⟨i, i0, i1, q⟩
          have q := of_decide_eq_true q
          by_cases y : i = k
          · rw [y, uk] at q; omega
          · rw [uo i y] at q; exact ⟨i, i0, by omega, decide_eq_true q⟩
        · rintro ⟨i, i0, i1, q⟩
          exact ⟨i, i0, by omega, by rw [uo i (by omega)]; exact q⟩
      obtain ⟨m', e', g', x'⟩ := C4k hPP hd M0 M1 r (k + 1) (updB L.2 k (-1)) fr fd (some (.int y7)) y8 m1 (by omega) (by omega) ⟨fun j j0 j1 => by
          by_cases y : j = k
          · rw [y, uk]; left; rfl
          · rw [uo j y]; exact hn.1 j j0 (by omega), fun i j i0 i1 j0 j1 p q => by
          by_cases yi : i = k
          · rw [yi, uk] at p; omega
          · by_cases yj : j = k
            · rw [yj, uk] at q; omega
            · rw [uo i yi] at p q
              rw [uo j yj] at q
              exact hn.2.1 i j i0 (by omega) j0 (by omega) p q, fun j j0 j1 => by rw [uo j (by omega)]; exact hn.2.2 j (by omega) j1⟩ (fun j j0 j1 => by rw [an j j0]; exact hf j j0 j1) (by
          rw [hfd, show (k + 1).toNat = k.toNat + 1 by omega, cntGo_sp]
          rw [cntGo_c (f := fun j => decide (0 ≤ updB L.2 k (-1) j)) (g := fun j => decide (0 ≤ nx j)) k.toNat 0 (fun i i0 i1 => by rw [uo i (by omega)])]
          have : cntGo (fun j => decide (0 ≤ updB L.2 k (-1) j)) 1 (0 + (k.toNat : Int)) 0 = 0 := by
            rw [show (0 : Int) + (k.toNat : Int) = k by omega]
            simp [cntGo, uk]
          omega) hs1 hF1 (fun j j0 j1 => by
          by_cases y : j = k
          · rw [y, uk]; exact v1
          · rw [uo j y]; exact old j j0 (by omega))
      refine ⟨m', ?_, F.tr g', x'⟩
      rw [← e', run1, sg_4_169]
      simp (disch := omega) only [shF hs1, ↓reduceIte, not_false_eq_true, not_true_eq_false, and_self, and_true, true_and, false_and, and_false, or_true, true_or, or_false, false_or, or_self, reduceCtorEq, mm_q, Option.getD_some, cI_some, cJ_some, cV_some, cS_some, kd_sI, kd_sL, kd_sR, kd_cp, ln_sI, ln_sL, ln_sR, ln_cp, gR_sI, gR_sL, gR_sR, gR_cp, gL_sI, gL_sR, gL_cp, gI_sL, gI_sR, iI_add, iI_sub, iI_mul, iI_neg, iI_in, iI_tn, iI_lt, iI_eq, Nat.reduceLeDiff, Nat.reduceEqDiff, Nat.reduceAdd, Int.reduceEq, Int.reduceLT, Int.reduceLE, Int.reduceNeg, Int.reduceAdd, Int.reduceSub, Int.reduceMul, v1]
      rw [sg_4_197]
      simp (disch := omega) only [↓reduceIte, not_false_eq_true, not_true_eq_false, and_self, and_true, true_and, false_and, and_false, or_true, true_or, or_false, false_or, or_self, reduceCtorEq, mm_q, Option.getD_some, cI_some, cJ_some, cV_some, cS_some, kd_sI, kd_sL, kd_sR, kd_cp, ln_sI, ln_sL, ln_sR, ln_cp, gR_sI, gR_sL, gR_sR, gR_cp, gL_sI, gL_sR, gL_cp, gI_sL, gI_sR, iI_add, iI_sub, iI_mul, iI_neg, iI_in, iI_tn, iI_lt, iI_eq, Nat.reduceLeDiff, Nat.reduceEqDiff, Nat.reduceAdd, Int.reduceEq, Int.reduceLT, Int.reduceLE, Int.reduceNeg, Int.reduceAdd, Int.reduceSub, Int.reduceMul]
    · rw [z1, if_pos (show true = true from rfl)] at v1
      rw [if_pos (show true = true from rfl)]
      obtain ⟨v0, v2, v3⟩ := w1 z1
      generalize hv : L.2 k = v at v0 v1 v2 v3 ⊢
      have nv : ∀ i, 0 ≤ i → i < k → ¬ nx i = v := fun i i0 i1 q => by
        have : anyB (fun i => decide (nx i = v)) k.toNat 0 = true := (any_t _ _).mpr ⟨i, i0, by omega, decide_eq_true q⟩
        rw [v3] at this
        cases this
      have uk : updB L.2 k v k = v := if_pos rfl
      have uo : ∀ j, ¬ j = k → updB L.2 k v j = nx j := fun j y => (if_neg y).trans (q1 j y)
      have an : ∀ j, 0 ≤ j → anyB (fun i => decide (updB L.2 k v i = j)) (k + 1).toNat 0 = (anyB (fun i => decide (nx i = j)) k.toNat 0 || decide (j = v)) := fun j j0 => by
        apply Bool.eq_iff_iff.mpr
        rw [Bool.or_eq_true, any_t, any_t, decide_eq_true_eq]
        constructor
        · rintro ⟨i, i0, i1, q⟩
          have q := of_decide_eq_true q
          by_cases y : i = k
          · rw [y, uk] at q; right; exact q.symm
          · rw [uo i y] at q; left; exact ⟨i, i0, by omega, decide_eq_true q⟩
        · rintro (⟨i, i0, i1, q⟩ | q)
          · exact ⟨i, i0, by omega, by rw [uo i (by omega)]; exact q⟩
          · exact ⟨k, k0, by omega, by rw [uk]; exact decide_eq_true q.symm⟩
      obtain ⟨m', e', g', x'⟩ := C4k hPP hd M0 M1 r (k + 1) (updB L.2 k v) (fr &&& (iShl (iI 1) (iI v) ^^^ iI (-1))) (fd + 1) (some (.int y7)) y8 m1 (by omega) (by omega) ⟨fun j j0 j1 => by
          by_cases y : j = k
          · rw [y, uk]; right; exact ⟨v0, v2⟩
          · rw [uo j y]; exact hn.1 j j0 (by omega), fun i j i0 i1 j0 j1 p q => by
          by_cases yi : i = k
          · by_cases yj : j = k
            · omega
            · rw [yi, uk, uo j yj] at q
              exact absurd q.symm (nv j j0 (by omega))
          · by_cases yj : j = k
            · rw [yj, uk, uo i yi] at q
              exact absurd q (nv i i0 (by omega))
            · rw [uo i yi] at p q
              rw [uo j yj] at q
              exact hn.2.1 i j i0 (by omega) j0 (by omega) p q, fun j j0 j1 => by rw [uo j (by omega)]; exact hn.2.2 j (by omega) j1⟩ (fun j j0 j1 => by
          rw [an j j0, bi_and, bi_not j0 (by omega), bi_shl v0 (by omega) j0 (by omega), hf j j0 j1]
          cases decide (j < sa D 46) <;> cases anyB (fun i => decide (nx i = j)) k.toNat 0 <;> cases decide (j = v) <;> rfl) (by
          rw [hfd, show (k + 1).toNat = k.toNat + 1 by omega, cntGo_sp]
          rw [cntGo_c (f := fun j => decide (0 ≤ updB L.2 k v j)) (g := fun j => decide (0 ≤ nx j)) k.toNat 0 (fun i i0 i1 => by rw [uo i (by omega)])]
          have : cntGo (fun j => decide (0 ≤ updB L.2 k v j)) 1 (0 + (k.toNat : Int)) 0 = 1 := by
            rw [show (0 : Int) + (k.toNat : Int) = k by omega]
            simp [cntGo, uk, v0]
          omega) hs1 hF1 (fun j j0 j1 => by
          by_cases y : j = k
          · rw [y, uk]; exact v1
          · rw [uo j y]; exact old j j0 (by omega))
      refine ⟨m', ?_, F.tr g', x'⟩
      rw [← e', run1, sg_4_169]
      simp (disch := omega) only [shF hs1, ↓reduceIte, not_false_eq_true, not_true_eq_false, and_self, and_true, true_and, false_and, and_false, or_true, true_or, or_false, false_or, or_self, reduceCtorEq, mm_q, Option.getD_some, cI_some, cJ_some, cV_some, cS_some, kd_sI, kd_sL, kd_sR, kd_cp, ln_sI, ln_sL, ln_sR, ln_cp, gR_sI, gR_sL, gR_sR, gR_cp, gL_sI, gL_sR, gL_cp, gI_sL, gI_sR, iI_add, iI_sub, iI_mul, iI_neg, iI_in, iI_tn, iI_lt, iI_eq, Nat.reduceLeDiff, Nat.reduceEqDiff, Nat.reduceAdd, Int.reduceEq, Int.reduceLT, Int.reduceLE, Int.reduceNeg, Int.reduceAdd, Int.reduceSub, Int.reduceMul, v1, show ¬ v = -1 by omega]
      rw [sg_4_197]
      simp (disch := omega) only [↓reduceIte, not_false_eq_true, not_true_eq_false, and_self, and_true, true_and, false_and, and_false, or_true, true_or, or_false, false_or, or_self, reduceCtorEq, mm_q, Option.getD_some, cI_some, cJ_some, cV_some, cS_some, kd_sI, kd_sL, kd_sR, kd_cp, ln_sI, ln_sL, ln_sR, ln_cp, gR_sI, gR_sL, gR_sR, gR_cp, gL_sI, gL_sR, gL_cp, gI_sL, gI_sR, iI_add, iI_sub, iI_mul, iI_neg, iI_in, iI_tn, iI_lt, iI_eq, Nat.reduceLeDiff, Nat.reduceEqDiff, Nat.reduceAdd, Int.reduceEq, Int.reduceLT, Int.reduceLE, Int.reduceNeg, Int.reduceAdd, Int.reduceSub, Int.reduceMul]
theorem bits_lt : ∀ n : Fin 11, ∀ j : Fin 10, bi (iShl (iI 1) (iI (n.val : Int)) - iI 1) (j.val : Int) = decide (j.val < n.val) := by decide +kernel
def scHh (a k : Nat) : Bool := (Nat.beq a 195 && Nat.ble 3 k) || (Nat.ble 209 a && Nat.ble a 211)
theorem Fr.hhC (h : Fr scHh m m') : FC m m' := (h.mono (fun a k z => by
  cases e : scHh a k
  · rfl
  · unfold scHh at e
    rw [Bool.or_eq_true, Bool.and_eq_true, Bool.and_eq_true, Nat.ble_eq, Nat.ble_eq, Nat.ble_eq] at e
    have : Nat.ble 178 a = true ∧ Nat.ble a 211 = true := by
      rcases e with e | e
      · have := Nat.eq_of_beq_eq_true e.1
        rw [Nat.ble_eq, Nat.ble_eq]
        omega
      · rw [Nat.ble_eq, Nat.ble_eq]
        omega
    unfold scC at z
    rw [this.1, this.2] at z
    simp at z)).C
theorem Fr.nHh (h : Fr scNx m m') : Fr scHh m m' := h.mono (fun a k z => by
  unfold scHh at z
  rw [Bool.or_eq_false_iff] at z
  cases e : scNx a k
  · rfl
  · exfalso
    unfold scNx scV at e
    rw [Bool.or_eq_true, Bool.or_eq_true, Bool.and_eq_true] at e
    rcases e with e | e | e
    · have := Nat.eq_of_beq_eq_true e
      rw [this] at z
      exact absurd z.2 (by decide)
    · have := Nat.eq_of_beq_eq_true e
      rw [this] at z
      exact absurd z.2 (by decide)
    · have a1 := Nat.eq_of_beq_eq_true e.1
      have a2 := Nat.eq_of_beq_eq_true e.2
      rw [a1, a2] at z
      exact absurd z.1 (by decide))
/-- findNext -/
theorem C4 (hs : Sh m) (hst : isSt s) (hR : RSt D m s) (hP : RP D m) (hI : InvS D) (hPP : InvP D) (hd : 22 ≤ d) : ∃ m', mm_ev d 4 0 [some (.ref 195), some (.ref 163), some (.ref s), none, none, none, none, none, none] [] m = some (some (some (.int (iI (matN (edgeS D (fun _ => -2)) (sa D 46))))), m') ∧ Fr scHh m m' ∧ ∀ j, 0 ≤ j → j < sa D 46 → mm_gI m' 211 j.toNat = iI (layK D (sa D 46) (matN (edgeS D (fun _ => -2)) (sa D 46)) (sa D 46).toNat 0 (fun _ => -2) j) := by
  obtain ⟨n0, n1⟩ := hPP.1
  have hst' : s = 104 ∨ s = 125 := hst
  have e3 := hP.e.2.1
  have g0 : Fr scHh m (mm_sI m 195 3 (iI (sa D 46))) := Fr.sI rfl
  have o0 : ∀ a j, ¬ a = 195 → mm_gI (mm_sI m 195 3 (iI (sa D 46))) a j = mm_gI m a j := fun a j y => by rw [gI_sI, if_neg (by omega)]
  obtain ⟨m1, e1, f1, hF1, hR1, hP1⟩ := C4r (d := d) (s := s) hst hI hPP (by omega) (sa D 46).toNat 0 (mm_sI m 195 3 (iI (sa D 46))) (by omega) (by omega) (g0.sh hs) (hR.cg (fun a j a0 a1 _ _ => o0 a j (by omega)) hI.2.2.2.2.2.1.2) (hP.ch (fun _ _ _ => rfl) (fun a j a0 a1 _ => o0 a j (by omega))) (by rw [gI_sI, if_pos ⟨rfl, rfl⟩]) (fun i i0 i1 => by omega)
  have g1 : Fr scHh m m1 := g0.tr (f1.mono (fun a k z => by
    cases e : sc209 a k
    · rfl
    · have := Nat.eq_of_beq_eq_true e
      rw [this] at z
      unfold scHh at z
      rw [Bool.or_eq_false_iff] at z
      exact absurd z.2 (by decide)))
  have hs1 := g1.sh hs
  have fb : ∀ j, 0 ≤ j → j < 10 → bi (iShl (iI 1) (iI (sa D 46)) - iI 1) j = decide (j < sa D 46) := fun j j0 j1 => by
    have := bits_lt ⟨(sa D 46).toNat, by omega⟩ ⟨j.toNat, by omega⟩
    simp only at this
    rw [show (((sa D 46).toNat : Nat) : Int) = sa D 46 by omega, show ((j.toNat : Nat) : Int) = j by omega] at this
    rw [this]
    by_cases y : j < sa D 46
    · rw [decide_eq_true y, decide_eq_true (by omega)]
    · rw [decide_eq_false y, decide_eq_false (by omega)]
  obtain ⟨m2, e2, f2⟩ := C7 (d := d - 1) (k := 0) (y := iShl (iI 1) (iI (sa D 46)) - iI 1) (A := fun j => bi ((iShl (iI 1) (iI (sa D 46)) - iI 1) ^^^ iI (-1)) j) hPP (fun _ _ _ => rfl) (by omega) (by omega) n0 hs1 hF1 (fun j j0 j1 => ⟨by simp only; omega, by simp only; omega⟩)
  have tm := (matA_max (ed := canF D) (A := fun j => bi ((iShl (iI 1) (iI (sa D 46)) - iI 1) ^^^ iI (-1)) j) n0 n1 (fr := 0) (by omega) (by omega)).cg (A' := fun _ => false) (fun r r0 r1 => by
    show bi ((iShl (iI 1) (iI (sa D 46)) - iI 1) ^^^ iI (-1)) r = false
    rw [bi_not r0 (by omega), fb r r0 (by omega), decide_eq_true r1]
    rfl)
  have tn := matN_max (ed := edgeS D (fun _ => -2)) n0 n1
  have te := max_u tm tn (fun l h => h) (fun l r _ _ _ => ⟨rfl, by unfold edgeS; rw [if_pos rfl]⟩)
  have mr := tn.r n0
  rw [te] at e2
  generalize matN (edgeS D (fun _ => -2)) (sa D 46) = M at e2 mr ⊢
  have g2 := g1.tr f2.VNx.nHh
  obtain ⟨m3, e3', f3, x3⟩ := C4k (d := d) (s := s) hPP (by omega) mr.1 (by omega) (sa D 46).toNat 0 (fun _ => -2) (iShl (iI 1) (iI (sa D 46)) - iI 1) 0 none none m2 (by omega) (by omega) ⟨fun j j0 j1 => by omega, fun i j i0 i1 => by omega, fun _ _ _ => rfl⟩ (fun j j0 j1 => by
    rw [fb j j0 j1]
    show _ = (decide (j < sa D 46) && !false)
    rw [Bool.not_false, Bool.and_true]) rfl (g2.sh hs) (hF1.f f2) (fun j j0 j1 => by omega)
  refine ⟨m3, ?_, g2.tr f3.nHh, x3⟩
  rw [← e3', sg_4_0]
  simp (disch := omega) only [shF hs, shP hs, ↓reduceIte, not_false_eq_true, not_true_eq_false, and_self, and_true, true_and, false_and, and_false, or_true, true_or, or_false, false_or, or_self, reduceCtorEq, mm_q, Option.getD_some, cI_some, cJ_some, cV_some, cS_some, kd_sI, kd_sL, kd_sR, kd_cp, ln_sI, ln_sL, ln_sR, ln_cp, gR_sI, gR_sL, gR_sR, gR_cp, gL_sI, gL_sR, gL_cp, gI_sL, gI_sR, iI_add, iI_sub, iI_mul, iI_neg, iI_in, iI_tn, iI_lt, iI_eq, Nat.reduceLeDiff, Nat.reduceEqDiff, Nat.reduceAdd, Int.reduceEq, Int.reduceLT, Int.reduceLE, Int.reduceNeg, Int.reduceAdd, Int.reduceSub, Int.reduceMul, e3]
  rw [e1, sg_4_10 (by omega)]
  simp (disch := omega) only [shF hs1, ↓reduceIte, not_false_eq_true, not_true_eq_false, and_self, and_true, true_and, false_and, and_false, or_true, true_or, or_false, false_or, or_self, reduceCtorEq, mm_q, Option.getD_some, cI_some, cJ_some, cV_some, cS_some, kd_sI, kd_sL, kd_sR, kd_cp, ln_sI, ln_sL, ln_sR, ln_cp, gR_sI, gR_sL, gR_sR, gR_cp, gL_sI, gL_sR, gL_cp, gI_sL, gI_sR, iI_add, iI_sub, iI_mul, iI_neg, iI_in, iI_tn, iI_lt, iI_eq, Nat.reduceLeDiff, Nat.reduceEqDiff, Nat.reduceAdd, Int.reduceEq, Int.reduceLT, Int.reduceLE, Int.reduceNeg, Int.reduceAdd, Int.reduceSub, Int.reduceMul, hF1.1, show ¬ sa D 46 < sa D 46 by omega, e2]
/-- hired -/
theorem C148 {p : Nat} (h : RCm D m s p) (hI : InvS D) (hPP : InvP D) (hd : 23 ≤ d) {x : Int} (x_0 : -2147483648 ≤ x) (x_1 : x < 2147483648) : ∃ m', mm_ev d 148 0 [some (.ref 100), (some (.int (iI (x)))), none] [] m = some (some (some (.int (iI (hiredS D x)))), m') ∧ FC m m' := by
  obtain ⟨n0, n1⟩ := hPP.1
  obtain ⟨⟨hs, hst, hg, hR, hW, hH, h0⟩, hp, hgp, hN, hP, hU, hM⟩ := h
  have e3 := hP.e.2.1
  obtain ⟨m1, e1, f1, x1⟩ := C4 (d := d - 1) hs hst hR hP hI hPP (by omega)
  have hs1 := f1.sh hs
  have e31 : mm_gI m1 163 3 = iI (sa D 46) := (f1.gI rfl).trans e3
  have mr := (matN_max (ed := edgeS D (fun _ => -2)) n0 n1).r n0
  by_cases y0 : x < -1
  · refine ⟨m, ?_, FC.rf⟩
    rw [show hiredS D x = -2 by unfold hiredS; rw [if_neg (fun w => by have := inB_t.mp w; omega)], sg_148_0 (by omega)]
    simp (disch := omega) only [↓reduceIte, not_false_eq_true, not_true_eq_false, and_self, and_true, true_and, false_and, and_false, or_true, true_or, or_false, false_or, or_self, reduceCtorEq, mm_q, Option.getD_some, cI_some, cJ_some, cV_some, cS_some, kd_sI, kd_sL, kd_sR, kd_cp, ln_sI, ln_sL, ln_sR, ln_cp, gR_sI, gR_sL, gR_sR, gR_cp, gL_sI, gL_sR, gL_cp, gI_sL, gI_sR, iI_add, iI_sub, iI_mul, iI_neg, iI_in, iI_tn, iI_lt, iI_eq, Nat.reduceLeDiff, Nat.reduceEqDiff, Nat.reduceAdd, Int.reduceEq, Int.reduceLT, Int.reduceLE, Int.reduceNeg, Int.reduceAdd, Int.reduceSub, Int.reduceMul, y0]
  · by_cases y1 : x < sa D 46
    · refine ⟨m1, ?_, f1.hhC⟩
      by_cases y2 : x = -1
      · rw [show hiredS D x = sa D 46 - matN (edgeS D (fun _ => -2)) (sa D 46) by unfold hiredS; rw [if_pos (inB_t.mpr ⟨by omega, by omega⟩), if_pos (show x < 0 by omega)], sg_148_0 (by omega)]
        simp (disch := omega) only [shX hs, shX hs1, shP hs, shP hs1, shF hs, ↓reduceIte, not_false_eq_true, not_true_eq_false, and_self, and_true, true_and, false_and, and_false, or_true, true_or, or_false, false_or, or_self, reduceCtorEq, mm_q, Option.getD_some, cI_some, cJ_some, cV_some, cS_some, kd_sI, kd_sL, kd_sR, kd_cp, ln_sI, ln_sL, ln_sR, ln_cp, gR_sI, gR_sL, gR_sR, gR_cp, gL_sI, gL_sR, gL_cp, gI_sL, gI_sR, iI_add, iI_sub, iI_mul, iI_neg, iI_in, iI_tn, iI_lt, iI_eq, Nat.reduceLeDiff, Nat.reduceEqDiff, Nat.reduceAdd, Int.reduceEq, Int.reduceLT, Int.reduceLE, Int.reduceNeg, Int.reduceAdd, Int.reduceSub, Int.reduceMul, e3, e31, hg, y0, y1, e1, y2, show (-1 : Int) < sa D 46 by omega]
      · rw [show hiredS D x = layK D (sa D 46) (matN (edgeS D (fun _ => -2)) (sa D 46)) (sa D 46).toNat 0 (fun _ => -2) x by unfold hiredS; rw [if_pos (inB_t.mpr ⟨by omega, by omega⟩), if_neg (show ¬ x < 0 by omega)], ← x1 x (by omega) y1, sg_148_0 (by omega)]
        simp (disch := omega) only [shX hs, shX hs1, shP hs, shF hs, shF hs1, ↓reduceIte, not_false_eq_true, not_true_eq_false, and_self, and_true, true_and, false_and, and_false, or_true, true_or, or_false, false_or, or_self, reduceCtorEq, mm_q, Option.getD_some, cI_some, cJ_some, cV_some, cS_some, kd_sI, kd_sL, kd_sR, kd_cp, ln_sI, ln_sL, ln_sR, ln_cp, gR_sI, gR_sL, gR_sR, gR_cp, gL_sI, gL_sR, gL_cp, gI_sL, gI_sR, iI_add, iI_sub, iI_mul, iI_neg, iI_in, iI_tn, iI_lt, iI_eq, Nat.reduceLeDiff, Nat.reduceEqDiff, Nat.reduceAdd, Int.reduceEq, Int.reduceLT, Int.reduceLE, Int.reduceNeg, Int.reduceAdd, Int.reduceSub, Int.reduceMul, e3, hg, y0, y1, e1, y2]
    · refine ⟨m, ?_, FC.rf⟩
      rw [show hiredS D x = -2 by unfold hiredS; rw [if_neg (fun w => by have := inB_t.mp w; omega)], sg_148_0 (by omega)]
      simp (disch := omega) only [shX hs, shP hs, ↓reduceIte, not_false_eq_true, not_true_eq_false, and_self, and_true, true_and, false_and, and_false, or_true, true_or, or_false, false_or, or_self, reduceCtorEq, mm_q, Option.getD_some, cI_some, cJ_some, cV_some, cS_some, kd_sI, kd_sL, kd_sR, kd_cp, ln_sI, ln_sL, ln_sR, ln_cp, gR_sI, gR_sL, gR_sR, gR_cp, gL_sI, gL_sR, gL_cp, gI_sL, gI_sR, iI_add, iI_sub, iI_mul, iI_neg, iI_in, iI_tn, iI_lt, iI_eq, Nat.reduceLeDiff, Nat.reduceEqDiff, Nat.reduceAdd, Int.reduceEq, Int.reduceLT, Int.reduceLE, Int.reduceNeg, Int.reduceAdd, Int.reduceSub, Int.reduceMul, e3, y0, y1]
end
