def scNx (a k : Nat) : Bool := Nat.beq a 211 || scV a k
/-- the free ones, as bits -/
def FrE (nx : Int → Int) (n k : Int) (fr : Int32) : Prop := ∀ j, 0 ≤ j → j < 10 → bi fr j = (decide (j < n) && !anyB (fun i => decide (nx i = j)) k.toNat 0)
def NxO (nx : Int → Int) (n k : Int) : Prop := (∀ j, 0 ≤ j → j < k → nx j = -1 ∨ (0 ≤ nx j ∧ nx j < n)) ∧ (∀ i j, 0 ≤ i → i < k → 0 ≤ j → j < k → 0 ≤ nx i → nx i = nx j → i = j) ∧ (∀ j, k ≤ j → j < n → nx j = -2)
section
variable {ed : Int → Int → Bool} {n : Int} {A A' : Int → Bool} {S : Int → Prop} {c : Int} {D : Nat → Nat → Int32}
theorem any_t {f : Int → Bool} : ∀ (r : Nat) (q : Int), anyB f r q = true ↔ ∃ i, q ≤ i ∧ i < q + r ∧ f i = true
  | 0, q => by
    unfold anyB
    constructor
    · intro h; cases h
    · rintro ⟨i, a, b, _⟩; omega
  | r + 1, q => by
    unfold anyB
    rw [Bool.or_eq_true, any_t r (q + 1)]
    constructor
    · rintro (h | ⟨i, a, b, c⟩)
      · exact ⟨q, by omega, by omega, h⟩
      · exact ⟨i, by omega, by omega, c⟩
    · rintro ⟨i, a, b, c⟩
      by_cases z : i = q
      · left; rw [← z]; exact c
      · right; exact ⟨i, by omega, by omega, c⟩
theorem any_c {f g : Int → Bool} (r : Nat) (q : Int) (h : ∀ i, q ≤ i → i < q + r → f i = g i) : anyB f r q = anyB g r q := by
  apply Bool.eq_iff_iff.mpr
  rw [any_t, any_t]
  constructor
  · rintro ⟨i, a, b, c⟩; exact ⟨i, a, b, by rw [← h i a b]; exact c⟩
  · rintro ⟨i, a, b, c⟩; exact ⟨i, a, b, by rw [h i a b]; exact c⟩
theorem MaxN.cg (h : MaxN ed n A S c) (e : ∀ r, 0 ≤ r → r < n → A r = A' r) : MaxN ed n A' S c := by
  obtain ⟨⟨bf, hm, hz⟩, CA, CB, hc, hcz⟩ := h
  exact ⟨⟨bf, ⟨hm.1, hm.2.1, fun r r0 r1 rp => ⟨(hm.2.2 r r0 r1 rp).1, (e r r0 r1).symm.trans (hm.2.2 r r0 r1 rp).2⟩⟩, hz⟩, CA, CB, fun l r sl r0 r1 a b => hc l r sl r0 r1 ((e r r0 r1).trans a) b, hcz⟩
theorem MaxN.r (h : MaxN ed n A S c) (n0 : 0 ≤ n) : 0 ≤ c ∧ c ≤ n := by
  obtain ⟨⟨bf, hm, hz⟩, -⟩ := h
  have := cntGo_r (fun r => decide (0 ≤ bf r)) n.toNat 0 0
  unfold siz at hz
  omega
theorem matN_max (n0 : 0 ≤ n) (n1 : n ≤ 10) : MaxN ed n (fun _ => false) (fun l => 0 ≤ l ∧ l < n) (matN ed n) := by
  have := matA_max (ed := ed) (A := fun _ => false) n0 n1 (fr := 0) (by omega) (by omega)
  rw [Int.sub_zero] at this
  unfold matN
  rw [matGo_A]
  exact this
theorem try_eq (n0 : 0 ≤ n) (n1 : n ≤ 10) {nx : Int → Int} {k e : Int} (k0 : 0 ≤ k) (k1 : k < n) (e0 : 0 ≤ e) (e1 : e < n) (h : NxO nx n k) (he : anyB (fun i => decide (nx i = e)) k.toNat 0 = false) (hA : ∀ r, 0 ≤ r → r < n → A r = (anyB (fun i => decide (nx i = r)) k.toNat 0 || decide (r = e))) : matN (edgeS D (updB nx k e)) n = cntGo (fun j => decide (0 ≤ nx j)) k.toNat 0 0 + 1 + (matGoA (canF D) n A (n - (k + 1)).toNat (k + 1) (0, fun _ => -1)).1 := by
  have ne : ∀ i, 0 ≤ i → i < k → ¬ nx i = e := fun i i0 i1 q => by
    have : anyB (fun i => decide (nx i = e)) k.toNat 0 = true := (any_t _ _).mpr ⟨i, i0, by omega, decide_eq_true q⟩
    rw [he] at this
    cases this
  have uk : updB nx k e k = e := if_pos rfl
  have uo : ∀ j, ¬ j = k → updB nx k e j = nx j := fun j y => if_neg y
  have a := matA_max (ed := canF D) (A := A) n0 n1 (fr := k + 1) (by omega) (by omega)
  have b := a.cg (A' := takenB (updB nx k e) k) (fun r r0 r1 => by
    rw [hA r r0 r1]
    apply Bool.eq_iff_iff.mpr
    rw [Bool.or_eq_true, any_t, taken_t k0, decide_eq_true_eq]
    constructor
    · rintro (⟨i, i0, i1, q⟩ | q)
      · exact ⟨i, i0, by omega, by rw [uo i (by omega)]; exact of_decide_eq_true q⟩
      · exact ⟨k, k0, by omega, by rw [uk]; exact q.symm⟩
    · rintro ⟨i, i0, i1, q⟩
      by_cases y : i = k
      · right; rw [y, uk] at q; exact q.symm
      · left; rw [uo i y] at q; exact ⟨i, i0, by omega, decide_eq_true q⟩)
  have w := fix_eq (D := D) n0 (nx := updB nx k e) k0 k1 (fun j j0 j1 => by
    by_cases y : j = k
    · rw [y, uk]; right; exact ⟨e0, e1⟩
    · rw [uo j y]; exact h.1 j j0 (by omega)) (fun i j i0 i1 j0 j1 p q => by
    by_cases yi : i = k
    · by_cases yj : j = k
      · omega
      · rw [yi, uk, uo j yj] at q
        exact absurd q.symm (ne j j0 (by omega))
    · by_cases yj : j = k
      · rw [yj, uk, uo i yi] at q
        exact absurd q (ne i i0 (by omega))
      · rw [uo i yi] at p q
        rw [uo j yj] at q
        exact h.2.1 i j i0 (by omega) j0 (by omega) p q) (fun j j0 j1 => by rw [uo j (by omega)]; exact h.2.2 j (by omega) j1) b
  have f : fixN (updB nx k e) k = cntGo (fun j => decide (0 ≤ nx j)) k.toNat 0 0 + 1 := by
    unfold fixN
    rw [show (k + 1).toNat = k.toNat + 1 by omega, cntGo_sp]
    rw [cntGo_c (f := fun j => decide (0 ≤ updB nx k e j)) (g := fun j => decide (0 ≤ nx j)) k.toNat 0 (fun i i0 i1 => by rw [uo i (by omega)])]
    have c1 : cntGo (fun j => decide (0 ≤ updB nx k e j)) 1 (0 + (k.toNat : Int)) 0 = 1 := by
      rw [show (0 : Int) + (k.toNat : Int) = k by omega]
      simp [cntGo, uk, e0]
    rw [c1]
  have m := matN_max (ed := edgeS D (updB nx k e)) n0 n1
  rw [f] at w
  exact max_u m w (fun l h => h) (fun _ _ _ _ _ => ⟨rfl, rfl⟩)
theorem layE_t {M k : Int} {q : Int → Int} : ∀ (r : Nat) (e : Int), layE D n M k r e (true, q) = (true, q)
  | 0, _ => rfl
  | r + 1, e => by
    unfold layE
    rw [if_pos rfl]
theorem bi_shl {k j : Int} (k0 : 0 ≤ k) (k1 : k < 32) (j0 : 0 ≤ j) (j1 : j < 32) : bi (iShl (iI 1) (iI k)) j = decide (j = k) := by
  have := bi_or (y := iI 0) k0 k1 j0 j1
  rw [bi_0, Bool.false_or] at this
  rw [← this]
  congr 1
  rw [← Int32.toBitVec_inj, Int32.toBitVec_or, show (iI 0).toBitVec = 0#32 from rfl, BitVec.zero_or]
end
section
variable {D : Nat → Nat → Int32} {m m' m'' : mm_M} {d s : Nat}
theorem Fr.VNx (h : Fr scV m m') : Fr scNx m m' := h.mono (fun a k z => by
  unfold scNx at z
  rw [Bool.or_eq_false_iff] at z
  exact z.2)
theorem FBt.n (h : FBt D m) (f : Fr scNx m m') : FBt D m' := ⟨(f.gI rfl).trans h.1, fun i i0 i1 k k0 k1 => by rw [f.gI rfl]; exact h.2 i i0 i1 k k0 k1⟩
/-- one sight's next, sought -/
theorem C4e (hPP : InvP D) (hd : 21 ≤ d) {nx : Int → Int} {k : Int} {fr : Int32} {M fd : Int} (k0 : 0 ≤ k) (k1 : k < sa D 46) (hn : NxO nx (sa D 46) k) (hf : FrE nx (sa D 46) k fr) (hfd : fd = cntGo (fun j => decide (0 ≤ nx j)) k.toNat 0 0) (M0 : 0 ≤ M) (M1 : M ≤ 10) : ∀ (r : Nat) (e : Int) (q : Int → Int) (z : Option Value) (m : mm_M), e = sa D 46 - r → 0 ≤ e → (∀ j, ¬ j = k → q j = nx j) → Sh m → FBt D m → mm_gI m 211 k.toNat = iI (-1) → ∃ m' y7 y8, mm_ev d 4 79 [some (.ref 195), some (.ref 163), some (.ref s), some (.int fr), (some (.int (iI (M)))), (some (.int (iI (fd)))), (some (.int (iI (k)))), (some (.int (iI (e)))), z] [] m = mm_ev d 4 169 [some (.ref 195), some (.ref 163), some (.ref s), some (.int fr), (some (.int (iI (M)))), (some (.int (iI (fd)))), (some (.int (iI (k)))), some (.int y7), y8] [] m' ∧ Fr scNx m m' ∧ (∀ j, ¬ j = k.toNat → mm_gI m' 211 j = mm_gI m 211 j) ∧ mm_gI m' 211 k.toNat = iI (if (layE D (sa D 46) M k r e (false, q)).1 = true then (layE D (sa D 46) M k r e (false, q)).2 k else -1) ∧ (∀ j, ¬ j = k → (layE D (sa D 46) M k r e (false, q)).2 j = nx j) ∧ ((layE D (sa D 46) M k r e (false, q)).1 = true → 0 ≤ (layE D (sa D 46) M k r e (false, q)).2 k ∧ (layE D (sa D 46) M k r e (false, q)).2 k < sa D 46 ∧ anyB (fun i => decide (nx i = (layE D (sa D 46) M k r e (false, q)).2 k)) k.toNat 0 = false)
  | 0, e, q, z, m, he, e0, hq, hs, hF, hm => by
    obtain ⟨n0, n1⟩ := hPP.1
    unfold layE
    refine ⟨m, iI e, z, ?_, Fr.rf, fun _ _ => rfl, ?_, hq, fun h => by cases h⟩
    · rw [sg_4_79]
      simp (disch := omega) only [shF hs, ↓reduceIte, not_false_eq_true, not_true_eq_false, and_self, and_true, true_and, false_and, and_false, or_true, true_or, or_false, false_or, or_self, reduceCtorEq, mm_q, Option.getD_some, cI_some, cJ_some, cV_some, cS_some, kd_sI, kd_sL, kd_sR, kd_cp, ln_sI, ln_sL, ln_sR, ln_cp, gR_sI, gR_sL, gR_sR, gR_cp, gL_sI, gL_sR, gL_cp, gI_sL, gI_sR, iI_add, iI_sub, iI_mul, iI_neg, iI_in, iI_tn, iI_lt, iI_eq, Nat.reduceLeDiff, Nat.reduceEqDiff, Nat.reduceAdd, Int.reduceEq, Int.reduceLT, Int.reduceLE, Int.reduceNeg, Int.reduceAdd, Int.reduceSub, Int.reduceMul, hF.1, show ¬ e < sa D 46 by omega]
    · rw [hm]
      simp
  | r + 1, e, q, z, m, he, e0, hq, hs, hF, hm => by
    obtain ⟨n0, n1⟩ := hPP.1
    have e1 : e < sa D 46 := by omega
    have fc := cntGo_r (fun j => decide (0 ≤ nx j)) k.toNat 0 0
    have aq : anyB (fun j => decide (q j = e)) k.toNat 0 = anyB (fun j => decide (nx j = e)) k.toNat 0 := any_c _ _ (fun i i0 i1 => by rw [hq i (by omega)])
    have hc := hF.2 k k0 k1 e e0 (by omega)
    have hfe := hf e e0 (by omega)
    rw [decide_eq_true e1, Bool.true_and] at hc hfe
    have ht : ((mm_gI m 209 k.toNat &&& fr) &&& iShl (iI 1) (iI e) = iI 0) = ((canF D k e && !anyB (fun i => decide (nx i = e)) k.toNat 0) = false) := by
      rw [bi_t e0 (by omega), bi_and, hc, hfe]
    have ef : layE D (sa D 46) M k (r + 1) e (false, q) = if (canF D k e && !anyB (fun i => decide (nx i = e)) k.toNat 0) = true then layE D (sa D 46) M k r (e + 1) (decide (matN (edgeS D (updB q k e)) (sa D 46) = M), updB q k e) else layE D (sa D 46) M k r (e + 1) (false, q) := by
      rw [layE, aq]
      simp only [Bool.false_eq_true, if_false]
    rw [ef]
    cases z1 : (canF D k e && !anyB (fun i => decide (nx i = e)) k.toNat 0)
    · rw [z1] at ht
      rw [if_neg (show ¬ (false = true) by decide)]
      obtain ⟨m', y7, y8, r1, r2⟩ := C4e hPP hd k0 k1 hn hf hfd M0 M1 r (e + 1) q (some (.int (iI 0))) m (by omega) (by omega) hq hs hF hm
      refine ⟨m', y7, y8, ?_, r2⟩
      rw [← r1, sg_4_79]
      simp (disch := omega) only [shF hs, ↓reduceIte, not_false_eq_true, not_true_eq_false, and_self, and_true, true_and, false_and, and_false, or_true, true_or, or_false, false_or, or_self, reduceCtorEq, mm_q, Option.getD_some, cI_some, cJ_some, cV_some, cS_some, kd_sI, kd_sL, kd_sR, kd_cp, ln_sI, ln_sL, ln_sR, ln_cp, gR_sI, gR_sL, gR_sR, gR_cp, gL_sI, gL_sR, gL_cp, gI_sL, gI_sR, iI_add, iI_sub, iI_mul, iI_neg, iI_in, iI_tn, iI_lt, iI_eq, Nat.reduceLeDiff, Nat.reduceEqDiff, Nat.reduceAdd, Int.reduceEq, Int.reduceLT, Int.reduceLE, Int.reduceNeg, Int.reduceAdd, Int.reduceSub, Int.reduceMul, hF.1, hm, e1, ht]
      rw [sg_4_121 (by omega)]
      simp (disch := omega) only [↓reduceIte, not_false_eq_true, not_true_eq_false, and_self, and_true, true_and, false_and, and_false, or_true, true_or, or_false, false_or, or_self, reduceCtorEq, mm_q, Option.getD_some, cI_some, cJ_some, cV_some, cS_some, kd_sI, kd_sL, kd_sR, kd_cp, ln_sI, ln_sL, ln_sR, ln_cp, gR_sI, gR_sL, gR_sR, gR_cp, gL_sI, gL_sR, gL_cp, gI_sL, gI_sR, iI_add, iI_sub, iI_mul, iI_neg, iI_in, iI_tn, iI_lt, iI_eq, Nat.reduceLeDiff, Nat.reduceEqDiff, Nat.reduceAdd, Int.reduceEq, Int.reduceLT, Int.reduceLE, Int.reduceNeg, Int.reduceAdd, Int.reduceSub, Int.reduceMul]
      rw [sg_4_163]
      simp (disch := omega) only [↓reduceIte, not_false_eq_true, not_true_eq_false, and_self, and_true, true_and, false_and, and_false, or_true, true_or, or_false, false_or, or_self, reduceCtorEq, mm_q, Option.getD_some, cI_some, cJ_some, cV_some, cS_some, kd_sI, kd_sL, kd_sR, kd_cp, ln_sI, ln_sL, ln_sR, ln_cp, gR_sI, gR_sL, gR_sR, gR_cp, gL_sI, gL_sR, gL_cp, gI_sL, gI_sR, iI_add, iI_sub, iI_mul, iI_neg, iI_in, iI_tn, iI_lt, iI_eq, Nat.reduceLeDiff, Nat.reduceEqDiff, Nat.reduceAdd, Int.reduceEq, Int.reduceLT, Int.reduceLE, Int.reduceNeg, Int.reduceAdd, Int.reduceSub, Int.reduceMul]
    · rw [z1] at ht
      rw [if_pos (show true = true from rfl)]
      rw [Bool.and_eq_true, Bool.not_eq_true'] at z1
      have uq : updB q k e = updB nx k e := by
        funext j
        unfold updB
        by_cases y : j = k
        · rw [if_pos y, if_pos y]
        · rw [if_neg y, if_neg y, hq j y]
      obtain ⟨m1, r1, g1⟩ := C7 (d := d - 1) (k := k + 1) (y := fr &&& (iShl (iI 1) (iI e) ^^^ iI (-1))) (A := fun j => bi ((fr &&& (iShl (iI 1) (iI e) ^^^ iI (-1))) ^^^ iI (-1)) j) hPP (fun _ _ _ => rfl) (by omega) (by omega) (by omega) hs hF (fun j j0 j1 => ⟨by simp only; omega, by simp only; omega⟩)
      have te := try_eq (D := D) (A := fun j => bi ((fr &&& (iShl (iI 1) (iI e) ^^^ iI (-1))) ^^^ iI (-1)) j) n0 n1 k0 k1 e0 e1 hn z1.2 (fun j j0 j1 => by
        show bi ((fr &&& (iShl (iI 1) (iI e) ^^^ iI (-1))) ^^^ iI (-1)) j = _
        rw [bi_not j0 (by omega), bi_and, bi_not j0 (by omega), bi_shl e0 (by omega) j0 (by omega), hf j j0 (by omega), decide_eq_true j1, Bool.true_and]
        cases anyB (fun i => decide (nx i = j)) k.toNat 0 <;> cases decide (j = e) <;> rfl)
      have mr := (matN_max (ed := edgeS D (updB nx k e)) n0 n1).r n0
      rw [← hfd] at te
      rw [uq, te]
      rw [te] at mr
      generalize (matGoA (canF D) (sa D 46) (fun j => bi ((fr &&& (iShl (iI 1) (iI e) ^^^ iI (-1))) ^^^ iI (-1)) j) (sa D 46 - (k + 1)).toNat (k + 1) (0, fun _ => -1)).1 = c at r1 mr ⊢
      have hs1 := g1.sh hs
      have hF1 := hF.f g1
      have hm1 : mm_gI m1 211 k.toNat = iI (-1) := (g1.gI rfl).trans hm
      have run : mm_ev d 4 79 [some (.ref 195), some (.ref 163), some (.ref s), some (.int fr), (some (.int (iI (M)))), (some (.int (iI (fd)))), (some (.int (iI (k)))), (some (.int (iI (e)))), z] [] m = mm_ev d 4 148 [some (.ref 195), some (.ref 163), some (.ref s), some (.int fr), (some (.int (iI (M)))), (some (.int (iI (fd)))), (some (.int (iI (k)))), (some (.int (iI (e)))), (some (.int (iI (1))))] [.int (iI c), .int (iI (fd + 1))] m1 := by
        rw [sg_4_79]
        simp (disch := omega) only [shF hs, ↓reduceIte, not_false_eq_true, not_true_eq_false, and_self, and_true, true_and, false_and, and_false, or_true, true_or, or_false, false_or, or_self, reduceCtorEq, mm_q, Option.getD_some, cI_some, cJ_some, cV_some, cS_some, kd_sI, kd_sL, kd_sR, kd_cp, ln_sI, ln_sL, ln_sR, ln_cp, gR_sI, gR_sL, gR_sR, gR_cp, gL_sI, gL_sR, gL_cp, gI_sL, gI_sR, iI_add, iI_sub, iI_mul, iI_neg, iI_in, iI_tn, iI_lt, iI_eq, Nat.reduceLeDiff, Nat.reduceEqDiff, Nat.reduceAdd, Int.reduceEq, Int.reduceLT, Int.reduceLE, Int.reduceNeg, Int.reduceAdd, Int.reduceSub, Int.reduceMul, hF.1, hm, e1, ht, Bool.true_eq_false]
        rw [sg_4_121 (by omega)]
        simp (disch := omega) only [shF hs, ↓reduceIte, not_false_eq_true, not_true_eq_false, and_self, and_true, true_and, false_and, and_false, or_true, true_or, or_false, false_or, or_self, reduceCtorEq, mm_q, Option.getD_some, cI_some, cJ_some, cV_some, cS_some, kd_sI, kd_sL, kd_sR, kd_cp, ln_sI, ln_sL, ln_sR, ln_cp, gR_sI, gR_sL, gR_sR, gR_cp, gL_sI, gL_sR, gL_cp, gI_sL, gI_sR, iI_add, iI_sub, iI_mul, iI_neg, iI_in, iI_tn, iI_lt, iI_eq, Nat.reduceLeDiff, Nat.reduceEqDiff, Nat.reduceAdd, Int.reduceEq, Int.reduceLT, Int.reduceLE, Int.reduceNeg, Int.reduceAdd, Int.reduceSub, Int.reduceMul, r1]
      rw [run, sg_4_148]
      by_cases y : fd + 1 + c = M
      · rw [decide_eq_true y, layE_t]
        have uk : updB nx k e k = e := if_pos rfl
        refine ⟨mm_sI m1 211 k.toNat (iI e), iI (e + 1), (some (.int (iI (1)))), ?_, g1.VNx.tr (Fr.sI rfl), fun j yj => ?_, ?_, fun j yj => if_neg yj, fun _ => ?_⟩
        · simp (disch := omega) only [shF hs1, ↓reduceIte, not_false_eq_true, not_true_eq_false, and_self, and_true, true_and, false_and, and_false, or_true, true_or, or_false, false_or, or_self, reduceCtorEq, mm_q, Option.getD_some, cI_some, cJ_some, cV_some, cS_some, kd_sI, kd_sL, kd_sR, kd_cp, ln_sI, ln_sL, ln_sR, ln_cp, gR_sI, gR_sL, gR_sR, gR_cp, gL_sI, gL_sR, gL_cp, gI_sL, gI_sR, iI_add, iI_sub, iI_mul, iI_neg, iI_in, iI_tn, iI_lt, iI_eq, Nat.reduceLeDiff, Nat.reduceEqDiff, Nat.reduceAdd, Int.reduceEq, Int.reduceLT, Int.reduceLE, Int.reduceNeg, Int.reduceAdd, Int.reduceSub, Int.reduceMul, y]
          rw [sg_4_163]
          simp (disch := omega) only [↓reduceIte, not_false_eq_true, not_true_eq_false, and_self, and_true, true_and, false_and, and_false, or_true, true_or, or_false, false_or, or_self, reduceCtorEq, mm_q, Option.getD_some, cI_some, cJ_some, cV_some, cS_some, kd_sI, kd_sL, kd_sR, kd_cp, ln_sI, ln_sL, ln_sR, ln_cp, gR_sI, gR_sL, gR_sR, gR_cp, gL_sI, gL_sR, gL_cp, gI_sL, gI_sR, iI_add, iI_sub, iI_mul, iI_neg, iI_in, iI_tn, iI_lt, iI_eq, Nat.reduceLeDiff, Nat.reduceEqDiff, Nat.reduceAdd, Int.reduceEq, Int.reduceLT, Int.reduceLE, Int.reduceNeg, Int.reduceAdd, Int.reduceSub, Int.reduceMul]
          rw [sg_4_79]
          by_cases w : e + 1 < sa D 46
          · simp (disch := omega) only [shF hs1, ↓reduceIte, not_false_eq_true, not_true_eq_false, and_self, and_true, true_and, false_and, and_false, or_true, true_or, or_false, false_or, or_self, reduceCtorEq, mm_q, Option.getD_some, cI_some, cJ_some, cV_some, cS_some, kd_sI, kd_sL, kd_sR, kd_cp, ln_sI, ln_sL, ln_sR, ln_cp, gR_sI, gR_sL, gR_sR, gR_cp, gL_sI, gL_sR, gL_cp, gI_sL, gI_sR, iI_add, iI_sub, iI_mul, iI_neg, iI_in, iI_tn, iI_lt, iI_eq, Nat.reduceLeDiff, Nat.reduceEqDiff, Nat.reduceAdd, Int.reduceEq, Int.reduceLT, Int.reduceLE, Int.reduceNeg, Int.reduceAdd, Int.reduceSub, Int.reduceMul, gI_sI, hF1.1, w, show ¬ e = -1 by omega]
          · simp (disch := omega) only [shF hs1, ↓reduceIte, not_false_eq_true, not_true_eq_false, and_self, and_true, true_and, false_and, and_false, or_true, true_or, or_false, false_or, or_self, reduceCtorEq, mm_q, Option.getD_some, cI_some, cJ_some, cV_some, cS_some, kd_sI, kd_sL, kd_sR, kd_cp, ln_sI, ln_sL, ln_sR, ln_cp, gR_sI, gR_sL, gR_sR, gR_cp, gL_sI, gL_sR, gL_cp, gI_sL, gI_sR, iI_add, iI_sub, iI_mul, iI_neg, iI_in, iI_tn, iI_lt, iI_eq, Nat.reduceLeDiff, Nat.reduceEqDiff, Nat.reduceAdd, Int.reduceEq, Int.reduceLT, Int.reduceLE, Int.reduceNeg, Int.reduceAdd, Int.reduceSub, Int.reduceMul, gI_sI, hF1.1, w]
        · rw [gI_sI, if_neg (by omega)]
          exact g1.gI rfl
        · rw [gI_sI, if_pos ⟨rfl, rfl⟩, if_pos rfl]
          show iI e = iI (updB nx k e k)
          rw [uk]
        · show 0 ≤ updB nx k e k ∧ updB nx k e k < sa D 46 ∧ anyB (fun i => decide (nx i = updB nx k e k)) k.toNat 0 = false
          rw [uk]
          exact ⟨e0, e1, z1.2⟩
      · rw [decide_eq_false y]
        obtain ⟨m', y7, y8, r3, r4, r5, r6⟩ := C4e hPP hd k0 k1 hn hf hfd M0 M1 r (e + 1) (updB nx k e) (some (.int (iI (1)))) m1 (by omega) (by omega) (fun j yj => if_neg yj) hs1 hF1 hm1
        refine ⟨m', y7, y8, ?_, g1.VNx.tr r4, fun j yj => (r5 j yj).trans (g1.gI rfl), r6⟩
        rw [← r3]
        simp (disch := omega) only [shF hs1, ↓reduceIte, not_false_eq_true, not_true_eq_false, and_self, and_true, true_and, false_and, and_false, or_true, true_or, or_false, false_or, or_self, reduceCtorEq, mm_q, Option.getD_some, cI_some, cJ_some, cV_some, cS_some, kd_sI, kd_sL, kd_sR, kd_cp, ln_sI, ln_sL, ln_sR, ln_cp, gR_sI, gR_sL, gR_sR, gR_cp, gL_sI, gL_sR, gL_cp, gI_sL, gI_sR, iI_add, iI_sub, iI_mul, iI_neg, iI_in, iI_tn, iI_lt, iI_eq, Nat.reduceLeDiff, Nat.reduceEqDiff, Nat.reduceAdd, Int.reduceEq, Int.reduceLT, Int.reduceLE, Int.reduceNeg, Int.reduceAdd, Int.reduceSub, Int.reduceMul, y]
        rw [sg_4_163]
        simp (disch := omega) only [↓reduceIte, not_false_eq_true, not_true_eq_false, and_self, and_true, true_and, false_and, and_false, or_true, true_or, or_false, false_or, or_self, reduceCtorEq, mm_q, Option.getD_some, cI_some, cJ_some, cV_some, cS_some, kd_sI, kd_sL, kd_sR, kd_cp, ln_sI, ln_sL, ln_sR, ln_cp, gR_sI, gR_sL, gR_sR, gR_cp, gL_sI, gL_sR, gL_cp, gI_sL, gI_sR, iI_add, iI_sub, iI_mul, iI_neg, iI_in, iI_tn, iI_lt, iI_eq, Nat.reduceLeDiff, Nat.reduceEqDiff, Nat.reduceAdd, Int.reduceEq, Int.reduceLT, Int.reduceLE, Int.reduceNeg, Int.reduceAdd, Int.reduceSub, Int.reduceMul]
end
