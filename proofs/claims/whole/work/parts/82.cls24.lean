def bcS (x : Int32) : Int32 := (((((((x - ((iUshr x (iI 1)) &&& (iI 1431655765))) &&& (iI 858993459)) + ((iUshr (x - ((iUshr x (iI 1)) &&& (iI 1431655765))) (iI 2)) &&& (iI 858993459))) + (iUshr (((x - ((iUshr x (iI 1)) &&& (iI 1431655765))) &&& (iI 858993459)) + ((iUshr (x - ((iUshr x (iI 1)) &&& (iI 1431655765))) (iI 2)) &&& (iI 858993459))) (iI 4))) &&& (iI 252645135)) + (iUshr (((((x - ((iUshr x (iI 1)) &&& (iI 1431655765))) &&& (iI 858993459)) + ((iUshr (x - ((iUshr x (iI 1)) &&& (iI 1431655765))) (iI 2)) &&& (iI 858993459))) + (iUshr (((x - ((iUshr x (iI 1)) &&& (iI 1431655765))) &&& (iI 858993459)) + ((iUshr (x - ((iUshr x (iI 1)) &&& (iI 1431655765))) (iI 2)) &&& (iI 858993459))) (iI 4))) &&& (iI 252645135)) (iI 8))) + (iUshr ((((((x - ((iUshr x (iI 1)) &&& (iI 1431655765))) &&& (iI 858993459)) + ((iUshr (x - ((iUshr x (iI 1)) &&& (iI 1431655765))) (iI 2)) &&& (iI 858993459))) + (iUshr (((x - ((iUshr x (iI 1)) &&& (iI 1431655765))) &&& (iI 858993459)) + ((iUshr (x - ((iUshr x (iI 1)) &&& (iI 1431655765))) (iI 2)) &&& (iI 858993459))) (iI 4))) &&& (iI 252645135)) + (iUshr (((((x - ((iUshr x (iI 1)) &&& (iI 1431655765))) &&& (iI 858993459)) + ((iUshr (x - ((iUshr x (iI 1)) &&& (iI 1431655765))) (iI 2)) &&& (iI 858993459))) + (iUshr (((x - ((iUshr x (iI 1)) &&& (iI 1431655765))) &&& (iI 858993459)) + ((iUshr (x - ((iUshr x (iI 1)) &&& (iI 1431655765))) (iI 2)) &&& (iI 858993459))) (iI 4))) &&& (iI 252645135)) (iI 8))) (iI 16))) &&& (iI 63)
theorem bc_ok : ∀ x : Fin 256, bcS (iI (x.val : Int)) = iI (bitsN (x.val : Int)) := by decide +kernel
section
variable {D D' D1 D2 : Nat → Nat → Int32} {m m' m1 m2 m'' : mm_M} {d s W L H p n P : Nat} {B : Int → Int} {take : Int} {late : Bool}
theorem C279 {Y : Int} (y0 : 0 ≤ Y) (y1 : Y < 256) : mm_ev d 279 0 [some (.int (iI (Y)))] [] m = some (some (some (.int (iI (bitsN Y)))), m) := by
  have := bc_ok ⟨Y.toNat, by omega⟩
  simp only at this
  rw [show ((Y.toNat : Nat) : Int) = Y by omega] at this
  rw [sg_279_0, ← this]
  rfl
theorem lshr_b {v : Int64} {x : Int} (x0 : 0 ≤ x) (x1 : x < 8) : (lShr v (iI (x * 8))).toBitVec = v.toBitVec.sshiftRight (x * 8).toNat := by
  have : x = 0 ∨ x = 1 ∨ x = 2 ∨ x = 3 ∨ x = 4 ∨ x = 5 ∨ x = 6 ∨ x = 7 := by omega
  unfold lShr
  rw [Int64.toBitVec_shiftRight]
  rcases this with rfl | rfl | rfl | rfl | rfl | rfl | rfl | rfl <;> rfl
theorem hasW_b {Y w : Int} (w0 : 0 ≤ w) (w1 : w < 8) : hasW Y w = (iI Y).toBitVec.getLsbD w.toNat := by
  rw [hasW_0]
  have := bit_0 (y := iI Y) w0 w1
  cases z : (iI Y).toBitVec.getLsbD w.toNat
  · rw [decide_eq_true (this.mpr z)]; rfl
  · rw [decide_eq_false (fun q => by have := this.mp q; rw [z] at this; cases this)]; rfl
theorem iI_bv {y : Int32} : y = iI ((y.toBitVec.toNat : Nat) : Int) := by
  apply Int32.toBitVec_inj.mp
  show y.toBitVec = BitVec.ofInt 32 ((y.toBitVec.toNat : Nat) : Int)
  rw [BitVec.ofInt_natCast, BitVec.ofNat_toNat, BitVec.setWidth_eq]
theorem cntGo_sp (f : Int → Bool) : ∀ (a b : Nat) (q : Int), cntGo f (a + b) q 0 = cntGo f a q 0 + cntGo f b (q + a) 0
  | 0, b, q => by
    rw [Nat.zero_add, show q + ((0 : Nat) : Int) = q by omega, show cntGo f 0 q 0 = 0 from rfl, Int.zero_add]
  | a + 1, b, q => by
    have h1 : cntGo f (a + 1 + b) q 0 = cntGo f (a + b) (q + 1) (if f q = true then 0 + 1 else 0) := by
      rw [show a + 1 + b = (a + b) + 1 by omega]
      rfl
    have h2 : cntGo f (a + 1) q 0 = cntGo f a (q + 1) (if f q = true then 0 + 1 else 0) := rfl
    rw [h1, h2, cntGo_a f (a + b), cntGo_a f a, cntGo_sp f a b (q + 1), show q + ((a + 1 : Nat) : Int) = q + 1 + (a : Int) by omega]
    omega
theorem cntGo_c {f g : Int → Bool} (k : Nat) (q : Int) (h : ∀ i, q ≤ i → i < q + k → f i = g i) : cntGo f k q 0 = cntGo g k q 0 := by
  have h1 := cntGo_m f g k q (fun i i0 i1 z => by rw [← h i i0 i1]; exact z)
  have h2 := cntGo_m g f k q (fun i i0 i1 z => by rw [h i i0 i1]; exact z)
  omega
theorem cntGo_z {f : Int → Bool} : ∀ (k : Nat) (q : Int), (∀ i, q ≤ i → i < q + k → f i = false) → cntGo f k q 0 = 0
  | 0, _, _ => rfl
  | k + 1, q, h => by
    unfold cntGo
    rw [h q (by omega) (by omega), if_neg (by decide)]
    exact cntGo_z k (q + 1) (fun i i0 i1 => h i (by omega) (by omega))
/-- who is seen on which word, by bits -/
def SWb (D : Nat → Nat → Int32) (v : Int64) (x w : Int) : Prop := ∀ a b, 0 ≤ a → a < 8 → 0 ≤ b → b < 8 → (bt v (8 * a + b) = true ↔ ((a < x ∨ (a = x ∧ b < w)) ∧ b < st D 6 ∧ framedS D (nowP D b (te D a)) = true))
theorem C130I (h : RQ D m s) (hI : InvS D) (hIB : InvB D (sa D)) (hd : 7 ≤ d) {x : Int} (x0 : 0 ≤ x) (x1 : x < st D 5) : ∀ (r : Nat) (w : Int) (v : Int64), w = st D 6 - r → 0 ≤ w → SWb D v x w → ∃ v', mm_ev d 130 18 [some (.ref 100), some (.long v), none, some (.int (iI (x))), some (.int (iI (w)))] [] m = mm_ev d 130 4 [some (.ref 100), some (.long v'), none, some (.int (iI (x + 1))), some (.int (iI (st D 6)))] [] m ∧ SWb D v' (x + 1) 0
  | 0, w, v, hr, w0, hv => by
    have xf := shX h.1
    have sf := stF h.1 h.2.1
    obtain ⟨q0, q1⟩ := hI.2.2.2.2.2.1
    refine ⟨v, ?_, fun a b a0 a1 b0 b1 => ?_⟩
    · rw [sg_130_18 (by omega), show w = st D 6 by omega]
      simp (disch := omega) only [xf, sf, h.2.2.1, h.2.2.2.1.1.2.2.2.2.2.2.2.1, ↓reduceIte, not_false_eq_true, not_true_eq_false, and_self, and_true, true_and, false_and, and_false, or_true, true_or, or_false, false_or, or_self, reduceCtorEq, mm_q, Option.getD_some, cI_some, cJ_some, cV_some, cS_some, kd_sI, kd_sL, kd_sR, kd_cp, ln_sI, ln_sL, ln_sR, ln_cp, gR_sI, gR_sL, gR_sR, gR_cp, gL_sI, gL_sR, gL_cp, gI_sL, gI_sR, iI_add, iI_sub, iI_mul, iI_neg, iI_in, iI_tn, iI_lt, iI_eq, Nat.reduceLeDiff, Nat.reduceEqDiff, Nat.reduceAdd, Int.reduceEq, Int.reduceLT, Int.reduceLE, Int.reduceNeg, Int.reduceAdd, Int.reduceSub, Int.reduceMul, Int.lt_irrefl]
    · rw [hv a b a0 a1 b0 b1]
      constructor
      · rintro ⟨p1, p2, p3⟩; exact ⟨by omega, p2, p3⟩
      · rintro ⟨p1, p2, p3⟩; exact ⟨by omega, p2, p3⟩
  | r + 1, w, v, hr, w0, hv => by
    have xf := shX h.1
    have sf := stF h.1 h.2.1
    have wf := wF h.1 now2
    obtain ⟨q0, q1⟩ := hI.2.2.2.2.2.1
    obtain ⟨v0, v1⟩ := hI.2.2.2.2.1
    have w1 : w < st D 6 := by omega
    obtain ⟨t0, t1⟩ := hI.2.2.2.2.2.2.2.2.1 x x0 x1
    have ht := h.2.2.2.1.2.1 x x0 x1
    have e2 := C98n h hI hIB (d := d - 1) (by omega) w0 w1 t0 t1
    unfold scS2 at e2
    rw [sg_130_18 (by omega)]
    cases z : framedS D (nowP D w (te D x))
    · rw [z] at e2
      simp (disch := omega) only [bI_t, bI_f, decide_true, decide_false, Bool.and_true, Bool.and_false, Bool.true_and, Bool.false_and, Bool.false_eq_true, Bool.and_self, Bool.not_true, Bool.not_false, Bool.true_or, Bool.false_or, Bool.or_true, Bool.or_false, ↓reduceIte] at e2
      obtain ⟨v', e3, r3⟩ := C130I h hI hIB hd x0 x1 r (w + 1) v (by omega) (by omega) (fun a b a0 a1 b0 b1 => by
        rw [hv a b a0 a1 b0 b1]
        constructor
        · rintro ⟨p1, p2, p3⟩; exact ⟨by omega, p2, p3⟩
        · rintro ⟨p1, p2, p3⟩
          refine ⟨?_, p2, p3⟩
          by_cases y : a = x ∧ b = w
          · rw [y.1, y.2, z] at p3; cases p3
          · omega)
      refine ⟨v', ?_, r3⟩
      rw [← e3]
      simp (disch := omega) only [xf, sf, wf, h.2.2.1, h.2.2.2.1.1.2.2.2.2.2.2.2.1, ↓reduceIte, not_false_eq_true, not_true_eq_false, and_self, and_true, true_and, false_and, and_false, or_true, true_or, or_false, false_or, or_self, reduceCtorEq, mm_q, Option.getD_some, cI_some, cJ_some, cV_some, cS_some, kd_sI, kd_sL, kd_sR, kd_cp, ln_sI, ln_sL, ln_sR, ln_cp, gR_sI, gR_sL, gR_sR, gR_cp, gL_sI, gL_sR, gL_cp, gI_sL, gI_sR, iI_add, iI_sub, iI_mul, iI_neg, iI_in, iI_tn, iI_lt, iI_eq, Nat.reduceLeDiff, Nat.reduceEqDiff, Nat.reduceAdd, Int.reduceEq, Int.reduceLT, Int.reduceLE, Int.reduceNeg, Int.reduceAdd, Int.reduceSub, Int.reduceMul, w1, ht, e2, sg_130_64]
    · rw [z] at e2
      simp (disch := omega) only [bI_t, bI_f, decide_true, decide_false, Bool.and_true, Bool.and_false, Bool.true_and, Bool.false_and, Bool.false_eq_true, Bool.and_self, Bool.not_true, Bool.not_false, Bool.true_or, Bool.false_or, Bool.or_true, Bool.or_false, ↓reduceIte] at e2
      have hc := fr_0 hI z
      have pr := nowP_r hI hIB (t := te D x) w0 w1
      have cc := hI.1
      obtain ⟨v', e3, r3⟩ := C130I h hI hIB hd x0 x1 r (w + 1) (v ||| lShl (lI 1) (iI (x * 8 + w))) (by omega) (by omega) (fun a b a0 a1 b0 b1 => by
        rw [or_b (by omega) (by omega) (by omega) (by omega), Bool.or_eq_true, hv a b a0 a1 b0 b1, decide_eq_true_eq]
        constructor
        · rintro (⟨p1, p2, p3⟩ | p)
          · exact ⟨by omega, p2, p3⟩
          · have : a = x ∧ b = w := by omega
            rw [this.1, this.2]
            exact ⟨by omega, w1, z⟩
        · rintro ⟨p1, p2, p3⟩
          by_cases y : a = x ∧ b = w
          · right; omega
          · left; exact ⟨by omega, p2, p3⟩)
      refine ⟨v', ?_, r3⟩
      rw [← e3]
      simp (disch := omega) only [xf, sf, wf, h.2.2.1, h.2.2.2.1.1.2.2.2.2.2.2.2.1, ↓reduceIte, not_false_eq_true, not_true_eq_false, and_self, and_true, true_and, false_and, and_false, or_true, true_or, or_false, false_or, or_self, reduceCtorEq, mm_q, Option.getD_some, cI_some, cJ_some, cV_some, cS_some, kd_sI, kd_sL, kd_sR, kd_cp, ln_sI, ln_sL, ln_sR, ln_cp, gR_sI, gR_sL, gR_sR, gR_cp, gL_sI, gL_sR, gL_cp, gI_sL, gI_sR, iI_add, iI_sub, iI_mul, iI_neg, iI_in, iI_tn, iI_lt, iI_eq, Nat.reduceLeDiff, Nat.reduceEqDiff, Nat.reduceAdd, Int.reduceEq, Int.reduceLT, Int.reduceLE, Int.reduceNeg, Int.reduceAdd, Int.reduceSub, Int.reduceMul, w1, ht, e2, show ¬ nowP D w (te D x) = -1 by omega, sg_130_64]
theorem C130L (h : RQ D m s) (hI : InvS D) (hIB : InvB D (sa D)) (hd : 7 ≤ d) : ∀ (r : Nat) (x : Int) (v : Int64) (z : Option Value), x = st D 5 - r → 0 ≤ x → SWb D v x 0 → ∃ v', mm_ev d 130 4 [some (.ref 100), some (.long v), none, some (.int (iI (x))), z] [] m = some (some (some (.long v')), m) ∧ SWb D v' (st D 5) 0
  | 0, x, v, z, hr, x0, hv => by
    have xf := shX h.1
    have sf := stF h.1 h.2.1
    obtain ⟨v0, v1⟩ := hI.2.2.2.2.1
    refine ⟨v, ?_, by rw [show st D 5 = x by omega]; exact hv⟩
    rw [sg_130_4]
    simp (disch := omega) only [xf, sf, h.2.2.1, h.2.2.2.1.1.2.2.2.2.2.2.1, ↓reduceIte, not_false_eq_true, not_true_eq_false, and_self, and_true, true_and, false_and, and_false, or_true, true_or, or_false, false_or, or_self, reduceCtorEq, mm_q, Option.getD_some, cI_some, cJ_some, cV_some, cS_some, kd_sI, kd_sL, kd_sR, kd_cp, ln_sI, ln_sL, ln_sR, ln_cp, gR_sI, gR_sL, gR_sR, gR_cp, gL_sI, gL_sR, gL_cp, gI_sL, gI_sR, iI_add, iI_sub, iI_mul, iI_neg, iI_in, iI_tn, iI_lt, iI_eq, Nat.reduceLeDiff, Nat.reduceEqDiff, Nat.reduceAdd, Int.reduceEq, Int.reduceLT, Int.reduceLE, Int.reduceNeg, Int.reduceAdd, Int.reduceSub, Int.reduceMul, show ¬ x < st D 5 by omega]
  | r + 1, x, v, z, hr, x0, hv => by
    have xf := shX h.1
    have sf := stF h.1 h.2.1
    obtain ⟨v0, v1⟩ := hI.2.2.2.2.1
    obtain ⟨q0, q1⟩ := hI.2.2.2.2.2.1
    obtain ⟨w1, e1, r1⟩ := C130I h hI hIB hd x0 (show x < st D 5 by omega) (st D 6).toNat 0 v (by omega) (by omega) hv
    obtain ⟨v', e2, r2⟩ := C130L h hI hIB hd r (x + 1) w1 (some (.int (iI (st D 6)))) (by omega) (by omega) r1
    refine ⟨v', ?_, r2⟩
    rw [← e2, ← e1, sg_130_4]
    simp (disch := omega) only [xf, sf, h.2.2.1, h.2.2.2.1.1.2.2.2.2.2.2.1, ↓reduceIte, not_false_eq_true, not_true_eq_false, and_self, and_true, true_and, false_and, and_false, or_true, true_or, or_false, false_or, or_self, reduceCtorEq, mm_q, Option.getD_some, cI_some, cJ_some, cV_some, cS_some, kd_sI, kd_sL, kd_sR, kd_cp, ln_sI, ln_sL, ln_sR, ln_cp, gR_sI, gR_sL, gR_sR, gR_cp, gL_sI, gL_sR, gL_cp, gI_sL, gI_sR, iI_add, iI_sub, iI_mul, iI_neg, iI_in, iI_tn, iI_lt, iI_eq, Nat.reduceLeDiff, Nat.reduceEqDiff, Nat.reduceAdd, Int.reduceEq, Int.reduceLT, Int.reduceLE, Int.reduceNeg, Int.reduceAdd, Int.reduceSub, Int.reduceMul, show x < st D 5 by omega]
theorem fill_y {v : Int64} (hv : SWb D v (st D 5) 0) (hI : InvS D) {x set : Int} (x0 : 0 ≤ x) (x1 : x < st D 5) (s0 : 0 ≤ set) (s1 : set < ((2 ^ (st D 6).toNat : Nat) : Int)) : ∃ Y, (0 ≤ Y ∧ Y < 256) ∧ ((lShr v (iI (x * 8))).toInt32 &&& iI set) = iI Y ∧ bitsN Y = seenN D set x := by
  obtain ⟨v0, v1⟩ := hI.2.2.2.2.1
  obtain ⟨q0, q1⟩ := hI.2.2.2.2.2.1
  have pw := pow_r q1
  refine ⟨_, ?_, iI_bv, ?_⟩
  · have e : ((lShr v (iI (x * 8))).toInt32 &&& iI set).toBitVec.toNat ≤ (iI set).toBitVec.toNat := by
      rw [Int32.toBitVec_and, BitVec.toNat_and]
      exact Nat.and_le_right
    have e2 : (iI set).toBitVec.toNat = set.toNat := by
      show (BitVec.ofInt 32 set).toNat = _
      rw [BitVec.toNat_ofInt]
      omega
    omega
  · have key : ∀ w : Int, 0 ≤ w → w < 8 → hasW ((((lShr v (iI (x * 8))).toInt32 &&& iI set).toBitVec.toNat : Nat) : Int) w = (hasW set w && (decide (w < st D 6) && framedS D (nowP D w (te D x)))) := by
      intro w w0 w1
      rw [hasW_b w0 w1, ← iI_bv, Int32.toBitVec_and, BitVec.getLsbD_and, ← hasW_b w0 w1, Bool.and_comm, Int64.toBitVec_toInt32, BitVec.getLsbD_signExtend, if_pos (show w.toNat < 64 by omega), lshr_b x0 (by omega), BitVec.getLsbD_sshiftRight]
      congr 1
      have hb := hv x w x0 (by omega) w0 w1
      unfold bt at hb
      rw [show (8 * x + w).toNat = (x * 8).toNat + w.toNat by omega] at hb
      rw [if_pos (show (x * 8).toNat + w.toNat < 64 by omega), decide_eq_true (show w.toNat < 32 by omega), decide_eq_false (show ¬ 64 ≤ w.toNat by omega)]
      simp only [Bool.true_and, Bool.not_false]
      cases z : v.toBitVec.getLsbD ((x * 8).toNat + w.toNat)
      · symm
        rw [z] at hb
        cases y : (decide (w < st D 6) && framedS D (nowP D w (te D x)))
        · rfl
        · rw [Bool.and_eq_true, decide_eq_true_eq] at y
          exact absurd (hb.mpr ⟨by omega, y.1, y.2⟩) (by decide)
      · have := hb.mp z
        rw [decide_eq_true this.2.1, this.2.2]
        rfl
    unfold bitsN seenN
    rw [show 8 = (st D 6).toNat + (8 - (st D 6).toNat) by omega, cntGo_sp]
    rw [cntGo_z (8 - (st D 6).toNat) _ (fun i i0 i1 => by rw [key i (by omega) (by omega), decide_eq_false (by omega)]; simp), Int.add_zero]
    refine cntGo_c _ _ (fun i i0 i1 => ?_)
    rw [key i i0 (by omega), decide_eq_true (by omega), Bool.true_and]
/-- fills -/
theorem C131L (h : RQ D m s) (hI : InvS D) (hd : 2 ≤ d) {v : Int64} (hv : SWb D v (st D 5) 0) {set many : Int} (s0 : 0 ≤ set) (s1 : set < ((2 ^ (st D 6).toNat : Nat) : Int)) (y0 : 0 ≤ many) (y1 : many ≤ 8) : ∀ (r : Nat) (x : Int) (z : Option Value), x = st D 5 - r → 0 ≤ x → mm_ev d 131 3 [some (.ref 100), some (.int (iI (set))), some (.int (iI (many))), some (.long v), none, some (.int (iI (x))), z] [] m = some (some (some (.int (iI (bI (allB (fun s => decide (many ≤ seenN D set s)) r x))))), m)
  | 0, x, z, hr, x0 => by
    have xf := shX h.1
    have sf := stF h.1 h.2.1
    obtain ⟨v0, v1⟩ := hI.2.2.2.2.1
    rw [sg_131_3 (by omega)]
    unfold allB
    simp (disch := omega) only [xf, sf, h.2.2.1, h.2.2.2.1.1.2.2.2.2.2.2.1, ↓reduceIte, not_false_eq_true, not_true_eq_false, and_self, and_true, true_and, false_and, and_false, or_true, true_or, or_false, false_or, or_self, reduceCtorEq, mm_q, Option.getD_some, cI_some, cJ_some, cV_some, cS_some, kd_sI, kd_sL, kd_sR, kd_cp, ln_sI, ln_sL, ln_sR, ln_cp, gR_sI, gR_sL, gR_sR, gR_cp, gL_sI, gL_sR, gL_cp, gI_sL, gI_sR, iI_add, iI_sub, iI_mul, iI_neg, iI_in, iI_tn, iI_lt, iI_eq, Nat.reduceLeDiff, Nat.reduceEqDiff, Nat.reduceAdd, Int.reduceEq, Int.reduceLT, Int.reduceLE, Int.reduceNeg, Int.reduceAdd, Int.reduceSub, Int.reduceMul, bI_t, bI_f, decide_true, decide_false, Bool.and_true, Bool.and_false, Bool.true_and, Bool.false_and, Bool.false_eq_true, Bool.and_self, Bool.not_true, Bool.not_false, Bool.true_or, Bool.false_or, Bool.or_true, Bool.or_false, show ¬ x < st D 5 by omega]
  | r + 1, x, z, hr, x0 => by
    have xf := shX h.1
    have sf := stF h.1 h.2.1
    obtain ⟨v0, v1⟩ := hI.2.2.2.2.1
    obtain ⟨Y, ⟨a0, a1⟩, eY, eb⟩ := fill_y hv hI x0 (show x < st D 5 by omega) s0 s1
    have br := bitsN_r (x := Y)
    rw [sg_131_3 (by omega)]
    unfold allB
    rw [← eb]
    by_cases y : many ≤ bitsN Y
    · rw [decide_eq_true y, Bool.true_and]
      simp (disch := omega) only [xf, sf, h.2.2.1, h.2.2.2.1.1.2.2.2.2.2.2.1, ↓reduceIte, not_false_eq_true, not_true_eq_false, and_self, and_true, true_and, false_and, and_false, or_true, true_or, or_false, false_or, or_self, reduceCtorEq, mm_q, Option.getD_some, cI_some, cJ_some, cV_some, cS_some, kd_sI, kd_sL, kd_sR, kd_cp, ln_sI, ln_sL, ln_sR, ln_cp, gR_sI, gR_sL, gR_sR, gR_cp, gL_sI, gL_sR, gL_cp, gI_sL, gI_sR, iI_add, iI_sub, iI_mul, iI_neg, iI_in, iI_tn, iI_lt, iI_eq, Nat.reduceLeDiff, Nat.reduceEqDiff, Nat.reduceAdd, Int.reduceEq, Int.reduceLT, Int.reduceLE, Int.reduceNeg, Int.reduceAdd, Int.reduceSub, Int.reduceMul, show x < st D 5 by omega, eY, C279 a0 a1, show ¬ bitsN Y < many by omega]
      exact C131L h hI hd hv s0 s1 y0 y1 r (x + 1) _ (by omega) (by omega)
    · rw [decide_eq_false y, Bool.false_and]
      simp (disch := omega) only [xf, sf, h.2.2.1, h.2.2.2.1.1.2.2.2.2.2.2.1, ↓reduceIte, not_false_eq_true, not_true_eq_false, and_self, and_true, true_and, false_and, and_false, or_true, true_or, or_false, false_or, or_self, reduceCtorEq, mm_q, Option.getD_some, cI_some, cJ_some, cV_some, cS_some, kd_sI, kd_sL, kd_sR, kd_cp, ln_sI, ln_sL, ln_sR, ln_cp, gR_sI, gR_sL, gR_sR, gR_cp, gL_sI, gL_sR, gL_cp, gI_sL, gI_sR, iI_add, iI_sub, iI_mul, iI_neg, iI_in, iI_tn, iI_lt, iI_eq, Nat.reduceLeDiff, Nat.reduceEqDiff, Nat.reduceAdd, Int.reduceEq, Int.reduceLT, Int.reduceLE, Int.reduceNeg, Int.reduceAdd, Int.reduceSub, Int.reduceMul, bI_t, bI_f, decide_true, decide_false, Bool.and_true, Bool.and_false, Bool.true_and, Bool.false_and, Bool.false_eq_true, Bool.and_self, Bool.not_true, Bool.not_false, Bool.true_or, Bool.false_or, Bool.or_true, Bool.or_false, show x < st D 5 by omega, eY, C279 a0 a1, show bitsN Y < many by omega]
/-- full -/
theorem C129L (h : RQ D m s) (hI : InvS D) (hd : 4 ≤ d) {v : Int64} (hv : SWb D v (st D 5) 0) {many : Int} (y0 : 0 ≤ many) (y1 : many ≤ 8) : ∀ (r : Nat) (x b fw : Int) (z : Option Value), x = ((2 ^ (st D 6).toNat : Nat) : Int) - r → 0 ≤ x → -1 ≤ b → b < 256 → fw = (if b < 0 then 9 else bitsN b) → mm_ev d 129 37 [some (.ref 100), some (.int (iI (many))), some (.int (iI (b))), some (.int (iI (fw))), some (.int (iI (((2 ^ (st D 6).toNat : Nat) : Int)))), some (.long v), none, some (.int (iI (x))), z] [] m = some (some (some (.int (iI (fullGo D many r x b)))), m)
  | 0, x, b, fw, z, hr, x0, b0, b1, hf => by
    obtain ⟨q0, q1⟩ := hI.2.2.2.2.2.1
    have pw := pow_r q1
    rw [sg_129_37 (by omega)]
    unfold fullGo
    simp (disch := omega) only [↓reduceIte, not_false_eq_true, not_true_eq_false, and_self, and_true, true_and, false_and, and_false, or_true, true_or, or_false, false_or, or_self, reduceCtorEq, mm_q, Option.getD_some, cI_some, cJ_some, cV_some, cS_some, kd_sI, kd_sL, kd_sR, kd_cp, ln_sI, ln_sL, ln_sR, ln_cp, gR_sI, gR_sL, gR_sR, gR_cp, gL_sI, gL_sR, gL_cp, gI_sL, gI_sR, iI_add, iI_sub, iI_mul, iI_neg, iI_in, iI_tn, iI_lt, iI_eq, Nat.reduceLeDiff, Nat.reduceEqDiff, Nat.reduceAdd, Int.reduceEq, Int.reduceLT, Int.reduceLE, Int.reduceNeg, Int.reduceAdd, Int.reduceSub, Int.reduceMul, show ¬ x < ((2 ^ (st D 6).toNat : Nat) : Int) by omega]
  | r + 1, x, b, fw, z, hr, x0, b0, b1, hf => by
    have xf := shX h.1
    obtain ⟨q0, q1⟩ := hI.2.2.2.2.2.1
    obtain ⟨v0, v1⟩ := hI.2.2.2.2.1
    have pw := pow_r q1
    have bx := bitsN_r (x := x)
    have bb := bitsN_r (x := b)
    have x1 : x < ((2 ^ (st D 6).toNat : Nat) : Int) := by omega
    have ef : fewer x b = decide (bitsN x < fw) := by
      unfold fewer
      by_cases y : b < 0
      · rw [decide_eq_true y, Bool.true_or, hf, if_pos y, decide_eq_true (by omega)]
      · rw [decide_eq_false y, Bool.false_or, hf, if_neg y, bitsS_N x0 (by omega), bitsS_N (by omega) b1]
        congr 1
        exact iI_lt (by omega) (by omega) (by omega) (by omega)
    have ih := fun b fw z => C129L h hI hd hv y0 y1 r (x + 1) b fw z (by omega) (by omega)
    rw [sg_129_37 (by omega)]
    unfold fullGo
    rw [ef]
    simp (disch := omega) only [↓reduceIte, not_false_eq_true, not_true_eq_false, and_self, and_true, true_and, false_and, and_false, or_true, true_or, or_false, false_or, or_self, reduceCtorEq, mm_q, Option.getD_some, cI_some, cJ_some, cV_some, cS_some, kd_sI, kd_sL, kd_sR, kd_cp, ln_sI, ln_sL, ln_sR, ln_cp, gR_sI, gR_sL, gR_sR, gR_cp, gL_sI, gL_sR, gL_cp, gI_sL, gI_sR, iI_add, iI_sub, iI_mul, iI_neg, iI_in, iI_tn, iI_lt, iI_eq, Nat.reduceLeDiff, Nat.reduceEqDiff, Nat.reduceAdd, Int.reduceEq, Int.reduceLT, Int.reduceLE, Int.reduceNeg, Int.reduceAdd, Int.reduceSub, Int.reduceMul, x1, C279 x0 (show x < 256 by omega)]
    rw [sg_129_49 (by omega)]
    have e131 : mm_ev (d - 1) 131 0 [some (.ref 100), some (.int (iI (x))), some (.int (iI (many))), some (.long v), none, none, none] [] m = some (some (some (.int (iI (bI (enoughS D x many))))), m) := by
      rw [sg_131_0]
      exact C131L h hI (by omega) hv x0 x1 y0 y1 (st D 5).toNat 0 none (by omega) (by omega)
    by_cases y : bitsN x < fw
    · cases y2 : enoughS D x many
      · simp (disch := omega) only [xf, ↓reduceIte, not_false_eq_true, not_true_eq_false, and_self, and_true, true_and, false_and, and_false, or_true, true_or, or_false, false_or, or_self, reduceCtorEq, mm_q, Option.getD_some, cI_some, cJ_some, cV_some, cS_some, kd_sI, kd_sL, kd_sR, kd_cp, ln_sI, ln_sL, ln_sR, ln_cp, gR_sI, gR_sL, gR_sR, gR_cp, gL_sI, gL_sR, gL_cp, gI_sL, gI_sR, iI_add, iI_sub, iI_mul, iI_neg, iI_in, iI_tn, iI_lt, iI_eq, Nat.reduceLeDiff, Nat.reduceEqDiff, Nat.reduceAdd, Int.reduceEq, Int.reduceLT, Int.reduceLE, Int.reduceNeg, Int.reduceAdd, Int.reduceSub, Int.reduceMul, bI_t, bI_f, decide_true, decide_false, Bool.and_true, Bool.and_false, Bool.true_and, Bool.false_and, Bool.false_eq_true, Bool.and_self, Bool.not_true, Bool.not_false, Bool.true_or, Bool.false_or, Bool.or_true, Bool.or_false, y, e131, y2, sg_129_75]
        exact ih b fw _ b0 b1 hf
      · simp (disch := omega) only [xf, ↓reduceIte, not_false_eq_true, not_true_eq_false, and_self, and_true, true_and, false_and, and_false, or_true, true_or, or_false, false_or, or_self, reduceCtorEq, mm_q, Option.getD_some, cI_some, cJ_some, cV_some, cS_some, kd_sI, kd_sL, kd_sR, kd_cp, ln_sI, ln_sL, ln_sR, ln_cp, gR_sI, gR_sL, gR_sR, gR_cp, gL_sI, gL_sR, gL_cp, gI_sL, gI_sR, iI_add, iI_sub, iI_mul, iI_neg, iI_in, iI_tn, iI_lt, iI_eq, Nat.reduceLeDiff, Nat.reduceEqDiff, Nat.reduceAdd, Int.reduceEq, Int.reduceLT, Int.reduceLE, Int.reduceNeg, Int.reduceAdd, Int.reduceSub, Int.reduceMul, bI_t, bI_f, decide_true, decide_false, Bool.and_true, Bool.and_false, Bool.true_and, Bool.false_and, Bool.false_eq_true, Bool.and_self, Bool.not_true, Bool.not_false, Bool.true_or, Bool.false_or, Bool.or_true, Bool.or_false, y, e131, y2, sg_129_75]
        exact ih x (bitsN x) _ (by omega) (by omega) (by rw [if_neg (by omega)])
    · simp (disch := omega) only [↓reduceIte, not_false_eq_true, not_true_eq_false, and_self, and_true, true_and, false_and, and_false, or_true, true_or, or_false, false_or, or_self, reduceCtorEq, mm_q, Option.getD_some, cI_some, cJ_some, cV_some, cS_some, kd_sI, kd_sL, kd_sR, kd_cp, ln_sI, ln_sL, ln_sR, ln_cp, gR_sI, gR_sL, gR_sR, gR_cp, gL_sI, gL_sR, gL_cp, gI_sL, gI_sR, iI_add, iI_sub, iI_mul, iI_neg, iI_in, iI_tn, iI_lt, iI_eq, Nat.reduceLeDiff, Nat.reduceEqDiff, Nat.reduceAdd, Int.reduceEq, Int.reduceLT, Int.reduceLE, Int.reduceNeg, Int.reduceAdd, Int.reduceSub, Int.reduceMul, bI_t, bI_f, decide_true, decide_false, Bool.and_true, Bool.and_false, Bool.true_and, Bool.false_and, Bool.false_eq_true, Bool.and_self, Bool.not_true, Bool.not_false, Bool.true_or, Bool.false_or, Bool.or_true, Bool.or_false, y, sg_129_75]
      exact ih b fw _ b0 b1 hf
theorem C129 (h : RQ D m s) (hI : InvS D) (hL : InvL D) (hIB : InvB D (sa D)) (hd : 9 ≤ d) {many : Int} (many_0 : -2147483648 ≤ many) (many_1 : many < 2147483648) : mm_ev d 129 0 [some (.ref 100), some (.int (iI (many))), none, none, none, none, none, none, none] [] m = some (some (some (.int (iI (fullS D many)))), m) := by
  obtain ⟨q0, q1⟩ := hI.2.2.2.2.2.1
  obtain ⟨v0, v1⟩ := hI.2.2.2.2.1
  have pw := pow_r q1
  have xf := shX h.1
  have sf := stF h.1 h.2.1
  rw [sg_129_0 (by omega)]
  unfold fullS
  cases z2 : inB many 0 8
  · have z3 : ¬ (0 ≤ many ∧ many ≤ 8) := fun y => by rw [inB_t.mpr y] at z2; cases z2
    by_cases z4 : many < 0
    · simp (disch := omega) only [↓reduceIte, not_false_eq_true, not_true_eq_false, and_self, and_true, true_and, false_and, and_false, or_true, true_or, or_false, false_or, or_self, reduceCtorEq, mm_q, Option.getD_some, cI_some, cJ_some, cV_some, cS_some, kd_sI, kd_sL, kd_sR, kd_cp, ln_sI, ln_sL, ln_sR, ln_cp, gR_sI, gR_sL, gR_sR, gR_cp, gL_sI, gL_sR, gL_cp, gI_sL, gI_sR, iI_add, iI_sub, iI_mul, iI_neg, iI_in, iI_tn, iI_lt, iI_eq, Nat.reduceLeDiff, Nat.reduceEqDiff, Nat.reduceAdd, Int.reduceEq, Int.reduceLT, Int.reduceLE, Int.reduceNeg, Int.reduceAdd, Int.reduceSub, Int.reduceMul, bI_t, bI_f, decide_true, decide_false, Bool.and_true, Bool.and_false, Bool.true_and, Bool.false_and, Bool.false_eq_true, Bool.and_self, Bool.not_true, Bool.not_false, Bool.true_or, Bool.false_or, Bool.or_true, Bool.or_false, z4]
    · simp (disch := omega) only [↓reduceIte, not_false_eq_true, not_true_eq_false, and_self, and_true, true_and, false_and, and_false, or_true, true_or, or_false, false_or, or_self, reduceCtorEq, mm_q, Option.getD_some, cI_some, cJ_some, cV_some, cS_some, kd_sI, kd_sL, kd_sR, kd_cp, ln_sI, ln_sL, ln_sR, ln_cp, gR_sI, gR_sL, gR_sR, gR_cp, gL_sI, gL_sR, gL_cp, gI_sL, gI_sR, iI_add, iI_sub, iI_mul, iI_neg, iI_in, iI_tn, iI_lt, iI_eq, Nat.reduceLeDiff, Nat.reduceEqDiff, Nat.reduceAdd, Int.reduceEq, Int.reduceLT, Int.reduceLE, Int.reduceNeg, Int.reduceAdd, Int.reduceSub, Int.reduceMul, bI_t, bI_f, decide_true, decide_false, Bool.and_true, Bool.and_false, Bool.true_and, Bool.false_and, Bool.false_eq_true, Bool.and_self, Bool.not_true, Bool.not_false, Bool.true_or, Bool.false_or, Bool.or_true, Bool.or_false, z4, show 8 < many by omega]
  · obtain ⟨b0, b1⟩ := inB_t.mp z2
    obtain ⟨v, e, hv⟩ := C130L (d := d - 1) h hI hIB (by omega) (st D 5).toNat 0 (lI 0) none (by omega) (by omega) (fun a b a0 a1 b0 b1 => by
      rw [bt0]
      constructor
      · intro q; cases q
      · rintro ⟨p1, p2, p3⟩; omega)
    have e130 : mm_ev (d - 1) 130 0 [some (.ref 100), none, none, none, none] [] m = some (some (some (.long v)), m) := by rw [sg_130_0]; exact e
    simp (disch := omega) only [xf, sf, h.2.2.1, h.2.2.2.1.1.2.2.2.2.2.2.2.1, ↓reduceIte, not_false_eq_true, not_true_eq_false, and_self, and_true, true_and, false_and, and_false, or_true, true_or, or_false, false_or, or_self, reduceCtorEq, mm_q, Option.getD_some, cI_some, cJ_some, cV_some, cS_some, kd_sI, kd_sL, kd_sR, kd_cp, ln_sI, ln_sL, ln_sR, ln_cp, gR_sI, gR_sL, gR_sR, gR_cp, gL_sI, gL_sR, gL_cp, gI_sL, gI_sR, iI_add, iI_sub, iI_mul, iI_neg, iI_in, iI_tn, iI_lt, iI_eq, Nat.reduceLeDiff, Nat.reduceEqDiff, Nat.reduceAdd, Int.reduceEq, Int.reduceLT, Int.reduceLE, Int.reduceNeg, Int.reduceAdd, Int.reduceSub, Int.reduceMul, bI_t, bI_f, decide_true, decide_false, Bool.and_true, Bool.and_false, Bool.true_and, Bool.false_and, Bool.false_eq_true, Bool.and_self, Bool.not_true, Bool.not_false, Bool.true_or, Bool.false_or, Bool.or_true, Bool.or_false, show ¬ many < 0 by omega, show ¬ 8 < many by omega, e130, shl_p q0 q1]
    exact C129L h hI (by omega) hv b0 b1 (2 ^ (st D 6).toNat) 0 (-1) 9 none (by omega) (by omega) (by omega) (by omega) rfl
end
