def mayS (D : Nat → Nat → Int32) (c : Int → Int) (i a : Int) (lg : Int → Int) : Bool := holdS D c i a && allB (fun k => fitS D c i a k (lg k)) i.toNat 0
/-- least sum, its lags, lags under way -/
def thrL (rec : Int → Int × (Int → Int) × (Int → Int) → Int × (Int → Int) × (Int → Int)) (may : Int → Int → (Int → Int) → Bool) (i sum : Int) : Nat → Int → Int × (Int → Int) × (Int → Int) → Int × (Int → Int) × (Int → Int)
  | 0, _, s => s
  | r + 1, a, s => thrL rec may i sum r (a + 1) (if may i a s.2.2 = true then rec (sum + a) (s.1, s.2.1, updB s.2.2 i a) else s)
def cpL (n : Int) (lg bl : Int → Int) : Int → Int := fun k => if 0 ≤ k ∧ k < n then lg k else bl k
def thr (may : Int → Int → (Int → Int) → Bool) (n : Int) : Nat → Int → Int → Int × (Int → Int) × (Int → Int) → Int × (Int → Int) × (Int → Int)
  | 0, _, sum, s => if s.1 < 0 ∨ sum < s.1 then (sum, cpL n s.2.2 s.2.1, s.2.2) else s
  | f + 1, i, sum, s => if s.1 < 0 ∨ sum < s.1 then thrL (thr may n f (i + 1)) may i sum 24 0 s else s
def GT (m : mm_M) (s : Int × (Int → Int) × (Int → Int)) : Prop := mm_gI m 316 34 = iI s.1 ∧ ∀ i, 0 ≤ i → i < 4 → mm_gI m 338 i.toNat = iI (s.2.2 i) ∧ mm_gI m 339 i.toNat = iI (s.2.1 i)
def scG (a k : Nat) : Bool := Nat.beq a 338 || Nat.beq a 339 || (Nat.beq a 316 && Nat.beq k 34)
section
variable {may : Int → Int → (Int → Int) → Bool} {n : Int}
/-- earlier lags stay -/
theorem thrL_k {rec : Int → Int × (Int → Int) × (Int → Int) → Int × (Int → Int) × (Int → Int)} {i sum : Int} (hr : ∀ v s k, k < i + 1 → (rec v s).2.2 k = s.2.2 k) : ∀ (r : Nat) (a : Int) (s : Int × (Int → Int) × (Int → Int)) (k : Int), k < i → (thrL rec may i sum r a s).2.2 k = s.2.2 k
  | 0, _, _, _, _ => rfl
  | r + 1, a, s, k, hk => by
    unfold thrL
    rw [thrL_k hr r (a + 1) _ k hk]
    split
    · rw [hr _ _ k (by omega)]
      simp only [updB]
      rw [if_neg (by omega)]
    · rfl
theorem thr_k : ∀ (f : Nat) (i sum : Int) (s : Int × (Int → Int) × (Int → Int)) (k : Int), k < i → (thr may n f i sum s).2.2 k = s.2.2 k
  | 0, i, sum, s, k, hk => by
    unfold thr
    split <;> rfl
  | f + 1, i, sum, s, k, hk => by
    unfold thr
    split
    · exact thrL_k (fun v s k hk => thr_k f (i + 1) v s k hk) _ _ _ k hk
    · rfl
theorem thrL_r {rec : Int → Int × (Int → Int) × (Int → Int) → Int × (Int → Int) × (Int → Int)} {i sum u : Int} (hr : ∀ v s, 0 ≤ v → v ≤ u → -1 ≤ s.1 → s.1 ≤ 1000 → -1 ≤ (rec v s).1 ∧ (rec v s).1 ≤ 1000) (h0 : 0 ≤ sum) : ∀ (r : Nat) (a : Int) (s : Int × (Int → Int) × (Int → Int)), 0 ≤ a → sum + a + r ≤ u + 1 → -1 ≤ s.1 → s.1 ≤ 1000 → -1 ≤ (thrL rec may i sum r a s).1 ∧ (thrL rec may i sum r a s).1 ≤ 1000
  | 0, _, _, _, _, h1, h2 => ⟨h1, h2⟩
  | r + 1, a, s, a0, hu, h1, h2 => by
    unfold thrL
    split
    · have := hr (sum + a) (s.1, s.2.1, updB s.2.2 i a) (by omega) (by omega) h1 h2
      exact thrL_r hr h0 r (a + 1) _ (by omega) (by omega) this.1 this.2
    · exact thrL_r hr h0 r (a + 1) _ (by omega) (by omega) h1 h2
theorem thr_r : ∀ (f : Nat) (i sum : Int) (s : Int × (Int → Int) × (Int → Int)), 0 ≤ sum → sum + 23 * f ≤ 1000 → -1 ≤ s.1 → s.1 ≤ 1000 → -1 ≤ (thr may n f i sum s).1 ∧ (thr may n f i sum s).1 ≤ 1000
  | 0, i, sum, s, h0, h1, h2, h3 => by
    unfold thr
    split
    · simp only; omega
    · omega
  | f + 1, i, sum, s, h0, h1, h2, h3 => by
    unfold thr
    split
    · exact thrL_r (u := sum + 23) (fun v s v0 v1 s0 s1 => thr_r f (i + 1) v s v0 (by omega) s0 s1) h0 24 0 s (by omega) (by omega) h2 h3
    · omega
end
section
variable {D : Nat → Nat → Int32} {E : Nat → Nat → Int64} {m m' m'' : mm_M} {d : Nat} {n : Int} {c : Int → Int}
theorem scG_M {a k : Nat} (h : scM a k = false) : scG a k = false := by
  unfold scG
  cases e1 : Nat.beq a 338
  · cases e2 : Nat.beq a 339
    · cases e3 : Nat.beq a 316
      · rfl
      · cases e4 : Nat.beq k 34
        · rfl
        · rw [Nat.eq_of_beq_eq_true e3, Nat.eq_of_beq_eq_true e4] at h
          exact absurd h (by simp [scM, pmI, pmL])
    · rw [Nat.eq_of_beq_eq_true e2] at h
      exact absurd h (by simp [scM, pmI, pmL])
  · rw [Nat.eq_of_beq_eq_true e1] at h
    exact absurd h (by simp [scM, pmI, pmL])
theorem Fr.GM (h : Fr scG m m') : Fr scM m m' := h.mono (fun _ _ => scG_M)
theorem Cho.frG (h : Cho D m n c) (f : Fr scG m m') : Cho D m' n c := ⟨(f.gI rfl).trans h.1, fun i i0 i1 => ⟨(f.gI rfl).trans (h.2 i i0 i1).1, (f.gI rfl).trans (h.2 i i0 i1).2⟩⟩
theorem Lay.frG {x y : Int} (h : Lay D c m x y) (f : Fr scG m m') : Lay D c m' x y := fun i a i0 a0 a1 z => ⟨(f.gI rfl).trans (h i a i0 a0 a1 z).1, fun k b q0 q1 q2 q3 => (f.gI rfl).trans ((h i a i0 a0 a1 z).2 k b q0 q1 q2 q3)⟩
/-- goesThrough: may -/
theorem M251m (h : MD D E m) (hc : coK D n c) (hl : Lay D c m n 0) {s : Int × (Int → Int) × (Int → Int)} (hg : GT m s) (hd : 1 ≤ d) {i sum a : Int} (i0 : 0 ≤ i) (i1 : i < n) (a0 : 0 ≤ a) (a1 : a < 24) (hk : ∀ k, 0 ≤ k → k < i → 0 ≤ s.2.2 k ∧ s.2.2 k < 24) : ∀ (r : Nat) (k : Int) (is : Bool), k = i - r → 0 ≤ k → mm_ev d 251 79 [some (.ref 316), some (.int (iI (i))), some (.int (iI (sum))), some (.int (iI (a))), some (.int (iI (bI is))), some (.int (iI (k)))] [] m = mm_ev d 251 79 [some (.ref 316), some (.int (iI (i))), some (.int (iI (sum))), some (.int (iI (a))), some (.int (iI (bI (is && allB (fun k => fitS D c i a k (s.2.2 k)) r k)))), some (.int (iI (i)))] [] m
  | 0, k, is, hk0, k0 => by
    unfold allB
    rw [Bool.and_true, show k = i by omega]
  | r + 1, k, is, hk0, k0 => by
    obtain ⟨n0, n1⟩ := hc.1
    have ih := fun is => M251m h hc hl hg hd (sum := sum) i0 i1 a0 a1 hk r (k + 1) is (by omega) (by omega)
    obtain ⟨g1, g2⟩ := hk k k0 (by omega)
    have q1 := (hg.2 k k0 (by omega)).1
    have q2 := (hl i a i0 a0 a1 (by omega)).2 k (s.2.2 k) k0 (by omega) g1 g2
    unfold FIT at q2
    unfold allB
    rw [sg_251_79 (by omega)]
    cases is with
    | false =>
      have e := ih false
      simp (disch := omega) only [↓reduceIte, not_false_eq_true, not_true_eq_false, and_self, and_true, true_and, false_and, and_false, or_true, true_or, or_false, false_or, or_self, reduceCtorEq, mm_q, Option.getD_some, cI_some, cJ_some, cV_some, cS_some, kd_sI, kd_sL, kd_sR, kd_cp, ln_sI, ln_sL, ln_sR, ln_cp, gR_sI, gR_sL, gR_sR, gR_cp, gL_sI, gL_sR, gL_cp, gI_sL, gI_sR, iI_add, iI_sub, iI_mul, iI_neg, iI_in, iI_tn, iI_lt, iI_eq, Nat.reduceLeDiff, Nat.reduceEqDiff, Nat.reduceAdd, Int.reduceEq, Int.reduceLT, Int.reduceLE, Int.reduceNeg, Int.reduceAdd, Int.reduceSub, Int.reduceMul, bI_t, bI_f, decide_true, decide_false, Bool.and_true, Bool.and_false, Bool.true_and, Bool.false_and, Bool.false_eq_true, Bool.and_self, Bool.not_true, Bool.not_false, Bool.true_or, Bool.false_or, Bool.or_true, Bool.or_false, show k < i by omega, sg_251_117, sg_251_118] at e ⊢
      exact e
    | true =>
      cases z : fitS D c i a k (s.2.2 k)
      · have e := ih false
        rw [z] at q2
        simp (disch := omega) only [shM h.1, ↓reduceIte, not_false_eq_true, not_true_eq_false, and_self, and_true, true_and, false_and, and_false, or_true, true_or, or_false, false_or, or_self, reduceCtorEq, mm_q, Option.getD_some, cI_some, cJ_some, cV_some, cS_some, kd_sI, kd_sL, kd_sR, kd_cp, ln_sI, ln_sL, ln_sR, ln_cp, gR_sI, gR_sL, gR_sR, gR_cp, gL_sI, gL_sR, gL_cp, gI_sL, gI_sR, iI_add, iI_sub, iI_mul, iI_neg, iI_in, iI_tn, iI_lt, iI_eq, Nat.reduceLeDiff, Nat.reduceEqDiff, Nat.reduceAdd, Int.reduceEq, Int.reduceLT, Int.reduceLE, Int.reduceNeg, Int.reduceAdd, Int.reduceSub, Int.reduceMul, bI_t, bI_f, decide_true, decide_false, Bool.and_true, Bool.and_false, Bool.true_and, Bool.false_and, Bool.false_eq_true, Bool.and_self, Bool.not_true, Bool.not_false, Bool.true_or, Bool.false_or, Bool.or_true, Bool.or_false, show k < i by omega, q1, M249, q2, sg_251_117, sg_251_118] at e ⊢
        exact e
      · have e := ih true
        rw [z] at q2
        simp (disch := omega) only [shM h.1, ↓reduceIte, not_false_eq_true, not_true_eq_false, and_self, and_true, true_and, false_and, and_false, or_true, true_or, or_false, false_or, or_self, reduceCtorEq, mm_q, Option.getD_some, cI_some, cJ_some, cV_some, cS_some, kd_sI, kd_sL, kd_sR, kd_cp, ln_sI, ln_sL, ln_sR, ln_cp, gR_sI, gR_sL, gR_sR, gR_cp, gL_sI, gL_sR, gL_cp, gI_sL, gI_sR, iI_add, iI_sub, iI_mul, iI_neg, iI_in, iI_tn, iI_lt, iI_eq, Nat.reduceLeDiff, Nat.reduceEqDiff, Nat.reduceAdd, Int.reduceEq, Int.reduceLT, Int.reduceLE, Int.reduceNeg, Int.reduceAdd, Int.reduceSub, Int.reduceMul, bI_t, bI_f, decide_true, decide_false, Bool.and_true, Bool.and_false, Bool.true_and, Bool.false_and, Bool.false_eq_true, Bool.and_self, Bool.not_true, Bool.not_false, Bool.true_or, Bool.false_or, Bool.or_true, Bool.or_false, show k < i by omega, q1, M249, q2, sg_251_117, sg_251_118] at e ⊢
        exact e
/-- goesThrough: the copy -/
theorem M251c (hc : coK D n c) {sum : Int} {lg : Int → Int} : ∀ (r : Nat) (k : Int) (bl : Int → Int) (m : mm_M), k = n - r → 0 ≤ k → Sh m → GT m (sum, bl, lg) → (∀ j, 0 ≤ j → j < k → bl j = lg j) → ∃ m', mm_ev d 251 31 [some (.ref 316), some (.int (iI (n))), some (.int (iI (sum))), some (.int (iI (k))), none, none] [] m = some (some none, m') ∧ Fr scG m m' ∧ GT m' (sum, cpL n lg bl, lg)
  | 0, k, bl, m, hk, k0, hs, hg, hb => by
    obtain ⟨n0, n1⟩ := hc.1
    refine ⟨m, ?_, Fr.rf, hg.1, fun i i0 i1 => ⟨(hg.2 i i0 i1).1, ?_⟩⟩
    · rw [sg_251_31]
      simp (disch := omega) only [↓reduceIte, not_false_eq_true, not_true_eq_false, and_self, and_true, true_and, false_and, and_false, or_true, true_or, or_false, false_or, or_self, reduceCtorEq, mm_q, Option.getD_some, cI_some, cJ_some, cV_some, cS_some, kd_sI, kd_sL, kd_sR, kd_cp, ln_sI, ln_sL, ln_sR, ln_cp, gR_sI, gR_sL, gR_sR, gR_cp, gL_sI, gL_sR, gL_cp, gI_sL, gI_sR, iI_add, iI_sub, iI_mul, iI_neg, iI_in, iI_tn, iI_lt, iI_eq, Nat.reduceLeDiff, Nat.reduceEqDiff, Nat.reduceAdd, Int.reduceEq, Int.reduceLT, Int.reduceLE, Int.reduceNeg, Int.reduceAdd, Int.reduceSub, Int.reduceMul, show ¬ k < n by omega]
    · rw [(hg.2 i i0 i1).2]
      simp only [cpL]
      split
      · rw [hb i i0 (by omega)]
      · rfl
  | r + 1, k, bl, m, hk, k0, hs, hg, hb => by
    obtain ⟨n0, n1⟩ := hc.1
    have g1 : Fr scG m (mm_sI m 339 k.toNat (iI (lg k))) := Fr.sI rfl
    have hg1 : GT (mm_sI m 339 k.toNat (iI (lg k))) (sum, updB bl k (lg k), lg) := by
      refine ⟨?_, fun i i0 i1 => ⟨?_, ?_⟩⟩
      · rw [gI_sI, if_neg (by omega)]; exact hg.1
      · rw [gI_sI, if_neg (by omega)]; exact (hg.2 i i0 i1).1
      · rw [gI_sI]
        simp only [updB]
        by_cases z : i = k
        · rw [if_pos ⟨trivial, by omega⟩, if_pos z]
        · rw [if_neg (by omega), if_neg z]; exact (hg.2 i i0 i1).2
    obtain ⟨m', e1, f1, r1⟩ := M251c hc r (k + 1) (updB bl k (lg k)) _ (by omega) (by omega) (g1.sh hs) hg1 (fun j j0 j1 => by
      unfold updB
      split
      · next z => rw [z]
      · exact hb j j0 (by omega))
    refine ⟨m', ?_, g1.tr f1, ?_⟩
    · rw [sg_251_31]
      have q := (hg.2 k k0 (by omega)).1
      simp (disch := omega) only [shM hs, ↓reduceIte, not_false_eq_true, not_true_eq_false, and_self, and_true, true_and, false_and, and_false, or_true, true_or, or_false, false_or, or_self, reduceCtorEq, mm_q, Option.getD_some, cI_some, cJ_some, cV_some, cS_some, kd_sI, kd_sL, kd_sR, kd_cp, ln_sI, ln_sL, ln_sR, ln_cp, gR_sI, gR_sL, gR_sR, gR_cp, gL_sI, gL_sR, gL_cp, gI_sL, gI_sR, iI_add, iI_sub, iI_mul, iI_neg, iI_in, iI_tn, iI_lt, iI_eq, Nat.reduceLeDiff, Nat.reduceEqDiff, Nat.reduceAdd, Int.reduceEq, Int.reduceLT, Int.reduceLE, Int.reduceNeg, Int.reduceAdd, Int.reduceSub, Int.reduceMul, show k < n by omega, q]
      exact e1
    · have : cpL n lg (updB bl k (lg k)) = cpL n lg bl := by
        funext j
        unfold cpL updB
        split
        · rfl
        · rw [if_neg (by omega)]
      rw [this] at r1
      exact r1
/-- goesThrough -/
theorem M251 (hc : coK D n c) : ∀ (f : Nat) (i sum : Int) (s : Int × (Int → Int) × (Int → Int)) (d : Nat) (m : mm_M), i = n - f → 0 ≤ i → f + 2 ≤ d → 0 ≤ sum → sum ≤ 23 * i → -1 ≤ s.1 → s.1 ≤ 1000 → MD D E m → Cho D m n c → Lay D c m n 0 → GT m s → (∀ k, 0 ≤ k → k < i → 0 ≤ s.2.2 k ∧ s.2.2 k < 24) → ∃ m', mm_ev d 251 0 [some (.ref 316), some (.int (iI (i))), some (.int (iI (sum))), none, none, none] [] m = some (some none, m') ∧ Fr scG m m' ∧ GT m' (thr (mayS D c) n f i sum s)
  | 0, i, sum, s, d, m, hi, i0, hd, s0, s1, b0, b1, h, hC, hl, hg, hk => by
    obtain ⟨n0, n1⟩ := hc.1
    have e16 : mm_ev d 251 16 [some (.ref 316), some (.int (iI (i))), some (.int (iI (sum))), none, none, none] [] m = mm_ev d 251 31 [some (.ref 316), some (.int (iI (n))), some (.int (iI (sum))), some (.int (iI (0))), none, none] [] (mm_sI m 316 34 (iI sum)) := by
      rw [sg_251_16, show i = n by omega]
      simp (disch := omega) only [shM h.1, ↓reduceIte, not_false_eq_true, not_true_eq_false, and_self, and_true, true_and, false_and, and_false, or_true, true_or, or_false, false_or, or_self, reduceCtorEq, mm_q, Option.getD_some, cI_some, cJ_some, cV_some, cS_some, kd_sI, kd_sL, kd_sR, kd_cp, ln_sI, ln_sL, ln_sR, ln_cp, gR_sI, gR_sL, gR_sR, gR_cp, gL_sI, gL_sR, gL_cp, gI_sL, gI_sR, iI_add, iI_sub, iI_mul, iI_neg, iI_in, iI_tn, iI_lt, iI_eq, Nat.reduceLeDiff, Nat.reduceEqDiff, Nat.reduceAdd, Int.reduceEq, Int.reduceLT, Int.reduceLE, Int.reduceNeg, Int.reduceAdd, Int.reduceSub, Int.reduceMul, hC.1]
    have g1 : Fr scG m (mm_sI m 316 34 (iI sum)) := Fr.sI rfl
    have hg1 : GT (mm_sI m 316 34 (iI sum)) (sum, s.2.1, s.2.2) := by
      refine ⟨by rw [gI_sI, if_pos ⟨rfl, rfl⟩], fun i i0 i1 => ⟨?_, ?_⟩⟩
      · rw [gI_sI, if_neg (by omega)]; exact (hg.2 i i0 i1).1
      · rw [gI_sI, if_neg (by omega)]; exact (hg.2 i i0 i1).2
    obtain ⟨m', e1, f1, r1⟩ := M251c (d := d) hc n.toNat 0 s.2.1 _ (by omega) (by omega) (g1.sh h.1) hg1 (fun j j0 j1 => by omega)
    rw [sg_251_0]
    unfold thr
    by_cases z1 : s.1 < 0
    · refine ⟨m', ?_, g1.tr f1, by rw [if_pos (Or.inl z1)]; exact r1⟩
      simp (disch := omega) only [shM h.1, ↓reduceIte, not_false_eq_true, not_true_eq_false, and_self, and_true, true_and, false_and, and_false, or_true, true_or, or_false, false_or, or_self, reduceCtorEq, mm_q, Option.getD_some, cI_some, cJ_some, cV_some, cS_some, kd_sI, kd_sL, kd_sR, kd_cp, ln_sI, ln_sL, ln_sR, ln_cp, gR_sI, gR_sL, gR_sR, gR_cp, gL_sI, gL_sR, gL_cp, gI_sL, gI_sR, iI_add, iI_sub, iI_mul, iI_neg, iI_in, iI_tn, iI_lt, iI_eq, Nat.reduceLeDiff, Nat.reduceEqDiff, Nat.reduceAdd, Int.reduceEq, Int.reduceLT, Int.reduceLE, Int.reduceNeg, Int.reduceAdd, Int.reduceSub, Int.reduceMul, hg.1, z1, e16]
      exact e1
    · by_cases z2 : sum < s.1
      · refine ⟨m', ?_, g1.tr f1, by rw [if_pos (Or.inr z2)]; exact r1⟩
        simp (disch := omega) only [shM h.1, ↓reduceIte, not_false_eq_true, not_true_eq_false, and_self, and_true, true_and, false_and, and_false, or_true, true_or, or_false, false_or, or_self, reduceCtorEq, mm_q, Option.getD_some, cI_some, cJ_some, cV_some, cS_some, kd_sI, kd_sL, kd_sR, kd_cp, ln_sI, ln_sL, ln_sR, ln_cp, gR_sI, gR_sL, gR_sR, gR_cp, gL_sI, gL_sR, gL_cp, gI_sL, gI_sR, iI_add, iI_sub, iI_mul, iI_neg, iI_in, iI_tn, iI_lt, iI_eq, Nat.reduceLeDiff, Nat.reduceEqDiff, Nat.reduceAdd, Int.reduceEq, Int.reduceLT, Int.reduceLE, Int.reduceNeg, Int.reduceAdd, Int.reduceSub, Int.reduceMul, hg.1, z1, z2, e16]
        exact e1
      · refine ⟨m, ?_, Fr.rf, by rw [if_neg (by omega)]; exact hg⟩
        simp (disch := omega) only [shM h.1, ↓reduceIte, not_false_eq_true, not_true_eq_false, and_self, and_true, true_and, false_and, and_false, or_true, true_or, or_false, false_or, or_self, reduceCtorEq, mm_q, Option.getD_some, cI_some, cJ_some, cV_some, cS_some, kd_sI, kd_sL, kd_sR, kd_cp, ln_sI, ln_sL, ln_sR, ln_cp, gR_sI, gR_sL, gR_sR, gR_cp, gL_sI, gL_sR, gL_cp, gI_sL, gI_sR, iI_add, iI_sub, iI_mul, iI_neg, iI_in, iI_tn, iI_lt, iI_eq, Nat.reduceLeDiff, Nat.reduceEqDiff, Nat.reduceAdd, Int.reduceEq, Int.reduceLT, Int.reduceLE, Int.reduceNeg, Int.reduceAdd, Int.reduceSub, Int.reduceMul, hg.1, z1, z2]
  | f + 1, i, sum, s, d, m, hi, i0, hd, s0, s1, b0, b1, h, hC, hl, hg, hk => by
    obtain ⟨n0, n1⟩ := hc.1
    have i1 : i < n := by omega
    have ih := M251 hc f
    have loop : ∀ (r : Nat) (a : Int) (s : Int × (Int → Int) × (Int → Int)) (z4 z5 : Option Value) (m : mm_M), a = 24 - r → 0 ≤ a → -1 ≤ s.1 → s.1 ≤ 1000 → MD D E m → Cho D m n c → Lay D c m n 0 → GT m s → (∀ k, 0 ≤ k → k < i → 0 ≤ s.2.2 k ∧ s.2.2 k < 24) → ∃ m', mm_ev d 251 57 [some (.ref 316), some (.int (iI (i))), some (.int (iI (sum))), some (.int (iI (a))), z4, z5] [] m = some (some none, m') ∧ Fr scG m m' ∧ GT m' (thrL (thr (mayS D c) n f (i + 1)) (mayS D c) i sum r a s) := by
      intro r
      induction r with
      | zero =>
        intro a s z4 z5 m ha a0 b0 b1 h hC hl hg hk
        refine ⟨m, ?_, Fr.rf, hg⟩
        rw [sg_251_57]
        simp (disch := omega) only [↓reduceIte, not_false_eq_true, not_true_eq_false, and_self, and_true, true_and, false_and, and_false, or_true, true_or, or_false, false_or, or_self, reduceCtorEq, mm_q, Option.getD_some, cI_some, cJ_some, cV_some, cS_some, kd_sI, kd_sL, kd_sR, kd_cp, ln_sI, ln_sL, ln_sR, ln_cp, gR_sI, gR_sL, gR_sR, gR_cp, gL_sI, gL_sR, gL_cp, gI_sL, gI_sR, iI_add, iI_sub, iI_mul, iI_neg, iI_in, iI_tn, iI_lt, iI_eq, Nat.reduceLeDiff, Nat.reduceEqDiff, Nat.reduceAdd, Int.reduceEq, Int.reduceLT, Int.reduceLE, Int.reduceNeg, Int.reduceAdd, Int.reduceSub, Int.reduceMul, show ¬ a < 24 by omega]
      | succ r ihr =>
        intro a s z4 z5 m ha a0 b0 b1 h hC hl hg hk
        have a1 : a < 24 := by omega
        have q1 := (hl i a i0 a0 a1 (by omega)).1
        unfold HOL at q1
        have e2 := M251m (d := d) h hc hl hg (by omega) (sum := sum) i0 i1 a0 a1 hk i.toNat 0 (holdS D c i a) (by omega) (by omega)
        unfold thrL
        rw [sg_251_57]
        simp (disch := omega) only [shM h.1, ↓reduceIte, not_false_eq_true, not_true_eq_false, and_self, and_true, true_and, false_and, and_false, or_true, true_or, or_false, false_or, or_self, reduceCtorEq, mm_q, Option.getD_some, cI_some, cJ_some, cV_some, cS_some, kd_sI, kd_sL, kd_sR, kd_cp, ln_sI, ln_sL, ln_sR, ln_cp, gR_sI, gR_sL, gR_sR, gR_cp, gL_sI, gL_sR, gL_cp, gI_sL, gI_sR, iI_add, iI_sub, iI_mul, iI_neg, iI_in, iI_tn, iI_lt, iI_eq, Nat.reduceLeDiff, Nat.reduceEqDiff, Nat.reduceAdd, Int.reduceEq, Int.reduceLT, Int.reduceLE, Int.reduceNeg, Int.reduceAdd, Int.reduceSub, Int.reduceMul, a1, q1]
        rw [e2, show (holdS D c i a && allB (fun k => fitS D c i a k (s.2.2 k)) i.toNat 0) = mayS D c i a s.2.2 from rfl, sg_251_79 (by omega)]
        cases z : mayS D c i a s.2.2
        · obtain ⟨m', e3, g3, r3⟩ := ihr (a + 1) s (some (.int (iI (bI false)))) (some (.int (iI (i)))) m (by omega) (by omega) b0 b1 h hC hl hg hk
          refine ⟨m', ?_, g3, by simp only [Bool.false_eq_true, if_false]; exact r3⟩
          simp (disch := omega) only [↓reduceIte, not_false_eq_true, not_true_eq_false, and_self, and_true, true_and, false_and, and_false, or_true, true_or, or_false, false_or, or_self, reduceCtorEq, mm_q, Option.getD_some, cI_some, cJ_some, cV_some, cS_some, kd_sI, kd_sL, kd_sR, kd_cp, ln_sI, ln_sL, ln_sR, ln_cp, gR_sI, gR_sL, gR_sR, gR_cp, gL_sI, gL_sR, gL_cp, gI_sL, gI_sR, iI_add, iI_sub, iI_mul, iI_neg, iI_in, iI_tn, iI_lt, iI_eq, Nat.reduceLeDiff, Nat.reduceEqDiff, Nat.reduceAdd, Int.reduceEq, Int.reduceLT, Int.reduceLE, Int.reduceNeg, Int.reduceAdd, Int.reduceSub, Int.reduceMul, bI_t, bI_f, decide_true, decide_false, Bool.and_true, Bool.and_false, Bool.true_and, Bool.false_and, Bool.false_eq_true, Bool.and_self, Bool.not_true, Bool.not_false, Bool.true_or, Bool.false_or, Bool.or_true, Bool.or_false, Int.lt_irrefl, sg_251_148] at e3 ⊢
          exact e3
        · have g1 : Fr scG m (mm_sI m 338 i.toNat (iI a)) := Fr.sI rfl
          have hg1 : GT (mm_sI m 338 i.toNat (iI a)) (s.1, s.2.1, updB s.2.2 i a) := by
            refine ⟨by rw [gI_sI, if_neg (by omega)]; exact hg.1, fun j j0 j1 => ⟨?_, ?_⟩⟩
            · rw [gI_sI]
              simp only [updB]
              by_cases z : j = i
              · rw [if_pos ⟨trivial, by omega⟩, if_pos z]
              · rw [if_neg (by omega), if_neg z]; exact (hg.2 j j0 j1).1
            · rw [gI_sI, if_neg (by omega)]; exact (hg.2 j j0 j1).2
          have h1 := h.fr g1.GM
          obtain ⟨m2, e3, g3, hg3⟩ := ih (i + 1) (sum + a) (s.1, s.2.1, updB s.2.2 i a) (d - 1) _ (by omega) (by omega) (by omega) (by omega) (by omega) b0 b1 h1 (hC.frG g1) (hl.frG g1) hg1 (fun k k0 k1 => by
            simp only [updB]
            split
            · omega
            · exact hk k k0 (by omega))
          have rr := thr_r (may := mayS D c) (n := n) f (i + 1) (sum + a) (s.1, s.2.1, updB s.2.2 i a) (by omega) (by omega) b0 b1
          obtain ⟨m', e4, g4, r4⟩ := ihr (a + 1) (thr (mayS D c) n f (i + 1) (sum + a) (s.1, s.2.1, updB s.2.2 i a)) (some (.int (iI (bI true)))) (some (.int (iI (i)))) m2 (by omega) (by omega) rr.1 rr.2 (h1.fr g3.GM) ((hC.frG g1).frG g3) ((hl.frG g1).frG g3) hg3 (fun k k0 k1 => by
            rw [thr_k f (i + 1) _ _ k (by omega)]
            simp only [updB]
            rw [if_neg (by omega)]
            exact hk k k0 k1)
          refine ⟨m', ?_, (g1.tr g3).tr g4, by rw [if_pos rfl]; exact r4⟩
          simp (disch := omega) only [shM h.1, shM h1.1, ↓reduceIte, not_false_eq_true, not_true_eq_false, and_self, and_true, true_and, false_and, and_false, or_true, true_or, or_false, false_or, or_self, reduceCtorEq, mm_q, Option.getD_some, cI_some, cJ_some, cV_some, cS_some, kd_sI, kd_sL, kd_sR, kd_cp, ln_sI, ln_sL, ln_sR, ln_cp, gR_sI, gR_sL, gR_sR, gR_cp, gL_sI, gL_sR, gL_cp, gI_sL, gI_sR, iI_add, iI_sub, iI_mul, iI_neg, iI_in, iI_tn, iI_lt, iI_eq, Nat.reduceLeDiff, Nat.reduceEqDiff, Nat.reduceAdd, Int.reduceEq, Int.reduceLT, Int.reduceLE, Int.reduceNeg, Int.reduceAdd, Int.reduceSub, Int.reduceMul, bI_t, bI_f, decide_true, decide_false, Bool.and_true, Bool.and_false, Bool.true_and, Bool.false_and, Bool.false_eq_true, Bool.and_self, Bool.not_true, Bool.not_false, Bool.true_or, Bool.false_or, Bool.or_true, Bool.or_false, Int.lt_irrefl, sg_251_148, e3] at e4 ⊢
          exact e4
    obtain ⟨m', e1, f1, r1⟩ := loop 24 0 s none none m (by omega) (by omega) b0 b1 h hC hl hg hk
    have e16 : mm_ev d 251 16 [some (.ref 316), some (.int (iI (i))), some (.int (iI (sum))), none, none, none] [] m = some (some none, m') := by
      rw [sg_251_16]
      simp (disch := omega) only [shM h.1, ↓reduceIte, not_false_eq_true, not_true_eq_false, and_self, and_true, true_and, false_and, and_false, or_true, true_or, or_false, false_or, or_self, reduceCtorEq, mm_q, Option.getD_some, cI_some, cJ_some, cV_some, cS_some, kd_sI, kd_sL, kd_sR, kd_cp, ln_sI, ln_sL, ln_sR, ln_cp, gR_sI, gR_sL, gR_sR, gR_cp, gL_sI, gL_sR, gL_cp, gI_sL, gI_sR, iI_add, iI_sub, iI_mul, iI_neg, iI_in, iI_tn, iI_lt, iI_eq, Nat.reduceLeDiff, Nat.reduceEqDiff, Nat.reduceAdd, Int.reduceEq, Int.reduceLT, Int.reduceLE, Int.reduceNeg, Int.reduceAdd, Int.reduceSub, Int.reduceMul, hC.1, show ¬ i = n by omega]
      exact e1
    rw [sg_251_0]
    unfold thr
    by_cases z1 : s.1 < 0
    · refine ⟨m', ?_, f1, by rw [if_pos (Or.inl z1)]; exact r1⟩
      simp (disch := omega) only [shM h.1, ↓reduceIte, not_false_eq_true, not_true_eq_false, and_self, and_true, true_and, false_and, and_false, or_true, true_or, or_false, false_or, or_self, reduceCtorEq, mm_q, Option.getD_some, cI_some, cJ_some, cV_some, cS_some, kd_sI, kd_sL, kd_sR, kd_cp, ln_sI, ln_sL, ln_sR, ln_cp, gR_sI, gR_sL, gR_sR, gR_cp, gL_sI, gL_sR, gL_cp, gI_sL, gI_sR, iI_add, iI_sub, iI_mul, iI_neg, iI_in, iI_tn, iI_lt, iI_eq, Nat.reduceLeDiff, Nat.reduceEqDiff, Nat.reduceAdd, Int.reduceEq, Int.reduceLT, Int.reduceLE, Int.reduceNeg, Int.reduceAdd, Int.reduceSub, Int.reduceMul, hg.1, z1, e16]
    · by_cases z2 : sum < s.1
      · refine ⟨m', ?_, f1, by rw [if_pos (Or.inr z2)]; exact r1⟩
        simp (disch := omega) only [shM h.1, ↓reduceIte, not_false_eq_true, not_true_eq_false, and_self, and_true, true_and, false_and, and_false, or_true, true_or, or_false, false_or, or_self, reduceCtorEq, mm_q, Option.getD_some, cI_some, cJ_some, cV_some, cS_some, kd_sI, kd_sL, kd_sR, kd_cp, ln_sI, ln_sL, ln_sR, ln_cp, gR_sI, gR_sL, gR_sR, gR_cp, gL_sI, gL_sR, gL_cp, gI_sL, gI_sR, iI_add, iI_sub, iI_mul, iI_neg, iI_in, iI_tn, iI_lt, iI_eq, Nat.reduceLeDiff, Nat.reduceEqDiff, Nat.reduceAdd, Int.reduceEq, Int.reduceLT, Int.reduceLE, Int.reduceNeg, Int.reduceAdd, Int.reduceSub, Int.reduceMul, hg.1, z1, z2, e16]
      · refine ⟨m, ?_, Fr.rf, by rw [if_neg (by omega)]; exact hg⟩
        simp (disch := omega) only [shM h.1, ↓reduceIte, not_false_eq_true, not_true_eq_false, and_self, and_true, true_and, false_and, and_false, or_true, true_or, or_false, false_or, or_self, reduceCtorEq, mm_q, Option.getD_some, cI_some, cJ_some, cV_some, cS_some, kd_sI, kd_sL, kd_sR, kd_cp, ln_sI, ln_sL, ln_sR, ln_cp, gR_sI, gR_sL, gR_sR, gR_cp, gL_sI, gL_sR, gL_cp, gI_sL, gI_sR, iI_add, iI_sub, iI_mul, iI_neg, iI_in, iI_tn, iI_lt, iI_eq, Nat.reduceLeDiff, Nat.reduceEqDiff, Nat.reduceAdd, Int.reduceEq, Int.reduceLT, Int.reduceLE, Int.reduceNeg, Int.reduceAdd, Int.reduceSub, Int.reduceMul, hg.1, z1, z2]
end
