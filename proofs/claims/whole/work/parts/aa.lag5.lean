def sc22 (a k : Nat) : Bool := Nat.beq a 193 || Nat.beq a 194 || (Nat.beq a 184 && Nat.beq k 8)
/-- least sum, lags tried, best lags -/
def RLt (m : mm_M) (n i : Int) (s : Int × (Int → Int) × (Int → Int)) : Prop := mm_gI m 184 8 = iI (if s.1 < 0 then 96 else s.1) ∧ (∀ k, 0 ≤ k → k < i → mm_gI m 193 k.toNat = iI (s.2.2 k)) ∧ (0 ≤ s.1 → ∀ k, 0 ≤ k → k < n → mm_gI m 194 k.toNat = iI (s.2.1 k))
def LFt (D : Nat → Nat → Int32) (m : mm_M) (n : Int) (c : Int → Int) : Prop := mm_gI m 184 5 = iI n ∧ FitA D m n c ∧ ∀ i k a b, 0 ≤ i → i < k → k < n → 0 ≤ a → a < 24 → 0 ≤ b → b < 24 → bi (mm_gI m 192 ((i * 4 + k) * 24 + a).toNat) b = togS D c i a k b
def BTt (D : Nat → Nat → Int32) (c lg : Int → Int) (i k : Int) (y : Int32) : Prop := ∀ a, 0 ≤ a → a < 24 → (bi y a = true ↔ hoW D (c i) a = true ∧ ∀ j, 0 ≤ j → j < k → togS D c j (lg j) i a = true)
section
variable {D : Nat → Nat → Int32} {m m' m'' : mm_M} {d s : Nat} {c : Int → Int} {n : Int} {may : Int → Int → (Int → Int) → Bool}
theorem LFt.f (h : LFt D m n c) (f : Fr sc22 m m') : LFt D m' n c := ⟨(f.gI rfl).trans h.1, fun i a i0 i1 a0 a1 => by rw [f.gI rfl]; exact h.2.1 i a i0 i1 a0 a1, fun i k a b i0 ik kn a0 a1 b0 b1 => by rw [f.gI rfl]; exact h.2.2 i k a b i0 ik kn a0 a1 b0 b1⟩
theorem thrL_st {rec : Int → Int × (Int → Int) × (Int → Int) → Int × (Int → Int) × (Int → Int)} {i sum : Int} (hr : ∀ v s, 0 ≤ s.1 → s.1 ≤ v → rec v s = s) : ∀ (r : Nat) (a : Int) (s : Int × (Int → Int) × (Int → Int)), 0 ≤ s.1 → s.1 ≤ sum + a → (thrL rec may i sum r a s).1 = s.1 ∧ (thrL rec may i sum r a s).2.1 = s.2.1
  | 0, _, _, _, _ => ⟨rfl, rfl⟩
  | r + 1, a, s, h0, h1 => by
    unfold thrL
    split
    · rw [hr (sum + a) (s.1, s.2.1, updB s.2.2 i a) h0 h1]
      exact thrL_st hr r (a + 1) (s.1, s.2.1, updB s.2.2 i a) h0 (by show s.1 ≤ _; omega)
    · exact thrL_st hr r (a + 1) s h0 (by omega)
theorem thr_st {f : Nat} {i v : Int} {s : Int × (Int → Int) × (Int → Int)} (h0 : 0 ≤ s.1) (h1 : s.1 ≤ v) : thr may n f i v s = s := by
  cases f
  · unfold thr; rw [if_neg (by omega)]
  · unfold thr; rw [if_neg (by omega)]
theorem thrL_rF {rec : Int → Int × (Int → Int) × (Int → Int) → Int × (Int → Int) × (Int → Int)} {i sum u : Int} (hr : ∀ v s, 0 ≤ v → v ≤ u → -1 ≤ s.1 → s.1 ≤ 92 → -1 ≤ (rec v s).1 ∧ (rec v s).1 ≤ 92) (h0 : 0 ≤ sum) : ∀ (r : Nat) (a : Int) (s : Int × (Int → Int) × (Int → Int)), 0 ≤ a → sum + a + r ≤ u + 1 → -1 ≤ s.1 → s.1 ≤ 92 → -1 ≤ (thrL rec may i sum r a s).1 ∧ (thrL rec may i sum r a s).1 ≤ 92
  | 0, _, _, _, _, h1, h2 => ⟨h1, h2⟩
  | r + 1, a, s, a0, hu, h1, h2 => by
    unfold thrL
    split
    · have := hr (sum + a) (s.1, s.2.1, updB s.2.2 i a) (by omega) (by omega) h1 h2
      exact thrL_rF hr h0 r (a + 1) _ (by omega) (by omega) this.1 this.2
    · exact thrL_rF hr h0 r (a + 1) _ (by omega) (by omega) h1 h2
/-- a least sum of lags stays below the class's bound -/
theorem thr_rF : ∀ (f : Nat) (i sum : Int) (s : Int × (Int → Int) × (Int → Int)), 0 ≤ sum → sum + 23 * f ≤ 92 → -1 ≤ s.1 → s.1 ≤ 92 → -1 ≤ (thr may n f i sum s).1 ∧ (thr may n f i sum s).1 ≤ 92
  | 0, i, sum, s, h0, h1, h2, h3 => by
    unfold thr
    split
    · simp only; omega
    · omega
  | f + 1, i, sum, s, h0, h1, h2, h3 => by
    unfold thr
    split
    · exact thrL_rF (u := sum + 23) (fun v s v0 v1 s0 s1 => thr_rF f (i + 1) v s v0 (by omega) s0 s1) h0 24 0 s (by omega) (by omega) h2 h3
    · omega
theorem may_t {i a : Int} {lg : Int → Int} (i0 : 0 ≤ i) (hh : ∀ k, 0 ≤ k → k < i → hoW D (c k) (lg k) = true) : mayS D c i a lg = true ↔ hoW D (c i) a = true ∧ ∀ j, 0 ≤ j → j < i → togS D c j (lg j) i a = true := by
  unfold mayS
  rw [Bool.and_eq_true, all_t]
  constructor
  · rintro ⟨h1, h2⟩
    refine ⟨h1, fun k k0 k1 => ?_⟩
    have := h2 k k0 (by omega)
    unfold fitS at this
    rw [Bool.and_eq_true, Bool.and_eq_true] at this
    rw [tog_s]
    exact this.2.2
  · rintro ⟨h1, h2⟩
    refine ⟨h1, fun k k0 k1 => ?_⟩
    unfold fitS
    rw [Bool.and_eq_true, Bool.and_eq_true]
    exact ⟨h1, hh k k0 (by omega), by rw [tog_s]; exact h2 k k0 (by omega)⟩
/-- the lags that go with those before -/
theorem C22b (hs : Sh m) (hL : LFt D m n c) (hc : coK D n c) {i : Int} {lg : Int → Int} {x : Int32} (i1 : i < n) (ht : ∀ k, 0 ≤ k → k < i → mm_gI m 193 k.toNat = iI (lg k) ∧ 0 ≤ lg k ∧ lg k < 24) : ∀ (r : Nat) (k : Int) (y : Int32), k = i - r → 0 ≤ k → BTt D c lg i k y → ∃ y', mm_ev d 22 43 [some (.ref 184), (some (.int (iI (i)))), some (.int x), some (.int y), (some (.int (iI (k))))] [] m = mm_ev d 22 83 [some (.ref 184), (some (.int (iI (i)))), some (.int x), some (.int y'), (some (.int (iI (0))))] [] m ∧ BTt D c lg i i y'
  | 0, k, y, hk, k0, h => by
    obtain ⟨n0, n1⟩ := hc.1
    refine ⟨y, ?_, by rw [show k = i by omega] at h; exact h⟩
    rw [sg_22_43]
    simp (disch := omega) only [↓reduceIte, not_false_eq_true, not_true_eq_false, and_self, and_true, true_and, false_and, and_false, or_true, true_or, or_false, false_or, or_self, reduceCtorEq, mm_q, Option.getD_some, cI_some, cJ_some, cV_some, cS_some, kd_sI, kd_sL, kd_sR, kd_cp, ln_sI, ln_sL, ln_sR, ln_cp, gR_sI, gR_sL, gR_sR, gR_cp, gL_sI, gL_sR, gL_cp, gI_sL, gI_sR, iI_add, iI_sub, iI_mul, iI_neg, iI_in, iI_tn, iI_lt, iI_eq, Nat.reduceLeDiff, Nat.reduceEqDiff, Nat.reduceAdd, Int.reduceEq, Int.reduceLT, Int.reduceLE, Int.reduceNeg, Int.reduceAdd, Int.reduceSub, Int.reduceMul, show ¬ k < i by omega]
  | r + 1, k, y, hk, k0, h => by
    obtain ⟨n0, n1⟩ := hc.1
    obtain ⟨t1, t2, t3⟩ := ht k k0 (by omega)
    obtain ⟨y', e', h'⟩ := C22b hs hL hc i1 ht r (k + 1) (y &&& mm_gI m 192 ((k * 4 + i) * 24 + lg k).toNat) (by omega) (by omega) (fun a a0 a1 => by
      rw [bi_and, Bool.and_eq_true, h a a0 a1, hL.2.2 k i (lg k) a k0 (by omega) i1 t2 t3 a0 a1]
      constructor
      · rintro ⟨⟨h1, h2⟩, h3⟩
        refine ⟨h1, fun j j0 j1 => ?_⟩
        by_cases v : j = k
        · rw [v]; exact h3
        · exact h2 j j0 (by omega)
      · rintro ⟨h1, h2⟩
        exact ⟨⟨h1, fun j j0 j1 => h2 j j0 (by omega)⟩, h2 k k0 (by omega)⟩)
    refine ⟨y', ?_, h'⟩
    rw [← e', sg_22_43]
    simp (disch := omega) only [shW hs, ↓reduceIte, not_false_eq_true, not_true_eq_false, and_self, and_true, true_and, false_and, and_false, or_true, true_or, or_false, false_or, or_self, reduceCtorEq, mm_q, Option.getD_some, cI_some, cJ_some, cV_some, cS_some, kd_sI, kd_sL, kd_sR, kd_cp, ln_sI, ln_sL, ln_sR, ln_cp, gR_sI, gR_sL, gR_sR, gR_cp, gL_sI, gL_sR, gL_cp, gI_sL, gI_sR, iI_add, iI_sub, iI_mul, iI_neg, iI_in, iI_tn, iI_lt, iI_eq, Nat.reduceLeDiff, Nat.reduceEqDiff, Nat.reduceAdd, Int.reduceEq, Int.reduceLT, Int.reduceLE, Int.reduceNeg, Int.reduceAdd, Int.reduceSub, Int.reduceMul, show k < i by omega, t1]
theorem Fr.cp4 : Fr sc22 m (mm_cp m 193 0 194 0 4) := ⟨rfl, rfl, fun _ _ => rfl, fun a k z => ⟨by
  rw [gI_cp', if_neg (fun w => by
    rw [w.1] at z
    cases z)], rfl⟩⟩
/-- search -/
theorem C22 (hc : coK D n c) : ∀ (f : Nat) (i sum : Int) (s : Int × (Int → Int) × (Int → Int)) (d : Nat) (m : mm_M), i + f = n → 0 ≤ i → 0 ≤ sum → sum + 23 * f ≤ 92 → -1 ≤ s.1 → s.1 ≤ 92 → f ≤ d → Sh m → LFt D m n c → RLt m n i s → (s.1 < 0 ∨ sum < s.1) → (∀ k, 0 ≤ k → k < i → (0 ≤ s.2.2 k ∧ s.2.2 k < 24) ∧ hoW D (c k) (s.2.2 k) = true) → ∃ m', mm_ev d 22 0 [some (.ref 184), (some (.int (iI (i)))), (some (.int (iI (sum)))), none, none] [] m = some (some none, m') ∧ Fr sc22 m m' ∧ RLt m' n i (thr (mayS D c) n f i sum s)
  | 0, i, sum, s, d, m, hi, i0, s0, s1, r0, r1, hd, hs, hL, hq, hg, hl => by
    obtain ⟨n0, n1⟩ := hc.1
    unfold thr
    rw [if_pos hg]
    have hin : i = n := by omega
    have g1 : Fr sc22 m (mm_sI m 184 8 (iI sum)) := Fr.sI rfl
    refine ⟨mm_cp (mm_sI m 184 8 (iI sum)) 193 0 194 0 4, ?_, g1.tr Fr.cp4, ?_, ?_, ?_⟩
    · rw [sg_22_0]
      simp (disch := omega) only [shW hs, ↓reduceIte, not_false_eq_true, not_true_eq_false, and_self, and_true, true_and, false_and, and_false, or_true, true_or, or_false, false_or, or_self, reduceCtorEq, mm_q, Option.getD_some, cI_some, cJ_some, cV_some, cS_some, kd_sI, kd_sL, kd_sR, kd_cp, ln_sI, ln_sL, ln_sR, ln_cp, gR_sI, gR_sL, gR_sR, gR_cp, gL_sI, gL_sR, gL_cp, gI_sL, gI_sR, iI_add, iI_sub, iI_mul, iI_neg, iI_in, iI_tn, iI_lt, iI_eq, Nat.reduceLeDiff, Nat.reduceEqDiff, Nat.reduceAdd, Int.reduceEq, Int.reduceLT, Int.reduceLE, Int.reduceNeg, Int.reduceAdd, Int.reduceSub, Int.reduceMul, hL.1, show ¬ i < n by omega]
      rw [sg_22_13]
      simp (disch := omega) only [shW hs, ↓reduceIte, not_false_eq_true, not_true_eq_false, and_self, and_true, true_and, false_and, and_false, or_true, true_or, or_false, false_or, or_self, reduceCtorEq, mm_q, Option.getD_some, cI_some, cJ_some, cV_some, cS_some, kd_sI, kd_sL, kd_sR, kd_cp, ln_sI, ln_sL, ln_sR, ln_cp, gR_sI, gR_sL, gR_sR, gR_cp, gL_sI, gL_sR, gL_cp, gI_sL, gI_sR, iI_add, iI_sub, iI_mul, iI_neg, iI_in, iI_tn, iI_lt, iI_eq, Nat.reduceLeDiff, Nat.reduceEqDiff, Nat.reduceAdd, Int.reduceEq, Int.reduceLT, Int.reduceLE, Int.reduceNeg, Int.reduceAdd, Int.reduceSub, Int.reduceMul]
      try simp
    · rw [gI_cp', if_neg (by omega), gI_sI, if_pos ⟨rfl, rfl⟩]
      show iI sum = iI (if sum < 0 then 96 else sum)
      rw [if_neg (by omega)]
    · intro k k0 k1
      rw [gI_cp', if_neg (by omega), gI_sI, if_neg (by omega)]
      exact hq.2.1 k k0 k1
    · intro _ k k0 k1
      show _ = iI (cpL n s.2.2 s.2.1 k)
      rw [gI_cp', if_pos ⟨rfl, by omega, by omega⟩, gI_sI, if_neg (by omega), show 0 + (k.toNat - 0) = k.toNat by omega, hq.2.1 k k0 (by omega)]
      unfold cpL
      rw [if_pos ⟨k0, k1⟩]
  | f + 1, i, sum, s, d, m, hi, i0, s0, s1, r0, r1, hd, hs, hL, hq, hg, hl => by
    obtain ⟨n0, n1⟩ := hc.1
    have i1 : i < n := by omega
    unfold thr
    rw [if_pos hg]
    obtain ⟨y, ey, hy⟩ := C22b (d := d) (x := iI sum) hs hL hc i1 (fun k k0 k1 => ⟨hq.2.1 k k0 k1, (hl k k0 k1).1⟩) i.toNat 0 (mm_gI m 191 i.toNat) (by omega) (by omega) (fun a a0 a1 => by
      rw [hL.2.1 i a i0 i1 a0 a1]
      exact ⟨fun h => ⟨h, fun j j0 j1 => by omega⟩, fun h => h.1⟩)
    have loop : ∀ (r : Nat) (a : Int) (q : Int × (Int → Int) × (Int → Int)) (m : mm_M), a = 24 - r → 0 ≤ a → Sh m → LFt D m n c → RLt m n i q → -1 ≤ q.1 → q.1 ≤ 92 → (∀ k, 0 ≤ k → k < i → q.2.2 k = s.2.2 k) → ∃ m', mm_ev d 22 83 [some (.ref 184), (some (.int (iI (i)))), (some (.int (iI (sum)))), some (.int y), (some (.int (iI (a))))] [] m = some (some none, m') ∧ Fr sc22 m m' ∧ RLt m' n i (thrL (thr (mayS D c) n f (i + 1)) (mayS D c) i sum r a q) := by
      intro r
      induction r with
      | zero =>
        intro a q m ha a0 hs hL hq q0 q1 hk
        refine ⟨m, ?_, Fr.rf, hq⟩
        rw [sg_22_83 (by omega)]
        simp (disch := omega) only [↓reduceIte, not_false_eq_true, not_true_eq_false, and_self, and_true, true_and, false_and, and_false, or_true, true_or, or_false, false_or, or_self, reduceCtorEq, mm_q, Option.getD_some, cI_some, cJ_some, cV_some, cS_some, kd_sI, kd_sL, kd_sR, kd_cp, ln_sI, ln_sL, ln_sR, ln_cp, gR_sI, gR_sL, gR_sR, gR_cp, gL_sI, gL_sR, gL_cp, gI_sL, gI_sR, iI_add, iI_sub, iI_mul, iI_neg, iI_in, iI_tn, iI_lt, iI_eq, Nat.reduceLeDiff, Nat.reduceEqDiff, Nat.reduceAdd, Int.reduceEq, Int.reduceLT, Int.reduceLE, Int.reduceNeg, Int.reduceAdd, Int.reduceSub, Int.reduceMul, show ¬ a < 24 by omega]
      | succ r ihr =>
        intro a q m ha a0 hs hL hq q0 q1 hk
        have h8 := hq.1
        have hB : (q.1 < 0 ∧ (if q.1 < 0 then (96 : Int) else q.1) = 96) ∨ (0 ≤ q.1 ∧ (if q.1 < 0 then (96 : Int) else q.1) = q.1) := by
          by_cases v : q.1 < 0
          · left; exact ⟨v, if_pos v⟩
          · right; exact ⟨by omega, if_neg v⟩
        generalize (if q.1 < 0 then (96 : Int) else q.1) = B at h8 hB
        have hm : mayS D c i a q.2.2 = bi y a := by
          apply Bool.eq_iff_iff.mpr
          rw [may_t i0 (fun k k0 k1 => by rw [hk k k0 k1]; exact (hl k k0 k1).2), hy a a0 (by omega)]
          constructor
          · rintro ⟨h1, h2⟩
            exact ⟨h1, fun j j0 j1 => by rw [← hk j j0 j1]; exact h2 j j0 j1⟩
          · rintro ⟨h1, h2⟩
            exact ⟨h1, fun j j0 j1 => by rw [hk j j0 j1]; exact h2 j j0 j1⟩
        have hsh := shr_u (y := y) (j := a) a0 (by omega)
        by_cases v : sum + a < B
        · have el : thrL (thr (mayS D c) n f (i + 1)) (mayS D c) i sum (r + 1) a q = thrL (thr (mayS D c) n f (i + 1)) (mayS D c) i sum r (a + 1) (if bi y a = true then thr (mayS D c) n f (i + 1) (sum + a) (q.1, q.2.1, updB q.2.2 i a) else q) := by
            rw [thrL, hm]
          rw [el]
          cases z : bi y a
          · rw [z] at hsh
            rw [if_neg (by decide)]
            obtain ⟨m', e', r'⟩ := ihr (a + 1) q m (by omega) (by omega) hs hL hq q0 q1 hk
            refine ⟨m', ?_, r'⟩
            rw [← e', sg_22_83 (by omega)]
            simp (disch := omega) only [shW hs, ↓reduceIte, not_false_eq_true, not_true_eq_false, and_self, and_true, true_and, false_and, and_false, or_true, true_or, or_false, false_or, or_self, reduceCtorEq, mm_q, Option.getD_some, cI_some, cJ_some, cV_some, cS_some, kd_sI, kd_sL, kd_sR, kd_cp, ln_sI, ln_sL, ln_sR, ln_cp, gR_sI, gR_sL, gR_sR, gR_cp, gL_sI, gL_sR, gL_cp, gI_sL, gI_sR, iI_add, iI_sub, iI_mul, iI_neg, iI_in, iI_tn, iI_lt, iI_eq, Nat.reduceLeDiff, Nat.reduceEqDiff, Nat.reduceAdd, Int.reduceEq, Int.reduceLT, Int.reduceLE, Int.reduceNeg, Int.reduceAdd, Int.reduceSub, Int.reduceMul, show a < 24 by omega, h8, v, hsh, sg_22_129]
          · rw [z] at hsh
            rw [if_pos rfl]
            have g1 : Fr sc22 m (mm_sI m 193 i.toNat (iI a)) := Fr.sI rfl
            have tr := thr_rF (may := mayS D c) (n := n) f (i + 1) (sum + a) (q.1, q.2.1, updB q.2.2 i a) (by omega) (by omega) q0 q1
            have tk := fun k (hk : k < i + 1) => thr_k (may := mayS D c) (n := n) f (i + 1) (sum + a) (q.1, q.2.1, updB q.2.2 i a) k hk
            have hoa : hoW D (c i) a = true := ((hy a a0 (by omega)).mp z).1
            obtain ⟨m2, e2, g2, h2⟩ := C22 hc f (i + 1) (sum + a) (q.1, q.2.1, updB q.2.2 i a) (d - 1) (mm_sI m 193 i.toNat (iI a)) (by omega) (by omega) (by omega) (by omega) q0 q1 (by omega) (g1.sh hs) (hL.f g1) ⟨by
                rw [gI_sI, if_neg (by omega)]; exact hq.1, fun k k0 k1 => by
                rw [gI_sI]
                show _ = iI (updB q.2.2 i a k)
                unfold updB
                by_cases w : k = i
                · rw [w, if_pos ⟨rfl, rfl⟩, if_pos rfl]
                · rw [if_neg (by omega), if_neg w]
                  exact hq.2.1 k k0 (by omega), fun p k k0 k1 => by
                rw [gI_sI, if_neg (by omega)]
                exact hq.2.2 p k k0 k1⟩ (by show q.1 < 0 ∨ sum + a < q.1; omega) (fun k k0 k1 => by
                show (0 ≤ updB q.2.2 i a k ∧ updB q.2.2 i a k < 24) ∧ hoW D (c k) (updB q.2.2 i a k) = true
                unfold updB
                by_cases w : k = i
                · rw [if_pos w, w]
                  exact ⟨⟨a0, by omega⟩, hoa⟩
                · rw [if_neg w, hk k k0 (by omega)]
                  exact hl k k0 (by omega))
            have G := g1.tr g2
            generalize hT : thr (mayS D c) n f (i + 1) (sum + a) (q.1, q.2.1, updB q.2.2 i a) = T at h2 tr tk ⊢
            obtain ⟨m', e', g', r'⟩ := ihr (a + 1) T m2 (by omega) (by omega) (G.sh hs) (hL.f G) ⟨h2.1, fun k k0 k1 => h2.2.1 k k0 (by omega), h2.2.2⟩ tr.1 tr.2 (fun k k0 k1 => by
              rw [tk k (by omega)]
              show updB q.2.2 i a k = _
              unfold updB
              rw [if_neg (by omega)]
              exact hk k k0 k1)
            refine ⟨m', ?_, G.tr g', r'⟩
            rw [← e', sg_22_83 (by omega)]
            simp (disch := omega) only [shW hs, ↓reduceIte, not_false_eq_true, not_true_eq_false, and_self, and_true, true_and, false_and, and_false, or_true, true_or, or_false, false_or, or_self, reduceCtorEq, mm_q, Option.getD_some, cI_some, cJ_some, cV_some, cS_some, kd_sI, kd_sL, kd_sR, kd_cp, ln_sI, ln_sL, ln_sR, ln_cp, gR_sI, gR_sL, gR_sR, gR_cp, gL_sI, gL_sR, gL_cp, gI_sL, gI_sR, iI_add, iI_sub, iI_mul, iI_neg, iI_in, iI_tn, iI_lt, iI_eq, Nat.reduceLeDiff, Nat.reduceEqDiff, Nat.reduceAdd, Int.reduceEq, Int.reduceLT, Int.reduceLE, Int.reduceNeg, Int.reduceAdd, Int.reduceSub, Int.reduceMul, show a < 24 by omega, h8, v, hsh, Bool.true_eq_false, e2, sg_22_129]
        · have q2 : 0 ≤ q.1 ∧ q.1 ≤ sum + a := by omega
          have st := thrL_st (may := mayS D c) (i := i) (sum := sum) (fun v s h0 h1 => thr_st (may := mayS D c) (n := n) (f := f) (i := i + 1) h0 h1) (r + 1) a q q2.1 q2.2
          have sk := fun k (hk : k < i) => thrL_k (may := mayS D c) (i := i) (sum := sum) (fun v s k hk => thr_k (may := mayS D c) (n := n) f (i + 1) v s k hk) (r + 1) a q k hk
          refine ⟨m, ?_, Fr.rf, by rw [st.1]; exact hq.1, fun k k0 k1 => by rw [sk k k1]; exact hq.2.1 k k0 k1, fun p k k0 k1 => by rw [st.2]; exact hq.2.2 q2.1 k k0 k1⟩
          rw [sg_22_83 (by omega)]
          simp (disch := omega) only [shW hs, ↓reduceIte, not_false_eq_true, not_true_eq_false, and_self, and_true, true_and, false_and, and_false, or_true, true_or, or_false, false_or, or_self, reduceCtorEq, mm_q, Option.getD_some, cI_some, cJ_some, cV_some, cS_some, kd_sI, kd_sL, kd_sR, kd_cp, ln_sI, ln_sL, ln_sR, ln_cp, gR_sI, gR_sL, gR_sR, gR_cp, gL_sI, gL_sR, gL_cp, gI_sL, gI_sR, iI_add, iI_sub, iI_mul, iI_neg, iI_in, iI_tn, iI_lt, iI_eq, Nat.reduceLeDiff, Nat.reduceEqDiff, Nat.reduceAdd, Int.reduceEq, Int.reduceLT, Int.reduceLE, Int.reduceNeg, Int.reduceAdd, Int.reduceSub, Int.reduceMul, show a < 24 by omega, h8, v]
    obtain ⟨m', e', r'⟩ := loop 24 0 s m (by omega) (by omega) hs hL hq r0 r1 (fun _ _ _ => rfl)
    refine ⟨m', ?_, r'⟩
    rw [← e', ← ey, sg_22_0]
    simp (disch := omega) only [shW hs, ↓reduceIte, not_false_eq_true, not_true_eq_false, and_self, and_true, true_and, false_and, and_false, or_true, true_or, or_false, false_or, or_self, reduceCtorEq, mm_q, Option.getD_some, cI_some, cJ_some, cV_some, cS_some, kd_sI, kd_sL, kd_sR, kd_cp, ln_sI, ln_sL, ln_sR, ln_cp, gR_sI, gR_sL, gR_sR, gR_cp, gL_sI, gL_sR, gL_cp, gI_sL, gI_sR, iI_add, iI_sub, iI_mul, iI_neg, iI_in, iI_tn, iI_lt, iI_eq, Nat.reduceLeDiff, Nat.reduceEqDiff, Nat.reduceAdd, Int.reduceEq, Int.reduceLT, Int.reduceLE, Int.reduceNeg, Int.reduceAdd, Int.reduceSub, Int.reduceMul, hL.1, i1, show i < 4 by omega]
end
