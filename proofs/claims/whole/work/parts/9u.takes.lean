/-- takes as far as read: A holds kind, walker, number -/
def KM (A : Nat → Int) (k : Int) (m : mm_M) : Prop := ∀ j : Nat, (j : Int) < 3 * k → mm_gI m 329 (100 + j) = iI (A j)
def KC (A : Nat → Int) (k : Int) (c : mm_M) (p : Nat) : Prop := mm_gI c p 0 = iI k ∧ ∀ j : Nat, (j : Int) < k → mm_gI c (p + 1) j = iI (17 + A (3 * j)) ∧ (A (3 * j) < 3 → mm_gI c (p + 2) j = iI (A (3 * j + 1))) ∧ (A (3 * j) = 0 ∨ A (3 * j) = 2 → mm_gI c (p + 3) j = iI (A (3 * j + 2)))
def KB (D : Nat → Nat → Int32) (A : Nat → Int) (k : Int) : Prop := ∀ j : Nat, (j : Int) < k → (0 ≤ A (3 * j) ∧ A (3 * j) ≤ 3) ∧ (A (3 * j) < 3 → 0 ≤ A (3 * j + 1) ∧ A (3 * j + 1) < st D 6) ∧ (A (3 * j) = 0 → 0 ≤ A (3 * j + 2) ∧ A (3 * j + 2) < st D 0) ∧ (A (3 * j) = 2 → 0 ≤ A (3 * j + 2) ∧ A (3 * j + 2) ≤ 99)
def nxA (A : Nat → Int) (k w x y : Int) : Nat → Int := fun j => if (j : Int) = 3 * k then w else if (j : Int) = 3 * k + 1 then x else if (j : Int) = 3 * k + 2 then y else A j
section
variable {D : Nat → Nat → Int32} {E : Nat → Nat → Int64} {m m' c c' c'' : mm_M} {d s p : Nat} {n N i f : Int} {T : TK} {Y : Nat → Int64} {W : Nat → Int32} {cnt k w v x y Ln : Int} {A : Nat → Int}
theorem nx_0 {j : Nat} (h : (j : Int) = 3 * k) : nxA A k w x y j = w := by unfold nxA; rw [if_pos h]
theorem nx_1 {j : Nat} (h : (j : Int) = 3 * k + 1) : nxA A k w x y j = x := by unfold nxA; rw [if_neg (by omega), if_pos h]
theorem nx_2 {j : Nat} (h : (j : Int) = 3 * k + 2) : nxA A k w x y j = y := by unfold nxA; rw [if_neg (by omega), if_neg (by omega), if_pos h]
theorem nx_o {j : Nat} (h : (j : Int) < 3 * k) : nxA A k w x y j = A j := by unfold nxA; rw [if_neg (by omega), if_neg (by omega), if_neg (by omega)]
theorem KM.nx (h : KM A k m) (k0 : 0 ≤ k) (e0 : mm_gI m' 329 (100 + 3 * k).toNat = iI w) (e1 : mm_gI m' 329 (101 + 3 * k).toNat = iI x) (e2 : mm_gI m' 329 (102 + 3 * k).toNat = iI y) (e : ∀ x : Nat, (x : Int) < 100 + 3 * k → mm_gI m' 329 x = mm_gI m 329 x) : KM (nxA A k w x y) (k + 1) m' := fun j hj => by
  by_cases z0 : (j : Int) = 3 * k
  · rw [nx_0 z0, show 100 + j = (100 + 3 * k).toNat by omega]; exact e0
  · by_cases z1 : (j : Int) = 3 * k + 1
    · rw [nx_1 z1, show 100 + j = (101 + 3 * k).toNat by omega]; exact e1
    · by_cases z2 : (j : Int) = 3 * k + 2
      · rw [nx_2 z2, show 100 + j = (102 + 3 * k).toNat by omega]; exact e2
      · rw [nx_o (by omega), e _ (by omega)]; exact h j (by omega)
theorem KC.nx (h : KC A k c p) (k0 : 0 ≤ k) (e : mm_gI c' p 0 = iI (k + 1)) (e0 : mm_gI c' (p + 1) k.toNat = iI (17 + w)) (e1 : w < 3 → mm_gI c' (p + 2) k.toNat = iI x) (e2 : w = 0 ∨ w = 2 → mm_gI c' (p + 3) k.toNat = iI y) (eo : ∀ a j, p < a → a ≤ p + 3 → j < k.toNat → mm_gI c' a j = mm_gI c a j) : KC (nxA A k w x y) (k + 1) c' p := ⟨e, fun j hj => by
  by_cases z0 : (j : Int) = k
  · rw [nx_0 (show ((3 * j : Nat) : Int) = 3 * k by omega), nx_1 (show ((3 * j + 1 : Nat) : Int) = 3 * k + 1 by omega), nx_2 (show ((3 * j + 2 : Nat) : Int) = 3 * k + 2 by omega), show j = k.toNat by omega]
    exact ⟨e0, e1, e2⟩
  · rw [nx_o (show ((3 * j : Nat) : Int) < 3 * k by omega), nx_o (show ((3 * j + 1 : Nat) : Int) < 3 * k by omega), nx_o (show ((3 * j + 2 : Nat) : Int) < 3 * k by omega), eo _ _ (by omega) (by omega) (by omega), eo _ _ (by omega) (by omega) (by omega), eo _ _ (by omega) (by omega) (by omega)]
    exact h.2 j (by omega)⟩
theorem KB.nx (h : KB D A k) (w0 : 0 ≤ w) (w1 : w ≤ 3) (e1 : w < 3 → 0 ≤ x ∧ x < st D 6) (e2 : w = 0 → 0 ≤ y ∧ y < st D 0) (e3 : w = 2 → 0 ≤ y ∧ y ≤ 99) : KB D (nxA A k w x y) (k + 1) := fun j hj => by
  by_cases z0 : (j : Int) = k
  · rw [nx_0 (show ((3 * j : Nat) : Int) = 3 * k by omega), nx_1 (show ((3 * j + 1 : Nat) : Int) = 3 * k + 1 by omega), nx_2 (show ((3 * j + 2 : Nat) : Int) = 3 * k + 2 by omega)]
    exact ⟨⟨w0, w1⟩, e1, e2, e3⟩
  · rw [nx_o (show ((3 * j : Nat) : Int) < 3 * k by omega), nx_o (show ((3 * j + 1 : Nat) : Int) < 3 * k by omega), nx_o (show ((3 * j + 2 : Nat) : Int) < 3 * k by omega)]
    exact h j (by omega)
theorem tkU_r (hT : TS D n T N) (i0 : 0 ≤ i) (i1 : i ≤ N) (h : (tkU T Ln w i f).2.2 = 0) : f = 0 ∧ (i ≤ (tkU T Ln w i f).2.1 ∧ (tkU T Ln w i f).2.1 ≤ N) ∧ (w = 0 → 0 ≤ (tkU T Ln w i f).1 ∧ (tkU T Ln w i f).1 < Ln) ∧ (w = 2 → 0 ≤ (tkU T Ln w i f).1 ∧ (tkU T Ln w i f).1 ≤ 99) := by
  by_cases z0 : w = 0
  · have q : tkU T Ln w i f = tnS T 0 (Ln - 1) i f := by unfold tkU; rw [if_pos z0]
    rw [q] at h ⊢
    obtain ⟨a1, a2, a3, a4, a5⟩ := tn_r hT i0 i1 h
    exact ⟨a1, ⟨by omega, by omega⟩, fun _ => ⟨by omega, by omega⟩, fun _ => by omega⟩
  · by_cases z2 : w = 2
    · have q : tkU T Ln w i f = tnS T 0 99 i f := by unfold tkU; rw [if_neg z0, if_pos z2]
      rw [q] at h ⊢
      obtain ⟨a1, a2, a3, a4, a5⟩ := tn_r hT i0 i1 h
      exact ⟨a1, ⟨by omega, by omega⟩, fun _ => by omega, fun _ => ⟨by omega, by omega⟩⟩
    · have q : tkU T Ln w i f = (0, i, f) := by unfold tkU; rw [if_neg z0, if_neg z2]
      rw [q] at h ⊢
      exact ⟨h, ⟨by show i ≤ i; omega, i1⟩, fun y => absurd y z0, fun y => absurd y z2⟩
theorem tkV_r (hT : TS D n T N) (i0 : 0 ≤ i) (i1 : i ≤ N) (h : (tkV T Y W cnt w i).2.2 = 0) : (i ≤ (tkV T Y W cnt w i).2.1 ∧ (tkV T Y W cnt w i).2.1 ≤ N) ∧ (w < 3 → 0 ≤ (tkV T Y W cnt w i).1 ∧ fdGo Y W (tV T i) cnt.toNat 0 = 20 + (tkV T Y W cnt w i).1) := by
  by_cases z3 : w < 3
  · have q : tkV T Y W cnt w i = ((thS T Y W cnt 20 8 i 0).1, (if 0 < (thS T Y W cnt 20 8 i 0).2 then i else i + 1), (thS T Y W cnt 20 8 i 0).2) := by unfold tkV; rw [if_pos z3]
    rw [q] at h ⊢
    dsimp only at h ⊢
    obtain ⟨a1, a2, a3, a4, a5, a6⟩ := th_r hT i0 i1 h
    rw [h, if_neg (by omega)]
    exact ⟨⟨by omega, by omega⟩, fun _ => ⟨a2, a6⟩⟩
  · have q : tkV T Y W cnt w i = (0, i, 0) := by unfold tkV; rw [if_neg z3]
    rw [q]
    exact ⟨⟨by show i ≤ i; omega, i1⟩, fun y => absurd y z3⟩
theorem M198x (h : PF D E T N i f m) (hf : ¬ f = 0) (hd : 1 ≤ d) {x : Int32} {z : Option Value} : mm_ev d 198 11 [some (.ref 316), some (.int x), z] [] m = mm_ev d 198 174 [some (.ref 316), some (.int x), z] [] m := by
  obtain ⟨f0, f1⟩ := h.2.2.2.2.2
  rw [sg_198_11 (by omega)]
  simp (disch := omega) only [shM h.1.1, ↓reduceIte, not_false_eq_true, not_true_eq_false, and_self, and_true, true_and, false_and, and_false, or_true, true_or, or_false, false_or, or_self, reduceCtorEq, mm_q, Option.getD_some, cI_some, cJ_some, cV_some, cS_some, kd_sI, kd_sL, kd_sR, kd_cp, ln_sI, ln_sL, ln_sR, ln_cp, gR_sI, gR_sL, gR_sR, gR_cp, gL_sI, gL_sR, gL_cp, gI_sL, gI_sR, iI_add, iI_sub, iI_mul, iI_neg, iI_in, iI_tn, iI_lt, iI_eq, Nat.reduceLeDiff, Nat.reduceEqDiff, Nat.reduceAdd, Int.reduceEq, Int.reduceLT, Int.reduceLE, Int.reduceNeg, Int.reduceAdd, Int.reduceSub, Int.reduceMul, h.2.2.2.1, hf]
theorem M198z (hT : TS D n T N) (h : PF D E T N N 0 m) (hd : 1 ≤ d) {x : Int32} {z : Option Value} : mm_ev d 198 11 [some (.ref 316), some (.int x), z] [] m = mm_ev d 198 174 [some (.ref 316), some (.int x), z] [] m := by
  have n2 := hT.1
  have q := hT.k h.2.2.2.2.1.1 h.2.2.2.2.1.2
  have q0 : tS T N = 0 := by omega
  obtain ⟨k1, -, -⟩ := h.2.1 N (by omega) (by omega)
  rw [q0] at k1
  rw [sg_198_11 (by omega)]
  simp (disch := omega) only [shM h.1.1, ↓reduceIte, not_false_eq_true, not_true_eq_false, and_self, and_true, true_and, false_and, and_false, or_true, true_or, or_false, false_or, or_self, reduceCtorEq, mm_q, Option.getD_some, cI_some, cJ_some, cV_some, cS_some, kd_sI, kd_sL, kd_sR, kd_cp, ln_sI, ln_sL, ln_sR, ln_cp, gR_sI, gR_sL, gR_sR, gR_cp, gL_sI, gL_sR, gL_cp, gI_sL, gI_sR, iI_add, iI_sub, iI_mul, iI_neg, iI_in, iI_tn, iI_lt, iI_eq, Nat.reduceLeDiff, Nat.reduceEqDiff, Nat.reduceAdd, Int.reduceEq, Int.reduceLT, Int.reduceLE, Int.reduceNeg, Int.reduceAdd, Int.reduceSub, Int.reduceMul, h.2.2.2.1, h.2.2.1, k1]
/-- all takes, read by both -/
theorem Ltakes (hT : TS D n T N) (hE : EK E) (l0 : 4 ≤ st D 0) (l1 : st D 0 ≤ 40) (a6 : st D 5 ≤ 6) (b8 : st D 6 ≤ 8) (hc : (D 316 18).toInt = cnt) (c0 : 0 ≤ cnt) (c1 : cnt ≤ 14) (hF : ∀ u, fdGo (fun k => E 325 k) (D 327) u cnt.toNat 0 = -1 ∨ (0 ≤ fdGo (fun k => E 325 k) (D 327) u cnt.toNat 0 ∧ fdGo (fun k => E 325 k) (D 327) u cnt.toNat 0 < st D 5) ∨ (20 ≤ fdGo (fun k => E 325 k) (D 327) u cnt.toNat 0 ∧ fdGo (fun k => E 325 k) (D 327) u cnt.toNat 0 < 20 + st D 6)) : ∀ (r : Nat) (k i : Int) (A : Nat → Int), k + r = 30 → 0 ≤ k → 0 ≤ i → i ≤ N → KB D A k → ∃ (f' k' : Int) (A' : Nat → Int), (∀ (m : mm_M) (z : Option Value) (d : Nat), 20 ≤ d → PF D E T N i 0 m → KM A k m → ∃ m' z' i', mm_ev d 198 11 [some (.ref 316), some (.int (iI (k))), z] [] m = mm_ev d 198 174 [some (.ref 316), some (.int (iI (k'))), z'] [] m' ∧ PF D E T N i' f' m' ∧ Fr scM m m' ∧ (f' = 0 → KM A' k' m')) ∧ (∀ (c : mm_M) (d s p : Nat), 20 ≤ d → CR D n T N i s c → isSc p → mm_gR c 154 2 = some p → KC A k c p → mm_gI c s 0 = iI (st D 0) → NR (fun k => E 325 k) (D 327) cnt (st D 5) (st D 6) s c → mm_gI c s 10 = iI (st D 6) → ∃ c' x y, mm_ev d 59 35 [some (.ref 154), some (.ref s), some (.ref p), some (.int (iI (1))), some (.int (iI (k)))] [] c = mm_ev d 59 71 [some (.ref 154), some (.ref s), some (.ref p), some (.int x), some (.int y)] [] c' ∧ Sh c' ∧ Fr (scTk p) c c' ∧ mm_gI c' 154 3 = iI f' ∧ (f' = 0 → KC A' k' c' p)) ∧ (f' = 0 → KB D A' k' ∧ 0 ≤ k' ∧ k' ≤ 30) := by
  have n2 := hT.1
  have hr : ∀ u, -1 ≤ fdGo (fun k => E 325 k) (D 327) u cnt.toNat 0 ∧ fdGo (fun k => E 325 k) (D 327) u cnt.toNat 0 ≤ 100 := fun u => by
    have := hF u
    omega
  intro r
  induction r using Nat.strongRecOn with
  | ind r ih =>
  intro k i A hk k0 i0 i1 hB
  have tr := hT.tyr i0 i1
  obtain ⟨pr, hq⟩ := hT.k i0 i1
  -- nothing more
  by_cases iN : i = N
  · subst iN
    have t8 : ty T i = 128 := by
      rcases hq with ⟨-, -, q⟩ | ⟨q, -⟩
      · exact q
      · omega
    refine ⟨0, k, A, fun m z d hd h hM => ⟨m, z, i, M198z hT h (by omega), h, Fr.rf, fun _ => hM⟩, fun c d s p hd h hp h2 hC hL hN h10 => ⟨c, iI 1, iI k, ?_, h.1.1, Fr.rf, h.2.2.2.2.2, fun _ => hC⟩, fun _ => ⟨hB, k0, by omega⟩⟩
    have hy := h.2.1.2.1
    rw [t8] at hy
    rw [sg_59_35 (by omega)]
    simp (disch := omega) only [shP h.1.1, shT h.1.1, ↓reduceIte, not_false_eq_true, not_true_eq_false, and_self, and_true, true_and, false_and, and_false, or_true, true_or, or_false, false_or, or_self, reduceCtorEq, mm_q, Option.getD_some, cI_some, cJ_some, cV_some, cS_some, kd_sI, kd_sL, kd_sR, kd_cp, ln_sI, ln_sL, ln_sR, ln_cp, gR_sI, gR_sL, gR_sR, gR_cp, gL_sI, gL_sR, gL_cp, gI_sL, gI_sR, iI_add, iI_sub, iI_mul, iI_neg, iI_in, iI_tn, iI_lt, iI_eq, Nat.reduceLeDiff, Nat.reduceEqDiff, Nat.reduceAdd, Int.reduceEq, Int.reduceLT, Int.reduceLE, Int.reduceNeg, Int.reduceAdd, Int.reduceSub, Int.reduceMul, hy, show k < 1000 by omega]
  have iN' : i < N := by omega
  have t8 : ¬ ty T i = 128 := by
    unfold sgn at hq
    omega
  -- the class calls for a take
  have call : ∀ (c : mm_M) (d s p : Nat), 20 ≤ d → CR D n T N i s c → ∀ (v : Int32) (c2 : mm_M), mm_ev (d - 1) 60 0 [some (.ref 154), none] [] c = some (some (some (.int (v))), c2) → mm_ev d 59 35 [some (.ref 154), some (.ref s), some (.ref p), some (.int (iI (1))), some (.int (iI (k)))] [] c = mm_ev d 59 35 [some (.ref 154), some (.ref s), some (.ref p), some (.int v), some (.int (iI (k + 1)))] [] c2 := fun c d s p hd h v c2 e => by
    have hy := h.2.1.2.1
    rw [sg_59_35 (by omega)]
    simp (disch := omega) only [shP h.1.1, shT h.1.1, ↓reduceIte, not_false_eq_true, not_true_eq_false, and_self, and_true, true_and, false_and, and_false, or_true, true_or, or_false, false_or, or_self, reduceCtorEq, mm_q, Option.getD_some, cI_some, cJ_some, cV_some, cS_some, kd_sI, kd_sL, kd_sR, kd_cp, ln_sI, ln_sL, ln_sR, ln_cp, gR_sI, gR_sL, gR_sR, gR_cp, gL_sI, gL_sR, gL_cp, gI_sL, gI_sR, iI_add, iI_sub, iI_mul, iI_neg, iI_in, iI_tn, iI_lt, iI_eq, Nat.reduceLeDiff, Nat.reduceEqDiff, Nat.reduceAdd, Int.reduceEq, Int.reduceLT, Int.reduceLE, Int.reduceNeg, Int.reduceAdd, Int.reduceSub, Int.reduceMul, hy, t8, show k < 1000 by omega, e]
  have stop : ∀ (c : mm_M) (d s p : Nat), 20 ≤ d → mm_ev d 59 35 [some (.ref 154), some (.ref s), some (.ref p), some (.int (iI 0)), some (.int (iI (k + 1)))] [] c = mm_ev d 59 71 [some (.ref 154), some (.ref s), some (.ref p), some (.int (iI 0)), some (.int (iI (k + 1)))] [] c := fun c d s p hd => by
    rw [sg_59_35 (by omega), if_pos rfl]
  -- a fault in the first word
  have bad : ∀ (g w : Int), ((w = -1 ∧ g = 1) ∨ ((0 ≤ w ∧ w < 4) ∧ k = 30 ∧ g = 5)) → w = (if 17 ≤ ty T i ∧ ty T i < 21 then ty T i - 17 else -1) → ((¬ (17 ≤ ty T i ∧ ty T i < 21) ∧ g = 1) ∨ ((17 ≤ ty T i ∧ ty T i < 21) ∧ k = 30 ∧ g = 5)) → ∃ (f' k' : Int) (A' : Nat → Int), (∀ (m : mm_M) (z : Option Value) (d : Nat), 20 ≤ d → PF D E T N i 0 m → KM A k m → ∃ m' z' i', mm_ev d 198 11 [some (.ref 316), some (.int (iI (k))), z] [] m = mm_ev d 198 174 [some (.ref 316), some (.int (iI (k'))), z'] [] m' ∧ PF D E T N i' f' m' ∧ Fr scM m m' ∧ (f' = 0 → KM A' k' m')) ∧ (∀ (c : mm_M) (d s p : Nat), 20 ≤ d → CR D n T N i s c → isSc p → mm_gR c 154 2 = some p → KC A k c p → mm_gI c s 0 = iI (st D 0) → NR (fun k => E 325 k) (D 327) cnt (st D 5) (st D 6) s c → mm_gI c s 10 = iI (st D 6) → ∃ c' x y, mm_ev d 59 35 [some (.ref 154), some (.ref s), some (.ref p), some (.int (iI (1))), some (.int (iI (k)))] [] c = mm_ev d 59 71 [some (.ref 154), some (.ref s), some (.ref p), some (.int x), some (.int y)] [] c' ∧ Sh c' ∧ Fr (scTk p) c c' ∧ mm_gI c' 154 3 = iI f' ∧ (f' = 0 → KC A' k' c' p)) ∧ (f' = 0 → KB D A' k' ∧ 0 ≤ k' ∧ k' ≤ 30) := fun g w h1 h2 h3 => by
    refine ⟨g + 16 * tP T i, k, A, fun m z d hd h hM => ?_, fun c d s p hd h hp h2 hC hL hN h10 => ?_, fun y => by omega⟩
    · obtain ⟨m', e, h', g'⟩ := M198b (d := d) (z := z) hT h (by omega) k0 (by omega) h1
      refine ⟨m', some (.int (iI (w))), i, ?_, h', g', fun y => by omega⟩
      rw [M198h hT hE h iN' (by omega), ← h2, e]
      exact M198x h' (by omega) (by omega)
    · have e := C60b (d := d - 1) hT h hp h2 hC.1 k0 (by omega) (by omega) h3
      refine ⟨mm_sI c 154 3 (iI (g + 16 * tP T i)), iI 0, iI (k + 1), ?_, (h.1.br Fr.r154).1, Fr.r154.BT, by rw [gI_sI, if_pos ⟨rfl, rfl⟩], fun y => by omega⟩
      rw [call c d s p hd h _ _ e, stop _ _ _ _ hd]
  by_cases hw : 17 ≤ ty T i ∧ ty T i < 21
  rotate_left
  · exact bad 1 (-1) (Or.inl ⟨rfl, rfl⟩) (by rw [if_neg hw]) (Or.inl ⟨hw, rfl⟩)
  by_cases k30 : k = 30
  · exact bad 5 (ty T i - 17) (Or.inr ⟨by omega, k30, rfl⟩) (by rw [if_pos hw]) (Or.inr ⟨hw, k30, rfl⟩)
  generalize hw' : ty T i - 17 = w
  generalize ha : tkV T (fun k => E 325 k) (D 327) cnt w (i + 1) = a
  generalize hb : tkU T (st D 0) w a.2.1 a.2.2 = b
  generalize ht : twS T 59 b.2.1 b.2.2 = t
  have wv : (if 17 ≤ ty T i ∧ ty T i < 21 then ty T i - 17 else -1) = w := by rw [if_pos hw, hw']
  have md : ∀ (m : mm_M) (z : Option Value) (d : Nat), 20 ≤ d → PF D E T N i 0 m → KM A k m → ∃ m', mm_ev d 198 11 [some (.ref 316), some (.int (iI (k))), z] [] m = mm_ev d 198 11 [some (.ref 316), some (.int (iI (k + 1))), some (.int (iI (w)))] [] m' ∧ PF D E T N t.1 t.2 m' ∧ Fr scM m m' ∧ KM (nxA A k w a.1 b.1) (k + 1) m' := fun m z d hd h hM => by
    obtain ⟨m', e, h', g', u0, u1, u2, u3⟩ := M198g (d := d) (z := z) (w := w) hT hE h iN' (by omega) (by omega) k0 (by omega) l0 l1 hc c0 c1 hr (by omega) ha.symm hb.symm ht.symm
    refine ⟨m', ?_, h', g', hM.nx k0 u0 u1 u2 u3⟩
    rw [M198h hT hE h iN' (by omega), wv, e]
  by_cases y : t.2 = 0
  · have T1 : b.2.2 = 0 := by
      by_cases q : b.2.2 = 0
      · exact q
      · rw [← ht] at y; unfold twS at y; rw [if_neg q] at y; exact y
    have V1 : a.2.2 = 0 := by
      by_cases q : a.2.2 = 0
      · exact q
      · rw [← hb] at T1
        unfold tkU at T1
        by_cases z0 : w = 0
        · rw [if_pos z0, tn_f q] at T1; exact T1
        · by_cases z2 : w = 2
          · rw [if_neg z0, if_pos z2, tn_f q] at T1; exact T1
          · rw [if_neg z0, if_neg z2] at T1; exact T1
    have VA := tkV_r (Y := fun k => E 325 k) (W := D 327) (cnt := cnt) (w := w) (i := i + 1) hT (by omega) (by omega) (by rw [ha]; exact V1)
    rw [ha] at VA
    obtain ⟨⟨va, vb⟩, vc⟩ := VA
    have UA := tkU_r (Ln := st D 0) (w := w) (i := a.2.1) (f := a.2.2) hT (by omega) vb (by rw [hb]; exact T1)
    rw [hb] at UA
    obtain ⟨-, ⟨ua, ub⟩, uc, ud⟩ := UA
    have WA := tw_r (w := 59) (i := b.2.1) (f := b.2.2) hT (by omega) ub (by omega) (by rw [ht]; exact y)
    rw [ht] at WA
    obtain ⟨-, wa, wb, -⟩ := WA
    have hB' : KB D (nxA A k w a.1 b.1) (k + 1) := hB.nx (by omega) (by omega) (fun z => by
      have := vc z
      have := hF (tV T (i + 1))
      omega) uc ud
    obtain ⟨f', k', A', Q1, Q2, Q3⟩ := ih (r - 1) (by omega) (k + 1) t.1 (nxA A k w a.1 b.1) (by omega) (by omega) (by omega) (by omega) hB'
    refine ⟨f', k', A', fun m z d hd h hM => ?_, fun c d s p hd h hp h2 hC hL hN h10 => ?_, Q3⟩
    · obtain ⟨m1, e1, h1, g1, M1⟩ := md m z d hd h hM
      rw [y] at h1
      obtain ⟨m2, z2, i2, e2, h2, g2, M2⟩ := Q1 m1 _ d hd h1 M1
      exact ⟨m2, z2, i2, by rw [e1, e2], h2, g1.tr g2, M2⟩
    · have hst := h.2.2.2.1
      have hst' : s = 104 ∨ s = 125 := hst
      have hp' : p = 146 ∨ p = 150 := hp
      obtain ⟨c2, e2, g2, s2, u2⟩ := C60g (d := d - 1) (w := w) hT h hp h2 hC.1 k0 (by omega) (by omega) (by omega) (by omega) hL l0 l1 hN h10 (by omega) ha.symm hb.symm ht.symm
      obtain ⟨x1, x2, x3, x4, x5, x6⟩ := s2 y
      rw [bI_1 y] at e2
      have sn : ∀ a k, s ≤ a → a ≤ s + 20 → scTk p a k = false := fun a k a0 a1 => by
        unfold scTk
        rw [scB_st hst a0 a1, scS4_n (by omega)]
        rfl
      obtain ⟨c3, x, y', e3, h3, g3, u3, C3⟩ := Q2 c2 d s p hd x1 hp ((g2.2.2.1 _ _).trans h2) (hC.nx k0 x2 x3 x4 x5 x6) ((g2.gI (sn _ _ (by omega) (by omega))).trans hL) (hN.fr g2 (fun a k z => sn _ _ (by omega) (by omega))) ((g2.gI (sn _ _ (by omega) (by omega))).trans h10)
      exact ⟨c3, x, y', by rw [call c d s p hd h _ _ e2, e3], h3, g2.tr g3, u3, C3⟩
  · refine ⟨t.2, k + 1, A, fun m z d hd h hM => ?_, fun c d s p hd h hp h2 hC hL hN h10 => ?_, fun q => absurd q y⟩
    · obtain ⟨m1, e1, h1, g1, M1⟩ := md m z d hd h hM
      exact ⟨m1, some (.int (iI (w))), t.1, by rw [e1]; exact M198x h1 y (by omega), h1, g1, fun q => absurd q y⟩
    · obtain ⟨c2, e2, g2, s2, u2⟩ := C60g (d := d - 1) (w := w) hT h hp h2 hC.1 k0 (by omega) (by omega) (by omega) (by omega) hL l0 l1 hN h10 (by omega) ha.symm hb.symm ht.symm
      rw [bI_0 y] at e2
      exact ⟨c2, iI 0, iI (k + 1), by rw [call c d s p hd h _ _ e2, stop _ _ _ _ hd], g2.sh h.1.1, g2, u2 y, fun q => absurd q y⟩
end
