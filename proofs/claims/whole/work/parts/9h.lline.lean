def sc21 (a k : Nat) : Bool := Nat.beq a 316 && Nat.beq k 21
/-- a line, read by both, into the street s -/
def LNs (D : Nat → Nat → Int32) (E : Nat → Nat → Int64) (n : Int) (T : TK) (N : Int) (X : Nat → Nat → Int32) (Y : Nat → Int64) (i : Int) (s jm : Nat) (Lm : mm_L) (jc : Nat) (Lc : mm_L) : Prop := ∃ (i' f' : Int) (X' : Nat → Nat → Int32) (Y' : Nat → Int64), (∀ (m : mm_M) (d : Nat), 60 ≤ d → PF D E T N i 0 m → DM X Y m → ∃ m', mm_ev d jm 0 Lm [] m = some (some none, m') ∧ PF D E T N i' f' m' ∧ (f' = 0 → DM X' Y' m') ∧ Fr scM m m') ∧ (∀ (c : mm_M) (d : Nat), 60 ≤ d → CR D n T N i s c → DC X Y c s → FN c → ∃ c', mm_ev d jc 0 Lc [] c = some (some (some (.int (iI (bI (decide (f' = 0)))))), c') ∧ Fr (scQs s) c c' ∧ (f' = 0 → CR D n T N i' s c' ∧ DC X' Y' c' s) ∧ (¬ f' = 0 → mm_gI c' 154 3 = iI f')) ∧ (f' = 0 → LX X' i' ∧ i < i')
section
variable {D : Nat → Nat → Int32} {E : Nat → Nat → Int64} {m m' c c' c'' : mm_M} {d s L : Nat} {n N i f : Int} {T : TK} {X X' X'' : Nat → Nat → Int32} {Y : Nat → Int64} {lo start fh a b : Int} {h : Nat} {δ : Int}
/-- laws told before stay -/
theorem LawR.ext {st0 K : Int} (l : LawR X c L lo st0) (he : 0 ≤ st0 → ∃ e, st0 ≤ e ∧ e < K ∧ opS X e = 0) (ag : ∀ k, 0 ≤ k → k < K → opS X' k = opS X k ∧ arS X' k = arS X k) : LawR X' c L lo st0 := by
  rcases l with l | l | ⟨a0, a1, q, ⟨q0, q1⟩, g4, oz, hk⟩
  · exact Or.inl l
  · exact Or.inr (Or.inl l)
  · obtain ⟨e, e0, e1, e2⟩ := he a0
    have qe : st0 + q ≤ e := by
      by_cases y : st0 + q ≤ e
      · exact y
      · have := (hk (e - st0) (by omega) (by omega)).1
        rw [show st0 + (e - st0) = e by omega] at this
        exact absurd e2 this
    refine Or.inr (Or.inr ⟨a0, a1, q, ⟨q0, q1⟩, g4, ?_, fun j j0 j1 => ?_⟩)
    · rw [(ag _ (by omega) (by omega)).1]; exact oz
    · obtain ⟨w1, w2⟩ := hk j j0 j1
      have := ag (st0 + j) (by omega) (by omega)
      refine ⟨by rw [this.1]; exact w1, ?_⟩
      rw [w2]
      unfold encS
      rw [this.1, this.2]
theorem lawOk_ext {e : Int} (ag : ∀ k, 0 ≤ k → k ≤ e → opS X' k = opS X k ∧ arS X' k = arS X k) (he : opS X e = 0) : ∀ (r : Nat) (j : Int) (h : Nat), j ≤ e → lawOk X lo r j h → lawOk X' lo r j h
  | 0, _, _, _, q => q.elim
  | r + 1, j, h, je, q => by
    obtain ⟨⟨j0, j1⟩, q⟩ := q
    have ih := fun h' (z : ¬ opS X j = 0) => lawOk_ext ag he r (j + 1) h' (by
      have : ¬ j = e := fun w => z (by rw [w]; exact he)
      omega)
    refine ⟨⟨j0, j1⟩, ?_⟩
    rw [(ag j j0 je).1, (ag j j0 je).2]
    rcases q with q | ⟨q1, q2, q3, q4⟩ | ⟨q1, q2, q3, q4⟩ | ⟨q1, q2, q3⟩ | ⟨q1, q2, q3, q4⟩
    · exact Or.inl q
    · exact Or.inr (Or.inl ⟨q1, q2, q3, ih _ (by omega) q4⟩)
    · exact Or.inr (Or.inr (Or.inl ⟨q1, q2, q3, ih _ (by omega) q4⟩))
    · exact Or.inr (Or.inr (Or.inr (Or.inl ⟨q1, q2, ih _ (by omega) q3⟩)))
    · exact Or.inr (Or.inr (Or.inr (Or.inr ⟨q1, q2, q3, ih _ (by omega) q4⟩)))
theorem scLw_f {x k : Nat} (h : scBr x k = false) (h1 : ¬ (x = L ∧ k = 4)) (h2 : ¬ x = L + 1) : scLw L x k = false := by
  unfold scLw
  rw [h, nb h2]
  by_cases y : x = L
  · rw [nb (show ¬ k = 4 by omega)]; simp
  · rw [nb y]; rfl
theorem Fr.LwQ (g : Fr (scLw L) c c') (h0 : L = s + 7 ∨ L = s + 10) : Fr (scQs s) c c' := g.mono (fun x k z => by
  have hn : ¬ ((x = L ∧ k = 4) ∨ x = L + 1) := fun q => by
    rw [scQ_t (by omega) (by omega) (by omega)] at z
    cases z
  unfold scQs at z
  simp only [Bool.or_eq_false_iff] at z
  exact scLw_f z.1 (by omega) (by omega))
theorem LN.toS {jm jc : Nat} {Lm : mm_L} {Lc : Nat → mm_L} (l : LN D E n T N X Y i jm Lm jc Lc) (s : Nat) : LNs D E n T N X Y i s jm Lm jc (Lc s) := by
  obtain ⟨i', f', X', Y', h1, h2, h3⟩ := l
  exact ⟨i', f', X', Y', h1, fun c d hd => h2 c d s hd, h3⟩
/-- quick, odd -/
theorem L_law (hT : TS D n T N) (hE : EK E) (hX : LX X i) (i0 : 0 ≤ i) (iN : i < N) {k : Int} {o : Nat} (hk : (k = 0 ∧ lo = 0 ∧ fh = 3 ∧ o = 7) ∨ (k = 1 ∧ lo = 2 ∧ fh = 12 ∧ o = 10)) (z : ty T i = 15 + k) (hst : isSt s) : LNs D E n T N X Y i s 190 [some (.ref 316), none] 53 [some (.ref 154), some (.ref (s + o))] := by
  have hst' : s = 104 ∨ s = 125 := hst
  have pr := (hT.k i0 (by omega)).1
  have nn := hT.1
  have hI := hX.1
  obtain ⟨⟨c0, c1⟩, ⟨l0, l1⟩, ⟨f0, f1, f2⟩, ⟨p0, p1⟩, ⟨w0, w1⟩, ⟨q0, q1⟩, ⟨x0, x1⟩, ⟨r0, r1⟩, hte, hwk, hmu⟩ := hI
  have hr := hX.2.2.2.2.2.2
  obtain ⟨cd0, cd1⟩ := hX.2.2.2.1
  have hlo : lo = 0 ∨ lo = 2 := by omega
  have hfh : fh = if lo = 0 then 3 else 12 := by
    rcases hk with ⟨-, q, w, -⟩ | ⟨-, q, w, -⟩
    · rw [if_pos q, w]
    · rw [if_neg (by omega), w]
  have hL : isLw (s + o) := by
    rcases hk with ⟨-, -, -, rfl⟩ | ⟨-, -, -, rfl⟩
    · exact lwQ hst
    · exact lwO hst
  have o10 : o = 7 ∨ o = 10 := by omega
  have hI9 : st X (9 + k) = -1 ∨ 0 ≤ st X (9 + k) := by
    rcases hk with ⟨rfl, -⟩ | ⟨rfl, -⟩
    · rcases hX.2.1.1 with q | q
      · exact Or.inl q
      · exact Or.inr q.1
    · rcases hX.2.1.2 with q | q
      · exact Or.inl q
      · exact Or.inr q.1
  have str := st_r (D := X) (9 + k)
  have mod0 : ∀ (m : mm_M) (d : Nat), 60 ≤ d → PF D E T N i 0 m → mm_ev d 190 0 [some (.ref 316), none] [] m = mm_ev d 190 20 [some (.ref 316), none] [.int (iI k)] m := fun m d hd hP => by
    have e1 := M171 (d := d - 1) hT hE hP (w := 14) (by omega) (by omega)
    rw [bI_0 (by omega)] at e1
    have e3 := M181 (d := d - 1) hT hE hP (by omega) (a := 15) (c := 2) (by omega) (by omega) (by omega)
    rw [if_pos ⟨rfl, by omega, by omega⟩, show ty T i - 15 = k by omega] at e3
    rw [sg_190_0 (by omega)]
    simp (disch := omega) only [shM hP.1.1, ↓reduceIte, not_false_eq_true, not_true_eq_false, and_self, and_true, true_and, false_and, and_false, or_true, true_or, or_false, false_or, or_self, reduceCtorEq, mm_q, Option.getD_some, cI_some, cJ_some, cV_some, cS_some, kd_sI, kd_sL, kd_sR, kd_cp, ln_sI, ln_sL, ln_sR, ln_cp, gR_sI, gR_sL, gR_sR, gR_cp, gL_sI, gL_sR, gL_cp, gI_sL, gI_sR, iI_add, iI_sub, iI_mul, iI_neg, iI_in, iI_tn, iI_lt, iI_eq, Nat.reduceLeDiff, Nat.reduceEqDiff, Nat.reduceAdd, Int.reduceEq, Int.reduceLT, Int.reduceLE, Int.reduceNeg, Int.reduceAdd, Int.reduceSub, Int.reduceMul, e1]
    rw [sg_190_6 (by omega)]
    simp (disch := omega) only [shM hP.1.1, ↓reduceIte, not_false_eq_true, not_true_eq_false, and_self, and_true, true_and, false_and, and_false, or_true, true_or, or_false, false_or, or_self, reduceCtorEq, mm_q, Option.getD_some, cI_some, cJ_some, cV_some, cS_some, kd_sI, kd_sL, kd_sR, kd_cp, ln_sI, ln_sL, ln_sR, ln_cp, gR_sI, gR_sL, gR_sR, gR_cp, gL_sI, gL_sR, gL_cp, gI_sL, gI_sR, iI_add, iI_sub, iI_mul, iI_neg, iI_in, iI_tn, iI_lt, iI_eq, Nat.reduceLeDiff, Nat.reduceEqDiff, Nat.reduceAdd, Int.reduceEq, Int.reduceLT, Int.reduceLE, Int.reduceNeg, Int.reduceAdd, Int.reduceSub, Int.reduceMul, e3]
  have g9 : ∀ (m : mm_M), DM X Y m → mm_gI m 322 (109 + k).toNat = iI (st X (9 + k)) := fun m hM => by
    rw [DM_st hM (by omega) (by omega), show 109 + k - 100 = 9 + k by omega]
  have flg : ∀ (c : mm_M), DC X Y c s → mm_gI c (s + o) 5 = iI (bI (decide (0 ≤ st X (9 + k)))) := fun c hD => by
    rcases hk with ⟨rfl, -, -, rfl⟩ | ⟨rfl, -, -, rfl⟩
    · exact hD.2.2.1
    · exact hD.2.2.2.1
  by_cases z9 : 0 ≤ st X (9 + k)
  · refine ⟨i, 3 + 16 * tP T i, X, Y, fun m d hd hP hM => ?_, fun c d hd hC hD hF => ?_, by omega⟩
    · obtain ⟨m2, e2, h2, g2⟩ := M172 (d := d - 1) hT hP (k := 3) (by omega) (by omega)
      rw [if_pos rfl] at h2
      refine ⟨m2, ?_, h2, by omega, g2.AtM⟩
      rw [mod0 m d hd hP, sg_190_20 (by omega)]
      simp (disch := omega) only [shM hP.1.1, ↓reduceIte, not_false_eq_true, not_true_eq_false, and_self, and_true, true_and, false_and, and_false, or_true, true_or, or_false, false_or, or_self, reduceCtorEq, mm_q, Option.getD_some, cI_some, cJ_some, cV_some, cS_some, kd_sI, kd_sL, kd_sR, kd_cp, ln_sI, ln_sL, ln_sR, ln_cp, gR_sI, gR_sL, gR_sR, gR_cp, gL_sI, gL_sR, gL_cp, gI_sL, gI_sR, iI_add, iI_sub, iI_mul, iI_neg, iI_in, iI_tn, iI_lt, iI_eq, Nat.reduceLeDiff, Nat.reduceEqDiff, Nat.reduceAdd, Int.reduceEq, Int.reduceLT, Int.reduceLE, Int.reduceNeg, Int.reduceAdd, Int.reduceSub, Int.reduceMul, show ¬ k < 0 by omega, show ¬ k = 2 by omega, g9 m hM, show ¬ st X (9 + k) < 0 by omega]
      rw [sg_190_60 (by omega)]
      simp (disch := omega) only [shM hP.1.1, ↓reduceIte, not_false_eq_true, not_true_eq_false, and_self, and_true, true_and, false_and, and_false, or_true, true_or, or_false, false_or, or_self, reduceCtorEq, mm_q, Option.getD_some, cI_some, cJ_some, cV_some, cS_some, kd_sI, kd_sL, kd_sR, kd_cp, ln_sI, ln_sL, ln_sR, ln_cp, gR_sI, gR_sL, gR_sR, gR_cp, gL_sI, gL_sR, gL_cp, gI_sL, gI_sR, iI_add, iI_sub, iI_mul, iI_neg, iI_in, iI_tn, iI_lt, iI_eq, Nat.reduceLeDiff, Nat.reduceEqDiff, Nat.reduceAdd, Int.reduceEq, Int.reduceLT, Int.reduceLE, Int.reduceNeg, Int.reduceAdd, Int.reduceSub, Int.reduceMul, e2]
      rw [sg_190_65 (by omega)]
      simp (disch := omega) only [shM h2.1.1, ↓reduceIte, not_false_eq_true, not_true_eq_false, and_self, and_true, true_and, false_and, and_false, or_true, true_or, or_false, false_or, or_self, reduceCtorEq, mm_q, Option.getD_some, cI_some, cJ_some, cV_some, cS_some, kd_sI, kd_sL, kd_sR, kd_cp, ln_sI, ln_sL, ln_sR, ln_cp, gR_sI, gR_sL, gR_sR, gR_cp, gL_sI, gL_sR, gL_cp, gI_sL, gI_sR, iI_add, iI_sub, iI_mul, iI_neg, iI_in, iI_tn, iI_lt, iI_eq, Nat.reduceLeDiff, Nat.reduceEqDiff, Nat.reduceAdd, Int.reduceEq, Int.reduceLT, Int.reduceLE, Int.reduceNeg, Int.reduceAdd, Int.reduceSub, Int.reduceMul, h2.2.2.2.1, show 0 < 3 + 16 * tP T i by omega]
    · have h5 := flg c hD
      rw [bI_1 z9] at h5
      refine ⟨mm_sI c 154 3 (iI (3 + 16 * tP T i)), ?_, Fr.r154.BQ, by omega, fun _ => by simp [gI_sI]⟩
      rw [sg_53_0 (by omega), bI_0 (by omega)]
      simp (disch := omega) only [shP hC.1.1, lwF hC.1.1 hL, ↓reduceIte, not_false_eq_true, not_true_eq_false, and_self, and_true, true_and, false_and, and_false, or_true, true_or, or_false, false_or, or_self, reduceCtorEq, mm_q, Option.getD_some, cI_some, cJ_some, cV_some, cS_some, kd_sI, kd_sL, kd_sR, kd_cp, ln_sI, ln_sL, ln_sR, ln_cp, gR_sI, gR_sL, gR_sR, gR_cp, gL_sI, gL_sR, gL_cp, gI_sL, gI_sR, iI_add, iI_sub, iI_mul, iI_neg, iI_in, iI_tn, iI_lt, iI_eq, Nat.reduceLeDiff, Nat.reduceEqDiff, Nat.reduceAdd, Int.reduceEq, Int.reduceLT, Int.reduceLE, Int.reduceNeg, Int.reduceAdd, Int.reduceSub, Int.reduceMul, h5, C40 hT hC]
  · generalize hX1 : up X 322 (109 + k - 100).toNat (iI (cdX X)) = X1
    have x1o : ∀ x y, ¬ x = 322 → X1 x y = X x y := fun x y q => by rw [← hX1]; unfold up; rw [if_neg (by omega)]
    have x1c : cdX X1 = cdX X := by unfold cdX; rw [x1o _ _ (by omega)]
    have x1s : ∀ j, st X1 j = if j.toNat = (9 + k).toNat then cdX X else st X j := fun j => by
      rw [← hX1, st_u, iI_val (by omega) (by omega), show (109 + k - 100).toNat = (9 + k).toNat by omega]
    obtain ⟨i1, f1, X2, ⟨a1, a2⟩, sm, sc, sx, sf⟩ := (Lexpr (D := D) (E := E) (n := n) (Y := Y) (fh := fh) (lo := lo) (start := cdX X) (s := s) (L := s + o) hT hE hlo hfh 5 0 (by omega) (by omega)).2 X1 (i + 1) 0 ⟨⟨by omega, by omega⟩, ⟨cd0, by omega⟩, by omega⟩ (by omega)
    have cdm1 : cdX X1 = cdX X := x1c
    -- the model as far as the text
    have mo : ∀ (m : mm_M) (d : Nat), 60 ≤ d → PF D E T N i 0 m → DM X Y m → ∃ m1, EM D E T N Y fh X1 (i + 1) m1 ∧ Fr scM m m1 ∧ ∀ m2 m3, Sh m2 → Sh m3 → mm_ev (d - 1) 191 0 [some (.ref 316), some (.int (iI (0))), none] [] m1 = some (some none, m2) → mm_ev (d - 1) 196 0 [some (.ref 316), some (.int (iI (0))), some (.int (iI (0)))] [] m2 = some (some none, m3) → mm_ev d 190 0 [some (.ref 316), none] [] m = some (some none, m3) := fun m d hd hP hM => by
      have h1 := (hP.at (j := i + 1) (by omega) (by omega)).w (j := 109 + k) (v := iI (cdX X)) (by omega)
      have hM1 := (hM.at (m' := mm_sI m 316 7 (iI (i + 1))) Fr.at7).w (j := 109 + k) (v := iI (cdX X)) (by omega) (by omega)
      rw [hX1] at hM1
      have g13 : mm_gI m 316 13 = iI (cdX X) := by rw [hM.2.1.1]; unfold cdX; rw [iI_toInt]
      refine ⟨mm_sI (mm_sI (mm_sI m 316 7 (iI (i + 1))) 322 (109 + k).toNat (iI (cdX X))) 316 21 (iI fh), ⟨?_, ?_, by simp [gI_sI]⟩, ?_, fun m2 m3 s2 s3 e2 e3 => ?_⟩
      · exact h1.o (P := sc21) (Fr.sI (scM_t (by omega))) (Fr.sI rfl) (fun a k y => by
          unfold sc21
          by_cases q : a = 316
          · rw [nb (show ¬ k = 21 by omega)]; simp
          · rw [nb q]; rfl)
      · exact hM1.fr (P := sc21) (Fr.sI rfl) (fun a k y => by
          unfold sc21
          by_cases q : a = 316
          · rw [nb (show ¬ k = 21 by omega)]; simp
          · rw [nb q]; rfl)
      · exact (Fr.at7.AtM.tr (Fr.s322 (by omega))).tr (Fr.sI (scM_t (by omega)))
      · rw [mod0 m d hd hP, sg_190_20 (by omega)]
        simp (disch := omega) only [shM hP.1.1, ↓reduceIte, not_false_eq_true, not_true_eq_false, and_self, and_true, true_and, false_and, and_false, or_true, true_or, or_false, false_or, or_self, reduceCtorEq, mm_q, Option.getD_some, cI_some, cJ_some, cV_some, cS_some, kd_sI, kd_sL, kd_sR, kd_cp, ln_sI, ln_sL, ln_sR, ln_cp, gR_sI, gR_sL, gR_sR, gR_cp, gL_sI, gL_sR, gL_cp, gI_sL, gI_sR, iI_add, iI_sub, iI_mul, iI_neg, iI_in, iI_tn, iI_lt, iI_eq, Nat.reduceLeDiff, Nat.reduceEqDiff, Nat.reduceAdd, Int.reduceEq, Int.reduceLT, Int.reduceLE, Int.reduceNeg, Int.reduceAdd, Int.reduceSub, Int.reduceMul, show ¬ k < 0 by omega, show ¬ k = 2 by omega, g9 m hM, show st X (9 + k) < 0 by omega]
        rw [sg_190_65 (by omega)]
        rcases hk with ⟨rfl, -, rfl, -⟩ | ⟨rfl, -, rfl, -⟩
        · simp (disch := omega) only [shM hP.1.1, ↓reduceIte, not_false_eq_true, not_true_eq_false, and_self, and_true, true_and, false_and, and_false, or_true, true_or, or_false, false_or, or_self, reduceCtorEq, mm_q, Option.getD_some, cI_some, cJ_some, cV_some, cS_some, kd_sI, kd_sL, kd_sR, kd_cp, ln_sI, ln_sL, ln_sR, ln_cp, gR_sI, gR_sL, gR_sR, gR_cp, gL_sI, gL_sR, gL_cp, gI_sL, gI_sR, iI_add, iI_sub, iI_mul, iI_neg, iI_in, iI_tn, iI_lt, iI_eq, Nat.reduceLeDiff, Nat.reduceEqDiff, Nat.reduceAdd, Int.reduceEq, Int.reduceLT, Int.reduceLE, Int.reduceNeg, Int.reduceAdd, Int.reduceSub, Int.reduceMul, hP.2.2.2.1, hP.2.2.1, gI_sI, g13]
          rw [sg_190_134 (by omega)]
          simp (disch := omega) only [↓reduceIte, not_false_eq_true, not_true_eq_false, and_self, and_true, true_and, false_and, and_false, or_true, true_or, or_false, false_or, or_self, reduceCtorEq, mm_q, Option.getD_some, cI_some, cJ_some, cV_some, cS_some, kd_sI, kd_sL, kd_sR, kd_cp, ln_sI, ln_sL, ln_sR, ln_cp, gR_sI, gR_sL, gR_sR, gR_cp, gL_sI, gL_sR, gL_cp, gI_sL, gI_sR, iI_add, iI_sub, iI_mul, iI_neg, iI_in, iI_tn, iI_lt, iI_eq, Nat.reduceLeDiff, Nat.reduceEqDiff, Nat.reduceAdd, Int.reduceEq, Int.reduceLT, Int.reduceLE, Int.reduceNeg, Int.reduceAdd, Int.reduceSub, Int.reduceMul] at e2
          simp (disch := omega) only [shM hP.1.1, shM s2, ↓reduceIte, not_false_eq_true, not_true_eq_false, and_self, and_true, true_and, false_and, and_false, or_true, true_or, or_false, false_or, or_self, reduceCtorEq, mm_q, Option.getD_some, cI_some, cJ_some, cV_some, cS_some, kd_sI, kd_sL, kd_sR, kd_cp, ln_sI, ln_sL, ln_sR, ln_cp, gR_sI, gR_sL, gR_sR, gR_cp, gL_sI, gL_sR, gL_cp, gI_sL, gI_sR, iI_add, iI_sub, iI_mul, iI_neg, iI_in, iI_tn, iI_lt, iI_eq, Nat.reduceLeDiff, Nat.reduceEqDiff, Nat.reduceAdd, Int.reduceEq, Int.reduceLT, Int.reduceLE, Int.reduceNeg, Int.reduceAdd, Int.reduceSub, Int.reduceMul, e2, e3]
        · simp (disch := omega) only [shM hP.1.1, ↓reduceIte, not_false_eq_true, not_true_eq_false, and_self, and_true, true_and, false_and, and_false, or_true, true_or, or_false, false_or, or_self, reduceCtorEq, mm_q, Option.getD_some, cI_some, cJ_some, cV_some, cS_some, kd_sI, kd_sL, kd_sR, kd_cp, ln_sI, ln_sL, ln_sR, ln_cp, gR_sI, gR_sL, gR_sR, gR_cp, gL_sI, gL_sR, gL_cp, gI_sL, gI_sR, iI_add, iI_sub, iI_mul, iI_neg, iI_in, iI_tn, iI_lt, iI_eq, Nat.reduceLeDiff, Nat.reduceEqDiff, Nat.reduceAdd, Int.reduceEq, Int.reduceLT, Int.reduceLE, Int.reduceNeg, Int.reduceAdd, Int.reduceSub, Int.reduceMul, hP.2.2.2.1, hP.2.2.1, gI_sI, g13]
          rw [sg_190_134 (by omega)]
          simp (disch := omega) only [↓reduceIte, not_false_eq_true, not_true_eq_false, and_self, and_true, true_and, false_and, and_false, or_true, true_or, or_false, false_or, or_self, reduceCtorEq, mm_q, Option.getD_some, cI_some, cJ_some, cV_some, cS_some, kd_sI, kd_sL, kd_sR, kd_cp, ln_sI, ln_sL, ln_sR, ln_cp, gR_sI, gR_sL, gR_sR, gR_cp, gL_sI, gL_sR, gL_cp, gI_sL, gI_sR, iI_add, iI_sub, iI_mul, iI_neg, iI_in, iI_tn, iI_lt, iI_eq, Nat.reduceLeDiff, Nat.reduceEqDiff, Nat.reduceAdd, Int.reduceEq, Int.reduceLT, Int.reduceLE, Int.reduceNeg, Int.reduceAdd, Int.reduceSub, Int.reduceMul] at e2
          simp (disch := omega) only [shM hP.1.1, shM s2, ↓reduceIte, not_false_eq_true, not_true_eq_false, and_self, and_true, true_and, false_and, and_false, or_true, true_or, or_false, false_or, or_self, reduceCtorEq, mm_q, Option.getD_some, cI_some, cJ_some, cV_some, cS_some, kd_sI, kd_sL, kd_sR, kd_cp, ln_sI, ln_sL, ln_sR, ln_cp, gR_sI, gR_sL, gR_sR, gR_cp, gL_sI, gL_sR, gL_cp, gI_sL, gI_sR, iI_add, iI_sub, iI_mul, iI_neg, iI_in, iI_tn, iI_lt, iI_eq, Nat.reduceLeDiff, Nat.reduceEqDiff, Nat.reduceAdd, Int.reduceEq, Int.reduceLT, Int.reduceLE, Int.reduceNeg, Int.reduceAdd, Int.reduceSub, Int.reduceMul, e2, e3]
    -- the class as far as the text
    have co : ∀ (c : mm_M) (d : Nat), 60 ≤ d → CR D n T N i s c → DC X Y c s → FN c → ∃ c1, mm_ev d 53 0 [some (.ref 154), some (.ref (s + o))] [] c = mm_cI (mm_ev (d - 1) 54 0 [some (.ref 154), some (.ref (s + o)), some (.int (iI (0))), some (.int (iI (0))), none, none, none] [] c1) (fun v m => if v = iI 0 ∨ v = iI 1 then some (some (some (.int v)), m) else none) ∧ EC D n T N s (s + o) lo (cdX X) X1 (i + 1) c1 ∧ Fr (scQs s) c c1 ∧ mm_gI c1 (s + o) 5 = iI 1 ∧ (∀ x k, s ≤ x → x ≤ s + 20 → ¬ (x = s + o ∧ (k = 4 ∨ k = 5)) → mm_gI c1 x k = mm_gI c x k) ∧ (∀ x k, s ≤ x → x ≤ s + 20 → mm_gL c1 x k = mm_gL c x k) := fun c d hd hC hD hF => by
      have h5 := flg c hD
      rw [bI_0 z9] at h5
      obtain ⟨c1, e1, g1, t1, -⟩ := CR.nx (d := d - 1) hT hC (by omega) iN
      have lf := lwF t1.1.1 hL
      have hfr : Fr (scw2 (s + o)) c1 (mm_sI (mm_sI (mm_sI c1 (s + o) 4 (iI 0)) (s + o) 5 (iI 0)) (s + o) 5 (iI 1)) := ((Fr.sI (by unfold scw2; simp)).tr (Fr.sI (by unfold scw2; simp))).tr (Fr.sI (by unfold scw2; simp))
      have gl : ∀ x k, s ≤ x → x ≤ s + 20 → mm_gL (mm_sI (mm_sI (mm_sI c1 (s + o) 4 (iI 0)) (s + o) 5 (iI 0)) (s + o) 5 (iI 1)) x k = mm_gL c x k := fun x k y0 y1 => by
        rw [gL_sI, gL_sI, gL_sI, g1.gL (scB_st hst y0 y1)]
      refine ⟨mm_sI (mm_sI (mm_sI c1 (s + o) 4 (iI 0)) (s + o) 5 (iI 0)) (s + o) 5 (iI 1), ?_, ⟨t1.o hfr (fun x k y => by unfold scw2; rw [nb (by omega), nb (by omega)]; rfl) (by unfold scw2; rw [nb (by omega), nb (by omega)]; rfl), hL, ⟨cd0, by omega⟩, ?_, fun j y0 y1 => by omega, ?_, ?_⟩, ?_, ?_, fun x k y0 y1 y2 => ?_, gl⟩
      · have e24 : mm_ev (d - 1) 24 0 [some (.ref (s + o))] [] c1 = some (some none, mm_sI (mm_sI c1 (s + o) 4 (iI 0)) (s + o) 5 (iI 0)) := by
          rw [sg_24_0]
          simp (disch := omega) only [lf, ↓reduceIte, not_false_eq_true, not_true_eq_false, and_self, and_true, true_and, false_and, and_false, or_true, true_or, or_false, false_or, or_self, reduceCtorEq, mm_q, Option.getD_some, cI_some, cJ_some, cV_some, cS_some, kd_sI, kd_sL, kd_sR, kd_cp, ln_sI, ln_sL, ln_sR, ln_cp, gR_sI, gR_sL, gR_sR, gR_cp, gL_sI, gL_sR, gL_cp, gI_sL, gI_sR, iI_add, iI_sub, iI_mul, iI_neg, iI_in, iI_tn, iI_lt, iI_eq, Nat.reduceLeDiff, Nat.reduceEqDiff, Nat.reduceAdd, Int.reduceEq, Int.reduceLT, Int.reduceLE, Int.reduceNeg, Int.reduceAdd, Int.reduceSub, Int.reduceMul]
        rw [sg_53_0 (by omega)]
        simp (disch := omega) only [shP hC.1.1, shT hC.1.1, lwF hC.1.1 hL, lf, ↓reduceIte, not_false_eq_true, not_true_eq_false, and_self, and_true, true_and, false_and, and_false, or_true, true_or, or_false, false_or, or_self, reduceCtorEq, mm_q, Option.getD_some, cI_some, cJ_some, cV_some, cS_some, kd_sI, kd_sL, kd_sR, kd_cp, ln_sI, ln_sL, ln_sR, ln_cp, gR_sI, gR_sL, gR_sR, gR_cp, gL_sI, gL_sR, gL_cp, gI_sL, gI_sR, iI_add, iI_sub, iI_mul, iI_neg, iI_in, iI_tn, iI_lt, iI_eq, Nat.reduceLeDiff, Nat.reduceEqDiff, Nat.reduceAdd, Int.reduceEq, Int.reduceLT, Int.reduceLE, Int.reduceNeg, Int.reduceAdd, Int.reduceSub, Int.reduceMul, h5, e1, e24]
        rw [sg_53_24 (by omega)]
        simp (disch := omega) only [shP t1.1.1, lf, ↓reduceIte, not_false_eq_true, not_true_eq_false, and_self, and_true, true_and, false_and, and_false, or_true, true_or, or_false, false_or, or_self, reduceCtorEq, mm_q, Option.getD_some, cI_some, cJ_some, cV_some, cS_some, kd_sI, kd_sL, kd_sR, kd_cp, ln_sI, ln_sL, ln_sR, ln_cp, gR_sI, gR_sL, gR_sR, gR_cp, gL_sI, gL_sR, gL_cp, gI_sL, gI_sR, iI_add, iI_sub, iI_mul, iI_neg, iI_in, iI_tn, iI_lt, iI_eq, Nat.reduceLeDiff, Nat.reduceEqDiff, Nat.reduceAdd, Int.reduceEq, Int.reduceLT, Int.reduceLE, Int.reduceNeg, Int.reduceAdd, Int.reduceSub, Int.reduceMul]
      · rw [gI_sI, if_neg (by omega), gI_sI, if_neg (by omega), gI_sI, if_pos ⟨rfl, rfl⟩, show cdX X1 - cdX X = 0 by omega]
      · rw [gl _ _ (by omega) (by omega)]
        rcases hk with ⟨-, rfl, -, rfl⟩ | ⟨-, rfl, -, rfl⟩
        · exact (hF s hst).1
        · exact (hF s hst).2.2.1
      · rw [gl _ _ (by omega) (by omega)]
        rcases hk with ⟨-, rfl, -, rfl⟩ | ⟨-, rfl, -, rfl⟩
        · exact (hF s hst).2.1
        · exact (hF s hst).2.2.2
      · exact g1.BQ.tr (((Fr.sI (scQ_t (by omega) (by omega) (by omega))).tr (Fr.sI (scQ_t (by omega) (by omega) (by omega)))).tr (Fr.sI (scQ_t (by omega) (by omega) (by omega))))
      · rw [gI_sI, if_pos ⟨rfl, rfl⟩]
      · rw [gI_sI, if_neg (by omega), gI_sI, if_neg (by omega), gI_sI, if_neg (by omega), g1.gI (scB_st hst y0 y1)]
    by_cases y : f1 = 0
    · obtain ⟨e1, e2, e3, e4⟩ := sx y
      rw [cdm1] at e1 e2 e3 e4
      have ec := emX_c (X := X2) (o := 0) (y := 0) (by omega) (by omega)
      have eo := emX_op (X := X2) (o := 0) (y := 0) (by omega) (by omega) (by omega) (by omega) (by omega)
      have el := fun {j : Int} (j0 : 0 ≤ j) (j1 : j < cdX X2) => emX_lo (X := X2) (o := 0) (y := 0) j0 j1
      have x3o : ∀ x y : Nat, ¬ ((x = 323 ∨ x = 324) ∧ cdX X ≤ (y : Int)) → ¬ (x = 316 ∧ y = 13) → ¬ x = 322 → emX X2 0 0 x y = X x y := fun x y q1 q2 q3 => by
        rw [emX_o (by omega) q2, e1 x y q1 q2, x1o x y q3]
      have x3s : ∀ j, st (emX X2 0 0) j = if j.toNat = (9 + k).toNat then cdX X else st X j := fun j => by
        rw [← x1s]
        unfold st
        rw [emX_o (by omega) (by omega), e1 _ _ (by omega) (by omega)]
      have ag : ∀ j, 0 ≤ j → j < cdX X → opS (emX X2 0 0) j = opS X j ∧ arS (emX X2 0 0) j = arS X j := fun j j0 j1 => by
        unfold opS arS
        rw [x3o _ _ (by omega) (by omega) (by omega), x3o _ _ (by omega) (by omega) (by omega)]
        exact ⟨rfl, rfl⟩
      have e27 : emX X2 0 0 327 = X 327 := by funext y; exact x3o _ _ (by omega) (by omega) (by omega)
      have erm : rmX (emX X2 0 0) = rmX X := by unfold rmX; rw [x3o _ _ (by omega) (by omega) (by omega)]
      have ehr : hrX (emX X2 0 0) = hrX X := by unfold hrX; rw [x3o _ _ (by omega) (by omega) (by omega)]
      refine ⟨i1, 0, emX X2 0 0, Y, fun m d hd hP hM => ?_, fun c d hd hC hD hF => ?_, fun _ => ⟨⟨?_, ?_, ?_, ⟨by omega, by omega⟩, by rw [ehr]; exact hX.2.2.2.2.1, fun j hj => ?_, ?_⟩, by omega⟩⟩
      · obtain ⟨m1, h1, g1, k1⟩ := mo m d hd hP hM
        obtain ⟨m2, q2, -, h2, g2, -⟩ := sm m1 (d - 1) (by omega) h1
        obtain ⟨m3, q3, h3, g3⟩ := M196 (d := d - 1) (h2 y) (by omega) (by omega) (o := 0) (y := 0)
        exact ⟨m3, k1 m2 m3 (h2 y).1.1.1 h3.1.1.1 q2 q3, h3.1, fun _ => h3.2.1, (g1.tr g2).tr g3⟩
      · obtain ⟨c1, q1', t1, g1, g5, gi1, gl1⟩ := co c d hd hC hD hF
        obtain ⟨c2, q2, g2, t2, -⟩ := sc c1 (d - 1) (by omega) t1
        rw [bI_1 y] at q2
        have T2 := t2 y
        have gi : ∀ x k, s ≤ x → x ≤ s + 20 → ¬ (x = s + o ∧ (k = 4 ∨ k = 5)) → ¬ x = s + o + 1 → mm_gI c2 x k = mm_gI c x k := fun x k y0 y1 y2 y3 => by
          rw [g2.gI (scLw_f (scB_st hst y0 y1) (by omega) y3)]
          exact gi1 x k y0 y1 y2
        have gl : ∀ x k, s ≤ x → x ≤ s + 20 → ¬ (x = s + o ∧ k = 4) → ¬ x = s + o + 1 → mm_gL c2 x k = mm_gL c x k := fun x k y0 y1 y2 y3 => by
          rw [g2.gL (scLw_f (scB_st hst y0 y1) y2 y3)]
          exact gl1 x k y0 y1
        have g5' : mm_gI c2 (s + o) 5 = iI 1 := by
          rw [g2.gI (scLw_f (scB_st hst (by omega) (by omega)) (by omega) (by omega))]; exact g5
        have newL : LawR (emX X2 0 0) c2 (s + o) lo (cdX X) := by
          refine Or.inr (Or.inr ⟨cd0, hlo, cdX X2 - cdX X, ⟨by omega, by omega⟩, T2.2.2.2.1, ?_, fun j j0 j1 => ?_⟩)
          · rw [show cdX X + (cdX X2 - cdX X) = cdX X2 by omega]; exact eo.1
          · obtain ⟨u1, u2⟩ := T2.2.2.2.2.1 (cdX X + j) (by omega) (by omega)
            have := el (j := cdX X + j) (by omega) (by omega)
            rw [show (cdX X + j - cdX X).toNat = j.toNat by omega] at u2
            refine ⟨by rw [this.1]; exact u1, ?_⟩
            rw [u2]
            unfold encS
            rw [this.1, this.2]
        obtain ⟨⟨b0, b1, b2, b3, b4, b5, b6, b7, b8⟩, bt, bw, bq, la, lb⟩ := hD.1
        refine ⟨c2, ?_, g1.tr (g2.LwQ (by omega)), fun _ => ⟨T2.1, ⟨⟨?_, ?_, ?_, ?_, ?_, ?_, ?_, ?_, ?_⟩, fun x y0 y1 => ?_, fun x y0 y1 => ?_, fun x y0 y1 => ?_, ?_, ?_⟩, ?_, ?_, ?_, ?_⟩, fun y9 => absurd rfl y9⟩
        · rw [q1', q2, cI_some, if_pos (Or.inr rfl)]
          rfl
        · rw [x3s, if_neg (by omega), gi _ _ (by omega) (by omega) (by omega) (by omega)]; exact b0
        · rw [x3s, if_neg (by omega), gi _ _ (by omega) (by omega) (by omega) (by omega)]; exact b1
        · rw [x3s, if_neg (by omega), gi _ _ (by omega) (by omega) (by omega) (by omega)]; exact b2
        · rw [x3s, if_neg (by omega), gi _ _ (by omega) (by omega) (by omega) (by omega)]; exact b3
        · rw [x3s, if_neg (by omega), gi _ _ (by omega) (by omega) (by omega) (by omega)]; exact b4
        · rw [x3s, if_neg (by omega), gi _ _ (by omega) (by omega) (by omega) (by omega)]; exact b5
        · rw [x3s, if_neg (by omega), gi _ _ (by omega) (by omega) (by omega) (by omega)]; exact b6
        · rw [x3s, if_neg (by omega), gi _ _ (by omega) (by omega) (by omega) (by omega)]; exact b7
        · rw [x3s, if_neg (by omega), gi _ _ (by omega) (by omega) (by omega) (by omega)]; exact b8
        · rw [x3s, if_neg (by omega)] at y1
          unfold te
          rw [x3s, if_neg (by omega), gi _ _ (by omega) (by omega) (by omega) (by omega)]
          exact bt x y0 y1
        · rw [x3s, if_neg (by omega)] at y1
          unfold wk
          rw [x3s, if_neg (by omega), x3s, if_neg (by omega), x3s, if_neg (by omega), x3s, if_neg (by omega), x3s, if_neg (by omega), x3s, if_neg (by omega), x3s, if_neg (by omega), gi _ _ (by omega) (by omega) (by omega) (by omega), gi _ _ (by omega) (by omega) (by omega) (by omega), gi _ _ (by omega) (by omega) (by omega) (by omega), gi _ _ (by omega) (by omega) (by omega) (by omega), gi _ _ (by omega) (by omega) (by omega) (by omega), gi _ _ (by omega) (by omega) (by omega) (by omega), gi _ _ (by omega) (by omega) (by omega) (by omega)]
          exact bw x y0 y1
        · rw [x3s, if_neg (by omega)] at y1
          unfold mu
          rw [x3s, if_neg (by omega), x3s, if_neg (by omega), x3s, if_neg (by omega), gi _ _ (by omega) (by omega) (by omega) (by omega), gi _ _ (by omega) (by omega) (by omega) (by omega), gi _ _ (by omega) (by omega) (by omega) (by omega)]
          exact bq x y0 y1
        · rcases hk with ⟨rfl, rfl, -, rfl⟩ | ⟨rfl, rfl, -, rfl⟩
          · rw [x3s, if_pos (by omega)]; exact newL
          · rw [x3s, if_neg (by omega)]
            exact (la.cg (gi _ _ (by omega) (by omega) (by omega) (by omega)) (fun k => gi _ _ (by omega) (by omega) (by omega) (by omega))).ext hX.2.2.1.1 ag
        · rcases hk with ⟨rfl, rfl, -, rfl⟩ | ⟨rfl, rfl, -, rfl⟩
          · rw [x3s, if_neg (by omega)]
            exact (lb.cg (gi _ _ (by omega) (by omega) (by omega) (by omega)) (fun k => gi _ _ (by omega) (by omega) (by omega) (by omega))).ext hX.2.2.1.2 ag
          · rw [x3s, if_pos (by omega)]; exact newL
        · rw [ehr, gi _ _ (by omega) (by omega) (by omega) (by omega)]; exact hD.2.1
        · rcases hk with ⟨rfl, rfl, -, rfl⟩ | ⟨rfl, rfl, -, rfl⟩
          · rw [x3s, if_pos (by omega), bI_1 cd0]; exact g5'
          · rw [x3s, if_neg (by omega), gi _ _ (by omega) (by omega) (by omega) (by omega)]; exact hD.2.2.1
        · rcases hk with ⟨rfl, rfl, -, rfl⟩ | ⟨rfl, rfl, -, rfl⟩
          · rw [x3s, if_neg (by omega), gi _ _ (by omega) (by omega) (by omega) (by omega)]; exact hD.2.2.2.1
          · rw [x3s, if_pos (by omega), bI_1 cd0]; exact g5'
        · rw [e27, erm, x3s, if_neg (by omega), x3s, if_neg (by omega)]
          have hN := hD.2.2.2.2
          obtain ⟨v1, v2, v3, v4, v5, v6, v7⟩ := hN
          refine ⟨v1, v2, v3, fun j hj => ?_, v5, v6, v7⟩
          rcases v4 j hj with ⟨u1, u2, u3⟩ | ⟨u1, u2, u3⟩
          · exact Or.inl ⟨u1, u2, by rw [gl _ _ (by omega) (by omega) (by omega) (by omega)]; exact u3⟩
          · exact Or.inr ⟨u1, u2, by rw [gl _ _ (by omega) (by omega) (by omega) (by omega)]; exact u3⟩
      · refine ⟨?_, ?_, ?_, ?_, ?_, ?_, ?_, ?_, fun x y0 y1 => ?_, fun x y0 y1 => ?_, fun x y0 y1 => ?_⟩
        · rw [x3s, if_neg (by omega)]; omega
        · rw [x3s, if_neg (by omega)]; omega
        · rw [x3s, if_neg (by omega), x3s, if_neg (by omega), x3s, if_neg (by omega)]; omega
        · rw [x3s, if_neg (by omega), x3s, if_neg (by omega)]; omega
        · rw [x3s, if_neg (by omega)]; omega
        · rw [x3s, if_neg (by omega)]; omega
        · rw [x3s, if_neg (by omega)]; omega
        · rw [x3s, if_neg (by omega)]; omega
        · rw [x3s, if_neg (by omega)] at y1
          unfold te
          rw [x3s, if_neg (by omega)]
          exact hte x y0 y1
        · rw [x3s, if_neg (by omega)] at y1
          have := hwk x y0 y1
          unfold InvW wk at *
          rw [x3s 0, if_neg (by omega), x3s 1, if_neg (by omega), x3s 5, if_neg (by omega), x3s, if_neg (by omega), x3s, if_neg (by omega), x3s, if_neg (by omega), x3s, if_neg (by omega), x3s, if_neg (by omega), x3s, if_neg (by omega), x3s, if_neg (by omega)]
          exact this
        · rw [x3s, if_neg (by omega)] at y1
          have := hmu x y0 y1
          unfold InvQ mu at *
          rw [x3s 0, if_neg (by omega), x3s 5, if_neg (by omega), x3s 6, if_neg (by omega), x3s, if_neg (by omega), x3s, if_neg (by omega), x3s, if_neg (by omega)]
          exact this
      · have newK : lawOk (emX X2 0 0) lo 1100 (cdX X) 0 := by
          have := e4 (emX X2 0 0) (fun j j0 j1 => el (by omega) j1) (1100 - (cdX X2 - cdX X).toNat - 1 + 1) (by
            refine ⟨⟨by omega, by omega⟩, Or.inl ⟨eo.1, rfl⟩⟩)
          rw [show 1100 - (cdX X2 - cdX X).toNat - 1 + 1 + (cdX X2 - cdX X).toNat = 1100 by omega] at this
          exact this
        unfold InvL
        rcases hk with ⟨rfl, rfl, -, rfl⟩ | ⟨rfl, rfl, -, rfl⟩
        · refine ⟨Or.inr ?_, ?_⟩
          · rw [x3s, if_pos (by omega)]; exact ⟨cd0, newK⟩
          · rw [x3s, if_neg (by omega)]
            rcases hX.2.1.2 with q | ⟨q, w⟩
            · exact Or.inl q
            · obtain ⟨e, u0, u1, u2⟩ := hX.2.2.1.2 q
              exact Or.inr ⟨q, lawOk_ext (e := e) (fun j j0 j1 => ag j j0 (by omega)) u2 1100 _ 0 u0 w⟩
        · refine ⟨?_, Or.inr ?_⟩
          · rw [x3s, if_neg (by omega)]
            rcases hX.2.1.1 with q | ⟨q, w⟩
            · exact Or.inl q
            · obtain ⟨e, u0, u1, u2⟩ := hX.2.2.1.1 q
              exact Or.inr ⟨q, lawOk_ext (e := e) (fun j j0 j1 => ag j j0 (by omega)) u2 1100 _ 0 u0 w⟩
          · rw [x3s, if_pos (by omega)]; exact ⟨cd0, newK⟩
      · unfold LwX
        rw [ec]
        have nw : ∃ e, cdX X ≤ e ∧ e < cdX X2 + 1 ∧ opS (emX X2 0 0) e = 0 := ⟨cdX X2, by omega, by omega, eo.1⟩
        have od : ∀ q : Int, (0 ≤ q → ∃ e, q ≤ e ∧ e < cdX X ∧ opS X e = 0) → 0 ≤ q → ∃ e, q ≤ e ∧ e < cdX X2 + 1 ∧ opS (emX X2 0 0) e = 0 := fun q h9 q0 => by
          obtain ⟨e, u0, u1, u2⟩ := h9 q0
          exact ⟨e, u0, by omega, by rw [(ag e (by omega) u1).1]; exact u2⟩
        rcases hk with ⟨rfl, rfl, -, rfl⟩ | ⟨rfl, rfl, -, rfl⟩
        · rw [x3s, if_pos (by omega), x3s, if_neg (by omega)]
          exact ⟨fun _ => nw, od _ hX.2.2.1.2⟩
        · rw [x3s, if_neg (by omega), x3s, if_pos (by omega)]
          exact ⟨od _ hX.2.2.1.1, fun _ => nw⟩
      · rw [erm] at hj
        rw [e27, x3s, if_neg (by omega), x3s, if_neg (by omega)]
        exact hX.2.2.2.2.2.1 j hj
      · rw [erm, x3s, if_neg (by omega), x3s, if_neg (by omega)]
        exact hr
    · refine ⟨i1, f1, X2, Y, fun m d hd hP hM => ?_, fun c d hd hC hD hF => ?_, fun q => absurd q y⟩
      · obtain ⟨m1, h1, g1, k1⟩ := mo m d hd hP hM
        obtain ⟨m2, q2, h2, -, g2, kk, k2, k3, k4⟩ := sm m1 (d - 1) (by omega) h1
        obtain ⟨m3, q3, h3, g3, q4, -⟩ := M196f (d := d - 1) h2 k2 (by omega) (by omega) (o := 0) (y := 0)
        exact ⟨m3, k1 m2 m3 h2.1.1 h3.1.1 q2 q3, h3, fun q => absurd q y, (g1.tr g2).tr g3⟩
      · obtain ⟨c1, q1', t1, g1, g5, gi1, gl1⟩ := co c d hd hC hD hF
        obtain ⟨c2, q2, g2, -, u2⟩ := sc c1 (d - 1) (by omega) t1
        rw [bI_0 y] at q2
        refine ⟨c2, ?_, g1.tr (g2.LwQ (by omega)), fun q => absurd q y, u2⟩
        rw [q1', q2, cI_some, if_pos (Or.inl rfl), bI_0 y]
end
