section
variable {D : Nat → Nat → Int32} {E : Nat → Nat → Int64} {m m' c c' c'' : mm_M} {d s w : Nat} {n N i f : Int} {T : TK} {X X' : Nat → Nat → Int32} {Y Y' : Nat → Int64} {W W' : Nat → Int32} {cnt a b k v0 v1 v2 : Int}
theorem DM.r20 (h : DM X Y m) {v : Int32} : DM (up X 316 20 v) Y (mm_sI m 316 20 v) := by
  refine ⟨fun k hk => ?_, ⟨?_, ?_, ?_⟩, fun k hk => ?_, fun k hk => ?_⟩
  · unfold up; rw [gI_sI, if_neg (by omega), if_neg (by omega)]; exact h.1 k hk
  · unfold up; rw [gI_sI, if_neg (by omega), if_neg (by omega)]; exact h.2.1.1
  · unfold up; rw [gI_sI, if_neg (by omega), if_neg (by omega)]; exact h.2.1.2.1
  · unfold up; rw [gI_sI, if_pos ⟨rfl, rfl⟩, if_pos ⟨rfl, rfl⟩]
  · unfold cdX at hk
    unfold up at hk ⊢
    rw [if_neg (by omega)] at hk
    rw [gI_sI, if_neg (by omega), gI_sI, if_neg (by omega), if_neg (by omega), if_neg (by omega)]
    exact h.2.2.1 k hk
  · unfold rmX at hk
    unfold up at hk ⊢
    rw [if_neg (by omega)] at hk
    rw [gL_sI, gI_sI, if_neg (by omega), if_neg (by omega)]
    exact h.2.2.2 k hk
def sc20 (a k : Nat) : Bool := Nat.beq a 316 && Nat.beq k 20
theorem PF.r20 (h : PF D E T N i f m) {v : Int32} : PF D E T N i f (mm_sI m 316 20 v) := h.o (P := sc20) (Fr.sI (scM_t (by omega))) (Fr.sI rfl) (fun a k y => by
  unfold sc20
  by_cases q : a = 316
  · rw [nb (show ¬ k = 20 by omega)]; simp
  · rw [nb q]; rfl)
/-- round -/
theorem L_round (hT : TS D n T N) (hE : EK E) (hX : LX X i) (i0 : 0 ≤ i) (iN : i < N) (z : ty T i = 14) : LN D E n T N X Y i 190 [some (.ref 316), none] 52 (fun _ => [some (.ref 154)]) := by
  have pr := (hT.k i0 (by omega)).1
  have hI := hX.1
  obtain ⟨⟨c0, c1⟩, ⟨l0, l1⟩, ⟨f0, f1, f2⟩, ⟨p0, p1⟩, ⟨w0, w1⟩, ⟨q0, q1⟩, ⟨x0, x1⟩, ⟨r0, r1⟩, hte, hwk, hmu⟩ := hI
  have hr := hX.2.2.2.2.2.2
  have mod0 : ∀ (m : mm_M) (d : Nat), 60 ≤ d → PF D E T N i 0 m → mm_ev d 190 0 [some (.ref 316), none] [] m = mm_ev d 190 20 [some (.ref 316), none] [.int (iI 2)] m := fun m d hd hP => by
    have e1 := M171 (d := d - 1) hT hE hP (w := 14) (by omega) (by omega)
    rw [bI_1 ⟨rfl, z⟩] at e1
    rw [sg_190_0 (by omega)]
    simp (disch := omega) only [shM hP.1.1, ↓reduceIte, not_false_eq_true, not_true_eq_false, and_self, and_true, true_and, false_and, and_false, or_true, true_or, or_false, false_or, or_self, reduceCtorEq, mm_q, Option.getD_some, cI_some, cJ_some, cV_some, cS_some, kd_sI, kd_sL, kd_sR, kd_cp, ln_sI, ln_sL, ln_sR, ln_cp, gR_sI, gR_sL, gR_sR, gR_cp, gL_sI, gL_sR, gL_cp, gI_sL, gI_sR, iI_add, iI_sub, iI_mul, iI_neg, iI_in, iI_tn, iI_lt, iI_eq, Nat.reduceLeDiff, Nat.reduceEqDiff, Nat.reduceAdd, Int.reduceEq, Int.reduceLT, Int.reduceLE, Int.reduceNeg, Int.reduceAdd, Int.reduceSub, Int.reduceMul, e1]
    rw [sg_190_6 (by omega)]
    simp (disch := omega) only [↓reduceIte, not_false_eq_true, not_true_eq_false, and_self, and_true, true_and, false_and, and_false, or_true, true_or, or_false, false_or, or_self, reduceCtorEq, mm_q, Option.getD_some, cI_some, cJ_some, cV_some, cS_some, kd_sI, kd_sL, kd_sR, kd_cp, ln_sI, ln_sL, ln_sR, ln_cp, gR_sI, gR_sL, gR_sR, gR_cp, gL_sI, gL_sR, gL_cp, gI_sL, gI_sR, iI_add, iI_sub, iI_mul, iI_neg, iI_in, iI_tn, iI_lt, iI_eq, Nat.reduceLeDiff, Nat.reduceEqDiff, Nat.reduceAdd, Int.reduceEq, Int.reduceLT, Int.reduceLE, Int.reduceNeg, Int.reduceAdd, Int.reduceSub, Int.reduceMul]
  by_cases z1 : hrX X = 0
  · have Q := tn_r (lo := 0) (hi := 99) (f := 0) hT (i := i + 1) (by omega) (by omega)
    have hqa : taS T 14 0 99 i 0 = tnS T 0 99 (i + 1) 0 := by
      unfold taS twS
      rw [if_pos rfl, if_pos z]
    generalize hq : tnS T 0 99 (i + 1) 0 = q at Q hqa
    have stx : 0 ≤ q.1 → q.1 < 1000 → ∀ j, st (up (up X 316 20 (iI 1)) 322 (108 - 100 : Int).toNat (iI q.1)) j = if j.toNat = 8 then q.1 else st X j := fun h0 h1 j => by
      rw [st_u, st_o (by omega), iI_val (by omega) (by omega), show (108 - 100 : Int).toNat = 8 by omega]
    have ox : ∀ x k, ¬ x = 322 → ¬ (x = 316 ∧ k = 20) → up (up X 316 20 (iI 1)) 322 (108 - 100 : Int).toNat (iI q.1) x k = X x k := fun x k y1 y2 => by
      unfold up; rw [if_neg (by omega), if_neg (by omega)]
    have hx : hrX (up (up X 316 20 (iI 1)) 322 (108 - 100 : Int).toNat (iI q.1)) = 1 := by
      unfold hrX up; rw [if_neg (by omega), if_pos ⟨rfl, rfl⟩]; rfl
    refine ⟨q.2.1, q.2.2, up (up X 316 20 (iI 1)) 322 (108 - 100 : Int).toNat (iI q.1), Y, fun m d hd hP hM => ?_, fun c d s hd hC hD hF => ?_, fun hf => ?_⟩
    · have g20 : mm_gI m 316 20 = iI 0 := by rw [hM.2.1.2.2, ← z1]; unfold hrX; rw [iI_toInt]
      have h1 := (hP.at (j := i + 1) (by omega) (by omega)).r20 (v := iI 1)
      obtain ⟨n1, e1, k1, g1⟩ := M173 (d := d - 1) hT h1 (by omega) (lo := 0) (hi := 99) (by omega) (by omega) (by omega) (by omega)
      rw [hq] at e1 k1
      refine ⟨mm_sI n1 322 (108 : Int).toNat (iI q.1), ?_, k1.w (by omega), fun _ => (((hM.at (m' := mm_sI m 316 7 (iI (i + 1))) Fr.at7).r20 (v := iI 1)).at g1).w (j := 108) (v := iI q.1) (by omega) (by omega), ((Fr.at7.AtM.tr (Fr.sI (scM_t (by omega)))).tr g1.AtM).tr (Fr.s322 (by omega))⟩
      rw [mod0 m d hd hP, sg_190_20 (by omega)]
      simp (disch := omega) only [shM hP.1.1, ↓reduceIte, not_false_eq_true, not_true_eq_false, and_self, and_true, true_and, false_and, and_false, or_true, true_or, or_false, false_or, or_self, reduceCtorEq, mm_q, Option.getD_some, cI_some, cJ_some, cV_some, cS_some, kd_sI, kd_sL, kd_sR, kd_cp, ln_sI, ln_sL, ln_sR, ln_cp, gR_sI, gR_sL, gR_sR, gR_cp, gL_sI, gL_sR, gL_cp, gI_sL, gI_sR, iI_add, iI_sub, iI_mul, iI_neg, iI_in, iI_tn, iI_lt, iI_eq, Nat.reduceLeDiff, Nat.reduceEqDiff, Nat.reduceAdd, Int.reduceEq, Int.reduceLT, Int.reduceLE, Int.reduceNeg, Int.reduceAdd, Int.reduceSub, Int.reduceMul, g20]
      rw [sg_190_65 (by omega)]
      simp (disch := omega) only [shM hP.1.1, ↓reduceIte, not_false_eq_true, not_true_eq_false, and_self, and_true, true_and, false_and, and_false, or_true, true_or, or_false, false_or, or_self, reduceCtorEq, mm_q, Option.getD_some, cI_some, cJ_some, cV_some, cS_some, kd_sI, kd_sL, kd_sR, kd_cp, ln_sI, ln_sL, ln_sR, ln_cp, gR_sI, gR_sL, gR_sR, gR_cp, gL_sI, gL_sR, gL_cp, gI_sL, gI_sR, iI_add, iI_sub, iI_mul, iI_neg, iI_in, iI_tn, iI_lt, iI_eq, Nat.reduceLeDiff, Nat.reduceEqDiff, Nat.reduceAdd, Int.reduceEq, Int.reduceLT, Int.reduceLE, Int.reduceNeg, Int.reduceAdd, Int.reduceSub, Int.reduceMul, hP.2.2.2.1, hP.2.2.1, e1, shM k1.1.1]
    · have hst := hC.2.2.2.1
      have hst' : s = 104 ∨ s = 125 := hst
      have h6 := hD.2.1
      rw [z1] at h6
      obtain ⟨n1, e1, g1, s1, u1⟩ := C38 (d := d - 1) hT hC (by omega) (w := 14) (lo := 0) (hi := 99) (by omega) (by omega) (by omega) (by omega) (by omega) (by omega)
      rw [hqa] at e1 s1 u1
      have hD1 := hD.br hst q1 g1
      have run : mm_ev d 52 0 [some (.ref 154)] [] c = mm_ev d 52 25 [some (.ref 154)] [.int (iI (bI (decide (q.2.2 = 0))))] n1 := by
        rw [sg_52_0 (by omega)]
        simp (disch := omega) only [shP hC.1.1, stF hC.1.1 hst, ↓reduceIte, not_false_eq_true, not_true_eq_false, and_self, and_true, true_and, false_and, and_false, or_true, true_or, or_false, false_or, or_self, reduceCtorEq, mm_q, Option.getD_some, cI_some, cJ_some, cV_some, cS_some, kd_sI, kd_sL, kd_sR, kd_cp, ln_sI, ln_sL, ln_sR, ln_cp, gR_sI, gR_sL, gR_sR, gR_cp, gL_sI, gL_sR, gL_cp, gI_sL, gI_sR, iI_add, iI_sub, iI_mul, iI_neg, iI_in, iI_tn, iI_lt, iI_eq, Nat.reduceLeDiff, Nat.reduceEqDiff, Nat.reduceAdd, Int.reduceEq, Int.reduceLT, Int.reduceLE, Int.reduceNeg, Int.reduceAdd, Int.reduceSub, Int.reduceMul, hC.2.2.2.2, h6, e1]
      rw [run, sg_52_25]
      by_cases y : q.2.2 = 0
      · obtain ⟨s1, v1, -, -⟩ := s1 y
        obtain ⟨-, Q0, Q1, Q2, Q3⟩ := Q y
        have sx := stx (by omega) (by omega)
        rw [bI_1 y]
        have hO : Fr (scO s) n1 (mm_sI (mm_sI n1 s 5 (iI q.1)) s 6 (iI 1)) := (Fr.sI (scO_t (by omega) (by omega) (by omega))).tr (Fr.sI (scO_t (by omega) (by omega) (by omega)))
        have gi : ∀ x k, ¬ (x = s ∧ (k = 5 ∨ k = 6)) → mm_gI (mm_sI (mm_sI n1 s 5 (iI q.1)) s 6 (iI 1)) x k = mm_gI n1 x k := fun x k y1 => by
          rw [gI_sI, if_neg (by omega), gI_sI, if_neg (by omega)]
        obtain ⟨⟨b0, b1, b2, b3, b4, b5, b6, b7, b8⟩, bt, bw, bq, la, lb⟩ := hD1.1
        refine ⟨_, ?_, g1.BQ.tr hO.OQ, fun _ => ⟨s1.oq hO, ⟨⟨?_, ?_, ?_, ?_, ?_, ?_, ?_, ?_, ?_⟩, fun x y0 y1 => ?_, fun x y0 y1 => ?_, fun x y0 y1 => ?_, ?_, ?_⟩, ?_, ?_, ?_, ?_⟩, fun y9 => absurd y y9⟩
        · simp (disch := omega) only [shP s1.1.1, stF s1.1.1 hst, ↓reduceIte, not_false_eq_true, not_true_eq_false, and_self, and_true, true_and, false_and, and_false, or_true, true_or, or_false, false_or, or_self, reduceCtorEq, mm_q, Option.getD_some, cI_some, cJ_some, cV_some, cS_some, kd_sI, kd_sL, kd_sR, kd_cp, ln_sI, ln_sL, ln_sR, ln_cp, gR_sI, gR_sL, gR_sR, gR_cp, gL_sI, gL_sR, gL_cp, gI_sL, gI_sR, iI_add, iI_sub, iI_mul, iI_neg, iI_in, iI_tn, iI_lt, iI_eq, Nat.reduceLeDiff, Nat.reduceEqDiff, Nat.reduceAdd, Int.reduceEq, Int.reduceLT, Int.reduceLE, Int.reduceNeg, Int.reduceAdd, Int.reduceSub, Int.reduceMul, s1.2.2.2.2, v1]
        · rw [sx, if_neg (by omega), gi _ _ (by omega)]; exact b0
        · rw [sx, if_neg (by omega), gi _ _ (by omega)]; exact b1
        · rw [sx, if_neg (by omega), gi _ _ (by omega)]; exact b2
        · rw [sx, if_neg (by omega), gi _ _ (by omega)]; exact b3
        · rw [sx, if_neg (by omega), gi _ _ (by omega)]; exact b4
        · rw [sx, if_pos (by omega), gI_sI, if_neg (by omega), gI_sI, if_pos ⟨rfl, rfl⟩]
        · rw [sx, if_neg (by omega), gi _ _ (by omega)]; exact b6
        · rw [sx, if_neg (by omega), gi _ _ (by omega)]; exact b7
        · rw [sx, if_neg (by omega), gi _ _ (by omega)]; exact b8
        · rw [sx, if_neg (by omega)] at y1
          unfold te
          rw [sx, if_neg (by omega), gi _ _ (by omega)]
          exact bt x y0 y1
        · rw [sx, if_neg (by omega)] at y1
          unfold wk
          rw [sx, if_neg (by omega), sx, if_neg (by omega), sx, if_neg (by omega), sx, if_neg (by omega), sx, if_neg (by omega), sx, if_neg (by omega), sx, if_neg (by omega), gi _ _ (by omega), gi _ _ (by omega), gi _ _ (by omega), gi _ _ (by omega), gi _ _ (by omega), gi _ _ (by omega), gi _ _ (by omega)]
          exact bw x y0 y1
        · rw [sx, if_neg (by omega)] at y1
          unfold mu
          rw [sx, if_neg (by omega), sx, if_neg (by omega), sx, if_neg (by omega), gi _ _ (by omega), gi _ _ (by omega), gi _ _ (by omega)]
          exact bq x y0 y1
        · rw [sx, if_neg (by omega)]
          exact (la.cg (gi _ _ (by omega)) (fun k => gi _ _ (by omega))).cX (by funext k; exact ox _ _ (by omega) (by omega)) (by funext k; exact ox _ _ (by omega) (by omega))
        · rw [sx, if_neg (by omega)]
          exact (lb.cg (gi _ _ (by omega)) (fun k => gi _ _ (by omega))).cX (by funext k; exact ox _ _ (by omega) (by omega)) (by funext k; exact ox _ _ (by omega) (by omega))
        · rw [hx, gI_sI, if_pos ⟨rfl, rfl⟩]
        · rw [sx, if_neg (by omega), gi _ _ (by omega)]
          exact hD1.2.2.1
        · rw [sx, if_neg (by omega), gi _ _ (by omega)]
          exact hD1.2.2.2.1
        · have e27 : up (up X 316 20 (iI 1)) 322 (108 - 100 : Int).toNat (iI q.1) 327 = X 327 := by funext k; exact ox _ _ (by omega) (by omega)
          have erm : rmX (up (up X 316 20 (iI 1)) 322 (108 - 100 : Int).toNat (iI q.1)) = rmX X := by unfold rmX; rw [ox _ _ (by omega) (by omega)]
          rw [e27, erm, sx, if_neg (by omega), sx, if_neg (by omega)]
          exact hD1.2.2.2.2.same (fun x => rfl)
      · rw [bI_0 y]
        refine ⟨n1, ?_, g1.BQ, fun y9 => absurd y9 y, u1⟩
        simp (disch := omega) only [↓reduceIte, not_false_eq_true, not_true_eq_false, and_self, and_true, true_and, false_and, and_false, or_true, true_or, or_false, false_or, or_self, reduceCtorEq, mm_q, Option.getD_some, cI_some, cJ_some, cV_some, cS_some, kd_sI, kd_sL, kd_sR, kd_cp, ln_sI, ln_sL, ln_sR, ln_cp, gR_sI, gR_sL, gR_sR, gR_cp, gL_sI, gL_sR, gL_cp, gI_sL, gI_sR, iI_add, iI_sub, iI_mul, iI_neg, iI_in, iI_tn, iI_lt, iI_eq, Nat.reduceLeDiff, Nat.reduceEqDiff, Nat.reduceAdd, Int.reduceEq, Int.reduceLT, Int.reduceLE, Int.reduceNeg, Int.reduceAdd, Int.reduceSub, Int.reduceMul]
    · obtain ⟨-, Q0, Q1, Q2, Q3⟩ := Q hf
      have sx := stx (by omega) (by omega)
      have e27 : up (up X 316 20 (iI 1)) 322 (108 - 100 : Int).toNat (iI q.1) 327 = X 327 := by funext k; exact ox _ _ (by omega) (by omega)
      have erm : rmX (up (up X 316 20 (iI 1)) 322 (108 - 100 : Int).toNat (iI q.1)) = rmX X := by unfold rmX; rw [ox _ _ (by omega) (by omega)]
      refine ⟨hX.of ?_ (by rw [sx, if_neg (by omega)]) (by rw [sx, if_neg (by omega)]) (by funext k; exact ox _ _ (by omega) (by omega)) (by funext k; exact ox _ _ (by omega) (by omega)) ?_ (Or.inr hx) ?_ ?_ (by omega), by omega⟩
      · refine ⟨?_, ?_, ?_, ?_, ?_, ?_, ?_, ?_, fun x y0 y1 => ?_, fun x y0 y1 => ?_, fun x y0 y1 => ?_⟩
        · rw [sx, if_neg (by omega)]; omega
        · rw [sx, if_neg (by omega)]; omega
        · rw [sx, if_neg (by omega), sx, if_neg (by omega), sx, if_neg (by omega)]; omega
        · rw [sx, if_neg (by omega), sx, if_neg (by omega)]; omega
        · rw [sx, if_neg (by omega)]; omega
        · rw [sx, if_neg (by omega)]; omega
        · rw [sx, if_neg (by omega)]; omega
        · rw [sx, if_pos (by omega)]; omega
        · rw [sx, if_neg (by omega)] at y1
          unfold te
          rw [sx, if_neg (by omega)]
          exact hte x y0 y1
        · rw [sx, if_neg (by omega)] at y1
          have := hwk x y0 y1
          unfold InvW wk at *
          rw [sx 0, if_neg (by omega), sx 1, if_neg (by omega), sx 5, if_neg (by omega), sx, if_neg (by omega), sx, if_neg (by omega), sx, if_neg (by omega), sx, if_neg (by omega), sx, if_neg (by omega), sx, if_neg (by omega), sx, if_neg (by omega)]
          exact this
        · rw [sx, if_neg (by omega)] at y1
          have := hmu x y0 y1
          unfold InvQ mu at *
          rw [sx 0, if_neg (by omega), sx 5, if_neg (by omega), sx 6, if_neg (by omega), sx, if_neg (by omega), sx, if_neg (by omega), sx, if_neg (by omega)]
          exact this
      · unfold cdX; rw [ox _ _ (by omega) (by omega)]
      · intro k hk
        rw [erm] at hk
        rw [e27, sx, if_neg (by omega), sx, if_neg (by omega)]
        exact hX.2.2.2.2.2.1 k hk
      · rw [erm, sx, if_neg (by omega), sx, if_neg (by omega)]
        exact hr
  · have z2 : hrX X = 1 := by have := hX.2.2.2.2.1; omega
    refine ⟨i, 3 + 16 * tP T i, X, Y, fun m d hd hP hM => ?_, fun c d s hd hC hD hF => ?_, by omega⟩
    · have g20 : mm_gI m 316 20 = iI 1 := by rw [hM.2.1.2.2, ← z2]; unfold hrX; rw [iI_toInt]
      obtain ⟨m2, e2, h2, g2⟩ := M172 (d := d - 1) hT hP (k := 3) (by omega) (by omega)
      rw [if_pos rfl] at h2
      refine ⟨m2, ?_, h2, by omega, g2.AtM⟩
      rw [mod0 m d hd hP, sg_190_20 (by omega)]
      simp (disch := omega) only [shM hP.1.1, ↓reduceIte, not_false_eq_true, not_true_eq_false, and_self, and_true, true_and, false_and, and_false, or_true, true_or, or_false, false_or, or_self, reduceCtorEq, mm_q, Option.getD_some, cI_some, cJ_some, cV_some, cS_some, kd_sI, kd_sL, kd_sR, kd_cp, ln_sI, ln_sL, ln_sR, ln_cp, gR_sI, gR_sL, gR_sR, gR_cp, gL_sI, gL_sR, gL_cp, gI_sL, gI_sR, iI_add, iI_sub, iI_mul, iI_neg, iI_in, iI_tn, iI_lt, iI_eq, Nat.reduceLeDiff, Nat.reduceEqDiff, Nat.reduceAdd, Int.reduceEq, Int.reduceLT, Int.reduceLE, Int.reduceNeg, Int.reduceAdd, Int.reduceSub, Int.reduceMul, g20]
      rw [sg_190_60 (by omega)]
      simp (disch := omega) only [shM hP.1.1, ↓reduceIte, not_false_eq_true, not_true_eq_false, and_self, and_true, true_and, false_and, and_false, or_true, true_or, or_false, false_or, or_self, reduceCtorEq, mm_q, Option.getD_some, cI_some, cJ_some, cV_some, cS_some, kd_sI, kd_sL, kd_sR, kd_cp, ln_sI, ln_sL, ln_sR, ln_cp, gR_sI, gR_sL, gR_sR, gR_cp, gL_sI, gL_sR, gL_cp, gI_sL, gI_sR, iI_add, iI_sub, iI_mul, iI_neg, iI_in, iI_tn, iI_lt, iI_eq, Nat.reduceLeDiff, Nat.reduceEqDiff, Nat.reduceAdd, Int.reduceEq, Int.reduceLT, Int.reduceLE, Int.reduceNeg, Int.reduceAdd, Int.reduceSub, Int.reduceMul, e2]
      rw [sg_190_65 (by omega)]
      simp (disch := omega) only [shM h2.1.1, ↓reduceIte, not_false_eq_true, not_true_eq_false, and_self, and_true, true_and, false_and, and_false, or_true, true_or, or_false, false_or, or_self, reduceCtorEq, mm_q, Option.getD_some, cI_some, cJ_some, cV_some, cS_some, kd_sI, kd_sL, kd_sR, kd_cp, ln_sI, ln_sL, ln_sR, ln_cp, gR_sI, gR_sL, gR_sR, gR_cp, gL_sI, gL_sR, gL_cp, gI_sL, gI_sR, iI_add, iI_sub, iI_mul, iI_neg, iI_in, iI_tn, iI_lt, iI_eq, Nat.reduceLeDiff, Nat.reduceEqDiff, Nat.reduceAdd, Int.reduceEq, Int.reduceLT, Int.reduceLE, Int.reduceNeg, Int.reduceAdd, Int.reduceSub, Int.reduceMul, h2.2.2.2.1, show 0 < 3 + 16 * tP T i by omega]
    · have h6 := hD.2.1
      rw [z2] at h6
      refine ⟨mm_sI c 154 3 (iI (3 + 16 * tP T i)), ?_, Fr.r154.BQ, by omega, fun _ => by simp [gI_sI]⟩
      rw [sg_52_0 (by omega), bI_0 (by omega)]
      simp (disch := omega) only [shP hC.1.1, stF hC.1.1 hC.2.2.2.1, ↓reduceIte, not_false_eq_true, not_true_eq_false, and_self, and_true, true_and, false_and, and_false, or_true, true_or, or_false, false_or, or_self, reduceCtorEq, mm_q, Option.getD_some, cI_some, cJ_some, cV_some, cS_some, kd_sI, kd_sL, kd_sR, kd_cp, ln_sI, ln_sL, ln_sR, ln_cp, gR_sI, gR_sL, gR_sR, gR_cp, gL_sI, gL_sR, gL_cp, gI_sL, gI_sR, iI_add, iI_sub, iI_mul, iI_neg, iI_in, iI_tn, iI_lt, iI_eq, Nat.reduceLeDiff, Nat.reduceEqDiff, Nat.reduceAdd, Int.reduceEq, Int.reduceLT, Int.reduceLE, Int.reduceNeg, Int.reduceAdd, Int.reduceSub, Int.reduceMul, hC.2.2.2.2, h6, C40 hT hC]
/-- no line -/
theorem L_bad (hT : TS D n T N) (hE : EK E) (i0 : 0 ≤ i) (iN : i < N) (z14 : ¬ ty T i = 14) (z15 : ¬ ty T i = 15) (z16 : ¬ ty T i = 16) : LN D E n T N X Y i 190 [some (.ref 316), none] 40 (fun _ => [some (.ref 154), some (.int (iI 1))]) := by
  have pr := (hT.k i0 (by omega)).1
  refine ⟨i, 1 + 16 * tP T i, X, Y, fun m d hd hP hM => ?_, fun c d s hd hC hD hF => ?_, by omega⟩
  · have e1 := M171 (d := d - 1) hT hE hP (w := 14) (by omega) (by omega)
    rw [bI_0 (fun q => z14 q.2)] at e1
    have e3 := M181 (d := d - 1) hT hE hP (by omega) (a := 15) (c := 2) (by omega) (by omega) (by omega)
    rw [if_neg (by omega)] at e3
    obtain ⟨m2, e2, h2, g2⟩ := M172 (d := d - 1) hT hP (k := 1) (by omega) (by omega)
    rw [if_pos rfl] at h2
    refine ⟨m2, ?_, h2, by omega, g2.AtM⟩
    rw [sg_190_0 (by omega)]
    simp (disch := omega) only [shM hP.1.1, ↓reduceIte, not_false_eq_true, not_true_eq_false, and_self, and_true, true_and, false_and, and_false, or_true, true_or, or_false, false_or, or_self, reduceCtorEq, mm_q, Option.getD_some, cI_some, cJ_some, cV_some, cS_some, kd_sI, kd_sL, kd_sR, kd_cp, ln_sI, ln_sL, ln_sR, ln_cp, gR_sI, gR_sL, gR_sR, gR_cp, gL_sI, gL_sR, gL_cp, gI_sL, gI_sR, iI_add, iI_sub, iI_mul, iI_neg, iI_in, iI_tn, iI_lt, iI_eq, Nat.reduceLeDiff, Nat.reduceEqDiff, Nat.reduceAdd, Int.reduceEq, Int.reduceLT, Int.reduceLE, Int.reduceNeg, Int.reduceAdd, Int.reduceSub, Int.reduceMul, e1]
    rw [sg_190_6 (by omega)]
    simp (disch := omega) only [shM hP.1.1, ↓reduceIte, not_false_eq_true, not_true_eq_false, and_self, and_true, true_and, false_and, and_false, or_true, true_or, or_false, false_or, or_self, reduceCtorEq, mm_q, Option.getD_some, cI_some, cJ_some, cV_some, cS_some, kd_sI, kd_sL, kd_sR, kd_cp, ln_sI, ln_sL, ln_sR, ln_cp, gR_sI, gR_sL, gR_sR, gR_cp, gL_sI, gL_sR, gL_cp, gI_sL, gI_sR, iI_add, iI_sub, iI_mul, iI_neg, iI_in, iI_tn, iI_lt, iI_eq, Nat.reduceLeDiff, Nat.reduceEqDiff, Nat.reduceAdd, Int.reduceEq, Int.reduceLT, Int.reduceLE, Int.reduceNeg, Int.reduceAdd, Int.reduceSub, Int.reduceMul, e3]
    rw [sg_190_20 (by omega)]
    simp (disch := omega) only [shM hP.1.1, ↓reduceIte, not_false_eq_true, not_true_eq_false, and_self, and_true, true_and, false_and, and_false, or_true, true_or, or_false, false_or, or_self, reduceCtorEq, mm_q, Option.getD_some, cI_some, cJ_some, cV_some, cS_some, kd_sI, kd_sL, kd_sR, kd_cp, ln_sI, ln_sL, ln_sR, ln_cp, gR_sI, gR_sL, gR_sR, gR_cp, gL_sI, gL_sR, gL_cp, gI_sL, gI_sR, iI_add, iI_sub, iI_mul, iI_neg, iI_in, iI_tn, iI_lt, iI_eq, Nat.reduceLeDiff, Nat.reduceEqDiff, Nat.reduceAdd, Int.reduceEq, Int.reduceLT, Int.reduceLE, Int.reduceNeg, Int.reduceAdd, Int.reduceSub, Int.reduceMul, e2]
    rw [sg_190_65 (by omega)]
    simp (disch := omega) only [shM h2.1.1, ↓reduceIte, not_false_eq_true, not_true_eq_false, and_self, and_true, true_and, false_and, and_false, or_true, true_or, or_false, false_or, or_self, reduceCtorEq, mm_q, Option.getD_some, cI_some, cJ_some, cV_some, cS_some, kd_sI, kd_sL, kd_sR, kd_cp, ln_sI, ln_sL, ln_sR, ln_cp, gR_sI, gR_sL, gR_sR, gR_cp, gL_sI, gL_sR, gL_cp, gI_sL, gI_sR, iI_add, iI_sub, iI_mul, iI_neg, iI_in, iI_tn, iI_lt, iI_eq, Nat.reduceLeDiff, Nat.reduceEqDiff, Nat.reduceAdd, Int.reduceEq, Int.reduceLT, Int.reduceLE, Int.reduceNeg, Int.reduceAdd, Int.reduceSub, Int.reduceMul, h2.2.2.2.1, show 0 < 1 + 16 * tP T i by omega]
  · refine ⟨mm_sI c 154 3 (iI (1 + 16 * tP T i)), ?_, Fr.r154.BQ, by omega, fun _ => by simp [gI_sI]⟩
    rw [bI_0 (by omega)]
    exact C40 hT hC (by omega) (by omega)
end
