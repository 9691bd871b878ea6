section
variable {D : Nat → Nat → Int32} {E : Nat → Nat → Int64} {m m' c c' : mm_M} {d s : Nat} {n N i f : Int} {T : TK} {X X' : Nat → Nat → Int32} {Y Y' : Nat → Int64} {W W' : Nat → Int32} {cnt a b : Int}
theorem LawR.cX {L : Nat} {lo start : Int} (h : LawR X c L lo start) (e3 : X' 323 = X 323) (e4 : X' 324 = X 324) : LawR X' c L lo start := by
  unfold LawR encS opS arS at *
  rw [e3, e4]
  exact h
theorem LX.of (h : LX X i) {j : Int} (hI : InvS X') (e9 : st X' 9 = st X 9) (e10 : st X' 10 = st X 10) (e3 : X' 323 = X 323) (e4 : X' 324 = X 324) (ec : cdX X' = cdX X) (eh : hrX X' = 0 ∨ hrX X' = 1) (en : ∀ k : Nat, (k : Int) < rmX X' → (0 ≤ (X' 327 k).toInt ∧ (X' 327 k).toInt < st X' 5) ∨ (20 ≤ (X' 327 k).toInt ∧ (X' 327 k).toInt < 20 + st X' 6)) (er : rmX X' = st X' 5 + st X' 6) (ij : i ≤ j) : LX X' j := by
  obtain ⟨-, hL, hw, hc, -, -, -⟩ := h
  refine ⟨hI, ?_, ?_, ?_, eh, en, er⟩
  · unfold InvL at *
    rw [e9, e10, cD_lawOk e3 e4, cD_lawOk e3 e4]
    exact hL
  · unfold LwX at *
    rw [e9, e10, ec, cD_op e3]
    exact hw
  · rw [ec]
    omega
theorem NR.addA (h : NR Y W cnt a b s c) {u v : Int64} (hf : fdGo Y W u cnt.toNat 0 = -1) (hw : WR u v) (a6 : a < 6) (hW : ∀ k, W' k = if k = cnt.toNat then iI a else W k) (hY : ∀ k, Y' k = if k = cnt.toNat then u else Y k) (g1 : ∀ k, mm_gL c' (s + 1) k = if k = a.toNat then v else mm_gL c (s + 1) k) (g2 : ∀ x, s + 13 ≤ x → mm_gL c' x 0 = mm_gL c x 0) : NR Y' W' (cnt + 1) (a + 1) b s c' := by
  have hh := h
  obtain ⟨e, ⟨a0, a1⟩, ⟨b0, b1⟩, hk, hj, h1, h2⟩ := h
  have av : (iI a).toInt = a := iI_val (by omega) (by omega)
  have nf : ∀ j : Nat, (j : Int) < cnt → ¬ Y j = u := fun j j1 y => by
    have := fd_k hh j1 y
    rcases hk j j1 with ⟨x0, x1, -⟩ | ⟨x0, x1, -⟩ <;> omega
  refine ⟨by omega, ⟨by omega, by omega⟩, ⟨b0, b1⟩, fun k k1 => ?_, fun k j k1 j1 y => ?_, fun w w0 w1 => ?_, fun w w0 w1 => ?_⟩
  · rw [hW, hY]
    by_cases z : k = cnt.toNat
    · rw [if_pos z, if_pos z, av]
      exact Or.inl ⟨a0, by omega, by rw [g1, if_pos rfl]; exact hw⟩
    · rw [if_neg z, if_neg z]
      rcases hk k (by omega) with ⟨x0, x1, x2⟩ | ⟨x0, x1, x2⟩
      · exact Or.inl ⟨x0, by omega, by rw [g1, if_neg (by omega)]; exact x2⟩
      · exact Or.inr ⟨x0, by omega, by rw [g2 _ (by omega)]; exact x2⟩
  · rw [hY, hY] at y
    by_cases z : k = cnt.toNat
    · by_cases z2 : j = cnt.toNat
      · omega
      · rw [if_pos z, if_neg z2] at y
        exact absurd y.symm (nf j (by omega))
    · by_cases z2 : j = cnt.toNat
      · rw [if_neg z, if_pos z2] at y
        exact absurd y (nf k (by omega))
      · rw [if_neg z, if_neg z2] at y
        exact hj k j (by omega) (by omega) y
  · by_cases z : w = a
    · exact ⟨cnt.toNat, by omega, by rw [hW, if_pos rfl, av, z]⟩
    · obtain ⟨k, k1, k2⟩ := h1 w w0 (by omega)
      exact ⟨k, by omega, by rw [hW, if_neg (by omega)]; exact k2⟩
  · obtain ⟨k, k1, k2⟩ := h2 w w0 (by omega)
    exact ⟨k, by omega, by rw [hW, if_neg (by omega)]; exact k2⟩
theorem NR.addB (h : NR Y W cnt a b s c) {u v : Int64} (hf : fdGo Y W u cnt.toNat 0 = -1) (hw : WR u v) (b8 : b < 8) (hW : ∀ k, W' k = if k = cnt.toNat then iI (20 + b) else W k) (hY : ∀ k, Y' k = if k = cnt.toNat then u else Y k) (g1 : ∀ k, mm_gL c' (s + 1) k = mm_gL c (s + 1) k) (g2 : ∀ x, s + 13 ≤ x → mm_gL c' x 0 = if x = s + 13 + b.toNat then v else mm_gL c x 0) : NR Y' W' (cnt + 1) a (b + 1) s c' := by
  have hh := h
  obtain ⟨e, ⟨a0, a1⟩, ⟨b0, b1⟩, hk, hj, h1, h2⟩ := h
  have av : (iI (20 + b)).toInt = 20 + b := iI_val (by omega) (by omega)
  have nf : ∀ j : Nat, (j : Int) < cnt → ¬ Y j = u := fun j j1 y => by
    have := fd_k hh j1 y
    rcases hk j j1 with ⟨x0, x1, -⟩ | ⟨x0, x1, -⟩ <;> omega
  refine ⟨by omega, ⟨by omega, by omega⟩, ⟨by omega, by omega⟩, fun k k1 => ?_, fun k j k1 j1 y => ?_, fun w w0 w1 => ?_, fun w w0 w1 => ?_⟩
  · rw [hW, hY]
    by_cases z : k = cnt.toNat
    · rw [if_pos z, if_pos z, av]
      exact Or.inr ⟨by omega, by omega, by rw [g2 _ (by omega), if_pos (by omega)]; exact hw⟩
    · rw [if_neg z, if_neg z]
      rcases hk k (by omega) with ⟨x0, x1, x2⟩ | ⟨x0, x1, x2⟩
      · exact Or.inl ⟨x0, by omega, by rw [g1]; exact x2⟩
      · exact Or.inr ⟨x0, by omega, by rw [g2 _ (by omega), if_neg (by omega)]; exact x2⟩
  · rw [hY, hY] at y
    by_cases z : k = cnt.toNat
    · by_cases z2 : j = cnt.toNat
      · omega
      · rw [if_pos z, if_neg z2] at y
        exact absurd y.symm (nf j (by omega))
    · by_cases z2 : j = cnt.toNat
      · rw [if_neg z, if_pos z2] at y
        exact absurd y (nf k (by omega))
      · rw [if_neg z, if_neg z2] at y
        exact hj k j (by omega) (by omega) y
  · obtain ⟨k, k1, k2⟩ := h1 w w0 (by omega)
    exact ⟨k, by omega, by rw [hW, if_neg (by omega)]; exact k2⟩
  · by_cases z : w = b
    · exact ⟨cnt.toNat, by omega, by rw [hW, if_pos rfl, av, z]⟩
    · obtain ⟨k, k1, k2⟩ := h2 w w0 (by omega)
      exact ⟨k, by omega, by rw [hW, if_neg (by omega)]; exact k2⟩
theorem NR.same (h : NR Y W cnt a b s c) (g : ∀ x, mm_gL c' x = mm_gL c x) : NR Y W cnt a b s c' := by
  unfold NR at *
  simp only [g]
  exact h
theorem DC.br (h : DC X Y c s) (hs : isSt s) (k8 : st X 6 ≤ 8) (g : Fr scBr c c') : DC X Y c' s := ⟨h.1.cg (fun x k h0 h1 _ _ => g.gI (scB_st hs h0 h1)) k8, (g.gI (scB_st hs (by omega) (by omega))).trans h.2.1, (g.gI (scB_st hs (by omega) (by omega))).trans h.2.2.1, (g.gI (scB_st hs (by omega) (by omega))).trans h.2.2.2.1, h.2.2.2.2.br hs g⟩
theorem FN.br (h : FN c) (g : Fr scBr c c') : FN c' := fun s hs => by
  obtain ⟨h1, h2, h3, h4⟩ := h s hs
  exact ⟨(g.gL (scB_st hs (by omega) (by omega))).trans h1, (g.gL (scB_st hs (by omega) (by omega))).trans h2, (g.gL (scB_st hs (by omega) (by omega))).trans h3, (g.gL (scB_st hs (by omega) (by omega))).trans h4⟩
theorem Fr.BQ (h : Fr scBr c c') : Fr (scQs s) c c' := h.mono (fun x k z => by
  unfold scQs at z
  simp only [Bool.or_eq_false_iff] at z
  exact z.1)
theorem lwN_f {x k : Nat} (h : ¬ ((x = s + 7 ∨ x = s + 10) ∧ k ≤ 1)) : lwN s x k = false := by
  unfold lwN
  by_cases y : k ≤ 1
  · rw [nb (show ¬ x = s + 7 by omega), nb (show ¬ x = s + 10 by omega)]; rfl
  · rw [nl y]; simp
theorem scQ_t {x k : Nat} (h0 : s ≤ x) (h1 : x ≤ s + 20) (h2 : ¬ ((x = s + 7 ∨ x = s + 10) ∧ k ≤ 1)) : scQs s x k = true := by
  unfold scQs
  rw [Nat.ble_eq.mpr h0, Nat.ble_eq.mpr h1, lwN_f h2]
  simp
def scO (s a k : Nat) : Bool := Nat.ble s a && Nat.ble a (s + 20) && !lwN s a k
theorem scO_t {x k : Nat} (h0 : s ≤ x) (h1 : x ≤ s + 20) (h2 : ¬ ((x = s + 7 ∨ x = s + 10) ∧ k ≤ 1)) : scO s x k = true := by
  unfold scO
  rw [Nat.ble_eq.mpr h0, Nat.ble_eq.mpr h1, lwN_f h2]
  rfl
theorem scO_f {x k : Nat} (h : ¬ (s ≤ x ∧ x ≤ s + 20)) : scO s x k = false := by
  unfold scO
  by_cases y : s ≤ x
  · rw [nl (show ¬ x ≤ s + 20 by omega)]; simp
  · rw [nl y]; rfl
theorem Fr.OQ (h : Fr (scO s) c c') : Fr (scQs s) c c' := h.mono (fun x k z => by
  unfold scQs at z
  simp only [Bool.or_eq_false_iff] at z
  exact z.2)
/-- the names of facts stay -/
theorem FN.q (h : FN c) (hs : isSt s) (g : Fr (scQs s) c c') : FN c' := fun t ht => by
  have hs' : s = 104 ∨ s = 125 := hs
  have ht' : t = 104 ∨ t = 125 := ht
  have key : ∀ x k, (x = t + 7 ∨ x = t + 10) → k ≤ 1 → mm_gL c' x k = mm_gL c x k := fun x k hx hk => g.gL (by
    unfold scQs
    rw [scB_st ht (by omega) (by omega)]
    by_cases y : s = t
    · subst y
      have : lwN s x k = true := by
        unfold lwN
        rw [Nat.ble_eq.mpr hk]
        rcases hx with rfl | rfl <;> simp
      rw [this]
      simp
    · by_cases y2 : s ≤ x
      · rw [nl (show ¬ x ≤ s + 20 by omega)]; simp
      · rw [nl y2]; rfl)
  obtain ⟨h1, h2, h3, h4⟩ := h t ht
  exact ⟨(key _ _ (Or.inl rfl) (by omega)).trans h1, (key _ _ (Or.inl rfl) (by omega)).trans h2, (key _ _ (Or.inr rfl) (by omega)).trans h3, (key _ _ (Or.inr rfl) (by omega)).trans h4⟩
theorem CR.oq (h : CR D n T N i s c) (g : Fr (scO s) c c') : CR D n T N i s c' := h.o g (fun x k z => scO_f (by have : s = 104 ∨ s = 125 := h.2.2.2.1; omega)) (scO_f (by have : s = 104 ∨ s = 125 := h.2.2.2.1; omega))
theorem bI_1 {p : Prop} [Decidable p] (h : p) : iI (bI (decide p)) = iI 1 := by rw [decide_eq_true h]; rfl
theorem bI_0 {p : Prop} [Decidable p] (h : ¬ p) : iI (bI (decide p)) = iI 0 := by rw [decide_eq_false h]; rfl
/-- say -/
theorem L_say (hT : TS D n T N) (hE : EK E) (hX : LX X i) (i0 : 0 ≤ i) (iN : i < N) (z : ty T i = 5) : LN D E n T N X Y i 178 [some (.ref 316), none] 42 (fun _ => [some (.ref 154)]) := by
  have pr := (hT.k i0 (by omega)).1
  have hI := hX.1
  obtain ⟨⟨c0, c1⟩, ⟨l0, l1⟩, ⟨f0, f1, f2⟩, ⟨p0, p1⟩, ⟨w0, w1⟩, ⟨k0, k1⟩, ⟨q0, q1⟩, ⟨r0, r1⟩, hte, hwk, hmu⟩ := hI
  have hr := hX.2.2.2.2.2.2
  by_cases z6 : st X 5 = 6
  · refine ⟨i, 5 + 16 * tP T i, X, Y, fun m d hd hP hM => ?_, fun c d s hd hC hD hF => ?_, by omega⟩
    · obtain ⟨m2, e2, h2, g2⟩ := M172 (d := d - 1) hT hP (k := 5) (by omega) (by omega)
      rw [if_pos rfl] at h2
      refine ⟨m2, ?_, h2, by omega, g2.AtM⟩
      rw [sg_178_0 (by omega)]
      simp (disch := omega) only [shM hP.1.1, ↓reduceIte, not_false_eq_true, not_true_eq_false, and_self, and_true, true_and, false_and, and_false, or_true, true_or, or_false, false_or, or_self, reduceCtorEq, mm_q, Option.getD_some, cI_some, cJ_some, cV_some, cS_some, kd_sI, kd_sL, kd_sR, kd_cp, ln_sI, ln_sL, ln_sR, ln_cp, gR_sI, gR_sL, gR_sR, gR_cp, gL_sI, gL_sR, gL_cp, gI_sL, gI_sR, iI_add, iI_sub, iI_mul, iI_neg, iI_in, iI_tn, iI_lt, iI_eq, Nat.reduceLeDiff, Nat.reduceEqDiff, Nat.reduceAdd, Int.reduceEq, Int.reduceLT, Int.reduceLE, Int.reduceNeg, Int.reduceAdd, Int.reduceSub, Int.reduceMul, DM_st hM, z6, e2]
    · refine ⟨mm_sI c 154 3 (iI (5 + 16 * tP T i)), ?_, Fr.r154.BQ, by omega, fun _ => by simp [gI_sI]⟩
      rw [sg_42_0 (by omega), bI_0 (by omega)]
      have h7 := hD.1.1.2.2.2.2.2.2.1
      rw [z6] at h7
      simp (disch := omega) only [shP hC.1.1, stF hC.1.1 hC.2.2.2.1, ↓reduceIte, not_false_eq_true, not_true_eq_false, and_self, and_true, true_and, false_and, and_false, or_true, true_or, or_false, false_or, or_self, reduceCtorEq, mm_q, Option.getD_some, cI_some, cJ_some, cV_some, cS_some, kd_sI, kd_sL, kd_sR, kd_cp, ln_sI, ln_sL, ln_sR, ln_cp, gR_sI, gR_sL, gR_sR, gR_cp, gL_sI, gL_sR, gL_cp, gI_sL, gI_sR, iI_add, iI_sub, iI_mul, iI_neg, iI_in, iI_tn, iI_lt, iI_eq, Nat.reduceLeDiff, Nat.reduceEqDiff, Nat.reduceAdd, Int.reduceEq, Int.reduceLT, Int.reduceLE, Int.reduceNeg, Int.reduceAdd, Int.reduceSub, Int.reduceMul, hC.2.2.2.2, h7, C40 hT hC]
  · have pr2 := rn_r (Y := Y) (W := X 327) (cnt := rmX X) hT (i := i + 1) (by omega) (by omega)
    generalize hp : rnS T Y (X 327) (rmX X) (i + 1) = p at pr2
    generalize hq : taS T 6 0 600 p.1 p.2 = q
    have hXu : ∀ (x : Nat) (k : Nat), ¬ x = 327 → ¬ x = 316 → ¬ x = 322 → up (up (up (up X 327 (rmX X).toNat (iI (st X 5))) 316 19 (iI (rmX X + 1))) 322 (111 + st X 5 - 100).toNat (iI q.1)) 322 (105 - 100 : Int).toNat (iI (st X 5 + 1)) x k = X x k := fun x k y1 y2 y3 => by
      unfold up; rw [if_neg (by omega), if_neg (by omega), if_neg (by omega), if_neg (by omega)]
    refine ⟨q.2.1, q.2.2, up (up (up (up X 327 (rmX X).toNat (iI (st X 5))) 316 19 (iI (rmX X + 1))) 322 (111 + st X 5 - 100).toNat (iI q.1)) 322 (105 - 100 : Int).toNat (iI (st X 5 + 1)), upY Y (rmX X).toNat (tV T (i + 1)), fun m d hd hP hM => ?_, fun c d s hd hC hD hF => ?_, fun hf => ?_⟩
    · obtain ⟨m1, e1, h1, g1, d1, u1⟩ := M179 (d := d - 1) hT hE hP hM hX iN (by omega) (by omega) (w := st X 5) w0 (by omega)
      rw [hp] at h1 d1
      obtain ⟨m2, e2, h2, g2⟩ := M174 (d := d - 1) hT hE h1 (by omega) (w := 6) (lo := 0) (hi := 600) (by omega) (by omega) (by omega) (by omega) (by omega) (by omega)
      rw [hq] at e2 h2
      have e5 : mm_gI m2 322 ((105 : Int)).toNat = iI (st X 5) := by
        rw [g2.gI (scAt_o (by omega)), u1, DM_st hM (by omega) (by omega)]
        rfl
      refine ⟨mm_sI (mm_sI m2 322 (111 + st X 5).toNat (iI q.1)) 322 ((105 : Int)).toNat (iI (st X 5 + 1)), ?_, (h2.w (by omega)).w (by omega), fun hf => ?_, ((g1.tr g2.AtM).tr (Fr.s322 (by omega))).tr (Fr.s322 (by omega))⟩
      · rw [sg_178_0 (by omega)]
        simp (disch := omega) only [shM hP.1.1, ↓reduceIte, not_false_eq_true, not_true_eq_false, and_self, and_true, true_and, false_and, and_false, or_true, true_or, or_false, false_or, or_self, reduceCtorEq, mm_q, Option.getD_some, cI_some, cJ_some, cV_some, cS_some, kd_sI, kd_sL, kd_sR, kd_cp, ln_sI, ln_sL, ln_sR, ln_cp, gR_sI, gR_sL, gR_sR, gR_cp, gL_sI, gL_sR, gL_cp, gI_sL, gI_sR, iI_add, iI_sub, iI_mul, iI_neg, iI_in, iI_tn, iI_lt, iI_eq, Nat.reduceLeDiff, Nat.reduceEqDiff, Nat.reduceAdd, Int.reduceEq, Int.reduceLT, Int.reduceLE, Int.reduceNeg, Int.reduceAdd, Int.reduceSub, Int.reduceMul, DM_st hM, z6, e1]
        rw [sg_178_25 (by omega)]
        simp (disch := omega) only [shM h1.1.1, shM h2.1.1, ↓reduceIte, not_false_eq_true, not_true_eq_false, and_self, and_true, true_and, false_and, and_false, or_true, true_or, or_false, false_or, or_self, reduceCtorEq, mm_q, Option.getD_some, cI_some, cJ_some, cV_some, cS_some, kd_sI, kd_sL, kd_sR, kd_cp, ln_sI, ln_sL, ln_sR, ln_cp, gR_sI, gR_sL, gR_sR, gR_cp, gL_sI, gL_sR, gL_cp, gI_sL, gI_sR, iI_add, iI_sub, iI_mul, iI_neg, iI_in, iI_tn, iI_lt, iI_eq, Nat.reduceLeDiff, Nat.reduceEqDiff, Nat.reduceAdd, Int.reduceEq, Int.reduceLT, Int.reduceLE, Int.reduceNeg, Int.reduceAdd, Int.reduceSub, Int.reduceMul, e2]
        rw [sg_178_43]
        have e5' : mm_gI (mm_sI m2 322 (111 + st X 5).toNat (iI q.1)) 322 ((105 : Int)).toNat = iI (st X 5) := by rw [gI_sI, if_neg (by omega)]; exact e5
        simp (disch := omega) only [shM h2.1.1, ↓reduceIte, not_false_eq_true, not_true_eq_false, and_self, and_true, true_and, false_and, and_false, or_true, true_or, or_false, false_or, or_self, reduceCtorEq, mm_q, Option.getD_some, cI_some, cJ_some, cV_some, cS_some, kd_sI, kd_sL, kd_sR, kd_cp, ln_sI, ln_sL, ln_sR, ln_cp, gR_sI, gR_sL, gR_sR, gR_cp, gL_sI, gL_sR, gL_cp, gI_sL, gI_sR, iI_add, iI_sub, iI_mul, iI_neg, iI_in, iI_tn, iI_lt, iI_eq, Nat.reduceLeDiff, Nat.reduceEqDiff, Nat.reduceAdd, Int.reduceEq, Int.reduceLT, Int.reduceLE, Int.reduceNeg, Int.reduceAdd, Int.reduceSub, Int.reduceMul, e5']
      · have hpf : p.2 = 0 := by
          by_cases y : p.2 = 0
          · exact y
          · rw [ta_f y] at hq
            rw [← hq] at hf
            exact absurd hf y
        exact (((d1 hpf).at g2).w (by omega) (by omega)).w (by omega) (by omega)
    · have hst := hC.2.2.2.1
      have h7 := hD.1.1.2.2.2.2.2.2.1
      obtain ⟨c1, e1, g1, r1, k9⟩ := CR.nx (d := d - 1) hT hC (by omega) iN
      have hD1 := hD.br hst k1 g1
      obtain ⟨c2, e2, g2, r2, s2⟩ := C43 (d := d - 1) hT r1 (by omega) hD1.2.2.2.2 hD1.1.1.2.2.2.2.2.2.1 hD1.1.1.2.2.2.2.2.2.2.1
      rw [hp] at e2 r2 s2
      have start : mm_ev d 42 0 [some (.ref 154)] [] c = mm_ev d 42 29 [some (.ref 154)] [.int (iI (bI (decide (p.2 = 0))))] c2 := by
        rw [sg_42_0 (by omega)]
        simp (disch := omega) only [shP hC.1.1, shP r1.1.1, shT hC.1.1, stF hC.1.1 hst, ↓reduceIte, not_false_eq_true, not_true_eq_false, and_self, and_true, true_and, false_and, and_false, or_true, true_or, or_false, false_or, or_self, reduceCtorEq, mm_q, Option.getD_some, cI_some, cJ_some, cV_some, cS_some, kd_sI, kd_sL, kd_sR, kd_cp, ln_sI, ln_sL, ln_sR, ln_cp, gR_sI, gR_sL, gR_sR, gR_cp, gL_sI, gL_sR, gL_cp, gI_sL, gI_sR, iI_add, iI_sub, iI_mul, iI_neg, iI_in, iI_tn, iI_lt, iI_eq, Nat.reduceLeDiff, Nat.reduceEqDiff, Nat.reduceAdd, Int.reduceEq, Int.reduceLT, Int.reduceLE, Int.reduceNeg, Int.reduceAdd, Int.reduceSub, Int.reduceMul, hC.2.2.2.2, h7, show st X 5 < 6 by omega, e1, e2]
      by_cases y : p.2 = 0
      · obtain ⟨r3, v3, wr, iN1, fd1⟩ := r2 y
        have hD2 := hD1.br hst k1 g2
        obtain ⟨c3, e3, g3, r4, s4⟩ := C38 (d := d - 1) hT r3 (by omega) (w := 6) (lo := 0) (hi := 600) (by omega) (by omega) (by omega) (by omega) (by omega) (by omega)
        rw [show taS T 6 0 600 p.1 0 = q by rw [← hq, y]] at e3 r4 s4
        rw [start, bI_1 y, sg_42_29 (by omega)]
        by_cases y2 : q.2.2 = 0
        · rw [bI_1 y2] at e3
          rw [bI_1 y2]
          obtain ⟨r5, v5, -, l5⟩ := r4 y2
          have hD3 := hD2.br hst k1 g3
          have n6 : mm_gL c3 154 6 = tW T (i + 1) := (l5 6).trans v3
          have rb := ta_r (f := p.2) (i := p.1) (w := 6) (lo := 0) (hi := 600) hT (by rw [(pr2 y).1]; omega) (by rw [(pr2 y).1]; omega) (by omega) (by omega)
          rw [hq] at rb
          have rb' := rb y2
          have sts := stF r5.1.1 hst
          have gst := hst
          have hst' : s = 104 ∨ s = 125 := hst
          have h7' := hD3.1.1.2.2.2.2.2.2.1
          have hO : Fr (scO s) c3 (mm_sI (mm_sI (mm_sL c3 (s + 1) (st X 5).toNat (tW T (i + 1))) (s + 2) (st X 5).toNat (iI q.1)) s 7 (iI (st X 5 + 1))) := ((Fr.sL (scO_t (by omega) (by omega) (by omega))).tr (Fr.sI (scO_t (by omega) (by omega) (by omega)))).tr (Fr.sI (scO_t (by omega) (by omega) (by omega)))
          refine ⟨_, ?_, ((((g1.tr g2).tr g3).BQ).tr hO.OQ), fun _ => ⟨r5.oq hO, ?_⟩, fun y9 => absurd y2 y9⟩
          · simp (disch := omega) only [shP r3.1.1, ↓reduceIte, not_false_eq_true, not_true_eq_false, and_self, and_true, true_and, false_and, and_false, or_true, true_or, or_false, false_or, or_self, reduceCtorEq, mm_q, Option.getD_some, cI_some, cJ_some, cV_some, cS_some, kd_sI, kd_sL, kd_sR, kd_cp, ln_sI, ln_sL, ln_sR, ln_cp, gR_sI, gR_sL, gR_sR, gR_cp, gL_sI, gL_sR, gL_cp, gI_sL, gI_sR, iI_add, iI_sub, iI_mul, iI_neg, iI_in, iI_tn, iI_lt, iI_eq, Nat.reduceLeDiff, Nat.reduceEqDiff, Nat.reduceAdd, Int.reduceEq, Int.reduceLT, Int.reduceLE, Int.reduceNeg, Int.reduceAdd, Int.reduceSub, Int.reduceMul, e3]
            rw [sg_42_42]
            simp (disch := omega) only [shP r5.1.1, sts, ↓reduceIte, not_false_eq_true, not_true_eq_false, and_self, and_true, true_and, false_and, and_false, or_true, true_or, or_false, false_or, or_self, reduceCtorEq, mm_q, Option.getD_some, cI_some, cJ_some, cV_some, cS_some, kd_sI, kd_sL, kd_sR, kd_cp, ln_sI, ln_sL, ln_sR, ln_cp, gR_sI, gR_sL, gR_sR, gR_cp, gL_sI, gL_sR, gL_cp, gI_sL, gI_sR, iI_add, iI_sub, iI_mul, iI_neg, iI_in, iI_tn, iI_lt, iI_eq, Nat.reduceLeDiff, Nat.reduceEqDiff, Nat.reduceAdd, Int.reduceEq, Int.reduceLT, Int.reduceLE, Int.reduceNeg, Int.reduceAdd, Int.reduceSub, Int.reduceMul, r5.2.2.2.2, h7', n6, v5, gI_sI, show ¬ (s = s + 2 ∧ 7 = (st X 5).toNat) by omega, show 98 ≤ s by omega]
          · have st' : ∀ j, st (up (up (up (up X 327 (rmX X).toNat (iI (st X 5))) 316 19 (iI (rmX X + 1))) 322 (111 + st X 5 - 100).toNat (iI q.1)) 322 (105 - 100 : Int).toNat (iI (st X 5 + 1))) j = if j.toNat = 5 then st X 5 + 1 else if j.toNat = (11 + st X 5).toNat then q.1 else st X j := fun j => by
              rw [st_u, st_u, st_o (by omega), st_o (by omega), iI_val (by omega) (by omega), iI_val (by omega) (by omega)]
              rw [show (105 - 100 : Int).toNat = 5 by omega, show (111 + st X 5 - 100).toNat = (11 + st X 5).toNat by omega]
            obtain ⟨⟨b0, b1, b2, b3, b4, b5, b6, b7, b8⟩, bt, bw, bq, la, lb⟩ := hD3.1
            refine ⟨⟨⟨?_, ?_, ?_, ?_, ?_, ?_, ?_, ?_, ?_⟩, fun w y0 y1 => ?_, fun w y0 y1 => ?_, fun w y0 y1 => ?_, ?_, ?_⟩, ?_, ?_, ?_, ?_⟩
            · rw [st', if_neg (by omega), if_neg (by omega)]; simp [gI_sI, gI_sL]; exact b0
            · rw [st', if_neg (by omega), if_neg (by omega)]; simp [gI_sI, gI_sL]; exact b1
            · rw [st', if_neg (by omega), if_neg (by omega)]; simp [gI_sI, gI_sL]; exact b2
            · rw [st', if_neg (by omega), if_neg (by omega)]; simp [gI_sI, gI_sL]; exact b3
            · rw [st', if_neg (by omega), if_neg (by omega)]; simp [gI_sI, gI_sL]; exact b4
            · rw [st', if_neg (by omega), if_neg (by omega)]; simp [gI_sI, gI_sL]; exact b5
            · rw [st', if_pos (by omega)]; simp [gI_sI]
            · rw [st', if_neg (by omega), if_neg (by omega)]; simp [gI_sI, gI_sL]; exact b7
            · rw [st', if_neg (by omega), if_neg (by omega)]; simp [gI_sI, gI_sL]; exact b8
            · rw [st', if_pos (by omega)] at y1
              unfold te
              rw [st', if_neg (by omega)]
              by_cases y3 : w = st X 5
              · rw [if_pos (by omega), gI_sI, if_neg (by omega), gI_sI, if_pos ⟨rfl, by omega⟩]
              · rw [if_neg (by omega), gI_sI, if_neg (by omega), gI_sI, if_neg (by omega), gI_sL]
                exact bt w y0 (by omega)
            · rw [st', if_neg (by omega), if_neg (by omega)] at y1
              unfold wk
              simp only [st']
              obtain ⟨a1, a2, a3, a4, a5, a6, a7⟩ := bw w y0 y1
              unfold wk at a1 a2 a3 a4 a5 a6 a7
              refine ⟨?_, ?_, ?_, ?_, ?_, ?_, ?_⟩ <;> (rw [if_neg (by omega), if_neg (by omega), gI_sI, if_neg (by omega), gI_sI, if_neg (by omega), gI_sL]; assumption)
            · rw [st', if_neg (by omega), if_neg (by omega)] at y1
              unfold mu
              simp only [st']
              obtain ⟨a1, a2, a3⟩ := bq w y0 y1
              unfold mu at a1 a2 a3
              refine ⟨?_, ?_, ?_⟩ <;> (rw [if_neg (by omega), if_neg (by omega), gI_sI, if_neg (by omega), gI_sI, if_neg (by omega), gI_sL]; assumption)
            · rw [st', if_neg (by omega), if_neg (by omega)]
              exact (la.cg (by rw [gI_sI, if_neg (by omega), gI_sI, if_neg (by omega), gI_sL]) (fun k => by rw [gI_sI, if_neg (by omega), gI_sI, if_neg (by omega), gI_sL])).cX (by funext k; exact hXu 323 k (by omega) (by omega) (by omega)) (by funext k; exact hXu 324 k (by omega) (by omega) (by omega))
            · rw [st', if_neg (by omega), if_neg (by omega)]
              exact (lb.cg (by rw [gI_sI, if_neg (by omega), gI_sI, if_neg (by omega), gI_sL]) (fun k => by rw [gI_sI, if_neg (by omega), gI_sI, if_neg (by omega), gI_sL])).cX (by funext k; exact hXu 323 k (by omega) (by omega) (by omega)) (by funext k; exact hXu 324 k (by omega) (by omega) (by omega))
            · have eh : hrX (up (up (up (up X 327 (rmX X).toNat (iI (st X 5))) 316 19 (iI (rmX X + 1))) 322 (111 + st X 5 - 100).toNat (iI q.1)) 322 (105 - 100 : Int).toNat (iI (st X 5 + 1))) = hrX X := by
                unfold hrX up; rw [if_neg (by omega), if_neg (by omega), if_neg (by omega), if_neg (by omega)]
              rw [eh]
              simp [gI_sI, gI_sL]
              exact hD3.2.1
            · rw [st', if_neg (by omega), if_neg (by omega), gI_sI, if_neg (by omega), gI_sI, if_neg (by omega), gI_sL]
              exact hD3.2.2.1
            · rw [st', if_neg (by omega), if_neg (by omega), gI_sI, if_neg (by omega), gI_sI, if_neg (by omega), gI_sL]
              exact hD3.2.2.2.1
            · have er : rmX (up (up (up (up X 327 (rmX X).toNat (iI (st X 5))) 316 19 (iI (rmX X + 1))) 322 (111 + st X 5 - 100).toNat (iI q.1)) 322 (105 - 100 : Int).toNat (iI (st X 5 + 1))) = rmX X + 1 := by
                show ((up (up (up (up X 327 (rmX X).toNat (iI (st X 5))) 316 19 (iI (rmX X + 1))) 322 (111 + st X 5 - 100).toNat (iI q.1)) 322 (105 - 100 : Int).toNat (iI (st X 5 + 1))) 316 19).toInt = _
                unfold up; rw [if_neg (by omega), if_neg (by omega), if_pos ⟨rfl, rfl⟩, iI_val (by omega) (by omega)]
              rw [er, st', st', if_pos (by omega), if_neg (by omega), if_neg (by omega)]
              refine hD3.2.2.2.2.addA (u := tV T (i + 1)) (v := tW T (i + 1)) fd1 wr (by omega) (fun k => ?_) (fun k => rfl) (fun k => ?_) (fun x hx => ?_)
              · unfold up
                rw [if_neg (by omega), if_neg (by omega), if_neg (by omega)]
                simp
              · rw [gL_sI, gL_sI, gL_sL]
                simp
              · rw [gL_sI, gL_sI, gL_sL, if_neg (by omega)]
        · rw [bI_0 y2] at e3
          rw [bI_0 y2]
          refine ⟨c3, ?_, ((g1.tr g2).tr g3).BQ, fun y9 => absurd y9 y2, s4⟩
          simp (disch := omega) only [shP r3.1.1, ↓reduceIte, not_false_eq_true, not_true_eq_false, and_self, and_true, true_and, false_and, and_false, or_true, true_or, or_false, false_or, or_self, reduceCtorEq, mm_q, Option.getD_some, cI_some, cJ_some, cV_some, cS_some, kd_sI, kd_sL, kd_sR, kd_cp, ln_sI, ln_sL, ln_sR, ln_cp, gR_sI, gR_sL, gR_sR, gR_cp, gL_sI, gL_sR, gL_cp, gI_sL, gI_sR, iI_add, iI_sub, iI_mul, iI_neg, iI_in, iI_tn, iI_lt, iI_eq, Nat.reduceLeDiff, Nat.reduceEqDiff, Nat.reduceAdd, Int.reduceEq, Int.reduceLT, Int.reduceLE, Int.reduceNeg, Int.reduceAdd, Int.reduceSub, Int.reduceMul, e3]
          rw [sg_42_42]
          simp (disch := omega) only [↓reduceIte, not_false_eq_true, not_true_eq_false, and_self, and_true, true_and, false_and, and_false, or_true, true_or, or_false, false_or, or_self, reduceCtorEq, mm_q, Option.getD_some, cI_some, cJ_some, cV_some, cS_some, kd_sI, kd_sL, kd_sR, kd_cp, ln_sI, ln_sL, ln_sR, ln_cp, gR_sI, gR_sL, gR_sR, gR_cp, gL_sI, gL_sR, gL_cp, gI_sL, gI_sR, iI_add, iI_sub, iI_mul, iI_neg, iI_in, iI_tn, iI_lt, iI_eq, Nat.reduceLeDiff, Nat.reduceEqDiff, Nat.reduceAdd, Int.reduceEq, Int.reduceLT, Int.reduceLE, Int.reduceNeg, Int.reduceAdd, Int.reduceSub, Int.reduceMul]
      · rw [ta_f y] at hq
        rw [← hq]
        dsimp only
        rw [start, bI_0 y, sg_42_29 (by omega)]
        refine ⟨c2, ?_, (g1.tr g2).BQ, fun y9 => absurd y9 y, s2⟩
        simp (disch := omega) only [↓reduceIte, not_false_eq_true, not_true_eq_false, and_self, and_true, true_and, false_and, and_false, or_true, true_or, or_false, false_or, or_self, reduceCtorEq, mm_q, Option.getD_some, cI_some, cJ_some, cV_some, cS_some, kd_sI, kd_sL, kd_sR, kd_cp, ln_sI, ln_sL, ln_sR, ln_cp, gR_sI, gR_sL, gR_sR, gR_cp, gL_sI, gL_sR, gL_cp, gI_sL, gI_sR, iI_add, iI_sub, iI_mul, iI_neg, iI_in, iI_tn, iI_lt, iI_eq, Nat.reduceLeDiff, Nat.reduceEqDiff, Nat.reduceAdd, Int.reduceEq, Int.reduceLT, Int.reduceLE, Int.reduceNeg, Int.reduceAdd, Int.reduceSub, Int.reduceMul]
    · have hpf : p.2 = 0 := by
        by_cases y : p.2 = 0
        · exact y
        · rw [ta_f y] at hq
          rw [← hq] at hf
          exact absurd hf y
      have rb := ta_r (f := p.2) (i := p.1) (w := 6) (lo := 0) (hi := 600) hT (by rw [(pr2 hpf).1]; omega) (by rw [(pr2 hpf).1]; omega) (by omega) (by omega)
      rw [hq] at rb
      obtain ⟨-, v0, v1, iq, iq2⟩ := rb hf
      have ip := (pr2 hpf).1
      have st' : ∀ j, st (up (up (up (up X 327 (rmX X).toNat (iI (st X 5))) 316 19 (iI (rmX X + 1))) 322 (111 + st X 5 - 100).toNat (iI q.1)) 322 (105 - 100 : Int).toNat (iI (st X 5 + 1))) j = if j.toNat = 5 then st X 5 + 1 else if j.toNat = (11 + st X 5).toNat then q.1 else st X j := fun j => by
        rw [st_u, st_u, st_o (by omega), st_o (by omega), iI_val (by omega) (by omega), iI_val (by omega) (by omega)]
        rw [show (105 - 100 : Int).toNat = 5 by omega, show (111 + st X 5 - 100).toNat = (11 + st X 5).toNat by omega]
      have er : rmX (up (up (up (up X 327 (rmX X).toNat (iI (st X 5))) 316 19 (iI (rmX X + 1))) 322 (111 + st X 5 - 100).toNat (iI q.1)) 322 (105 - 100 : Int).toNat (iI (st X 5 + 1))) = rmX X + 1 := by
        show ((up (up (up (up X 327 (rmX X).toNat (iI (st X 5))) 316 19 (iI (rmX X + 1))) 322 (111 + st X 5 - 100).toNat (iI q.1)) 322 (105 - 100 : Int).toNat (iI (st X 5 + 1))) 316 19).toInt = _
        unfold up; rw [if_neg (by omega), if_neg (by omega), if_pos ⟨rfl, rfl⟩, iI_val (by omega) (by omega)]
      refine ⟨hX.of ?_ ?_ ?_ (by funext k; exact hXu 323 k (by omega) (by omega) (by omega)) (by funext k; exact hXu 324 k (by omega) (by omega) (by omega)) ?_ ?_ ?_ ?_ (by omega), by omega⟩
      · unfold InvS InvW InvQ te wk mu
        simp only [st']
        refine ⟨?_, ?_, ?_, ?_, ?_, ?_, ?_, ?_, fun x x0 x1 => ?_, fun x x0 x1 => ?_, fun x x0 x1 => ?_⟩
        · simp; omega
        · simp; omega
        · simp; omega
        · simp; omega
        · simp; omega
        · simp; omega
        · simp; omega
        · simp; omega
        · simp at x1
          rw [if_neg (by omega)]
          by_cases y3 : x = st X 5
          · rw [if_pos (by omega)]; omega
          · rw [if_neg (by omega)]; exact hte x x0 (by omega)
        · rw [if_neg (by omega), if_neg (by omega)] at x1
          have := hwk x x0 x1
          unfold InvW wk at this
          rw [if_neg (by omega), if_neg (by omega), if_neg (by omega), if_neg (by omega), if_neg (by omega), if_neg (by omega), if_neg (by omega), if_neg (by omega), if_neg (by omega), if_neg (by omega), if_neg (by omega), if_neg (by omega), if_neg (by omega), if_neg (by omega)]
          simp
          simp at this
          omega
        · rw [if_neg (by omega), if_neg (by omega)] at x1
          have := hmu x x0 x1
          unfold InvQ mu at this
          rw [if_neg (by omega), if_neg (by omega), if_neg (by omega), if_neg (by omega), if_neg (by omega), if_neg (by omega)]
          simp
          simp at this
          omega
      · rw [st', if_neg (by omega), if_neg (by omega)]
      · rw [st', if_neg (by omega), if_neg (by omega)]
      · unfold cdX up; rw [if_neg (by omega), if_neg (by omega), if_neg (by omega), if_neg (by omega)]
      · have eh : hrX (up (up (up (up X 327 (rmX X).toNat (iI (st X 5))) 316 19 (iI (rmX X + 1))) 322 (111 + st X 5 - 100).toNat (iI q.1)) 322 (105 - 100 : Int).toNat (iI (st X 5 + 1))) = hrX X := by
          unfold hrX up; rw [if_neg (by omega), if_neg (by omega), if_neg (by omega), if_neg (by omega)]
        rw [eh]
        exact hX.2.2.2.2.1
      · intro k hk
        rw [er] at hk
        rw [st', st', if_pos (by omega), if_neg (by omega), if_neg (by omega)]
        unfold up
        rw [if_neg (by omega), if_neg (by omega), if_neg (by omega)]
        by_cases y3 : k = (rmX X).toNat
        · rw [if_pos ⟨rfl, y3⟩, iI_val (by omega) (by omega)]; omega
        · rw [if_neg (fun q => y3 q.2)]
          rcases hX.2.2.2.2.2.1 k (by omega) with q | q <;> omega
      · rw [er, st', st', if_pos (by omega), if_neg (by omega), if_neg (by omega)]
        omega
end
