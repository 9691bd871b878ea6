def sc101 (a _k : Nat) : Bool := Nat.beq a 101
/-- what readStreet changes -/
def FS (s : Nat) (c c' : mm_M) : Prop := c'.1 = c.1 ∧ c'.2.1 = c.2.1 ∧ (∀ a k, ¬ (a = 154 ∧ k = 1) → mm_gR c' a k = mm_gR c a k) ∧ mm_gR c' 154 1 = some s ∧ (∀ a k, scQs s a k = false → ¬ (a = 101 ∧ k = 3) → mm_gI c' a k = mm_gI c a k ∧ mm_gL c' a k = mm_gL c a k)
section
variable {D : Nat → Nat → Int32} {E : Nat → Nat → Int64} {m m' c c' c'' : mm_M} {d s L : Nat} {n N i f : Int} {T : TK} {X X' X'' : Nat → Nat → Int32} {Y : Nat → Int64}
theorem Sh.sR1 (hs : Sh c) {v : Option Nat} : Sh (mm_sR c 154 1 v) := ⟨hs.1, fun a k h0 h1 => by
  rw [gR_sR, if_neg]
  · exact hs.2 a k h0 h1
  · rintro ⟨rfl, rfl⟩
    exact absurd h1 (by decide)⟩
theorem CX.sR1 (h : CX D n c) {v : Option Nat} : CX D n (mm_sR c 154 1 v) := ⟨h.1.sR1, h.2.1, h.2.2.1, h.2.2.2⟩
theorem FN.sR1 (h : FN c) {v : Option Nat} : FN (mm_sR c 154 1 v) := h
theorem scQ_z {x k : Nat} (hs : isSt s) (h : (x = 101 ∧ k = 3) ∨ x = 102 ∨ x = 103) : scQs s x k = false := by
  have hs' : s = 104 ∨ s = 125 := hs
  unfold scQs
  rw [scB_z h, nl (show ¬ s ≤ x by omega)]
  rfl
theorem CX.q (h : CX D n c) (hs : isSt s) (g : Fr (scQs s) c c') : CX D n c' := h.fr g (fun _ _ => scQ_z hs)
theorem DC.o {P : Nat → Nat → Bool} (h : DC X Y c s) (k8 : st X 6 ≤ 8) (g : Fr P c c') (z : ∀ x k, s ≤ x → x ≤ s + 20 → P x k = false) : DC X Y c' s := ⟨h.1.cg (fun x k h0 h1 _ _ => g.gI (z x k h0 h1)) k8, (g.gI (z _ _ (by omega) (by omega))).trans h.2.1, (g.gI (z _ _ (by omega) (by omega))).trans h.2.2.1, (g.gI (z _ _ (by omega) (by omega))).trans h.2.2.2.1, h.2.2.2.2.fr g (fun x k y => by
  have := h.2.2.2.2.2.2.1
  rcases y with ⟨rfl, -⟩ | ⟨y0, y1, -⟩
  · exact z _ _ (by omega) (by omega)
  · exact z _ _ (by omega) (by omega))⟩
/-- a ground that is well -/
theorem Lground (hT : TS D n T N) {a1 a2 a3 a4 a5 : Int × Int × Int} {t6 : Int × Int} (h1 : a1 = taS T 0 4 40 0 0) (h2 : a2 = taS T 1 1 4 a1.2.1 a1.2.2) (h3 : a3 = taS T 2 0 (a1.1 - 1) a2.2.1 a2.2.2) (h4 : a4 = taS T 3 a3.1 (a1.1 - 1) a3.2.1 a3.2.2) (h5 : a5 = taS T 4 0 a2.1 a4.2.1 a4.2.2) (h6 : t6 = twS T 59 a5.2.1 a5.2.2) (y6 : t6.2 = 0) : LX (grX a1.1 a2.1 a3.1 a4.1 a5.1) t6.1 ∧ 0 ≤ t6.1 ∧ t6.1 ≤ N := by
  have nn := hT.1
  have c6 : a5.2.2 = 0 := by
    by_cases y : a5.2.2 = 0
    · exact y
    · rw [h6] at y6; unfold twS at y6; rw [if_neg y] at y6; exact y6
  have c5 : a4.2.2 = 0 := by
    by_cases y : a4.2.2 = 0
    · exact y
    · rw [h5, ta_f y] at c6; exact c6
  have c4 : a3.2.2 = 0 := by
    by_cases y : a3.2.2 = 0
    · exact y
    · rw [h4, ta_f y] at c5; exact c5
  have c3 : a2.2.2 = 0 := by
    by_cases y : a2.2.2 = 0
    · exact y
    · rw [h3, ta_f y] at c4; exact c4
  have c2 : a1.2.2 = 0 := by
    by_cases y : a1.2.2 = 0
    · exact y
    · rw [h2, ta_f y] at c3; exact c3
  have A1 := ta_r (f := 0) (i := 0) (w := 0) (lo := 4) (hi := 40) hT (by omega) (by omega) (by omega) (by omega)
  rw [← h1] at A1
  obtain ⟨-, B0, B1, B2, B3⟩ := A1 c2
  have A2 := ta_r (f := a1.2.2) (i := a1.2.1) (w := 1) (lo := 1) (hi := 4) hT (by omega) (by omega) (by omega) (by omega)
  rw [← h2] at A2
  obtain ⟨-, C0, C1, C2, C3⟩ := A2 c3
  have A3 := ta_r (f := a2.2.2) (i := a2.2.1) (w := 2) (lo := 0) (hi := a1.1 - 1) hT (by omega) (by omega) (by omega) (by omega)
  rw [← h3] at A3
  obtain ⟨-, D0, D1, D2, D3⟩ := A3 c4
  have A4 := ta_r (f := a3.2.2) (i := a3.2.1) (w := 3) (lo := a3.1) (hi := a1.1 - 1) hT (by omega) (by omega) (by omega) (by omega)
  rw [← h4] at A4
  obtain ⟨-, E0, E1, E2, E3⟩ := A4 c5
  have A5 := ta_r (f := a4.2.2) (i := a4.2.1) (w := 4) (lo := 0) (hi := a2.1) hT (by omega) (by omega) (by omega) (by omega)
  rw [← h5] at A5
  obtain ⟨-, F0, F1, F2, F3⟩ := A5 c6
  have T6 := tw_r (f := a5.2.2) (i := a5.2.1) (w := 59) hT (by omega) (by omega) (by omega)
  rw [← h6] at T6
  obtain ⟨-, G1, G2, -⟩ := T6 y6
  have w1 : gR0 a1.1 := ⟨by omega, by omega⟩
  have w2 : gR0 a2.1 := ⟨by omega, by omega⟩
  have w3 : gR0 a3.1 := ⟨by omega, by omega⟩
  have w4 : gR0 a4.1 := ⟨by omega, by omega⟩
  have w5 : gR0 a5.1 := ⟨by omega, by omega⟩
  have sx := grX_st w1 w2 w3 w4 w5
  have hi : ∀ j : Int, 5 ≤ j → st (grX a1.1 a2.1 a3.1 a4.1 a5.1) j = st alX j := fun j hj => by
    rw [sx, if_neg (by omega), if_neg (by omega), if_neg (by omega), if_neg (by omega), if_neg (by omega), st_a]
  have st9 : st alX 9 = -1 := by decide
  have st10 : st alX 10 = -1 := by decide
  have st5 : st alX 5 = 0 := by decide
  have st6 : st alX 6 = 0 := by decide
  have st7 : st alX 7 = 0 := by decide
  have st8 : st alX 8 = 20 := by decide
  have rm0 : rmX (grX a1.1 a2.1 a3.1 a4.1 a5.1) = 0 := by unfold rmX; rw [grX_o (by omega)]; rfl
  have cd0 : cdX (grX a1.1 a2.1 a3.1 a4.1 a5.1) = 0 := by unfold cdX; rw [grX_o (by omega)]; rfl
  have hr0 : hrX (grX a1.1 a2.1 a3.1 a4.1 a5.1) = 0 := by unfold hrX; rw [grX_o (by omega)]; rfl
  refine ⟨⟨⟨?_, ?_, ?_, ?_, ?_, ?_, ?_, ?_, fun x z0 z1 => ?_, fun x z0 z1 => ?_, fun x z0 z1 => ?_⟩, ⟨Or.inl ?_, Or.inl ?_⟩, ⟨fun q => ?_, fun q => ?_⟩, ⟨by omega, by omega⟩, Or.inl hr0, fun k hk => by omega, ?_⟩, by omega, by omega⟩
  · rw [sx, if_neg (by omega), if_neg (by omega), if_neg (by omega), if_neg (by omega), if_pos (by omega)]; omega
  · rw [sx, if_neg (by omega), if_neg (by omega), if_neg (by omega), if_pos (by omega)]; omega
  · rw [sx 2, if_neg (by omega), if_neg (by omega), if_pos (by omega), sx 3, if_neg (by omega), if_pos (by omega), sx 0, if_neg (by omega), if_neg (by omega), if_neg (by omega), if_neg (by omega), if_pos (by omega)]; omega
  · rw [sx 4, if_pos (by omega), sx 1, if_neg (by omega), if_neg (by omega), if_neg (by omega), if_pos (by omega)]; omega
  · rw [hi 5 (by omega), st5]; omega
  · rw [hi 6 (by omega), st6]; omega
  · rw [hi 7 (by omega), st7]; omega
  · rw [hi 8 (by omega), st8]; omega
  · rw [hi 5 (by omega), st5] at z1; omega
  · rw [hi 6 (by omega), st6] at z1; omega
  · rw [hi 7 (by omega), st7] at z1; omega
  · rw [hi 9 (by omega), st9]
  · rw [hi 10 (by omega), st10]
  · rw [hi 9 (by omega), st9] at q; omega
  · rw [hi 10 (by omega), st10] at q; omega
  · rw [rm0, hi 5 (by omega), hi 6 (by omega), st5, st6]; rfl
/-- a STREET, read by both -/
theorem Sread (hT : TS D n T N) (hE : EK E) (hst : isSt s) : ∃ (f' : Int) (X' : Nat → Nat → Int32) (Y' : Nat → Int64), (∀ (m : mm_M) (d : Nat), 64 ≤ d → PF D E T N 0 0 m → ∃ m' i', mm_ev d 163 9 [some (.ref 316), none] [] m = mm_ev d 163 171 [some (.ref 316), none] [] m' ∧ PF D E T N i' f' m' ∧ (f' = 0 → DM X' Y' m') ∧ Fr scM m m') ∧ (∀ (c : mm_M) (d : Nat), 64 ≤ d → CX D n c → FN c → ∃ c', mm_ev d 36 0 [some (.ref 154), some (.ref s), none, none] [] c = some (some (some (.int (iI f'))), c') ∧ FS s c c' ∧ (f' = 0 → DC X' Y' c' s) ∧ mm_gI c' 101 3 = iI 0 ∧ FN c') ∧ (f' = 0 → ∃ i', LX X' i' ∧ i' ≤ 1000) := by
  have nn := hT.1
  generalize h1 : taS T 0 4 40 0 0 = a1
  generalize h2 : taS T 1 1 4 a1.2.1 a1.2.2 = a2
  generalize h3 : taS T 2 0 (a1.1 - 1) a2.2.1 a2.2.2 = a3
  generalize h4 : taS T 3 a3.1 (a1.1 - 1) a3.2.1 a3.2.2 = a4
  generalize h5 : taS T 4 0 a2.1 a4.2.1 a4.2.2 = a5
  generalize h6 : twS T 59 a5.2.1 a5.2.2 = t6
  -- the class as far as the ground
  have cl : ∀ (c : mm_M) (d : Nat), 64 ≤ d → CX D n c → FN c → ∃ c1, mm_ev d 36 0 [some (.ref 154), some (.ref s), none, none] [] c = mm_ev d 36 31 [some (.ref 154), some (.ref s), some (.int (iI (bI (decide (t6.2 = 0))))), some (.int (iI 0))] [] c1 ∧ Fr (scQs s) (mm_sR c 154 1 (some s)) c1 ∧ (t6.2 = 0 → CR D n T N t6.1 s c1 ∧ DC (grX a1.1 a2.1 a3.1 a4.1 a5.1) (fun _ => lI 0) c1 s) ∧ (¬ t6.2 = 0 → mm_gI c1 154 3 = iI t6.2) ∧ (t6.2 = 0 → LX (grX a1.1 a2.1 a3.1 a4.1 a5.1) t6.1 ∧ 0 ≤ t6.1 ∧ t6.1 ≤ N) := fun c d hd hX hF => by
    have hX0 := hX.sR1 (v := some s)
    obtain ⟨c1, e1, g1, d1⟩ := C65 (Y := fun _ => lI 0) (d := d - 1) hX0.1 hst (by omega)
    have hX1 := hX0.q hst g1
    have hX2 : CX D n (mm_sI c1 154 3 (iI 0)) := hX1.br Fr.r154
    obtain ⟨c3, e3, g3, t3⟩ := C78 (d := d - 1) hT hX2 (by omega)
    have r1 : mm_gR c3 154 1 = some s := by
      rw [g3.2.2.1]
      show mm_gR c1 154 1 = some s
      rw [g1.2.2.1, gR_sR, if_pos ⟨rfl, rfl⟩]
    have hC3 : CR D n T N 0 s c3 := ⟨hX2.v g3, t3, ⟨by omega, nn.1⟩, hst, r1, by rw [g3.gI rfl, gI_sI, if_pos ⟨rfl, rfl⟩]⟩
    have k8 : st alX 6 ≤ 8 := by decide
    have d3 := (d1.br hst k8 (Fr.r154 (k := 3) (v := iI 0))).br hst k8 g3.vB
    obtain ⟨⟨c4, e4, g4, t4, u4⟩, l4⟩ := Cground (d := d - 1) hT hC3 d3 (by omega) h1.symm h2.symm h3.symm h4.symm h5.symm h6.symm
    refine ⟨c4, ?_, ((g1.tr Fr.r154.BQ).tr g3.vB.BQ).tr g4, t4, u4, l4⟩
    rw [sg_36_0 (by omega)]
    have q1 : mm_gR (mm_sR c 154 1 (some s)) 154 1 = some s := by rw [gR_sR, if_pos ⟨rfl, rfl⟩]
    have k5 : mm_kd c 154 = 5 := hX.1.kd (by decide)
    have k5' : mm_kd (mm_sR c 154 1 (some s)) 154 = 5 := k5
    have k7 : mm_kd (mm_sR c 154 1 (some s)) s = 7 := (stF hX0.1 hst).1
    rw [if_pos k5]
    show (if mm_kd (mm_sR c 154 1 (some s)) 154 = 5 ∧ ¬ mm_gR (mm_sR c 154 1 (some s)) 154 1 = none then _ else none) = _
    rw [if_pos ⟨k5', by rw [q1]; simp⟩]
    have q1' : mm_q (mm_sR c 154 1 (some s)) 154 1 = s := by unfold mm_q; rw [q1]; rfl
    rw [q1', if_pos k7, e1, cV_some, sg_36_12 (by omega)]
    simp (disch := omega) only [shP hX1.1, shP hX2.1, shT hX2.1, shP hC3.1.1, ↓reduceIte, not_false_eq_true, not_true_eq_false, and_self, and_true, true_and, false_and, and_false, or_true, true_or, or_false, false_or, or_self, reduceCtorEq, mm_q, Option.getD_some, cI_some, cJ_some, cV_some, cS_some, kd_sI, kd_sL, kd_sR, kd_cp, ln_sI, ln_sL, ln_sR, ln_cp, gR_sI, gR_sL, gR_sR, gR_cp, gL_sI, gL_sR, gL_cp, gI_sL, gI_sR, iI_add, iI_sub, iI_mul, iI_neg, iI_in, iI_tn, iI_lt, iI_eq, Nat.reduceLeDiff, Nat.reduceEqDiff, Nat.reduceAdd, Int.reduceEq, Int.reduceLT, Int.reduceLE, Int.reduceNeg, Int.reduceAdd, Int.reduceSub, Int.reduceMul, e3, e4]
  -- the class's end
  have en : ∀ (c : mm_M) (d : Nat) (g : Int) (b k : Int32), 64 ≤ d → Sh c → mm_gI c 154 3 = iI g → mm_ev d 36 217 [some (.ref 154), some (.ref s), some (.int b), some (.int k)] [] c = some (some (some (.int (iI g))), mm_sI c 101 3 (iI 0)) := fun c d g b k hd hs h3 => by
    have e82 : mm_ev (d - 1) 82 0 [some (.ref 101)] [] c = some (some none, mm_sI c 101 3 (iI 0)) := by
      rw [sg_82_0]
      simp (disch := omega) only [shT hs, ↓reduceIte, not_false_eq_true, not_true_eq_false, and_self, and_true, true_and, false_and, and_false, or_true, true_or, or_false, false_or, or_self, reduceCtorEq, mm_q, Option.getD_some, cI_some, cJ_some, cV_some, cS_some, kd_sI, kd_sL, kd_sR, kd_cp, ln_sI, ln_sL, ln_sR, ln_cp, gR_sI, gR_sL, gR_sR, gR_cp, gL_sI, gL_sR, gL_cp, gI_sL, gI_sR, iI_add, iI_sub, iI_mul, iI_neg, iI_in, iI_tn, iI_lt, iI_eq, Nat.reduceLeDiff, Nat.reduceEqDiff, Nat.reduceAdd, Int.reduceEq, Int.reduceLT, Int.reduceLE, Int.reduceNeg, Int.reduceAdd, Int.reduceSub, Int.reduceMul]
    rw [sg_36_217 (by omega)]
    simp (disch := omega) only [shP hs, shT hs, ↓reduceIte, not_false_eq_true, not_true_eq_false, and_self, and_true, true_and, false_and, and_false, or_true, true_or, or_false, false_or, or_self, reduceCtorEq, mm_q, Option.getD_some, cI_some, cJ_some, cV_some, cS_some, kd_sI, kd_sL, kd_sR, kd_cp, ln_sI, ln_sL, ln_sR, ln_cp, gR_sI, gR_sL, gR_sR, gR_cp, gL_sI, gL_sR, gL_cp, gI_sL, gI_sR, iI_add, iI_sub, iI_mul, iI_neg, iI_in, iI_tn, iI_lt, iI_eq, Nat.reduceLeDiff, Nat.reduceEqDiff, Nat.reduceAdd, Int.reduceEq, Int.reduceLT, Int.reduceLE, Int.reduceNeg, Int.reduceAdd, Int.reduceSub, Int.reduceMul, e82, gI_sI, h3]
  have fin : ∀ (c c1 : mm_M), CX D n c → Fr (scQs s) (mm_sR c 154 1 (some s)) c1 → FS s c (mm_sI c1 101 3 (iI 0)) := fun c c1 hX g => by
    refine ⟨g.1, g.2.1, fun a k y => ?_, ?_, fun a k y1 y2 => ?_⟩
    · show mm_gR c1 a k = _
      rw [g.2.2.1, gR_sR, if_neg y]
    · show mm_gR c1 154 1 = _
      rw [g.2.2.1, gR_sR, if_pos ⟨rfl, rfl⟩]
    · rw [gI_sI, if_neg y2, gL_sI]
      exact g.2.2.2 a k y1
  by_cases y : t6.2 = 0
  · have hL := Lground hT h1.symm h2.symm h3.symm h4.symm h5.symm h6.symm y
    obtain ⟨i', f', X', Y', bm, bc, bx⟩ := Llines hT hE hst (N - t6.1).toNat (grX a1.1 a2.1 a3.1 a4.1 a5.1) (fun _ => lI 0) t6.1 (by omega) hL.1 hL.2.1 hL.2.2
    refine ⟨f', X', Y', fun m d hd hP => ?_, fun c d hd hX hF => ?_, fun q => ⟨i', (bx q).1, by have := bx q; omega⟩⟩
    · obtain ⟨m1, e1, k1, d1, g1⟩ := Mground (Y := fun _ => lI 0) (d := d) hT hE hP (by omega) h1.symm h2.symm h3.symm h4.symm h5.symm h6.symm
      rw [y] at k1
      obtain ⟨m2, e2, k2, q2, g2⟩ := bm m1 d (by omega) k1 d1
      exact ⟨m2, i', e1.trans e2, k2, q2, g1.tr g2⟩
    · obtain ⟨c1, e1, g1, t1, -, -⟩ := cl c d hd hX hF
      obtain ⟨t1, d1⟩ := t1 y
      have hF1 := (hF.sR1 (v := some s)).q hst g1
      obtain ⟨c2, b, k, e2, g2, t2, u2⟩ := bc c1 d 0 (by omega) (by omega) (by omega) t1 d1 hF1
      have hs2 := g2.sh t1.1.1
      have k8 := hL.1.1.2.2.2.2.2.1.2
      refine ⟨mm_sI c2 101 3 (iI 0), ?_, fin c c2 hX (g1.tr g2), fun q => ?_, by rw [gI_sI, if_pos ⟨rfl, rfl⟩], ?_⟩
      · rw [e1, bI_1 y, e2, en c2 d f' _ _ hd hs2 u2]
      · have k8' := (bx q).1.1.2.2.2.2.2.1.2
        exact ((t2 q).2).o (P := sc101) k8' (Fr.sI rfl) (fun x k x0 x1 => nb (by have : s = 104 ∨ s = 125 := hst; omega))
      · have hF2 : FN c2 := hF1.q hst g2
        exact hF2
  · refine ⟨t6.2, alX, fun _ => lI 0, fun m d hd hP => ?_, fun c d hd hX hF => ?_, fun q => absurd q y⟩
    · obtain ⟨m1, e1, k1, d1, g1⟩ := Mground (Y := fun _ => lI 0) (d := d) hT hE hP (by omega) h1.symm h2.symm h3.symm h4.symm h5.symm h6.symm
      have p9 := k1.2.2.2.2.2
      refine ⟨m1, t6.1, ?_, k1, fun q => absurd q y, g1⟩
      rw [e1, sg_163_139 (by omega)]
      simp (disch := omega) only [shM k1.1.1, ↓reduceIte, not_false_eq_true, not_true_eq_false, and_self, and_true, true_and, false_and, and_false, or_true, true_or, or_false, false_or, or_self, reduceCtorEq, mm_q, Option.getD_some, cI_some, cJ_some, cV_some, cS_some, kd_sI, kd_sL, kd_sR, kd_cp, ln_sI, ln_sL, ln_sR, ln_cp, gR_sI, gR_sL, gR_sR, gR_cp, gL_sI, gL_sR, gL_cp, gI_sL, gI_sR, iI_add, iI_sub, iI_mul, iI_neg, iI_in, iI_tn, iI_lt, iI_eq, Nat.reduceLeDiff, Nat.reduceEqDiff, Nat.reduceAdd, Int.reduceEq, Int.reduceLT, Int.reduceLE, Int.reduceNeg, Int.reduceAdd, Int.reduceSub, Int.reduceMul, k1.2.2.2.1, y]
    · obtain ⟨c1, e1, g1, -, u1, -⟩ := cl c d hd hX hF
      have hs1 := g1.sh (hX.sR1 (v := some s)).1
      refine ⟨mm_sI c1 101 3 (iI 0), ?_, fin c c1 hX g1, fun q => absurd q y, by rw [gI_sI, if_pos ⟨rfl, rfl⟩], ?_⟩
      · rw [e1, bI_0 y, sg_36_31 (by omega)]
        simp (disch := omega) only [↓reduceIte, not_false_eq_true, not_true_eq_false, and_self, and_true, true_and, false_and, and_false, or_true, true_or, or_false, false_or, or_self, reduceCtorEq, mm_q, Option.getD_some, cI_some, cJ_some, cV_some, cS_some, kd_sI, kd_sL, kd_sR, kd_cp, ln_sI, ln_sL, ln_sR, ln_cp, gR_sI, gR_sL, gR_sR, gR_cp, gL_sI, gL_sR, gL_cp, gI_sL, gI_sR, iI_add, iI_sub, iI_mul, iI_neg, iI_in, iI_tn, iI_lt, iI_eq, Nat.reduceLeDiff, Nat.reduceEqDiff, Nat.reduceAdd, Int.reduceEq, Int.reduceLT, Int.reduceLE, Int.reduceNeg, Int.reduceAdd, Int.reduceSub, Int.reduceMul]
        exact en c1 d t6.2 _ _ hd hs1 (u1 y)
      · have hF1 : FN c1 := (hF.sR1 (v := some s)).q hst g1
        exact hF1
end
