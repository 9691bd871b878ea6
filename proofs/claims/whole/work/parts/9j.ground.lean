/-- the street as always -/
def alN (k : Nat) : Int32 := if k = 0 then iI 4 else if k = 1 then iI 1 else if k = 3 then iI 3 else if k = 4 then iI 1 else if k = 8 then iI 20 else if k = 9 then iI (-1) else if k = 10 then iI (-1) else iI 0
def alX : Nat → Nat → Int32 := fun a k => if a = 322 then alN k else iI 0
def grX (v1 v2 v3 v4 v5 : Int) : Nat → Nat → Int32 := up (up (up (up (up alX 322 (100 - 100 : Int).toNat (iI v1)) 322 (101 - 100 : Int).toNat (iI v2)) 322 (102 - 100 : Int).toNat (iI v3)) 322 (103 - 100 : Int).toNat (iI v4)) 322 (104 - 100 : Int).toNat (iI v5)
section
variable {D : Nat → Nat → Int32} {E : Nat → Nat → Int64} {m m' c c' c'' : mm_M} {d s L : Nat} {n N i f : Int} {T : TK} {X X' X'' : Nat → Nat → Int32} {Y : Nat → Int64} {v1 v2 v3 v4 v5 : Int}
theorem st1 {x v : Int32} {z : Int} {F : mm_M → Option mm_R} (hs : Sh m) (hx : x = iI z) (z0 : 0 ≤ z) (z1 : z < 200) : (if mm_kd m 316 = 12 ∧ ¬ mm_gR m 316 10 = none then (if 100 ≤ mm_q m 316 10 ∧ mm_kd m (mm_q m 316 10) = 20 ∧ mm_in x (mm_ln m (mm_q m 316 10)) = true then mm_cS (mm_sI m (mm_q m 316 10) x.toNatClampNeg v) F else none) else none) = F (mm_sI m 322 z.toNat v) := by
  have k1 : mm_kd m 316 = 12 := hs.kd (by decide)
  have r1 : mm_gR m 316 10 = some 322 := hs.gR (by decide) (by decide +kernel) (by decide +kernel)
  have k2 : mm_kd m 322 = 20 := hs.kd (by decide)
  have l2 : mm_ln m 322 = 200 := hs.ln (by decide)
  have q : mm_q m 316 10 = 322 := by unfold mm_q; rw [r1]; rfl
  rw [if_pos ⟨k1, by rw [r1]; simp⟩, q, hx, l2, if_pos ⟨by decide, k2, iI_in z0 (by omega) (by omega)⟩, iI_tn (by omega) (by omega)]
  rfl
/-- standsAsAlways -/
theorem M159L (hs : Sh m) {b : Nat} (b1 : b ≤ 100) : ∀ (r j : Nat) (m1 : mm_M), j + r = 100 → Upd m m1 (fun a k => if a = 322 ∧ b ≤ k ∧ k < b + j then iI 0 else mm_gI m a k) → ∃ m', mm_ev d 159 2 [some (.ref 316), some (.int (iI ((b : Int)))), some (.int (iI ((j : Int))))] [] m1 = some (some none, m') ∧ Upd m m' (fun a k => if a = 322 ∧ b ≤ k ∧ k < b + 100 then alN (k - b) else mm_gI m a k)
  | 0, j, m1, hj, u => by
    have hs1 := u.sh hs
    have e0 : ((b : Int) + 0).toNat = b := by omega
    have e1 : ((b : Int) + 1).toNat = b + 1 := by omega
    have e3 : ((b : Int) + 2 + 1).toNat = b + 3 := by omega
    have e4 : ((b : Int) + 4).toNat = b + 4 := by omega
    have e8 : ((b : Int) + 8).toNat = b + 8 := by omega
    have e9 : ((b : Int) + 9).toNat = b + 9 := by omega
    have e10 : ((b : Int) + 9 + 1).toNat = b + 10 := by omega
    refine ⟨mm_sI (mm_sI (mm_sI (mm_sI (mm_sI (mm_sI (mm_sI m1 322 b (iI 4)) 322 (b + 1) (iI 1)) 322 (b + 3) (iI 3)) 322 (b + 4) (iI 1)) 322 (b + 8) (iI 20)) 322 (b + 9) (iI (-1))) 322 (b + 10) (iI (-1)), ?_, ?_⟩
    · rw [sg_159_2, if_neg (by rw [iI_lt] <;> omega)]
      have f0 : Sh (mm_sI m1 322 b (iI 4)) := hs1
      refine (st1 (z := (b : Int) + 0) (by exact hs1) (iI_add _ _) (by omega) (by omega)).trans ?_
      rw [e0]
      refine (st1 (z := (b : Int) + 1) (by exact hs1) (iI_add _ _) (by omega) (by omega)).trans ?_
      rw [e1]
      refine (st1 (z := (b : Int) + 2 + 1) (by exact hs1) (by rw [iI_add, iI_add]) (by omega) (by omega)).trans ?_
      rw [e3]
      refine (st1 (z := (b : Int) + 4) (by exact hs1) (iI_add _ _) (by omega) (by omega)).trans ?_
      rw [e4]
      refine (st1 (z := (b : Int) + 8) (by exact hs1) (iI_add _ _) (by omega) (by omega)).trans ?_
      rw [e8]
      refine (st1 (z := (b : Int) + 9) (by exact hs1) (iI_add _ _) (by omega) (by omega)).trans ?_
      rw [e9]
      refine (st1 (z := (b : Int) + 9 + 1) (by exact hs1) (by rw [iI_add, iI_add]) (by omega) (by omega)).trans ?_
      rw [e10]
    · refine (((((((u.tr Upd.sI).tr Upd.sI).tr Upd.sI).tr Upd.sI).tr Upd.sI).tr Upd.sI).tr Upd.sI).cg (fun a k => ?_)
      unfold up
      simp only [gI_sI, u.2.2.2.2]
      unfold alN
      by_cases y : a = 322 ∧ b ≤ k ∧ k < b + 100
      · obtain ⟨y0, y1, y2⟩ := y
        subst y0
        rw [if_pos (show 322 = 322 ∧ b ≤ k ∧ k < b + 100 from ⟨rfl, y1, y2⟩), if_pos (show 322 = 322 ∧ b ≤ k ∧ k < b + j from ⟨rfl, y1, by omega⟩)]
        obtain ⟨q, rfl⟩ := Nat.exists_eq_add_of_le y1
        simp only [true_and, Nat.add_sub_cancel_left]
        by_cases q10 : q = 10
        · subst q10; simp
        · rw [if_neg (by omega)]
          by_cases q9 : q = 9
          · subst q9; simp
          · rw [if_neg (by omega)]
            by_cases q8 : q = 8
            · subst q8; simp
            · rw [if_neg (by omega)]
              by_cases q4 : q = 4
              · subst q4; simp
              · rw [if_neg (by omega)]
                by_cases q3 : q = 3
                · subst q3; simp
                · rw [if_neg (by omega)]
                  by_cases q1 : q = 1
                  · subst q1; simp
                  · rw [if_neg (by omega)]
                    by_cases q0 : q = 0
                    · subst q0; simp
                    · rw [if_neg (by omega), if_neg q0, if_neg q1, if_neg q3, if_neg q4, if_neg q8, if_neg q9, if_neg q10]
      · rw [if_neg y, if_neg (by omega), if_neg (by omega), if_neg (by omega), if_neg (by omega), if_neg (by omega), if_neg (by omega), if_neg (by omega), if_neg (by omega)]
  | r + 1, j, m1, hj, u => by
    have hs1 := u.sh hs
    have u2 : Upd m (mm_sI m1 322 (b + j) (iI 0)) (fun a k => if a = 322 ∧ b ≤ k ∧ k < b + (j + 1) then iI 0 else mm_gI m a k) := (u.tr Upd.sI).cg (fun a k => by
      unfold up
      rw [u.2.2.2.2]
      dsimp only
      by_cases y : a = 322 ∧ k = b + j
      · rw [if_pos y, if_pos (by omega)]
      · rw [if_neg y]
        by_cases y2 : a = 322 ∧ b ≤ k ∧ k < b + j
        · rw [if_pos y2, if_pos (by omega)]
        · rw [if_neg y2, if_neg (by omega)])
    obtain ⟨m', e, u3⟩ := M159L hs b1 r (j + 1) _ (by omega) u2
    refine ⟨m', ?_, u3⟩
    rw [show ((j + 1 : Nat) : Int) = (j : Int) + 1 by omega] at e
    rw [sg_159_2]
    simp (disch := omega) only [shM hs1, ↓reduceIte, not_false_eq_true, not_true_eq_false, and_self, and_true, true_and, false_and, and_false, or_true, true_or, or_false, false_or, or_self, reduceCtorEq, mm_q, Option.getD_some, cI_some, cJ_some, cV_some, cS_some, kd_sI, kd_sL, kd_sR, kd_cp, ln_sI, ln_sL, ln_sR, ln_cp, gR_sI, gR_sL, gR_sR, gR_cp, gL_sI, gL_sR, gL_cp, gI_sL, gI_sR, iI_add, iI_sub, iI_mul, iI_neg, iI_in, iI_tn, iI_lt, iI_eq, Nat.reduceLeDiff, Nat.reduceEqDiff, Nat.reduceAdd, Int.reduceEq, Int.reduceLT, Int.reduceLE, Int.reduceNeg, Int.reduceAdd, Int.reduceSub, Int.reduceMul, show (j : Int) < 100 by omega, show ((b : Int) + (j : Int)).toNat = b + j by omega]
    exact e
theorem M159 (hs : Sh m) {b : Nat} (b1 : b ≤ 100) : ∃ m', mm_ev d 159 0 [some (.ref 316), some (.int (iI ((b : Int)))), none] [] m = some (some none, m') ∧ Upd m m' (fun a k => if a = 322 ∧ b ≤ k ∧ k < b + 100 then alN (k - b) else mm_gI m a k) := by
  obtain ⟨m', e, u⟩ := M159L (d := d) hs b1 100 0 m (by omega) (Upd.rf.cg (fun a k => by rw [if_neg (by omega)]))
  exact ⟨m', by rw [sg_159_0]; exact e, u⟩
theorem tn_v {lo hi : Int} : (tnS T lo hi i f).1 = 0 ∨ (lo ≤ (tnS T lo hi i f).1 ∧ (tnS T lo hi i f).1 ≤ hi) := by
  unfold tnS
  split
  · split
    · split
      · exact Or.inl rfl
      · split
        · exact Or.inl rfl
        · exact Or.inr ⟨by dsimp only; omega, by dsimp only; omega⟩
    · exact Or.inl rfl
  · exact Or.inl rfl
theorem ta_v {w lo hi : Int} : (taS T w lo hi i f).1 = 0 ∨ (lo ≤ (taS T w lo hi i f).1 ∧ (taS T w lo hi i f).1 ≤ hi) := by
  unfold taS
  exact tn_v
theorem st_a (j : Int) : st alX j = (alN j.toNat).toInt := by unfold st alX; rw [if_pos rfl]
def gR0 (v : Int) : Prop := 0 ≤ v ∧ v ≤ 1000
theorem grX_o {x y : Nat} (h : ¬ x = 322) : grX v1 v2 v3 v4 v5 x y = iI 0 := by
  unfold grX up alX
  rw [if_neg (by omega), if_neg (by omega), if_neg (by omega), if_neg (by omega), if_neg (by omega), if_neg h]
theorem grX_st (h1 : gR0 v1) (h2 : gR0 v2) (h3 : gR0 v3) (h4 : gR0 v4) (h5 : gR0 v5) (j : Int) : st (grX v1 v2 v3 v4 v5) j = if j.toNat = 4 then v5 else if j.toNat = 3 then v4 else if j.toNat = 2 then v3 else if j.toNat = 1 then v2 else if j.toNat = 0 then v1 else (alN j.toNat).toInt := by
  unfold gR0 at *
  unfold grX
  rw [st_u, st_u, st_u, st_u, st_u, st_a, iI_val (by omega) (by omega), iI_val (by omega) (by omega), iI_val (by omega) (by omega), iI_val (by omega) (by omega), iI_val (by omega) (by omega)]
  rfl
/-- the ground, read by the model -/
theorem Mground (hT : TS D n T N) (hE : EK E) (hP : PF D E T N 0 0 m) (hd : 10 ≤ d) {a1 a2 a3 a4 a5 : Int × Int × Int} {t6 : Int × Int} (h1 : a1 = taS T 0 4 40 0 0) (h2 : a2 = taS T 1 1 4 a1.2.1 a1.2.2) (h3 : a3 = taS T 2 0 (a1.1 - 1) a2.2.1 a2.2.2) (h4 : a4 = taS T 3 a3.1 (a1.1 - 1) a3.2.1 a3.2.2) (h5 : a5 = taS T 4 0 a2.1 a4.2.1 a4.2.2) (h6 : t6 = twS T 59 a5.2.1 a5.2.2) : ∃ m', mm_ev d 163 9 [some (.ref 316), none] [] m = mm_ev d 163 139 [some (.ref 316), none] [] m' ∧ PF D E T N t6.1 t6.2 m' ∧ DM (grX a1.1 a2.1 a3.1 a4.1 a5.1) Y m' ∧ Fr scM m m' := by
  have r1 := ta_v (T := T) (i := 0) (f := 0) (w := 0) (lo := 4) (hi := 40)
  rw [← h1] at r1
  have r2 := ta_v (T := T) (i := a1.2.1) (f := a1.2.2) (w := 1) (lo := 1) (hi := 4)
  rw [← h2] at r2
  have r3 := ta_v (T := T) (i := a2.2.1) (f := a2.2.2) (w := 2) (lo := 0) (hi := a1.1 - 1)
  rw [← h3] at r3
  have hs := hP.1.1
  have g0 : Fr scM m (mm_sI (mm_sI (mm_sI m 316 13 (iI 0)) 316 19 (iI 0)) 316 20 (iI 0)) := ((Fr.sI (scM_t (by omega))).tr (Fr.sI (scM_t (by omega)))).tr (Fr.sI (scM_t (by omega)))
  obtain ⟨n1, e1, u1⟩ := M159 (d := d - 1) (b := 100) (g0.sh hs) (by omega)
  have g1 : Fr scM m n1 := g0.tr (u1.fr (fun a k z => by
    rw [if_neg (fun q => by rw [scM_t (a := a) (k := k) (by omega)] at z; cases z)]))
  have k1 : PF D E T N 0 0 n1 := by
    refine ⟨hP.1.fr g1, fun k k0 k1 => ?_, ?_, ?_, hP.2.2.2.2⟩
    · obtain ⟨q1, q2, q3⟩ := hP.2.1 k k0 k1
      refine ⟨?_, ?_, fun y => ?_⟩
      · rw [u1.2.2.2.2]; dsimp only; rw [if_neg (by omega)]; exact q1
      · rw [u1.2.2.2.2]; dsimp only; rw [if_neg (by omega)]; exact q2
      · rw [u1.2.2.2.1]; exact q3 y
    · rw [u1.2.2.2.2]; dsimp only; rw [if_neg (by omega)]; exact hP.2.2.1
    · rw [u1.2.2.2.2]; dsimp only; rw [if_neg (by omega)]; exact hP.2.2.2.1
  have d1 : DM alX Y n1 := by
    refine ⟨fun k hk => ?_, ⟨?_, ?_, ?_⟩, fun k hk => ?_, fun k hk => ?_⟩
    · rw [u1.2.2.2.2]; dsimp only; rw [if_pos (by omega)]; unfold alX; rw [if_pos rfl, show 100 + k - 100 = k by omega]
    · rw [u1.2.2.2.2]; dsimp only; rw [if_neg (by omega)]; rfl
    · rw [u1.2.2.2.2]; dsimp only; rw [if_neg (by omega)]; rfl
    · rw [u1.2.2.2.2]; dsimp only; rw [if_neg (by omega)]; rfl
    · have : cdX alX = 0 := rfl
      omega
    · have : rmX alX = 0 := rfl
      omega
  obtain ⟨n2, e2, k2, g2⟩ := M169 (d := d - 1) hT hE k1 (by omega) (w := 0) (by omega) (by omega)
  obtain ⟨n3, e3, k3, g3⟩ := M173 (d := d - 1) hT k2 (by omega) (lo := 4) (hi := 40) (by omega) (by omega) (by omega) (by omega)
  rw [show tnS T 4 40 (twS T 0 0 0).1 (twS T 0 0 0).2 = a1 from h1.symm] at e3 k3
  have k3' := k3.w (j := 100) (v := iI a1.1) (by omega)
  have d3 := ((d1.at g2).at g3).w (j := 100) (v := iI a1.1) (by omega) (by omega)
  obtain ⟨n4, e4, k4, g4⟩ := M174 (d := d - 1) hT hE k3' (by omega) (w := 1) (lo := 1) (hi := 4) (by omega) (by omega) (by omega) (by omega) (by omega) (by omega)
  rw [← h2] at e4 k4
  have k4' := k4.w (j := 101) (v := iI a2.1) (by omega)
  have d4 := (d3.at g4).w (j := 101) (v := iI a2.1) (by omega) (by omega)
  have s4 : mm_gI (mm_sI n4 322 (101 : Int).toNat (iI a2.1)) 322 (100 : Int).toNat = iI a1.1 := by
    rw [gI_sI, if_neg (by omega), g4.gI (scAt_o (by omega)), gI_sI, if_pos ⟨rfl, rfl⟩]
  obtain ⟨n5, e5, k5, g5⟩ := M174 (d := d - 1) hT hE k4' (by omega) (w := 2) (lo := 0) (hi := a1.1 - 1) (by omega) (by omega) (by omega) (by omega) (by omega) (by omega)
  rw [← h3] at e5 k5
  have k5' := k5.w (j := 102) (v := iI a3.1) (by omega)
  have d5 := (d4.at g5).w (j := 102) (v := iI a3.1) (by omega) (by omega)
  have s5 : mm_gI (mm_sI n5 322 (102 : Int).toNat (iI a3.1)) 322 (100 : Int).toNat = iI a1.1 ∧ mm_gI (mm_sI n5 322 (102 : Int).toNat (iI a3.1)) 322 (102 : Int).toNat = iI a3.1 := by
    constructor
    · rw [gI_sI, if_neg (by omega), g5.gI (scAt_o (by omega))]; exact s4
    · rw [gI_sI, if_pos ⟨rfl, rfl⟩]
  obtain ⟨n6, e6, k6, g6⟩ := M174 (d := d - 1) hT hE k5' (by omega) (w := 3) (lo := a3.1) (hi := a1.1 - 1) (by omega) (by omega) (by omega) (by omega) (by omega) (by omega)
  rw [← h4] at e6 k6
  have k6' := k6.w (j := 103) (v := iI a4.1) (by omega)
  have d6 := (d5.at g6).w (j := 103) (v := iI a4.1) (by omega) (by omega)
  have s6 : mm_gI (mm_sI n6 322 (103 : Int).toNat (iI a4.1)) 322 (101 : Int).toNat = iI a2.1 := by
    rw [gI_sI, if_neg (by omega), g6.gI (scAt_o (by omega)), gI_sI, if_neg (by omega), g5.gI (scAt_o (by omega)), gI_sI, if_pos ⟨rfl, rfl⟩]
  obtain ⟨n7, e7, k7, g7⟩ := M174 (d := d - 1) hT hE k6' (by omega) (w := 4) (lo := 0) (hi := a2.1) (by omega) (by omega) (by omega) (by omega) (by omega) (by omega)
  rw [← h5] at e7 k7
  have k7' := k7.w (j := 104) (v := iI a5.1) (by omega)
  have d7 := (d6.at g7).w (j := 104) (v := iI a5.1) (by omega) (by omega)
  obtain ⟨n8, e8, k8, g8⟩ := M175 (d := d - 1) hT k7' (by omega) g59
  rw [← h6] at k8
  have e1' : mm_ev (d - 1) 159 0 [some (.ref 316), some (.int (iI 100)), none] [] (mm_sI (mm_sI (mm_sI m 316 13 (iI 0)) 316 19 (iI 0)) 316 20 (iI 0)) = some (some none, n1) := e1
  refine ⟨n8, ?_, k8, d7.at g8, ?_⟩
  · rw [sg_163_9 (by omega)]
    simp (disch := omega) only [shM hs, shM k1.1.1, ↓reduceIte, not_false_eq_true, not_true_eq_false, and_self, and_true, true_and, false_and, and_false, or_true, true_or, or_false, false_or, or_self, reduceCtorEq, mm_q, Option.getD_some, cI_some, cJ_some, cV_some, cS_some, kd_sI, kd_sL, kd_sR, kd_cp, ln_sI, ln_sL, ln_sR, ln_cp, gR_sI, gR_sL, gR_sR, gR_cp, gL_sI, gL_sR, gL_cp, gI_sL, gI_sR, iI_add, iI_sub, iI_mul, iI_neg, iI_in, iI_tn, iI_lt, iI_eq, Nat.reduceLeDiff, Nat.reduceEqDiff, Nat.reduceAdd, Int.reduceEq, Int.reduceLT, Int.reduceLE, Int.reduceNeg, Int.reduceAdd, Int.reduceSub, Int.reduceMul, e1', e2]
    rw [sg_163_35 (by omega)]
    simp (disch := omega) only [shM k2.1.1, ↓reduceIte, not_false_eq_true, not_true_eq_false, and_self, and_true, true_and, false_and, and_false, or_true, true_or, or_false, false_or, or_self, reduceCtorEq, mm_q, Option.getD_some, cI_some, cJ_some, cV_some, cS_some, kd_sI, kd_sL, kd_sR, kd_cp, ln_sI, ln_sL, ln_sR, ln_cp, gR_sI, gR_sL, gR_sR, gR_cp, gL_sI, gL_sR, gL_cp, gI_sL, gI_sR, iI_add, iI_sub, iI_mul, iI_neg, iI_in, iI_tn, iI_lt, iI_eq, Nat.reduceLeDiff, Nat.reduceEqDiff, Nat.reduceAdd, Int.reduceEq, Int.reduceLT, Int.reduceLE, Int.reduceNeg, Int.reduceAdd, Int.reduceSub, Int.reduceMul, e3]
    rw [sg_163_48 (by omega)]
    simp (disch := omega) only [shM k3.1.1, shM k3'.1.1, ↓reduceIte, not_false_eq_true, not_true_eq_false, and_self, and_true, true_and, false_and, and_false, or_true, true_or, or_false, false_or, or_self, reduceCtorEq, mm_q, Option.getD_some, cI_some, cJ_some, cV_some, cS_some, kd_sI, kd_sL, kd_sR, kd_cp, ln_sI, ln_sL, ln_sR, ln_cp, gR_sI, gR_sL, gR_sR, gR_cp, gL_sI, gL_sR, gL_cp, gI_sL, gI_sR, iI_add, iI_sub, iI_mul, iI_neg, iI_in, iI_tn, iI_lt, iI_eq, Nat.reduceLeDiff, Nat.reduceEqDiff, Nat.reduceAdd, Int.reduceEq, Int.reduceLT, Int.reduceLE, Int.reduceNeg, Int.reduceAdd, Int.reduceSub, Int.reduceMul, e4]
    rw [sg_163_62 (by omega)]
    simp (disch := omega) only [shM k4.1.1, shM k4'.1.1, ↓reduceIte, not_false_eq_true, not_true_eq_false, and_self, and_true, true_and, false_and, and_false, or_true, true_or, or_false, false_or, or_self, reduceCtorEq, mm_q, Option.getD_some, cI_some, cJ_some, cV_some, cS_some, kd_sI, kd_sL, kd_sR, kd_cp, ln_sI, ln_sL, ln_sR, ln_cp, gR_sI, gR_sL, gR_sR, gR_cp, gL_sI, gL_sR, gL_cp, gI_sL, gI_sR, iI_add, iI_sub, iI_mul, iI_neg, iI_in, iI_tn, iI_lt, iI_eq, Nat.reduceLeDiff, Nat.reduceEqDiff, Nat.reduceAdd, Int.reduceEq, Int.reduceLT, Int.reduceLE, Int.reduceNeg, Int.reduceAdd, Int.reduceSub, Int.reduceMul, s4, e5]
    rw [sg_163_84 (by omega)]
    simp (disch := omega) only [shM k5.1.1, shM k5'.1.1, ↓reduceIte, not_false_eq_true, not_true_eq_false, and_self, and_true, true_and, false_and, and_false, or_true, true_or, or_false, false_or, or_self, reduceCtorEq, mm_q, Option.getD_some, cI_some, cJ_some, cV_some, cS_some, kd_sI, kd_sL, kd_sR, kd_cp, ln_sI, ln_sL, ln_sR, ln_cp, gR_sI, gR_sL, gR_sR, gR_cp, gL_sI, gL_sR, gL_cp, gI_sL, gI_sR, iI_add, iI_sub, iI_mul, iI_neg, iI_in, iI_tn, iI_lt, iI_eq, Nat.reduceLeDiff, Nat.reduceEqDiff, Nat.reduceAdd, Int.reduceEq, Int.reduceLT, Int.reduceLE, Int.reduceNeg, Int.reduceAdd, Int.reduceSub, Int.reduceMul, s5.1, s5.2, e6]
    rw [sg_163_112 (by omega)]
    simp (disch := omega) only [shM k6.1.1, shM k6'.1.1, ↓reduceIte, not_false_eq_true, not_true_eq_false, and_self, and_true, true_and, false_and, and_false, or_true, true_or, or_false, false_or, or_self, reduceCtorEq, mm_q, Option.getD_some, cI_some, cJ_some, cV_some, cS_some, kd_sI, kd_sL, kd_sR, kd_cp, ln_sI, ln_sL, ln_sR, ln_cp, gR_sI, gR_sL, gR_sR, gR_cp, gL_sI, gL_sR, gL_cp, gI_sL, gI_sR, iI_add, iI_sub, iI_mul, iI_neg, iI_in, iI_tn, iI_lt, iI_eq, Nat.reduceLeDiff, Nat.reduceEqDiff, Nat.reduceAdd, Int.reduceEq, Int.reduceLT, Int.reduceLE, Int.reduceNeg, Int.reduceAdd, Int.reduceSub, Int.reduceMul, s6, e7]
    rw [sg_163_132 (by omega)]
    simp (disch := omega) only [shM k7.1.1, shM k7'.1.1, ↓reduceIte, not_false_eq_true, not_true_eq_false, and_self, and_true, true_and, false_and, and_false, or_true, true_or, or_false, false_or, or_self, reduceCtorEq, mm_q, Option.getD_some, cI_some, cJ_some, cV_some, cS_some, kd_sI, kd_sL, kd_sR, kd_cp, ln_sI, ln_sL, ln_sR, ln_cp, gR_sI, gR_sL, gR_sR, gR_cp, gL_sI, gL_sR, gL_cp, gI_sL, gI_sR, iI_add, iI_sub, iI_mul, iI_neg, iI_in, iI_tn, iI_lt, iI_eq, Nat.reduceLeDiff, Nat.reduceEqDiff, Nat.reduceAdd, Int.reduceEq, Int.reduceLT, Int.reduceLE, Int.reduceNeg, Int.reduceAdd, Int.reduceSub, Int.reduceMul, e8]
  · exact ((((((((((((g1.tr g2.AtM).tr g3.AtM).tr (Fr.s322 (by omega))).tr g4.AtM).tr (Fr.s322 (by omega))).tr g5.AtM).tr (Fr.s322 (by omega))).tr g6.AtM).tr (Fr.s322 (by omega))).tr g7.AtM).tr (Fr.s322 (by omega))).tr g8.AtM)
end
