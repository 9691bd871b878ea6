/-- the street that is read: codes, names, round told -/
def cdX (X : Nat → Nat → Int32) : Int := (X 316 13).toInt
def rmX (X : Nat → Nat → Int32) : Int := (X 316 19).toInt
def hrX (X : Nat → Nat → Int32) : Int := (X 316 20).toInt
/-- as the model holds it -/
def DM (X : Nat → Nat → Int32) (Y : Nat → Int64) (m : mm_M) : Prop := (∀ k : Nat, k < 100 → mm_gI m 322 (100 + k) = X 322 k) ∧ (mm_gI m 316 13 = X 316 13 ∧ mm_gI m 316 19 = X 316 19 ∧ mm_gI m 316 20 = X 316 20) ∧ (∀ k : Nat, (k : Int) < cdX X → mm_gI m 323 (1100 + k) = X 323 k ∧ mm_gI m 324 (1100 + k) = X 324 k) ∧ NMm Y (X 327) (rmX X) 326 328 m
/-- the names of facts -/
def FN (c : mm_M) : Prop := ∀ s, isSt s → mm_gL c (s + 7) 0 = kcL 30 ∧ mm_gL c (s + 7) 1 = kcL 31 ∧ mm_gL c (s + 10) 0 = kcL 32 ∧ mm_gL c (s + 10) 1 = kcL 33
/-- as the class holds it -/
def DC (X : Nat → Nat → Int32) (Y : Nat → Int64) (c : mm_M) (s : Nat) : Prop := RSt X c s ∧ mm_gI c s 6 = iI (hrX X) ∧ mm_gI c (s + 7) 5 = iI (bI (decide (0 ≤ st X 9))) ∧ mm_gI c (s + 10) 5 = iI (bI (decide (0 ≤ st X 10))) ∧ NR Y (X 327) (rmX X) (st X 5) (st X 6) s c
def LwX (X : Nat → Nat → Int32) : Prop := (0 ≤ st X 9 → ∃ e, st X 9 ≤ e ∧ e < cdX X ∧ opS X e = 0) ∧ (0 ≤ st X 10 → ∃ e, st X 10 ≤ e ∧ e < cdX X ∧ opS X e = 0)
def LX (X : Nat → Nat → Int32) (i : Int) : Prop := InvS X ∧ InvL X ∧ LwX X ∧ (0 ≤ cdX X ∧ cdX X ≤ i) ∧ (hrX X = 0 ∨ hrX X = 1) ∧ (∀ k : Nat, (k : Int) < rmX X → (0 ≤ (X 327 k).toInt ∧ (X 327 k).toInt < st X 5) ∨ (20 ≤ (X 327 k).toInt ∧ (X 327 k).toInt < 20 + st X 6)) ∧ rmX X = st X 5 + st X 6
def lwN (s a k : Nat) : Bool := (Nat.beq a (s + 7) || Nat.beq a (s + 10)) && Nat.ble k 1
def scQs (s a k : Nat) : Bool := scBr a k || (Nat.ble s a && Nat.ble a (s + 20) && !lwN s a k)
def scN (a k : Nat) : Bool := scAt a k || Nat.beq a 326 || Nat.beq a 328 || (Nat.beq a 316 && Nat.beq k 19)
/-- a line, read by both -/
def LN (D : Nat → Nat → Int32) (E : Nat → Nat → Int64) (n : Int) (T : TK) (N : Int) (X : Nat → Nat → Int32) (Y : Nat → Int64) (i : Int) (jm : Nat) (Lm : mm_L) (jc : Nat) (Lc : Nat → mm_L) : Prop := ∃ (i' f' : Int) (X' : Nat → Nat → Int32) (Y' : Nat → Int64), (∀ (m : mm_M) (d : Nat), 60 ≤ d → PF D E T N i 0 m → DM X Y m → ∃ m', mm_ev d jm 0 Lm [] m = some (some none, m') ∧ PF D E T N i' f' m' ∧ (f' = 0 → DM X' Y' m') ∧ Fr scM m m') ∧ (∀ (c : mm_M) (d s : Nat), 60 ≤ d → CR D n T N i s c → DC X Y c s → FN c → ∃ c', mm_ev d jc 0 (Lc s) [] c = some (some (some (.int (iI (bI (decide (f' = 0)))))), c') ∧ Fr (scQs s) c c' ∧ (f' = 0 → CR D n T N i' s c' ∧ DC X' Y' c' s) ∧ (¬ f' = 0 → mm_gI c' 154 3 = iI f')) ∧ (f' = 0 → LX X' i' ∧ i < i')
section
variable {D : Nat → Nat → Int32} {E : Nat → Nat → Int64} {m m' c c' : mm_M} {d s : Nat} {n N i f : Int} {T : TK} {X X' : Nat → Nat → Int32} {Y : Nat → Int64}
theorem st_u {k : Nat} {v : Int32} {j : Int} : st (up X 322 k v) j = if j.toNat = k then v.toInt else st X j := by
  unfold st up
  by_cases z : j.toNat = k
  · rw [if_pos ⟨rfl, z⟩, if_pos z]
  · rw [if_neg (fun q => z q.2), if_neg z]
theorem st_o {a k : Nat} {v : Int32} (h : ¬ a = 322) : st (up X a k v) = st X := by
  funext j
  unfold st up
  rw [if_neg (fun q => h q.1.symm)]
theorem DM_st (h : DM X Y m) {j : Int} (j0 : 100 ≤ j) (j1 : j < 200) : mm_gI m 322 j.toNat = iI (st X (j - 100)) := by
  have := h.1 (j - 100).toNat (by omega)
  rw [show 100 + (j - 100).toNat = j.toNat by omega] at this
  rw [this]
  unfold st
  rw [iI_toInt]
theorem DM.w (h : DM X Y m) {j : Int} {v : Int32} (j0 : 100 ≤ j) (j1 : j < 200) : DM (up X 322 (j - 100).toNat v) Y (mm_sI m 322 j.toNat v) := by
  refine ⟨fun k hk => ?_, ?_, fun k hk => ?_, fun k hk => ?_⟩
  · rw [gI_sI]
    unfold up
    by_cases z : k = (j - 100).toNat
    · rw [if_pos ⟨rfl, by omega⟩, if_pos ⟨rfl, z⟩]
    · rw [if_neg (fun q => by omega), if_neg (fun q => z q.2)]
      exact h.1 k hk
  · refine ⟨?_, ?_, ?_⟩
    · rw [gI_sI, if_neg (by omega)]; unfold up; rw [if_neg (by omega)]; exact h.2.1.1
    · rw [gI_sI, if_neg (by omega)]; unfold up; rw [if_neg (by omega)]; exact h.2.1.2.1
    · rw [gI_sI, if_neg (by omega)]; unfold up; rw [if_neg (by omega)]; exact h.2.1.2.2
  · unfold cdX at hk
    unfold up at hk ⊢
    rw [if_neg (by omega)] at hk
    rw [gI_sI, if_neg (by omega), gI_sI, if_neg (by omega), if_neg (by omega), if_neg (by omega)]
    exact h.2.2.1 k hk
  · unfold rmX at hk
    unfold up at hk ⊢
    rw [if_neg (by omega)] at hk
    rw [gL_sI, gI_sI, if_neg (by omega), if_neg (by omega)]
    exact h.2.2.2 k hk
theorem DM.fr {P : Nat → Nat → Bool} (h : DM X Y m) (g : Fr P m m') (z : ∀ a k, (a = 322 ∧ 100 ≤ k) ∨ a = 323 ∨ a = 324 ∨ a = 326 ∨ a = 328 ∨ (a = 316 ∧ (k = 13 ∨ k = 19 ∨ k = 20)) → P a k = false) : DM X Y m' := ⟨fun k hk => (g.gI (z _ _ (by omega))).trans (h.1 k hk), ⟨(g.gI (z _ _ (by omega))).trans h.2.1.1, (g.gI (z _ _ (by omega))).trans h.2.1.2.1, (g.gI (z _ _ (by omega))).trans h.2.1.2.2⟩, fun k hk => ⟨(g.gI (z _ _ (by omega))).trans (h.2.2.1 k hk).1, (g.gI (z _ _ (by omega))).trans (h.2.2.1 k hk).2⟩, fun k hk => ⟨(g.gL (z _ _ (by omega))).trans (h.2.2.2 k hk).1, (g.gI (z _ _ (by omega))).trans (h.2.2.2 k hk).2⟩⟩
theorem nb {a x : Nat} (h : ¬ a = x) : Nat.beq a x = false := by
  cases e : Nat.beq a x
  · rfl
  · exact absurd (Nat.eq_of_beq_eq_true e) h
theorem nl {x y : Nat} (h : ¬ x ≤ y) : Nat.ble x y = false := by
  cases e : Nat.ble x y
  · rfl
  · exact absurd (Nat.ble_eq.mp e) h
theorem scAt_o {a k : Nat} (h : ¬ (a = 316 ∧ (k = 7 ∨ k = 8))) : scAt a k = false := by
  unfold scAt
  by_cases y : a = 316
  · rw [nb (show ¬ k = 7 by omega), nb (show ¬ k = 8 by omega)]
    simp
  · rw [nb y]
    rfl
theorem DM.at (h : DM X Y m) (g : Fr scAt m m') : DM X Y m' := h.fr g (fun a k z => scAt_o (by omega))
theorem scM_t {a k : Nat} (h : (a = 322 ∧ 100 ≤ k) ∨ (a = 323 ∧ 1100 ≤ k) ∨ (a = 324 ∧ 1100 ≤ k) ∨ a = 326 ∨ a = 328 ∨ a = 318 ∨ a = 319 ∨ a = 320 ∨ (a = 329 ∧ 100 ≤ k) ∨ (a = 316 ∧ (k = 13 ∨ k = 19 ∨ k = 20 ∨ k = 7 ∨ k = 8 ∨ k = 21 ∨ k = 0 ∨ k = 3))) : scM a k = true := by
  rcases h with ⟨rfl, h⟩ | ⟨rfl, h⟩ | ⟨rfl, h⟩ | rfl | rfl | rfl | rfl | rfl | ⟨rfl, h⟩ | ⟨rfl, h⟩
  · have : Nat.blt k 100 = false := nl (by omega)
    unfold scM pmI pmL
    rw [this]
    rfl
  · have : Nat.blt k 1100 = false := nl (by omega)
    unfold scM pmI pmL
    rw [this]
    rfl
  · have : Nat.blt k 1100 = false := nl (by omega)
    unfold scM pmI pmL
    rw [this]
    rfl
  · rfl
  · rfl
  · rfl
  · rfl
  · rfl
  · have : Nat.blt k 100 = false := nl (by omega)
    unfold scM pmI pmL
    rw [this]
    rfl
  · rcases h with rfl | rfl | rfl | rfl | rfl | rfl | rfl | rfl <;> rfl
theorem Fr.s322 {j : Int} {v : Int32} (j0 : 100 ≤ j) : Fr scM m (mm_sI m 322 j.toNat v) := Fr.sI (scM_t (by omega))
/-- the model reads on while other places change -/
theorem PF.o {P : Nat → Nat → Bool} (h : PF D E T N i f m) (g : Fr scM m m') (g2 : Fr P m m') (z : ∀ a k, a = 318 ∨ a = 319 ∨ a = 320 ∨ (a = 316 ∧ (k = 7 ∨ k = 8)) → P a k = false) : PF D E T N i f m' := ⟨h.1.fr g, h.2.1.fr g2 (fun a k y => z a k (by omega)), (g2.gI (z _ _ (by omega))).trans h.2.2.1, (g2.gI (z _ _ (by omega))).trans h.2.2.2.1, h.2.2.2.2⟩
def sc322 (a _k : Nat) : Bool := Nat.beq a 322
theorem PF.w (h : PF D E T N i f m) {j : Int} {v : Int32} (j0 : 100 ≤ j) : PF D E T N i f (mm_sI m 322 j.toNat v) := h.o (P := sc322) (Fr.s322 j0) (Fr.sI rfl) (fun a k y => nb (by omega))
theorem fd_b {W : Nat → Int32} {u : Int64} : ∀ r k : Nat, (∀ j, k ≤ j → j < k + r → 0 ≤ (W j).toInt ∧ (W j).toInt < 100) → -1 ≤ fdGo Y W u r k ∧ fdGo Y W u r k ≤ 100
  | 0, _, _ => by unfold fdGo; omega
  | r + 1, k, h => by
    unfold fdGo
    have := h k (by omega) (by omega)
    split
    · omega
    · exact fd_b r (k + 1) (fun j j0 j1 => h j (by omega) (by omega))
theorem LX.nm (h : LX X i) (k : Nat) (hk : (k : Int) < rmX X) : 0 ≤ (X 327 k).toInt ∧ (X 327 k).toInt < 100 := by
  have a := h.1.2.2.2.2.1
  have b := h.1.2.2.2.2.2.1
  rcases h.2.2.2.2.2.1 k hk with q | q <;> omega
theorem fd_e {W : Nat → Int32} {u : Int64} : ∀ r k : Nat, fdGo Y W u r k = -1 ∨ ∃ j, k ≤ j ∧ j < k + r ∧ fdGo Y W u r k = (W j).toInt
  | 0, _ => Or.inl rfl
  | r + 1, k => by
    unfold fdGo
    by_cases z : Y k = u
    · rw [if_pos z]
      exact Or.inr ⟨k, by omega, by omega, rfl⟩
    · rw [if_neg z]
      rcases fd_e r (k + 1) with q | ⟨j, j0, j1, j2⟩
      · exact Or.inl q
      · exact Or.inr ⟨j, by omega, by omega, j2⟩
/-- a name below 20 is a word's -/
theorem LX.fw (h : LX X i) (u : Int64) (q : 0 ≤ fdGo Y (X 327) u (rmX X).toNat 0) (q2 : fdGo Y (X 327) u (rmX X).toNat 0 < 20) : fdGo Y (X 327) u (rmX X).toNat 0 < st X 5 := by
  rcases fd_e (Y := Y) (W := X 327) (u := u) (rmX X).toNat 0 with y | ⟨j, j0, j1, j2⟩
  · omega
  · rcases h.2.2.2.2.2.1 j (by omega) with y | y <;> omega
/-- one from 20 on a walker's -/
theorem LX.fk (h : LX X i) (u : Int64) (q : 20 ≤ fdGo Y (X 327) u (rmX X).toNat 0) : fdGo Y (X 327) u (rmX X).toNat 0 < 20 + st X 6 := by
  have b := h.1.2.2.2.2.1
  rcases fd_e (Y := Y) (W := X 327) (u := u) (rmX X).toNat 0 with y | ⟨j, j0, j1, j2⟩
  · omega
  · rcases h.2.2.2.2.2.1 j (by omega) with y | y <;> omega
theorem LX.fd (h : LX X i) (u : Int64) : -1 ≤ fdGo Y (X 327) u (rmX X).toNat 0 ∧ fdGo Y (X 327) u (rmX X).toNat 0 ≤ 100 := fd_b _ _ (fun j j0 j1 => h.nm j (by omega))
/-- a name more -/
def upY (Y : Nat → Int64) (k : Nat) (v : Int64) : Nat → Int64 := fun j => if j = k then v else Y j
/-- readName -/
theorem M179 (hT : TS D n T N) (hE : EK E) (h : PF D E T N i 0 m) (hM : DM X Y m) (hX : LX X i) (iN : i < N) (r14 : rmX X < 14) (hd : 4 ≤ d) {w : Int} (w0 : 0 ≤ w) (w1 : w < 100) : ∃ m', mm_ev d 179 0 [some (.ref 316), some (.int (iI (w)))] [] m = some (some none, m') ∧ PF D E T N (rnS T Y (X 327) (rmX X) (i + 1)).1 (rnS T Y (X 327) (rmX X) (i + 1)).2 m' ∧ Fr scM m m' ∧ ((rnS T Y (X 327) (rmX X) (i + 1)).2 = 0 → DM (up (up X 327 (rmX X).toNat (iI w)) 316 19 (iI (rmX X + 1))) (upY Y (rmX X).toNat (tV T (i + 1))) m') ∧ (∀ k, mm_gI m' 322 k = mm_gI m 322 k) := by
  obtain ⟨i0, i1⟩ := h.2.2.2.2.1
  have h1 := h.at (j := i + 1) (by omega) (by omega)
  have hM1 := hM.at (m' := mm_sI m 316 7 (iI (i + 1))) Fr.at7
  have pr := (hT.k (i := i + 1) (by omega) (by omega)).1
  have fd := hX.fd (Y := Y) (tV T (i + 1))
  have hr := hX.2.2.2.2.2.2
  have b5 := hX.1.2.2.2.2.1
  have b6 := hX.1.2.2.2.2.2.1
  have e1 := M180 (d := d - 1) hT hE h1 (by omega)
  have hc : mm_gI (mm_sI m 316 7 (iI (i + 1))) 316 (if true = true then 19 else 18) = iI (rmX X) := by
    rw [if_pos rfl, hM1.2.1.2.1]
    unfold rmX
    rw [iI_toInt]
  have fin : ∀ {m2 : mm_M} {g : Int}, PF D E T N (i + 1) g m2 → 0 < g → mm_ev d 179 38 [some (.ref 316), some (.int (iI (w)))] [] m2 = some (some none, m2) := fun {m2 g} h2 g0 => by
    have := h2.2.2.2.2.2
    rw [sg_179_38]
    simp (disch := omega) only [shM h2.1.1, ↓reduceIte, not_false_eq_true, not_true_eq_false, and_self, and_true, true_and, false_and, and_false, or_true, true_or, or_false, false_or, or_self, reduceCtorEq, mm_q, Option.getD_some, cI_some, cJ_some, cV_some, cS_some, kd_sI, kd_sL, kd_sR, kd_cp, ln_sI, ln_sL, ln_sR, ln_cp, gR_sI, gR_sL, gR_sR, gR_cp, gL_sI, gL_sR, gL_cp, gI_sL, gI_sR, iI_add, iI_sub, iI_mul, iI_neg, iI_in, iI_tn, iI_lt, iI_eq, Nat.reduceLeDiff, Nat.reduceEqDiff, Nat.reduceAdd, Int.reduceEq, Int.reduceLT, Int.reduceLE, Int.reduceNeg, Int.reduceAdd, Int.reduceSub, Int.reduceMul, h2.2.2.2.1, show ¬ g = 0 by omega]
  rw [sg_179_0 (by omega)]
  unfold rnS
  by_cases z : ty T (i + 1) = 30
  · rw [decide_eq_true (by exact ⟨rfl, z⟩)] at e1
    have iN1 := hT.lt (i := i + 1) (by omega) (by omega) (by omega)
    have e2 := M182 (d := d - 1) (b := true) hT h1 iN1 hc (by omega) (by omega) hM1.2.2.2
    rw [if_pos z]
    generalize fdGo Y (X 327) (tV T (i + 1)) (rmX X).toNat 0 = y at fd e2 ⊢
    by_cases z2 : 0 ≤ y
    · rw [if_pos z2]
      obtain ⟨m2, e4, h2, f2⟩ := M172 (d := d - 1) hT h1 (k := 3) (by omega) (by omega)
      rw [if_pos rfl] at h2
      refine ⟨m2, ?_, h2, (Fr.at7.tr f2).AtM, fun q => by dsimp only at q; omega, fun k => (f2.gI rfl).trans rfl⟩
      simp (disch := omega) only [shM h.1.1, ↓reduceIte, not_false_eq_true, not_true_eq_false, and_self, and_true, true_and, false_and, and_false, or_true, true_or, or_false, false_or, or_self, reduceCtorEq, mm_q, Option.getD_some, cI_some, cJ_some, cV_some, cS_some, kd_sI, kd_sL, kd_sR, kd_cp, ln_sI, ln_sL, ln_sR, ln_cp, gR_sI, gR_sL, gR_sR, gR_cp, gL_sI, gL_sR, gL_cp, gI_sL, gI_sR, iI_add, iI_sub, iI_mul, iI_neg, iI_in, iI_tn, iI_lt, iI_eq, Nat.reduceLeDiff, Nat.reduceEqDiff, Nat.reduceAdd, Int.reduceEq, Int.reduceLT, Int.reduceLE, Int.reduceNeg, Int.reduceAdd, Int.reduceSub, Int.reduceMul, bI_t, bI_f, decide_true, decide_false, Bool.and_true, Bool.and_false, Bool.true_and, Bool.false_and, Bool.false_eq_true, Bool.and_self, Bool.not_true, Bool.not_false, Bool.true_or, Bool.false_or, Bool.or_true, Bool.or_false, h.2.2.1, e1]
      rw [sg_179_14 (by omega)]
      have e2' : mm_ev (d - 1) 182 0 [some (.ref 316), some (.int (iI 1)), none] [] (mm_sI m 316 7 (iI (i + 1))) = some (some (some (.int (iI y))), mm_sI m 316 7 (iI (i + 1))) := e2
      simp (disch := omega) only [shM h1.1.1, ↓reduceIte, not_false_eq_true, not_true_eq_false, and_self, and_true, true_and, false_and, and_false, or_true, true_or, or_false, false_or, or_self, reduceCtorEq, mm_q, Option.getD_some, cI_some, cJ_some, cV_some, cS_some, kd_sI, kd_sL, kd_sR, kd_cp, ln_sI, ln_sL, ln_sR, ln_cp, gR_sI, gR_sL, gR_sR, gR_cp, gL_sI, gL_sR, gL_cp, gI_sL, gI_sR, iI_add, iI_sub, iI_mul, iI_neg, iI_in, iI_tn, iI_lt, iI_eq, Nat.reduceLeDiff, Nat.reduceEqDiff, Nat.reduceAdd, Int.reduceEq, Int.reduceLT, Int.reduceLE, Int.reduceNeg, Int.reduceAdd, Int.reduceSub, Int.reduceMul, bI_t, bI_f, decide_true, decide_false, Bool.and_true, Bool.and_false, Bool.true_and, Bool.false_and, Bool.false_eq_true, Bool.and_self, Bool.not_true, Bool.not_false, Bool.true_or, Bool.false_or, Bool.or_true, Bool.or_false, e2', show ¬ y < 0 by omega, e4]
      exact fin h2 (by omega)
    · rw [if_neg z2]
      have n2 := hT.1
      have hv : mm_gL m 320 (i + 1).toNat = tV T (i + 1) := (h1.2.1 (i + 1) (by omega) (by omega)).2.2 iN1
      have g19 := hM1.2.1.2.1
      have g19' : mm_gI (mm_sI m 316 7 (iI (i + 1))) 316 19 = iI (rmX X) := by rw [g19]; unfold rmX; rw [iI_toInt]
      refine ⟨mm_sI (mm_sI (mm_sI (mm_sL (mm_sI m 316 7 (iI (i + 1))) 326 (rmX X).toNat (tV T (i + 1))) 328 (rmX X).toNat (iI w)) 316 19 (iI (rmX X + 1))) 316 7 (iI (i + 1 + 1)), ?_, ?_, ?_, fun _ => ?_, fun k => ?_⟩
      · simp (disch := omega) only [shM h.1.1, ↓reduceIte, not_false_eq_true, not_true_eq_false, and_self, and_true, true_and, false_and, and_false, or_true, true_or, or_false, false_or, or_self, reduceCtorEq, mm_q, Option.getD_some, cI_some, cJ_some, cV_some, cS_some, kd_sI, kd_sL, kd_sR, kd_cp, ln_sI, ln_sL, ln_sR, ln_cp, gR_sI, gR_sL, gR_sR, gR_cp, gL_sI, gL_sR, gL_cp, gI_sL, gI_sR, iI_add, iI_sub, iI_mul, iI_neg, iI_in, iI_tn, iI_lt, iI_eq, Nat.reduceLeDiff, Nat.reduceEqDiff, Nat.reduceAdd, Int.reduceEq, Int.reduceLT, Int.reduceLE, Int.reduceNeg, Int.reduceAdd, Int.reduceSub, Int.reduceMul, bI_t, bI_f, decide_true, decide_false, Bool.and_true, Bool.and_false, Bool.true_and, Bool.false_and, Bool.false_eq_true, Bool.and_self, Bool.not_true, Bool.not_false, Bool.true_or, Bool.false_or, Bool.or_true, Bool.or_false, h.2.2.1, e1]
        rw [sg_179_14 (by omega)]
        have e2' : mm_ev (d - 1) 182 0 [some (.ref 316), some (.int (iI 1)), none] [] (mm_sI m 316 7 (iI (i + 1))) = some (some (some (.int (iI y))), mm_sI m 316 7 (iI (i + 1))) := e2
        simp (disch := omega) only [shM h1.1.1, ↓reduceIte, not_false_eq_true, not_true_eq_false, and_self, and_true, true_and, false_and, and_false, or_true, true_or, or_false, false_or, or_self, reduceCtorEq, mm_q, Option.getD_some, cI_some, cJ_some, cV_some, cS_some, kd_sI, kd_sL, kd_sR, kd_cp, ln_sI, ln_sL, ln_sR, ln_cp, gR_sI, gR_sL, gR_sR, gR_cp, gL_sI, gL_sR, gL_cp, gI_sL, gI_sR, iI_add, iI_sub, iI_mul, iI_neg, iI_in, iI_tn, iI_lt, iI_eq, Nat.reduceLeDiff, Nat.reduceEqDiff, Nat.reduceAdd, Int.reduceEq, Int.reduceLT, Int.reduceLE, Int.reduceNeg, Int.reduceAdd, Int.reduceSub, Int.reduceMul, bI_t, bI_f, decide_true, decide_false, Bool.and_true, Bool.and_false, Bool.true_and, Bool.false_and, Bool.false_eq_true, Bool.and_self, Bool.not_true, Bool.not_false, Bool.true_or, Bool.false_or, Bool.or_true, Bool.or_false, e2', show y < 0 by omega]
        rw [sg_179_38]
        have k7 : mm_gI (mm_sI m 316 7 (iI (i + 1))) 316 7 = iI (i + 1) := h1.2.2.1
        simp (disch := omega) only [shM h1.1.1, ↓reduceIte, not_false_eq_true, not_true_eq_false, and_self, and_true, true_and, false_and, and_false, or_true, true_or, or_false, false_or, or_self, reduceCtorEq, mm_q, Option.getD_some, cI_some, cJ_some, cV_some, cS_some, kd_sI, kd_sL, kd_sR, kd_cp, ln_sI, ln_sL, ln_sR, ln_cp, gR_sI, gR_sL, gR_sR, gR_cp, gL_sI, gL_sR, gL_cp, gI_sL, gI_sR, iI_add, iI_sub, iI_mul, iI_neg, iI_in, iI_tn, iI_lt, iI_eq, Nat.reduceLeDiff, Nat.reduceEqDiff, Nat.reduceAdd, Int.reduceEq, Int.reduceLT, Int.reduceLE, Int.reduceNeg, Int.reduceAdd, Int.reduceSub, Int.reduceMul, h1.2.2.2.1, g19', hv, k7, gI_sI]
      · refine ⟨(h1.1.fr ?_), ?_, by simp [gI_sI], ?_, ⟨by first | omega | (dsimp only; omega), by first | omega | (dsimp only; omega)⟩, by first | omega | (dsimp only; omega)⟩
        · exact ((((Fr.sL (scM_t (by omega))).tr (Fr.sI (scM_t (by omega)))).tr (Fr.sI (scM_t (by omega)))).tr (Fr.sI (scM_t (by omega))))
        · intro k k0 k1
          obtain ⟨q1, q2, q3⟩ := h1.2.1 k k0 k1
          exact ⟨q1, q2, q3⟩
        · exact h1.2.2.2.1
      · exact ((((Fr.at7.AtM).tr (Fr.sL (scM_t (by omega)))).tr (Fr.sI (scM_t (by omega)))).tr (Fr.sI (scM_t (by omega)))).tr (Fr.sI (scM_t (by omega)))
      · have eX : ∀ a k, ¬ a = 327 → ¬ (a = 316 ∧ k = 19) → up (up X 327 (rmX X).toNat (iI w)) 316 19 (iI (rmX X + 1)) a k = X a k := fun a k q1 q2 => by
          unfold up; rw [if_neg (by omega), if_neg (by omega)]
        have er : rmX (up (up X 327 (rmX X).toNat (iI w)) 316 19 (iI (rmX X + 1))) = rmX X + 1 := by
          show ((up (up X 327 (rmX X).toNat (iI w)) 316 19 (iI (rmX X + 1))) 316 19).toInt = _
          unfold up
          rw [if_pos ⟨rfl, rfl⟩, iI_val (by omega) (by omega)]
        refine ⟨fun k hk => ?_, ⟨?_, ?_, ?_⟩, fun k hk => ?_, fun k hk => ?_⟩
        · rw [eX _ _ (by omega) (by omega)]; exact hM1.1 k hk
        · rw [eX _ _ (by omega) (by omega)]; exact hM1.2.1.1
        · unfold up; rw [if_pos ⟨rfl, rfl⟩]; simp [gI_sI]
        · rw [eX _ _ (by omega) (by omega)]; exact hM1.2.1.2.2
        · rw [eX _ _ (by omega) (by omega), eX _ _ (by omega) (by omega)]
          unfold cdX at hk
          rw [eX _ _ (by omega) (by omega)] at hk
          exact hM1.2.2.1 k hk
        · rw [er] at hk
          unfold upY up
          by_cases y9 : k = (rmX X).toNat
          · rw [if_pos y9, if_neg (by omega), if_pos ⟨rfl, y9⟩, y9]
            constructor
            · simp [gL_sI, gL_sL]
            · simp [gI_sI, gI_sL]
          · have := hM1.2.2.2 k (by omega)
            rw [if_neg y9, if_neg (by omega), if_neg (by omega), ← this.1, ← this.2]
            constructor
            · simp [gL_sI, gL_sL, y9]
            · simp [gI_sI, gI_sL, y9]
      · simp [gI_sI, gI_sL]
  · rw [decide_eq_false (by exact fun q => z q.2)] at e1
    rw [if_neg z]
    obtain ⟨m2, e4, h2, f2⟩ := M172 (d := d - 1) hT h1 (k := 1) (by omega) (by omega)
    rw [if_pos rfl] at h2
    refine ⟨m2, ?_, h2, (Fr.at7.tr f2).AtM, fun q => by dsimp only at q; omega, fun k => (f2.gI rfl).trans rfl⟩
    simp (disch := omega) only [shM h.1.1, ↓reduceIte, not_false_eq_true, not_true_eq_false, and_self, and_true, true_and, false_and, and_false, or_true, true_or, or_false, false_or, or_self, reduceCtorEq, mm_q, Option.getD_some, cI_some, cJ_some, cV_some, cS_some, kd_sI, kd_sL, kd_sR, kd_cp, ln_sI, ln_sL, ln_sR, ln_cp, gR_sI, gR_sL, gR_sR, gR_cp, gL_sI, gL_sR, gL_cp, gI_sL, gI_sR, iI_add, iI_sub, iI_mul, iI_neg, iI_in, iI_tn, iI_lt, iI_eq, Nat.reduceLeDiff, Nat.reduceEqDiff, Nat.reduceAdd, Int.reduceEq, Int.reduceLT, Int.reduceLE, Int.reduceNeg, Int.reduceAdd, Int.reduceSub, Int.reduceMul, bI_t, bI_f, decide_true, decide_false, Bool.and_true, Bool.and_false, Bool.true_and, Bool.false_and, Bool.false_eq_true, Bool.and_self, Bool.not_true, Bool.not_false, Bool.true_or, Bool.false_or, Bool.or_true, Bool.or_false, h.2.2.1, e1]
    rw [sg_179_14 (by omega)]
    simp (disch := omega) only [shM h1.1.1, ↓reduceIte, not_false_eq_true, not_true_eq_false, and_self, and_true, true_and, false_and, and_false, or_true, true_or, or_false, false_or, or_self, reduceCtorEq, mm_q, Option.getD_some, cI_some, cJ_some, cV_some, cS_some, kd_sI, kd_sL, kd_sR, kd_cp, ln_sI, ln_sL, ln_sR, ln_cp, gR_sI, gR_sL, gR_sR, gR_cp, gL_sI, gL_sR, gL_cp, gI_sL, gI_sR, iI_add, iI_sub, iI_mul, iI_neg, iI_in, iI_tn, iI_lt, iI_eq, Nat.reduceLeDiff, Nat.reduceEqDiff, Nat.reduceAdd, Int.reduceEq, Int.reduceLT, Int.reduceLE, Int.reduceNeg, Int.reduceAdd, Int.reduceSub, Int.reduceMul, bI_t, bI_f, decide_true, decide_false, Bool.and_true, Bool.and_false, Bool.true_and, Bool.false_and, Bool.false_eq_true, Bool.and_self, Bool.not_true, Bool.not_false, Bool.true_or, Bool.false_or, Bool.or_true, Bool.or_false, e4]
    exact fin h2 (by omega)
theorem ta_f {w lo hi : Int} (h : ¬ f = 0) : taS T w lo hi i f = (0, i, f) := by
  unfold taS
  rw [show twS T w i f = (i, f) by unfold twS; rw [if_neg h]]
  exact tn_f h
/-- a value taken is within its bounds -/
theorem tn_r {lo hi : Int} (hT : TS D n T N) (i0 : 0 ≤ i) (i1 : i ≤ N) : (tnS T lo hi i f).2.2 = 0 → f = 0 ∧ lo ≤ (tnS T lo hi i f).1 ∧ (tnS T lo hi i f).1 ≤ hi ∧ (tnS T lo hi i f).2.1 = i + 1 ∧ i + 1 ≤ N := by
  have pr := (hT.k i0 i1).1
  unfold tnS
  by_cases z1 : f = 0
  · rw [if_pos z1]
    by_cases z2 : ty T i = 31
    · have iN := hT.lt i0 i1 (by omega)
      rw [if_pos z2]
      by_cases z3 : tN T i < lo
      · rw [if_pos z3]; intro h; dsimp only at h; omega
      · rw [if_neg z3]
        by_cases z4 : hi < tN T i
        · rw [if_pos z4]; intro h; dsimp only at h; omega
        · rw [if_neg z4]
          intro _
          exact ⟨z1, by first | omega | (dsimp only; omega), by first | omega | (dsimp only; omega), rfl, by omega⟩
    · rw [if_neg z2]; intro h; dsimp only at h; omega
  · rw [if_neg z1]; intro h; exact absurd h z1
theorem tw_r {w : Int} (hT : TS D n T N) (i0 : 0 ≤ i) (i1 : i ≤ N) (w1 : w < 127) : (twS T w i f).2 = 0 → f = 0 ∧ (twS T w i f).1 = i + 1 ∧ i + 1 ≤ N ∧ ty T i = w := by
  have pr := (hT.k i0 i1).1
  unfold twS
  by_cases z1 : f = 0
  · rw [if_pos z1]
    by_cases z2 : ty T i = w
    · have iN := hT.lt i0 i1 (by omega)
      rw [if_pos z2]
      intro _
      exact ⟨z1, rfl, by omega, z2⟩
    · rw [if_neg z2]; intro h; dsimp only at h; omega
  · rw [if_neg z1]; intro h; exact absurd h z1
theorem tw_p {w : Int} (hT : TS D n T N) (i0 : 0 ≤ i) (i1 : i ≤ N) (w1 : w < 127) (f0 : 0 ≤ f) : 0 ≤ (twS T w i f).1 ∧ (twS T w i f).1 ≤ N ∧ 0 ≤ (twS T w i f).2 := by
  have pr := (hT.k i0 i1).1
  unfold twS
  by_cases z1 : f = 0
  · rw [if_pos z1]
    by_cases z2 : ty T i = w
    · have iN := hT.lt i0 i1 (by omega)
      rw [if_pos z2]
      dsimp only
      omega
    · rw [if_neg z2]; dsimp only; omega
  · rw [if_neg z1]; dsimp only; omega
theorem ta_r {w lo hi : Int} (hT : TS D n T N) (i0 : 0 ≤ i) (i1 : i ≤ N) (w1 : w < 127) (f0 : 0 ≤ f) : (taS T w lo hi i f).2.2 = 0 → f = 0 ∧ lo ≤ (taS T w lo hi i f).1 ∧ (taS T w lo hi i f).1 ≤ hi ∧ (taS T w lo hi i f).2.1 = i + 2 ∧ i + 2 ≤ N := by
  unfold taS
  have a := tw_p (f := f) hT i0 i1 w1 f0
  intro h
  have b := tn_r hT a.1 a.2.1 h
  have c := tw_r hT i0 i1 w1 b.1
  omega
theorem to_r {x y : Int} (hT : TS D n T N) (i0 : 0 ≤ i) (i1 : i ≤ N) (y1 : x + y ≤ 127) : (toS T x y i f).2.2 = 0 → f = 0 ∧ 0 ≤ (toS T x y i f).1 ∧ (toS T x y i f).1 < y ∧ (toS T x y i f).2.1 = i + 1 ∧ i + 1 ≤ N := by
  have pr := (hT.k i0 i1).1
  unfold toS
  by_cases z1 : f = 0
  · rw [if_pos z1]
    by_cases z2 : x ≤ ty T i ∧ ty T i < x + y
    · have iN := hT.lt i0 i1 (by omega)
      rw [if_pos z2]
      intro _
      exact ⟨z1, by first | omega | (dsimp only; omega), by first | omega | (dsimp only; omega), rfl, by omega⟩
    · rw [if_neg z2]; intro h; dsimp only at h; omega
  · rw [if_neg z1]; intro h; exact absurd h z1
theorem to_f {x y : Int} (h : ¬ f = 0) : toS T x y i f = (0, i, f) := by unfold toS; rw [if_neg h]
theorem th_r {W : Nat → Int32} {cnt x y : Int} (hT : TS D n T N) (i0 : 0 ≤ i) (i1 : i ≤ N) : (thS T Y W cnt x y i f).2 = 0 → f = 0 ∧ 0 ≤ (thS T Y W cnt x y i f).1 ∧ (thS T Y W cnt x y i f).1 < y ∧ i + 1 ≤ N ∧ ty T i = 30 ∧ fdGo Y W (tV T i) cnt.toNat 0 = x + (thS T Y W cnt x y i f).1 := by
  have pr := (hT.k i0 i1).1
  unfold thS
  by_cases z1 : f = 0
  · rw [if_pos z1]
    by_cases z2 : ty T i = 30
    · have iN := hT.lt i0 i1 (by omega)
      rw [if_pos z2]
      by_cases z3 : x ≤ fdGo Y W (tV T i) cnt.toNat 0 ∧ fdGo Y W (tV T i) cnt.toNat 0 < x + y
      · rw [if_pos z3]
        intro _
        exact ⟨z1, by first | omega | (dsimp only; omega), by first | omega | (dsimp only; omega), by omega, z2, by first | omega | (dsimp only; omega)⟩
      · rw [if_neg z3]; intro h; dsimp only at h; omega
    · rw [if_neg z2]; intro h; dsimp only at h; omega
  · rw [if_neg z1]; intro h; exact absurd h z1
theorem th_f {W : Nat → Int32} {cnt x y : Int} (h : ¬ f = 0) : thS T Y W cnt x y i f = (0, f) := by unfold thS; rw [if_neg h]
theorem rn_r {W : Nat → Int32} {cnt : Int} (hT : TS D n T N) (i0 : 0 ≤ i) (i1 : i ≤ N) : (rnS T Y W cnt i).2 = 0 → (rnS T Y W cnt i).1 = i + 1 ∧ i + 1 ≤ N := by
  have pr := (hT.k i0 i1).1
  unfold rnS
  by_cases z2 : ty T i = 30
  · have iN := hT.lt i0 i1 (by omega)
    rw [if_pos z2]
    by_cases z3 : 0 ≤ fdGo Y W (tV T i) cnt.toNat 0
    · rw [if_pos z3]; intro h; dsimp only at h; omega
    · rw [if_neg z3]
      intro _
      exact ⟨rfl, by omega⟩
  · rw [if_neg z2]; intro h; dsimp only at h; omega
end
