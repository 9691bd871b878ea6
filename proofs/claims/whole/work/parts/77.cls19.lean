/-- the places that calls by hand change -/
def scU (a k : Nat) : Bool := scC a k || scR a k || (Nat.ble 155 a && Nat.ble a 158) || (Nat.ble 173 a && Nat.ble a 177) || (Nat.beq a 100 && Nat.beq k 14) || (Nat.ble 163 a && Nat.ble a 168) || (Nat.ble 276 a && Nat.ble a 315)
def rU (a k : Nat) : Bool := rC a k || (Nat.beq a 172 && Nat.beq k 4)
def FU (m m' : mm_M) : Prop := m'.1 = m.1 ∧ m'.2.1 = m.2.1 ∧ (∀ a k, rU a k = false → mm_gR m' a k = mm_gR m a k) ∧ (∀ a k, scU a k = false → mm_gI m' a k = mm_gI m a k ∧ mm_gL m' a k = mm_gL m a k)
/-- the class's state, but for tape and names -/
def RCm (D : Nat → Nat → Int32) (m : mm_M) (s p : Nat) : Prop := RQ D m s ∧ isSc p ∧ mm_gR m 100 3 = some p ∧ RN D m p ∧ RP D m ∧ RU D m ∧ RM D m
def scJ (a _k : Nat) : Bool := Nat.ble 155 a && Nat.ble a 158
section
variable {D D' D1 D2 : Nat → Nat → Int32} {m m' m1 m2 m'' : mm_M} {d s W L H p n : Nat} {B : Int → Int} {take : Int} {late : Bool}
theorem FU.rf : FU m m := ⟨rfl, rfl, fun _ _ _ => rfl, fun _ _ _ => ⟨rfl, rfl⟩⟩
theorem FU.tr (h : FU m m') (h' : FU m' m'') : FU m m'' := ⟨h'.1.trans h.1, h'.2.1.trans h.2.1, fun a k z => (h'.2.2.1 a k z).trans (h.2.2.1 a k z), fun a k z => ⟨(h'.2.2.2 a k z).1.trans (h.2.2.2 a k z).1, (h'.2.2.2 a k z).2.trans (h.2.2.2 a k z).2⟩⟩
theorem scU_i {a k : Nat} (h : scU a k = false) : scC a k = false ∧ scR a k = false ∧ (Nat.ble 155 a && Nat.ble a 158) = false ∧ (Nat.ble 173 a && Nat.ble a 177) = false ∧ (Nat.beq a 100 && Nat.beq k 14) = false ∧ (Nat.ble 163 a && Nat.ble a 168) = false ∧ (Nat.ble 276 a && Nat.ble a 315) = false := by
  unfold scU at h
  simp only [Bool.or_eq_false_iff] at h
  exact ⟨h.1.1.1.1.1.1, h.1.1.1.1.1.2, h.1.1.1.1.2, h.1.1.1.2, h.1.1.2, h.1.2, h.2⟩
theorem rg_f {x a y : Nat} (h : (Nat.ble x a && Nat.ble a y) = false) : ¬ (x ≤ a ∧ a ≤ y) := by
  rintro ⟨h0, h1⟩
  rw [Nat.ble_eq.mpr h0, Nat.ble_eq.mpr h1] at h
  cases h
theorem FC.U (h : FC m m') : FU m m' := ⟨h.1, h.2.1, fun a k z => h.2.2.1 a k (by unfold rU at z; simp only [Bool.or_eq_false_iff] at z; exact z.1), fun a k z => h.2.2.2 a k (scU_i z).1⟩
theorem Fr.U {P : Nat → Nat → Bool} (h : Fr P m m') (e : ∀ a k, scU a k = false → P a k = false) : FU m m' := ⟨h.1, h.2.1, fun a k _ => h.2.2.1 a k, fun a k z => h.2.2.2 a k (e a k z)⟩
theorem Fr.RU (h : Fr scR m m') : FU m m' := h.U (fun _ _ z => (scU_i z).2.1)
theorem Fr.JU (h : Fr scJ m m') : FU m m' := h.U (fun _ _ z => (scU_i z).2.2.1)
theorem FW.U (h : FW 172 m m') : FU m m' := ⟨h.1, h.2.1, fun a k z => h.2.2.1 a k (by rintro ⟨rfl, rfl⟩; exact absurd z (by decide)), fun a k z => by
  have i := scU_i z
  have g := rg_f i.2.2.2.1
  have c := scK_C i.1
  exact ⟨h.2.2.2.1 a k (scW_e (by omega) (by omega) (by omega) (by omega) c), h.2.2.2.2 a k c⟩⟩
theorem sa_c {i : Int} (h : D' 332 i.toNat = D 332 i.toNat) : sa D' i = sa D i := by unfold sa; rw [h]
theorem RU.ch (h : RU D m) (e : SamS D D') (e1 : D' 316 26 = D 316 26) (e2 : ∀ j, 400 ≤ j → D' 332 j = D 332 j) (e3 : ∀ a k, (a = 100 ∧ (k = 10 ∨ k = 11)) ∨ (212 ≤ a ∧ a ≤ 275) → mm_gI m' a k = mm_gI m a k) : RU D' m' := by
  obtain ⟨u, g10, x, x1, g11, hk⟩ := h
  have eu : und D' = und D := by unfold und; rw [e1]
  refine ⟨by rw [eu]; exact u, by rw [eu, e3 _ _ (Or.inl ⟨rfl, Or.inl rfl⟩)]; exact g10, x, x1, by rw [e3 _ _ (Or.inl ⟨rfl, Or.inr rfl⟩)]; exact g11, fun k k0 k1 => ?_⟩
  rw [eu] at k1 ⊢
  obtain ⟨a, b⟩ := hk k k0 k1
  refine ⟨e.hd (fun w w0 w1 => ?_), ?_⟩
  · obtain ⟨p1, p2, p3⟩ := a w w0 w1
    rw [e3 _ _ (Or.inr (by omega)), e3 _ _ (Or.inr (by omega)), e3 _ _ (Or.inr (by omega))]
    unfold ubS at p1 p2 p3 ⊢
    rw [sa_c (e2 _ (by omega)), sa_c (e2 _ (by omega)), sa_c (e2 _ (by omega))]
    exact ⟨p1, p2, p3⟩
  · rw [e3 _ _ (Or.inr (by omega)), sa_c (e2 _ (by omega))]
    exact b
theorem RPn.ch {b : Int} {P : Nat} (h : RPn D b m P) (e2 : ∀ j : Int, b + 25 ≤ j → j < b + 80 → sa D' j = sa D j) (e3 : ∀ a k, P ≤ a → a ≤ P + 5 → (a = P → k < 7) → mm_gI m' a k = mm_gI m a k) : RPn D' b m' P := by
  obtain ⟨⟨a1, a2⟩, a3, a4⟩ := h
  refine ⟨⟨by rw [e3 _ _ (by omega) (by omega) (by omega), e2 _ (by omega) (by omega)]; exact a1, by rw [e3 _ _ (by omega) (by omega) (by omega), e2 _ (by omega) (by omega)]; exact a2⟩, fun k k0 k1 => ?_, fun k k0 k1 => ?_⟩
  · rw [e3 _ _ (by omega) (by omega) (by omega), e3 _ _ (by omega) (by omega) (by omega), e2 _ (by omega) (by omega), e2 _ (by omega) (by omega)]
    exact a3 k k0 k1
  · rw [e3 _ _ (by omega) (by omega) (by omega), e3 _ _ (by omega) (by omega) (by omega), e3 _ _ (by omega) (by omega) (by omega), e2 _ (by omega) (by omega), e2 _ (by omega) (by omega), e2 _ (by omega) (by omega)]
    exact a4 k k0 k1
theorem RM.ch (h : RM D m) (e : SamS D D') (k9 : st D 6 ≤ 8) (e1 : ∀ j, D' 333 j = D 333 j) (e2 : ∀ j, 80 ≤ j → j < 400 → D' 332 j = D 332 j) (e3 : ∀ a k, (a = 100 ∧ k = 14) ∨ (276 ≤ a ∧ a ≤ 315) → mm_gI m' a k = mm_gI m a k) : RM D' m' := by
  intro k k0 k1
  obtain ⟨a, b⟩ := h k k0 k1
  have em : mkd D' k = mkd D k := by unfold mkd; rw [e1]
  rw [em, e3 _ _ (Or.inl ⟨rfl, rfl⟩)]
  refine ⟨a, fun z => ?_⟩
  obtain ⟨b1, b2, b3⟩ := b z
  refine ⟨e.hd (fun w w0 w1 => ?_), ?_, b3.ch (fun j j0 j1 => sa_c (e2 _ (by omega) (by omega))) (fun x y x0 x1 _ => e3 _ _ (Or.inr (by omega)))⟩
  · obtain ⟨p1, p2, p3⟩ := b1 w w0 w1
    rw [e3 _ _ (Or.inr (by omega)), e3 _ _ (Or.inr (by omega)), e3 _ _ (Or.inr (by omega))]
    unfold ubS at p1 p2 p3 ⊢
    rw [sa_c (e2 _ (by omega) (by omega)), sa_c (e2 _ (by omega) (by omega)), sa_c (e2 _ (by omega) (by omega))]
    exact ⟨p1, p2, p3⟩
  · rw [e3 _ _ (Or.inr (by omega)), sa_c (e2 _ (by omega) (by omega))]
    exact b2
theorem RP.ch (h : RP D m) (e2 : ∀ j, 25 ≤ j → j < 80 → D' 332 j = D 332 j) (e3 : ∀ a k, 163 ≤ a → a ≤ 168 → (a = 163 → k < 7) → mm_gI m' a k = mm_gI m a k) : RP D' m' := RPn.ch h (fun j j0 j1 => sa_c (e2 _ (by omega) (by omega))) (fun a k h0 h1 h2 => e3 a k h0 h1 h2)
theorem RN.ch (h : RN D m p) (e1 : ∀ j, D' 329 j = D 329 j) (e3 : ∀ a k, p ≤ a → a ≤ p + 3 → mm_gI m' a k = mm_gI m a k) : RN D' m' p := by
  have el : li D' = li D := by funext i; unfold li; rw [e1]
  have := h.cg e3
  unfold RN at this ⊢
  rw [el]
  exact this
theorem fw_o (f : FW 172 m m') {a k : Nat} (h : ¬ (173 ≤ a ∧ a ≤ 177)) (hk : scK a k = false) : mm_gI m' a k = mm_gI m a k := f.2.2.2.1 a k (scW_e (by omega) (by omega) (by omega) (by omega) hk)
theorem fr_o {P : Nat → Nat → Bool} (f : Fr P m m') {a k : Nat} (h : P a k = false) : mm_gI m' a k = mm_gI m a k := f.gI h
theorem scR_f {a k : Nat} (h0 : ¬ (212 ≤ a ∧ a ≤ 275)) (h1 : ¬ (a = 100 ∧ (k = 10 ∨ k = 11))) : scR a k = false := by
  cases e : scR a k
  · rfl
  · unfold scR at e
    rw [Bool.or_eq_true] at e
    rcases e with e | e
    · rw [Bool.and_eq_true, Bool.or_eq_true] at e
      have a1 := Nat.eq_of_beq_eq_true e.1
      rcases e.2 with e2 | e2
      · have := Nat.eq_of_beq_eq_true e2; omega
      · have := Nat.eq_of_beq_eq_true e2; omega
    · rw [Bool.and_eq_true, Nat.ble_eq, Nat.ble_eq] at e
      omega
theorem scJ_f {a k : Nat} (h : ¬ (155 ≤ a ∧ a ≤ 158)) : scJ a k = false := by
  cases e : scJ a k
  · rfl
  · unfold scJ at e
    rw [Bool.and_eq_true, Nat.ble_eq, Nat.ble_eq] at e
    omega
/-- after the hands are changed -/
theorem hand_fin (h : RCm D m s p) (hI : InvS D) (hL : InvL D) (hd : 4 ≤ d) (s1 : SamS D D1) (a1 : ∀ j, 25 ≤ j → j < 400 → D1 332 j = D 332 j) (a2 : ∀ j, D1 333 j = D 333 j) (a3 : ∀ j, D1 329 j = D 329 j) (f1 : Fr scR m m1) (hU : RU D1 m1) (s2 : SamS D1 D2) (b0 : D2 316 26 = D1 316 26) (b1 : ∀ j, 25 ≤ j → D2 332 j = D1 332 j) (b2 : ∀ j, D2 333 j = D1 333 j) (b3 : ∀ j, D2 329 j = D1 329 j) (f2 : Fr scJ m1 m2) (hh : HD D2 m2 155 (sa D2)) (h0 : mm_gI m2 155 0 = iI (sa D2 0)) : ∃ m', mm_ev d 104 0 [some (.ref 100)] [] m2 = some (some none, m') ∧ RCm D2 m' s p ∧ FU m m' ∧ mm_gI m' 155 0 = iI (sa D2 0) := by
  obtain ⟨hQ, hp, hg, hN, hP, -, hM⟩ := h
  obtain ⟨k8, k9⟩ := hI.2.2.2.2.2.1
  have s12 := s1.tr s2
  have gp : p = 146 ∨ p = 150 := hp
  have gs : s = 104 ∨ s = 125 := hQ.2.1
  have sh2 := f2.sh (f1.sh hQ.1)
  have rs2 : RSt D m2 s := hQ.2.2.2.1.cg (fun a k h0 h1 _ _ => by rw [f2.gI (scJ_f (by omega)), f1.gI (scR_f (by omega) (by omega))]) k9
  obtain ⟨m', e, f3, r⟩ := C104 (d := d) sh2 hQ.2.1 (((f2.2.2.1 _ _).trans (f1.2.2.1 _ _)).trans hQ.2.2.1) (s12.rst rs2) hh h0 (s12.invS hI) (s12.invL hL) hd
  refine ⟨m', e, ⟨r, hp, ?_, ?_, ?_, ?_, ?_⟩, (f1.RU.tr f2.JU).tr f3.U, r.2.2.2.2.2.2⟩
  · rw [f3.2.2.1 _ _ (by omega), f2.2.2.1, f1.2.2.1]; exact hg
  · refine hN.ch (fun j => (b3 j).trans (a3 j)) (fun a k h0 h1 => ?_)
    rw [fw_o f3 (by omega) (scK_n (by omega) (by omega) (by omega) (by omega)), f2.gI (scJ_f (by omega)), f1.gI (scR_f (by omega) (by omega))]
  · refine hP.ch (fun j j0 j1 => (b1 j j0).trans (a1 j j0 (by omega))) (fun a k h0 h1 _ => ?_)
    rw [fw_o f3 (by omega) (scK_n (by omega) (by omega) (by omega) (by omega)), f2.gI (scJ_f (by omega)), f1.gI (scR_f (by omega) (by omega))]
  · refine hU.ch s2 b0 (fun j j0 => b1 j (by omega)) (fun a k h0 => ?_)
    rw [fw_o f3 (by omega) (scK_n (by omega) (by omega) (by omega) (by omega)), f2.gI (scJ_f (by omega))]
  · refine hM.ch s12 k9 (fun j => (b2 j).trans (a2 j)) (fun j j0 j1 => (b1 j (by omega)).trans (a1 j (by omega) j1)) (fun a k h0 => ?_)
    rw [fw_o f3 (by omega) (scK_n (by omega) (by omega) (by omega) (by omega)), f2.gI (scJ_f (by omega)), f1.gI (scR_f (by omega) (by omega))]
theorem keep_33 (j : Nat) : keepD D 333 j = D 333 j := by unfold keepD; rw [if_neg (by omega), if_neg (by omega)]
theorem keep_29 (j : Nat) : keepD D 329 j = D 329 j := by unfold keepD; rw [if_neg (by omega), if_neg (by omega)]
/-- one place of the hands is changed -/
theorem hand_one (h : RCm D m s p) (hI : InvS D) (hL : InvL D) (hd : 6 ≤ d) {x i v : Int} {H' : Nat} (hx : (x = 1 ∧ H' = 156) ∨ (x = 9 ∧ H' = 157) ∨ (x = 17 ∧ H' = 158)) (i0 : 0 ≤ i) (i1 : i < st D 6) (v0 : -2147483648 ≤ v) (v1 : v < 2147483648) : ∃ m1 m', mm_ev (d - 1) 112 0 [some (.ref 100)] [] m = some (some none, m1) ∧ Sh m1 ∧ HD D m1 155 (sa D) ∧ mm_ev (d - 1) 104 0 [some (.ref 100)] [] (mm_sI m1 H' i.toNat (iI v)) = some (some none, m') ∧ RCm (up (keepD D) 332 (x + i).toNat (iI v)) m' s p ∧ FU m m' := by
  obtain ⟨hQ, hp, hg, hN, hP, hU, hM⟩ := id h
  obtain ⟨k8, k9⟩ := hI.2.2.2.2.2.1
  obtain ⟨m1, e1, f1, u1⟩ := C112 (d := d - 1) hQ.1 hQ.2.2.2.2.2.1 hQ.2.2.2.2.2.2 hU k9 (by omega)
  have hh1 : HD D m1 155 (sa D) := hQ.2.2.2.2.2.1.g f1 (fun a k h0 h1 => scR_f (by omega) (by omega))
  have eu : ∀ j : Int, sa (up (keepD D) 332 (x + i).toNat (iI v)) j = if j.toNat = (x + i).toNat then v else sa (keepD D) j := by
    intro j
    unfold sa up
    by_cases z : j.toNat = (x + i).toNat
    · rw [if_pos ⟨rfl, z⟩, if_pos z, iI_val v0 v1]
    · rw [if_neg (by omega), if_neg z]
  have ek : ∀ j : Int, j < 400 → sa (keepD D) j = sa D j := fun j hj => by unfold sa; rw [keep_lo (by omega)]
  have s2 : SamS (keepD D) (up (keepD D) 332 (x + i).toNat (iI v)) := sam_up (by omega) (by omega) (by omega)
  obtain ⟨m', e2, r2, f2, -⟩ := hand_fin (d := d - 1) (D1 := keepD D) (D2 := up (keepD D) 332 (x + i).toNat (iI v)) (m2 := mm_sI m1 H' i.toNat (iI v)) h hI hL (by omega) sam_keep (fun j j0 j1 => keep_lo j1) keep_33 keep_29 f1 u1 s2 (by unfold up; rw [if_neg (by omega)]) (fun j j0 => by unfold up; rw [if_neg (by omega)]) (fun j => by unfold up; rw [if_neg (by omega)]) (fun j => by unfold up; rw [if_neg (by omega)]) (Fr.sI (by unfold scJ; rcases hx with ⟨-, rfl⟩ | ⟨-, rfl⟩ | ⟨-, rfl⟩ <;> rfl)) (s2.hd (sam_keep.hd (fun w w0 w1 => by
    obtain ⟨p1, p2, p3⟩ := hh1 w w0 w1
    rw [gI_sI, gI_sI, gI_sI, eu, eu, eu, ek _ (by omega), ek _ (by omega), ek _ (by omega)]
    refine ⟨?_, ?_, ?_⟩
    · by_cases z : (1 + w).toNat = (x + i).toNat
      · rw [if_pos z, if_pos (by omega)]
      · rw [if_neg z, if_neg (by omega)]; exact p1
    · by_cases z : (9 + w).toNat = (x + i).toNat
      · rw [if_pos z, if_pos (by omega)]
      · rw [if_neg z, if_neg (by omega)]; exact p2
    · by_cases z : (17 + w).toNat = (x + i).toNat
      · rw [if_pos z, if_pos (by omega)]
      · rw [if_neg z, if_neg (by omega)]; exact p3))) (by
    rw [gI_sI, if_neg (by omega), eu, if_neg (by omega), ek _ (by omega), f1.gI (scR_f (by omega) (by omega))]
    exact hQ.2.2.2.2.2.2)
  exact ⟨m1, m', e1, f1.sh hQ.1, hh1, e2, r2, f2⟩
/-- start -/
theorem C110 (h : RCm D m s p) (hI : InvS D) (hL : InvL D) (hd : 8 ≤ d) {w c : Int} (w_0 : -2147483648 ≤ w) (w_1 : w < 2147483648) (c_0 : -2147483648 ≤ c) (c_1 : c < 2147483648) : ∃ m', mm_ev d 110 0 [some (.ref 100), some (.int (iI (w))), some (.int (iI (c)))] [] m = some (some (some (.int (iI (bI (startOk D w c))))), m') ∧ RCm (startD D w c) m' s p ∧ FU m m' := by
  have hQ := h.1
  have xf := shX hQ.1
  obtain ⟨k8, k9⟩ := hI.2.2.2.2.2.1
  rw [sg_110_0 (by omega)]
  simp (disch := omega) only [xf, ↓reduceIte, not_false_eq_true, not_true_eq_false, and_self, and_true, true_and, false_and, and_false, or_true, true_or, or_false, false_or, or_self, reduceCtorEq, mm_q, Option.getD_some, cI_some, cJ_some, cV_some, cS_some, kd_sI, kd_sL, kd_sR, kd_cp, ln_sI, ln_sL, ln_sR, ln_cp, gR_sI, gR_sL, gR_sR, gR_cp, gL_sI, gL_sR, gL_cp, gI_sL, gI_sR, iI_add, iI_sub, iI_mul, iI_neg, iI_in, iI_tn, iI_lt, iI_eq, Nat.reduceLeDiff, Nat.reduceEqDiff, Nat.reduceAdd, Int.reduceEq, Int.reduceLT, Int.reduceLE, Int.reduceNeg, Int.reduceAdd, Int.reduceSub, Int.reduceMul, C107 hQ hI]
  rw [sg_110_5 (by omega)]
  unfold startD startOk
  cases z1 : isWk D w
  · exact ⟨m, by simp (disch := omega) only [↓reduceIte, not_false_eq_true, not_true_eq_false, and_self, and_true, true_and, false_and, and_false, or_true, true_or, or_false, false_or, or_self, reduceCtorEq, mm_q, Option.getD_some, cI_some, cJ_some, cV_some, cS_some, kd_sI, kd_sL, kd_sR, kd_cp, ln_sI, ln_sL, ln_sR, ln_cp, gR_sI, gR_sL, gR_sR, gR_cp, gL_sI, gL_sR, gL_cp, gI_sL, gI_sR, iI_add, iI_sub, iI_mul, iI_neg, iI_in, iI_tn, iI_lt, iI_eq, Nat.reduceLeDiff, Nat.reduceEqDiff, Nat.reduceAdd, Int.reduceEq, Int.reduceLT, Int.reduceLE, Int.reduceNeg, Int.reduceAdd, Int.reduceSub, Int.reduceMul, bI_t, bI_f, decide_true, decide_false, Bool.and_true, Bool.and_false, Bool.true_and, Bool.false_and, Bool.false_eq_true, Bool.and_self, Bool.not_true, Bool.not_false, Bool.true_or, Bool.false_or, Bool.or_true, Bool.or_false], h, FU.rf⟩
  · cases z2 : inB c 0 (st D 0 - 1)
    · exact ⟨m, by simp (disch := omega) only [xf, ↓reduceIte, not_false_eq_true, not_true_eq_false, and_self, and_true, true_and, false_and, and_false, or_true, true_or, or_false, false_or, or_self, reduceCtorEq, mm_q, Option.getD_some, cI_some, cJ_some, cV_some, cS_some, kd_sI, kd_sL, kd_sR, kd_cp, ln_sI, ln_sL, ln_sR, ln_cp, gR_sI, gR_sL, gR_sR, gR_cp, gL_sI, gL_sR, gL_cp, gI_sL, gI_sR, iI_add, iI_sub, iI_mul, iI_neg, iI_in, iI_tn, iI_lt, iI_eq, Nat.reduceLeDiff, Nat.reduceEqDiff, Nat.reduceAdd, Int.reduceEq, Int.reduceLT, Int.reduceLE, Int.reduceNeg, Int.reduceAdd, Int.reduceSub, Int.reduceMul, bI_t, bI_f, decide_true, decide_false, Bool.and_true, Bool.and_false, Bool.true_and, Bool.false_and, Bool.false_eq_true, Bool.and_self, Bool.not_true, Bool.not_false, Bool.true_or, Bool.false_or, Bool.or_true, Bool.or_false, C111 hQ hI, z2], h, FU.rf⟩
    · obtain ⟨a0, a1⟩ := isWk_t.mp z1
      obtain ⟨m1, m', e1, sh1, hh1, e2, r2, f2⟩ := hand_one h hI hL (d := d) (by omega) (x := 1) (v := c) (H' := 156) (Or.inl ⟨rfl, rfl⟩) a0 a1 c_0 c_1
      have xf1 := shX sh1
      have hf1 := hF sh1 h155
      refine ⟨m', ?_, r2, f2⟩
      simp (disch := omega) only [xf, ↓reduceIte, not_false_eq_true, not_true_eq_false, and_self, and_true, true_and, false_and, and_false, or_true, true_or, or_false, false_or, or_self, reduceCtorEq, mm_q, Option.getD_some, cI_some, cJ_some, cV_some, cS_some, kd_sI, kd_sL, kd_sR, kd_cp, ln_sI, ln_sL, ln_sR, ln_cp, gR_sI, gR_sL, gR_sR, gR_cp, gL_sI, gL_sR, gL_cp, gI_sL, gI_sR, iI_add, iI_sub, iI_mul, iI_neg, iI_in, iI_tn, iI_lt, iI_eq, Nat.reduceLeDiff, Nat.reduceEqDiff, Nat.reduceAdd, Int.reduceEq, Int.reduceLT, Int.reduceLE, Int.reduceNeg, Int.reduceAdd, Int.reduceSub, Int.reduceMul, bI_t, bI_f, decide_true, decide_false, Bool.and_true, Bool.and_false, Bool.true_and, Bool.false_and, Bool.false_eq_true, Bool.and_self, Bool.not_true, Bool.not_false, Bool.true_or, Bool.false_or, Bool.or_true, Bool.or_false, C111 hQ hI, z2, e1]
      rw [sg_110_22 (by omega)]
      simp (disch := omega) only [xf1, hf1, ↓reduceIte, not_false_eq_true, not_true_eq_false, and_self, and_true, true_and, false_and, and_false, or_true, true_or, or_false, false_or, or_self, reduceCtorEq, mm_q, Option.getD_some, cI_some, cJ_some, cV_some, cS_some, kd_sI, kd_sL, kd_sR, kd_cp, ln_sI, ln_sL, ln_sR, ln_cp, gR_sI, gR_sL, gR_sR, gR_cp, gL_sI, gL_sR, gL_cp, gI_sL, gI_sR, iI_add, iI_sub, iI_mul, iI_neg, iI_in, iI_tn, iI_lt, iI_eq, Nat.reduceLeDiff, Nat.reduceEqDiff, Nat.reduceAdd, Int.reduceEq, Int.reduceLT, Int.reduceLE, Int.reduceNeg, Int.reduceAdd, Int.reduceSub, Int.reduceMul, e2]
/-- turn -/
theorem C113 (h : RCm D m s p) (hI : InvS D) (hL : InvL D) (hIB : InvB D (sa D)) (hd : 8 ≤ d) {w : Int} (w_0 : -2147483648 ≤ w) (w_1 : w < 2147483648) : ∃ m', mm_ev d 113 0 [some (.ref 100), some (.int (iI (w)))] [] m = some (some (some (.int (iI (bI (isWk D w))))), m') ∧ RCm (turnD D w) m' s p ∧ FU m m' := by
  have hQ := h.1
  have xf := shX hQ.1
  obtain ⟨k8, k9⟩ := hI.2.2.2.2.2.1
  rw [sg_113_0 (by omega)]
  unfold turnD
  cases z1 : isWk D w
  · exact ⟨m, by simp (disch := omega) only [xf, ↓reduceIte, not_false_eq_true, not_true_eq_false, and_self, and_true, true_and, false_and, and_false, or_true, true_or, or_false, false_or, or_self, reduceCtorEq, mm_q, Option.getD_some, cI_some, cJ_some, cV_some, cS_some, kd_sI, kd_sL, kd_sR, kd_cp, ln_sI, ln_sL, ln_sR, ln_cp, gR_sI, gR_sL, gR_sR, gR_cp, gL_sI, gL_sR, gL_cp, gI_sL, gI_sR, iI_add, iI_sub, iI_mul, iI_neg, iI_in, iI_tn, iI_lt, iI_eq, Nat.reduceLeDiff, Nat.reduceEqDiff, Nat.reduceAdd, Int.reduceEq, Int.reduceLT, Int.reduceLE, Int.reduceNeg, Int.reduceAdd, Int.reduceSub, Int.reduceMul, bI_t, bI_f, decide_true, decide_false, Bool.and_true, Bool.and_false, Bool.true_and, Bool.false_and, Bool.false_eq_true, Bool.and_self, Bool.not_true, Bool.not_false, Bool.true_or, Bool.false_or, Bool.or_true, Bool.or_false, C107 hQ hI, z1], h, FU.rf⟩
  · obtain ⟨a0, a1⟩ := isWk_t.mp z1
    obtain ⟨-, ⟨t0, t1⟩, -⟩ := hIB.2 w a0 a1
    obtain ⟨m1, m', e1, sh1, hh1, e2, r2, f2⟩ := hand_one h hI hL (d := d) (by omega) (x := 9) (v := 1 - sa D (9 + w)) (H' := 157) (Or.inr (Or.inl ⟨rfl, rfl⟩)) a0 a1 (by omega) (by omega)
    have xf1 := shX sh1
    have hf1 := hF sh1 h155
    obtain ⟨-, p2, -⟩ := hh1 w a0 a1
    refine ⟨m', ?_, r2, f2⟩
    simp (disch := omega) only [xf, ↓reduceIte, not_false_eq_true, not_true_eq_false, and_self, and_true, true_and, false_and, and_false, or_true, true_or, or_false, false_or, or_self, reduceCtorEq, mm_q, Option.getD_some, cI_some, cJ_some, cV_some, cS_some, kd_sI, kd_sL, kd_sR, kd_cp, ln_sI, ln_sL, ln_sR, ln_cp, gR_sI, gR_sL, gR_sR, gR_cp, gL_sI, gL_sR, gL_cp, gI_sL, gI_sR, iI_add, iI_sub, iI_mul, iI_neg, iI_in, iI_tn, iI_lt, iI_eq, Nat.reduceLeDiff, Nat.reduceEqDiff, Nat.reduceAdd, Int.reduceEq, Int.reduceLT, Int.reduceLE, Int.reduceNeg, Int.reduceAdd, Int.reduceSub, Int.reduceMul, bI_t, bI_f, decide_true, decide_false, Bool.and_true, Bool.and_false, Bool.true_and, Bool.false_and, Bool.false_eq_true, Bool.and_self, Bool.not_true, Bool.not_false, Bool.true_or, Bool.false_or, Bool.or_true, Bool.or_false, C107 hQ hI, z1, e1]
    rw [sg_113_14 (by omega)]
    simp (disch := omega) only [xf1, hf1, ↓reduceIte, not_false_eq_true, not_true_eq_false, and_self, and_true, true_and, false_and, and_false, or_true, true_or, or_false, false_or, or_self, reduceCtorEq, mm_q, Option.getD_some, cI_some, cJ_some, cV_some, cS_some, kd_sI, kd_sL, kd_sR, kd_cp, ln_sI, ln_sL, ln_sR, ln_cp, gR_sI, gR_sL, gR_sR, gR_cp, gL_sI, gL_sR, gL_cp, gI_sL, gI_sR, iI_add, iI_sub, iI_mul, iI_neg, iI_in, iI_tn, iI_lt, iI_eq, Nat.reduceLeDiff, Nat.reduceEqDiff, Nat.reduceAdd, Int.reduceEq, Int.reduceLT, Int.reduceLE, Int.reduceNeg, Int.reduceAdd, Int.reduceSub, Int.reduceMul]
    rw [show mm_gI m1 157 w.toNat = _ from p2, iI_sub]
    simp (disch := omega) only [xf1, ↓reduceIte, not_false_eq_true, not_true_eq_false, and_self, and_true, true_and, false_and, and_false, or_true, true_or, or_false, false_or, or_self, reduceCtorEq, mm_q, Option.getD_some, cI_some, cJ_some, cV_some, cS_some, kd_sI, kd_sL, kd_sR, kd_cp, ln_sI, ln_sL, ln_sR, ln_cp, gR_sI, gR_sL, gR_sR, gR_cp, gL_sI, gL_sR, gL_cp, gI_sL, gI_sR, iI_add, iI_sub, iI_mul, iI_neg, iI_in, iI_tn, iI_lt, iI_eq, Nat.reduceLeDiff, Nat.reduceEqDiff, Nat.reduceAdd, Int.reduceEq, Int.reduceLT, Int.reduceLE, Int.reduceNeg, Int.reduceAdd, Int.reduceSub, Int.reduceMul, e2]
/-- late -/
theorem C114 (h : RCm D m s p) (hI : InvS D) (hL : InvL D) (hd : 8 ≤ d) {w c : Int} (w_0 : -2147483648 ≤ w) (w_1 : w < 2147483648) (c_0 : -2147483648 ≤ c) (c_1 : c < 2147483648) : ∃ m', mm_ev d 114 0 [some (.ref 100), some (.int (iI (w))), some (.int (iI (c)))] [] m = some (some (some (.int (iI (bI (lateOk D w c))))), m') ∧ RCm (lateD D w c) m' s p ∧ FU m m' := by
  have hQ := h.1
  have xf := shX hQ.1
  obtain ⟨k8, k9⟩ := hI.2.2.2.2.2.1
  rw [sg_114_0 (by omega)]
  simp (disch := omega) only [xf, ↓reduceIte, not_false_eq_true, not_true_eq_false, and_self, and_true, true_and, false_and, and_false, or_true, true_or, or_false, false_or, or_self, reduceCtorEq, mm_q, Option.getD_some, cI_some, cJ_some, cV_some, cS_some, kd_sI, kd_sL, kd_sR, kd_cp, ln_sI, ln_sL, ln_sR, ln_cp, gR_sI, gR_sL, gR_sR, gR_cp, gL_sI, gL_sR, gL_cp, gI_sL, gI_sR, iI_add, iI_sub, iI_mul, iI_neg, iI_in, iI_tn, iI_lt, iI_eq, Nat.reduceLeDiff, Nat.reduceEqDiff, Nat.reduceAdd, Int.reduceEq, Int.reduceLT, Int.reduceLE, Int.reduceNeg, Int.reduceAdd, Int.reduceSub, Int.reduceMul, C107 hQ hI]
  rw [sg_114_5 (by omega)]
  unfold lateD lateOk
  cases z1 : isWk D w
  · exact ⟨m, by simp (disch := omega) only [↓reduceIte, not_false_eq_true, not_true_eq_false, and_self, and_true, true_and, false_and, and_false, or_true, true_or, or_false, false_or, or_self, reduceCtorEq, mm_q, Option.getD_some, cI_some, cJ_some, cV_some, cS_some, kd_sI, kd_sL, kd_sR, kd_cp, ln_sI, ln_sL, ln_sR, ln_cp, gR_sI, gR_sL, gR_sR, gR_cp, gL_sI, gL_sR, gL_cp, gI_sL, gI_sR, iI_add, iI_sub, iI_mul, iI_neg, iI_in, iI_tn, iI_lt, iI_eq, Nat.reduceLeDiff, Nat.reduceEqDiff, Nat.reduceAdd, Int.reduceEq, Int.reduceLT, Int.reduceLE, Int.reduceNeg, Int.reduceAdd, Int.reduceSub, Int.reduceMul, bI_t, bI_f, decide_true, decide_false, Bool.and_true, Bool.and_false, Bool.true_and, Bool.false_and, Bool.false_eq_true, Bool.and_self, Bool.not_true, Bool.not_false, Bool.true_or, Bool.false_or, Bool.or_true, Bool.or_false], h, FU.rf⟩
  · cases z2 : inB c 0 99
    · have z3 : ¬ (0 ≤ c ∧ c ≤ 99) := fun y => by rw [inB_t.mpr y] at z2; cases z2
      refine ⟨m, ?_, h, FU.rf⟩
      by_cases z4 : c < 0
      · simp (disch := omega) only [↓reduceIte, not_false_eq_true, not_true_eq_false, and_self, and_true, true_and, false_and, and_false, or_true, true_or, or_false, false_or, or_self, reduceCtorEq, mm_q, Option.getD_some, cI_some, cJ_some, cV_some, cS_some, kd_sI, kd_sL, kd_sR, kd_cp, ln_sI, ln_sL, ln_sR, ln_cp, gR_sI, gR_sL, gR_sR, gR_cp, gL_sI, gL_sR, gL_cp, gI_sL, gI_sR, iI_add, iI_sub, iI_mul, iI_neg, iI_in, iI_tn, iI_lt, iI_eq, Nat.reduceLeDiff, Nat.reduceEqDiff, Nat.reduceAdd, Int.reduceEq, Int.reduceLT, Int.reduceLE, Int.reduceNeg, Int.reduceAdd, Int.reduceSub, Int.reduceMul, bI_t, bI_f, decide_true, decide_false, Bool.and_true, Bool.and_false, Bool.true_and, Bool.false_and, Bool.false_eq_true, Bool.and_self, Bool.not_true, Bool.not_false, Bool.true_or, Bool.false_or, Bool.or_true, Bool.or_false, z4]
      · simp (disch := omega) only [↓reduceIte, not_false_eq_true, not_true_eq_false, and_self, and_true, true_and, false_and, and_false, or_true, true_or, or_false, false_or, or_self, reduceCtorEq, mm_q, Option.getD_some, cI_some, cJ_some, cV_some, cS_some, kd_sI, kd_sL, kd_sR, kd_cp, ln_sI, ln_sL, ln_sR, ln_cp, gR_sI, gR_sL, gR_sR, gR_cp, gL_sI, gL_sR, gL_cp, gI_sL, gI_sR, iI_add, iI_sub, iI_mul, iI_neg, iI_in, iI_tn, iI_lt, iI_eq, Nat.reduceLeDiff, Nat.reduceEqDiff, Nat.reduceAdd, Int.reduceEq, Int.reduceLT, Int.reduceLE, Int.reduceNeg, Int.reduceAdd, Int.reduceSub, Int.reduceMul, bI_t, bI_f, decide_true, decide_false, Bool.and_true, Bool.and_false, Bool.true_and, Bool.false_and, Bool.false_eq_true, Bool.and_self, Bool.not_true, Bool.not_false, Bool.true_or, Bool.false_or, Bool.or_true, Bool.or_false, z4, show 99 < c by omega]
    · obtain ⟨a0, a1⟩ := isWk_t.mp z1
      obtain ⟨b0, b1⟩ := inB_t.mp z2
      obtain ⟨m1, m', e1, sh1, hh1, e2, r2, f2⟩ := hand_one h hI hL (d := d) (by omega) (x := 17) (v := c) (H' := 158) (Or.inr (Or.inr ⟨rfl, rfl⟩)) a0 a1 c_0 c_1
      have xf1 := shX sh1
      have hf1 := hF sh1 h155
      refine ⟨m', ?_, r2, f2⟩
      simp (disch := omega) only [xf, ↓reduceIte, not_false_eq_true, not_true_eq_false, and_self, and_true, true_and, false_and, and_false, or_true, true_or, or_false, false_or, or_self, reduceCtorEq, mm_q, Option.getD_some, cI_some, cJ_some, cV_some, cS_some, kd_sI, kd_sL, kd_sR, kd_cp, ln_sI, ln_sL, ln_sR, ln_cp, gR_sI, gR_sL, gR_sR, gR_cp, gL_sI, gL_sR, gL_cp, gI_sL, gI_sR, iI_add, iI_sub, iI_mul, iI_neg, iI_in, iI_tn, iI_lt, iI_eq, Nat.reduceLeDiff, Nat.reduceEqDiff, Nat.reduceAdd, Int.reduceEq, Int.reduceLT, Int.reduceLE, Int.reduceNeg, Int.reduceAdd, Int.reduceSub, Int.reduceMul, bI_t, bI_f, decide_true, decide_false, Bool.and_true, Bool.and_false, Bool.true_and, Bool.false_and, Bool.false_eq_true, Bool.and_self, Bool.not_true, Bool.not_false, Bool.true_or, Bool.false_or, Bool.or_true, Bool.or_false, show ¬ c < 0 by omega, show ¬ 99 < c by omega, e1]
      rw [sg_114_24 (by omega)]
      simp (disch := omega) only [xf1, hf1, ↓reduceIte, not_false_eq_true, not_true_eq_false, and_self, and_true, true_and, false_and, and_false, or_true, true_or, or_false, false_or, or_self, reduceCtorEq, mm_q, Option.getD_some, cI_some, cJ_some, cV_some, cS_some, kd_sI, kd_sL, kd_sR, kd_cp, ln_sI, ln_sL, ln_sR, ln_cp, gR_sI, gR_sL, gR_sR, gR_cp, gL_sI, gL_sR, gL_cp, gI_sL, gI_sR, iI_add, iI_sub, iI_mul, iI_neg, iI_in, iI_tn, iI_lt, iI_eq, Nat.reduceLeDiff, Nat.reduceEqDiff, Nat.reduceAdd, Int.reduceEq, Int.reduceLT, Int.reduceLE, Int.reduceNeg, Int.reduceAdd, Int.reduceSub, Int.reduceMul, e2]
end
