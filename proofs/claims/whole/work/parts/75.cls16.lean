def ubS (D : Nat → Nat → Int32) (b : Int) : Int → Int := fun j => sa D (b + j)
/-- the ring of what can be undone -/
def RU (D : Nat → Nat → Int32) (m : mm_M) : Prop := (0 ≤ und D ∧ und D ≤ 16) ∧ mm_gI m 100 10 = iI (und D) ∧ ∃ e, (0 ≤ e ∧ e < 16) ∧ mm_gI m 100 11 = iI e ∧ ∀ k, 0 ≤ k → k < und D → HD D m (212 + 4 * ((e - und D + k) % 16).toNat) (ubS D (80 * (5 + k))) ∧ mm_gI m (212 + 4 * ((e - und D + k) % 16).toNat) 0 = iI (sa D (80 * (5 + k)))
/-- what is marked -/
def RM (D : Nat → Nat → Int32) (m : mm_M) : Prop := ∀ k, 0 ≤ k → k < 4 → ((iShr (mm_gI m 100 14) (iI k) &&& iI 1) = iI 0 ↔ mkd D k = 0) ∧ (¬ mkd D k = 0 → HD D m (276 + 10 * k.toNat) (ubS D (80 * (1 + k))) ∧ mm_gI m (276 + 10 * k.toNat) 0 = iI (sa D (80 * (1 + k))) ∧ RPn D (80 * (1 + k)) m (280 + 10 * k.toNat))
section
variable {D D' : Nat → Nat → Int32} {m m' m'' : mm_M} {d s W L H p n : Nat} {B : Int → Int} {take : Int} {late : Bool}
theorem cD_st (e : D' 322 = D 322) : st D' = st D := by funext i; unfold st; rw [e]
theorem cD_wk (e : D' 322 = D 322) : wk D' = wk D := by funext w k; unfold wk; rw [cD_st e]
theorem cD_mu (e : D' 322 = D 322) : mu D' = mu D := by funext w k; unfold mu; rw [cD_st e]
theorem cD_te (e : D' 322 = D 322) : te D' = te D := by funext w; unfold te; rw [cD_st e]
theorem cD_op (e : D' 323 = D 323) : opS D' = opS D := by funext w; unfold opS; rw [e]
theorem cD_ar (e : D' 324 = D 324) : arS D' = arS D := by funext w; unfold arS; rw [e]
theorem cD_sa (e : D' 332 = D 332) : sa D' = sa D := by funext w; unfold sa; rw [e]
theorem cD_li (e : D' 329 = D 329) : li D' = li D := by funext w; unfold li; rw [e]
theorem cD_lawGo (e3 : D' 323 = D 323) (e4 : D' 324 = D 324) {lo : Int} {x y : Int32} : ∀ (k : Nat) (i : Int) (q : Nat → Int32) (h : Nat), lawGo D' lo x y k i q h = lawGo D lo x y k i q h
  | 0, _, _, _ => rfl
  | k + 1, i, q, h => by
    unfold lawGo
    simp only [cD_op e3, cD_ar e4, cD_lawGo e3 e4 k]
theorem cD_lawOk (e3 : D' 323 = D 323) (e4 : D' 324 = D 324) {lo : Int} : ∀ (k : Nat) (i : Int) (h : Nat), lawOk D' lo k i h = lawOk D lo k i h
  | 0, _, _ => rfl
  | k + 1, i, h => by
    unfold lawOk
    simp only [cD_op e3, cD_ar e4, cD_lawOk e3 e4 k]
theorem cD_lawS (e3 : D' 323 = D 323) (e4 : D' 324 = D 324) : lawS D' = lawS D := by
  funext lo x y i
  unfold lawS
  exact cD_lawGo e3 e4 _ _ _ _
/-- the street's data are the same -/
def SamS (D D' : Nat → Nat → Int32) : Prop := D' 322 = D 322 ∧ D' 323 = D 323 ∧ D' 324 = D 324
theorem SamS.tempo (e : SamS D D') : tempoS D' = tempoS D := by
  funext w t
  unfold tempoS
  rw [cD_st e.1, cD_wk e.1, cD_lawS e.2.1 e.2.2]
theorem SamS.cue (e : SamS D D') : cueS D' = cueS D := by
  funext w
  unfold cueS
  rw [cD_wk e.1, cD_te e.1]
theorem SamS.invS (e : SamS D D') (h : InvS D) : InvS D' := by
  unfold InvS InvW InvQ at h ⊢
  rw [cD_st e.1, cD_wk e.1, cD_mu e.1, cD_te e.1]
  exact h
theorem SamS.invL (e : SamS D D') (h : InvL D) : InvL D' := by
  unfold InvL at h ⊢
  rw [cD_st e.1, cD_lawOk e.2.1 e.2.2, cD_lawOk e.2.1 e.2.2]
  exact h
theorem SamS.invB (e : SamS D D') (h : InvB D B) : InvB D' B := by
  unfold InvB at h ⊢
  rw [cD_st e.1]
  exact h
theorem SamS.rst (e : SamS D D') (h : RSt D m s) : RSt D' m s := by
  unfold RSt LawR encS at h ⊢
  rw [cD_st e.1, cD_wk e.1, cD_mu e.1, cD_te e.1, cD_op e.2.1, cD_ar e.2.2]
  exact h
theorem SamS.hd (e : SamS D D') (h : HD D m H B) : HD D' m H B := by
  unfold HD at h ⊢
  rw [cD_st e.1]
  exact h
theorem SamS.rw (e : SamS D D') (h : RW D m s W B take late) : RW D' m s W B take late := by
  unfold RW at h ⊢
  rw [cD_st e.1, cD_wk e.1, e.cue, e.tempo]
  exact h
theorem sam_keep : SamS D (keepD D) := ⟨by funext k; unfold keepD; rw [if_neg (by omega), if_neg (by omega)], by funext k; unfold keepD; rw [if_neg (by omega), if_neg (by omega)], by funext k; unfold keepD; rw [if_neg (by omega), if_neg (by omega)]⟩
theorem sam_up {a k : Nat} {v : Int32} (h2 : ¬ a = 322) (h3 : ¬ a = 323) (h4 : ¬ a = 324) : SamS D (up D a k v) := ⟨by funext j; unfold up; rw [if_neg (by omega)], by funext j; unfold up; rw [if_neg (by omega)], by funext j; unfold up; rw [if_neg (by omega)]⟩
theorem sam_cp {f t n : Nat} : SamS D (cpD D f t n) := ⟨by funext j; unfold cpD; rw [if_neg (by omega)], by funext j; unfold cpD; rw [if_neg (by omega)], by funext j; unfold cpD; rw [if_neg (by omega)]⟩
theorem sam_next {b : Nat} : SamS D (nextD D b) := ⟨by funext j; unfold nextD; rw [if_neg (by omega), if_neg (by omega)], by funext j; unfold nextD; rw [if_neg (by omega), if_neg (by omega)], by funext j; unfold nextD; rw [if_neg (by omega), if_neg (by omega)]⟩
theorem SamS.tr {D'' : Nat → Nat → Int32} (h : SamS D D') (h' : SamS D' D'') : SamS D D'' := ⟨h'.1.trans h.1, h'.2.1.trans h.2.1, h'.2.2.trans h.2.2⟩
theorem SamS.rf : SamS D D := ⟨rfl, rfl, rfl⟩
theorem ringH {i : Int} (h0 : 0 ≤ i) (h1 : i < 16) : (212 + 4 * i.toNat) ∈ hsL := by
  have : i = 0 ∨ i = 1 ∨ i = 2 ∨ i = 3 ∨ i = 4 ∨ i = 5 ∨ i = 6 ∨ i = 7 ∨ i = 8 ∨ i = 9 ∨ i = 10 ∨ i = 11 ∨ i = 12 ∨ i = 13 ∨ i = 14 ∨ i = 15 := by omega
  rcases this with rfl | rfl | rfl | rfl | rfl | rfl | rfl | rfl | rfl | rfl | rfl | rfl | rfl | rfl | rfl | rfl <;> decide
theorem ringR (h : Sh m) {i : Int} (h0 : 0 ≤ i) (h1 : i < 16) : mm_gR m 169 i.toNat = some (212 + 4 * i.toNat) := by
  have w := shW h
  have : i = 0 ∨ i = 1 ∨ i = 2 ∨ i = 3 ∨ i = 4 ∨ i = 5 ∨ i = 6 ∨ i = 7 ∨ i = 8 ∨ i = 9 ∨ i = 10 ∨ i = 11 ∨ i = 12 ∨ i = 13 ∨ i = 14 ∨ i = 15 := by omega
  rcases this with rfl | rfl | rfl | rfl | rfl | rfl | rfl | rfl | rfl | rfl | rfl | rfl | rfl | rfl | rfl | rfl <;> exact h.gR (by decide) rfl rfl
theorem HD.up2 {G : Nat} (h : HD D m G B) (u : Upd m m' (fun a k => if a = H ∧ k = 0 then mm_gI m G 0 else if a = H + 1 ∧ k < 8 then mm_gI m (G + 1) k else if a = H + 2 ∧ k < 8 then mm_gI m (G + 2) k else if a = H + 3 ∧ k < 8 then mm_gI m (G + 3) k else mm_gI m a k)) (k9 : st D 6 ≤ 8) : HD D m' H B := fun w w0 w1 => by
  obtain ⟨p1, p2, p3⟩ := h w w0 w1
  rw [u.2.2.2.2, u.2.2.2.2, u.2.2.2.2]
  dsimp only
  rw [if_neg (by omega), if_pos (show H + 1 = H + 1 ∧ w.toNat < 8 by omega), if_neg (by omega), if_neg (by omega), if_pos (show H + 2 = H + 2 ∧ w.toNat < 8 by omega), if_neg (by omega), if_neg (by omega), if_neg (by omega), if_pos (show H + 3 = H + 3 ∧ w.toNat < 8 by omega)]
  exact ⟨p1, p2, p3⟩
theorem HD.up3 {G J : Nat} (h : HD D m J B) (u : Upd m m' (fun a k => if a = H ∧ k = 0 then mm_gI m G 0 else if a = H + 1 ∧ k < 8 then mm_gI m (G + 1) k else if a = H + 2 ∧ k < 8 then mm_gI m (G + 2) k else if a = H + 3 ∧ k < 8 then mm_gI m (G + 3) k else mm_gI m a k)) (hap : H + 3 < J ∨ J + 3 < H) : HD D m' J B := fun w w0 w1 => by
  obtain ⟨p1, p2, p3⟩ := h w w0 w1
  rw [u.2.2.2.2, u.2.2.2.2, u.2.2.2.2]
  dsimp only
  rw [if_neg (by omega), if_neg (by omega), if_neg (by omega), if_neg (by omega), if_neg (by omega), if_neg (by omega), if_neg (by omega), if_neg (by omega), if_neg (by omega), if_neg (by omega), if_neg (by omega), if_neg (by omega)]
  exact ⟨p1, p2, p3⟩
theorem HD.g {G : Nat → Nat → Bool} (h : HD D m H B) (f : Fr G m m') (z : ∀ a k, H + 1 ≤ a → a ≤ H + 3 → G a k = false) : HD D m' H B := fun w w0 w1 => by
  obtain ⟨p1, p2, p3⟩ := h w w0 w1
  exact ⟨(f.gI (z _ _ (by omega) (by omega))).trans p1, (f.gI (z _ _ (by omega) (by omega))).trans p2, (f.gI (z _ _ (by omega) (by omega))).trans p3⟩
theorem HD.sa (h : HD D m H B) {C : Int → Int} (e : ∀ j, 1 ≤ j → j < 25 → B j = C j) (k9 : st D 6 ≤ 8) : HD D m H C := fun w w0 w1 => by
  obtain ⟨a, b, c⟩ := h w w0 w1
  rw [e _ (by omega) (by omega)] at a
  rw [e _ (by omega) (by omega)] at b
  rw [e _ (by omega) (by omega)] at c
  exact ⟨a, b, c⟩
/-- the ring's own places, and the object's -/
def scR (a k : Nat) : Bool := (Nat.beq a 100 && (Nat.beq k 10 || Nat.beq k 11)) || (Nat.ble 212 a && Nat.ble a 275)
theorem keep_un (u0 : 0 ≤ und D) (u1 : und D ≤ 16) : und (keepD D) = if und D = 16 then 16 else und D + 1 := by
  show (keepD D 316 26).toInt = _
  unfold keepD
  rw [if_pos ⟨rfl, rfl⟩, iI_val (by split <;> omega) (by split <;> omega)]
/-- remember -/
theorem keep_b (u0 : 0 ≤ und D) (u1 : und D ≤ 16) {k j : Int} (k0 : 0 ≤ k) (j0 : 0 ≤ j) (j1 : j < 25) : (und D = 16 → k < 15 → sa (keepD D) (80 * (5 + k) + j) = sa D (80 * (5 + (k + 1)) + j)) ∧ (und D = 16 → k = 15 → sa (keepD D) (80 * (5 + k) + j) = sa D j) ∧ (und D < 16 → k = und D → sa (keepD D) (80 * (5 + k) + j) = sa D j) ∧ (und D < 16 → k < und D → sa (keepD D) (80 * (5 + k) + j) = sa D (80 * (5 + k) + j)) := by
  unfold sa
  have e : ∀ x : Nat, keepD D 332 x = if 400 ≤ x ∧ (x - 400) % 80 < 25 then (if und D = 16 then (if x < 1600 then D 332 (x + 80) else if x < 1680 then D 332 ((x - 400) % 80) else D 332 x) else if (x - 400) / 80 = (und D).toNat then D 332 ((x - 400) % 80) else D 332 x) else D 332 x := by
    intro x
    unfold keepD
    rw [if_neg (by omega)]
    simp only [true_and]
  refine ⟨fun h1 h2 => ?_, fun h1 h2 => ?_, fun h1 h2 => ?_, fun h1 h2 => ?_⟩
  · rw [e, if_pos (by omega), if_pos h1, if_pos (by omega), show (80 * (5 + k) + j).toNat + 80 = (80 * (5 + (k + 1)) + j).toNat by omega]
  · rw [e, if_pos (by omega), if_pos h1, if_neg (by omega), if_pos (by omega), show ((80 * (5 + k) + j).toNat - 400) % 80 = j.toNat by omega]
  · rw [e, if_pos (by omega), if_neg (by omega), if_pos (by omega), show ((80 * (5 + k) + j).toNat - 400) % 80 = j.toNat by omega]
  · rw [e, if_pos (by omega), if_neg (by omega), if_neg (by omega)]
end
