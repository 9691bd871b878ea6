/-- hands, told laws and sights of one block, within their bounds -/
def BkB (D : Nat → Nat → Int32) (B : Int → Int) : Prop := InvB D B ∧ B 0 ≤ 60
def BkT (B : Int → Int) : Prop := (0 ≤ B 25 ∧ B 25 ≤ 10) ∧ ∀ k, 0 ≤ k → k < B 25 → (0 ≤ B (26 + 2 * k) ∧ B (26 + 2 * k) ≤ 60) ∧ (0 ≤ B (26 + 2 * k + 1) ∧ B (26 + 2 * k + 1) ≤ 600)
def BkP (D : Nat → Nat → Int32) (B : Int → Int) : Prop := (0 ≤ B 46 ∧ B 46 ≤ 10) ∧ ∀ k, 0 ≤ k → k < B 46 → (0 ≤ B (47 + 3 * k) ∧ B (47 + 3 * k) ≤ 600) ∧ (0 ≤ B (47 + 3 * k + 1) ∧ B (47 + 3 * k + 1) < st D 0) ∧ (0 ≤ B (47 + 3 * k + 2) ∧ B (47 + 3 * k + 2) ≤ 1)
/-- all that holds of the data between calls -/
def GI (D : Nat → Nat → Int32) : Prop := InvS D ∧ InvL D ∧ InvN D ∧ BkB D (sa D) ∧ BkT (sa D) ∧ BkP D (sa D) ∧ (∀ k, 0 ≤ k → k < und D → BkB D (ubS D (80 * (5 + k)))) ∧ (∀ k, 0 ≤ k → k < 4 → ¬ mkd D k = 0 → BkB D (ubS D (80 * (1 + k))) ∧ BkT (ubS D (80 * (1 + k))) ∧ BkP D (ubS D (80 * (1 + k))))
section
variable {D D' X : Nat → Nat → Int32} {B B' : Int → Int}
theorem BkB.cg (h : BkB D B) (e : ∀ j, 0 ≤ j → j < 25 → B' j = B j) (k9 : st D 6 ≤ 8) : BkB D B' := by
  obtain ⟨⟨h0, h1⟩, h2⟩ := h
  have e0 := e 0 (by omega) (by omega)
  refine ⟨⟨by rw [e0]; exact h0, fun w w0 w1 => ?_⟩, by rw [e0]; exact h2⟩
  rw [e _ (by omega) (by omega), e _ (by omega) (by omega), e _ (by omega) (by omega)]
  exact h1 w w0 w1
theorem BkT.cg (h : BkT B) (e : ∀ j, 25 ≤ j → j < 46 → B' j = B j) : BkT B' := by
  obtain ⟨h0, h1⟩ := h
  have e0 := e 25 (by omega) (by omega)
  refine ⟨by rw [e0]; exact h0, fun k k0 k1 => ?_⟩
  rw [e0] at k1
  rw [e _ (by omega) (by omega), e _ (by omega) (by omega)]
  exact h1 k k0 k1
theorem BkP.cg (h : BkP D B) (e : ∀ j, 46 ≤ j → j < 80 → B' j = B j) : BkP D B' := by
  obtain ⟨h0, h1⟩ := h
  have e0 := e 46 (by omega) (by omega)
  refine ⟨by rw [e0]; exact h0, fun k k0 k1 => ?_⟩
  rw [e0] at k1
  rw [e _ (by omega) (by omega), e _ (by omega) (by omega), e _ (by omega) (by omega)]
  exact h1 k k0 k1
theorem SamS.bkB (e : SamS D D') (h : BkB D B) : BkB D' B := ⟨e.invB h.1, h.2⟩
theorem SamS.bkP (e : SamS D D') (h : BkP D B) : BkP D' B := by
  unfold BkP at h ⊢
  rw [cD_st e.1]
  exact h
theorem SamS.invN (e : SamS D D') (e9 : ∀ j, D' 329 j = D 329 j) (h : InvN D) : InvN D' := by
  unfold InvN at h ⊢
  rw [cD_st e.1, cD_li (funext e9)]
  exact h
theorem GI.k9 (h : GI D) : st D 6 ≤ 8 := h.1.2.2.2.2.2.1.2
theorem GI.ch (h : GI D) (e : SamS D D') (hN : InvN D') (hB : BkB D (sa D')) (hT : BkT (sa D')) (hP : BkP D (sa D')) (hU : ∀ k, 0 ≤ k → k < und D' → BkB D (ubS D' (80 * (5 + k)))) (hM : ∀ k, 0 ≤ k → k < 4 → ¬ mkd D' k = 0 → BkB D (ubS D' (80 * (1 + k))) ∧ BkT (ubS D' (80 * (1 + k))) ∧ BkP D (ubS D' (80 * (1 + k)))) : GI D' :=
  ⟨e.invS h.1, e.invL h.2.1, hN, e.bkB hB, hT, e.bkP hP, fun k k0 k1 => e.bkB (hU k k0 k1), fun k k0 k1 z => ⟨e.bkB (hM k k0 k1 z).1, (hM k k0 k1 z).2.1, e.bkP (hM k k0 k1 z).2.2⟩⟩
/-- nothing of the state but the tape, or the lines -/
theorem GI.sam (h : GI D) (e : SamS D D') (hN : InvN D') (e26 : D' 316 26 = D 316 26) (e332 : ∀ j, D' 332 j = D 332 j) (e333 : ∀ j, D' 333 j = D 333 j) : GI D' := by
  have es : sa D' = sa D := cD_sa (funext e332)
  have eu : und D' = und D := by unfold und; rw [e26]
  have eb : ∀ b, ubS D' b = ubS D b := fun b => by unfold ubS; rw [es]
  have em : ∀ k, mkd D' k = mkd D k := fun k => by unfold mkd; rw [e333]
  obtain ⟨-, -, -, h4, h5, h6, h7, h8⟩ := id h
  refine h.ch e hN (by rw [es]; exact h4) (by rw [es]; exact h5) (by rw [es]; exact h6) (fun k k0 k1 => ?_) (fun k k0 k1 z => ?_)
  · rw [eb]; rw [eu] at k1; exact h7 k k0 k1
  · rw [eb]; rw [em] at z; exact h8 k k0 k1 z
theorem GI.len (h : GI D) {v : Int32} : GI (up D 316 2 v) :=
  h.sam (sam_up (by decide) (by decide) (by decide)) ((sam_up (by decide) (by decide) (by decide)).invN (fun j => by unfold up; rw [if_neg (by omega)]) h.2.2.1) (by unfold up; rw [if_neg (by omega)]) (fun j => by unfold up; rw [if_neg (by omega)]) (fun j => by unfold up; rw [if_neg (by omega)])
theorem GI.lay (h : GI D) {v : Int64} : GI (layD D v) := by
  have e : SamS D (layD D v) := ⟨funext fun j => lay_o (by omega) (by omega), funext fun j => lay_o (by omega) (by omega), funext fun j => lay_o (by omega) (by omega)⟩
  exact h.sam e (e.invN (fun j => lay_o (by omega) (by omega)) h.2.2.1) (lay_o (by omega) (by omega)) (fun j => lay_o (by omega) (by omega)) (fun j => lay_o (by omega) (by omega))
theorem GI.ly (h : GI D) {A : Nat → Int} {k : Int} (hN : InvN (lyD D A k)) : GI (lyD D A k) :=
  h.sam ⟨funext fun j => ly_o (by omega), funext fun j => ly_o (by omega), funext fun j => ly_o (by omega)⟩ hN (ly_o (by omega)) (fun j => ly_o (by omega)) (fun j => ly_o (by omega))
/-- a new street -/
theorem GI.bg {i : Int} (hX : LX X i) : GI (bgD (cmD D X)) := by
  have hS := bc_S (D := D) hX.1
  obtain ⟨z1, z2, z3⟩ := bc_s0 (D := D) (X := X)
  have k9 := hS.2.2.2.2.2.1
  refine ⟨hS, bc_L hX, ?_, ⟨⟨?_, fun w w0 w1 => ?_⟩, ?_⟩, ?_, ?_, fun k k0 k1 => ?_, fun k k0 k1 z => ?_⟩
  · refine ⟨by rw [bc_li]; omega, fun k k0 k1 => ?_⟩
    rw [bc_li] at k1
    omega
  · rw [z3]; omega
  · obtain ⟨-, -, q2, q3, -⟩ := hS.2.2.2.2.2.2.2.2.2.1 w w0 w1
    rw [← bc_b (by omega) (by omega), ← bc_b (by omega) (by omega), ← bc_b (by omega) (by omega)]
    unfold begB
    rw [if_neg (by omega), if_pos (by omega), if_neg (by omega), if_neg (by omega), if_pos (by omega), if_neg (by omega), if_neg (by omega), if_neg (by omega), show 1 + w - 1 = w by omega, show 9 + w - 9 = w by omega]
    exact ⟨q2, q3, by omega, by omega⟩
  · rw [z3]; omega
  · refine ⟨by rw [z1]; omega, fun k k0 k1 => ?_⟩
    rw [z1] at k1
    omega
  · refine ⟨by rw [z2]; omega, fun k k0 k1 => ?_⟩
    rw [z2] at k1
    omega
  · rw [bc_un] at k1
    omega
  · exact absurd (bc_mk k0 k1) z
/-- the ring behind remember -/
theorem GI.kU (h : GI D) (u0 : 0 ≤ und D) (u1 : und D ≤ 16) : ∀ k, 0 ≤ k → k < und (keepD D) → BkB D (ubS (keepD D) (80 * (5 + k))) := by
  intro k k0 k1
  have k9 := h.k9
  obtain ⟨-, -, -, h4, -, -, h7, -⟩ := h
  rw [keep_un u0 u1] at k1
  by_cases y : und D = 16
  · rw [if_pos y] at k1
    by_cases z : k < 15
    · refine (h7 (k + 1) (by omega) (by omega)).cg (fun j j0 j1 => ?_) k9
      exact (keep_b u0 u1 k0 j0 j1).1 y z
    · refine h4.cg (fun j j0 j1 => ?_) k9
      exact (keep_b u0 u1 k0 j0 j1).2.1 y (by omega)
  · rw [if_neg y] at k1
    by_cases z : k = und D
    · refine h4.cg (fun j j0 j1 => ?_) k9
      exact (keep_b u0 u1 k0 j0 j1).2.2.1 (by omega) z
    · refine (h7 k (by omega) (by omega)).cg (fun j j0 j1 => ?_) k9
      exact (keep_b u0 u1 k0 j0 j1).2.2.2 (by omega) (by omega)
/-- hands changed behind remember -/
theorem GI.keep (h : GI D) (u0 : 0 ≤ und D) (u1 : und D ≤ 16) (e : SamS (keepD D) D') (e26 : D' 316 26 = keepD D 316 26) (e332 : ∀ j, 25 ≤ j → D' 332 j = keepD D 332 j) (e333 : ∀ j, D' 333 j = keepD D 333 j) (e329 : ∀ j, D' 329 j = keepD D 329 j) (hB : BkB D (sa D')) : GI D' := by
  have e' := sam_keep.tr e
  have eu : und D' = und (keepD D) := by unfold und; rw [e26]
  have es : ∀ j : Int, 25 ≤ j → sa D' j = sa (keepD D) j := fun j hj => sa_c (e332 _ (by omega))
  have ek : ∀ j : Int, j < 400 → sa (keepD D) j = sa D j := fun j hj => by unfold sa; rw [keep_lo (by omega)]
  have k9 := h.k9
  obtain ⟨-, -, h3, -, h5, h6, h7, h8⟩ := id h
  refine h.ch e' (e'.invN (fun j => (e329 j).trans (keep_29 j)) h3) hB (h5.cg (fun j j0 j1 => by rw [es j (by omega), ek j (by omega)])) (h6.cg (fun j j0 j1 => by rw [es j (by omega), ek j (by omega)])) (fun k k0 k1 => ?_) (fun k k0 k1 z => ?_)
  · rw [eu] at k1
    exact (h.kU u0 u1 k k0 k1).cg (fun j j0 j1 => es _ (by omega)) k9
  · have em : mkd D' k = mkd D k := by unfold mkd; rw [e333, keep_33]
    rw [em] at z
    obtain ⟨q1, q2, q3⟩ := h8 k k0 k1 z
    have ee : ∀ j : Int, 0 ≤ j → j < 80 → ubS D' (80 * (1 + k)) j = ubS D (80 * (1 + k)) j := fun j j0 j1 => by
      unfold ubS
      rw [es _ (by omega), ek _ (by omega)]
    exact ⟨q1.cg (fun j j0 j1 => ee j j0 (by omega)) k9, q2.cg (fun j j0 j1 => ee j (by omega) (by omega)), q3.cg (fun j j0 j1 => ee j (by omega) (by omega))⟩
theorem GI.hand (h : GI D) (u0 : 0 ≤ und D) (u1 : und D ≤ 16) {x v : Int} (x0 : 1 ≤ x) (x1 : x < 25) (v0 : -2147483648 ≤ v) (v1 : v < 2147483648) (h1 : x < 9 → 0 ≤ v ∧ v < st D 0) (h2 : 9 ≤ x → x < 17 → 0 ≤ v ∧ v ≤ 1) (h3 : 17 ≤ x → 0 ≤ v ∧ v ≤ 99) : GI (up (keepD D) 332 x.toNat (iI v)) := by
  have k9 := h.k9
  refine h.keep u0 u1 (sam_up (by decide) (by decide) (by decide)) (by unfold up; rw [if_neg (by omega)]) (fun j j0 => by unfold up; rw [if_neg (by omega)]) (fun j => by unfold up; rw [if_neg (by omega)]) (fun j => by unfold up; rw [if_neg (by omega)]) ?_
  have hb := h.2.2.2.1
  have q : BkB D (updB (sa D) x v) := ⟨hb.1.upd (fun z => by omega) (fun _ z => h1 z) h2 h3 k9, by
    unfold updB
    rw [if_neg (by omega)]
    exact hb.2⟩
  refine q.cg (fun j j0 j1 => ?_) k9
  unfold updB
  by_cases y : j = x
  · subst y
    rw [if_pos rfl]
    unfold sa up
    rw [if_pos ⟨rfl, rfl⟩, iI_val v0 v1]
  · rw [if_neg y]
    unfold sa up
    rw [if_neg (by omega), keep_lo (by omega)]
theorem isWk_u {w : Int} (h : isWk D w = true) : 0 ≤ w ∧ w < st D 6 := by
  unfold isWk at h
  rw [Bool.and_eq_true, decide_eq_true_eq, decide_eq_true_eq] at h
  exact h
theorem inB_u {x lo hi : Int} (h : inB x lo hi = true) : lo ≤ x ∧ x ≤ hi := by
  unfold inB at h
  rw [Bool.and_eq_true, decide_eq_true_eq, decide_eq_true_eq] at h
  exact h
theorem GI.start (h : GI D) (u0 : 0 ≤ und D) (u1 : und D ≤ 16) {w c : Int} : GI (startD D w c) := by
  unfold startD
  by_cases y : startOk D w c = true
  · rw [if_pos y]
    unfold startOk at y
    rw [Bool.and_eq_true] at y
    obtain ⟨a1, a2⟩ := isWk_u y.1
    obtain ⟨b1, b2⟩ := inB_u y.2
    have k9 := h.k9
    have k0 := h.1.1
    exact h.hand u0 u1 (by omega) (by omega) (by omega) (by omega) (fun _ => by omega) (fun z _ => by omega) (fun z => by omega)
  · rw [if_neg y]
    exact h
theorem GI.turn (h : GI D) (u0 : 0 ≤ und D) (u1 : und D ≤ 16) {w : Int} : GI (turnD D w) := by
  unfold turnD
  by_cases y : isWk D w = true
  · rw [if_pos y]
    obtain ⟨a1, a2⟩ := isWk_u y
    have k9 := h.k9
    have q := (h.2.2.2.1.1.2 w a1 a2).2.1
    exact h.hand u0 u1 (by omega) (by omega) (by omega) (by omega) (fun z => by omega) (fun _ _ => by omega) (fun z => by omega)
  · rw [if_neg y]
    exact h
theorem GI.late (h : GI D) (u0 : 0 ≤ und D) (u1 : und D ≤ 16) {w c : Int} : GI (lateD D w c) := by
  unfold lateD
  by_cases y : lateOk D w c = true
  · rw [if_pos y]
    unfold lateOk at y
    rw [Bool.and_eq_true] at y
    obtain ⟨a1, a2⟩ := isWk_u y.1
    obtain ⟨b1, b2⟩ := inB_u y.2
    have k9 := h.k9
    exact h.hand u0 u1 (by omega) (by omega) (by omega) (by omega) (fun z => by omega) (fun _ z => by omega) (fun _ => by omega)
  · rw [if_neg y]
    exact h
theorem GI.take (h : GI D) (u0 : 0 ≤ und D) (u1 : und D ≤ 16) : GI (takeD D) := by
  unfold takeD
  by_cases y : sa D 0 = 60
  · rw [if_pos y]
    exact h
  · rw [if_neg y]
    have k9 := h.k9
    have hb := h.2.2.2.1
    have b0 := hb.1.1.1
    have b1 := hb.2
    refine h.keep u0 u1 sam_next (by unfold nextD; rw [if_neg (by omega), if_neg (by omega)]) (fun j j0 => by unfold nextD; rw [if_neg (by omega), if_neg (by omega)]) (fun j => by unfold nextD; rw [if_neg (by omega), if_neg (by omega)]) (fun j => by unfold nextD; rw [if_neg (by omega), if_neg (by omega)]) ?_
    have q : BkB D (nextB (sa D)) := ⟨hb.1.next (by omega) k9, by
      unfold nextB
      rw [if_pos rfl]
      omega⟩
    refine q.cg (fun j j0 j1 => ?_) k9
    unfold nextB
    by_cases z : j = 0
    · subst z
      rw [if_pos rfl]
      show (nextD (keepD D) 0 332 0).toInt = _
      unfold nextD
      rw [if_pos ⟨rfl, rfl⟩, keep_lo (by omega), ← iI_toInt (D 332 0), iI_add]
      show (iI (sa D 0 + 1)).toInt = _
      rw [iI_val (by omega) (by omega)]
    · rw [if_neg z]
      by_cases z2 : 17 ≤ j ∧ j < 25
      · rw [if_pos z2]
        unfold sa nextD
        rw [if_neg (by omega), if_pos (by omega)]
        rfl
      · rw [if_neg z2]
        unfold sa nextD
        rw [if_neg (by omega), if_neg (by omega), keep_lo (by omega)]
theorem GI.undo (h : GI D) (u0 : 0 ≤ und D) (u1 : und D ≤ 16) : GI (undoD D) := by
  unfold undoD
  by_cases y : und D = 0
  · rw [if_pos y]
    exact h
  · rw [if_neg y]
    have k9 := h.k9
    obtain ⟨-, -, h3, -, h5, h6, h7, h8⟩ := id h
    have e1 : SamS D (cpD (up D 316 26 (iI (und D - 1))) (80 * (4 + (und D).toNat)) 0 25) := (sam_up (by decide) (by decide) (by decide)).tr sam_cp
    have o : ∀ a k, ¬ (a = 332 ∧ k < 25) → ¬ (a = 316 ∧ k = 26) → cpD (up D 316 26 (iI (und D - 1))) (80 * (4 + (und D).toNat)) 0 25 a k = D a k := fun a k z1 z2 => by
      unfold cpD
      rw [if_neg (by omega)]
      unfold up
      rw [if_neg z2]
    have eu : und (cpD (up D 316 26 (iI (und D - 1))) (80 * (4 + (und D).toNat)) 0 25) = und D - 1 := by
      show (cpD (up D 316 26 (iI (und D - 1))) (80 * (4 + (und D).toNat)) 0 25 316 26).toInt = _
      unfold cpD
      rw [if_neg (by omega)]
      unfold up
      rw [if_pos ⟨rfl, rfl⟩, iI_val (by omega) (by omega)]
    have es : ∀ j : Int, 25 ≤ j → sa (cpD (up D 316 26 (iI (und D - 1))) (80 * (4 + (und D).toNat)) 0 25) j = sa D j := fun j hj => sa_c (o _ _ (by omega) (by omega))
    refine h.ch e1 (e1.invN (fun j => o _ _ (by omega) (by omega)) h3) ?_ (h5.cg (fun j j0 j1 => es j (by omega))) (h6.cg (fun j j0 j1 => es j (by omega))) (fun k k0 k1 => ?_) (fun k k0 k1 z => ?_)
    · refine (h7 (und D - 1) (by omega) (by omega)).cg (fun j j0 j1 => ?_) k9
      unfold sa ubS cpD
      rw [if_pos (by omega)]
      unfold up
      rw [if_neg (by omega)]
      unfold sa
      rw [show j.toNat - 0 + 80 * (4 + (und D).toNat) = (80 * (5 + (und D - 1)) + j).toNat by omega]
    · rw [eu] at k1
      exact (h7 k k0 (by omega)).cg (fun j j0 j1 => es _ (by omega)) k9
    · have em : mkd (cpD (up D 316 26 (iI (und D - 1))) (80 * (4 + (und D).toNat)) 0 25) k = mkd D k := by unfold mkd; rw [o _ _ (by omega) (by omega)]
      rw [em] at z
      obtain ⟨q1, q2, q3⟩ := h8 k k0 k1 z
      exact ⟨q1.cg (fun j j0 j1 => es _ (by omega)) k9, q2.cg (fun j j0 j1 => es _ (by omega)), q3.cg (fun j j0 j1 => es _ (by omega))⟩
/-- papers alone -/
theorem GI.pap (h : GI D) (e : SamS D D') (e26 : D' 316 26 = D 316 26) (e332 : ∀ j, j < 25 ∨ 80 ≤ j → D' 332 j = D 332 j) (e333 : ∀ j, D' 333 j = D 333 j) (e329 : ∀ j, D' 329 j = D 329 j) (hT : BkT (sa D')) (hP : BkP D (sa D')) : GI D' := by
  have k9 := h.k9
  obtain ⟨-, -, h3, h4, -, -, h7, h8⟩ := id h
  have eu : und D' = und D := by unfold und; rw [e26]
  have es : ∀ j : Int, 0 ≤ j → (j < 25 ∨ 80 ≤ j) → sa D' j = sa D j := fun j j0 hj => sa_c (e332 _ (by omega))
  refine h.ch e (e.invN e329 h3) (h4.cg (fun j j0 j1 => es j j0 (by omega)) k9) hT hP (fun k k0 k1 => ?_) (fun k k0 k1 z => ?_)
  · rw [eu] at k1
    exact (h7 k k0 (by omega)).cg (fun j j0 j1 => es _ (by omega) (by omega)) k9
  · have em : mkd D' k = mkd D k := by unfold mkd; rw [e333]
    rw [em] at z
    obtain ⟨q1, q2, q3⟩ := h8 k k0 k1 z
    exact ⟨q1.cg (fun j j0 j1 => es _ (by omega) (by omega)) k9, q2.cg (fun j j0 j1 => es _ (by omega) (by omega)), q3.cg (fun j j0 j1 => es _ (by omega) (by omega))⟩
theorem up_o {a k b j : Nat} {v : Int32} (h : ¬ (b = a ∧ j = k)) : up D a k v b j = D b j := by unfold up; rw [if_neg h]
theorem sa_up {k : Nat} {v j : Int} (v0 : -2147483648 ≤ v) (v1 : v < 2147483648) : sa (up D 332 k (iI v)) j = if j.toNat = k then v else sa D j := by
  unfold sa up
  by_cases y : j.toNat = k
  · rw [if_pos ⟨rfl, y⟩, if_pos y, iI_val v0 v1]
  · rw [if_neg (fun z => y z.2), if_neg y]
theorem GI.tell (h : GI D) {ta t : Int} : GI (tellD D ta t) := by
  unfold tellD
  by_cases y : tellOk D ta t = true
  · rw [if_pos y]
    unfold tellOk at y
    rw [Bool.and_eq_true, Bool.and_eq_true, Bool.not_eq_true', decide_eq_false_iff_not] at y
    obtain ⟨a1, a2⟩ := inB_u y.1
    obtain ⟨b1, b2⟩ := inB_u y.2.1
    have y2 := y.2.2
    obtain ⟨⟨c0, c1⟩, hT⟩ := h.2.2.2.2.1
    generalize hc : sa D 25 = c at *
    have es : ∀ j : Int, sa (up (up (up D 332 (26 + 2 * c).toNat (iI ta)) 332 (26 + 2 * c + 1).toNat (iI t)) 332 25 (iI (c + 1))) j = if j.toNat = 25 then c + 1 else if j.toNat = (26 + 2 * c + 1).toNat then t else if j.toNat = (26 + 2 * c).toNat then ta else sa D j := fun j => by
      rw [sa_up (by omega) (by omega), sa_up (by omega) (by omega), sa_up (by omega) (by omega)]
    have s2 : ∀ D' : Nat → Nat → Int32, ∀ k v, SamS D' (up D' 332 k v) := fun D' k v => sam_up (by decide) (by decide) (by decide)
    refine h.pap (((s2 _ _ _).tr (s2 _ _ _)).tr (s2 _ _ _)) (by rw [up_o (by omega), up_o (by omega), up_o (by omega)]) (fun j hj => by rw [up_o (by omega), up_o (by omega), up_o (by omega)]) (fun j => by rw [up_o (by omega), up_o (by omega), up_o (by omega)]) (fun j => by rw [up_o (by omega), up_o (by omega), up_o (by omega)]) ?_ (h.2.2.2.2.2.1.cg (fun j j0 j1 => ?_))
    · have e25 : sa (up (up (up D 332 (26 + 2 * c).toNat (iI ta)) 332 (26 + 2 * c + 1).toNat (iI t)) 332 25 (iI (c + 1))) 25 = c + 1 := by rw [es, if_pos (by omega)]
      refine ⟨by rw [e25]; omega, fun k k0 k1 => ?_⟩
      rw [e25] at k1
      rw [es, es]
      by_cases z : k = c
      · subst z
        rw [if_neg (by omega), if_neg (by omega), if_pos (by omega), if_neg (by omega), if_pos (by omega)]
        omega
      · rw [if_neg (by omega), if_neg (by omega), if_neg (by omega), if_neg (by omega), if_neg (by omega), if_neg (by omega)]
        exact hT k k0 (by omega)
    · rw [es, if_neg (by omega), if_neg (by omega), if_neg (by omega)]
  · rw [if_neg y]
    exact h
theorem GI.sight (h : GI D) {t c : Int} {r : Bool} : GI (sightD D t c r) := by
  unfold sightD
  by_cases y : sightOk D t c = true
  · rw [if_pos y]
    unfold sightOk at y
    rw [Bool.and_eq_true, Bool.and_eq_true, Bool.not_eq_true', decide_eq_false_iff_not] at y
    obtain ⟨a1, a2⟩ := inB_u y.1
    obtain ⟨b1, b2⟩ := inB_u y.2.1
    have y2 := y.2.2
    have k0 := h.1.1
    have rr := bI_r r
    obtain ⟨⟨c0, c1⟩, hP⟩ := h.2.2.2.2.2.1
    generalize hc : sa D 46 = n at *
    have es : ∀ j : Int, sa (up (up (up (up D 332 (47 + 3 * n).toNat (iI t)) 332 (47 + 3 * n + 1).toNat (iI c)) 332 (47 + 3 * n + 2).toNat (iI (bI r))) 332 46 (iI (n + 1))) j = if j.toNat = 46 then n + 1 else if j.toNat = (47 + 3 * n + 2).toNat then bI r else if j.toNat = (47 + 3 * n + 1).toNat then c else if j.toNat = (47 + 3 * n).toNat then t else sa D j := fun j => by
      rw [sa_up (by omega) (by omega), sa_up (by omega) (by omega), sa_up (by omega) (by omega), sa_up (by omega) (by omega)]
    have s2 : ∀ D' : Nat → Nat → Int32, ∀ k v, SamS D' (up D' 332 k v) := fun D' k v => sam_up (by decide) (by decide) (by decide)
    refine h.pap ((((s2 _ _ _).tr (s2 _ _ _)).tr (s2 _ _ _)).tr (s2 _ _ _)) (by rw [up_o (by omega), up_o (by omega), up_o (by omega), up_o (by omega)]) (fun j hj => by rw [up_o (by omega), up_o (by omega), up_o (by omega), up_o (by omega)]) (fun j => by rw [up_o (by omega), up_o (by omega), up_o (by omega), up_o (by omega)]) (fun j => by rw [up_o (by omega), up_o (by omega), up_o (by omega), up_o (by omega)]) (h.2.2.2.2.1.cg (fun j j0 j1 => ?_)) ?_
    · rw [es, if_neg (by omega), if_neg (by omega), if_neg (by omega), if_neg (by omega)]
    · have e46 : sa (up (up (up (up D 332 (47 + 3 * n).toNat (iI t)) 332 (47 + 3 * n + 1).toNat (iI c)) 332 (47 + 3 * n + 2).toNat (iI (bI r))) 332 46 (iI (n + 1))) 46 = n + 1 := by rw [es, if_pos (by omega)]
      refine ⟨by rw [e46]; omega, fun k k0 k1 => ?_⟩
      rw [e46] at k1
      rw [es, es, es]
      by_cases z : k = n
      · subst z
        rw [if_neg (by omega), if_neg (by omega), if_neg (by omega), if_pos (by omega), if_neg (by omega), if_neg (by omega), if_pos (by omega), if_neg (by omega), if_pos (by omega)]
        omega
      · rw [if_neg (by omega), if_neg (by omega), if_neg (by omega), if_neg (by omega), if_neg (by omega), if_neg (by omega), if_neg (by omega), if_neg (by omega), if_neg (by omega), if_neg (by omega), if_neg (by omega), if_neg (by omega)]
        exact hP k k0 (by omega)
  · rw [if_neg y]
    exact h
theorem GI.mark (h : GI D) {k : Int} {back : Bool} : GI (markD D k back) := by
  unfold markD
  by_cases y : markOk D k back = true
  · rw [if_pos y]
    unfold markOk at y
    rw [Bool.and_eq_true] at y
    obtain ⟨a1, a2⟩ := inB_u y.1
    have k9 := h.k9
    obtain ⟨-, -, h3, h4, h5, h6, h7, h8⟩ := id h
    cases back
    · rw [if_neg (by decide)]
      have e1 : SamS D (cpD (up D 333 k.toNat (iI 1)) 0 (80 * (1 + k.toNat)) 80) := (sam_up (by decide) (by decide) (by decide)).tr sam_cp
      have o : ∀ a j, ¬ (a = 332 ∧ 80 * (1 + k.toNat) ≤ j ∧ j < 80 * (1 + k.toNat) + 80) → ¬ a = 333 → cpD (up D 333 k.toNat (iI 1)) 0 (80 * (1 + k.toNat)) 80 a j = D a j := fun a j z1 z2 => by
        unfold cpD
        rw [if_neg z1]
        unfold up
        rw [if_neg (by omega)]
      have eu : und (cpD (up D 333 k.toNat (iI 1)) 0 (80 * (1 + k.toNat)) 80) = und D := by unfold und; rw [o _ _ (by omega) (by omega)]
      have es : ∀ j : Int, 0 ≤ j → ¬ (80 * (1 + k) ≤ j ∧ j < 80 * (1 + k) + 80) → sa (cpD (up D 333 k.toNat (iI 1)) 0 (80 * (1 + k.toNat)) 80) j = sa D j := fun j j0 hj => sa_c (o _ _ (by omega) (by omega))
      refine h.ch e1 (e1.invN (fun j => o _ _ (by omega) (by omega)) h3) (h4.cg (fun j j0 j1 => es j j0 (by omega)) k9) (h5.cg (fun j j0 j1 => es j (by omega) (by omega))) (h6.cg (fun j j0 j1 => es j (by omega) (by omega))) (fun i i0 i1 => ?_) (fun i i0 i1 z => ?_)
      · rw [eu] at i1
        exact (h7 i i0 i1).cg (fun j j0 j1 => es _ (by omega) (by omega)) k9
      · by_cases w : i = k
        · subst w
          have ee : ∀ j : Int, 0 ≤ j → j < 80 → ubS (cpD (up D 333 i.toNat (iI 1)) 0 (80 * (1 + i.toNat)) 80) (80 * (1 + i)) j = sa D j := fun j j0 j1 => by
            unfold ubS sa cpD
            rw [if_pos (by omega)]
            unfold up
            rw [if_neg (by omega), show (80 * (1 + i) + j).toNat - 80 * (1 + i.toNat) + 0 = j.toNat by omega]
          exact ⟨h4.cg (fun j j0 j1 => ee j j0 (by omega)) k9, h5.cg (fun j j0 j1 => ee j (by omega) (by omega)), h6.cg (fun j j0 j1 => ee j (by omega) (by omega))⟩
        · have em : mkd (cpD (up D 333 k.toNat (iI 1)) 0 (80 * (1 + k.toNat)) 80) i = mkd D i := by
            unfold mkd cpD
            rw [if_neg (by omega)]
            unfold up
            rw [if_neg (by omega)]
          rw [em] at z
          obtain ⟨q1, q2, q3⟩ := h8 i i0 i1 z
          exact ⟨q1.cg (fun j j0 j1 => es _ (by omega) (by omega)) k9, q2.cg (fun j j0 j1 => es _ (by omega) (by omega)), q3.cg (fun j j0 j1 => es _ (by omega) (by omega))⟩
    · rw [if_pos rfl]
      have y2 : ¬ mkd D k = 0 := by
        have := y.2
        rw [Bool.not_true, Bool.false_or, Bool.not_eq_true', decide_eq_false_iff_not] at this
        exact this
      obtain ⟨g1, g2, g3⟩ := h8 k a1 (by omega) y2
      have e1 : SamS D (up (cpD (up D 333 k.toNat (iI 1)) (80 * (1 + k.toNat)) 0 80) 316 26 (iI 0)) := ((sam_up (by decide) (by decide) (by decide)).tr sam_cp).tr (sam_up (by decide) (by decide) (by decide))
      have o : ∀ a j, ¬ (a = 332 ∧ j < 80) → ¬ a = 333 → ¬ (a = 316 ∧ j = 26) → up (cpD (up D 333 k.toNat (iI 1)) (80 * (1 + k.toNat)) 0 80) 316 26 (iI 0) a j = D a j := fun a j z1 z2 z3 => by
        rw [up_o z3]
        unfold cpD
        rw [if_neg (by omega)]
        rw [up_o (by omega)]
      have eu : und (up (cpD (up D 333 k.toNat (iI 1)) (80 * (1 + k.toNat)) 0 80) 316 26 (iI 0)) = 0 := by
        show (up (cpD (up D 333 k.toNat (iI 1)) (80 * (1 + k.toNat)) 0 80) 316 26 (iI 0) 316 26).toInt = 0
        unfold up
        rw [if_pos ⟨rfl, rfl⟩]
        rfl
      have es : ∀ j : Int, 80 ≤ j → sa (up (cpD (up D 333 k.toNat (iI 1)) (80 * (1 + k.toNat)) 0 80) 316 26 (iI 0)) j = sa D j := fun j hj => sa_c (o _ _ (by omega) (by omega) (by omega))
      have ee : ∀ j : Int, 0 ≤ j → j < 80 → sa (up (cpD (up D 333 k.toNat (iI 1)) (80 * (1 + k.toNat)) 0 80) 316 26 (iI 0)) j = ubS D (80 * (1 + k)) j := fun j j0 j1 => by
        unfold ubS sa
        rw [up_o (by omega)]
        unfold cpD
        rw [if_pos (by omega), up_o (by omega), show j.toNat - 0 + 80 * (1 + k.toNat) = (80 * (1 + k) + j).toNat by omega]
      refine h.ch e1 (e1.invN (fun j => o _ _ (by omega) (by omega) (by omega)) h3) (g1.cg (fun j j0 j1 => ee j j0 (by omega)) k9) (g2.cg (fun j j0 j1 => ee j (by omega) (by omega))) (g3.cg (fun j j0 j1 => ee j (by omega) (by omega))) (fun i i0 i1 => ?_) (fun i i0 i1 z => ?_)
      · rw [eu] at i1
        omega
      · have z2 : ¬ mkd D i = 0 := fun q => by
          by_cases w : i = k
          · subst w; exact y2 q
          · apply z
            unfold mkd at q ⊢
            rw [up_o (by omega)]
            unfold cpD
            rw [if_neg (by omega), up_o (by omega)]
            exact q
        obtain ⟨q1, q2, q3⟩ := h8 i i0 i1 z2
        exact ⟨q1.cg (fun j j0 j1 => es _ (by omega)) k9, q2.cg (fun j j0 j1 => es _ (by omega)), q3.cg (fun j j0 j1 => es _ (by omega))⟩
  · rw [if_neg y]
    exact h
end
