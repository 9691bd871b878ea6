/-- the world between two calls -/
def WI (D : Nat → Nat → Int32) (E : Nat → Nat → Int64) (m : mm_M) (s p : Nat) : Prop := RCm D m s p ∧ RT D E m s p ∧ MD D E m ∧ GI D
def Wd (m : mm_M) : Prop := ∃ D E s p, WI D E m s p
/-- class and model called one behind the other answer alike -/
def PR (d jc : Nat) (Lc : mm_L) (jm : Nat) (Lm : mm_L) (c : mm_M) : Prop := ∃ (v : Int32) (c1 c2 : mm_M), mm_ev d jc 0 Lc [] c = some (some (some (.int (v))), c1) ∧ mm_ev d jm 0 Lm [] c1 = some (some (some (.int (v))), c2) ∧ Wd c2
def PRl (d jc : Nat) (Lc : mm_L) (jm : Nat) (Lm : mm_L) (c : mm_M) : Prop := ∃ (v : Int64) (c1 c2 : mm_M), mm_ev d jc 0 Lc [] c = some (some (some (.long v)), c1) ∧ mm_ev d jm 0 Lm [] c1 = some (some (some (.long v)), c2) ∧ Wd c2
/-- tape and names stay -/
def KeepT (D D' : Nat → Nat → Int32) : Prop := D' 316 2 = D 316 2 ∧ (∀ j, D' 317 j = D 317 j) ∧ (∀ j, D' 327 j = D 327 j) ∧ D' 316 18 = D 316 18 ∧ ∀ j, D' 322 j = D 322 j
section
variable {D D' D'' : Nat → Nat → Int32} {E : Nat → Nat → Int64} {m m' c c' c1 : mm_M} {d s p jc jm : Nat} {Lc Lm : mm_L}
theorem KeepT.rf : KeepT D D := ⟨rfl, fun _ => rfl, fun _ => rfl, rfl, fun _ => rfl⟩
theorem KeepT.tr (h : KeepT D D') (h' : KeepT D' D'') : KeepT D D'' := ⟨h'.1.trans h.1, fun j => (h'.2.1 j).trans (h.2.1 j), fun j => (h'.2.2.1 j).trans (h.2.2.1 j), h'.2.2.2.1.trans h.2.2.2.1, fun j => (h'.2.2.2.2 j).trans (h.2.2.2.2 j)⟩
theorem kt_up {a k : Nat} {v : Int32} (h : a = 332 ∨ a = 333 ∨ (a = 316 ∧ k = 26)) : KeepT D (up D a k v) := ⟨up_o (by omega), fun j => up_o (by omega), fun j => up_o (by omega), up_o (by omega), fun j => up_o (by omega)⟩
theorem kt_cp {f t n : Nat} : KeepT D (cpD D f t n) := by
  have o : ∀ a k, ¬ a = 332 → cpD D f t n a k = D a k := fun a k h => by unfold cpD; rw [if_neg (fun z => h z.1)]
  exact ⟨o _ _ (by omega), fun j => o _ _ (by omega), fun j => o _ _ (by omega), o _ _ (by omega), fun j => o _ _ (by omega)⟩
theorem kt_keep : KeepT D (keepD D) := by
  have o : ∀ a k, ¬ a = 332 → ¬ (a = 316 ∧ k = 26) → keepD D a k = D a k := fun a k h h2 => by unfold keepD; rw [if_neg h2, if_neg (fun z => h z.1)]
  exact ⟨o _ _ (by omega) (by omega), fun j => o _ _ (by omega) (by omega), fun j => o _ _ (by omega) (by omega), o _ _ (by omega) (by omega), fun j => o _ _ (by omega) (by omega)⟩
theorem kt_next {b : Nat} : KeepT D (nextD D b) := by
  have o : ∀ a k, ¬ a = 332 → nextD D b a k = D a k := fun a k h => by unfold nextD; rw [if_neg (fun z => h z.1), if_neg (fun z => h z.1)]
  exact ⟨o _ _ (by omega), fun j => o _ _ (by omega), fun j => o _ _ (by omega), o _ _ (by omega), fun j => o _ _ (by omega)⟩
theorem kt_if {b : Prop} {q : Decidable b} {F : Nat → Nat → Int32} (h : b → KeepT D F) : KeepT D (if b then F else D) := by
  split
  · next z => exact h z
  · exact KeepT.rf
theorem RT.ch (h : RT D E c s p) (k : KeepT D D') : RT D' E c s p := by
  have et : tx D' = tx D := by funext j; unfold tx; rw [k.2.1]
  have e7 : D' 327 = D 327 := funext k.2.2.1
  have es : st D' = st D := cD_st (funext k.2.2.2.2)
  unfold RT CX at h ⊢
  rw [k.1, k.2.2.2.1, et, e7, es]
  exact h
theorem scU_hi {a k : Nat} (h : 316 ≤ a) : scU a k = false := by
  cases e : scU a k
  · rfl
  · exfalso
    unfold scU scC scR at e
    simp only [Bool.or_eq_true, Bool.and_eq_true, Nat.ble_eq, Nat.beq_eq] at e
    omega
theorem scU_lo {a k : Nat} (h : 101 ≤ a) (h1 : a ≤ 154) (h2 : ¬ a = 113) (h3 : ¬ a = 116) (h4 : ¬ a = 134) (h5 : ¬ a = 137) : scU a k = false := by
  cases e : scU a k
  · rfl
  · exfalso
    unfold scU scC scR at e
    simp only [Bool.or_eq_true, Bool.and_eq_true, Nat.ble_eq, Nat.beq_eq] at e
    omega
theorem scC_o {a k : Nat} (h : a = 100 ∨ 212 ≤ a) : scC a k = false := by
  cases e : scC a k
  · rfl
  · exfalso
    unfold scC at e
    simp only [Bool.or_eq_true, Bool.and_eq_true, Nat.ble_eq, Nat.beq_eq] at e
    omega
theorem RCm.fc (h : RCm D m s p) (f : FC m m') (k9 : st D 6 ≤ 8) : RCm D m' s p := ⟨h.1.fc f k9, h.2.1, (f.gR rfl).trans h.2.2.1, h.2.2.2.1.fc h.2.1 f, h.2.2.2.2.1.fc f, h.2.2.2.2.2.1.ch SamS.rf rfl (fun _ _ => rfl) (fun a k y => f.gI (scC_o (by omega))), h.2.2.2.2.2.2.ch SamS.rf k9 (fun _ => rfl) (fun _ _ _ => rfl) (fun a k y => f.gI (scC_o (by omega)))⟩
theorem RT.fU (h : RT D E c s p) (hst : isSt s) (hs : Sh c') (g : FU c c') : RT D E c' s p := by
  have hs' : s = 104 ∨ s = 125 := hst
  obtain ⟨⟨h1, h2, h3⟩, h4, h5, h6, h7, h8⟩ := h
  have gi : ∀ a k, 101 ≤ a → a ≤ 154 → ¬ a = 113 → ¬ a = 116 → ¬ a = 134 → ¬ a = 137 → mm_gI c' a k = mm_gI c a k ∧ mm_gL c' a k = mm_gL c a k := fun a k q1 q2 q3 q4 q5 q6 => g.2.2.2 a k (scU_lo q1 q2 q3 q4 q5 q6)
  refine ⟨⟨h1, ⟨hs, ?_, fun k k0 k1 => ?_, fun k k0 k1 => ?_⟩, h3⟩, fun q hq => ?_, ?_, (g.2.2.1 _ _ rfl).trans h6, (g.2.2.1 _ _ rfl).trans h7, h8⟩
  · rw [(gi 101 3 (by omega) (by omega) (by omega) (by omega) (by omega) (by omega)).1]; exact h2.2.1
  · rw [(gi 102 _ (by omega) (by omega) (by omega) (by omega) (by omega) (by omega)).1]; exact h2.2.2.1 k k0 k1
  · rw [(gi 103 _ (by omega) (by omega) (by omega) (by omega) (by omega) (by omega)).2]; exact h2.2.2.2 k k0 k1
  · have hq' : q = 104 ∨ q = 125 := hq
    obtain ⟨a1, a2, a3, a4⟩ := h4 q hq
    exact ⟨(gi _ _ (by omega) (by omega) (by omega) (by omega) (by omega) (by omega)).2.trans a1, (gi _ _ (by omega) (by omega) (by omega) (by omega) (by omega) (by omega)).2.trans a2, (gi _ _ (by omega) (by omega) (by omega) (by omega) (by omega) (by omega)).2.trans a3, (gi _ _ (by omega) (by omega) (by omega) (by omega) (by omega) (by omega)).2.trans a4⟩
  · obtain ⟨v1, v2, v3, v4, v5, v6, v7⟩ := h5
    refine ⟨v1, v2, v3, fun j hj => ?_, v5, v6, v7⟩
    rcases v4 j hj with ⟨u1, u2, u3⟩ | ⟨u1, u2, u3⟩
    · exact Or.inl ⟨u1, u2, by rw [(gi _ _ (by omega) (by omega) (by omega) (by omega) (by omega) (by omega)).2]; exact u3⟩
    · exact Or.inr ⟨u1, u2, by rw [(gi _ _ (by omega) (by omega) (by omega) (by omega) (by omega) (by omega)).2]; exact u3⟩
theorem WI.rq (h : WI D E c s p) : RQ D c s := h.1.1
theorem WI.st (h : WI D E c s p) : isSt s := h.1.1.2.1
theorem WI.iS (h : WI D E c s p) : InvS D := h.2.2.2.1
theorem WI.iL (h : WI D E c s p) : InvL D := h.2.2.2.2.1
theorem WI.iN (h : WI D E c s p) : InvN D := h.2.2.2.2.2.1
theorem WI.iB (h : WI D E c s p) : InvB D (sa D) := h.2.2.2.2.2.2.1.1
theorem WI.b60 (h : WI D E c s p) : sa D 0 ≤ 60 := h.2.2.2.2.2.2.1.2
theorem WI.iT (h : WI D E c s p) : InvT D := h.2.2.2.2.2.2.2.1
theorem WI.iP (h : WI D E c s p) : InvP D := h.2.2.2.2.2.2.2.2.1
theorem WI.u0 (h : WI D E c s p) : 0 ≤ und D := h.1.2.2.2.2.2.1.1.1
theorem WI.u1 (h : WI D E c s p) : und D ≤ 16 := h.1.2.2.2.2.2.1.1.2
/-- a question -/
theorem q_fc (h : WI D E c s p) (f : FC c c1) : WI D E c1 s p := by
  have k9 := h.2.2.2.k9
  have r1 := h.1.fc f k9
  exact ⟨r1, h.2.1.fU h.st r1.1.1 f.U, h.2.2.1.hi r1.1.1 (fun a k z => f.U.2.2.2 a k (scU_hi z)), h.2.2.2⟩
theorem q_fm (h : WI D E c s p) (f : Fr scM c c1) : WI D E c1 s p := ⟨h.1.fA h.2.2.2.k9 f.MA, h.2.1.fA h.st f.MA, h.2.2.1.fr f, h.2.2.2⟩
theorem q_pair (h : WI D E c s p) {v : Int32} (hc : ∃ c1, mm_ev d jc 0 Lc [] c = some (some (some (.int (v))), c1) ∧ FC c c1) (hm : ∀ m, MD D E m → ∃ m', mm_ev d jm 0 Lm [] m = some (some (some (.int (v))), m') ∧ Fr scM m m') : PR d jc Lc jm Lm c := by
  obtain ⟨c1, e1, f1⟩ := hc
  have h1 := q_fc h f1
  obtain ⟨c2, e2, f2⟩ := hm c1 h1.2.2.1
  exact ⟨v, c1, c2, e1, e2, D, E, s, p, q_fm h1 f2⟩
theorem q_pairL (h : WI D E c s p) {v : Int64} (hc : ∃ c1, mm_ev d jc 0 Lc [] c = some (some (some (.long v)), c1) ∧ FC c c1) (hm : ∀ m, MD D E m → ∃ m', mm_ev d jm 0 Lm [] m = some (some (some (.long v)), m') ∧ Fr scM m m') : PRl d jc Lc jm Lm c := by
  obtain ⟨c1, e1, f1⟩ := hc
  have h1 := q_fc h f1
  obtain ⟨c2, e2, f2⟩ := hm c1 h1.2.2.1
  exact ⟨v, c1, c2, e1, e2, D, E, s, p, q_fm h1 f2⟩
/-- a change by hand -/
theorem u_pair (h : WI D E c s p) {v : Int32} (hc : ∃ c1, mm_ev d jc 0 Lc [] c = some (some (some (.int (v))), c1) ∧ RCm D' c1 s p ∧ FU c c1) (hm : ∀ m, MD D E m → ∃ m', mm_ev d jm 0 Lm [] m = some (some (some (.int (v))), m') ∧ MD D' E m' ∧ Fr scA m m') (g : GI D') (kt : KeepT D D') : PR d jc Lc jm Lm c := by
  obtain ⟨c1, e1, r1, f1⟩ := hc
  obtain ⟨c2, e2, md2, f2⟩ := hm c1 (h.2.2.1.hi r1.1.1 (fun a k z => f1.2.2.2 a k (scU_hi z)))
  exact ⟨v, c1, c2, e1, e2, D', E, s, p, r1.fA g.k9 f2, ((h.2.1.fU h.st r1.1.1 f1).ch kt).fA h.st f2, md2, g⟩
end
