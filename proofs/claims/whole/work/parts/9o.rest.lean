section
variable {D D' : Nat → Nat → Int32} {E : Nat → Nat → Int64} {m m' c c' c'' : mm_M} {d s t p L : Nat} {n N i f : Int} {T : TK} {X X' X'' : Nat → Nat → Int32} {Y : Nat → Int64}
/-- the class's state stays while its places do -/
theorem RCm.mem (h : RCm D c s p) (k9 : st D 6 ≤ 8) (hs : Sh c') (g1 : mm_gR c' 100 1 = some s) (g3 : mm_gR c' 100 3 = some p) (g4 : mm_gR c' 172 4 = some s) (e : ∀ a k, (a = 100 ∨ (155 ≤ a ∧ a ≤ 158) ∨ (163 ≤ a ∧ a ≤ 168) ∨ (173 ≤ a ∧ a ≤ 177) ∨ (212 ≤ a ∧ a ≤ 315) ∨ (p ≤ a ∧ a ≤ p + 3) ∨ (s ≤ a ∧ a ≤ s + 20)) → mm_gI c' a k = mm_gI c a k) : RCm D c' s p := by
  obtain ⟨⟨hs0, hst, hg, hR, hW, hH, h0⟩, hp, hgp, hN, hP, hU, hM⟩ := h
  refine ⟨⟨hs, hst, g1, hR.cg (fun a k a0 a1 _ _ => e a k (by omega)) k9, ⟨g4, fun w w0 w1 => ?_⟩, fun w w0 w1 => ?_, (e _ _ (by omega)).trans h0⟩, hp, g3, hN.ch (fun _ => rfl) (fun a k a0 a1 => e a k (by omega)), hP.ch (fun _ _ _ => rfl) (fun a k a0 a1 _ => e a k (by omega)), hU.ch SamS.rf rfl (fun _ _ => rfl) (fun a k y => e a k (by omega)), hM.ch SamS.rf k9 (fun _ => rfl) (fun _ _ _ => rfl) (fun a k y => e a k (by omega))⟩
  · obtain ⟨q1, q2, q3, q4⟩ := hW.2 w w0 w1
    exact ⟨(e _ _ (by omega)).trans q1, (e _ _ (by omega)).trans q2, (e _ _ (by omega)).trans q3, (e _ _ (by omega)).trans q4⟩
  · obtain ⟨q1, q2, q3⟩ := hH w w0 w1
    exact ⟨(e _ _ (by omega)).trans q1, (e _ _ (by omega)).trans q2, (e _ _ (by omega)).trans q3⟩
/-- and while its data do -/
theorem RCm.dat (h : RCm D c s p) (k9 : st D 6 ≤ 8) (e : SamS D D') (e26 : D' 316 26 = D 316 26) (e332 : D' 332 = D 332) (e333 : ∀ j, D' 333 j = D 333 j) (e329 : ∀ j, D' 329 j = D 329 j) : RCm D' c s p := by
  obtain ⟨⟨hs0, hst, hg, hR, hW, hH, h0⟩, hp, hgp, hN, hP, hU, hM⟩ := h
  have es := cD_sa e332
  refine ⟨⟨hs0, hst, hg, e.rst hR, ?_, ?_, ?_⟩, hp, hgp, hN.ch e329 (fun _ _ _ _ => rfl), hP.ch (fun j _ _ => by rw [e332]) (fun _ _ _ _ _ => rfl), hU.ch e e26 (fun j _ => by rw [e332]) (fun _ _ _ => rfl), hM.ch e k9 e333 (fun j _ _ => by rw [e332]) (fun _ _ _ => rfl)⟩
  · rw [es]; exact e.rw hW
  · rw [es]; exact e.hd hH
  · rw [es]; exact h0
/-- tape, names and what lies ready -/
def oS (s : Nat) : Nat := if s = 104 then 125 else 104
def oP (p : Nat) : Nat := if p = 146 then 150 else 146
def RT (D : Nat → Nat → Int32) (E : Nat → Nat → Int64) (c : mm_M) (s p : Nat) : Prop := ((0 ≤ (D 316 2).toInt ∧ (D 316 2).toInt ≤ 1000) ∧ CX D (D 316 2).toInt c ∧ ∀ k, 0 ≤ k → k < (D 316 2).toInt → 10 ≤ tx D k ∧ tx D k ≤ 126) ∧ FN c ∧ NR (fun k => E 325 k) (D 327) (D 316 18).toInt (st D 5) (st D 6) s c ∧ mm_gR c 100 2 = some (oS s) ∧ mm_gR c 100 4 = some (oP p) ∧ EK E
theorem oS_st (h : isSt s) : isSt (oS s) ∧ ¬ oS s = s ∧ (oS s + 20 < s ∨ s + 20 < oS s) ∧ oS (oS s) = s := by
  rcases h with rfl | rfl
  · exact ⟨Or.inr rfl, by decide, by decide, by decide⟩
  · exact ⟨Or.inl rfl, by decide, by decide, by decide⟩
theorem scQs_n {a k : Nat} (hs : isSt t) (h : ¬ a = 101) (h1 : ¬ a = 154) (h2 : ¬ (t ≤ a ∧ a ≤ t + 20)) : scQs t a k = false := by
  unfold scQs scBr scVt
  rw [nb h, nb h1]
  by_cases y : t ≤ a
  · rw [nl (show ¬ a ≤ t + 20 by omega)]; simp
  · rw [nl y]; rfl
theorem FS.sh (h : FS t c c') (hs : Sh c) : Sh c' := ⟨h.1.trans hs.1, fun a k h1 h2 => (h.2.2.1 a k (by
  rintro ⟨rfl, rfl⟩
  exact absurd h2 (by decide))).trans (hs.2 a k h1 h2)⟩
/-- what is read elsewhere leaves the state -/
theorem RCm.fs (h : RCm D c s p) (k9 : st D 6 ≤ 8) (ht : t = oS s) (g : FS t c c') : RCm D c' s p := by
  obtain ⟨q1, q2, q3, -⟩ := oS_st h.1.2.1
  have hs' : s = 104 ∨ s = 125 := h.1.2.1
  have hp : p = 146 ∨ p = 150 := h.2.1
  rw [← ht] at q1 q2 q3
  have ht' : t = 104 ∨ t = 125 := q1
  refine h.mem k9 (g.sh h.1.1) ((g.2.2.1 _ _ (by omega)).trans h.1.2.2.1) ((g.2.2.1 _ _ (by omega)).trans h.2.2.1) ((g.2.2.1 _ _ (by omega)).trans h.1.2.2.2.2.1.1) (fun a k y => ?_)
  exact (g.2.2.2.2 a k (scQs_n q1 (by omega) (by omega) (by omega)) (by omega)).1
theorem NR.fs {W : Nat → Int32} {cnt a b : Int} (h : NR Y W cnt a b s c) (hst : isSt s) (ht : t = oS s) (g : FS t c c') : NR Y W cnt a b s c' := by
  obtain ⟨q1, q2, q3, -⟩ := oS_st hst
  have hs' : s = 104 ∨ s = 125 := hst
  rw [← ht] at q1 q2 q3
  have ht' : t = 104 ∨ t = 125 := q1
  have e : ∀ x k, s ≤ x → x ≤ s + 20 → mm_gL c' x k = mm_gL c x k := fun x k x0 x1 => (g.2.2.2.2 x k (scQs_n q1 (by omega) (by omega) (by omega)) (by omega)).2
  obtain ⟨v1, v2, v3, v4, v5, v6, v7⟩ := h
  refine ⟨v1, v2, v3, fun j hj => ?_, v5, v6, v7⟩
  rcases v4 j hj with ⟨u1, u2, u3⟩ | ⟨u1, u2, u3⟩
  · exact Or.inl ⟨u1, u2, by rw [e _ _ (by omega) (by omega)]; exact u3⟩
  · exact Or.inr ⟨u1, u2, by rw [e _ _ (by omega) (by omega)]; exact u3⟩
end
