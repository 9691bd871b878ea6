section
variable {D D' D2 : Nat → Nat → Int32} {E : Nat → Nat → Int64} {m m' c c' c'' : mm_M} {d s t p L : Nat} {n N M i f : Int} {T U : TK} {X X' X'' : Nat → Nat → Int32} {Y : Nat → Int64}
/-- the tokens of a text are these alone -/
theorem TS.u (h : TS D n T N) (h' : TS D n U M) : N = M ∧ ∀ i, 0 ≤ i → i ≤ N → tX T i = tX U i := by
  have step : ∀ (r : Nat), (r : Int) ≤ N → (r : Int) ≤ M → tX T r = tX U r := by
    intro r
    induction r with
    | zero => intro _ _; exact h.2.1.trans h'.2.1.symm
    | succ r ih =>
      intro h1 h2
      have e := ih (by omega) (by omega)
      have := (Tk_u (h.2.2.1 r (by omega) (by omega)) (h'.2.2.1 r (by omega) (by omega)) e).2.1
      rw [show ((r + 1 : Nat) : Int) = (r : Int) + 1 by omega]
      exact this
  have n0 := h.1
  have m0 := h'.1
  have NM : N = M := by
    by_cases y : N < M
    · exfalso
      have e := step N.toNat (by omega) (by omega)
      rw [show ((N.toNat : Nat) : Int) = N by omega] at e
      obtain ⟨-, -, -, b⟩ := h.2.2.2.1
      obtain ⟨⟨a1, a2, a3, a4⟩, -, ⟨an, -⟩, -⟩ := h'.2.2.1 N (by omega) y
      exact an (b _ (by omega) (by omega))
    · by_cases y2 : M < N
      · exfalso
        have e := step M.toNat (by omega) (by omega)
        rw [show ((M.toNat : Nat) : Int) = M by omega] at e
        obtain ⟨-, -, -, b⟩ := h'.2.2.2.1
        obtain ⟨⟨a1, a2, a3, a4⟩, -, ⟨an, -⟩, -⟩ := h.2.2.1 M (by omega) y2
        exact an (b _ (by omega) (by omega))
      · omega
  refine ⟨NM, fun i i0 i1 => ?_⟩
  have := step i.toNat (by omega) (by omega)
  rw [show ((i.toNat : Nat) : Int) = i by omega] at this
  exact this
theorem PF.u (hT : TS D n T N) (hU : TS D n U M) (h : PF D E U M i f m) : PF D E T N i f m := by
  obtain ⟨NM, ex⟩ := hT.u hU
  subst NM
  refine ⟨h.1, fun k k0 k1 => ?_, h.2.2.1, h.2.2.2.1, h.2.2.2.2⟩
  obtain ⟨q1, q2, q3⟩ := h.2.1 k k0 k1
  by_cases y : k = N
  · subst y
    have a := hT.2.2.2.1
    have b := hU.2.2.2.1
    refine ⟨?_, ?_, fun q => by omega⟩
    · rw [q1, a.1, b.1]
    · rw [q2, a.2.1, b.2.1]
  · obtain ⟨u1, u2, u3, u4⟩ := Tk_u (hT.2.2.1 k k0 (by omega)) (hU.2.2.1 k k0 (by omega)) (ex k k0 k1)
    exact ⟨by rw [q1, u3], by rw [q2, u1], fun q => by rw [q3 q, u4]⟩
theorem tx_up {v : Int32} (k : Int) : tx (up D 316 2 v) k = tx D k := by unfold tx up; rw [if_neg (by omega)]
/-- street of the model, as far as its tokens -/
theorem M163h (h : MD D E m) (t0 : 0 ≤ (D 316 2).toInt) (t1 : (D 316 2).toInt ≤ 1000) (hx : ∀ k, 0 ≤ k → k < (D 316 2).toInt → 10 ≤ tx D k ∧ tx D k ≤ 126) (hd : 6 ≤ d) : ∃ (T : TK) (N : Int), TS (up D 316 2 (iI 0)) (D 316 2).toInt T N ∧ ∃ m1 m', mm_ev (d - 1) 164 0 [some (.ref 316), none, none, none, none, none, none] [] (mm_sI m 316 0 (iI 0)) = some (some none, m') ∧ PF (up D 316 2 (iI 0)) E T N 0 0 m' ∧ Fr scA m m' ∧ m1 = m' := by
  have h0 : MD D E (mm_sI m 316 0 (iI 0)) := h.fr (Fr.sI (scM_t (by omega)))
  obtain ⟨m1, m', e, hM, hC, g⟩ := M164 (d := d - 1) h0 (by omega) t0 t1
  obtain ⟨T, N, ⟨a1, a2⟩, b, c, tE, q, r, f', u, v⟩ := hC
  refine ⟨T, N, ⟨⟨by omega, a2, t1⟩, b, c, tE, fun k k0 k1 => by rw [tx_up]; exact hx k k0 k1⟩, m', m', e, ⟨hM.fr f'.TM, q, u, v, ⟨by omega, by omega⟩, by omega, by omega⟩, ?_, rfl⟩
  exact ((Fr.sA (by omega) (by omega)).tr g).tr (f'.TM.MA)
theorem scA_lo {a k : Nat} (h : a < 316) : scA a k = false := by unfold scA; rw [nl (show ¬ 316 ≤ a by omega)]; rfl
/-- what the model does leaves the class -/
theorem RCm.fA (h : RCm D c s p) (k9 : st D 6 ≤ 8) (g : Fr scA c c') : RCm D c' s p := by
  have hs' : s = 104 ∨ s = 125 := h.1.2.1
  have hp : p = 146 ∨ p = 150 := h.2.1
  exact h.mem k9 (g.sh h.1.1) ((g.2.2.1 _ _).trans h.1.2.2.1) ((g.2.2.1 _ _).trans h.2.2.1) ((g.2.2.1 _ _).trans h.1.2.2.2.2.1.1) (fun a k y => g.gI (scA_lo (by omega)))
theorem RT.fA (h : RT D E c s p) (hst : isSt s) (g : Fr scA c c') : RT D E c' s p := by
  have hs' : s = 104 ∨ s = 125 := hst
  obtain ⟨⟨h1, h2, h3⟩, h4, h5, h6, h7, h8⟩ := h
  refine ⟨⟨h1, h2.fr g (fun a k y => scA_lo (by omega)), h3⟩, fun q hq => ?_, h5.fr g (fun x k y => scA_lo (by have := h5.2.2.1; omega)), (g.2.2.1 _ _).trans h6, (g.2.2.1 _ _).trans h7, h8⟩
  have hq' : q = 104 ∨ q = 125 := hq
  obtain ⟨a1, a2, a3, a4⟩ := h4 q hq
  exact ⟨(g.gL (scA_lo (by omega))).trans a1, (g.gL (scA_lo (by omega))).trans a2, (g.gL (scA_lo (by omega))).trans a3, (g.gL (scA_lo (by omega))).trans a4⟩
end
