def ImU (n : Int) (bf : Int → Int) (ak : Int → Bool) (l : Int) : Prop := ∃ r, 0 ≤ r ∧ r < n ∧ ak r = false ∧ bf r = l
def InjU (n : Int) (bf : Int → Int) (ak : Int → Bool) : Prop := ∀ r q, 0 ≤ r → r < n → ak r = false → 0 ≤ q → q < n → ak q = false → 0 ≤ bf r → bf r = bf q → r = q
def EdU (n : Int) (ed : Int → Int → Bool) (bf : Int → Int) : Prop := ∀ r, 0 ≤ r → r < n → 0 ≤ bf r → ed (bf r) r = true
def Succ (n : Int) (ed : Int → Int → Bool) (one : Int) (bf : Int → Int) (ak : Int → Bool) (bf' : Int → Int) : Prop := (∀ r, 0 ≤ r → r < n → ak r = true → bf' r = bf r) ∧ InjU n bf' ak ∧ (∀ l, 0 ≤ l → (ImU n bf' ak l ↔ ImU n bf ak l ∨ l = one)) ∧ (∃ x, 0 ≤ x ∧ x < n ∧ ak x = false ∧ bf x < 0 ∧ 0 ≤ bf' x ∧ ∀ r, 0 ≤ r → r < n → ¬ r = x → (0 ≤ bf' r ↔ 0 ≤ bf r)) ∧ EdU n ed bf'
def Fail (n : Int) (ed : Int → Int → Bool) (one : Int) (bf : Int → Int) (ak : Int → Bool) (bf' : Int → Int) (ak' : Int → Bool) : Prop := bf' = bf ∧ (∀ k, 0 ≤ k → k < n → ed one k = true → ak' k = true) ∧ (∀ k, 0 ≤ k → k < n → ak' k = true → ak k = false → 0 ≤ bf k ∧ ∀ j, 0 ≤ j → j < n → ed (bf k) j = true → ak' j = true)
section
variable {ed : Int → Int → Bool} {n : Int}
/-- what finds does -/
theorem fnd_ok (hn : 0 ≤ n) : ∀ (f : Nat) (one : Int) (s : (Int → Int) × (Int → Bool)), unA n.toNat s.2 < f → 0 ≤ one → InjU n s.1 s.2 → ¬ ImU n s.1 s.2 one → EdU n ed s.1 → ((fnd ed n f one s).1 = true → Succ n ed one s.1 s.2 (fnd ed n f one s).2.1) ∧ ((fnd ed n f one s).1 = false → Fail n ed one s.1 s.2 (fnd ed n f one s).2.1 (fnd ed n f one s).2.2)
  | 0, one, s, hu, _, _, _, _ => by
    have := (unA_n (n := n.toNat) (A := s.2)).1
    omega
  | f + 1, one, s0, hu, o0, hj, hi, he => by
    have ih := fnd_ok hn f
    have loop : ∀ (r : Nat) (k : Int) (s : (Int → Int) × (Int → Bool)), k = n - r → 0 ≤ k → s.1 = s0.1 → (∀ i, s0.2 i = true → s.2 i = true) → unA n.toNat s.2 < f + 1 → (∀ j, 0 ≤ j → j < k → ed one j = true → s.2 j = true) → (∀ x, 0 ≤ x → x < n → s.2 x = true → s0.2 x = false → 0 ≤ s0.1 x ∧ ∀ j, 0 ≤ j → j < n → ed (s0.1 x) j = true → s.2 j = true) → ((fndL (fnd ed n f) ed one r k s).1 = true → Succ n ed one s0.1 s0.2 (fndL (fnd ed n f) ed one r k s).2.1) ∧ ((fndL (fnd ed n f) ed one r k s).1 = false → Fail n ed one s0.1 s0.2 (fndL (fnd ed n f) ed one r k s).2.1 (fndL (fnd ed n f) ed one r k s).2.2) := by
      intro r
      induction r with
      | zero =>
        intro k s hk k0 hb ha hu hc hd
        refine ⟨fun h => ?_, fun _ => ?_⟩
        · unfold fndL at h; cases h
        · unfold fndL
          exact ⟨hb, fun j j0 j1 z => hc j j0 (by omega) z, hd⟩
      | succ r ihr =>
        intro k s hk k0 hb ha hu hc hd
        have k1 : k < n := by omega
        unfold fndL
        cases z1 : s.2 k
        · rw [if_neg (by decide)]
          have z0 : s0.2 k = false := by
            cases z : s0.2 k
            · rfl
            · rw [ha k z] at z1; cases z1
          cases z2 : ed one k
          · rw [if_neg (by decide)]
            refine ihr (k + 1) s (by omega) (by omega) hb ha hu (fun j j0 j1 z => ?_) hd
            by_cases y : j = k
            · rw [y, z2] at z; cases z
            · exact hc j j0 (by omega) z
          · rw [if_pos rfl]
            by_cases z3 : s.1 k < 0
            · rw [if_pos z3]
              refine ⟨fun _ => ?_, fun h => by cases h⟩
              rw [hb] at z3 ⊢
              refine ⟨fun q q0 q1 qa => ?_, ?_, fun l l0 => ?_, ⟨k, k0, k1, z0, z3, ?_, fun q q0 q1 qk => ?_⟩, fun q q0 q1 qb => ?_⟩
              · show updB s0.1 k one q = s0.1 q
                unfold updB
                rw [if_neg (fun h => by rw [h, z0] at qa; cases qa)]
              · intro a b a0 a1 aa b0 b1 ba ap ab
                simp only [updB] at ap ab
                by_cases ya : a = k
                · rw [if_pos ya] at ap ab
                  by_cases yb : b = k
                  · omega
                  · rw [if_neg yb] at ab
                    exact absurd ⟨b, b0, b1, ba, ab.symm⟩ hi
                · rw [if_neg ya] at ap ab
                  by_cases yb : b = k
                  · rw [if_pos yb] at ab
                    exact absurd ⟨a, a0, a1, aa, ab⟩ hi
                  · rw [if_neg yb] at ab
                    exact hj a b a0 a1 aa b0 b1 ba ap ab
              · constructor
                · rintro ⟨q, q0, q1, qa, qe⟩
                  simp only [updB] at qe
                  by_cases y : q = k
                  · rw [if_pos y] at qe; right; exact qe.symm
                  · rw [if_neg y] at qe; left; exact ⟨q, q0, q1, qa, qe⟩
                · rintro (⟨q, q0, q1, qa, qe⟩ | q)
                  · refine ⟨q, q0, q1, qa, ?_⟩
                    simp only [updB]
                    rw [if_neg (fun h => by rw [h] at qe; omega)]
                    exact qe
                  · refine ⟨k, k0, k1, z0, ?_⟩
                    simp only [updB, if_true]
                    exact q.symm
              · simp only [updB, if_true]; exact o0
              · simp only [updB]; rw [if_neg qk]
              · simp only [updB] at qb ⊢
                by_cases y : q = k
                · rw [if_pos y, y]; exact z2
                · rw [if_neg y] at qb ⊢; exact he q q0 q1 qb
            · rw [if_neg z3]
              have u1 := unA_u (n := n.toNat) k0 (by omega) z1
              have hsub : ∀ i, updA s.2 k true i = false → s0.2 i = false ∧ ¬ i = k := fun i hi' => by
                unfold updA at hi'
                by_cases y : i = k
                · rw [if_pos y] at hi'; cases hi'
                · rw [if_neg y] at hi'
                  refine ⟨?_, y⟩
                  cases z : s0.2 i
                  · rfl
                  · rw [ha i z] at hi'; cases hi'
              rw [hb] at z3
              have rk := ih (s.1 k) (s.1, updA s.2 k true) (by simp only; omega) (by rw [hb]; omega) (by
                intro a b a0 a1 aa b0 b1 ba ap ab
                rw [hb] at ap ab
                exact hj a b a0 a1 (hsub a aa).1 b0 b1 (hsub b ba).1 ap ab) (by
                rintro ⟨q, q0, q1, qa, qe⟩
                rw [hb] at qe
                have := hj k q k0 k1 z0 q0 q1 (hsub q qa).1 (by omega) qe.symm
                exact (hsub q qa).2 this.symm) (by rw [hb]; exact he)
              generalize hw : fnd ed n f (s.1 k) (s.1, updA s.2 k true) = w at rk ⊢
              have mono : ∀ i, updA s.2 k true i = true → w.2.2 i = true := fun i hi' => by rw [← hw]; exact fnd_a f _ (s.1, updA s.2 k true) i hi'
              rw [hb] at rk
              cases z4 : w.1
              · rw [if_neg (by decide)]
                obtain ⟨fb, fc, fd⟩ := rk.2 z4
                have m1 : ∀ i, s.2 i = true → w.2.2 i = true := fun i hi' => mono i (by unfold updA; split; rfl; exact hi')
                refine ihr (k + 1) w.2 (by omega) (by omega) fb (fun i hi' => m1 i (ha i hi')) ?_ (fun j j0 j1 z => ?_) (fun x x0 x1 xa xb => ?_)
                · have := unA_m (n := n.toNat) (A := updA s.2 k true) (C := w.2.2) mono
                  omega
                · by_cases y : j = k
                  · rw [y]; exact mono k (by unfold updA; rw [if_pos rfl])
                  · exact m1 j (hc j j0 (by omega) z)
                · by_cases y : s.2 x = true
                  · obtain ⟨p, q⟩ := hd x x0 x1 y xb
                    exact ⟨p, fun j j0 j1 z => m1 j (q j j0 j1 z)⟩
                  · by_cases y2 : x = k
                    · rw [y2]
                      exact ⟨by omega, fun j j0 j1 z => fc j j0 j1 z⟩
                    · have : updA s.2 k true x = false := by
                        unfold updA
                        rw [if_neg y2]
                        cases z : s.2 x
                        · rfl
                        · exact absurd z y
                      exact fd x x0 x1 xa this
              · rw [if_pos rfl]
                refine ⟨fun _ => ?_, fun h => by cases h⟩
                obtain ⟨sa, sj, si, ⟨x, x0, x1, xa, xb, xc, xd⟩, se⟩ := rk.1 z4
                have keepA : ∀ q, 0 ≤ q → q < n → ¬ updA s.2 k true q = false → w.2.1 q = s0.1 q := fun q q0 q1 qa => sa q q0 q1 (by
                  cases z : updA s.2 k true q
                  · exact absurd z qa
                  · exact z)
                have hxk := hsub x xa
                have kA : ¬ updA s.2 k true k = false := by unfold updA; rw [if_pos rfl]; decide
                show Succ n ed one s0.1 s0.2 (updB w.2.1 k one)
                have imw : ∀ l, 0 ≤ l → ((∃ q, 0 ≤ q ∧ q < n ∧ s0.2 q = false ∧ ¬ q = k ∧ w.2.1 q = l) ↔ ImU n s0.1 s0.2 l) := by
                  intro l l0
                  constructor
                  · rintro ⟨q, q0, q1, qa, qk, qe⟩
                    by_cases y : updA s.2 k true q = false
                    · rcases (si l l0).mp ⟨q, q0, q1, y, qe⟩ with ⟨t, t0, t1, ta, te⟩ | t
                      · exact ⟨t, t0, t1, (hsub t ta).1, te⟩
                      · exact ⟨k, k0, k1, z0, t.symm⟩
                    · rw [keepA q q0 q1 y] at qe
                      exact ⟨q, q0, q1, qa, qe⟩
                  · rintro ⟨q, q0, q1, qa, qe⟩
                    by_cases yk : q = k
                    · obtain ⟨t, t0, t1, ta, te⟩ := (si l l0).mpr (Or.inr (by rw [yk] at qe; exact qe.symm))
                      exact ⟨t, t0, t1, (hsub t ta).1, (hsub t ta).2, te⟩
                    · by_cases y : updA s.2 k true q = false
                      · obtain ⟨t, t0, t1, ta, te⟩ := (si l l0).mpr (Or.inl ⟨q, q0, q1, y, qe⟩)
                        exact ⟨t, t0, t1, (hsub t ta).1, (hsub t ta).2, te⟩
                      · exact ⟨q, q0, q1, qa, yk, by rw [keepA q q0 q1 y]; exact qe⟩
                have injw : ∀ a b, 0 ≤ a → a < n → s0.2 a = false → ¬ a = k → 0 ≤ b → b < n → s0.2 b = false → ¬ b = k → 0 ≤ w.2.1 a → w.2.1 a = w.2.1 b → a = b := by
                  intro a b a0 a1 aa ak b0 b1 ba bk ap ab
                  by_cases ya : updA s.2 k true a = false
                  · by_cases yb : updA s.2 k true b = false
                    · exact sj a b a0 a1 ya b0 b1 yb ap ab
                    · exfalso
                      rw [keepA b b0 b1 yb] at ab
                      rcases (si _ ap).mp ⟨a, a0, a1, ya, rfl⟩ with ⟨t, t0, t1, ta, te⟩ | t
                      · have := hj t b t0 t1 (hsub t ta).1 b0 b1 ba (by rw [te]; exact ap) (by rw [te]; exact ab)
                        rw [this] at ta
                        exact yb ta
                      · exact bk (hj k b k0 k1 z0 b0 b1 ba (by omega) (by rw [← ab]; exact t.symm)).symm
                  · rw [keepA a a0 a1 ya] at ap ab
                    by_cases yb : updA s.2 k true b = false
                    · exfalso
                      rcases (si _ ap).mp ⟨b, b0, b1, yb, ab.symm⟩ with ⟨t, t0, t1, ta, te⟩ | t
                      · have := hj t a t0 t1 (hsub t ta).1 a0 a1 aa (by rw [te]; exact ap) te
                        rw [this] at ta
                        exact ya ta
                      · exact ak (hj k a k0 k1 z0 a0 a1 aa (by omega) t.symm).symm
                    · rw [keepA b b0 b1 yb] at ab
                      exact hj a b a0 a1 aa b0 b1 ba ap ab
                have ni : ∀ q, 0 ≤ q → q < n → s0.2 q = false → ¬ q = k → ¬ w.2.1 q = one := fun q q0 q1 qa qk qe => hi ((imw one o0).mp ⟨q, q0, q1, qa, qk, qe⟩)
                refine ⟨fun q q0 q1 qa => ?_, ?_, fun l l0 => ?_, ⟨x, x0, x1, hxk.1, xb, ?_, fun q q0 q1 qx => ?_⟩, fun q q0 q1 qb => ?_⟩
                · unfold updB
                  rw [if_neg (fun h => by rw [h, z0] at qa; cases qa), keepA q q0 q1 (fun h => by rw [(hsub q h).1] at qa; cases qa)]
                · intro a b a0 a1 aa b0 b1 ba ap ab
                  simp only [updB] at ap ab
                  by_cases ya : a = k
                  · by_cases yb : b = k
                    · omega
                    · rw [if_pos ya, if_neg yb] at ab
                      exact absurd ab.symm (ni b b0 b1 ba yb)
                  · rw [if_neg ya] at ap ab
                    by_cases yb : b = k
                    · rw [if_pos yb] at ab
                      exact absurd ab (ni a a0 a1 aa ya)
                    · rw [if_neg yb] at ab
                      exact injw a b a0 a1 aa ya b0 b1 ba yb ap ab
                · constructor
                  · rintro ⟨q, q0, q1, qa, qe⟩
                    simp only [updB] at qe
                    by_cases y : q = k
                    · rw [if_pos y] at qe; right; exact qe.symm
                    · rw [if_neg y] at qe; left; exact (imw l l0).mp ⟨q, q0, q1, qa, y, qe⟩
                  · rintro (q | q)
                    · obtain ⟨t, t0, t1, ta, tk, te⟩ := (imw l l0).mpr q
                      refine ⟨t, t0, t1, ta, ?_⟩
                      simp only [updB]
                      rw [if_neg tk]
                      exact te
                    · refine ⟨k, k0, k1, z0, ?_⟩
                      simp only [updB, if_true]
                      exact q.symm
                · simp only [updB]
                  rw [if_neg hxk.2]
                  exact xc
                · simp only [updB]
                  by_cases y : q = k
                  · rw [if_pos y, y]
                    constructor
                    · intro _; omega
                    · intro _; exact o0
                  · rw [if_neg y]
                    exact xd q q0 q1 qx
                · simp only [updB] at qb ⊢
                  by_cases y : q = k
                  · rw [if_pos y, y]; exact z2
                  · rw [if_neg y] at qb ⊢; exact se q q0 q1 qb
        · rw [if_pos rfl]
          refine ihr (k + 1) s (by omega) (by omega) hb ha hu (fun j j0 j1 z => ?_) hd
          by_cases y : j = k
          · rw [y]; exact z1
          · exact hc j j0 (by omega) z
    exact loop n.toNat 0 s0 (by omega) (by omega) rfl (fun _ h => h) hu (fun j j0 j1 => by omega) (fun x _ _ p q => by rw [p] at q; cases q)
end
