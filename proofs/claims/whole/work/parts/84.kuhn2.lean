def siz (n : Int) (bf : Int → Int) : Int := cntGo (fun r => decide (0 ≤ bf r)) n.toNat 0 0
/-- a matching of lefts of S with rights not in A -/
def IsM (ed : Int → Int → Bool) (n : Int) (A : Int → Bool) (S : Int → Prop) (bf : Int → Int) : Prop := InjU n bf (fun _ => false) ∧ EdU n ed bf ∧ (∀ r, 0 ≤ r → r < n → 0 ≤ bf r → S (bf r) ∧ A r = false)
def Cov (ed : Int → Int → Bool) (n : Int) (A : Int → Bool) (S : Int → Prop) (CA CB : Int → Bool) : Prop := ∀ l r, S l → 0 ≤ r → r < n → A r = false → ed l r = true → CA l = true ∨ CB r = true
def matGoA (ed : Int → Int → Bool) (n : Int) (A : Int → Bool) : Nat → Int → Int × (Int → Int) → Int × (Int → Int)
  | 0, _, s => s
  | r + 1, k, s => matGoA ed n A r (k + 1) (s.1 + bI (fnd ed n 11 k (s.2, A)).1, (fnd ed n 11 k (s.2, A)).2.1)
section
variable {ed : Int → Int → Bool} {n N : Int} {A : Int → Bool}
theorem matGo_A : ∀ (r : Nat) (k : Int) (s : Int × (Int → Int)), matGo ed n r k s = matGoA ed n (fun _ => false) r k s
  | 0, _, _ => rfl
  | r + 1, k, s => by
    unfold matGo matGoA
    exact matGo_A r (k + 1) _
theorem cnt_inj (g : Int → Int) {P : Int → Bool} (N : Nat) : ∀ (k : Nat) (q : Int) (Q : Int → Bool), (∀ r, q ≤ r → r < q + k → P r = true → 0 ≤ g r ∧ g r < N ∧ Q (g r) = true) → (∀ r t, q ≤ r → r < q + k → q ≤ t → t < q + k → P r = true → P t = true → g r = g t → r = t) → cntGo P k q 0 ≤ cntGo Q N 0 0
  | 0, q, Q, _, _ => by
    have := (cntGo_r Q N 0 0).1
    exact this
  | k + 1, q, Q, h, hj => by
    have e : cntGo P (k + 1) q 0 = cntGo P k (q + 1) (if P q = true then 0 + 1 else 0) := rfl
    rw [e, cntGo_a]
    cases z : P q
    · rw [if_neg (by decide), Int.zero_add]
      exact cnt_inj g N k (q + 1) Q (fun r r0 r1 => h r (by omega) (by omega)) (fun r t r0 r1 t0 t1 => hj r t (by omega) (by omega) (by omega) (by omega))
    · obtain ⟨g0, g1, g2⟩ := h q (by omega) (by omega) z
      have e2 := cntGo_s (updA Q (g q) false) Q (g q) N 0 g0 (by omega) (by unfold updA; rw [if_pos rfl]) g2 (fun i hi => by unfold updA; rw [if_neg hi])
      have ih := cnt_inj g N k (q + 1) (updA Q (g q) false) (fun r r0 r1 p => by
        obtain ⟨a, b, c⟩ := h r (by omega) (by omega) p
        refine ⟨a, b, ?_⟩
        unfold updA
        rw [if_neg (fun y => by have := hj r q (by omega) (by omega) (by omega) (by omega) p z y; omega)]
        exact c) (fun r t r0 r1 t0 t1 => hj r t (by omega) (by omega) (by omega) (by omega))
      rw [if_pos rfl]
      omega
theorem cnt_or (P Q R : Int → Bool) : ∀ (k : Nat) (q : Int), (∀ i, q ≤ i → i < q + k → P i = true → Q i = true ∨ R i = true) → cntGo P k q 0 ≤ cntGo Q k q 0 + cntGo R k q 0
  | 0, _, _ => by
    show (0 : Int) ≤ 0 + 0
    omega
  | k + 1, q, h => by
    have e : ∀ X : Int → Bool, cntGo X (k + 1) q 0 = cntGo X k (q + 1) (if X q = true then 0 + 1 else 0) := fun _ => rfl
    rw [e P, e Q, e R, cntGo_a P, cntGo_a Q, cntGo_a R]
    have ih := cnt_or P Q R k (q + 1) (fun i i0 i1 => h i (by omega) (by omega))
    have hq := h q (by omega) (by omega)
    cases z1 : P q
    · rw [if_neg (by decide)]
      have : ∀ b : Bool, (0 : Int) ≤ if b = true then 0 + 1 else 0 := fun b => by cases b <;> decide
      have a := this (Q q)
      have b := this (R q)
      omega
    · rcases hq z1 with z | z
      · rw [z, if_pos rfl]
        have : (0 : Int) ≤ if R q = true then 0 + 1 else 0 := by cases R q <;> decide
        omega
      · rw [z, if_pos rfl]
        have : (0 : Int) ≤ if Q q = true then 0 + 1 else 0 := by cases Q q <;> decide
        omega
/-- no matching is greater than a cover -/
theorem weak {S : Int → Prop} {CA CB : Int → Bool} {bf : Int → Int} (hS : ∀ l, S l → 0 ≤ l ∧ l < N) (hc : Cov ed n A S CA CB) (hm : IsM ed n A S bf) : siz n bf ≤ cntGo CA N.toNat 0 0 + cntGo CB n.toNat 0 0 := by
  have h1 := cnt_or (fun r => decide (0 ≤ bf r)) CB (fun r => decide (0 ≤ bf r) && !CB r) n.toNat 0 (fun i i0 i1 p => by
    cases z : CB i
    · right
      rw [p]
      simp
    · left; rfl)
  have h2 := cnt_inj bf (P := fun r => decide (0 ≤ bf r) && !CB r) N.toNat n.toNat 0 CA (fun r r0 r1 p => by
    simp only [Bool.and_eq_true, decide_eq_true_eq, Bool.not_eq_true'] at p
    obtain ⟨s1, s2⟩ := hm.2.2 r r0 (by omega) p.1
    have := hS _ s1
    refine ⟨this.1, by omega, ?_⟩
    rcases hc (bf r) r s1 r0 (by omega) s2 (hm.2.1 r r0 (by omega) p.1) with z | z
    · exact z
    · rw [p.2] at z; cases z) (fun r t r0 r1 t0 t1 p q e => by
    simp only [Bool.and_eq_true, decide_eq_true_eq] at p
    exact hm.1 r t r0 (by omega) rfl t0 (by omega) rfl p.1 e)
  unfold siz
  omega
theorem siz_s {bf bf' : Int → Int} {x : Int} (x0 : 0 ≤ x) (x1 : x < n) (hx : bf x < 0) (hx' : 0 ≤ bf' x) (h : ∀ r, 0 ≤ r → r < n → ¬ r = x → (0 ≤ bf' r ↔ 0 ≤ bf r)) : siz n bf' = siz n bf + 1 := by
  unfold siz
  have e := cntGo_s (fun r => decide (0 ≤ bf r)) (fun r => if r = x then true else decide (0 ≤ bf r)) x n.toNat 0 x0 (by omega) (decide_eq_false (by omega)) (by rw [if_pos rfl]) (fun i hi => by rw [if_neg hi])
  have c := cntGo_c (f := fun r => decide (0 ≤ bf' r)) (g := fun r => if r = x then true else decide (0 ≤ bf r)) n.toNat 0 (fun i i0 i1 => by
    by_cases y : i = x
    · rw [if_pos y, y]; exact decide_eq_true hx'
    · rw [if_neg y]
      by_cases z : 0 ≤ bf i
      · rw [decide_eq_true z, decide_eq_true ((h i i0 (by omega) y).mpr z)]
      · rw [decide_eq_false z, decide_eq_false (fun q => z ((h i i0 (by omega) y).mp q))])
  omega
/-- matched counts a greatest matching -/
theorem matA_ok (n0 : 0 ≤ n) (n1 : n ≤ 10) {fr : Int} (f0 : 0 ≤ fr) : ∀ (r : Nat) (k : Int) (s : Int × (Int → Int)), k = n - r → fr ≤ k → IsM ed n A (fun l => fr ≤ l ∧ l < k) s.2 → s.1 = siz n s.2 → (∃ CA CB, Cov ed n A (fun l => fr ≤ l ∧ l < k) CA CB ∧ cntGo CA n.toNat 0 0 + cntGo CB n.toNat 0 0 ≤ s.1) → IsM ed n A (fun l => fr ≤ l ∧ l < n) (matGoA ed n A r k s).2 ∧ (matGoA ed n A r k s).1 = siz n (matGoA ed n A r k s).2 ∧ ∃ CA CB, Cov ed n A (fun l => fr ≤ l ∧ l < n) CA CB ∧ cntGo CA n.toNat 0 0 + cntGo CB n.toNat 0 0 ≤ (matGoA ed n A r k s).1
  | 0, k, s, hk, k0, hm, hs, hc => by
    have : k = n := by omega
    rw [this] at hm hc
    exact ⟨hm, hs, hc⟩
  | r + 1, k, s, hk, k0, hm, hs, ⟨CA, CB, hc, hcz⟩ => by
    have un := unA_n (n := n.toNat) (A := A)
    have k1 : k < n := by omega
    have hinj : InjU n s.2 A := fun a b a0 a1 _ b0 b1 _ ap ab => hm.1 a b a0 a1 rfl b0 b1 rfl ap ab
    have hni : ¬ ImU n s.2 A k := by
      rintro ⟨q, q0, q1, -, qe⟩
      have := (hm.2.2 q q0 q1 (by omega)).1
      rw [qe] at this
      omega
    have ok := fnd_ok (ed := ed) n0 11 k (s.2, A) (by simp only; omega) (by omega) hinj hni hm.2.1
    unfold matGoA
    generalize fnd ed n 11 k (s.2, A) = w at ok ⊢
    cases z : w.1
    · obtain ⟨fb, fc, fd⟩ := ok.2 z
      rw [bI_f, Int.add_zero]
      refine matA_ok n0 n1 f0 r (k + 1) (s.1, w.2.1) (by omega) (by omega) ?_ (by rw [show (s.1, w.2.1).2 = s.2 from fb]; exact hs) ?_
      · rw [show (s.1, w.2.1).2 = s.2 from fb]
        exact ⟨hm.1, hm.2.1, fun q q0 q1 qp => ⟨by have := (hm.2.2 q q0 q1 qp).1; omega, (hm.2.2 q q0 q1 qp).2⟩⟩
      · -- the cover goes over to what was asked
        let R : Int → Bool := fun q => w.2.2 q && !A q
        let Lp : Int → Bool := fun l => decide (l = k) || anyB (fun q => R q && decide (s.2 q = l)) n.toNat 0
        have anyE : ∀ (f : Int → Bool) (j : Nat) (i : Int), (anyB f j i = true ↔ ∃ q, i ≤ q ∧ q < i + j ∧ f q = true) := by
          intro f j
          induction j with
          | zero =>
            intro i
            constructor
            · intro h; cases h
            · rintro ⟨q, a, b, -⟩; omega
          | succ j ihj =>
            intro i
            show (f i || anyB f j (i + 1)) = true ↔ _
            rw [Bool.or_eq_true, ihj (i + 1)]
            constructor
            · rintro (h | ⟨q, a, b, c⟩)
              · exact ⟨i, by omega, by omega, h⟩
              · exact ⟨q, by omega, by omega, c⟩
            · rintro ⟨q, a, b, c⟩
              by_cases y : q = i
              · left; rw [← y]; exact c
              · right; exact ⟨q, by omega, by omega, c⟩
        have hLp : ∀ l, Lp l = true ↔ l = k ∨ ∃ q, 0 ≤ q ∧ q < n ∧ w.2.2 q = true ∧ A q = false ∧ s.2 q = l := by
          intro l
          show (decide (l = k) || anyB (fun q => R q && decide (s.2 q = l)) n.toNat 0) = true ↔ _
          rw [Bool.or_eq_true, decide_eq_true_eq, anyE]
          constructor
          · rintro (h | ⟨q, a, b, c⟩)
            · left; exact h
            · simp only [R, Bool.and_eq_true, Bool.not_eq_true', decide_eq_true_eq] at c
              right; exact ⟨q, by omega, by omega, c.1.1, c.1.2, c.2⟩
          · rintro (h | ⟨q, a, b, c1, c2, c3⟩)
            · left; exact h
            · right
              refine ⟨q, by omega, by omega, ?_⟩
              simp only [R, c1, c2, c3]
              simp
        refine ⟨fun l => CA l && !Lp l, fun q => CB q || R q, ?_, ?_⟩
        · intro l q hl q0 q1 qa qe
          cases y : Lp l
          · have hlk : l < k := by
              have : ¬ l = k := fun h => by rw [(hLp l).mpr (Or.inl h)] at y; cases y
              omega
            rcases hc l q ⟨hl.1, hlk⟩ q0 q1 qa qe with c | c
            · left; show (CA l && !Lp l) = true; rw [c, y]; rfl
            · right; show (CB q || R q) = true; rw [c]; rfl
          · right
            have : w.2.2 q = true := by
              rcases (hLp l).mp y with h | ⟨t, t0, t1, t2, t3, t4⟩
              · rw [h] at qe; exact fc q q0 q1 qe
              · have := (fd t t0 t1 t2 t3).2 q q0 q1 (by show ed (s.2 t) q = true; rw [t4]; exact qe)
                exact this
            show (CB q || (w.2.2 q && !A q)) = true
            rw [this, qa]
            simp
        · have e1 := cnt_or (fun q => CB q || R q) CB (fun q => R q && !CB q) n.toNat 0 (fun i i0 i1 p => by
            cases y : CB i
            · right
              simp only [y, Bool.false_or] at p
              rw [p]; rfl
            · left; rfl)
          have e2 := cnt_inj s.2 (P := fun q => R q && !CB q) n.toNat n.toNat 0 (fun l => CA l && Lp l) (fun q q0 q1 p => by
            simp only [R, Bool.and_eq_true, Bool.not_eq_true'] at p
            obtain ⟨d0, d1⟩ := fd q q0 (by omega) p.1.1 p.1.2
            have hl := (hm.2.2 q q0 (by omega) d0).1
            refine ⟨d0, by omega, ?_⟩
            rcases hc (s.2 q) q hl q0 (by omega) p.1.2 (hm.2.1 q q0 (by omega) d0) with c | c
            · rw [c, (hLp _).mpr (Or.inr ⟨q, q0, by omega, p.1.1, p.1.2, rfl⟩)]; rfl
            · rw [p.2] at c; cases c) (fun q t q0 q1 t0 t1 p pt e => by
            simp only [R, Bool.and_eq_true, Bool.not_eq_true'] at p
            exact hm.1 q t q0 (by omega) rfl t0 (by omega) rfl (fd q q0 (by omega) p.1.1 p.1.2).1 e)
          have e3 : ∀ (j : Nat) (i : Int), cntGo (fun l => CA l && !Lp l) j i 0 + cntGo (fun l => CA l && Lp l) j i 0 = cntGo CA j i 0 := by
            intro j
            induction j with
            | zero => intro i; rfl
            | succ j ihj =>
              intro i
              have e : ∀ X : Int → Bool, cntGo X (j + 1) i 0 = cntGo X j (i + 1) (if X i = true then 0 + 1 else 0) := fun _ => rfl
              rw [e, e, e, cntGo_a (fun l => CA l && !Lp l), cntGo_a (fun l => CA l && Lp l), cntGo_a CA, ← ihj (i + 1)]
              cases CA i <;> cases Lp i <;> simp <;> omega
          have e4 := e3 n.toNat 0
          simp only
          omega
    · obtain ⟨sa', sj, si, ⟨x, x0, x1, xa, xb, xc, xd⟩, se⟩ := ok.1 z
      rw [bI_t]
      have hneg : ∀ q, 0 ≤ q → q < n → A q = true → w.2.1 q < 0 := fun q q0 q1 qa => by
        rw [sa' q q0 q1 qa]
        by_cases y : s.2 q < 0
        · exact y
        · have := (hm.2.2 q q0 q1 (by omega)).2
          rw [qa] at this; cases this
      have hU : ∀ q, 0 ≤ q → q < n → 0 ≤ w.2.1 q → A q = false := fun q q0 q1 qp => by
        cases y : A q
        · rfl
        · have := hneg q q0 q1 y; omega
      refine matA_ok n0 n1 f0 r (k + 1) (s.1 + 1, w.2.1) (by omega) (by omega) ⟨fun a b a0 a1 _ b0 b1 _ ap ab => sj a b a0 a1 (hU a a0 a1 ap) b0 b1 (hU b b0 b1 (by have h9 : w.2.1 a = w.2.1 b := ab; have h8 : 0 ≤ w.2.1 a := ap; omega)) ap ab, se, fun q q0 q1 qp => ⟨?_, hU q q0 q1 qp⟩⟩ (by rw [hs, siz_s x0 x1 xb xc xd]) ⟨fun l => CA l || decide (l = k), CB, ?_, ?_⟩
      · show fr ≤ w.2.1 q ∧ w.2.1 q < k + 1
        rcases (si (w.2.1 q) qp).mp ⟨q, q0, q1, hU q q0 q1 qp, rfl⟩ with ⟨t, t0, t1, -, te⟩ | t
        · have := (hm.2.2 t t0 t1 (by rw [show s.2 t = _ from te]; exact qp)).1
          rw [show s.2 t = _ from te] at this
          omega
        · omega
      · intro l q hl q0 q1 qa qe
        by_cases y : l = k
        · left; simp [y]
        · rcases hc l q ⟨hl.1, by omega⟩ q0 q1 qa qe with c | c
          · left; simp [c]
          · right; exact c
      · have e1 := cnt_or (fun l => CA l || decide (l = k)) CA (fun l => decide (l = k)) n.toNat 0 (fun i i0 i1 p => by
          simp only [Bool.or_eq_true] at p
          exact p)
        have e2 := cntGo_s (fun _ => false) (fun l => decide (l = k)) k n.toNat 0 (by omega) (by omega) rfl (decide_eq_true rfl) (fun i hi => (decide_eq_false hi).symm)
        have e3 := cntGo_z (f := fun _ => false) n.toNat 0 (fun _ _ _ => rfl)
        simp only
        omega
end
