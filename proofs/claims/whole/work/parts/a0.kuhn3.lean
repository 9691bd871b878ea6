/-- c is the size of a greatest matching -/
def MaxN (ed : Int → Int → Bool) (n : Int) (A : Int → Bool) (S : Int → Prop) (c : Int) : Prop := (∃ bf, IsM ed n A S bf ∧ siz n bf = c) ∧ ∃ CA CB, Cov ed n A S CA CB ∧ cntGo CA n.toNat 0 0 + cntGo CB n.toNat 0 0 ≤ c
section
variable {ed ed' : Int → Int → Bool} {n : Int} {A A' : Int → Bool} {S : Int → Prop} {c c' : Int} {D : Nat → Nat → Int32}
theorem max_le (h : MaxN ed n A S c) (h' : MaxN ed' n A' S c') (hS : ∀ l, S l → 0 ≤ l ∧ l < n) (e : ∀ l r, S l → 0 ≤ r → r < n → A r = false → ed l r = true → A' r = false ∧ ed' l r = true) : c ≤ c' := by
  obtain ⟨⟨bf, hm, hz⟩, -⟩ := h
  obtain ⟨-, CA, CB, hc, hcz⟩ := h'
  have hm' : IsM ed' n A' S bf := ⟨hm.1, fun r r0 r1 rp => (e _ r (hm.2.2 r r0 r1 rp).1 r0 r1 (hm.2.2 r r0 r1 rp).2 (hm.2.1 r r0 r1 rp)).2, fun r r0 r1 rp => ⟨(hm.2.2 r r0 r1 rp).1, (e _ r (hm.2.2 r r0 r1 rp).1 r0 r1 (hm.2.2 r r0 r1 rp).2 (hm.2.1 r r0 r1 rp)).1⟩⟩
  have := weak hS hc hm'
  omega
theorem max_u (h : MaxN ed n A S c) (h' : MaxN ed' n A' S c') (hS : ∀ l, S l → 0 ≤ l ∧ l < n) (e : ∀ l r, S l → 0 ≤ r → r < n → A r = A' r ∧ ed l r = ed' l r) : c = c' := by
  have h1 := max_le h h' hS (fun l r sl r0 r1 a b => by rw [← (e l r sl r0 r1).1, ← (e l r sl r0 r1).2]; exact ⟨a, b⟩)
  have h2 := max_le h' h hS (fun l r sl r0 r1 a b => by rw [(e l r sl r0 r1).1, (e l r sl r0 r1).2]; exact ⟨a, b⟩)
  omega
theorem matA_max (n0 : 0 ≤ n) (n1 : n ≤ 10) {fr : Int} (f0 : 0 ≤ fr) (f1 : fr ≤ n) : MaxN ed n A (fun l => fr ≤ l ∧ l < n) (matGoA ed n A (n - fr).toNat fr (0, fun _ => -1)).1 := by
  have hz := cntGo_z (f := fun _ => false) n.toNat 0 (fun _ _ _ => rfl)
  obtain ⟨a, b, c⟩ := matA_ok (ed := ed) (A := A) n0 n1 f0 (n - fr).toNat fr (0, fun _ => -1) (by omega) (by omega) ⟨fun _ _ _ _ _ _ _ _ p => absurd p (by simp), fun _ _ _ p => absurd p (by simp), fun _ _ _ p => absurd p (by simp)⟩ (by
    unfold siz
    symm
    exact cntGo_z _ _ (fun _ _ _ => rfl)) ⟨fun _ => false, fun _ => false, fun l r hl => by omega, by simp only; omega⟩
  exact ⟨⟨_, a, b.symm⟩, c⟩
theorem first_t (f : Int → Bool) : ∀ (k : Nat) (t : Int), 0 ≤ t → 0 ≤ firstGo f k t → (t ≤ firstGo f k t ∧ firstGo f k t < t + k ∧ f (firstGo f k t) = true)
  | 0, t, _, h => by
    exfalso
    have : firstGo f 0 t = -1 := rfl
    omega
  | k + 1, t, ht, h => by
    unfold firstGo at h ⊢
    cases z : f t
    · rw [z, if_neg (by decide)] at h
      rw [if_neg (by decide)]
      obtain ⟨a, b, c⟩ := first_t f k (t + 1) (by omega) h
      exact ⟨by omega, by omega, c⟩
    · rw [if_pos rfl]
      exact ⟨by omega, by omega, z⟩
def takenB (nx : Int → Int) (k r : Int) : Bool := decide (0 ≤ firstGo (fun j => decide (nx j = r)) (k + 1).toNat 0)
theorem taken_t {nx : Int → Int} {k r : Int} (k0 : 0 ≤ k) : takenB nx k r = true ↔ ∃ j, 0 ≤ j ∧ j ≤ k ∧ nx j = r := by
  unfold takenB
  rw [decide_eq_true_eq]
  constructor
  · intro h
    obtain ⟨a, b, c⟩ := first_t _ _ _ (by omega) h
    exact ⟨_, a, by omega, of_decide_eq_true c⟩
  · rintro ⟨j, j0, j1, je⟩
    by_cases z : 0 ≤ firstGo (fun j => decide (nx j = r)) (k + 1).toNat 0
    · exact z
    · have := (firstGo_n (fun j => decide (nx j = r)) (k + 1).toNat 0 (by omega)).mp (by omega) j j0 (by omega)
      rw [decide_eq_true je] at this
      cases this
def fixN (nx : Int → Int) (k : Int) : Int := cntGo (fun j => decide (0 ≤ nx j)) (k + 1).toNat 0 0
/-- fixed pairs and a greatest matching of the rest -/
theorem fix_eq (n0 : 0 ≤ n) {nx : Int → Int} {k : Int} (k0 : 0 ≤ k) (k1 : k < n) (hr : ∀ j, 0 ≤ j → j ≤ k → nx j = -1 ∨ (0 ≤ nx j ∧ nx j < n)) (hj : ∀ i j, 0 ≤ i → i ≤ k → 0 ≤ j → j ≤ k → 0 ≤ nx i → nx i = nx j → i = j) (hf : ∀ j, k < j → j < n → nx j = -2) (h : MaxN (canF D) n (takenB nx k) (fun l => k + 1 ≤ l ∧ l < n) c) : MaxN (edgeS D nx) n (fun _ => false) (fun l => 0 ≤ l ∧ l < n) (fixN nx k + c) := by
  obtain ⟨⟨bf, hm, hz⟩, CA, CB, hc, hcz⟩ := h
  let jo : Int → Int := fun r => firstGo (fun j => decide (nx j = r)) (k + 1).toNat 0
  have jo_t : ∀ r, takenB nx k r = true → 0 ≤ jo r ∧ jo r ≤ k ∧ nx (jo r) = r := fun r ht => by
    obtain ⟨a, b, e⟩ := first_t (fun j => decide (nx j = r)) (k + 1).toNat 0 (by omega) (of_decide_eq_true ht)
    refine ⟨a, ?_, of_decide_eq_true e⟩
    show firstGo (fun j => decide (nx j = r)) (k + 1).toNat 0 ≤ k
    omega
  have jo_f : ∀ r, takenB nx k r = false → jo r < 0 := fun r ht => by
    have := of_decide_eq_false ht
    show firstGo (fun j => decide (nx j = r)) (k + 1).toNat 0 < 0
    omega
  have ct1 : cntGo (takenB nx k) n.toNat 0 0 ≤ fixN nx k := cnt_inj jo (k + 1).toNat n.toNat 0 (fun j => decide (0 ≤ nx j)) (fun r r0 r1 p => by
    obtain ⟨a, b, e⟩ := jo_t r p
    exact ⟨a, by omega, decide_eq_true (by omega)⟩) (fun r t r0 r1 t0 t1 p q e => by
    have a := (jo_t r p).2.2
    have b := (jo_t t q).2.2
    rw [e] at a
    omega)
  have ct2 : fixN nx k ≤ cntGo (takenB nx k) n.toNat 0 0 := cnt_inj nx n.toNat (k + 1).toNat 0 (takenB nx k) (fun j j0 j1 p => by
    have p' : 0 ≤ nx j := of_decide_eq_true p
    have := hr j j0 (by omega)
    exact ⟨p', by omega, (taken_t k0).mpr ⟨j, j0, by omega, rfl⟩⟩) (fun i j i0 i1 j0 j1 p q e => hj i j i0 (by omega) j0 (by omega) (of_decide_eq_true p) e)
  let b1 : Int → Int := fun r => if 0 ≤ jo r then jo r else bf r
  have b1_t : ∀ r, takenB nx k r = true → b1 r = jo r := fun r ht => if_pos (jo_t r ht).1
  have b1_f : ∀ r, takenB nx k r = false → b1 r = bf r := fun r ht => if_neg (by have := jo_f r ht; omega)
  refine ⟨⟨b1, ⟨?_, ?_, ?_⟩, ?_⟩, CA, (fun r => CB r || takenB nx k r), ?_, ?_⟩
  · intro a b a0 a1 _ b0' b1' _ ap ab
    cases ya : takenB nx k a
    · rw [b1_f a ya] at ap ab
      have sa' := (hm.2.2 a a0 a1 ap).1
      cases yb : takenB nx k b
      · rw [b1_f b yb] at ab
        exact hm.1 a b a0 a1 rfl b0' b1' rfl ap ab
      · rw [b1_t b yb] at ab
        have := (jo_t b yb).2.1
        omega
    · rw [b1_t a ya] at ap ab
      cases yb : takenB nx k b
      · rw [b1_f b yb] at ab
        have sb := (hm.2.2 b b0' b1' (by omega)).1
        have := (jo_t a ya).2.1
        omega
      · rw [b1_t b yb] at ab
        have e1 := (jo_t a ya).2.2
        have e2 := (jo_t b yb).2.2
        rw [ab] at e1
        omega
  · intro r r0 r1 rp
    cases y : takenB nx k r
    · rw [b1_f r y] at rp ⊢
      have sl := (hm.2.2 r r0 r1 rp).1
      unfold edgeS
      rw [if_pos (hf _ (by omega) (by omega))]
      exact hm.2.1 r r0 r1 rp
    · rw [b1_t r y]
      unfold edgeS
      have := (jo_t r y).2.2
      rw [if_neg (by omega), decide_eq_true this]
  · intro r r0 r1 rp
    refine ⟨?_, rfl⟩
    cases y : takenB nx k r
    · rw [b1_f r y] at rp ⊢
      have sl := (hm.2.2 r r0 r1 rp).1
      omega
    · rw [b1_t r y]
      have := jo_t r y
      omega
  · have e1 : siz n b1 = cntGo (fun r => takenB nx k r || decide (0 ≤ bf r)) n.toNat 0 0 := cntGo_c _ _ (fun i i0 i1 => by
      cases y : takenB nx k i
      · rw [b1_f i y, Bool.false_or]
      · rw [b1_t i y, Bool.true_or, decide_eq_true (jo_t i y).1])
    have e2 := cnt_or (fun r => takenB nx k r || decide (0 ≤ bf r)) (takenB nx k) (fun r => decide (0 ≤ bf r)) n.toNat 0 (fun i _ _ p => by
      rw [Bool.or_eq_true] at p
      exact p)
    have e3 : ∀ (j : Nat) (i : Int), 0 ≤ i → i + j ≤ n → cntGo (takenB nx k) j i 0 + cntGo (fun r => decide (0 ≤ bf r)) j i 0 ≤ cntGo (fun r => takenB nx k r || decide (0 ≤ bf r)) j i 0 := by
      intro j
      induction j with
      | zero => intro i _ _; show (0 : Int) + 0 ≤ 0; omega
      | succ j ihj =>
        intro i i0 i1
        have e : ∀ X : Int → Bool, cntGo X (j + 1) i 0 = cntGo X j (i + 1) (if X i = true then 0 + 1 else 0) := fun _ => rfl
        rw [e, e, e, cntGo_a (takenB nx k), cntGo_a (fun r => decide (0 ≤ bf r)), cntGo_a (fun r => takenB nx k r || decide (0 ≤ bf r))]
        have ih := ihj (i + 1) (by omega) (by omega)
        cases y : takenB nx k i
        · simp only [Bool.false_or, Bool.false_eq_true, if_false]
          omega
        · have : ¬ 0 ≤ bf i := fun q => by
            have := (hm.2.2 i i0 (by omega) q).2
            rw [y] at this; cases this
          simp only [this, decide_false, Bool.true_or, if_true, Bool.false_eq_true, if_false]
          omega
    have e4 := e3 n.toNat 0 (by omega) (by omega)
    unfold siz at hz e1
    unfold siz
    omega
  · intro l r hl r0 r1 _ he
    by_cases y : l ≤ k
    · right
      have : takenB nx k r = true := by
        rcases hr l hl.1 y with q | q
        · unfold edgeS at he
          rw [if_neg (by omega)] at he
          have := of_decide_eq_true he
          omega
        · unfold edgeS at he
          rw [if_neg (by omega)] at he
          exact (taken_t k0).mpr ⟨l, hl.1, y, of_decide_eq_true he⟩
      simp [this]
    · cases z : takenB nx k r
      · unfold edgeS at he
        rw [if_pos (hf l (by omega) hl.2)] at he
        rcases hc l r ⟨by omega, hl.2⟩ r0 r1 z he with q | q
        · left; exact q
        · right; simp [q]
      · right; simp [z]
  · have e1 := cnt_or (fun r => CB r || takenB nx k r) CB (takenB nx k) n.toNat 0 (fun i _ _ p => by
      rw [Bool.or_eq_true] at p
      exact p)
    omega
end
