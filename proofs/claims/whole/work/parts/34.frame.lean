/-- all but the places of P is as it was -/
def Fr (P : Nat → Nat → Bool) (m m' : mm_M) : Prop := m'.1 = m.1 ∧ m'.2.1 = m.2.1 ∧ (∀ a k, mm_gR m' a k = mm_gR m a k) ∧ (∀ a k, P a k = false → mm_gI m' a k = mm_gI m a k ∧ mm_gL m' a k = mm_gL m a k)
section
variable {P Q : Nat → Nat → Bool} {m m' m'' : mm_M} {a k : Nat} {v : Int32} {w : Int64} {D : Nat → Nat → Int32} {E : Nat → Nat → Int64}
theorem Fr.rf : Fr P m m := ⟨rfl, rfl, fun _ _ => rfl, fun _ _ _ => ⟨rfl, rfl⟩⟩
theorem Fr.tr (h : Fr P m m') (h' : Fr P m' m'') : Fr P m m'' := ⟨h'.1.trans h.1, h'.2.1.trans h.2.1, fun a k => (h'.2.2.1 a k).trans (h.2.2.1 a k), fun a k z => ⟨(h'.2.2.2 a k z).1.trans (h.2.2.2 a k z).1, (h'.2.2.2 a k z).2.trans (h.2.2.2 a k z).2⟩⟩
theorem Fr.mono (h : Fr P m m') (hPQ : ∀ a k, Q a k = false → P a k = false) : Fr Q m m' := ⟨h.1, h.2.1, h.2.2.1, fun a k z => h.2.2.2 a k (hPQ a k z)⟩
theorem Fr.sI (hp : P a k = true) : Fr P m (mm_sI m a k v) := ⟨rfl, rfl, fun _ _ => rfl, fun b j z => ⟨(by
  rw [gI_sI, if_neg]
  rintro ⟨rfl, rfl⟩
  rw [hp] at z
  cases z), rfl⟩⟩
theorem Fr.sL (hp : P a k = true) : Fr P m (mm_sL m a k w) := ⟨rfl, rfl, fun _ _ => rfl, fun b j z => ⟨rfl, by
  rw [gL_sL, if_neg]
  rintro ⟨rfl, rfl⟩
  rw [hp] at z
  cases z⟩⟩
theorem Fr.sh (h : Fr P m m') (s : Sh m) : Sh m' := ⟨h.1.trans s.1, fun a k h1 h2 => (h.2.2.1 a k).trans (s.2 a k h1 h2)⟩
theorem Fr.gI (h : Fr P m m') (z : P a k = false) : mm_gI m' a k = mm_gI m a k := (h.2.2.2 a k z).1
theorem Fr.gL (h : Fr P m m') (z : P a k = false) : mm_gL m' a k = mm_gL m a k := (h.2.2.2 a k z).2
/-- the passing places of the model -/
def scM (a k : Nat) : Bool := Nat.ble 316 a && Nat.ble a 342 && !pmI a k && !pmL a
/-- facts and pile -/
def scL (a _k : Nat) : Bool := Nat.beq a 330 || Nat.beq a 331
theorem pm_sc {a k : Nat} (h : pmI a k = true) : scM a k = false := by
  unfold scM; rw [h]; simp
theorem pl_sc {a k : Nat} (h : pmL a = true) : scM a k = false := by
  unfold scM; rw [h]; simp
theorem MD.fr (h : MD D E m) (f : Fr scM m m') : MD D E m' := ⟨f.sh h.1, fun a k z => (f.gI (pm_sc z)).trans (h.2.1 a k z), fun a k z => (f.gL (pl_sc z)).trans (h.2.2 a k z)⟩
theorem scL_M {a k : Nat} (h : scM a k = false) : scL a k = false := by
  unfold scL
  cases e1 : Nat.beq a 330
  · cases e2 : Nat.beq a 331
    · rfl
    · rw [Nat.eq_of_beq_eq_true e2] at h
      exact absurd h (by simp [scM, pmI, pmL])
  · rw [Nat.eq_of_beq_eq_true e1] at h
    exact absurd h (by simp [scM, pmI, pmL])
theorem Fr.LM (h : Fr scL m m') : Fr scM m m' := h.mono (fun _ _ => scL_M)
theorem MD.frL (h : MD D E m) (f : Fr scL m m') : MD D E m' := h.fr f.LM
end
/-- laws: the model's code -/
def opS (D : Nat → Nat → Int32) (i : Int) : Int := (D 323 i.toNat).toInt
def arS (D : Nat → Nat → Int32) (i : Int) : Int := (D 324 i.toNat).toInt
def bothS (c : Int) (a b : Int32) : Int32 := if c = 4 then a + b else if c = 5 then a - b else if c = 6 then a * b else if c = 7 then (if a < b then iI 1 else iI 0) else if c = 8 then (if a = b then iI 1 else iI 0) else if c = 9 then (if a = iI 0 then iI 0 else if b = iI 0 then iI 0 else iI 1) else (if a = iI 0 then (if b = iI 0 then iI 0 else iI 1) else iI 1)
def lawOk (D : Nat → Nat → Int32) (lo : Int) : Nat → Int → Nat → Prop
  | 0, _, _ => False
  | n + 1, i, h => (0 ≤ i ∧ i < 1100) ∧ ((opS D i = 0 ∧ h = 1) ∨ (opS D i = 1 ∧ 0 ≤ arS D i ∧ h < 32 ∧ lawOk D lo n (i + 1) (h + 1)) ∨ (opS D i = 2 ∧ (arS D i = lo ∨ arS D i = lo + 1) ∧ h < 32 ∧ lawOk D lo n (i + 1) (h + 1)) ∨ (opS D i = 3 ∧ 1 ≤ h ∧ lawOk D lo n (i + 1) h) ∨ (4 ≤ opS D i ∧ opS D i ≤ 10 ∧ 2 ≤ h ∧ lawOk D lo n (i + 1) (h - 1)))
def upS (p : Nat → Int32) (h : Nat) (v : Int32) : Nat → Int32 := fun j => if j = h then v else p j
def lawGo (D : Nat → Nat → Int32) (lo : Int) (x y : Int32) : Nat → Int → (Nat → Int32) → Nat → Int32
  | 0, _, p, _ => p 0
  | n + 1, i, p, h => if opS D i = 0 then p 0 else if opS D i = 1 then lawGo D lo x y n (i + 1) (upS p h (iI (arS D i))) (h + 1) else if opS D i = 2 then lawGo D lo x y n (i + 1) (upS p h (if arS D i = lo then x else y)) (h + 1) else if opS D i = 3 then lawGo D lo x y n (i + 1) (upS p (h - 1) (if p (h - 1) = iI 0 then iI 1 else iI 0)) h else lawGo D lo x y n (i + 1) (upS p (h - 2) (bothS (opS D i) (p (h - 2)) (p (h - 1)))) (h - 1)
/-- a law's worth -/
def lawS (D : Nat → Nat → Int32) (lo : Int) (x y : Int32) (i : Int) : Int32 := lawGo D lo x y 1100 i (fun _ => iI 0) 0
/-- what lies above the pile's top is of no weight -/
theorem lawGo_c {D : Nat → Nat → Int32} {lo : Int} {x y : Int32} : ∀ (n : Nat) (i : Int) (h : Nat) (p q : Nat → Int32), lawOk D lo n i h → (∀ k, k < h → p k = q k) → lawGo D lo x y n i p h = lawGo D lo x y n i q h
  | 0, _, _, _, _, ok, _ => ok.elim
  | n + 1, i, h, p, q, ok, e => by
    unfold lawGo
    obtain ⟨-, c⟩ := ok
    rcases c with ⟨o, rfl⟩ | ⟨o, -, h1, ok⟩ | ⟨o, -, h1, ok⟩ | ⟨o, h1, ok⟩ | ⟨o1, o2, h1, ok⟩
    · rw [if_pos o, if_pos o, e 0 (by omega)]
    · simp only [if_neg (show ¬ opS D i = 0 by omega), if_pos o]
      exact lawGo_c n _ _ _ _ ok (fun k hk => by
        unfold upS
        by_cases z : k = h
        · rw [if_pos z, if_pos z]
        · rw [if_neg z, if_neg z, e k (by omega)])
    · simp only [if_neg (show ¬ opS D i = 0 by omega), if_neg (show ¬ opS D i = 1 by omega), if_pos o]
      exact lawGo_c n _ _ _ _ ok (fun k hk => by
        unfold upS
        by_cases z : k = h
        · rw [if_pos z, if_pos z]
        · rw [if_neg z, if_neg z, e k (by omega)])
    · simp only [if_neg (show ¬ opS D i = 0 by omega), if_neg (show ¬ opS D i = 1 by omega), if_neg (show ¬ opS D i = 2 by omega), if_pos o]
      exact lawGo_c n _ _ _ _ ok (fun k hk => by
        unfold upS
        rw [e (h - 1) (by omega)]
        by_cases z : k = h - 1
        · rw [if_pos z, if_pos z]
        · rw [if_neg z, if_neg z, e k (by omega)])
    · simp only [if_neg (show ¬ opS D i = 0 by omega), if_neg (show ¬ opS D i = 1 by omega), if_neg (show ¬ opS D i = 2 by omega), if_neg (show ¬ opS D i = 3 by omega)]
      exact lawGo_c n _ _ _ _ ok (fun k hk => by
        unfold upS
        rw [e (h - 1) (by omega), e (h - 2) (by omega)]
        by_cases z : k = h - 2
        · rw [if_pos z, if_pos z]
        · rw [if_neg z, if_neg z, e k (by omega)])
