def mm_le (f g : mm_F) : Prop := ∀ (d j pc : Nat) (L : mm_L) (S : List Value) (m : mm_M) (r : mm_R), f d j pc L S m = some r → g d j pc L S m = some r
theorem mm_le_k1 {f g : mm_F} (h : mm_le f g) {k d j pc : Nat} {L : mm_L} {S : List Value} {q r : mm_R} (e : mm_k1 f k d j pc L S q = some r) : mm_k1 g k d j pc L S q = some r := by
  unfold mm_k1 at e ⊢
  split at e
  · split at e
    · next hv => rw [if_pos hv]; exact h _ _ _ _ _ _ _ e
    · cases e
  · cases e
theorem mm_le_k2 {f g : mm_F} (h : mm_le f g) {d j pc : Nat} {L : mm_L} {S : List Value} {o : Nat} {q r : mm_R} (e : mm_k2 f d j pc L S o q = some r) : mm_k2 g d j pc L S o q = some r := by
  unfold mm_k2 at e ⊢
  split at e
  · split at e
    · next hv => rw [if_pos hv]; exact h _ _ _ _ _ _ _ e
    · cases e
  · exact h _ _ _ _ _ _ _ e
  · cases e
theorem mm_le_cl2 {f g : mm_F} (h : mm_le f g) {d : Nat} {as : List Value} {j pc : Nat} {L : mm_L} {S : List Value} {m : mm_M} {r : mm_R} (e : mm_cl2 f d as j pc L S m = some r) : mm_cl2 g d as j pc L S m = some r := by
  unfold mm_cl2 at e ⊢
  split at e
  · split at e
    · next ho =>
      obtain ⟨q, h1, h2⟩ := Option.bind_eq_some_iff.mp e
      try dsimp only
      rw [if_pos ho]
      exact Option.bind_eq_some_iff.mpr ⟨q, h _ _ _ _ _ _ _ h1, mm_le_k2 h h2⟩
    · cases e
  · cases e
theorem mm_le_cal {f g : mm_F} (h : mm_le f g) {d k : Nat} {as : List Value} {j pc : Nat} {L : mm_L} {S : List Value} {m : mm_M} {r : mm_R} (e : mm_cal f d k as j pc L S m = some r) : mm_cal g d k as j pc L S m = some r := by
  unfold mm_cal at e ⊢
  split at e
  · cases e
  · try dsimp only
    split at e
    · next hk => rw [if_pos hk]; exact mm_le_cl2 h e
    · next hk =>
      rw [if_neg hk]
      obtain ⟨q, h1, h2⟩ := Option.bind_eq_some_iff.mp e
      exact Option.bind_eq_some_iff.mpr ⟨q, h _ _ _ _ _ _ _ h1, mm_le_k1 h h2⟩
theorem mm_le_out {f g : mm_F} (h : mm_le f g) {d j : Nat} {L : mm_L} {m : mm_M} {o : mm_O} {r : mm_R} (e : mm_out f d j L m o = some r) : mm_out g d j L m o = some r := by
  rcases o with q | q | v | u
  · exact h _ _ _ _ _ _ _ e
  · exact mm_le_cal h e
  · exact e
  · exact e
theorem mm_le_body {f g : mm_F} (h : mm_le f g) : mm_le (mm_body f) (mm_body g) := by
  intro d j pc L S m r e
  unfold mm_body at e ⊢
  obtain ⟨x, h1, h2⟩ := Option.bind_eq_some_iff.mp e
  obtain ⟨o, h3, h4⟩ := Option.bind_eq_some_iff.mp h2
  exact Option.bind_eq_some_iff.mpr ⟨x, h1, Option.bind_eq_some_iff.mpr ⟨o, h3, mm_le_out h h4⟩⟩
theorem mm_le_s : ∀ n : Nat, mm_le (mm_run n) (mm_run (n + 1))
  | 0 => fun _ _ _ _ _ _ _ e => by cases e
  | n + 1 => mm_le_body (mm_le_s n)
theorem mm_le_add (n : Nat) : ∀ k : Nat, mm_le (mm_run n) (mm_run (n + k))
  | 0 => fun _ _ _ _ _ _ _ e => e
  | k + 1 => fun _ _ _ _ _ _ _ e => mm_le_s _ _ _ _ _ _ _ _ (mm_le_add n k _ _ _ _ _ _ _ e)
theorem mm_le_of {n k : Nat} (h : n ≤ k) : mm_le (mm_run n) (mm_run k) := by
  obtain ⟨i, rfl⟩ := Nat.exists_eq_add_of_le h
  exact mm_le_add n i
/-- what the small machine comes to at last, none if never -/
noncomputable def mm_ev : mm_F := fun d j pc L S m => @dite _ (∃ (r : mm_R) (n : Nat), mm_run n d j pc L S m = some r) (Classical.propDecidable _) (fun h => some (Classical.choose h)) (fun _ => none)
theorem mm_ev_iff {d j pc : Nat} {L : mm_L} {S : List Value} {m : mm_M} {r : mm_R} : mm_ev d j pc L S m = some r ↔ ∃ n : Nat, mm_run n d j pc L S m = some r := by
  unfold mm_ev
  by_cases h : ∃ (r : mm_R) (n : Nat), mm_run n d j pc L S m = some r
  · rw [dif_pos h]
    obtain ⟨n, hn⟩ := Classical.choose_spec h
    constructor
    · intro e
      cases e
      exact ⟨n, hn⟩
    · rintro ⟨k, hk⟩
      have h1 := mm_le_of (Nat.le_max_left n k) _ _ _ _ _ _ _ hn
      have h2 := mm_le_of (Nat.le_max_right n k) _ _ _ _ _ _ _ hk
      rw [h1] at h2
      exact h2
  · rw [dif_neg h]
    constructor
    · intro e; cases e
    · rintro ⟨k, hk⟩
      exact absurd ⟨r, k, hk⟩ h
theorem mm_ev_run (n : Nat) : mm_le (mm_run n) mm_ev := fun _ _ _ _ _ _ _ e => mm_ev_iff.mpr ⟨n, e⟩
theorem mm_ct_k1 {k d j pc : Nat} {L : mm_L} {S : List Value} {q r : mm_R} (e : mm_k1 mm_ev k d j pc L S q = some r) : ∃ n, mm_k1 (mm_run n) k d j pc L S q = some r := by
  unfold mm_k1 at e ⊢
  split at e
  · split at e
    · next hv => simp only [if_pos hv]; exact mm_ev_iff.mp e
    · cases e
  · cases e
theorem mm_ct_k2 {d j pc : Nat} {L : mm_L} {S : List Value} {o : Nat} {q r : mm_R} (e : mm_k2 mm_ev d j pc L S o q = some r) : ∃ n, mm_k2 (mm_run n) d j pc L S o q = some r := by
  unfold mm_k2 at e ⊢
  split at e
  · split at e
    · next hv => simp only [if_pos hv]; exact mm_ev_iff.mp e
    · cases e
  · exact mm_ev_iff.mp e
  · cases e
theorem mm_ct_b1 {x : Option mm_R} {k9 d j pc : Nat} {L : mm_L} {S : List Value} {d0 k : Nat} {L0 : mm_L} {m : mm_M} {r : mm_R} (e : (mm_ev d0 k 0 L0 [] m).bind (mm_k1 mm_ev k9 d j pc L S) = some r) : ∃ n, (mm_run n d0 k 0 L0 [] m).bind (mm_k1 (mm_run n) k9 d j pc L S) = some r := by
  obtain ⟨q, h1, h2⟩ := Option.bind_eq_some_iff.mp e
  obtain ⟨n1, e1⟩ := mm_ev_iff.mp h1
  obtain ⟨n2, e2⟩ := mm_ct_k1 h2
  exact ⟨max n1 n2, Option.bind_eq_some_iff.mpr ⟨q, mm_le_of (Nat.le_max_left _ _) _ _ _ _ _ _ _ e1, mm_le_k1 (mm_le_of (Nat.le_max_right _ _)) e2⟩⟩
theorem mm_ct_b2 {d j pc : Nat} {L : mm_L} {S : List Value} {o d0 k : Nat} {L0 : mm_L} {m : mm_M} {r : mm_R} (e : (mm_ev d0 k 0 L0 [] m).bind (mm_k2 mm_ev d j pc L S o) = some r) : ∃ n, (mm_run n d0 k 0 L0 [] m).bind (mm_k2 (mm_run n) d j pc L S o) = some r := by
  obtain ⟨q, h1, h2⟩ := Option.bind_eq_some_iff.mp e
  obtain ⟨n1, e1⟩ := mm_ev_iff.mp h1
  obtain ⟨n2, e2⟩ := mm_ct_k2 h2
  exact ⟨max n1 n2, Option.bind_eq_some_iff.mpr ⟨q, mm_le_of (Nat.le_max_left _ _) _ _ _ _ _ _ _ e1, mm_le_k2 (mm_le_of (Nat.le_max_right _ _)) e2⟩⟩
theorem mm_ct_cal {d k : Nat} {as : List Value} {j pc : Nat} {L : mm_L} {S : List Value} {m : mm_M} {r : mm_R} (e : mm_cal mm_ev d k as j pc L S m = some r) : ∃ n, mm_cal (mm_run n) d k as j pc L S m = some r := by
  unfold mm_cal at e ⊢
  split at e
  · cases e
  · try dsimp only
    split at e
    · next hk =>
      simp only [if_pos hk]
      unfold mm_cl2 at e ⊢
      split at e
      · split at e
        · next ho =>
          try dsimp only
          simp only [if_pos ho]
          exact mm_ct_b2 e
        · cases e
      · cases e
    · next hk =>
      simp only [if_neg hk]
      exact mm_ct_b1 (x := none) e
theorem mm_ct_body {d j pc : Nat} {L : mm_L} {S : List Value} {m : mm_M} {r : mm_R} (e : mm_body mm_ev d j pc L S m = some r) : ∃ n, mm_body (mm_run n) d j pc L S m = some r := by
  unfold mm_body at e ⊢
  obtain ⟨x, h1, h2⟩ := Option.bind_eq_some_iff.mp e
  obtain ⟨o, h3, h4⟩ := Option.bind_eq_some_iff.mp h2
  have key : ∃ n, mm_out (mm_run n) d j L m o = some r := by
    rcases o with q | q | v | u
    · exact mm_ev_iff.mp h4
    · exact mm_ct_cal h4
    · exact ⟨0, h4⟩
    · exact ⟨0, h4⟩
  obtain ⟨n, hn⟩ := key
  exact ⟨n, Option.bind_eq_some_iff.mpr ⟨x, h1, Option.bind_eq_some_iff.mpr ⟨o, h3, hn⟩⟩⟩
theorem mm_ev_fix (d j pc : Nat) (L : mm_L) (S : List Value) (m : mm_M) : mm_ev d j pc L S m = mm_body mm_ev d j pc L S m := by
  apply Option.ext
  intro r
  constructor
  · intro e
    obtain ⟨n, hn⟩ := mm_ev_iff.mp e
    cases n with
    | zero => cases hn
    | succ n => exact mm_le_body (mm_ev_run n) _ _ _ _ _ _ _ hn
  · intro e
    obtain ⟨n, hn⟩ := mm_ct_body e
    exact mm_ev_iff.mpr ⟨n + 1, hn⟩
/-- a step -/
theorem ev_s {d j pc : Nat} {L : mm_L} {S : List Value} {m : mm_M} {e : mm_E} {pc' : Nat} {L' : mm_L} {S' : List Value} {m' : mm_M} (h : mm_at j pc = some e) (h2 : mm_step j e pc L S m = mm_nx pc' L' S' m') : mm_ev d j pc L S m = mm_ev d j pc' L' S' m' := by
  rw [mm_ev_fix d j pc L S m]
  unfold mm_body
  rw [h, Option.bind_some, h2]
  rfl
/-- an answer -/
theorem ev_r {d j pc : Nat} {L : mm_L} {S : List Value} {m : mm_M} {e : mm_E} {v : Option Value} (h : mm_at j pc = some e) (h2 : mm_step j e pc L S m = some (.inr (.inr (.inl v)))) : mm_ev d j pc L S m = some (some v, m) := by
  rw [mm_ev_fix d j pc L S m]
  unfold mm_body
  rw [h, Option.bind_some, h2]
  rfl
theorem ev_x {d j pc : Nat} {L : mm_L} {S : List Value} {m : mm_M} {e : mm_E} (h : mm_at j pc = some e) (h2 : mm_step j e pc L S m = some (.inr (.inr (.inr ())))) : mm_ev d j pc L S m = some (none, mm_exc m) := by
  rw [mm_ev_fix d j pc L S m]
  unfold mm_body
  rw [h, Option.bind_some, h2]
  rfl
/-- a call -/
theorem ev_c {d j pc k pc' : Nat} {L : mm_L} {S S' as : List Value} {m : mm_M} {e : mm_E} (h : mm_at j pc = some e) (h2 : mm_step j e pc L S m = some (.inr (.inl (k, as, S', pc')))) (hk : ¬ k = 278) : mm_ev (d + 1) j pc L S m = (mm_ev d k 0 (mm_en k as) [] m).bind (mm_k1 mm_ev k (d + 1) j pc' L S') := by
  rw [mm_ev_fix (d + 1) j pc L S m]
  unfold mm_body
  rw [h, Option.bind_some, h2]
  show mm_cal mm_ev (d + 1) k as j pc' L S' m = _
  unfold mm_cal
  try dsimp only
  rw [if_neg hk]
/-- a branch -/
theorem ev_b {d j pc : Nat} {L : mm_L} {S : List Value} {m : mm_M} {e : mm_E} {c : Bool} {t f : Nat} {S' : List Value} (h : mm_at j pc = some e) (h2 : mm_step j e pc L S m = if c = true then mm_nx t L S' m else mm_nx f L S' m) : mm_ev d j pc L S m = if c = true then mm_ev d j t L S' m else mm_ev d j f L S' m := by
  by_cases hc : c = true
  · rw [if_pos hc] at h2 ⊢
    exact ev_s h h2
  · rw [if_neg hc] at h2 ⊢
    exact ev_s h h2
