def mm_kd (m : mm_M) (a : Nat) : Nat := match mm_sh m a with
  | some s => s.1
  | none => 999
def mm_ln (m : mm_M) (a : Nat) : Nat := match mm_sh m a with
  | some s => s.2
  | none => 0
def mm_q (m : mm_M) (a k : Nat) : Nat := (mm_gR m a k).getD 0
def mm_stp : Nat → Nat → Nat × mm_L × List Value × mm_M → Option (Nat × mm_L × List Value × mm_M)
  | 0, _, s => some s
  | n + 1, j, s => match mm_at j s.1 with
    | some e => match mm_step j e s.1 s.2.1 s.2.2.1 s.2.2.2 with
      | some (.inl q) => mm_stp n j q
      | _ => none
    | none => none
theorem ev_n {d j : Nat} : ∀ (n : Nat) {s q : Nat × mm_L × List Value × mm_M}, mm_stp n j s = some q → mm_ev d j s.1 s.2.1 s.2.2.1 s.2.2.2 = mm_ev d j q.1 q.2.1 q.2.2.1 q.2.2.2
  | 0, s, q, h => by
    cases h
    rfl
  | n + 1, s, q, h => by
    unfold mm_stp at h
    split at h
    · next e he =>
      split at h
      · next s2 hs2 => exact (ev_s he hs2).trans (ev_n n h)
      · cases h
    · cases h
/-- a run of plain steps -/
theorem ev_m {d j pc pc' : Nat} {L L' : mm_L} {S S' : List Value} {m m' : mm_M} {r : Option mm_R} (n : Nat) (h : mm_stp n j (pc, L, S, m) = some (pc', L', S', m')) (k : mm_ev d j pc' L' S' m' = r) : mm_ev d j pc L S m = r := (ev_n n h).trans k
def mm_cI (x : Option mm_R) (f : Int32 → mm_M → Option mm_R) : Option mm_R := match x with
  | some (some (some (.int v)), m) => f v m
  | _ => none
def mm_cJ (x : Option mm_R) (f : Int64 → mm_M → Option mm_R) : Option mm_R := match x with
  | some (some (some (.long v)), m) => f v m
  | _ => none
def mm_cV (x : Option mm_R) (f : mm_M → Option mm_R) : Option mm_R := match x with
  | some (some none, m) => f m
  | _ => none
theorem cI_some {v : Int32} {m : mm_M} {f : Int32 → mm_M → Option mm_R} : mm_cI (some (some (some (.int v)), m)) f = f v m := rfl
theorem cJ_some {v : Int64} {m : mm_M} {f : Int64 → mm_M → Option mm_R} : mm_cJ (some (some (some (.long v)), m)) f = f v m := rfl
theorem cV_some {m : mm_M} {f : mm_M → Option mm_R} : mm_cV (some (some none, m)) f = f m := rfl
theorem ev_bI {x : Option mm_R} {k d j pc : Nat} {L : mm_L} {S : List Value} (ht : ¬ mm_rt k = none ∧ ¬ mm_rt k = some .long) : x.bind (mm_k1 mm_ev k d j pc L S) = mm_cI x (fun v m => mm_ev d j pc L (.int v :: S) m) := by
  cases x with
  | none => rfl
  | some q =>
    obtain ⟨o, m⟩ := q
    cases o with
    | none => rfl
    | some v =>
      show (if mm_okv (mm_rt k) v = true then _ else none) = _
      cases v with
      | none =>
        rw [if_neg]
        · rfl
        · simp [mm_okv, ht.1]
      | some w =>
        cases w with
        | int z =>
          rw [if_pos]
          · rfl
          · simp [mm_okv, ht.1, ht.2]
        | long z =>
          rw [if_neg]
          · rfl
          · simp [mm_okv, ht.2]
        | _ => rfl
theorem ev_bJ {x : Option mm_R} {k d j pc : Nat} {L : mm_L} {S : List Value} (ht : mm_rt k = some .long) : x.bind (mm_k1 mm_ev k d j pc L S) = mm_cJ x (fun v m => mm_ev d j pc L (.long v :: S) m) := by
  cases x with
  | none => rfl
  | some q =>
    obtain ⟨o, m⟩ := q
    cases o with
    | none => rfl
    | some v =>
      show (if mm_okv (mm_rt k) v = true then _ else none) = _
      rw [ht]
      cases v with
      | none => rfl
      | some w => cases w <;> rfl
theorem ev_bV {x : Option mm_R} {k d j pc : Nat} {L : mm_L} {S : List Value} (ht : mm_rt k = none) : x.bind (mm_k1 mm_ev k d j pc L S) = mm_cV x (fun m => mm_ev d j pc L S m) := by
  cases x with
  | none => rfl
  | some q =>
    obtain ⟨o, m⟩ := q
    cases o with
    | none => rfl
    | some v =>
      show (if mm_okv (mm_rt k) v = true then _ else none) = _
      rw [ht]
      cases v with
      | none => rfl
      | some w => cases w <;> rfl
section RUL
variable {d j pc : Nat} {L : mm_L} {S : List Value} {m : mm_M} {r r' : Option mm_R}
/-- a step that is stuck -/
theorem ev_none {e : mm_E} (h : mm_at j pc = some e) (h2 : mm_step j e pc L S m = none) : mm_ev d j pc L S m = none := by
  rw [mm_ev_fix]
  unfold mm_body
  rw [h, Option.bind_some, h2]
  rfl
theorem r_if {c : Prop} {h9 : Decidable c} {a b a' b' : Option mm_R} (h1 : a = a') (h2 : b = b') : @ite _ c h9 a b = @ite _ c h9 a' b' := by rw [h1, h2]
theorem r_getI {ix n ci k a : Nat} {ty : Int} (h : mm_at j pc = some (.getfield ix, n, ci, k, ty)) (hc : ci < 30) (ht : ¬ ty = 1 ∧ ¬ ty = 2) (g : mm_ev d j (pc + 3) L (.int (mm_gI m a k) :: S) m = r) : mm_ev d j pc L (.ref a :: S) m = if mm_kd m a = ci then r else none := by
  subst g
  unfold mm_kd
  cases hs : mm_sh m a with
  | none =>
    rw [if_neg (by dsimp only; omega)]
    exact ev_none h (by unfold mm_step; dsimp only; rw [if_neg (show ¬ ci = 30 by omega)]; unfold mm_get; dsimp only; rw [hs])
  | some s =>
    dsimp only
    split
    · next h1 =>
      refine ev_s h ?_
      unfold mm_step; dsimp only; rw [if_neg (show ¬ ci = 30 by omega)]; unfold mm_get; dsimp only; rw [hs]; dsimp only; rw [if_pos h1, if_neg (fun z => ht.2 z.1)]; unfold mm_fv; rw [if_neg ht.1, if_neg ht.2]
    · next h1 =>
      refine ev_none h ?_
      unfold mm_step; dsimp only; rw [if_neg (show ¬ ci = 30 by omega)]; unfold mm_get; dsimp only; rw [hs]; dsimp only; rw [if_neg h1]
theorem r_getL {ix n ci k a : Nat} {ty : Int} (h : mm_at j pc = some (.getfield ix, n, ci, k, ty)) (hc : ci < 30) (ht : ty = 1) (g : mm_ev d j (pc + 3) L (.long (mm_gL m a k) :: S) m = r) : mm_ev d j pc L (.ref a :: S) m = if mm_kd m a = ci then r else none := by
  subst g
  unfold mm_kd
  cases hs : mm_sh m a with
  | none =>
    rw [if_neg (by dsimp only; omega)]
    exact ev_none h (by unfold mm_step; dsimp only; rw [if_neg (show ¬ ci = 30 by omega)]; unfold mm_get; dsimp only; rw [hs])
  | some s =>
    dsimp only
    split
    · next h1 =>
      refine ev_s h ?_
      unfold mm_step; dsimp only; rw [if_neg (show ¬ ci = 30 by omega)]; unfold mm_get; dsimp only; rw [hs]; dsimp only; rw [if_pos h1, if_neg (fun z => by omega)]; unfold mm_fv; rw [if_pos ht]
    · next h1 =>
      refine ev_none h ?_
      unfold mm_step; dsimp only; rw [if_neg (show ¬ ci = 30 by omega)]; unfold mm_get; dsimp only; rw [hs]; dsimp only; rw [if_neg h1]
theorem r_getR {ix n ci k a : Nat} {ty : Int} (h : mm_at j pc = some (.getfield ix, n, ci, k, ty)) (hc : ci < 30) (ht : ty = 2) (g : mm_ev d j (pc + 3) L (.ref (mm_q m a k) :: S) m = r) : mm_ev d j pc L (.ref a :: S) m = if mm_kd m a = ci ∧ ¬ mm_gR m a k = none then r else none := by
  subst g
  unfold mm_kd
  cases hs : mm_sh m a with
  | none =>
    rw [if_neg (by dsimp only; omega)]
    exact ev_none h (by unfold mm_step; dsimp only; rw [if_neg (show ¬ ci = 30 by omega)]; unfold mm_get; dsimp only; rw [hs])
  | some s =>
    dsimp only
    split
    · next h1 =>
      refine ev_s h ?_
      unfold mm_step; dsimp only; rw [if_neg (show ¬ ci = 30 by omega)]; unfold mm_get; dsimp only; rw [hs]; dsimp only; rw [if_pos h1.1, if_neg (fun z => h1.2 z.2)]; unfold mm_fv mm_q; rw [if_neg (by omega), if_pos ht]; cases hr : mm_gR m a k with | none => exact absurd hr h1.2 | some x => rfl
    · next h1 =>
      refine ev_none h ?_
      unfold mm_step; dsimp only; rw [if_neg (show ¬ ci = 30 by omega)]; unfold mm_get; dsimp only; rw [hs]; dsimp only; by_cases h2 : s.1 = ci
      · rw [if_pos h2, if_pos ⟨ht, Classical.byContradiction (fun z => h1 ⟨h2, z⟩)⟩]
      · rw [if_neg h2]
theorem r_putI {ix n ci k a : Nat} {ty : Int} {x : Int32} (h : mm_at j pc = some (.putfield ix, n, ci, k, ty)) (hc : ci < 30) (ht : ty = 0) (g : mm_ev d j (pc + 3) L S (mm_sI m a k x) = r) : mm_ev d j pc L (.int x :: .ref a :: S) m = if mm_kd m a = ci then r else none := by
  subst g
  unfold mm_kd
  cases hs : mm_sh m a with
  | none =>
    rw [if_neg (by dsimp only; omega)]
    exact ev_none h (by unfold mm_step; dsimp only; skip; unfold mm_put; dsimp only; rw [hs])
  | some s =>
    dsimp only
    split
    · next h1 =>
      refine ev_s h ?_
      unfold mm_step; dsimp only; skip; unfold mm_put; dsimp only; rw [hs]; dsimp only; rw [if_pos ⟨h1, Or.inl ht⟩]
    · next h1 =>
      refine ev_none h ?_
      unfold mm_step; dsimp only; skip; unfold mm_put; dsimp only; rw [hs]; dsimp only; rw [if_neg (fun z => h1 z.1)]
theorem r_putZ {ix n ci k a : Nat} {ty : Int} {x : Int32} (h : mm_at j pc = some (.putfield ix, n, ci, k, ty)) (hc : ci < 30) (ht : ty = 3) (g : mm_ev d j (pc + 3) L S (mm_sI m a k x) = r) : mm_ev d j pc L (.int x :: .ref a :: S) m = if mm_kd m a = ci ∧ (x = 0 ∨ x = 1) then r else none := by
  subst g
  unfold mm_kd
  cases hs : mm_sh m a with
  | none =>
    rw [if_neg (by dsimp only; omega)]
    exact ev_none h (by unfold mm_step; dsimp only; skip; unfold mm_put; dsimp only; rw [hs])
  | some s =>
    dsimp only
    split
    · next h1 =>
      refine ev_s h ?_
      unfold mm_step; dsimp only; skip; unfold mm_put; dsimp only; rw [hs]; dsimp only; rw [if_pos ⟨h1.1, Or.inr ⟨ht, h1.2⟩⟩]
    · next h1 =>
      refine ev_none h ?_
      unfold mm_step; dsimp only; skip; unfold mm_put; dsimp only; rw [hs]; dsimp only; rw [if_neg (fun z => h1 ⟨z.1, (z.2.resolve_left (by omega)).2⟩)]
theorem r_putL {ix n ci k a : Nat} {ty : Int} {x : Int64} (h : mm_at j pc = some (.putfield ix, n, ci, k, ty)) (hc : ci < 30) (ht : ty = 1) (g : mm_ev d j (pc + 3) L S (mm_sL m a k x) = r) : mm_ev d j pc L (.long x :: .ref a :: S) m = if mm_kd m a = ci then r else none := by
  subst g
  unfold mm_kd
  cases hs : mm_sh m a with
  | none =>
    rw [if_neg (by dsimp only; omega)]
    exact ev_none h (by unfold mm_step; dsimp only; skip; unfold mm_put; dsimp only; rw [hs])
  | some s =>
    dsimp only
    split
    · next h1 =>
      refine ev_s h ?_
      unfold mm_step; dsimp only; skip; unfold mm_put; dsimp only; rw [hs]; dsimp only; rw [if_pos ⟨h1, ht⟩]
    · next h1 =>
      refine ev_none h ?_
      unfold mm_step; dsimp only; skip; unfold mm_put; dsimp only; rw [hs]; dsimp only; rw [if_neg (fun z => h1 z.1)]
theorem r_putR {ix n ci k a x : Nat} {ty : Int} (h : mm_at j pc = some (.putfield ix, n, ci, k, ty)) (hc : ci < 30) (ht : ty = 2) (g : mm_ev d j (pc + 3) L S (mm_sR m a k (some x)) = r) : mm_ev d j pc L (.ref x :: .ref a :: S) m = if mm_kd m a = ci then r else none := by
  subst g
  unfold mm_kd
  cases hs : mm_sh m a with
  | none =>
    rw [if_neg (by dsimp only; omega)]
    exact ev_none h (by unfold mm_step; dsimp only; skip; unfold mm_put; dsimp only; rw [hs])
  | some s =>
    dsimp only
    split
    · next h1 =>
      refine ev_s h ?_
      unfold mm_step; dsimp only; skip; unfold mm_put; dsimp only; rw [hs]; dsimp only; rw [if_pos ⟨h1, ht⟩]
    · next h1 =>
      refine ev_none h ?_
      unfold mm_step; dsimp only; skip; unfold mm_put; dsimp only; rw [hs]; dsimp only; rw [if_neg (fun z => h1 z.1)]
theorem r_iald {n a : Nat} {r1 : Nat × Nat × Int} {i : Int32} (h : mm_at j pc = some (.iaload, n, r1)) (g : mm_ev d j (pc + 1) L (.int (mm_gI m a i.toNatClampNeg) :: S) m = r) : mm_ev d j pc L (.int i :: .ref a :: S) m = if mm_kd m a = 20 ∧ mm_in i (mm_ln m a) = true then r else none := by
  subst g
  unfold mm_kd mm_ln
  cases hs : mm_sh m a with
  | none =>
    rw [if_neg (by dsimp only; omega)]
    exact ev_none h (by unfold mm_step; dsimp only; skip; unfold mm_ald; dsimp only; rw [hs])
  | some s =>
    dsimp only
    split
    · next h1 =>
      refine ev_s h ?_
      unfold mm_step; dsimp only; skip; unfold mm_ald; dsimp only; rw [hs]; dsimp only; rw [if_pos h1]
    · next h1 =>
      refine ev_none h ?_
      unfold mm_step; dsimp only; skip; unfold mm_ald; dsimp only; rw [hs]; dsimp only; rw [if_neg h1]
theorem r_lald {n a : Nat} {r1 : Nat × Nat × Int} {i : Int32} (h : mm_at j pc = some (.laload, n, r1)) (g : mm_ev d j (pc + 1) L (.long (mm_gL m a i.toNatClampNeg) :: S) m = r) : mm_ev d j pc L (.int i :: .ref a :: S) m = if mm_kd m a = 21 ∧ mm_in i (mm_ln m a) = true then r else none := by
  subst g
  unfold mm_kd mm_ln
  cases hs : mm_sh m a with
  | none =>
    rw [if_neg (by dsimp only; omega)]
    exact ev_none h (by unfold mm_step; dsimp only; skip; unfold mm_ald; dsimp only; rw [hs])
  | some s =>
    dsimp only
    split
    · next h1 =>
      refine ev_s h ?_
      unfold mm_step; dsimp only; skip; unfold mm_ald; dsimp only; rw [hs]; dsimp only; rw [if_pos h1]
    · next h1 =>
      refine ev_none h ?_
      unfold mm_step; dsimp only; skip; unfold mm_ald; dsimp only; rw [hs]; dsimp only; rw [if_neg h1]
theorem r_cald {n a : Nat} {r1 : Nat × Nat × Int} {i : Int32} (h : mm_at j pc = some (.caload, n, r1)) (g : mm_ev d j (pc + 1) L (.int (mm_gI m a i.toNatClampNeg) :: S) m = r) : mm_ev d j pc L (.int i :: .ref a :: S) m = if mm_kd m a = 23 ∧ mm_in i (mm_ln m a) = true then r else none := by
  subst g
  unfold mm_kd mm_ln
  cases hs : mm_sh m a with
  | none =>
    rw [if_neg (by dsimp only; omega)]
    exact ev_none h (by unfold mm_step; dsimp only; skip; unfold mm_ald; dsimp only; rw [hs])
  | some s =>
    dsimp only
    split
    · next h1 =>
      refine ev_s h ?_
      unfold mm_step; dsimp only; skip; unfold mm_ald; dsimp only; rw [hs]; dsimp only; rw [if_pos h1]
    · next h1 =>
      refine ev_none h ?_
      unfold mm_step; dsimp only; skip; unfold mm_ald; dsimp only; rw [hs]; dsimp only; rw [if_neg h1]
theorem r_aald {n a : Nat} {r1 : Nat × Nat × Int} {i : Int32} (h : mm_at j pc = some (.aaload, n, r1)) (g : mm_ev d j (pc + 1) L (.ref (mm_q m a i.toNatClampNeg) :: S) m = r) : mm_ev d j pc L (.int i :: .ref a :: S) m = if (24 ≤ mm_kd m a ∧ mm_kd m a ≤ 27) ∧ mm_in i (mm_ln m a) = true ∧ ¬ mm_gR m a i.toNatClampNeg = none then r else none := by
  subst g
  unfold mm_kd mm_ln
  cases hs : mm_sh m a with
  | none =>
    rw [if_neg (by dsimp only; omega)]
    exact ev_none h (by unfold mm_step; dsimp only; skip; unfold mm_rld; dsimp only; rw [hs])
  | some s =>
    dsimp only
    split
    · next h1 =>
      refine ev_s h ?_
      unfold mm_step; dsimp only; skip; unfold mm_rld; dsimp only; rw [hs]; dsimp only; rw [if_pos h1]; unfold mm_q; cases hr : mm_gR m a i.toNatClampNeg with | none => exact absurd hr h1.2.2 | some x => rfl
    · next h1 =>
      refine ev_none h ?_
      unfold mm_step; dsimp only; skip; unfold mm_rld; dsimp only; rw [hs]; dsimp only; rw [if_neg h1]
theorem r_iast {n a : Nat} {r1 : Nat × Nat × Int} {i x : Int32} (h : mm_at j pc = some (.iastore, n, r1)) (g : mm_ev d j (pc + 1) L S (mm_sI m a i.toNatClampNeg (x)) = r) : mm_ev d j pc L (.int x :: .int i :: .ref a :: S) m = if 100 ≤ a ∧ mm_kd m a = 20 ∧ mm_in i (mm_ln m a) = true then r else none := by
  subst g
  unfold mm_kd mm_ln
  cases hs : mm_sh m a with
  | none =>
    rw [if_neg (by dsimp only; omega)]
    exact ev_none h (by unfold mm_step; dsimp only; skip; unfold mm_ast; dsimp only; rw [hs])
  | some s =>
    dsimp only
    split
    · next h1 =>
      refine ev_s h ?_
      unfold mm_step; dsimp only; skip; unfold mm_ast; dsimp only; rw [hs]; dsimp only; rw [if_pos h1]
    · next h1 =>
      refine ev_none h ?_
      unfold mm_step; dsimp only; skip; unfold mm_ast; dsimp only; rw [hs]; dsimp only; rw [if_neg h1]
theorem r_zast {n a : Nat} {r1 : Nat × Nat × Int} {i x : Int32} (h : mm_at j pc = some (.bastore, n, r1)) (g : mm_ev d j (pc + 1) L S (mm_sI m a i.toNatClampNeg (vp_nar .boolean x)) = r) : mm_ev d j pc L (.int x :: .int i :: .ref a :: S) m = if 100 ≤ a ∧ mm_kd m a = 22 ∧ mm_in i (mm_ln m a) = true then r else none := by
  subst g
  unfold mm_kd mm_ln
  cases hs : mm_sh m a with
  | none =>
    rw [if_neg (by dsimp only; omega)]
    exact ev_none h (by unfold mm_step; dsimp only; skip; unfold mm_ast; dsimp only; rw [hs])
  | some s =>
    dsimp only
    split
    · next h1 =>
      refine ev_s h ?_
      unfold mm_step; dsimp only; skip; unfold mm_ast; dsimp only; rw [hs]; dsimp only; rw [if_pos h1]
    · next h1 =>
      refine ev_none h ?_
      unfold mm_step; dsimp only; skip; unfold mm_ast; dsimp only; rw [hs]; dsimp only; rw [if_neg h1]
theorem r_cast {n a : Nat} {r1 : Nat × Nat × Int} {i x : Int32} (h : mm_at j pc = some (.castore, n, r1)) (g : mm_ev d j (pc + 1) L S (mm_sI m a i.toNatClampNeg (vp_nar .char x)) = r) : mm_ev d j pc L (.int x :: .int i :: .ref a :: S) m = if 100 ≤ a ∧ mm_kd m a = 23 ∧ mm_in i (mm_ln m a) = true then r else none := by
  subst g
  unfold mm_kd mm_ln
  cases hs : mm_sh m a with
  | none =>
    rw [if_neg (by dsimp only; omega)]
    exact ev_none h (by unfold mm_step; dsimp only; skip; unfold mm_ast; dsimp only; rw [hs])
  | some s =>
    dsimp only
    split
    · next h1 =>
      refine ev_s h ?_
      unfold mm_step; dsimp only; skip; unfold mm_ast; dsimp only; rw [hs]; dsimp only; rw [if_pos h1]
    · next h1 =>
      refine ev_none h ?_
      unfold mm_step; dsimp only; skip; unfold mm_ast; dsimp only; rw [hs]; dsimp only; rw [if_neg h1]
theorem r_last {n a : Nat} {r1 : Nat × Nat × Int} {i : Int32} {x : Int64} (h : mm_at j pc = some (.lastore, n, r1)) (g : mm_ev d j (pc + 1) L S (mm_sL m a i.toNatClampNeg x) = r) : mm_ev d j pc L (.long x :: .int i :: .ref a :: S) m = if mm_kd m a = 21 ∧ mm_in i (mm_ln m a) = true then r else none := by
  subst g
  unfold mm_kd mm_ln
  cases hs : mm_sh m a with
  | none =>
    rw [if_neg (by dsimp only; omega)]
    exact ev_none h (by unfold mm_step; dsimp only; skip; unfold mm_lst; dsimp only; rw [hs])
  | some s =>
    dsimp only
    split
    · next h1 =>
      refine ev_s h ?_
      unfold mm_step; dsimp only; skip; unfold mm_lst; dsimp only; rw [hs]; dsimp only; rw [if_pos h1]
    · next h1 =>
      refine ev_none h ?_
      unfold mm_step; dsimp only; skip; unfold mm_lst; dsimp only; rw [hs]; dsimp only; rw [if_neg h1]
theorem r_zald {n a : Nat} {r1 : Nat × Nat × Int} {i : Int32} (h : mm_at j pc = some (.baload, n, r1)) (g : mm_ev d j (pc + 1) L (.int (mm_gI m a i.toNatClampNeg) :: S) m = r) : mm_ev d j pc L (.int i :: .ref a :: S) m = if ¬ (50 ≤ a ∧ a ≤ 55) then (if mm_kd m a = 22 ∧ mm_in i (mm_ln m a) = true then r else none) else mm_ev d j pc L (.int i :: .ref a :: S) m := by
  split
  · next h5 =>
    subst g
    unfold mm_kd mm_ln
    cases hs : mm_sh m a with
    | none =>
      rw [if_neg (by dsimp only; omega)]
      exact ev_none h (by unfold mm_step; dsimp only; unfold mm_bld; dsimp only; rw [if_neg h5]; unfold mm_ald; dsimp only; rw [hs])
    | some s =>
      dsimp only
      split
      · next h1 =>
        refine ev_s h ?_
        unfold mm_step; dsimp only; unfold mm_bld; dsimp only; rw [if_neg h5]; unfold mm_ald; dsimp only; rw [hs]; dsimp only; rw [if_pos h1]
      · next h1 =>
        refine ev_none h ?_
        unfold mm_step; dsimp only; unfold mm_bld; dsimp only; rw [if_neg h5]; unfold mm_ald; dsimp only; rw [hs]; dsimp only; rw [if_neg h1]
  · rfl
theorem r_alen {n a : Nat} {r1 : Nat × Nat × Int} (h : mm_at j pc = some (.arraylength, n, r1)) (g : mm_ev d j (pc + 1) L (.int (Int32.ofNat (mm_ln m a)) :: S) m = r) : mm_ev d j pc L (.ref a :: S) m = if (20 ≤ mm_kd m a ∧ mm_kd m a ≤ 27) ∨ (50 ≤ a ∧ a ≤ 55) then r else none := by
  subst g
  unfold mm_kd mm_ln
  cases hs : mm_sh m a with
  | none =>
    have h5 : ¬ (50 ≤ a ∧ a ≤ 55) := fun z => by
      unfold mm_sh at hs
      rw [if_neg (by omega), if_pos (by omega), if_neg (by omega), if_pos z] at hs
      cases hs
    rw [if_neg (by dsimp only; omega)]
    exact ev_none h (by unfold mm_step; dsimp only; unfold mm_len; dsimp only; rw [hs])
  | some s =>
    dsimp only
    split
    · next h1 =>
      refine ev_s h ?_
      unfold mm_step; dsimp only; unfold mm_len; dsimp only; rw [hs]; dsimp only; rw [if_pos h1]
    · next h1 =>
      refine ev_none h ?_
      unfold mm_step; dsimp only; unfold mm_len; dsimp only; rw [hs]; dsimp only; rw [if_neg h1]
theorem at_of {t : List (Nat × mm_E)} {e : mm_E} (ht : mm_prog[j]? = some t) (h : mm_lk t pc = some e) : mm_at j pc = some e := by
  unfold mm_at
  rw [ht]
  exact h
def iI (z : Int) : Int32 := Int32.ofInt z
def lI (z : Int) : Int64 := Int64.ofInt z
def iRem (x y : Int32) : Int32 := x - x / y * y
def lRem (x y : Int64) : Int64 := x - x / y * y
def iShl (x y : Int32) : Int32 := x <<< (y &&& 31)
def iShr (x y : Int32) : Int32 := x >>> (y &&& 31)
def iUshr (x y : Int32) : Int32 := (x.toUInt32 >>> (y.toUInt32 &&& Int32.toUInt32 31)).toInt32
def lShl (x : Int64) (y : Int32) : Int64 := x <<< (y.toInt64 &&& 63)
def lShr (x : Int64) (y : Int32) : Int64 := x >>> (y.toInt64 &&& 63)
def lUshr (x : Int64) (y : Int32) : Int64 := (x.toUInt64 >>> (y.toInt64.toUInt64 &&& Int64.toUInt64 63)).toInt64
def iMax (x y : Int32) : Int32 := if x < y then y else x
def iMin (x y : Int32) : Int32 := if y < x then y else x
def iAbs (x : Int32) : Int32 := if 0 ≤ x then x else 0 - x
def iC (x : Int32) : Int32 := (x.toUInt32 % 65536).toInt32
def iNot (x : Int32) : Int32 := x ^^^ iI (-1)
def mm_stT (t : List (Nat × mm_E)) (j : Nat) : Nat → Nat × mm_L × List Value × mm_M → Option (Nat × mm_L × List Value × mm_M)
  | 0, s => some s
  | n + 1, s => match mm_lk t s.1 with
    | some e => match mm_step j e s.1 s.2.1 s.2.2.1 s.2.2.2 with
      | some (.inl q) => mm_stT t j n q
      | _ => none
    | none => none
theorem ev_nT {t : List (Nat × mm_E)} (ht : mm_prog[j]? = some t) : ∀ (n : Nat) {s q : Nat × mm_L × List Value × mm_M}, mm_stT t j n s = some q → mm_ev d j s.1 s.2.1 s.2.2.1 s.2.2.2 = mm_ev d j q.1 q.2.1 q.2.2.1 q.2.2.2
  | 0, s, q, h => by
    cases h
    rfl
  | n + 1, s, q, h => by
    unfold mm_stT at h
    split at h
    · next e he =>
      split at h
      · next s2 hs2 => exact (ev_s (at_of ht he) hs2).trans (ev_nT ht n h)
      · cases h
    · cases h
/-- a run of plain steps -/
theorem ev_t {t : List (Nat × mm_E)} {pc' : Nat} {L' : mm_L} {S' : List Value} {m' : mm_M} (ht : mm_prog[j]? = some t) (n : Nat) (h : mm_stT t j n (pc, L, S, m) = some (pc', L', S', m')) (k : mm_ev d j pc' L' S' m' = r) : mm_ev d j pc L S m = r := (ev_nT ht n h).trans k
def mm_cS (m : mm_M) (f : mm_M → Option mm_R) : Option mm_R := f m
theorem cS_some {m : mm_M} {f : mm_M → Option mm_R} : mm_cS m f = f m := rfl
theorem cS_of {m9 : mm_M} {f : mm_M → Option mm_R} (g : ∀ m1, mm_ev d j pc L S m1 = f m1) : mm_ev d j pc L S m9 = mm_cS m9 f := g m9
section BRA
variable {n t : Nat} {off : Int} {x y : Int32} {r2 : Nat × Int} {a b : Option mm_R}
theorem r_eq (h : mm_at j pc = some (.if_icmp .eq off, n, t, r2)) (g1 : mm_ev d j t L S m = a) (g2 : mm_ev d j (pc + 3) L S m = b) : mm_ev d j pc L (.int y :: .int x :: S) m = if x = y then a else b := by
  subst g1; subst g2
  rw [ev_b h rfl]
  simp only [mm_cd, decide_eq_true_eq]
theorem r_ne (h : mm_at j pc = some (.if_icmp .ne off, n, t, r2)) (g1 : mm_ev d j t L S m = a) (g2 : mm_ev d j (pc + 3) L S m = b) : mm_ev d j pc L (.int y :: .int x :: S) m = if x = y then b else a := by
  subst g1; subst g2
  rw [ev_b h rfl]
  simp only [mm_cd, decide_eq_true_eq, ite_not]
theorem r_lt (h : mm_at j pc = some (.if_icmp .lt off, n, t, r2)) (g1 : mm_ev d j t L S m = a) (g2 : mm_ev d j (pc + 3) L S m = b) : mm_ev d j pc L (.int y :: .int x :: S) m = if x < y then a else b := by
  subst g1; subst g2
  rw [ev_b h rfl]
  simp only [mm_cd, decide_eq_true_eq]
theorem mm_nle {x y : Int32} : y ≤ x ↔ ¬ x < y := by
  rw [Int32.le_iff_toInt_le, Int32.lt_iff_toInt_lt]; omega
theorem r_ge (h : mm_at j pc = some (.if_icmp .ge off, n, t, r2)) (g1 : mm_ev d j t L S m = a) (g2 : mm_ev d j (pc + 3) L S m = b) : mm_ev d j pc L (.int y :: .int x :: S) m = if x < y then b else a := by
  subst g1; subst g2
  rw [ev_b h rfl]
  simp only [mm_cd, decide_eq_true_eq, mm_nle, ite_not]
theorem r_gt (h : mm_at j pc = some (.if_icmp .gt off, n, t, r2)) (g1 : mm_ev d j t L S m = a) (g2 : mm_ev d j (pc + 3) L S m = b) : mm_ev d j pc L (.int y :: .int x :: S) m = if y < x then a else b := by
  subst g1; subst g2
  rw [ev_b h rfl]
  simp only [mm_cd, decide_eq_true_eq]
theorem r_le (h : mm_at j pc = some (.if_icmp .le off, n, t, r2)) (g1 : mm_ev d j t L S m = a) (g2 : mm_ev d j (pc + 3) L S m = b) : mm_ev d j pc L (.int y :: .int x :: S) m = if y < x then b else a := by
  subst g1; subst g2
  rw [ev_b h rfl]
  simp only [mm_cd, decide_eq_true_eq, mm_nle, ite_not]
theorem r_eq0 (h : mm_at j pc = some (.ifCond .eq off, n, t, r2)) (g1 : mm_ev d j t L S m = a) (g2 : mm_ev d j (pc + 3) L S m = b) : mm_ev d j pc L (.int x :: S) m = if x = iI 0 then a else b := by
  subst g1; subst g2
  rw [ev_b h rfl]
  simp only [mm_cd, decide_eq_true_eq]
  rfl
theorem r_ne0 (h : mm_at j pc = some (.ifCond .ne off, n, t, r2)) (g1 : mm_ev d j t L S m = a) (g2 : mm_ev d j (pc + 3) L S m = b) : mm_ev d j pc L (.int x :: S) m = if x = iI 0 then b else a := by
  subst g1; subst g2
  rw [ev_b h rfl]
  simp only [mm_cd, decide_eq_true_eq, show (iI 0) = 0 from rfl, ite_not]
theorem r_lt0 (h : mm_at j pc = some (.ifCond .lt off, n, t, r2)) (g1 : mm_ev d j t L S m = a) (g2 : mm_ev d j (pc + 3) L S m = b) : mm_ev d j pc L (.int x :: S) m = if x < iI 0 then a else b := by
  subst g1; subst g2
  rw [ev_b h rfl]
  simp only [mm_cd, decide_eq_true_eq]
  rfl
theorem r_ge0 (h : mm_at j pc = some (.ifCond .ge off, n, t, r2)) (g1 : mm_ev d j t L S m = a) (g2 : mm_ev d j (pc + 3) L S m = b) : mm_ev d j pc L (.int x :: S) m = if x < iI 0 then b else a := by
  subst g1; subst g2
  rw [ev_b h rfl]
  simp only [mm_cd, decide_eq_true_eq, mm_nle, show (iI 0) = 0 from rfl, ite_not]
theorem r_gt0 (h : mm_at j pc = some (.ifCond .gt off, n, t, r2)) (g1 : mm_ev d j t L S m = a) (g2 : mm_ev d j (pc + 3) L S m = b) : mm_ev d j pc L (.int x :: S) m = if iI 0 < x then a else b := by
  subst g1; subst g2
  rw [ev_b h rfl]
  simp only [mm_cd, decide_eq_true_eq]
  rfl
theorem r_le0 (h : mm_at j pc = some (.ifCond .le off, n, t, r2)) (g1 : mm_ev d j t L S m = a) (g2 : mm_ev d j (pc + 3) L S m = b) : mm_ev d j pc L (.int x :: S) m = if iI 0 < x then b else a := by
  subst g1; subst g2
  rw [ev_b h rfl]
  simp only [mm_cd, decide_eq_true_eq, mm_nle, show (iI 0) = 0 from rfl, ite_not]
end BRA
/-- divisions -/
theorem r_idiv {n : Nat} {r1 : Nat × Nat × Int} {x y : Int32} (h : mm_at j pc = some (.idiv, n, r1)) (g : mm_ev d j (pc + 1) L (.int (x / y) :: S) m = r) : mm_ev d j pc L (.int y :: .int x :: S) m = if y = iI 0 then none else r := by
  subst g
  split
  · next h1 => exact ev_none h (if_pos h1)
  · next h1 => exact ev_s h (if_neg h1)
theorem r_irem {n : Nat} {r1 : Nat × Nat × Int} {x y : Int32} (h : mm_at j pc = some (.irem, n, r1)) (g : mm_ev d j (pc + 1) L (.int (iRem x y) :: S) m = r) : mm_ev d j pc L (.int y :: .int x :: S) m = if y = iI 0 then none else r := by
  subst g
  split
  · next h1 => exact ev_none h (if_pos h1)
  · next h1 => exact ev_s h (if_neg h1)
theorem r_ldiv {n : Nat} {r1 : Nat × Nat × Int} {x y : Int64} (h : mm_at j pc = some (.ldiv, n, r1)) (g : mm_ev d j (pc + 1) L (.long (x / y) :: S) m = r) : mm_ev d j pc L (.long y :: .long x :: S) m = if y = lI 0 then none else r := by
  subst g
  split
  · next h1 => exact ev_none h (if_pos h1)
  · next h1 => exact ev_s h (if_neg h1)
theorem r_lrem {n : Nat} {r1 : Nat × Nat × Int} {x y : Int64} (h : mm_at j pc = some (.lrem, n, r1)) (g : mm_ev d j (pc + 1) L (.long (lRem x y) :: S) m = r) : mm_ev d j pc L (.long y :: .long x :: S) m = if y = lI 0 then none else r := by
  subst g
  split
  · next h1 => exact ev_none h (if_pos h1)
  · next h1 => exact ev_s h (if_neg h1)
/-- a text's bytes and coder -/
theorem r_gst0 {ix n a : Nat} (h : mm_at j pc = some (.getfield ix, n, 30, 0, 0)) (g : mm_ev d j (pc + 3) L (.ref (49 + a) :: S) m = r) : mm_ev d j pc L (.ref a :: S) m = if 1 ≤ a ∧ a ≤ 6 then r else none := by
  subst g
  split
  · next h1 => exact ev_s h (if_pos h1)
  · next h1 => exact ev_none h (if_neg h1)
theorem r_gst1 {ix n a : Nat} (h : mm_at j pc = some (.getfield ix, n, 30, 1, 0)) (g : mm_ev d j (pc + 3) L (.int (iI 0) :: S) m = r) : mm_ev d j pc L (.ref a :: S) m = if 1 ≤ a ∧ a ≤ 6 then r else none := by
  subst g
  split
  · next h1 => exact ev_s h (if_pos h1)
  · next h1 => exact ev_none h (if_neg h1)
/-- System.arraycopy -/
theorem r_acp {a b k : Nat} {x y z : Int32} {i1 n : Nat} (h : mm_at j pc = some (.invokestatic i1, n, k, 0, 13)) (hb : Nat.ble (S.map fun v => v.category).sum 8 = true) (g : mm_ev d j (pc + 3) L S (mm_cp m a x.toNatClampNeg b y.toNatClampNeg z.toNatClampNeg) = r) : mm_ev d j pc L (.int z :: .int y :: .ref b :: .int x :: .ref a :: S) m = if 100 ≤ a ∧ 100 ≤ b ∧ mm_kd m a = 20 ∧ mm_kd m b = 20 ∧ ¬ x < iI 0 ∧ ¬ y < iI 0 ∧ ¬ z < iI 0 ∧ x.toNatClampNeg + z.toNatClampNeg ≤ mm_ln m a ∧ y.toNatClampNeg + z.toNatClampNeg ≤ mm_ln m b then r else none := by
  subst g
  have e0 : iI 0 = 0 := rfl
  rw [e0]
  have hb1 := Nat.le_of_ble_eq_true hb
  unfold mm_kd mm_ln
  cases hs : mm_sh m a with
  | none =>
    rw [if_neg (by dsimp only; omega)]
    exact ev_none h (by unfold mm_step; dsimp only; unfold mm_inv; rw [if_neg (by decide), if_neg (by decide), if_neg (by decide)]; unfold mm_prim; rw [if_neg (by decide), if_neg (by decide), if_neg (by decide), if_neg (by decide), if_pos rfl]; dsimp only; rw [hs])
  | some s =>
    cases hq : mm_sh m b with
    | none =>
      rw [if_neg (by dsimp only; omega)]
      exact ev_none h (by unfold mm_step; dsimp only; unfold mm_inv; rw [if_neg (by decide), if_neg (by decide), if_neg (by decide)]; unfold mm_prim; rw [if_neg (by decide), if_neg (by decide), if_neg (by decide), if_neg (by decide), if_pos rfl]; dsimp only; rw [hs, hq])
    | some q =>
      dsimp only
      split
      · next h1 =>
        obtain ⟨c1, c2, c3, c4, c5, c6, c7, c8, c9⟩ := h1
        refine ev_s h ?_
        unfold mm_step; dsimp only; unfold mm_inv; rw [if_neg (by decide), if_neg (by decide), if_neg (by decide)]; unfold mm_prim; rw [if_neg (by decide), if_neg (by decide), if_neg (by decide), if_neg (by decide), if_pos rfl]; dsimp only; rw [hs, hq]; dsimp only
        rw [if_pos ⟨c1, c2, c3, c4, c5, c6, c7, c8, c9, hb1⟩]
      · next h1 =>
        refine ev_none h ?_
        unfold mm_step; dsimp only; unfold mm_inv; rw [if_neg (by decide), if_neg (by decide), if_neg (by decide)]; unfold mm_prim; rw [if_neg (by decide), if_neg (by decide), if_neg (by decide), if_neg (by decide), if_pos rfl]; dsimp only; rw [hs, hq]; dsimp only
        rw [if_neg (fun ⟨c1, c2, c3, c4, c5, c6, c7, c8, c9, _⟩ => h1 ⟨c1, c2, c3, c4, c5, c6, c7, c8, c9⟩)]
/-- a virtual call: the receiver first -/
theorem mm_rc_kd {c a : Nat} {As : List Value} (hc : c < 13) (h : mm_kd m a = c) : mm_rc m c (.ref a :: As) = true := by
  unfold mm_kd at h
  unfold mm_rc
  cases hs : mm_sh m a with
  | none => rw [hs] at h; dsimp only at h; omega
  | some s => rw [hs] at h; dsimp only at h ⊢; rw [hs]; exact decide_eq_true (Or.inl ⟨h, hc⟩)
theorem mm_rc_kn {c a : Nat} {As : List Value} (hc : c < 13) (h : ¬ mm_kd m a = c) : mm_rc m c (.ref a :: As) = false := by
  unfold mm_kd at h
  unfold mm_rc
  cases hs : mm_sh m a with
  | none => dsimp only; rw [hs]
  | some s => rw [hs] at h; dsimp only at h ⊢; rw [hs]; exact decide_eq_false (fun z => z.elim (fun z => h z.1) (fun z => by omega))
theorem mm_call_e {k n x pc' : Nat} {S' as : List Value} (h1 : Nat.ble n S.length = true) (h2 : (S.take n).reverse = as) (h3 : S.drop n = S') (h4 : Nat.ble (S'.map fun v => v.category).sum 8 = true) (h5 : mm_mx k = x) (h6 : Nat.ble (mm_ar as).length x = true) : mm_call k n pc' S = some (.inr (.inl (k, as, S', pc'))) := by
  unfold mm_call
  subst h2; subst h3; subst h5
  rw [if_pos ⟨Nat.le_of_ble_eq_true h1, Nat.le_of_ble_eq_true h4, Nat.le_of_ble_eq_true h6⟩]
theorem mm_en_e {k x : Nat} {as : List Value} {L0 : mm_L} (h5 : mm_mx k = x) (h : mm_ar as ++ List.replicate (x - (mm_ar as).length) none = L0) : mm_en k as = L0 := by
  subst h5; exact h
/-- what a call takes from the stack -/
def mm_CK (k n x : Nat) (S as S' : List Value) (L0 : mm_L) : Prop := Nat.ble n S.length = true ∧ (S.take n).reverse = as ∧ S.drop n = S' ∧ Nat.ble (S'.map fun v => v.category).sum 8 = true ∧ Nat.ble (mm_ar as).length x = true ∧ mm_ar as ++ List.replicate (x - (mm_ar as).length) none = L0
section CAL
variable {k n x pc' : Nat} {S' as : List Value} {L0 : mm_L} {e : mm_E}
theorem c_int {f : Int32 → mm_M → Option mm_R} (h : mm_at j pc = some e) (h2 : mm_step j e pc L S m = mm_call k n (pc + 3) S) (C : mm_CK k n x S as S' L0) (hx : mm_mx k = x) (hk : ¬ k = 278) (ht : ¬ mm_rt k = none ∧ ¬ mm_rt k = some .long) (hd : 0 < d) (g : ∀ v m2, mm_ev d j (pc + 3) L (.int v :: S') m2 = f v m2) : mm_ev d j pc L S m = mm_cI (mm_ev (d - 1) k 0 L0 [] m) f := by
  obtain ⟨c1, c2, c3, c4, c5, c6⟩ := C
  obtain ⟨d', rfl⟩ : ∃ d', d = d' + 1 := ⟨d - 1, by omega⟩
  rw [mm_call_e c1 c2 c3 c4 hx c5] at h2
  rw [ev_c h h2 hk, ev_bI ht, mm_en_e hx c6]
  show mm_cI _ _ = mm_cI (mm_ev d' k 0 L0 [] m) f
  congr 1
  funext v m2
  exact g v m2
theorem c_long {f : Int64 → mm_M → Option mm_R} (h : mm_at j pc = some e) (h2 : mm_step j e pc L S m = mm_call k n (pc + 3) S) (C : mm_CK k n x S as S' L0) (hx : mm_mx k = x) (hk : ¬ k = 278) (ht : mm_rt k = some .long) (hd : 0 < d) (g : ∀ v m2, mm_ev d j (pc + 3) L (.long v :: S') m2 = f v m2) : mm_ev d j pc L S m = mm_cJ (mm_ev (d - 1) k 0 L0 [] m) f := by
  obtain ⟨c1, c2, c3, c4, c5, c6⟩ := C
  obtain ⟨d', rfl⟩ : ∃ d', d = d' + 1 := ⟨d - 1, by omega⟩
  rw [mm_call_e c1 c2 c3 c4 hx c5] at h2
  rw [ev_c h h2 hk, ev_bJ ht, mm_en_e hx c6]
  show mm_cJ _ _ = mm_cJ (mm_ev d' k 0 L0 [] m) f
  congr 1
  funext v m2
  exact g v m2
theorem c_void {f : mm_M → Option mm_R} (h : mm_at j pc = some e) (h2 : mm_step j e pc L S m = mm_call k n (pc + 3) S) (C : mm_CK k n x S as S' L0) (hx : mm_mx k = x) (hk : ¬ k = 278) (ht : mm_rt k = none) (hd : 0 < d) (g : ∀ m2, mm_ev d j (pc + 3) L S' m2 = f m2) : mm_ev d j pc L S m = mm_cV (mm_ev (d - 1) k 0 L0 [] m) f := by
  obtain ⟨c1, c2, c3, c4, c5, c6⟩ := C
  obtain ⟨d', rfl⟩ : ∃ d', d = d' + 1 := ⟨d - 1, by omega⟩
  rw [mm_call_e c1 c2 c3 c4 hx c5] at h2
  rw [ev_c h h2 hk, ev_bV ht, mm_en_e hx c6]
  show mm_cV _ _ = mm_cV (mm_ev d' k 0 L0 [] m) f
  congr 1
  funext m2
  exact g m2
/-- the receiver's class -/
theorem c_rcv {c a ix nn : Nat} {r9 : Option mm_R} (h : mm_at j pc = some (.invokevirtual ix, nn, k, n, 2)) (ha : (S.take n).reverse = .ref a :: as) (hc : mm_ow k = c) (h13 : c < 13) (g : mm_step j (.invokevirtual ix, nn, k, n, 2) pc L S m = mm_call k n (pc + 3) S → mm_ev d j pc L S m = r9) : mm_ev d j pc L S m = if mm_kd m a = c then r9 else none := by
  have e1 : mm_step j (.invokevirtual ix, nn, k, n, 2) pc L S m = if mm_rc m (mm_ow k) (S.take n).reverse = true then mm_call k n (pc + 3) S else none := rfl
  split
  · next h1 =>
    refine g ?_
    rw [e1, ha, hc, mm_rc_kd h13 h1, if_pos rfl]
  · next h1 =>
    refine ev_none h ?_
    rw [e1, ha, hc, mm_rc_kn h13 h1, if_neg (by decide)]
end CAL
/-- answers -/
theorem r_retI {n : Nat} {r1 : Nat × Nat × Int} {x : Int32} (h : mm_at j pc = some (.ireturn, n, r1)) (hz : mm_isZ j = 0) : mm_ev d j pc L [.int x] m = some (some (some (.int x)), m) := by
  refine ev_r h ?_
  show mm_ret (mm_isZ j) [.int x] = _
  rw [hz]
  rfl
theorem r_retZ {n : Nat} {r1 : Nat × Nat × Int} {x : Int32} (h : mm_at j pc = some (.ireturn, n, r1)) (hz : mm_isZ j = 1) : mm_ev d j pc L [.int x] m = if x = iI 0 ∨ x = iI 1 then some (some (some (.int x)), m) else none := by
  have e1 : mm_step j (.ireturn, n, r1) pc L [.int x] m = if x = iI 0 ∨ x = iI 1 then some (.inr (.inr (.inl (some (.int x))))) else none := by
    show mm_ret (mm_isZ j) [.int x] = _
    rw [hz]
    unfold mm_ret
    dsimp only
    by_cases hx : x = iI 0 ∨ x = iI 1
    · rw [if_pos hx, if_pos (Or.inr (Or.inl ⟨rfl, hx⟩))]
    · rw [if_neg hx, if_neg (by rintro (h | h | h | h) <;> first | exact absurd h (by decide) | exact hx h.2 | exact absurd h.1 (by decide))]
  split
  · next h1 => exact ev_r h (by rw [e1, if_pos h1])
  · next h1 => exact ev_none h (by rw [e1, if_neg h1])
theorem r_retB {n : Nat} {r1 : Nat × Nat × Int} {x : Int32} (h : mm_at j pc = some (.ireturn, n, r1)) (hz : mm_isZ j = 1) (hx : x = iI 0 ∨ x = iI 1) : mm_ev d j pc L [.int x] m = some (some (some (.int x)), m) := by
  rw [r_retZ h hz, if_pos hx]
theorem iI_toInt (x : Int32) : iI x.toInt = x := Int32.ofInt_toInt x
theorem iI_ne {x : Int32} {c : Int} (h : ¬ x = iI c) : ¬ x.toInt = c := fun z => h (by rw [← z, iI_toInt])
end RUL
