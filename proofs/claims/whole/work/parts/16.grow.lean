def mm_gr (m m' : mm_M) : Prop := mm_nc m ≤ mm_nc m' ∧ mm_ns m ≤ mm_ns m'
theorem mm_gr_rfl (m : mm_M) : mm_gr m m := ⟨Nat.le_refl _, Nat.le_refl _⟩
theorem mm_gr_new (m : mm_M) (sh : Nat × Nat) : mm_gr m (mm_new m sh) := ⟨by rw [mm_nc_new]; omega, by rw [mm_ns_new]; omega⟩
theorem mm_gr_new2 (m : mm_M) (n k : Nat) : mm_gr m (mm_new2 m n k) := ⟨by rw [mm_nc_new2]; omega, by rw [mm_ns_new2]; omega⟩
theorem mm_gr_exc (m : mm_M) : mm_gr m (mm_exc m) := by
  constructor
  · show m.1.length + m.2.1.1 ≤ m.1.length + (m.2.1.1 + 1)
    omega
  · show (m.1.map mm_sz).sum + 100 * m.2.1.1 ≤ (m.1.map mm_sz).sum + 100 * (m.2.1.1 + 1)
    omega
theorem mm_gr_tr {a b c : mm_M} (h1 : mm_gr a b) (h2 : mm_gr b c) : mm_gr a c := ⟨Nat.le_trans h1.1 h2.1, Nat.le_trans h1.2 h2.2⟩
theorem mm_inv_gr {k n : Nat} {kd : Int} {pc : Nat} {L : mm_L} {S : List Value} {m : mm_M} {q : Nat × mm_L × List Value × mm_M} (h : mm_inv k n kd pc L S m = some (.inl q)) : mm_gr m q.2.2.2 := by
  obtain ⟨-, -, -, -, -, -, h⟩ := mm_inv_pr h
  unfold mm_prim at h
  repeat' split at h
  all_goals first
    | (cases h; exact mm_gr_rfl _)
    | (cases h; exact ⟨Nat.le_refl _, Nat.le_refl _⟩)
    | cases h
set_option maxHeartbeats 4000000 in
theorem mm_step_gr {j : Nat} {e : mm_E} {pc : Nat} {L : mm_L} {S : List Value} {m : mm_M} {q : Nat × mm_L × List Value × mm_M} (h : mm_step j e pc L S m = some (.inl q)) : mm_gr m q.2.2.2 := by
  unfold mm_step at h
  split at h <;> (try simp only [mm_nx, mm_ldc, mm_ldI, mm_ldL, mm_ldR, mm_stI, mm_stL, mm_stR, mm_inc, mm_bI, mm_dI, mm_bL, mm_dL, mm_hL, mm_cL, mm_1I, mm_1L, mm_dup, mm_dup2, mm_pop, mm_if, mm_ic, mm_get, mm_gst, mm_bld, mm_put, mm_ald, mm_rld, mm_ast, mm_lst, mm_rst, mm_len, mm_nwa, mm_nw2, mm_thr, mm_ret, mm_lrt, mm_tsw, mm_lsw] at h) <;> (repeat' split at h) <;>
    first
    | (cases h; exact mm_gr_rfl _)
    | (cases h; exact ⟨Nat.le_refl _, Nat.le_refl _⟩)
    | (cases h; exact mm_gr_new _ _)
    | (cases h; exact mm_gr_new2 _ _ _)
    | exact mm_inv_gr h
    | cases h
theorem mm_run_gr : ∀ (n d j pc : Nat) (L : mm_L) (S : List Value) (m : mm_M) (r : mm_R), mm_run n d j pc L S m = some r → mm_gr m r.2
  | 0, _, _, _, _, _, _, _, h => by cases h
  | n + 1, d, j, pc, L, S, m, r, h => by
    have ih := mm_run_gr n
    have h1 : mm_body (mm_run n) d j pc L S m = some r := h
    unfold mm_body at h1
    obtain ⟨x, -, h2⟩ := Option.bind_eq_some_iff.mp h1
    obtain ⟨o, h3, h4⟩ := Option.bind_eq_some_iff.mp h2
    rcases o with q | q | v | u
    · exact mm_gr_tr (mm_step_gr h3) (ih _ _ _ _ _ _ _ h4)
    · have h5 : mm_cal (mm_run n) d q.1 q.2.1 j q.2.2.2 L q.2.2.1 m = some r := h4
      unfold mm_cal at h5
      split at h5
      · cases h5
      · split at h5
        · unfold mm_cl2 at h5
          split at h5
          · split at h5
            · obtain ⟨y, h6, h7⟩ := Option.bind_eq_some_iff.mp h5
              have g1 := ih _ _ _ _ _ _ _ h6
              unfold mm_k2 at h7
              split at h7
              · split at h7
                · have g2 := ih _ _ _ _ _ _ _ h7
                  exact ⟨Nat.le_trans g1.1 g2.1, Nat.le_trans g1.2 g2.2⟩
                · cases h7
              · exact mm_gr_tr g1 (ih _ _ _ _ _ _ _ h7)
              · cases h7
            · cases h5
          · cases h5
        · obtain ⟨y, h6, h7⟩ := Option.bind_eq_some_iff.mp h5
          have g1 := ih _ _ _ _ _ _ _ h6
          unfold mm_k1 at h7
          split at h7
          · split at h7
            · exact mm_gr_tr g1 (ih _ _ _ _ _ _ _ h7)
            · cases h7
          · cases h7
    · cases h4
      exact mm_gr_rfl _
    · cases h4
      exact mm_gr_exc _
