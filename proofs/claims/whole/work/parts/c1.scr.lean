/-- calls of the law's own methods, and stores into the script, are nowhere but in the law -/
def okE (e : mm_E) : Bool := match e.1 with
  | .putfield _ => !Nat.beq e.2.2.1 20
  | .invokevirtual _ => !Nat.beq e.2.2.1 277 && !Nat.beq e.2.2.1 278
  | .invokespecial _ => !Nat.beq e.2.2.1 277 && !Nat.beq e.2.2.1 278
  | .invokestatic _ => !Nat.beq e.2.2.1 277 && !Nat.beq e.2.2.1 278
  | _ => true
theorem prog_ok : ((mm_prog.take 277).all (fun t => t.all (fun x => okE x.2)) && (mm_prog.drop 278).all (fun t => t.all (fun x => okE x.2))) = true := by decide +kernel
theorem lk_mem : ∀ {t : List (Nat × mm_E)} {pc : Nat} {e : mm_E}, mm_lk t pc = some e → ∃ q, (q, e) ∈ t
  | [], _, _, h => by cases h
  | q :: r, pc, e, h => by
    unfold mm_lk at h
    split at h
    · cases h
      exact ⟨q.1, List.mem_cons_self⟩
    · obtain ⟨x, hx⟩ := lk_mem h
      exact ⟨x, List.mem_cons_of_mem _ hx⟩
theorem at_okE {j pc : Nat} {e : mm_E} (hj : ¬ j = 277) (h : mm_at j pc = some e) : okE e = true := by
  unfold mm_at at h
  split at h
  · next t ht =>
    obtain ⟨q, hq⟩ := lk_mem h
    have h0 := prog_ok
    rw [Bool.and_eq_true] at h0
    have key : t.all (fun x => okE x.2) = true := by
      by_cases y : j < 277
      · refine List.all_eq_true.mp h0.1 t (List.mem_of_getElem? (i := j) ?_)
        rw [List.getElem?_take, if_pos y]
        exact ht
      · refine List.all_eq_true.mp h0.2 t (List.mem_of_getElem? (i := j - 278) ?_)
        rw [List.getElem?_drop, show 278 + (j - 278) = j by omega]
        exact ht
    exact List.all_eq_true.mp key (q, e) hq
  · cases h
/-- the script, its length, the number of throws; shapes stay -/
def scF0 (m m' : mm_M) : Prop := m'.2.1 = m.2.1 ∧ (∀ k, mm_gI m' 0 k = mm_gI m 0 k) ∧ ∃ l, m'.1 = m.1 ++ l
theorem scF0.rf {m : mm_M} : scF0 m m := ⟨rfl, fun _ => rfl, [], (List.append_nil _).symm⟩
theorem scF0.tr {m m' m'' : mm_M} (h : scF0 m m') (h' : scF0 m' m'') : scF0 m m'' := by
  obtain ⟨a1, a2, l, a3⟩ := h
  obtain ⟨b1, b2, k, b3⟩ := h'
  exact ⟨b1.trans a1, fun k => (b2 k).trans (a2 k), l ++ k, by rw [b3, a3, List.append_assoc]⟩
theorem s0_sI {m : mm_M} {a k : Nat} {v : Int32} (h : ¬ a = 0) : scF0 m (mm_sI m a k v) := ⟨rfl, fun j => by
  show mm_u m.2.2.1 a k v 0 j = _
  unfold mm_u
  rw [if_neg (fun z => h z.1.symm)]
  rfl, [], (List.append_nil _).symm⟩
theorem s0_sL {m : mm_M} {a k : Nat} {v : Int64} : scF0 m (mm_sL m a k v) := ⟨rfl, fun _ => rfl, [], (List.append_nil _).symm⟩
theorem s0_sR {m : mm_M} {a k : Nat} {v : Option Nat} : scF0 m (mm_sR m a k v) := ⟨rfl, fun _ => rfl, [], (List.append_nil _).symm⟩
theorem s0_new {m : mm_M} {s : Nat × Nat} : scF0 m (mm_new m s) := ⟨rfl, fun j => by
  show mm_cl m.2.2.1 (mm_next m) 0 0 j = _
  unfold mm_cl mm_next
  rw [if_neg (by omega)]
  rfl, [s], rfl⟩
theorem s0_new2 {m : mm_M} {x y : Nat} : scF0 m (mm_new2 m x y) := ⟨rfl, fun j => by
  show mm_cl m.2.2.1 (mm_next m) 0 0 j = _
  unfold mm_cl mm_next
  rw [if_neg (by omega)]
  rfl, (27, x) :: List.replicate x (20, y), rfl⟩
theorem s0_cp {m : mm_M} {a sp b dp x : Nat} (h : 100 ≤ b) : scF0 m (mm_cp m a sp b dp x) := ⟨rfl, fun j => by
  show (if 0 = b ∧ dp ≤ j ∧ j < dp + x then mm_gI m a (sp + (j - dp)) else m.2.2.1 0 j) = _
  rw [if_neg (by omega)]
  rfl, [], (List.append_nil _).symm⟩
theorem s0_ne {a : Nat} (h : 100 ≤ a) : ¬ a = 0 := by omega
theorem s0_sh {m : mm_M} {a : Nat} {s : Nat × Nat} {ci : Nat} (h : mm_sh m a = some s) (e : s.1 = ci) (h20 : (!Nat.beq ci 20) = true) : ¬ a = 0 := fun z => by
  subst z
  unfold mm_sh at h
  rw [if_pos rfl] at h
  cases h
  rw [← e] at h20
  have h20 : false = true := h20
  cases h20
theorem s0_inv {k n : Nat} {kd : Int} {pc : Nat} {L : mm_L} {S : List Value} {m : mm_M} {q : Nat × mm_L × List Value × mm_M} (h : mm_inv k n kd pc L S m = some (.inl q)) : scF0 m q.2.2.2 := by
  obtain ⟨-, -, -, -, -, -, h⟩ := mm_inv_pr h
  unfold mm_prim at h
  repeat' split at h
  all_goals first
    | (cases h; exact scF0.rf)
    | (cases h; done)
    | (next z => cases h; exact s0_cp z.2.1)
set_option maxHeartbeats 4000000 in
theorem s0_step {j : Nat} {e : mm_E} {pc : Nat} {L : mm_L} {S : List Value} {m : mm_M} {q : Nat × mm_L × List Value × mm_M} (h : mm_step j e pc L S m = some (.inl q)) (hg : okE e = true) : scF0 m q.2.2.2 := by
  obtain ⟨i, nn, r1, r2, r3⟩ := e
  cases i <;> dsimp only [mm_step, okE] at h hg <;>
    first
    | exact s0_inv h
    | (cases h; done)
    | ((try simp only [mm_nx, mm_ldc, mm_ldI, mm_ldL, mm_ldR, mm_stI, mm_stL, mm_stR, mm_inc, mm_bI, mm_dI, mm_bL, mm_dL, mm_hL, mm_cL, mm_1I, mm_1L, mm_dup, mm_dup2, mm_pop, mm_if, mm_ic, mm_get, mm_gst, mm_bld, mm_put, mm_ald, mm_rld, mm_ast, mm_lst, mm_rst, mm_len, mm_nwa, mm_nw2, mm_thr, mm_ret, mm_lrt, mm_tsw, mm_lsw] at h) <;> (repeat' split at h) <;>
        first
        | (cases h; done)
        | (cases h; exact scF0.rf)
        | (cases h; exact s0_new)
        | (cases h; exact s0_new2)
        | (cases h; exact s0_sL)
        | (cases h; exact s0_sR)
        | (rename_i hs hc; cases h; exact s0_sI (s0_sh hs hc.1 hg))
        | (rename_i hc; cases h; exact s0_sI (s0_ne hc.1))
        | skip)
theorem s0_call {j : Nat} {e : mm_E} {pc : Nat} {L : mm_L} {S : List Value} {m : mm_M} {q : Nat × List Value × List Value × Nat} (h : mm_step j e pc L S m = some (.inr (.inl q))) (hg : okE e = true) : ¬ q.1 = 277 ∧ ¬ q.1 = 278 := by
  have key : ∀ {r1 r2 : Nat} {r3 : Int} {pc : Nat}, mm_inv r1 r2 r3 pc L S m = some (.inr (.inl q)) → (!Nat.beq r1 277 && !Nat.beq r1 278) = true → ¬ q.1 = 277 ∧ ¬ q.1 = 278 := by
    intro r1 r2 r3 pc h hg
    obtain ⟨-, ho, -⟩ := mm_inv_call h
    cases ho
    rw [Bool.and_eq_true, Bool.not_eq_true', Bool.not_eq_true'] at hg
    refine ⟨fun z => ?_, fun z => ?_⟩
    · have z : r1 = 277 := z
      rw [z] at hg; exact absurd hg.1 (by decide)
    · have z : r1 = 278 := z
      rw [z] at hg; exact absurd hg.2 (by decide)
  obtain ⟨i, n, r1, r2, r3⟩ := e
  rcases mm_step_cls h with hi | ⟨ix, rfl, rfl, rfl⟩ | ⟨ix, hi, h9⟩
  · exfalso
    rcases hi with rfl | rfl | rfl
    · have h9 : mm_ret (mm_isZ j) S = some (.inr (.inl q)) := h
      unfold mm_ret at h9
      split at h9
      · split at h9 <;> cases h9
      · cases h9
    · have h9 : mm_lrt S = some (.inr (.inl q)) := h
      unfold mm_lrt at h9
      split at h9 <;> cases h9
    · cases S with
      | nil => cases h
      | cons a b => cases h
  · have h9 : (some (.inr (.inr (.inr ()))) : Option mm_O) = some (.inr (.inl q)) := h
    cases h9
  · rcases hi with rfl | rfl | rfl <;> exact key h9 hg
/-- no run but the law's changes the script; a throw is counted once -/
theorem s0_run : ∀ (n d j pc : Nat) (L : mm_L) (S : List Value) (m : mm_M) (r : mm_R), mm_run n d j pc L S m = some r → ¬ j = 277 → (∃ v, r.1 = some v ∧ scF0 m r.2) ∨ (r.1 = none ∧ ∃ m1, scF0 m m1 ∧ r.2 = mm_exc m1)
  | 0, _, _, _, _, _, _, _, h, _ => by cases h
  | n + 1, d, j, pc, L, S, m, r, h, hj => by
    have ih := s0_run n
    have h1 : mm_body (mm_run n) d j pc L S m = some r := h
    unfold mm_body at h1
    obtain ⟨x, hx, h2⟩ := Option.bind_eq_some_iff.mp h1
    obtain ⟨o, ho, h4⟩ := Option.bind_eq_some_iff.mp h2
    have hg := at_okE hj hx
    rcases o with q | q | v | u
    · have h5 : mm_run n d j q.1 q.2.1 q.2.2.1 q.2.2.2 = some r := h4
      have k0 := s0_step ho hg
      rcases ih _ _ _ _ _ _ _ h5 hj with ⟨v, e1, e2⟩ | ⟨e1, m1, e2, e3⟩
      · exact Or.inl ⟨v, e1, k0.tr e2⟩
      · exact Or.inr ⟨e1, m1, k0.tr e2, e3⟩
    · have h5 : mm_cal (mm_run n) d q.1 q.2.1 j q.2.2.2 L q.2.2.1 m = some r := h4
      obtain ⟨q7, q8⟩ := s0_call ho hg
      unfold mm_cal at h5
      split at h5
      · cases h5
      · rw [if_neg q8] at h5
        obtain ⟨y, h6, h7⟩ := Option.bind_eq_some_iff.mp h5
        unfold mm_k1 at h7
        split at h7
        · next v hv =>
          split at h7
          · rcases ih _ _ _ _ _ _ _ h6 q7 with ⟨v', e1, e2⟩ | ⟨e1, -⟩
            · rcases ih _ _ _ _ _ _ _ h7 hj with ⟨v2, f1, f2⟩ | ⟨f1, m1, f2, f3⟩
              · exact Or.inl ⟨v2, f1, e2.tr f2⟩
              · exact Or.inr ⟨f1, m1, e2.tr f2, f3⟩
            · rw [hv] at e1
              cases e1
          · cases h7
        · cases h7
    · cases h4
      exact Or.inl ⟨v, rfl, scF0.rf⟩
    · cases h4
      exact Or.inr ⟨rfl, m, scF0.rf, rfl⟩
theorem s0_ev {d j pc : Nat} {L : mm_L} {S : List Value} {m m' : mm_M} {v : Option Value} (h : mm_ev d j pc L S m = some (some v, m')) (hj : ¬ j = 277) : scF0 m m' := by
  obtain ⟨n, hn⟩ := mm_ev_iff.mp h
  rcases s0_run _ _ _ _ _ _ _ _ hn hj with ⟨v, -, e2⟩ | ⟨e1, -⟩
  · exact e2
  · cases e1
theorem S0_len : mm_S0.length = 244 := by decide +kernel
theorem scF0.kd {m m' : mm_M} (h : scF0 m m') (hs : Sh m) : mm_kd m' 100 = 11 ∧ mm_kd m' 316 = 12 ∧ mm_kd m' 343 = 21 ∧ mm_ln m' 343 = 1 := by
  obtain ⟨-, -, l, e⟩ := h
  have key : ∀ a, 100 ≤ a → a < 344 → mm_sh m' a = mm_sh m a := fun a a0 a1 => by
    unfold mm_sh
    rw [if_neg (by omega), if_neg (by omega), if_neg (by omega), if_neg (by omega), e, List.getElem?_append_left]
    rw [hs.1, S0_len]
    omega
  have kd : ∀ a, 100 ≤ a → a < 344 → mm_kd m' a = mm_kd m a ∧ mm_ln m' a = mm_ln m a := fun a a0 a1 => by
    unfold mm_kd mm_ln
    rw [key a a0 a1]
    exact ⟨rfl, rfl⟩
  exact ⟨(kd 100 (by decide) (by decide)).1.trans (hs.kd (by decide)), (kd 316 (by decide) (by decide)).1.trans (hs.kd (by decide)), (kd 343 (by decide) (by decide)).1.trans (hs.kd (by decide)), (kd 343 (by decide) (by decide)).2.trans (hs.ln (by decide))⟩
