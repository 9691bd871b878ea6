def mm_fin (o : Option Value ⊕ Unit) (m : mm_M) : mm_R := match o with
  | .inl v => (some v, m)
  | .inr _ => (none, mm_exc m)
def mm_trO (ad : Nat → Nat) (v : Option Value) : Option Value := v.map (mm_tr ad)
theorem mm_trO_l (ad : Nat → Nat) (v : Option Value) (S : List Value) : (v.toList ++ S).map (mm_tr ad) = (mm_trO ad v).toList ++ S.map (mm_tr ad) := by cases v <;> rfl
/-- a run's frame goes over to the machine -/
def mm_Fr (d j pc : Nat) (L : mm_L) (S : List Value) (m : mm_M) (r : mm_R) : Prop :=
  ∀ (p : Program) (l : Launch) (e : Env) (R : Room) (s : State) (mid : MethodId) (args : Array Value) (below : List Frame) (meth : Method) (c : Code) (Q : State → Prop) (D : va_G) (cA : Nat → ClassId) (N0 : Nat) (sp : Nat → Nat) (nb sb : Nat) (H : Heap) (locs : List Loc) (cells slots : Nat) (ls : Array Slot),
    l.stackTraces = false → mm_Cx p s mid args meth c R j D cA N0 sp nb → d + 1 ≤ R.frames → 100 + 50 * d ≤ R.locals → mm_Hp D cA N0 sp m s H → va_S (fun x => N0 ≤ x) s.heap H locs → mm_LS (mm_ad N0 sp) (mm_mx j) ls L → mm_nc m = nb + cells → mm_ns m = sb + slots → mm_nc r.2 ≤ nb + R.cells → mm_ns r.2 ≤ sb + R.slots →
    (∀ (pc' : Nat) (e' : mm_E) (L' : mm_L) (S' : List Value) (m0 : mm_M) (o : Option Value ⊕ Unit) (H' : Heap) (locs' : List Loc) (ls' : Array Slot) (cells' slots' : Nat), mm_at j pc' = some e' → mm_step j e' pc' L' S' m0 = some (.inr (.inr o)) → r = mm_fin o m0 → mm_Hp D cA N0 sp m0 s H' → va_S (fun x => N0 ≤ x) s.heap H' locs' → mm_LS (mm_ad N0 sp) (mm_mx j) ls' L' → mm_nc m0 = nb + cells' → mm_ns m0 = sb + slots' →
      W p l e R s mid args below meth c H' locs' cells' slots' Q (F0 mid pc' ls' (S'.map (mm_tr (mm_ad N0 sp))))) →
    W p l e R s mid args below meth c H locs cells slots Q (F0 mid pc ls (S.map (mm_tr (mm_ad N0 sp))))
/-- a callee's start, and its end with an answer -/
def mm_Pc (D : va_G) (cA : Nat → ClassId) (N0 : Nat) (sp : Nat → Nat) (m : mm_M) (as : List Value) : Array Value → State → Prop := va_Pc (as.map (mm_tr (mm_ad N0 sp))) (fun U => mm_At D cA sp U ∧ mm_Hp D cA N0 sp m U U.heap ∧ N0 ≤ U.heap.size ∧ U.heap.size ≤ N0 + mm_nc m)
def mm_Qc (D : va_G) (cA : Nat → ClassId) (N0 : Nat) (sp : Nat → Nat) (m : mm_M) (v : Option Value) : Array Value → State → Outcome → State → Prop := fun _ st oc t => oc = .returned (mm_trO (mm_ad N0 sp) v) ∧ mm_Hp D cA N0 sp m t t.heap ∧ va_F (fun x => N0 ≤ x) st t
def mm_rm (d mc ms : Nat) : Room := { frames := d + 1, cells := mc, slots := ms, locals := 100 + 50 * d }
def mm_wk (k : Nat) : List Cond := Cond.code (mm_y k) (mm_b k) (mm_mx k) (mm_rt k) :: mm_g
theorem mm_Pc_blind {D : va_G} {cA : Nat → ClassId} {N0 : Nat} {sp : Nat → Nat} {m : mm_M} {as : List Value} : FrameBlind (mm_Pc D cA N0 sp m as) := by
  intro a U g mk h
  obtain ⟨h0, h1, h2, h3, h4⟩ := h
  exact ⟨h0, mm_At.warm (s := U) (U := U.calling g mk a) (State.WarmedH.refl U) h1, h2.moved (U := U.calling g mk a) (Vm.Alike.refl U.vm), h3, h4⟩
def mm_kok (k : Nat) : Bool := plainName (mm_y k).cls && decide ((mm_y k).cls = mm_cn (mm_ow k)) && decide ((mm_y k).cls ≠ "java/lang/invoke/MethodHandle") && decide ((mm_y k).cls ≠ "java/lang/invoke/VarHandle") && decide ((parseMethodDescriptor (mm_y k).desc).map (fun d => d.parameters.length) = some (mm_na k)) && mm_ini.contains (mm_ow k) && decide (mm_mx k ≤ 31)
set_option maxRecDepth 100000 in
theorem mm_kok_all : mm_ck.all mm_kok = true := by decide +kernel
theorem mm_kok_of {k : Nat} (h : k ∈ mm_ck) : plainName (mm_y k).cls = true ∧ (mm_y k).cls = mm_cn (mm_ow k) ∧ (mm_y k).cls ≠ "java/lang/invoke/MethodHandle" ∧ (mm_y k).cls ≠ "java/lang/invoke/VarHandle" ∧ (parseMethodDescriptor (mm_y k).desc).map (fun d => d.parameters.length) = some (mm_na k) ∧ Cond.initialized (mm_y k).cls ∈ mm_g ∧ mm_mx k ≤ 31 := by
  have h1 := List.all_eq_true.mp mm_kok_all k h
  unfold mm_kok at h1
  simp only [Bool.and_eq_true, decide_eq_true_eq] at h1
  obtain ⟨⟨⟨⟨⟨⟨a1, a2⟩, a3⟩, a4⟩, a5⟩, a6⟩, a7⟩ := h1
  refine ⟨a1, a2, a3, a4, a5, ?_, a7⟩
  rw [a2]
  exact mm_g_in (mm_ini_w _ (List.contains_iff_mem.mp a6)) rfl
theorem mm_code_g {k : Nat} (h : k ∈ mm_ck) : Cond.code (mm_y k) (mm_b k) (mm_mx k) (mm_rt k) ∈ mm_g := mm_g_in (mm_ck_w k h) rfl
theorem mm_wk_good {k : Nat} (h : k ∈ mm_ck) : GoodIn mm_g (mm_wk k) := by
  intro w hw
  rcases List.mem_cons.mp hw with rfl | hw
  · exact mm_g_self _ (mm_code_g h)
  · exact mm_g_self _ hw
/-- the locals at a method's start -/
theorem mm_ar_at {ad : Nat → Nat} : ∀ (as : List Value) (b i : Nat) (v : Value), (mm_ar as)[i]? = some (some v) → (b + i, mm_tr ad v) ∈ lv_args b (as.map (mm_tr ad))
  | [], _, _, _, h => by simp [mm_ar] at h
  | a :: r, b, i, v, h => by
    unfold mm_ar at h
    simp only [List.map_cons, lv_args, mm_tr_cat]
    split at h
    · next hc =>
      rw [if_pos hc]
      match i, h with
      | 0, h =>
        cases h
        exact List.mem_cons_self
      | 1, h => cases h
      | i + 2, h =>
        have := mm_ar_at (ad := ad) r (b + 2) i v h
        rw [show b + 2 + i = b + (i + 2) by omega] at this
        exact List.mem_cons_of_mem _ this
    · next hc =>
      rw [if_neg hc]
      match i, h with
      | 0, h =>
        cases h
        exact List.mem_cons_self
      | i + 1, h =>
        have := mm_ar_at (ad := ad) r (b + 1) i v h
        rw [show b + 1 + i = b + (i + 1) by omega] at this
        exact List.mem_cons_of_mem _ this
theorem mm_ar_len {ad : Nat → Nat} : ∀ as : List Value, (lg_sl (as.map (mm_tr ad))).length = (mm_ar as).length
  | [] => rfl
  | a :: r => by
    have ih := mm_ar_len (ad := ad) r
    unfold lg_sl at ih ⊢
    unfold mm_ar
    simp only [List.map_cons, List.flatMap_cons, List.length_append, mm_tr_cat, ih]
    split
    · simp only [List.length_cons, List.length_nil]; omega
    · simp only [List.length_cons, List.length_nil]; omega
theorem mm_en_LS {ad : Nat → Nat} {k : Nat} {as : List Value} (h : (mm_ar as).length ≤ mm_mx k) : mm_LS ad (mm_mx k) ((lg_sl (as.map (mm_tr ad)) ++ List.replicate (mm_mx k - (lg_sl (as.map (mm_tr ad))).length) Slot.unset).toArray) (mm_en k as) := by
  have hl := lv_entry (as.map (mm_tr ad)) (n := mm_mx k) (by rw [mm_ar_len]; exact h)
  refine ⟨by unfold mm_en; rw [List.length_append, List.length_replicate]; omega, hl.1, hl.2.1, fun q hq => ?_⟩
  obtain ⟨v, h1, h2⟩ := mm_as_mem.mp hq
  apply hl.2.2
  unfold mm_en at h1
  by_cases hi : q.1 < (mm_ar as).length
  · rw [List.getElem?_append_left hi] at h1
    have := mm_ar_at (ad := ad) as 0 q.1 v h1
    rw [Nat.zero_add, ← h2] at this
    exact this
  · rw [List.getElem?_append_right (by omega)] at h1
    have := List.eq_of_mem_replicate (List.mem_of_getElem? h1)
    cases this
set_option maxHeartbeats 4000000 in
theorem mm_step_cls {j : Nat} {i : Instr} {n r1 r2 : Nat} {r3 : Int} {pc : Nat} {L : mm_L} {S : List Value} {m : mm_M} {o : (Nat × List Value × List Value × Nat) ⊕ (Option Value ⊕ Unit)} (h : mm_step j (i, n, r1, r2, r3) pc L S m = some (.inr o)) :
    (i = .ireturn ∨ i = .lreturn ∨ i = .return_) ∨ (∃ ix, i = .new ix ∧ r1 = 99 ∧ S = []) ∨ (∃ ix, (i = .invokestatic ix ∨ i = .invokevirtual ix ∨ i = .invokespecial ix) ∧ mm_inv r1 r2 r3 (pc + 3) L S m = some (.inr o)) := by
  cases i
  case new ix =>
    refine Or.inr (Or.inl ⟨ix, rfl, ?_⟩)
    have h9 : (if r1 = 99 then mm_thr S else if m.2.1.1 = 0 then mm_nx (pc + 3) L (.ref (mm_next m) :: S) (mm_new m (r1, 0)) else none : Option mm_O) = some (.inr o) := h
    split at h9
    · next h1 =>
      unfold mm_thr at h9
      split at h9
      · exact ⟨h1, rfl⟩
      · cases h9
    · split at h9 <;> cases h9
  case newarray t =>
    exfalso
    cases t <;> simp only [mm_step, mm_nwa, mm_nx] at h <;> (repeat' split at h) <;> cases h
  all_goals first
    | exact Or.inl (Or.inl rfl)
    | exact Or.inl (Or.inr (Or.inl rfl))
    | exact Or.inl (Or.inr (Or.inr rfl))
    | exact Or.inr (Or.inr ⟨_, Or.inl rfl, h⟩)
    | exact Or.inr (Or.inr ⟨_, Or.inr (Or.inl rfl), h⟩)
    | exact Or.inr (Or.inr ⟨_, Or.inr (Or.inr rfl), h⟩)
    | (exfalso; cases h)
    | (exfalso; simp only [mm_step, mm_nx, mm_ldc, mm_ldI, mm_ldL, mm_ldR, mm_stI, mm_stL, mm_stR, mm_inc, mm_bI, mm_dI, mm_bL, mm_dL, mm_hL, mm_cL, mm_1I, mm_1L, mm_dup, mm_dup2, mm_pop, mm_if, mm_ic, mm_get, mm_gst, mm_bld, mm_put, mm_ald, mm_rld, mm_ast, mm_lst, mm_rst, mm_len, mm_nwa, mm_nw2, mm_tsw, mm_lsw] at h; (repeat' split at h) <;> cases h)
theorem mm_inv_call {k n : Nat} {kd : Int} {pc : Nat} {L : mm_L} {S : List Value} {m : mm_M} {o : (Nat × List Value × List Value × Nat) ⊕ (Option Value ⊕ Unit)} (h : mm_inv k n kd pc L S m = some (.inr o)) :
    (n ≤ S.length ∧ ((S.drop n).map fun v => v.category).sum ≤ 8 ∧ (mm_ar (S.take n).reverse).length ≤ mm_mx k) ∧ o = .inl (k, (S.take n).reverse, S.drop n, pc) ∧ ((kd = 0 ∨ kd = 1 ∨ kd = 20) ∨ (kd = 2 ∧ mm_rc m (mm_ow k) (S.take n).reverse = true) ∨ ((kd = 3 ∨ kd = 5) ∧ mm_rf (S.take n).reverse = true)) := by
  have key : ∀ {P : Prop}, P → mm_call k n pc S = some (.inr o) → (n ≤ S.length ∧ ((S.drop n).map fun v => v.category).sum ≤ 8 ∧ (mm_ar (S.take n).reverse).length ≤ mm_mx k) ∧ o = .inl (k, (S.take n).reverse, S.drop n, pc) ∧ P := by
    intro P hP hc
    unfold mm_call at hc
    split at hc
    · next h1 => cases hc; exact ⟨h1, rfl, hP⟩
    · cases hc
  unfold mm_inv at h
  split at h
  · next h1 => exact key (Or.inl h1) h
  · split at h
    · next h2 =>
      split at h
      · next h3 => exact key (Or.inr (Or.inl ⟨h2, h3⟩)) h
      · cases h
    · split at h
      · next h2 =>
        split at h
        · next h3 => exact key (Or.inr (Or.inr ⟨h2, h3⟩)) h
        · cases h
      · exfalso
        unfold mm_prim at h
        repeat' split at h
        all_goals cases h
section CALL
variable {p : Program} {l : Launch} {e : Env} {R : Room} {s : State} {mid : MethodId} {args : Array Value} {below : List Frame} {meth : Method} {c : Code} {Q : State → Prop} {D : va_G} {cA : Nat → ClassId} {N0 : Nat} {sp : Nat → Nat} {j nb sb : Nat}
variable {H : Heap} {locs : List Loc} {cells slots pc : Nat} {ls : Array Slot} {L : mm_L} {S : List Value} {m : mm_M}
/-- the end of a method that answers -/
theorem mm_exit {e9 : mm_E} {v : Option Value} {mc ms : Nat} (C : mm_Cx p s mid args meth c R j D cA N0 sp nb) (hr : meth.sig.returnType = mm_rt j) (hlk : meth.locks = false) (he : mm_at j pc = some e9) (hst : mm_step j e9 pc L S m = some (.inr (.inr (.inl v)))) (hH : mm_Hp D cA N0 sp m s H) (hS : va_S (fun x => N0 ≤ x) s.heap H locs) (hmc : cells = mc) (hms : slots = ms) :
    W p l e R s mid args below meth c H locs cells slots (MQ below (mm_Qc D cA N0 sp m v) args s mc ms (fun x => N0 ≤ x)) (F0 mid pc ls (S.map (mm_tr (mm_ad N0 sp)))) := by
  obtain ⟨hx, hb, hml, hown, hts, hnm, hAt, hR, hN, hz⟩ := C
  subst hmc; subst hms
  have hq : ∀ t : State, t.heap = H → s.WarmedH t.vm → mm_Qc D cA N0 sp m v args s (.returned (mm_trO (mm_ad N0 sp) v)) t := fun t ht hW => ⟨rfl, by rw [ht]; exact hH.moved hW.alike, hS.F ht⟩
  obtain ⟨i, n, r1, r2, r3⟩ := e9
  obtain ⟨hdc, hok, -⟩ := mm_at_ok he
  rcases mm_step_cls hst with hi | ⟨ix, rfl, rfl, rfl⟩ | ⟨ix, -, h9⟩
  rotate_left
  · have h9 : (some (.inr (.inr (.inr ()))) : Option mm_O) = some (.inr (.inr (.inl v))) := hst
    cases h9
  · obtain ⟨-, h8, -⟩ := mm_inv_call h9
    cases h8
  rcases hi with rfl | rfl | rfl
  · have hd := mm_dc he (fun z => by cases z)
    have h9 : mm_ret (mm_isZ j) S = some (.inr (.inr (.inl v))) := hst
    unfold mm_ret at h9
    split at h9
    · next x =>
      split at h9
      · next hx2 =>
        cases h9
        have hok2 : (((decide (mm_rt j = some .int) || decide (mm_rt j = some .boolean)) || decide (mm_rt j = some .char)) || decide (mm_rt j = some .byte)) = true := hok
        simp only [Bool.or_eq_true, decide_eq_true_eq] at hok2
        unfold mm_isZ at hx2
        rcases hok2 with ((h1 | h1) | h1) | h1
        · exact W.iret hx hb (hr.trans h1) hq hS.2.2 hd hlk
        · refine W.zret hx hb (hr.trans h1) ?_ hq hS.2.2 hd hlk
          rw [h1] at hx2
          simp at hx2
          rcases hx2 with rfl | rfl <;> rfl
        · refine W.zret hx hb (hr.trans h1) ?_ hq hS.2.2 hd hlk
          rw [h1] at hx2
          simp at hx2
          have h8 := pk_nc x
          rw [hx2] at h8
          exact h8
        · refine W.zret hx hb (hr.trans h1) ?_ hq hS.2.2 hd hlk
          rw [h1] at hx2
          simp at hx2
          have h8 := pk_nb x
          rw [hx2] at h8
          exact h8
      · cases h9
    · cases h9
  · have hd := mm_dc he (fun z => by cases z)
    have h9 : mm_lrt S = some (.inr (.inr (.inl v))) := hst
    unfold mm_lrt at h9
    split at h9
    · next x =>
      cases h9
      exact W.lret hx hb (hr.trans (of_decide_eq_true hok)) hq hS.2.2 hd hlk
    · cases h9
  · have hd := mm_dc he (fun z => by cases z)
    cases S with
    | nil =>
      cases hst
      exact W.vret hx hb (hr.trans (of_decide_eq_true hok)) hq hS.2.2 hd hlk
    | cons a b => cases hst
end CALL
