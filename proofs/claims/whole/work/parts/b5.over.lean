/-- a memory with another script laid over -/
def ovM (f : Nat → Int32) (n : Nat) (m : mm_M) : mm_M := (m.1, (m.2.1.1, n), fun a k => if a = 0 then f k else m.2.2.1 a k, m.2.2.2.1, m.2.2.2.2)
def ovO (f : Nat → Int32) (n : Nat) : mm_O → mm_O
  | .inl q => .inl (q.1, q.2.1, q.2.2.1, ovM f n q.2.2.2)
  | .inr x => .inr x
/-- no reference to the script -/
def nzV : Value → Bool
  | .ref a => decide (¬ a = 0)
  | _ => true
section
variable {f : Nat → Int32} {n : Nat} {m : mm_M} {a k : Nat}
theorem nz_r (h : nzV (.ref a) = true) : ¬ a = 0 := of_decide_eq_true h
theorem ov_sh (h : ¬ a = 0) : mm_sh (ovM f n m) a = mm_sh m a := by
  unfold mm_sh
  rw [if_neg h, if_neg h]
  rfl
theorem ov_gI (h : ¬ a = 0) : mm_gI (ovM f n m) a k = mm_gI m a k := if_neg h
theorem ov_gL : mm_gL (ovM f n m) a k = mm_gL m a k := rfl
theorem ov_gR : mm_gR (ovM f n m) a k = mm_gR m a k := rfl
theorem ov_ne : mm_next (ovM f n m) = mm_next m := rfl
theorem ov_th : (ovM f n m).2.1.1 = m.2.1.1 := rfl
theorem ov_fv (h : ¬ a = 0) {ty : Int} : mm_fv (ovM f n m) a k ty = mm_fv m a k ty := by
  unfold mm_fv
  rw [ov_gI h, ov_gL, ov_gR]
theorem ov_sI (h : ¬ a = 0) {v : Int32} : mm_sI (ovM f n m) a k v = ovM f n (mm_sI m a k v) := by
  have : mm_u (fun a k => if a = 0 then f k else m.2.2.1 a k) a k v = fun b j => if b = 0 then f j else mm_u m.2.2.1 a k v b j := by
    funext b j
    unfold mm_u
    by_cases y : b = 0
    · rw [if_pos y, if_neg (fun w => h (w.1.symm.trans y))]; exact if_pos y
    · rw [if_neg y]
      by_cases z : b = a ∧ j = k
      · rw [if_pos z, if_pos z]
      · rw [if_neg z, if_neg z]; exact if_neg y
  show (m.1, (m.2.1.1, n), mm_u (fun a k => if a = 0 then f k else m.2.2.1 a k) a k v, m.2.2.2.1, m.2.2.2.2) = _
  rw [this]
  rfl
theorem ov_sL {v : Int64} : mm_sL (ovM f n m) a k v = ovM f n (mm_sL m a k v) := rfl
theorem ov_sR {v : Option Nat} : mm_sR (ovM f n m) a k v = ovM f n (mm_sR m a k v) := rfl
theorem ov_cl : mm_cl (fun a k => if a = 0 then f k else m.2.2.1 a k) (mm_next m) 0 = fun b j => if b = 0 then f j else mm_cl m.2.2.1 (mm_next m) 0 b j := by
  funext b j
  unfold mm_cl mm_next
  by_cases y : b = 0
  · rw [if_pos y, if_neg (by omega)]; exact if_pos y
  · rw [if_neg y]
    by_cases z : 100 + m.1.length ≤ b
    · rw [if_pos z, if_pos z]
    · rw [if_neg z, if_neg z]; exact if_neg y
theorem ov_new {s : Nat × Nat} : mm_new (ovM f n m) s = ovM f n (mm_new m s) := by
  show (m.1 ++ [s], (m.2.1.1, n), mm_cl (fun a k => if a = 0 then f k else m.2.2.1 a k) (mm_next m) 0, mm_cl m.2.2.2.1 (mm_next m) 0, mm_cl m.2.2.2.2 (mm_next m) none) = _
  rw [ov_cl]
  rfl
theorem ov_new2 {x y : Nat} : mm_new2 (ovM f n m) x y = ovM f n (mm_new2 m x y) := by
  show (m.1 ++ (27, x) :: List.replicate x (20, y), (m.2.1.1, n), mm_cl (fun a k => if a = 0 then f k else m.2.2.1 a k) (mm_next m) 0, mm_cl m.2.2.2.1 (mm_next m) 0, fun b j => if b = mm_next m then (if j < x then some (mm_next m + 1 + j) else none) else mm_cl m.2.2.2.2 (mm_next m) none b j) = _
  rw [ov_cl]
  rfl
theorem ov_cp {sp b dp x : Nat} (ha : ¬ a = 0) (hb : ¬ b = 0) : mm_cp (ovM f n m) a sp b dp x = ovM f n (mm_cp m a sp b dp x) := by
  have : (fun c j => if c = b ∧ dp ≤ j ∧ j < dp + x then mm_gI (ovM f n m) a (sp + (j - dp)) else (ovM f n m).2.2.1 c j) = fun c j => if c = 0 then f j else (if c = b ∧ dp ≤ j ∧ j < dp + x then mm_gI m a (sp + (j - dp)) else m.2.2.1 c j) := by
    funext c j
    by_cases y : c = 0
    · rw [if_neg (fun w => hb (w.1.symm.trans y)), if_pos y]
      exact if_pos y
    · rw [if_neg y, ov_gI ha]
      by_cases z : c = b ∧ dp ≤ j ∧ j < dp + x
      · rw [if_pos z, if_pos z]
      · rw [if_neg z, if_neg z]
        exact if_neg y
  show (m.1, (m.2.1.1, n), (fun c j => if c = b ∧ dp ≤ j ∧ j < dp + x then mm_gI (ovM f n m) a (sp + (j - dp)) else (ovM f n m).2.2.1 c j), m.2.2.2.1, m.2.2.2.2) = _
  rw [this]
  rfl
theorem ov_rc {c : Nat} {as : List Value} (h : ∀ v ∈ as, nzV v = true) : mm_rc (ovM f n m) c as = mm_rc m c as := by
  cases as with
  | nil => rfl
  | cons v r =>
    cases v <;> first | rfl | (unfold mm_rc; dsimp only; rw [ov_sh (nz_r (h _ List.mem_cons_self))])
theorem ov_inv {j r2 : Nat} {kd : Int} {pc : Nat} {L : mm_L} {S : List Value} {o : mm_O} (hS : ∀ v ∈ S, nzV v = true) (h : mm_inv j r2 kd pc L S m = some o) : mm_inv j r2 kd pc L S (ovM f n m) = some (ovO f n o) := by
  have cl : ∀ {o : mm_O}, mm_call j r2 pc S = some o → mm_call j r2 pc S = some (ovO f n o) := fun {o} e => by
    unfold mm_call at e ⊢
    split at e
    · next z => rw [if_pos z]; cases e; rfl
    · cases e
  unfold mm_inv at h ⊢
  split at h
  · next z => rw [if_pos z]; exact cl h
  · next z =>
    rw [if_neg z]
    split at h
    · next y =>
      rw [if_pos y, ov_rc (fun v hv => hS v (List.mem_of_mem_take (List.mem_reverse.mp hv)))]
      split at h
      · next w => rw [if_pos w]; exact cl h
      · cases h
    · next y =>
      rw [if_neg y]
      split at h
      · next x =>
        rw [if_pos x]
        split at h
        · next w => rw [if_pos w]; exact cl h
        · cases h
      · next x =>
        rw [if_neg x]
        unfold mm_prim at h ⊢
        split at h
        · next q4 =>
          rw [if_pos q4]
          split at h
          · next a r =>
            rw [ov_sh (nz_r (hS _ List.mem_cons_self))]
            split at h
            · next w => rw [if_pos w]; cases h; rfl
            · cases h
          · cases h
        · next q4 =>
          rw [if_neg q4]
          split at h
          · next q5 =>
            rw [if_pos q5]
            split at h
            · split at h
              · next w => rw [if_pos w]; cases h; rfl
              · cases h
            · cases h
          · next q5 =>
            rw [if_neg q5]
            split at h
            · next q6 =>
              rw [if_pos q6]
              split at h
              · split at h
                · next w => rw [if_pos w]; cases h; rfl
                · cases h
              · cases h
            · next q6 =>
              rw [if_neg q6]
              split at h
              · next q7 =>
                rw [if_pos q7]
                split at h
                · split at h
                  · next w => rw [if_pos w]; cases h; rfl
                  · cases h
                · cases h
              · next q7 =>
                rw [if_neg q7]
                split at h
                · next q8 =>
                  rw [if_pos q8]
                  split at h
                  · next nn dp b sp a r =>
                    have hb := nz_r (hS (.ref b) (by simp))
                    have ha := nz_r (hS (.ref a) (by simp))
                    rw [ov_sh ha, ov_sh hb]
                    split at h
                    · next s q h1 h2 =>
                      split at h
                      · next w => rw [if_pos w, ov_cp ha hb]; cases h; rfl
                      · cases h
                    · cases h
                  · cases h
                · cases h
theorem ov_bld {pc : Nat} {L : mm_L} {S : List Value} {o : mm_O} (hS : ∀ v ∈ S, nzV v = true) (h : mm_bld pc L S m = some o) : mm_bld pc L S (ovM f n m) = some (ovO f n o) := by
  unfold mm_bld at h ⊢
  split at h
  · next i a r =>
    split at h
    · next z =>
      rw [if_pos z]
      split at h
      · next y => rw [if_pos y]; cases h; rfl
      · cases h
    · next z =>
      rw [if_neg z]
      unfold mm_ald at h ⊢
      have ha : ¬ a = 0 := nz_r (hS (.ref a) (by simp))
      dsimp only at h ⊢
      rw [ov_sh ha]
      split at h
      · next s e =>
        by_cases w : s.1 = 22 ∧ mm_in i s.2 = true
        · rw [if_pos w] at h ⊢
          rw [ov_gI ha]
          cases h
          rfl
        · rw [if_neg w] at h
          cases h
      · cases h
  · cases h
set_option maxHeartbeats 4000000 in
theorem ov_step {j : Nat} {e : mm_E} {pc : Nat} {L : mm_L} {S : List Value} {o : mm_O} (hS : ∀ v ∈ S, nzV v = true) (h : mm_step j e pc L S m = some o) : mm_step j e pc L S (ovM f n m) = some (ovO f n o) := by
  obtain ⟨i, nn, r1, r2, r3⟩ := e
  cases i <;> dsimp only [mm_step] at h ⊢ <;>
    first
    | exact ov_inv hS h
    | exact ov_bld hS h
    | (cases h; done)
    | ((try simp only [mm_nx, mm_ldc, mm_ldI, mm_ldL, mm_ldR, mm_stI, mm_stL, mm_stR, mm_inc, mm_bI, mm_dI, mm_bL, mm_dL, mm_hL, mm_cL, mm_1I, mm_1L, mm_dup, mm_dup2, mm_pop, mm_if, mm_ic, mm_get, mm_gst, mm_bld, mm_put, mm_ald, mm_rld, mm_ast, mm_lst, mm_rst, mm_len, mm_nwa, mm_nw2, mm_thr, mm_ret, mm_lrt, mm_tsw, mm_lsw] at h ⊢) <;> (repeat' split at h) <;>
        first
        | (cases h; done)
        | (cases h; simp_all [ovO, List.forall_mem_cons, nzV, ov_sh, ov_gI, ov_gL, ov_gR, ov_ne, ov_th, ov_fv, ov_sI, ov_sL, ov_sR, ov_new, ov_new2]; done)
        | (cases h; simp only [*, ↓reduceIte, ovO, not_false_eq_true]; done)
        | skip)
/-- the places where references may stand -/
def okR (a k : Nat) : Bool := mm_swp a k || mm_RL.any (fun r => Nat.beq r.1 a && Nat.beq r.2.1 k)
def bdM (m : mm_M) : Prop := ∀ a k, 100 ≤ a → okR a k = false → mm_gR m a k = none
def gdS (e : mm_E) (S : List Value) (m : mm_M) : Bool := match e.1 with
  | .putfield _ => match S with
    | .ref _ :: .ref a :: _ => okR a e.2.2.2.1
    | _ => true
  | .aastore => match S with
    | _ :: .int i :: .ref a :: _ => okR a i.toNatClampNeg
    | _ => true
  | .multianewarray _ _ => match S with
    | _ :: .int i :: _ => (List.range i.toNatClampNeg).all (fun j => okR (mm_next m) j)
    | _ => true
  | _ => true
theorem bd_sR (h : bdM m) (hk : okR a k = true) {v : Option Nat} : bdM (mm_sR m a k v) := fun b j hb hj => by
  show mm_u m.2.2.2.2 a k v b j = none
  unfold mm_u
  rw [if_neg (fun z => by rw [z.1, z.2, hk] at hj; cases hj)]
  exact h b j hb hj
theorem bd_new (h : bdM m) {s : Nat × Nat} : bdM (mm_new m s) := fun b j hb hj => by
  show mm_cl m.2.2.2.2 (mm_next m) none b j = none
  unfold mm_cl
  split
  · rfl
  · exact h b j hb hj
theorem bd_new2 (h : bdM m) {x y : Nat} (hx : (List.range x).all (fun j => okR (mm_next m) j) = true) : bdM (mm_new2 m x y) := fun b j hb hj => by
  show (if b = mm_next m then (if j < x then some (mm_next m + 1 + j) else none) else mm_cl m.2.2.2.2 (mm_next m) none b j) = none
  split
  · next z =>
    split
    · next w =>
      have := List.all_eq_true.mp hx j (List.mem_range.mpr w)
      rw [← z, hj] at this
      cases this
    · rfl
  · unfold mm_cl
    split
    · rfl
    · exact h b j hb hj
theorem bd_inv {k n : Nat} {kd : Int} {pc : Nat} {L : mm_L} {S : List Value} {m : mm_M} {q : Nat × mm_L × List Value × mm_M} (h : mm_inv k n kd pc L S m = some (.inl q)) (hb : bdM m) : bdM q.2.2.2 := by
  obtain ⟨-, -, -, -, -, -, h⟩ := mm_inv_pr h
  unfold mm_prim at h
  repeat' split at h
  all_goals first
    | (cases h; exact hb)
    | cases h
set_option maxHeartbeats 4000000 in
theorem bd_step {j : Nat} {e : mm_E} {pc : Nat} {L : mm_L} {S : List Value} {m : mm_M} {q : Nat × mm_L × List Value × mm_M} (h : mm_step j e pc L S m = some (.inl q)) (hg : gdS e S m = true) (hb : bdM m) : bdM q.2.2.2 := by
  obtain ⟨i, nn, r1, r2, r3⟩ := e
  cases i <;> dsimp only [mm_step, gdS] at h hg <;>
    first
    | exact bd_inv h hb
    | (cases h; done)
    | ((try simp only [mm_nx, mm_ldc, mm_ldI, mm_ldL, mm_ldR, mm_stI, mm_stL, mm_stR, mm_inc, mm_bI, mm_dI, mm_bL, mm_dL, mm_hL, mm_cL, mm_1I, mm_1L, mm_dup, mm_dup2, mm_pop, mm_if, mm_ic, mm_get, mm_gst, mm_bld, mm_put, mm_ald, mm_rld, mm_ast, mm_lst, mm_rst, mm_len, mm_nwa, mm_nw2, mm_thr, mm_ret, mm_lrt, mm_tsw, mm_lsw] at h) <;> (repeat' split at h) <;>
        first
        | (cases h; done)
        | (cases h; exact hb)
        | (cases h; exact bd_new hb)
        | (cases h; exact bd_sR hb hg)
        | (cases h; exact bd_new2 hb hg)
        | skip)
def outG (f : mm_F) (d j : Nat) (L : mm_L) (m : mm_M) : mm_O → Option mm_R
  | .inl q => f d j q.1 q.2.1 q.2.2.1 q.2.2.2
  | .inr (.inl q) => match d with
    | 0 => none
    | d' + 1 => if q.1 = 278 then none else (f d' q.1 0 (mm_en q.1 q.2.1) [] m).bind (mm_k1 f q.1 (d' + 1) j q.2.2.2 L q.2.2.1)
  | .inr (.inr (.inl v)) => some (some v, m)
  | .inr (.inr (.inr _)) => none
/-- a run that never has the script on its stack -/
def mm_runG : Nat → mm_F
  | 0 => fun _ _ _ _ _ _ => none
  | n + 1 => fun d j pc L S m => if S.all nzV = true then (mm_at j pc).bind (fun e => if gdS e S m = true then (mm_step j e pc L S m).bind (outG (mm_runG n) d j L m) else none) else none
theorem ov_run {f : Nat → Int32} {n : Nat} : ∀ (N d j pc : Nat) (L : mm_L) (S : List Value) (m : mm_M) (r : mm_R), mm_runG N d j pc L S m = some r → mm_run N d j pc L S (ovM f n m) = some (r.1, ovM f n r.2) ∧ (bdM m → bdM r.2)
  | 0, _, _, _, _, _, _, _, h => by cases h
  | N + 1, d, j, pc, L, S, m, r, h => by
    have ih := ov_run (f := f) (n := n) N
    have h1 : (if S.all nzV = true then (mm_at j pc).bind (fun e => if gdS e S m = true then (mm_step j e pc L S m).bind (outG (mm_runG N) d j L m) else none) else none) = some r := h
    show mm_body (mm_run N) d j pc L S (ovM f n m) = _ ∧ _
    split at h1
    · next hS =>
      have hS' : ∀ v ∈ S, nzV v = true := List.all_eq_true.mp hS
      obtain ⟨x, hx, h2⟩ := Option.bind_eq_some_iff.mp h1
      split at h2
      · next hg =>
        obtain ⟨o, h3, h4⟩ := Option.bind_eq_some_iff.mp h2
        have h3' := ov_step (f := f) (n := n) hS' h3
        unfold mm_body
        rw [hx, Option.bind_some, h3', Option.bind_some]
        rcases o with q | q | v | u
        · have k := ih _ _ _ _ _ _ _ h4
          exact ⟨k.1, fun hb => k.2 (bd_step h3 hg hb)⟩
        · show mm_cal (mm_run N) d q.1 q.2.1 j q.2.2.2 L q.2.2.1 (ovM f n m) = _ ∧ _
          unfold outG at h4
          dsimp only at h4
          unfold mm_cal
          cases d with
          | zero => cases h4
          | succ d' =>
            dsimp only at h4 ⊢
            split at h4
            · cases h4
            · next hk =>
              rw [if_neg hk]
              obtain ⟨y, h6, h7⟩ := Option.bind_eq_some_iff.mp h4
              have k1 := ih _ _ _ _ _ _ _ h6
              rw [k1.1, Option.bind_some]
              unfold mm_k1 at h7 ⊢
              split at h7
              · next v hv =>
                rw [hv]
                dsimp only
                split at h7
                · next hok =>
                  rw [if_pos hok]
                  have k2 := ih _ _ _ _ _ _ _ h7
                  exact ⟨k2.1, fun hb => k2.2 (k1.2 hb)⟩
                · cases h7
              · cases h7
        · cases h4
          exact ⟨rfl, fun hb => hb⟩
        · cases h4
      · cases h2
    · cases h1
end
