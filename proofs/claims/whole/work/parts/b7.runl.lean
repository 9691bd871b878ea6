def okv1 (k : Nat) (u : Option Value × lM) : Bool := mm_okv (mm_rt k) u.1
def outL (f : Nat → Nat → Nat → mm_L → List Value → lM → Option (Option Value × lM)) (d j : Nat) (L : mm_L) (m mn : lM) : mm_O → Option (Option Value × lM)
  | .inl q => f d j q.1 q.2.1 q.2.2.1 mn
  | .inr (.inl q) => match d with
    | 0 => none
    | d' + 1 => if q.1 = 278 then none else (f d' q.1 0 (mm_en q.1 q.2.1) [] m).bind fun u => if okv1 q.1 u = true then f (d' + 1) j q.2.2.2 L (u.1.toList ++ q.2.2.1) u.2 else none
  | .inr (.inr (.inl v)) => some (v, m)
  | .inr (.inr (.inr _)) => none
/-- a run over lists that never has the script on its stack -/
def runL : Nat → Nat → Nat → Nat → mm_L → List Value → lM → Option (Option Value × lM)
  | 0 => fun _ _ _ _ _ _ => none
  | n + 1 => fun d j pc L S m => if S.all nzV = true then (mm_at j pc).bind (fun e => if gcp e = true then (mm_step j e pc L S (ab m)).bind (outL (runL n) d j L m (nM e S m)) else none) else none
def outS (N : Nat) (f : Nat → mm_L → List Value → lM → Option (Nat × mm_L × List Value × lM)) (d : Nat) (L : mm_L) (m mn : lM) : mm_O → Option (Nat × mm_L × List Value × lM)
  | .inl q => f q.1 q.2.1 q.2.2.1 mn
  | .inr (.inl q) => match d with
    | 0 => none
    | d' + 1 => if q.1 = 278 then none else (runL N d' q.1 0 (mm_en q.1 q.2.1) [] m).bind fun u => if okv1 q.1 u = true then f q.2.2.2 L (u.1.toList ++ q.2.2.1) u.2 else none
  | .inr (.inr _) => none
/-- n steps of one frame, calls run to their end -/
def stp (N d j : Nat) : Nat → Nat → mm_L → List Value → lM → Option (Nat × mm_L × List Value × lM)
  | 0 => fun pc L S m => some (pc, L, S, m)
  | n + 1 => fun pc L S m => if S.all nzV = true then (mm_at j pc).bind (fun e => if gcp e = true then (mm_step j e pc L S (ab m)).bind (outS N (stp N d j n) d L m (nM e S m)) else none) else none
section
variable {f : Nat → Int32} {n : Nat}
theorem ev_k1 {d j pc k : Nat} {L : mm_L} {S : List Value} {u : Option Value × lM} (h : okv1 k u = true) {m : mm_M} : mm_k1 mm_ev k d j pc L S (some u.1, m) = mm_ev d j pc L (u.1.toList ++ S) m := by
  unfold mm_k1
  exact if_pos h
theorem runL_ev : ∀ (N d j pc : Nat) (L : mm_L) (S : List Value) (m : lM) (r : Option Value × lM), runL N d j pc L S m = some r → okL m → mm_ev d j pc L S (ovM f n (ab m)) = some (some r.1, ovM f n (ab r.2)) ∧ okL r.2
  | 0, _, _, _, _, _, _, _, h, _ => by cases h
  | N + 1, d, j, pc, L, S, m, r, h, ho => by
    have ih := runL_ev N
    have h1 : (if S.all nzV = true then (mm_at j pc).bind (fun e => if gcp e = true then (mm_step j e pc L S (ab m)).bind (outL (runL N) d j L m (nM e S m)) else none) else none) = some r := h
    split at h1
    · next hS =>
      have hS' : ∀ v ∈ S, nzV v = true := List.all_eq_true.mp hS
      obtain ⟨x, hx, h2⟩ := Option.bind_eq_some_iff.mp h1
      split at h2
      · next hg =>
        obtain ⟨o, h3, h4⟩ := Option.bind_eq_some_iff.mp h2
        have h3' := ov_step (f := f) (n := n) hS' h3
        rcases o with q | q | v | u
        · have k0 := nM_step h3 hg ho
          have k := ih _ _ _ _ _ _ _ h4 k0.2
          rw [ev_s hx h3', k0.1]
          exact k
        · unfold outL at h4
          dsimp only at h4
          cases d with
          | zero => cases h4
          | succ d' =>
            dsimp only at h4
            split at h4
            · cases h4
            · next hk =>
              obtain ⟨y, h6, h7⟩ := Option.bind_eq_some_iff.mp h4
              have k1 := ih _ _ _ _ _ _ _ h6 ho
              split at h7
              · next hok =>
                have k2 := ih _ _ _ _ _ _ _ h7 k1.2
                rw [ev_c hx h3' hk, k1.1, Option.bind_some, ev_k1 hok]
                exact k2
              · cases h7
        · cases h4
          exact ⟨ev_r hx h3', ho⟩
        · cases h4
      · cases h2
    · cases h1
theorem stp_ev {N d j : Nat} : ∀ (k pc : Nat) (L : mm_L) (S : List Value) (m : lM) (r : Nat × mm_L × List Value × lM), stp N d j k pc L S m = some r → okL m → mm_ev d j pc L S (ovM f n (ab m)) = mm_ev d j r.1 r.2.1 r.2.2.1 (ovM f n (ab r.2.2.2)) ∧ okL r.2.2.2
  | 0, _, _, _, _, _, h, ho => by
    cases h
    exact ⟨rfl, ho⟩
  | k + 1, pc, L, S, m, r, h, ho => by
    have ih := stp_ev (N := N) (d := d) (j := j) k
    have h1 : (if S.all nzV = true then (mm_at j pc).bind (fun e => if gcp e = true then (mm_step j e pc L S (ab m)).bind (outS N (stp N d j k) d L m (nM e S m)) else none) else none) = some r := h
    split at h1
    · next hS =>
      have hS' : ∀ v ∈ S, nzV v = true := List.all_eq_true.mp hS
      obtain ⟨x, hx, h2⟩ := Option.bind_eq_some_iff.mp h1
      split at h2
      · next hg =>
        obtain ⟨o, h3, h4⟩ := Option.bind_eq_some_iff.mp h2
        have h3' := ov_step (f := f) (n := n) hS' h3
        rcases o with q | q | v
        · have k0 := nM_step h3 hg ho
          have k := ih _ _ _ _ _ h4 k0.2
          rw [ev_s hx h3', k0.1]
          exact k
        · unfold outS at h4
          dsimp only at h4
          cases d with
          | zero => cases h4
          | succ d' =>
            dsimp only at h4
            split at h4
            · cases h4
            · next hk =>
              obtain ⟨y, h6, h7⟩ := Option.bind_eq_some_iff.mp h4
              have k1 := runL_ev (f := f) (n := n) _ _ _ _ _ _ _ _ h6 ho
              split at h7
              · next hok =>
                have k2 := ih _ _ _ _ _ h7 k1.2
                rw [ev_c hx h3' hk, k1.1, Option.bind_some, ev_k1 hok]
                exact k2
              · cases h7
        · cases h4
      · cases h2
    · cases h1
end
