section MAIN
variable {p : Program} {l : Launch} {e : Env} {R : Room} {s : State} {mid : MethodId} {args : Array Value} {below : List Frame} {meth : Method} {c : Code} {Q : State → Prop} {D : va_G} {cA : Nat → ClassId} {N0 : Nat} {sp : Nat → Nat} {j nb sb : Nat}
variable {H : Heap} {locs : List Loc} {cells slots pc : Nat} {ls : Array Slot} {L : mm_L} {S : List Value} {m : mm_M}
/-- what the law's helper makes of laws -/
def mm_hlp (o : Nat) (y : mm_R) (w : Int32) (m2 : mm_M) : Prop := (∃ r0 : Int32, y.1 = some (some (.int r0)) ∧ w = 0 ∧ m2 = mm_sL y.2 o 0 r0.toInt64) ∨ (y.1 = none ∧ w = 1 ∧ m2 = y.2)
theorem mm_do278 {d pc' x o : Nat} {v w : Int32} {e9 : mm_E} {S' : List Value} {y : mm_R} {m2 : mm_M} (hls : l.stackTraces = false) (C : mm_Cx p s mid args meth c R j D cA N0 sp nb) (he : mm_at j pc = some e9) (hst : mm_step j e9 pc L S m = some (.inr (.inl (278, [.ref x, .int v, .ref o], S', pc')))) (hd6 : 6 ≤ d) (hd1 : d + 3 ≤ R.frames) (hd2 : 100 + 50 * (d + 2) ≤ R.locals) (ho : mm_okO m o = true) (hF : mm_Fr d 154 0 (mm_en 154 [.ref x, .int v]) [] m y) (hgr : mm_gr m y.2) (hy : mm_hlp o y w m2) (hrm : mm_nc m2 ≤ nb + R.cells) (hrs : mm_ns m2 ≤ sb + R.slots)
    (hH : mm_Hp D cA N0 sp m s H) (hS : va_S (fun x => N0 ≤ x) s.heap H locs) (hL : mm_LS (mm_ad N0 sp) (mm_mx j) ls L) (hc : mm_nc m = nb + cells) (hsl : mm_ns m = sb + slots) (kk : mm_KK p l e R s mid args below meth c Q D cA N0 sp j nb sb (pc', L, .int w :: S', m2)) :
    W p l e R s mid args below meth c H locs cells slots Q (F0 mid pc ls (S.map (mm_tr (mm_ad N0 sp)))) := sorry
end MAIN
/-- every run of the small machine is one of the machine -/
theorem mm_sound : ∀ (n d j pc : Nat) (L : mm_L) (S : List Value) (m : mm_M) (r : mm_R), mm_run n d j pc L S m = some r → mm_Fr d j pc L S m r
  | 0, _, _, _, _, _, _, _, h => by cases h
  | n + 1, d, j, pc, L, S, m, r, h => by
    have ih := mm_sound n
    have h1 : mm_body (mm_run n) d j pc L S m = some r := h
    unfold mm_body at h1
    obtain ⟨x, hx, h2⟩ := Option.bind_eq_some_iff.mp h1
    obtain ⟨o, ho, h4⟩ := Option.bind_eq_some_iff.mp h2
    intro p l e R s mid args below meth c Q D cA N0 sp nb sb H locs cells slots ls hls C hd1 hd2 hH hS hL hc hsl hrm hrs hE
    rcases o with q | q | v | u
    · have h5 : mm_run n d j q.1 q.2.1 q.2.2.1 q.2.2.2 = some r := h4
      have hg := mm_run_gr _ _ _ _ _ _ _ _ h5
      refine mm_one C hx ho (Nat.le_trans hg.1 hrm) (Nat.le_trans hg.2 hrs) hH hS hL hc hsl (fun H' locs' ls' cells' slots' k1 k2 k3 k4 k5 => ?_)
      exact ih _ _ _ _ _ _ _ h5 p l e R s mid args below meth c Q D cA N0 sp nb sb H' locs' cells' slots' ls' hls C hd1 hd2 k1 k2 k3 k4 k5 hrm hrs hE
    · obtain ⟨k, as, S', pc'⟩ := q
      have h5 : mm_cal (mm_run n) d k as j pc' L S' m = some r := h4
      unfold mm_cal at h5
      split at h5
      · cases h5
      · next d' =>
        split at h5
        · next hk =>
          subst hk
          unfold mm_cl2 at h5
          split at h5
          · next d'' x2 v2 o2 =>
            split at h5
            · next hok =>
              obtain ⟨y, h6, h7⟩ := Option.bind_eq_some_iff.mp h5
              have hg1 := mm_run_gr _ _ _ _ _ _ _ _ h6
              unfold mm_k2 at h7
              split at h7
              · next r0 hr0 =>
                have hg2 := mm_run_gr _ _ _ _ _ _ _ _ h7
                refine mm_do278 hls C hx ho hok.2 (by omega) (by omega) hok.1 (ih _ _ _ _ _ _ _ h6) hg1 (Or.inl ⟨r0, hr0, rfl, rfl⟩) (Nat.le_trans hg2.1 hrm) (Nat.le_trans hg2.2 hrs) hH hS hL hc hsl (fun H' locs' ls' cells' slots' k1 k2 k3 k4 k5 => ?_)
                exact ih _ _ _ _ _ _ _ h7 p l e R s mid args below meth c Q D cA N0 sp nb sb H' locs' cells' slots' ls' hls C hd1 hd2 k1 k2 k3 k4 k5 hrm hrs hE
              · next hr0 =>
                have hg2 := mm_run_gr _ _ _ _ _ _ _ _ h7
                refine mm_do278 hls C hx ho hok.2 (by omega) (by omega) hok.1 (ih _ _ _ _ _ _ _ h6) hg1 (Or.inr ⟨hr0, rfl, rfl⟩) (Nat.le_trans hg2.1 hrm) (Nat.le_trans hg2.2 hrs) hH hS hL hc hsl (fun H' locs' ls' cells' slots' k1 k2 k3 k4 k5 => ?_)
                exact ih _ _ _ _ _ _ _ h7 p l e R s mid args below meth c Q D cA N0 sp nb sb H' locs' cells' slots' ls' hls C hd1 hd2 k1 k2 k3 k4 k5 hrm hrs hE
              · cases h7
            · cases h5
          · cases h5
        · next hk =>
          obtain ⟨y, h6, h7⟩ := Option.bind_eq_some_iff.mp h5
          have hg1 := mm_run_gr _ _ _ _ _ _ _ _ h6
          obtain ⟨y1, m'⟩ := y
          unfold mm_k1 at h7
          split at h7
          · next v hv =>
            dsimp only at hv
            subst hv
            split at h7
            rotate_left
            · cases h7
            have hg2 := mm_run_gr _ _ _ _ _ _ _ _ h7
            refine mm_do hls C hx ho hk (by omega) (by omega) (ih _ _ _ _ _ _ _ h6) hg1 (Nat.le_trans hg2.1 hrm) (Nat.le_trans hg2.2 hrs) hH hS hL hc hsl (fun H' locs' ls' cells' slots' k1 k2 k3 k4 k5 => ?_)
            exact ih _ _ _ _ _ _ _ h7 p l e R s mid args below meth c Q D cA N0 sp nb sb H' locs' cells' slots' ls' hls C hd1 hd2 k1 k2 k3 k4 k5 hrm hrs hE
          · cases h7
    · exact hE pc x L S m (.inl v) H locs ls cells slots hx ho (by cases h4; rfl) hH hS hL hc hsl
    · exact hE pc x L S m (.inr u) H locs ls cells slots hx ho (by cases h4; rfl) hH hS hL hc hsl
