section MAIN
variable {p : Program} {l : Launch} {e : Env} {R : Room} {s : State} {mid : MethodId} {args : Array Value} {below : List Frame} {meth : Method} {c : Code} {Q : State → Prop} {D : va_G} {cA : Nat → ClassId} {N0 : Nat} {sp : Nat → Nat} {j nb sb : Nat}
variable {H : Heap} {locs : List Loc} {cells slots pc : Nat} {ls : Array Slot} {L : mm_L} {S : List Value} {m : mm_M}
theorem my_w278 : mm_cn (mm_ow 278) = (mm_y 278).cls ∧ (mm_y 278).cls ≠ "java/lang/invoke/MethodHandle" ∧ (mm_y 278).cls ≠ "java/lang/invoke/VarHandle" ∧ (parseMethodDescriptor (mm_y 278).desc).map (fun d => d.parameters.length) = some 3 := by decide +kernel
theorem mm_do278 {d pc' x o : Nat} {v w : Int32} {e9 : mm_E} {S' : List Value} {y : mm_R} {m2 : mm_M} (hls : l.stackTraces = false) (C : mm_Cx p s mid args meth c R j D cA N0 sp nb) (he : mm_at j pc = some e9) (hst : mm_step j e9 pc L S m = some (.inr (.inl (278, [.ref x, .int v, .ref o], S', pc')))) (hd6 : 6 ≤ d) (har : (mm_ar [Value.ref x, .int v]).length ≤ mm_mx 154) (hkx : mm_kdo m x = 11) (hd1 : d + 3 ≤ R.frames) (hd2 : 100 + 50 * (d + 2) ≤ R.locals) (hF : mm_Fr d 154 0 (mm_en 154 [.ref x, .int v]) [] m y) (hgr : mm_gr m y.2) (hy : my_hlp o y w m2) (hrm : mm_nc m2 ≤ nb + R.cells) (hrs : mm_ns m2 ≤ sb + R.slots)
    (hH : mm_Hp D cA N0 sp m s H) (hS : va_S (fun x => N0 ≤ x) s.heap H locs) (hL : mm_LS (mm_ad N0 sp) (mm_mx j) ls L) (hc : mm_nc m = nb + cells) (hsl : mm_ns m = sb + slots) (kk : mm_KK p l e R s mid args below meth c Q D cA N0 sp j nb sb (pc', L, .int w :: S', m2)) :
    W p l e R s mid args below meth c H locs cells slots Q (F0 mid pc ls (S.map (mm_tr (mm_ad N0 sp)))) := by
  obtain ⟨hx, hb, hml, hown, hts, hnm, hAt, hR, hN, hz⟩ := C
  obtain ⟨c1, c2, c3, c4, c5, c6⟩ := my_cl278
  obtain ⟨w1, w2, w3, w4⟩ := my_w278
  obtain ⟨hn1, hn2⟩ := my_hlp_n hy
  have hg1 := hgr.1
  have hg2 := hgr.2
  obtain ⟨i, n, r1, r2, r3⟩ := e9
  obtain ⟨hdc, hok, -⟩ := mm_at_ok he
  rcases mm_step_cls hst with hi | ⟨ix, rfl, rfl, rfl⟩ | ⟨ix, hi, h9⟩
  · exfalso
    rcases hi with rfl | rfl | rfl
    · have h9 : mm_ret (mm_isZ j) S = some (.inr (.inl (278, [.ref x, .int v, .ref o], S', pc'))) := hst
      unfold mm_ret at h9
      split at h9
      · split at h9 <;> cases h9
      · cases h9
    · have h9 : mm_lrt S = some (.inr (.inl (278, [.ref x, .int v, .ref o], S', pc'))) := hst
      unfold mm_lrt at h9
      split at h9 <;> cases h9
    · cases S with
      | nil => cases hst
      | cons a b => cases hst
  · have h9 : (some (.inr (.inr (.inr ()))) : Option mm_O) = some (.inr (.inl (278, [.ref x, .int v, .ref o], S', pc'))) := hst
    cases h9
  · obtain ⟨⟨hl, hs8, har0⟩, ho, hkd⟩ := mm_inv_call h9
    simp only [Sum.inl.injEq, Prod.mk.injEq] at ho
    obtain ⟨h278, has, hS', hpc'⟩ := ho
    subst h278; subst hS'; subst hpc'
    have hst20 : i = .invokestatic ix ∧ r3 = 20 := by
      rcases hi with rfl | rfl | rfl
      · refine ⟨rfl, ?_⟩
        rcases hkd with (h | h | h) | ⟨h, -⟩ | ⟨h | h, -⟩
        · subst h; simp [mm_ok] at hok
        · subst h; simp [mm_ok] at hok
        · exact h
        · subst h; simp [mm_ok] at hok
        · subst h; simp [mm_ok] at hok
        · subst h; simp [mm_ok] at hok
      · exfalso
        rcases hkd with (h | h | h) | ⟨h, -⟩ | ⟨h | h, -⟩ <;> (subst h; simp [mm_ok] at hok)
      · exfalso
        rcases hkd with (h | h | h) | ⟨h, -⟩ | ⟨h | h, -⟩ <;> (subst h; simp [mm_ok] at hok)
    obtain ⟨rfl, rfl⟩ := hst20
    have hok2 : (mm_ml.contains (mm_ow j, ix, 278) = true) ∧ r2 = 3 := by
      simp [mm_ok] at hok
      exact ⟨by simpa using hok.1, hok.2⟩
    obtain ⟨o1, rfl⟩ := hok2
    have hd := mm_dc he (fun z => by cases z)
    intro T hT X
    have hup : H.size ≤ N0 + mm_nc m := by
      have h2 := X.heapSize
      rw [hT] at h2
      omega
    have hlow : N0 ≤ H.size := Nat.le_trans hN hS.1
    have hpre : ∀ U : State, U.heap = H → s.WarmedH U.vm → mm_Pc D cA N0 sp m [.ref x, .int v, .ref o] (([Value.ref x, .int v, .ref o].map (mm_tr (mm_ad N0 sp))).toArray) U := fun U hU hW => ⟨rfl, hAt.warm hW, by rw [hU]; exact hH.moved hW.alike, by rw [hU]; exact hlow, by rw [hU]; exact hup⟩
    have hstk : S.map (mm_tr (mm_ad N0 sp)) = ([Value.ref x, .int v, .ref o].map (mm_tr (mm_ad N0 sp))).reverse ++ (S.drop 3).map (mm_tr (mm_ad N0 sp)) := by
      rw [has, List.map_reverse, List.reverse_reverse, ← List.map_append, List.take_append_drop]
    have hrm8 : ((S.drop 3).map (mm_tr (mm_ad N0 sp))).map (fun v => v.category) = (S.drop 3).map (fun v => v.category) := by
      rw [List.map_map]
      exact List.map_congr_left (fun v _ => mm_tr_cat _ v)
    have hro : 2 * (F0 mid pc ls (S.map (mm_tr (mm_ad N0 sp)))).monitorRoom + (((S.drop 3).map (mm_tr (mm_ad N0 sp))).map fun v => v.category).sum ≤ 8 := lv_room (by rw [hrm8]; exact hs8)
    have fin : ∀ (H1 : Heap) (locs1 : List Loc), mm_Hp D cA N0 sp m2 s H1 → va_S (fun x => N0 ≤ x) s.heap H1 locs1 → W p l e R s mid args below meth c H1 locs1 (cells + (mm_nc m2 - mm_nc m)) (slots + (mm_ns m2 - mm_ns m)) Q (F0 mid (pc + 3) ls ((mm_trO (mm_ad N0 sp) (some (.int w))).toList ++ (S.drop 3).map (mm_tr (mm_ad N0 sp)))) := by
      intro H1 locs1 hH1 hS1
      have k9 := kk H1 locs1 ls (cells + (mm_nc m2 - mm_nc m)) (slots + (mm_ns m2 - mm_ns m)) hH1 hS1 hL (by dsimp only; omega) (by dsimp only; omega)
      exact k9
    have hM := mm_met278 (l := l) (D := D) (cA := cA) (N0 := N0) (sp := sp) hls hd6 hkx har hF hgr hy
    have cw := vx_cwSW (R := R) (own := mm_cn (mm_ow j)) (index := ix) (hh := [(0, 9, 12, 13)]) 3 hts (mm_gi (a := va_wsS (mm_cn (mm_ow j)) ix (mm_y 278) my_ww) (fun w hw => by
      unfold va_wsS at hw
      rcases List.mem_append.mp hw with h | h
      · simp only [List.mem_cons, List.not_mem_nil, or_false] at h
        rcases h with rfl | rfl | rfl
        · exact mm_g_in (mm_ml_w _ (List.contains_iff_mem.mp o1)) rfl
        · exact mm_w_xs
        · rw [← w1, c3]; exact mm_w_xl
      · rcases List.mem_cons.mp h with rfl | h
        · rw [c4, c5]; exact mm_w_xw
        · exact h)) rfl (rm := mm_rm (d + 1) (mm_nc m2 - mm_nc m) (mm_ns m2 - mm_ns m)) rfl rfl ⟨w2, w3, w4⟩ ⟨hd1, by
      show 8 + (mm_mx 278 + 11) + (100 + 50 * (d + 1)) ≤ R.locals
      omega⟩
    have hrun := vx_runSW (p := p) (l := l) (e := e) (below := below) (meth := meth) (H := H) (locs := locs) (cells := cells) (slots := slots) (As := [Value.ref x, .int v, .ref o].map (mm_tr (mm_ad N0 sp))) (rest := (S.drop 3).map (mm_tr (mm_ad N0 sp))) (g := F0 mid pc ls (S.map (mm_tr (mm_ad N0 sp)))) ⟨hx, hb, hml, hown, hts⟩ hM cw ⟨mm_Pc_blind, hpre⟩ rfl rfl hL.2.1 hstk hro hd ⟨by omega, by omega⟩
    exact mm_goon hrun hS fin T hT X
end MAIN
/-- every run of the small machine is one of the machine -/
theorem mm_sound : ∀ (n d j pc : Nat) (L : mm_L) (S : List Value) (m : mm_M) (r : mm_R), mm_run n d j pc L S m = some r → mm_Fr d j pc L S m r
  | 0, _, _, _, _, _, _, _, h => by cases h
  | n + 1, d, j, pc, L, S, m, r, h => by
    have ih := mm_sound n
    have h1 : mm_body (mm_run n) d j pc L S m = some r := h
    unfold mm_body at h1
    obtain ⟨x, hx, h2⟩ := Option.bind_eq_some_iff.mp h1
    obtain ⟨o, ho, h4⟩ := Option.bind_eq_some_iff.mp h2
    intro p l e R s mid args below meth c Q D cA N0 sp nb sb H locs cells slots ls hls C hd1 hd2 hH hS hL hc hsl hrm hrs hE
    rcases o with q | q | v | u
    · have h5 : mm_run n d j q.1 q.2.1 q.2.2.1 q.2.2.2 = some r := h4
      have hg := mm_run_gr _ _ _ _ _ _ _ _ h5
      refine mm_one C hx ho (Nat.le_trans hg.1 hrm) (Nat.le_trans hg.2 hrs) hH hS hL hc hsl (fun H' locs' ls' cells' slots' k1 k2 k3 k4 k5 => ?_)
      exact ih _ _ _ _ _ _ _ h5 p l e R s mid args below meth c Q D cA N0 sp nb sb H' locs' cells' slots' ls' hls C hd1 hd2 k1 k2 k3 k4 k5 hrm hrs hE
    · obtain ⟨k, as, S', pc'⟩ := q
      have h5 : mm_cal (mm_run n) d k as j pc' L S' m = some r := h4
      unfold mm_cal at h5
      split at h5
      · cases h5
      · next d' =>
        split at h5
        · next hk =>
          subst hk
          unfold mm_cl2 at h5
          split at h5
          · next d'' x2 v2 o2 =>
            split at h5
            · next hok =>
              obtain ⟨y, h6, h7⟩ := Option.bind_eq_some_iff.mp h5
              have hg1 := mm_run_gr _ _ _ _ _ _ _ _ h6
              unfold mm_k2 at h7
              split at h7
              · next r0 hr0 =>
                split at h7
                rotate_left
                · cases h7
                next ho2 =>
                have hg2 := mm_run_gr _ _ _ _ _ _ _ _ h7
                refine mm_do278 hls C hx ho hok.1 hok.2.1 hok.2.2 (by omega) (by omega) (ih _ _ _ _ _ _ _ h6) hg1 (Or.inl ⟨r0, hr0, ho2, rfl, rfl⟩) (Nat.le_trans hg2.1 hrm) (Nat.le_trans hg2.2 hrs) hH hS hL hc hsl (fun H' locs' ls' cells' slots' k1 k2 k3 k4 k5 => ?_)
                exact ih _ _ _ _ _ _ _ h7 p l e R s mid args below meth c Q D cA N0 sp nb sb H' locs' cells' slots' ls' hls C hd1 hd2 k1 k2 k3 k4 k5 hrm hrs hE
              · next hr0 =>
                have hg2 := mm_run_gr _ _ _ _ _ _ _ _ h7
                refine mm_do278 hls C hx ho hok.1 hok.2.1 hok.2.2 (by omega) (by omega) (ih _ _ _ _ _ _ _ h6) hg1 (Or.inr ⟨hr0, rfl, rfl⟩) (Nat.le_trans hg2.1 hrm) (Nat.le_trans hg2.2 hrs) hH hS hL hc hsl (fun H' locs' ls' cells' slots' k1 k2 k3 k4 k5 => ?_)
                exact ih _ _ _ _ _ _ _ h7 p l e R s mid args below meth c Q D cA N0 sp nb sb H' locs' cells' slots' ls' hls C hd1 hd2 k1 k2 k3 k4 k5 hrm hrs hE
              · cases h7
            · cases h5
          · cases h5
        · next hk =>
          obtain ⟨y, h6, h7⟩ := Option.bind_eq_some_iff.mp h5
          have hg1 := mm_run_gr _ _ _ _ _ _ _ _ h6
          obtain ⟨y1, m'⟩ := y
          unfold mm_k1 at h7
          split at h7
          · next v hv =>
            dsimp only at hv
            subst hv
            split at h7
            rotate_left
            · cases h7
            have hg2 := mm_run_gr _ _ _ _ _ _ _ _ h7
            refine mm_do hls C hx ho hk (by omega) (by omega) (ih _ _ _ _ _ _ _ h6) hg1 (Nat.le_trans hg2.1 hrm) (Nat.le_trans hg2.2 hrs) hH hS hL hc hsl (fun H' locs' ls' cells' slots' k1 k2 k3 k4 k5 => ?_)
            exact ih _ _ _ _ _ _ _ h7 p l e R s mid args below meth c Q D cA N0 sp nb sb H' locs' cells' slots' ls' hls C hd1 hd2 k1 k2 k3 k4 k5 hrm hrs hE
          · cases h7
    · exact hE pc x L S m (.inl v) H locs ls cells slots hx ho (by cases h4; rfl) hH hS hL hc hsl
    · exact hE pc x L S m (.inr u) H locs ls cells slots hx ho (by cases h4; rfl) hH hS hL hc hsl
