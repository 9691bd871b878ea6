theorem mm_n2_lo {m : mm_M} {n k : Nat} {ad : Nat → Nat} {cA : Nat → ClassId} {i : Nat} (hi : i < m.1.length) : (mm_ws (mm_new2 m n k) ad cA)[i]? = (mm_ws m ad cA)[i]? := by
  unfold mm_ws
  rw [List.getElem?_mapIdx, List.getElem?_mapIdx]
  show Option.map _ ((m.1 ++ (27, n) :: List.replicate n (20, k))[i]?) = _
  rw [List.getElem?_append_left hi]
  have h9 : 100 + i < mm_next m := by unfold mm_next; omega
  have e1 : (mm_new2 m n k).2.2.1 (100 + i) = m.2.2.1 (100 + i) := mm_cl_lo h9
  have e2 : (mm_new2 m n k).2.2.2.1 (100 + i) = m.2.2.2.1 (100 + i) := mm_cl_lo h9
  have e3 : (mm_new2 m n k).2.2.2.2 (100 + i) = m.2.2.2.2 (100 + i) := by
    funext t
    show (if 100 + i = mm_next m then _ else mm_cl m.2.2.2.2 (mm_next m) none (100 + i) t) = _
    rw [if_neg (by omega), mm_cl_lo h9]
  rw [e1, e2, e3]
theorem mm_n2_at {m : mm_M} {n k : Nat} {ad : Nat → Nat} {cA : Nat → ClassId} : (mm_ws (mm_new2 m n k) ad cA)[m.1.length]? = some (ad (mm_next m), .inl (cA 27, n, .inr (.inr (.inr (.inr (fun t => if t < n then some (ad (mm_next m + 1 + t)) else none)))))) := by
  unfold mm_ws
  rw [List.getElem?_mapIdx]
  show Option.map _ ((m.1 ++ (27, n) :: List.replicate n (20, k))[m.1.length]?) = _
  rw [List.getElem?_append_right (Nat.le_refl _), Nat.sub_self]
  have e3 : (mm_new2 m n k).2.2.2.2 (100 + m.1.length) = fun t => if t < n then some (mm_next m + 1 + t) else none := by
    funext t
    show (if 100 + m.1.length = mm_next m then _ else _) = _
    rw [if_pos (show 100 + m.1.length = mm_next m from rfl)]
  show some (ad (100 + m.1.length), mm_cc _ _ ((mm_new2 m n k).2.2.2.2 (100 + m.1.length)) ad cA (27, n)) = _
  rw [e3]
  unfold mm_cc
  rw [if_neg (show ¬ (27 : Nat) < 20 by decide), if_neg (show ¬ (27 : Nat) = 21 by decide), if_pos (show 24 ≤ (27 : Nat) by decide)]
  have e4 : (fun j => Option.map ad (if j < n then some (mm_next m + 1 + j) else none)) = (fun t => if t < n then some (ad (mm_next m + 1 + t)) else none) := by
    funext t
    by_cases h : t < n
    · rw [if_pos h, if_pos h]; rfl
    · rw [if_neg h, if_neg h]; rfl
  rw [e4]
  rfl
theorem mm_n2_in {m : mm_M} {n k : Nat} {ad : Nat → Nat} {cA : Nat → ClassId} {t : Nat} (ht : t < n) : (mm_ws (mm_new2 m n k) ad cA)[m.1.length + 1 + t]? = some (ad (mm_next m + 1 + t), .inl (cA 20, k, .inl (fun _ => 0))) := by
  unfold mm_ws
  rw [List.getElem?_mapIdx]
  show Option.map _ ((m.1 ++ (27, n) :: List.replicate n (20, k))[m.1.length + 1 + t]?) = _
  rw [List.getElem?_append_right (by omega), show m.1.length + 1 + t - m.1.length = t + 1 by omega, List.getElem?_cons_succ, List.getElem?_replicate, if_pos ht]
  have h9 : mm_next m ≤ 100 + (m.1.length + 1 + t) := by unfold mm_next; omega
  have e1 : (mm_new2 m n k).2.2.1 (100 + (m.1.length + 1 + t)) = fun _ => 0 := mm_cl_hi h9
  show some (ad (100 + (m.1.length + 1 + t)), mm_cc ((mm_new2 m n k).2.2.1 (100 + (m.1.length + 1 + t))) _ _ ad cA (20, k)) = _
  rw [e1]
  unfold mm_cc
  rw [if_neg (show ¬ (20 : Nat) < 20 by decide), if_neg (show ¬ (20 : Nat) = 21 by decide), if_neg (show ¬ 24 ≤ (20 : Nat) by decide)]
  have e9 : 100 + (m.1.length + 1 + t) = mm_next m + 1 + t := by unfold mm_next; omega
  rw [e9]
theorem mm_n2_out {m : mm_M} {n k : Nat} {ad : Nat → Nat} {cA : Nat → ClassId} {i : Nat} (hi : m.1.length + 1 + n ≤ i) : (mm_ws (mm_new2 m n k) ad cA)[i]? = none := by
  apply List.getElem?_eq_none
  unfold mm_ws
  rw [List.length_mapIdx]
  show (m.1 ++ (27, n) :: List.replicate n (20, k)).length ≤ i
  rw [List.length_append, List.length_cons, List.length_replicate]
  omega
theorem mm_nc_new2 (m : mm_M) (n k : Nat) : mm_nc (mm_new2 m n k) = mm_nc m + 1 + n := by
  unfold mm_nc
  show (m.1 ++ (27, n) :: List.replicate n (20, k)).length + m.2.1.1 = _
  rw [List.length_append, List.length_cons, List.length_replicate]
  omega
theorem mm_ns_new2 (m : mm_M) (n k : Nat) : mm_ns (mm_new2 m n k) = mm_ns m + n + n * k := by
  unfold mm_ns
  show ((m.1 ++ (27, n) :: List.replicate n (20, k)).map mm_sz).sum + 100 * m.2.1.1 = _
  rw [List.map_append, List.sum_append, List.map_cons, List.sum_cons, List.map_replicate, List.sum_replicate_nat]
  show (m.1.map mm_sz).sum + (n + n * k) + 100 * m.2.1.1 = _
  omega
section SO5
variable {p : Program} {l : Launch} {e : Env} {R : Room} {s : State} {mid : MethodId} {args : Array Value} {below : List Frame} {meth : Method} {c : Code} {Q : State → Prop} {D : va_G} {cA : Nat → ClassId} {N0 : Nat} {sp : Nat → Nat} {j nb sb : Nat}
variable {H : Heap} {locs : List Loc} {cells slots pc : Nat} {ls : Array Slot} {L : mm_L} {S : List Value} {m : mm_M} {q : Nat × mm_L × List Value × mm_M}
theorem mm_outer1 (c : ClassId) (N h0 : Nat) : ∀ i : Nat, Jvm.Free.Multi.outerC c N h0 i = arrV c N (fun j => va_rf (if j < i then some (h0 + 1 + j) else none))
  | 0 => by
    show ({ cls := c, slots := Array.replicate N .null, vm := .none } : Cell) = _
    rw [arrV_new]
    refine congrArg (arrV c N) (funext fun j => ?_)
    simp [va_rf]
  | i + 1 => by
    show (Jvm.Free.Multi.outerC c N h0 i).setSlot i (.ref (h0 + 1 + i)) = _
    rw [mm_outer1 c N h0 i, arrV_store]
    refine congrArg (arrV c N) (funext fun j => ?_)
    by_cases e : j = i
    · subst e
      simp [updV, va_rf]
    · by_cases h : j < i
      · simp [updV, e, h, Nat.lt_succ_of_lt h]
      · simp [updV, e, h, show ¬ j < i + 1 by omega]
theorem va_AO2 {A : Array Value} {U : State} (h : (Cond.arrayOver (.array .int)).before #[] U = true) : (Cond.arrayOver (.array .int)).before A U = true := h
theorem mm_outer (c : ClassId) (N h0 : Nat) : Jvm.Free.Multi.outerC c N h0 N = arrV c N (fun j => va_rf (if j < N then some (h0 + 1 + j) else none)) := mm_outer1 c N h0 N
theorem mm_inner (c : ClassId) (N : Nat) : Jvm.Free.Multi.innerC c N (defaultValue .int) = arrV c N (fun _ => .int 0) := arrV_new c N (.int 0)
theorem so_multi {ix : Nat} (C : mm_Cx p s mid args meth c R j D cA N0 sp nb) (hd : decode (mm_b j) pc = .ok (.multianewarray ix 2, 4)) (hk : mm_n2.contains (mm_ow j, ix) = true) (hst : mm_nw2 (pc + 4) L S m = some (.inl q)) (hrm : mm_nc q.2.2.2 ≤ nb + R.cells) (hrs : mm_ns q.2.2.2 ≤ sb + R.slots) (hH : mm_Hp D cA N0 sp m s H) (hS : va_S (fun x => N0 ≤ x) s.heap H locs) (hL : mm_LS (mm_ad N0 sp) (mm_mx j) ls L) (hc : mm_nc m = nb + cells) (hsl : mm_ns m = sb + slots) (kk : mm_KK p l e R s mid args below meth c Q D cA N0 sp j nb sb q) : W p l e R s mid args below meth c H locs cells slots Q (F0 mid pc ls (S.map (mm_tr (mm_ad N0 sp)))) := by
  obtain ⟨hx, hb, hml, hown, hts, hnm, hAt, hR, hN, hz⟩ := C
  unfold mm_nw2 at hst
  split at hst
  · next k n r =>
    split at hst
    · next hn =>
      cases hst
      obtain ⟨hn1, hn2, hn3, hn4, h0⟩ := hn
      intro T hT X
      have hsz := mm_size hz hH hN hS hc h0 hT X
      dsimp only at hrm hrs
      rw [mm_nc_new2] at hrm
      rw [mm_ns_new2] at hrs
      have hb2 : k.toNatClampNeg * componentBytes .int ≤ 536870912 := Nat.le_trans (Nat.mul_le_mul hn4 (show componentBytes .int ≤ 8 by decide)) (by decide)
      have hw0 : Cond.classLink (mm_cn (mm_ow j)) ix "[[I" ∈ mm_g := mm_g_in (mm_n2_w _ (List.contains_iff_mem.mp hk)) rfl
      obtain ⟨vm₁, cA2, comp, -, fA, fC, hO, -, X', step⟩ := X.multianewarray2F (ty := .int) hx hown (hts _ hw0) (va_AO2 hAt.2.2.2.2.2.2.1) (hts _ mm_w_ai) (g := F0 mid pc ls ((Value.int k :: Value.int n :: r).map (mm_tr (mm_ad N0 sp)))) rfl (by rw [hb]; exact hd) (n := n) (k := k) (rest := r.map (mm_tr (mm_ad N0 sp))) rfl hn1 hn2 (by omega) hb2 (by omega) rfl rfl (by omega) (by omega)
      have hTh : (T.setVm vm₁).heap = H := hT
      have hg2 : cA2 = cA 27 := Option.some.inj (fA.symm.trans (hAt.1.2 _ _ (mm_tys_get cA 27 (by decide) (by decide))).2)
      have hg0 : comp = cA 20 := Option.some.inj (fC.symm.trans (hAt.1.2 _ _ (mm_tys_get cA 20 (by decide) (by decide))).2)
      subst hg2
      subst hg0
      generalize hF : Jvm.Free.Multi.fill (T.setVm vm₁) (cA 27) (cA 20) n.toNatClampNeg k.toNatClampNeg (defaultValue .int) n.toNatClampNeg = F at X' step
      obtain ⟨f1, f2, -, -⟩ := Jvm.Free.Multi.fill_facts (T.setVm vm₁) (cA 27) (cA 20) n.toNatClampNeg k.toNatClampNeg (defaultValue .int) n.toNatClampNeg
      rw [hF, hTh] at f1 f2
      have hold : ∀ x : Nat, x < H.size → F.heap[x]? = H[x]? := fun x hx => by
        have := Jvm.Free.Multi.fill_old (T.setVm vm₁) (cA 27) (cA 20) n.toNatClampNeg k.toNatClampNeg (defaultValue .int) (a := x) (by rw [hTh]; exact hx) n.toNatClampNeg
        rw [hF, hTh] at this
        exact this
      have hrow : ∀ t : Nat, t < n.toNatClampNeg → F.heap[H.size + 1 + t]? = some (Jvm.Free.Multi.innerC (cA 20) k.toNatClampNeg (defaultValue .int)) := fun t ht => by
        have := Jvm.Free.Multi.fill_inner (T.setVm vm₁) (cA 27) (cA 20) n.toNatClampNeg k.toNatClampNeg (defaultValue .int) n.toNatClampNeg t ht
        rw [hF, hTh] at this
        exact this
      have hS1 : va_S (fun x => N0 ≤ x) s.heap F.heap locs := ⟨Nat.le_trans hS.1 (by omega), fun x h1 h2 => (hold x (Nat.lt_of_lt_of_le h1 hS.1)).trans (hS.2.1 x h1 h2), hS.2.2⟩
      have had : ∀ t : Nat, mm_ad N0 sp (mm_next m + t) = H.size + t := fun t => by rw [mm_ad_hi (by unfold mm_next; omega), hsz]; unfold mm_next; omega
      have hP1 : va_P D vwCl (mm_ws (mm_new2 m n.toNatClampNeg k.toNatClampNeg) (mm_ad N0 sp) cA) F.heap := by
        intro i x hx
        by_cases hi : i < m.1.length
        · rw [mm_n2_lo hi] at hx
          exact (hH.1 i x hx).kept (hold x.1 ((hH.1 i x hx).lt))
        · by_cases he : i = m.1.length
          · subst he
            rw [mm_n2_at] at hx
            cases hx
            show F.heap[mm_ad N0 sp (mm_next m)]? = some (vp_cell _ _)
            rw [show mm_ad N0 sp (mm_next m) = H.size from had 0, f2, vp_cell_q, mm_outer]
            congr 2
            funext t
            by_cases ht : t < n.toNatClampNeg
            · simp only [if_pos ht]
              rw [show mm_next m + 1 + t = mm_next m + (1 + t) by omega, had, show H.size + (1 + t) = H.size + 1 + t by omega]
            · simp only [if_neg ht]
          · by_cases hl : i < m.1.length + 1 + n.toNatClampNeg
            · obtain ⟨t, rfl⟩ : ∃ t, i = m.1.length + 1 + t := ⟨i - (m.1.length + 1), by omega⟩
              rw [mm_n2_in (by omega)] at hx
              cases hx
              show F.heap[mm_ad N0 sp (mm_next m + 1 + t)]? = some (vp_cell _ _)
              rw [show mm_next m + 1 + t = mm_next m + (1 + t) by omega, had, show H.size + (1 + t) = H.size + 1 + t by omega, hrow t (by omega), vp_cell_i, mm_inner]
            · rw [mm_n2_out (by omega)] at hx
              cases hx
      have k9 := kk F.heap locs ls (cells + 1 + n.toNatClampNeg) (slots + n.toNatClampNeg + n.toNatClampNeg * k.toNatClampNeg) (hH.to hN hS hS1 hP1 rfl (mm_cl_lo (by unfold mm_next; omega)) (by funext t; show (if 99 = mm_next m then _ else mm_cl m.2.2.2.2 (mm_next m) none 99 t) = _; rw [if_neg (by unfold mm_next; omega), mm_cl_lo (by unfold mm_next; omega)])) hS1 hL (by dsimp only; rw [mm_nc_new2]; omega) (by dsimp only; rw [mm_ns_new2]; omega)
      have e9 : mm_ad N0 sp (mm_next m) = T.heap.size := by rw [hT]; exact had 0
      simp only [List.map_cons, mm_tr, e9] at k9
      obtain ⟨t, a1, b1⟩ := k9 F rfl X'
      exact ⟨t, step t a1, b1⟩
    · cases hst
  · cases hst
theorem so_objinit {ix : Nat} (C : mm_Cx p s mid args meth c R j D cA N0 sp nb) (hd : decode (mm_b j) pc = .ok (.invokespecial ix, 3)) (hk : mm_pm.contains (mm_ow j, ix, 4) = true) (hst : mm_prim 4 (pc + 3) L S m = some (.inl q)) (hrm : mm_nc q.2.2.2 ≤ nb + R.cells) (hrs : mm_ns q.2.2.2 ≤ sb + R.slots) (hH : mm_Hp D cA N0 sp m s H) (hS : va_S (fun x => N0 ≤ x) s.heap H locs) (hL : mm_LS (mm_ad N0 sp) (mm_mx j) ls L) (hc : mm_nc m = nb + cells) (hsl : mm_ns m = sb + slots) (kk : mm_KK p l e R s mid args below meth c Q D cA N0 sp j nb sb q) : W p l e R s mid args below meth c H locs cells slots Q (F0 mid pc ls (S.map (mm_tr (mm_ad N0 sp)))) := by
  obtain ⟨hx, hb, hml, hown, hts, hnm, hAt, hR, hN, hz⟩ := C
  unfold mm_prim at hst
  rw [if_pos (by decide)] at hst
  split at hst
  · next a r =>
    split at hst
    · next hs =>
      cases hst
      have hrm2 := lv_room (m := mid) (pc := pc) (ls := ls) (rest := (Value.ref a :: r).map (mm_tr (mm_ad N0 sp))) (st := r.map (mm_tr (mm_ad N0 sp))) (by rw [mm_tr_sum]; exact hs.2)
      refine W.objInit (a := mm_ad N0 sp a) (rest := r.map (mm_tr (mm_ad N0 sp))) hx hb hown (hts _ (mm_g_in (mm_pm_w _ (List.contains_iff_mem.mp hk)) rfl)) (hts _ mm_w_oi) (hts _ mm_w_oc) rfl (by rw [hml]; exact hL.2.1) rfl hd hR.1 (by have := hR.2; omega) ?_
      exact kk _ _ _ _ _ hH hS hL hc hsl
    · cases hst
  · cases hst
theorem so_mmax {ix : Nat} (C : mm_Cx p s mid args meth c R j D cA N0 sp nb) (hd : decode (mm_b j) pc = .ok (.invokestatic ix, 3)) (hk : mm_pm.contains (mm_ow j, ix, 10) = true) (hst : mm_prim 10 (pc + 3) L S m = some (.inl q)) (hrm : mm_nc q.2.2.2 ≤ nb + R.cells) (hrs : mm_ns q.2.2.2 ≤ sb + R.slots) (hH : mm_Hp D cA N0 sp m s H) (hS : va_S (fun x => N0 ≤ x) s.heap H locs) (hL : mm_LS (mm_ad N0 sp) (mm_mx j) ls L) (hc : mm_nc m = nb + cells) (hsl : mm_ns m = sb + slots) (kk : mm_KK p l e R s mid args below meth c Q D cA N0 sp j nb sb q) : W p l e R s mid args below meth c H locs cells slots Q (F0 mid pc ls (S.map (mm_tr (mm_ad N0 sp)))) := by
  obtain ⟨hx, hb, hml, hown, hts, hnm, hAt, hR, hN, hz⟩ := C
  unfold mm_prim at hst
  rw [if_neg (by decide)] at hst
  rw [if_pos (by decide)] at hst
  split at hst
  · next y x r =>
    split at hst
    · next hs =>
      cases hst
      have hs2 : ((r.map (mm_tr (mm_ad N0 sp))).map fun v => v.category).sum ≤ 8 := by rw [mm_tr_sum]; exact hs
      dsimp only at hrm hrs
      refine va_mmax (rest := r.map (mm_tr (mm_ad N0 sp))) hx hb (by rw [hml]; exact hL.2.1.symm) hown (hts _ (mm_g_in (mm_pm_w _ (List.contains_iff_mem.mp hk)) rfl)) (hts _ mm_w_mxs) (hts _ mm_w_mi) (hts _ mm_w_mxc) hR.1 (by have := hR.2; omega) (by omega) (by omega) hd ?_
      exact kk _ _ _ _ _ hH hS hL hc hsl
    · cases hst
  · cases hst
theorem so_mmin {ix : Nat} (C : mm_Cx p s mid args meth c R j D cA N0 sp nb) (hd : decode (mm_b j) pc = .ok (.invokestatic ix, 3)) (hk : mm_pm.contains (mm_ow j, ix, 11) = true) (hst : mm_prim 11 (pc + 3) L S m = some (.inl q)) (hrm : mm_nc q.2.2.2 ≤ nb + R.cells) (hrs : mm_ns q.2.2.2 ≤ sb + R.slots) (hH : mm_Hp D cA N0 sp m s H) (hS : va_S (fun x => N0 ≤ x) s.heap H locs) (hL : mm_LS (mm_ad N0 sp) (mm_mx j) ls L) (hc : mm_nc m = nb + cells) (hsl : mm_ns m = sb + slots) (kk : mm_KK p l e R s mid args below meth c Q D cA N0 sp j nb sb q) : W p l e R s mid args below meth c H locs cells slots Q (F0 mid pc ls (S.map (mm_tr (mm_ad N0 sp)))) := by
  obtain ⟨hx, hb, hml, hown, hts, hnm, hAt, hR, hN, hz⟩ := C
  unfold mm_prim at hst
  rw [if_neg (by decide)] at hst
  rw [if_neg (by decide)] at hst
  rw [if_pos (by decide)] at hst
  split at hst
  · next y x r =>
    split at hst
    · next hs =>
      cases hst
      have hs2 : ((r.map (mm_tr (mm_ad N0 sp))).map fun v => v.category).sum ≤ 8 := by rw [mm_tr_sum]; exact hs
      dsimp only at hrm hrs
      refine va_mmin (rest := r.map (mm_tr (mm_ad N0 sp))) hx hb (by rw [hml]; exact hL.2.1.symm) hown (hts _ (mm_g_in (mm_pm_w _ (List.contains_iff_mem.mp hk)) rfl)) (hts _ mm_w_mns) (hts _ mm_w_mi) (hts _ mm_w_mnc) hR.1 (by have := hR.2; omega) (by omega) (by omega) hd ?_
      exact kk _ _ _ _ _ hH hS hL hc hsl
    · cases hst
  · cases hst
theorem so_mabs {ix : Nat} (C : mm_Cx p s mid args meth c R j D cA N0 sp nb) (hd : decode (mm_b j) pc = .ok (.invokestatic ix, 3)) (hk : mm_pm.contains (mm_ow j, ix, 12) = true) (hst : mm_prim 12 (pc + 3) L S m = some (.inl q)) (hrm : mm_nc q.2.2.2 ≤ nb + R.cells) (hrs : mm_ns q.2.2.2 ≤ sb + R.slots) (hH : mm_Hp D cA N0 sp m s H) (hS : va_S (fun x => N0 ≤ x) s.heap H locs) (hL : mm_LS (mm_ad N0 sp) (mm_mx j) ls L) (hc : mm_nc m = nb + cells) (hsl : mm_ns m = sb + slots) (kk : mm_KK p l e R s mid args below meth c Q D cA N0 sp j nb sb q) : W p l e R s mid args below meth c H locs cells slots Q (F0 mid pc ls (S.map (mm_tr (mm_ad N0 sp)))) := by
  obtain ⟨hx, hb, hml, hown, hts, hnm, hAt, hR, hN, hz⟩ := C
  unfold mm_prim at hst
  rw [if_neg (by decide)] at hst
  rw [if_neg (by decide)] at hst
  rw [if_neg (by decide)] at hst
  rw [if_pos (by decide)] at hst
  split at hst
  · next x r =>
    split at hst
    · next hs =>
      cases hst
      have hs2 : ((r.map (mm_tr (mm_ad N0 sp))).map fun v => v.category).sum ≤ 8 := by rw [mm_tr_sum]; exact hs
      dsimp only at hrm hrs
      refine va_mabs (rest := r.map (mm_tr (mm_ad N0 sp))) hx hb (by rw [hml]; exact hL.2.1.symm) hown (hts _ (mm_g_in (mm_pm_w _ (List.contains_iff_mem.mp hk)) rfl)) (hts _ mm_w_abs) (hts _ mm_w_mi) (hts _ mm_w_abc) hR.1 (by have := hR.2; omega) (by omega) (by omega) hd ?_
      exact kk _ _ _ _ _ hH hS hL hc hsl
    · cases hst
  · cases hst
theorem so_acopy {ix : Nat} (C : mm_Cx p s mid args meth c R j D cA N0 sp nb) (hd : decode (mm_b j) pc = .ok (.invokestatic ix, 3)) (hk : mm_pm.contains (mm_ow j, ix, 13) = true) (hst : mm_prim 13 (pc + 3) L S m = some (.inl q)) (hrm : mm_nc q.2.2.2 ≤ nb + R.cells) (hrs : mm_ns q.2.2.2 ≤ sb + R.slots) (hH : mm_Hp D cA N0 sp m s H) (hS : va_S (fun x => N0 ≤ x) s.heap H locs) (hL : mm_LS (mm_ad N0 sp) (mm_mx j) ls L) (hc : mm_nc m = nb + cells) (hsl : mm_ns m = sb + slots) (kk : mm_KK p l e R s mid args below meth c Q D cA N0 sp j nb sb q) : W p l e R s mid args below meth c H locs cells slots Q (F0 mid pc ls (S.map (mm_tr (mm_ad N0 sp)))) := by
  obtain ⟨hx, hb, hml, hown, hts, hnm, hAt, hR, hN, hz⟩ := C
  unfold mm_prim at hst
  rw [if_neg (by decide)] at hst
  rw [if_neg (by decide)] at hst
  rw [if_neg (by decide)] at hst
  rw [if_neg (by decide)] at hst
  rw [if_pos (by decide)] at hst
  split at hst
  · next n dp b spp a r =>
    split at hst
    · next sh sq hsh hsq =>
      split at hst
      · next hs =>
        cases hst
        obtain ⟨ha, hbb, hs1, hs2, h1, h2, h3, h4, h5, hs⟩ := hs
        have hs9 : ((r.map (mm_tr (mm_ad N0 sp))).map fun v => v.category).sum ≤ 8 := by rw [mm_tr_sum]; exact hs
        obtain ⟨-, hm1⟩ := mm_sh_hi hsh (fun z => by rw [z] at ha; exact absurd ha (by decide)) (by omega)
        obtain ⟨-, hm2⟩ := mm_sh_hi hsq (fun z => by rw [z] at hbb; exact absurd hbb (by decide)) (by omega)
        have hg1 := mm_ws_get (ad := mm_ad N0 sp) (cA := cA) ha hm1
        have hg2 := mm_ws_get (ad := mm_ad N0 sp) (cA := cA) hbb hm2
        rw [mm_cel_in (by omega), hs1] at hg1
        rw [mm_cel_in (by omega), hs2] at hg2
        refine va_copyi (ty := .int) (rest := r.map (mm_tr (mm_ad N0 sp))) hx hb (by rw [hml]; exact hL.2.1.symm) hown (hts _ (mm_g_in (mm_pm_w _ (List.contains_iff_mem.mp hk)) rfl)) (hts _ mm_w_cpn) (hts _ mm_w_cps) (hts _ mm_w_si) hAt.1 hH.1 (mm_ws_D m N0 sp cA) hS (a - 100) (b - 100) 0 0 hg1 hg2 rfl rfl rfl h1 h2 h3 h4 h5 (fun _ _ => rfl) hR.1 (by have := hR.2; have : nativeFrameWords "java/lang/System" "arraycopy" 5 ≤ 60 := (by decide); omega) hd (fun H1 locs1 hP1 _ hS1 => ?_)
        refine mm_after (m' := mm_cp m a spp.toNatClampNeg b dp.toNatClampNeg n.toNatClampNeg) hN hbb hm2 rfl rfl ?_ ?_ hH hS hL hc hsl kk hP1 hS1
        · rw [mm_cel_in (by omega), hs2]
          congr 4
          funext t
          show va_cpy _ _ _ _ _ t = if b = b ∧ _ then _ else _
          unfold va_cpy
          by_cases ht : dp.toNatClampNeg ≤ t ∧ t < dp.toNatClampNeg + n.toNatClampNeg
          · rw [if_pos ht, if_pos ⟨rfl, ht⟩]; rfl
          · rw [if_neg ht, if_neg (fun z => ht z.2)]
        · intro d hd2
          refine ⟨?_, rfl, rfl⟩
          funext t
          show (if d = b ∧ _ then _ else _) = _
          rw [if_neg (fun z => hd2 z.1)]
      · cases hst
    · cases hst
  · cases hst
end SO5
