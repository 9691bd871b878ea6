theorem mm_w_ai : Cond.arrayClass .int ∈ mm_g := mm_g_in (List.mem_of_getElem? (i := 298) (by decide +kernel)) (by decide +kernel)
theorem mm_w_al : Cond.arrayClass .long ∈ mm_g := mm_g_in (List.mem_of_getElem? (i := 255) (by decide +kernel)) (by decide +kernel)
theorem mm_w_az : Cond.arrayClass .boolean ∈ mm_g := mm_g_in (List.mem_of_getElem? (i := 1660) (by decide +kernel)) (by decide +kernel)
theorem mm_w_ac : Cond.arrayClass .char ∈ mm_g := mm_g_in (List.mem_of_getElem? (i := 254) (by decide +kernel)) (by decide +kernel)
theorem mm_w_oi : Cond.instanceMethod Lib.objectInit ∈ mm_g := mm_g_in (List.mem_of_getElem? (i := 166) (by decide +kernel)) (by decide +kernel)
theorem mm_w_oc : Cond.code Lib.objectInit ⟨#[0xb1]⟩ 1 none ∈ mm_g := mm_g_in (List.mem_of_getElem? (i := 167) (by decide +kernel)) (by decide +kernel)
theorem mm_w_mi : Cond.initialized "java/lang/Math" ∈ mm_g := mm_g_in (List.mem_of_getElem? (i := 151) (by decide +kernel)) (by decide +kernel)
theorem mm_w_si : Cond.initialized "java/lang/System" ∈ mm_g := mm_g_in (List.mem_of_getElem? (i := 154) (by decide +kernel)) (by decide +kernel)
theorem mm_w_mxs : Cond.static Lib.Math.max.name ∈ mm_g := mm_g_in (List.mem_of_getElem? (i := 789) (by decide +kernel)) (by decide +kernel)
theorem mm_w_mxc : Cond.code Lib.Math.max.name Lib.Math.max.code 2 (some .int) ∈ mm_g := mm_g_in (List.mem_of_getElem? (i := 790) (by decide +kernel)) (by decide +kernel)
theorem mm_w_mns : Cond.static Lib.Math.min.name ∈ mm_g := mm_g_in (List.mem_of_getElem? (i := 792) (by decide +kernel)) (by decide +kernel)
theorem mm_w_mnc : Cond.code Lib.Math.min.name Lib.Math.min.code 2 (some .int) ∈ mm_g := mm_g_in (List.mem_of_getElem? (i := 793) (by decide +kernel)) (by decide +kernel)
theorem mm_w_abs : Cond.static Lib.Math.abs.name ∈ mm_g := mm_g_in (List.mem_of_getElem? (i := 1099) (by decide +kernel)) (by decide +kernel)
theorem mm_w_abc : Cond.code Lib.Math.abs.name Lib.Math.abs.code 1 (some .int) ∈ mm_g := mm_g_in (List.mem_of_getElem? (i := 1100) (by decide +kernel)) (by decide +kernel)
theorem mm_w_cps : Cond.static arraycopyName ∈ mm_g := mm_g_in (List.mem_of_getElem? (i := 1059) (by decide +kernel)) (by decide +kernel)
theorem mm_w_cpn : Cond.native arraycopyName ∈ mm_g := mm_g_in (List.mem_of_getElem? (i := 1060) (by decide +kernel)) (by decide +kernel)
theorem mm_cl_lo {α : Type} {f : Nat → Nat → α} {a b : Nat} {v : α} (h : b < a) : mm_cl f a v b = f b := by
  funext k
  unfold mm_cl
  rw [if_neg (by omega)]
theorem mm_cl_hi {α : Type} {f : Nat → Nat → α} {a b : Nat} {v : α} (h : a ≤ b) : mm_cl f a v b = fun _ => v := by
  funext k
  unfold mm_cl
  rw [if_pos h]
/-- the cell of a new one -/
def mm_nl0 (ad : Nat → Nat) (cA : Nat → ClassId) (s : Nat × Nat) : va_E := mm_cc (fun _ => 0) (fun _ => 0) (fun _ => none) ad cA s
theorem mm_ws_new (m : mm_M) (s : Nat × Nat) (ad : Nat → Nat) (cA : Nat → ClassId) : mm_ws (mm_new m s) ad cA = mm_ws m ad cA ++ [(ad (100 + m.1.length), mm_nl0 ad cA s)] := by
  apply List.ext_getElem?
  intro i
  have hlen : (mm_ws m ad cA).length = m.1.length := List.length_mapIdx
  by_cases hi : i < m.1.length
  · rw [List.getElem?_append_left (by rw [hlen]; exact hi)]
    unfold mm_ws
    rw [List.getElem?_mapIdx, List.getElem?_mapIdx]
    show Option.map _ ((m.1 ++ [s])[i]?) = _
    rw [List.getElem?_append_left hi]
    have h9 : 100 + i < mm_next m := by unfold mm_next; omega
    show Option.map (fun s => (ad (100 + i), mm_cc (mm_cl m.2.2.1 (mm_next m) 0 (100 + i)) (mm_cl m.2.2.2.1 (mm_next m) 0 (100 + i)) (mm_cl m.2.2.2.2 (mm_next m) none (100 + i)) ad cA s)) _ = _
    rw [mm_cl_lo h9, mm_cl_lo h9, mm_cl_lo h9]
  · rw [List.getElem?_append_right (by rw [hlen]; omega), hlen]
    unfold mm_ws
    rw [List.getElem?_mapIdx]
    show Option.map _ ((m.1 ++ [s])[i]?) = _
    rw [List.getElem?_append_right (by omega)]
    by_cases he : i = m.1.length
    · subst he
      rw [Nat.sub_self]
      have h9 : mm_next m ≤ 100 + m.1.length := by unfold mm_next; omega
      show some (ad (100 + m.1.length), mm_cc (mm_cl m.2.2.1 (mm_next m) 0 (100 + m.1.length)) (mm_cl m.2.2.2.1 (mm_next m) 0 (100 + m.1.length)) (mm_cl m.2.2.2.2 (mm_next m) none (100 + m.1.length)) ad cA s) = _
      rw [mm_cl_hi h9, mm_cl_hi h9, mm_cl_hi h9]
      rfl
    · obtain ⟨k, hk⟩ : ∃ k, i - m.1.length = k + 1 := ⟨i - m.1.length - 1, by omega⟩
      rw [hk]
      rfl
section SO4
variable {p : Program} {l : Launch} {e : Env} {R : Room} {s : State} {mid : MethodId} {args : Array Value} {below : List Frame} {meth : Method} {c : Code} {Q : State → Prop} {D : va_G} {cA : Nat → ClassId} {N0 : Nat} {sp : Nat → Nat} {j nb sb : Nat}
variable {H : Heap} {locs : List Loc} {cells slots pc : Nat} {ls : Array Slot} {L : mm_L} {S : List Value} {m : mm_M} {q : Nat × mm_L × List Value × mm_M}
theorem mm_low (hH : mm_Hp D cA N0 sp m s H) (hN : N0 ≤ s.heap.size) (hS : va_S (fun x => N0 ≤ x) s.heap H locs) : N0 + m.1.length ≤ H.size := by
  cases hl : m.1.length with
  | zero => exact Nat.le_trans hN hS.1
  | succ n =>
    have hn : n < m.1.length := by omega
    have hg := mm_ws_get (m := m) (ad := mm_ad N0 sp) (cA := cA) (a := 100 + n) (s := m.1[n]) (by omega) (by rw [show 100 + n - 100 = n by omega]; exact List.getElem?_eq_getElem hn)
    have h1 := (hH.1 _ _ hg).lt
    have h2 : mm_ad N0 sp (100 + n) = N0 + n := by rw [mm_ad_hi (by omega)]; omega
    dsimp only at h1
    omega
/-- the heap's size, where nothing was thrown yet -/
theorem mm_size {T : State} (hz : s.heap.size ≤ N0 + nb) (hH : mm_Hp D cA N0 sp m s H) (hN : N0 ≤ s.heap.size) (hS : va_S (fun x => N0 ≤ x) s.heap H locs) (hc : mm_nc m = nb + cells) (h0 : m.2.1.1 = 0) (hT : T.heap = H) (X : Stand p l e R s mid args below meth c T locs cells slots) : H.size = N0 + m.1.length := by
  have h1 := mm_low hH hN hS
  have h2 := X.heapSize
  rw [hT] at h2
  unfold mm_nc at hc
  omega
/-- behind a new cell -/
theorem mm_made {H1 : Heap} {sh : Nat × Nat} {pc' n : Nat} {L' : mm_L} {r : List Value} (hN : N0 ≤ s.heap.size) (hH : mm_Hp D cA N0 sp m s H) (hS : va_S (fun x => N0 ≤ x) s.heap H locs) (hL : mm_LS (mm_ad N0 sp) (mm_mx j) ls L') (hc : mm_nc m = nb + cells) (hsl : mm_ns m = sb + slots) (hz : H.size = N0 + m.1.length) (hn : mm_sz sh = n)
    (z1 : H1.size = H.size + 1) (o1 : ∀ x : Nat, x < H.size → H1[x]? = H[x]?) (e1 : va_at D vwCl (H.size, mm_nl0 (mm_ad N0 sp) cA sh) H1) (kk : mm_KK p l e R s mid args below meth c Q D cA N0 sp j nb sb (pc', L', .ref (mm_next m) :: r, mm_new m sh)) :
    W p l e R s mid args below meth c H1 locs (cells + 1) (slots + n) Q (F0 mid pc' ls (.ref H.size :: r.map (mm_tr (mm_ad N0 sp)))) := by
  have hS1 : va_S (fun x => N0 ≤ x) s.heap H1 locs := ⟨Nat.le_trans hS.1 (by omega), fun x h1 h2 => (o1 x (Nat.lt_of_lt_of_le h1 hS.1)).trans (hS.2.1 x h1 h2), hS.2.2⟩
  have had : mm_ad N0 sp (mm_next m) = H.size := by rw [mm_ad_hi (by unfold mm_next; omega), hz]; unfold mm_next; omega
  have hP1 : va_P D vwCl (mm_ws (mm_new m sh) (mm_ad N0 sp) cA) H1 := by
    rw [mm_ws_new]
    refine (hH.1.kept (fun k x hx => o1 x.1 ((hH.1 k x hx).lt))).app (fun k x hx => ?_)
    have hk1 : k < 1 := (List.getElem?_eq_some_iff.mp hx).1
    rw [show k = 0 by omega] at hx
    cases hx
    have e9 : mm_ad N0 sp (100 + m.1.length) = H.size := had
    rw [e9]
    exact e1
  have k9 := kk H1 locs ls (cells + 1) (slots + n) (hH.to hN hS hS1 hP1 rfl (mm_cl_lo (by unfold mm_next; omega)) (mm_cl_lo (by unfold mm_next; omega))) hS1 hL (by
    unfold mm_nc at hc ⊢
    show (m.1 ++ [sh]).length + m.2.1.1 = _
    rw [List.length_append]
    show m.1.length + 1 + m.2.1.1 = _
    omega) (by
    unfold mm_ns at hsl ⊢
    show ((m.1 ++ [sh]).map mm_sz).sum + 100 * m.2.1.1 = _
    rw [List.map_append, List.sum_append]
    show (m.1.map mm_sz).sum + (mm_sz sh + 0) + 100 * m.2.1.1 = _
    omega)
  simp only [List.map_cons, mm_tr, had] at k9
  exact k9
theorem mm_nl0_ob {ad : Nat → Nat} {cA : Nat → ClassId} {ci n : Nat} (h : ci < 20) : mm_nl0 ad cA (ci, n) = .inr (ci, (mm_ft ci).mapIdx (fun k ty => mm_fc (fun _ => 0) (fun _ => 0) (fun _ => none) ad k ty)) := by
  unfold mm_nl0 mm_cc
  rw [if_pos h]
theorem mm_nc_new (m : mm_M) (sh : Nat × Nat) : mm_nc (mm_new m sh) = mm_nc m + 1 := by
  unfold mm_nc
  show (m.1 ++ [sh]).length + m.2.1.1 = _
  rw [List.length_append]
  show m.1.length + 1 + m.2.1.1 = _
  omega
theorem mm_ns_new (m : mm_M) (sh : Nat × Nat) : mm_ns (mm_new m sh) = mm_ns m + mm_sz sh := by
  unfold mm_ns
  show ((m.1 ++ [sh]).map mm_sz).sum + 100 * m.2.1.1 = _
  rw [List.map_append, List.sum_append]
  show (m.1.map mm_sz).sum + (mm_sz sh + 0) + 100 * m.2.1.1 = _
  omega
theorem mm_is_in : ∀ ci : Nat, ci < 13 → ci ∈ mm_is := by decide +kernel
theorem mm_ini_in : ∀ ci : Nat, ci < 14 → ci ∈ mm_ini := by decide +kernel
theorem so_new {ix r1 : Nat} (C : mm_Cx p s mid args meth c R j D cA N0 sp nb) (hd : decode (mm_b j) pc = .ok (.new ix, 3)) (hk : r1 = 99 ∨ (mm_nw.contains (mm_ow j, ix, r1) = true ∧ r1 < 13)) (hst : (if r1 = 99 then mm_thr S else if m.2.1.1 = 0 then mm_nx (pc + 3) L (.ref (mm_next m) :: S) (mm_new m (r1, 0)) else none : Option mm_O) = some (.inl q)) (hrm : mm_nc q.2.2.2 ≤ nb + R.cells) (hrs : mm_ns q.2.2.2 ≤ sb + R.slots) (hH : mm_Hp D cA N0 sp m s H) (hS : va_S (fun x => N0 ≤ x) s.heap H locs) (hL : mm_LS (mm_ad N0 sp) (mm_mx j) ls L) (hc : mm_nc m = nb + cells) (hsl : mm_ns m = sb + slots) (kk : mm_KK p l e R s mid args below meth c Q D cA N0 sp j nb sb q) : W p l e R s mid args below meth c H locs cells slots Q (F0 mid pc ls (S.map (mm_tr (mm_ad N0 sp)))) := by
  obtain ⟨hx, hb, hml, hown, hts, hnm, hAt, hR, hN, hz⟩ := C
  split at hst
  · unfold mm_thr at hst
    split at hst <;> cases hst
  · next h99 =>
    split at hst
    · next h0 =>
      cases hst
      obtain ⟨hk1, hci⟩ : mm_nw.contains (mm_ow j, ix, r1) = true ∧ r1 < 13 := hk.resolve_left h99
      intro T hT X
      have hsz := mm_size hz hH hN hS hc h0 hT X
      have hKn := hAt.1.1 r1 _ (mm_vw r1 hci)
      have hsm : mm_sz (r1, 0) = (mm_ft r1).length := if_pos (show r1 < 20 by omega)
      dsimp only at hrm hrs
      rw [mm_nc_new] at hrm
      rw [mm_ns_new, hsm] at hrs
      refine (W.newcK hx hb hown (hts _ (mm_g_in (mm_nw_w _ (List.contains_iff_mem.mp hk1)) rfl)) (hts _ (mm_g_in (mm_is_w r1 (mm_is_in r1 hci)) rfl)) (hts _ (mm_g_in (mm_ini_w r1 (mm_ini_in r1 (by omega))) rfl)) rfl hd (by omega) (by omega) hKn.2.1 rfl (fun H1 kC hkC e1 z1 o1 => ?_) : W p l e R s mid args below meth c H locs cells slots Q (F0 mid pc ls (S.map (mm_tr (mm_ad N0 sp))))) T hT X
      refine mm_made hN hH hS hL hc hsl hsz hsm z1 o1 ?_ kk
      rw [mm_nl0_ob (by omega)]
      refine ⟨_, mm_vw r1 hci, (u_born (mm_ty r1) hts (mm_uin r1 hci) hKn hkC e1 (mm_tyd r1 hci)).to (fun k hk => ?_)⟩
      have hkk : (mm_ft r1)[k]? = some (mm_ft r1)[k] := List.getElem?_eq_getElem hk
      have hty := mm_tyk hkk
      show defaultValue (mm_ty r1 k) = List.getD _ _ _
      rw [List.getD_eq_getElem?_getD, List.getElem?_mapIdx, hkk]
      rw [Option.map_some, Option.getD_some]
      generalize (mm_ft r1)[k] = kd at hty
      generalize mm_ty r1 k = t at hty
      unfold mm_kty at hty
      unfold mm_fc
      by_cases h0 : kd = 0
      · subst h0; have e9 : t = .int := by simpa using hty
        subst e9; rfl
      · by_cases h1 : kd = 1
        · subst h1; have e9 : t = .long := by simpa using hty
          subst e9; rfl
        · by_cases h3 : kd = 3
          · subst h3; have e9 : t = .boolean := by simpa using hty
            subst e9; rfl
          · rw [if_neg h0, if_neg h1, if_neg h3] at hty
            simp only [Bool.and_eq_true, decide_eq_true_eq] at hty
            obtain ⟨h2, h9⟩ := hty
            subst h2
            cases t <;> first | rfl | cases h9
    · cases hst
theorem so_nwa_i (C : mm_Cx p s mid args meth c R j D cA N0 sp nb) (hd : decode (mm_b j) pc = .ok (.newarray .int, 2)) (hst : mm_nwa 20 (pc + 2) L S m = some (.inl q)) (hrm : mm_nc q.2.2.2 ≤ nb + R.cells) (hrs : mm_ns q.2.2.2 ≤ sb + R.slots) (hH : mm_Hp D cA N0 sp m s H) (hS : va_S (fun x => N0 ≤ x) s.heap H locs) (hL : mm_LS (mm_ad N0 sp) (mm_mx j) ls L) (hc : mm_nc m = nb + cells) (hsl : mm_ns m = sb + slots) (kk : mm_KK p l e R s mid args below meth c Q D cA N0 sp j nb sb q) : W p l e R s mid args below meth c H locs cells slots Q (F0 mid pc ls (S.map (mm_tr (mm_ad N0 sp)))) := by
  obtain ⟨hx, hb, hml, hown, hts, hnm, hAt, hR, hN, hz⟩ := C
  unfold mm_nwa at hst
  split at hst
  · next n r =>
    split at hst
    · next hn =>
      cases hst
      obtain ⟨hn1, hn2, h0⟩ := hn
      intro T hT X
      have hsz := mm_size hz hH hN hS hc h0 hT X
      have hsm : mm_sz (20, n.toNatClampNeg) = n.toNatClampNeg := if_neg (show ¬ (20 : Nat) < 20 by decide)
      dsimp only at hrm hrs
      rw [mm_nc_new] at hrm
      rw [mm_ns_new, hsm] at hrs
      have hcb : componentBytes (newarray.typeOf .int) ≤ 8 := by decide
      have hbb : n.toNatClampNeg * componentBytes (newarray.typeOf .int) ≤ 536870912 := Nat.le_trans (Nat.mul_le_mul hn2 hcb) (by decide)
      refine (va_newaK (atype := .int) (g := F0 mid pc ls ((Value.int n :: r).map (mm_tr (mm_ad N0 sp)))) hx hb (hts _ mm_w_ai) rfl hd (n := n) (N := n.toNatClampNeg) (rest := r.map (mm_tr (mm_ad N0 sp))) rfl hn1 rfl hbb (by omega) (by omega) rfl (fun H1 cA2 e1 z1 o1 hAr hNm => ?_) : W p l e R s mid args below meth c H locs cells slots Q (F0 mid pc ls ((Value.int n :: r).map (mm_tr (mm_ad N0 sp))))) T hT X
      have hcA : cA2 = cA 20 := Option.some.inj (hNm.symm.trans (hAt.1.2 _ _ (mm_tys_get cA 20 (by decide) (by decide))).2)
      subst hcA
      exact mm_made (sh := (20, n.toNatClampNeg)) hN hH hS hL hc hsl hsz hsm z1 o1 e1 kk
    · cases hst
  · cases hst
theorem so_nwa_l (C : mm_Cx p s mid args meth c R j D cA N0 sp nb) (hd : decode (mm_b j) pc = .ok (.newarray .long, 2)) (hst : mm_nwa 21 (pc + 2) L S m = some (.inl q)) (hrm : mm_nc q.2.2.2 ≤ nb + R.cells) (hrs : mm_ns q.2.2.2 ≤ sb + R.slots) (hH : mm_Hp D cA N0 sp m s H) (hS : va_S (fun x => N0 ≤ x) s.heap H locs) (hL : mm_LS (mm_ad N0 sp) (mm_mx j) ls L) (hc : mm_nc m = nb + cells) (hsl : mm_ns m = sb + slots) (kk : mm_KK p l e R s mid args below meth c Q D cA N0 sp j nb sb q) : W p l e R s mid args below meth c H locs cells slots Q (F0 mid pc ls (S.map (mm_tr (mm_ad N0 sp)))) := by
  obtain ⟨hx, hb, hml, hown, hts, hnm, hAt, hR, hN, hz⟩ := C
  unfold mm_nwa at hst
  split at hst
  · next n r =>
    split at hst
    · next hn =>
      cases hst
      obtain ⟨hn1, hn2, h0⟩ := hn
      intro T hT X
      have hsz := mm_size hz hH hN hS hc h0 hT X
      have hsm : mm_sz (21, n.toNatClampNeg) = n.toNatClampNeg := if_neg (show ¬ (21 : Nat) < 20 by decide)
      dsimp only at hrm hrs
      rw [mm_nc_new] at hrm
      rw [mm_ns_new, hsm] at hrs
      have hcb : componentBytes (newarray.typeOf .long) ≤ 8 := by decide
      have hbb : n.toNatClampNeg * componentBytes (newarray.typeOf .long) ≤ 536870912 := Nat.le_trans (Nat.mul_le_mul hn2 hcb) (by decide)
      refine (va_newaK (atype := .long) (g := F0 mid pc ls ((Value.int n :: r).map (mm_tr (mm_ad N0 sp)))) hx hb (hts _ mm_w_al) rfl hd (n := n) (N := n.toNatClampNeg) (rest := r.map (mm_tr (mm_ad N0 sp))) rfl hn1 rfl hbb (by omega) (by omega) rfl (fun H1 cA2 e1 z1 o1 hAr hNm => ?_) : W p l e R s mid args below meth c H locs cells slots Q (F0 mid pc ls ((Value.int n :: r).map (mm_tr (mm_ad N0 sp))))) T hT X
      have hcA : cA2 = cA 21 := Option.some.inj (hNm.symm.trans (hAt.1.2 _ _ (mm_tys_get cA 21 (by decide) (by decide))).2)
      subst hcA
      exact mm_made (sh := (21, n.toNatClampNeg)) hN hH hS hL hc hsl hsz hsm z1 o1 e1 kk
    · cases hst
  · cases hst
theorem so_nwa_z (C : mm_Cx p s mid args meth c R j D cA N0 sp nb) (hd : decode (mm_b j) pc = .ok (.newarray .boolean, 2)) (hst : mm_nwa 22 (pc + 2) L S m = some (.inl q)) (hrm : mm_nc q.2.2.2 ≤ nb + R.cells) (hrs : mm_ns q.2.2.2 ≤ sb + R.slots) (hH : mm_Hp D cA N0 sp m s H) (hS : va_S (fun x => N0 ≤ x) s.heap H locs) (hL : mm_LS (mm_ad N0 sp) (mm_mx j) ls L) (hc : mm_nc m = nb + cells) (hsl : mm_ns m = sb + slots) (kk : mm_KK p l e R s mid args below meth c Q D cA N0 sp j nb sb q) : W p l e R s mid args below meth c H locs cells slots Q (F0 mid pc ls (S.map (mm_tr (mm_ad N0 sp)))) := by
  obtain ⟨hx, hb, hml, hown, hts, hnm, hAt, hR, hN, hz⟩ := C
  unfold mm_nwa at hst
  split at hst
  · next n r =>
    split at hst
    · next hn =>
      cases hst
      obtain ⟨hn1, hn2, h0⟩ := hn
      intro T hT X
      have hsz := mm_size hz hH hN hS hc h0 hT X
      have hsm : mm_sz (22, n.toNatClampNeg) = n.toNatClampNeg := if_neg (show ¬ (22 : Nat) < 20 by decide)
      dsimp only at hrm hrs
      rw [mm_nc_new] at hrm
      rw [mm_ns_new, hsm] at hrs
      have hcb : componentBytes (newarray.typeOf .boolean) ≤ 8 := by decide
      have hbb : n.toNatClampNeg * componentBytes (newarray.typeOf .boolean) ≤ 536870912 := Nat.le_trans (Nat.mul_le_mul hn2 hcb) (by decide)
      refine (va_newaK (atype := .boolean) (g := F0 mid pc ls ((Value.int n :: r).map (mm_tr (mm_ad N0 sp)))) hx hb (hts _ mm_w_az) rfl hd (n := n) (N := n.toNatClampNeg) (rest := r.map (mm_tr (mm_ad N0 sp))) rfl hn1 rfl hbb (by omega) (by omega) rfl (fun H1 cA2 e1 z1 o1 hAr hNm => ?_) : W p l e R s mid args below meth c H locs cells slots Q (F0 mid pc ls ((Value.int n :: r).map (mm_tr (mm_ad N0 sp))))) T hT X
      have hcA : cA2 = cA 22 := Option.some.inj (hNm.symm.trans (hAt.1.2 _ _ (mm_tys_get cA 22 (by decide) (by decide))).2)
      subst hcA
      exact mm_made (sh := (22, n.toNatClampNeg)) hN hH hS hL hc hsl hsz hsm z1 o1 e1 kk
    · cases hst
  · cases hst
theorem so_nwa_c (C : mm_Cx p s mid args meth c R j D cA N0 sp nb) (hd : decode (mm_b j) pc = .ok (.newarray .char, 2)) (hst : mm_nwa 23 (pc + 2) L S m = some (.inl q)) (hrm : mm_nc q.2.2.2 ≤ nb + R.cells) (hrs : mm_ns q.2.2.2 ≤ sb + R.slots) (hH : mm_Hp D cA N0 sp m s H) (hS : va_S (fun x => N0 ≤ x) s.heap H locs) (hL : mm_LS (mm_ad N0 sp) (mm_mx j) ls L) (hc : mm_nc m = nb + cells) (hsl : mm_ns m = sb + slots) (kk : mm_KK p l e R s mid args below meth c Q D cA N0 sp j nb sb q) : W p l e R s mid args below meth c H locs cells slots Q (F0 mid pc ls (S.map (mm_tr (mm_ad N0 sp)))) := by
  obtain ⟨hx, hb, hml, hown, hts, hnm, hAt, hR, hN, hz⟩ := C
  unfold mm_nwa at hst
  split at hst
  · next n r =>
    split at hst
    · next hn =>
      cases hst
      obtain ⟨hn1, hn2, h0⟩ := hn
      intro T hT X
      have hsz := mm_size hz hH hN hS hc h0 hT X
      have hsm : mm_sz (23, n.toNatClampNeg) = n.toNatClampNeg := if_neg (show ¬ (23 : Nat) < 20 by decide)
      dsimp only at hrm hrs
      rw [mm_nc_new] at hrm
      rw [mm_ns_new, hsm] at hrs
      have hcb : componentBytes (newarray.typeOf .char) ≤ 8 := by decide
      have hbb : n.toNatClampNeg * componentBytes (newarray.typeOf .char) ≤ 536870912 := Nat.le_trans (Nat.mul_le_mul hn2 hcb) (by decide)
      refine (va_newaK (atype := .char) (g := F0 mid pc ls ((Value.int n :: r).map (mm_tr (mm_ad N0 sp)))) hx hb (hts _ mm_w_ac) rfl hd (n := n) (N := n.toNatClampNeg) (rest := r.map (mm_tr (mm_ad N0 sp))) rfl hn1 rfl hbb (by omega) (by omega) rfl (fun H1 cA2 e1 z1 o1 hAr hNm => ?_) : W p l e R s mid args below meth c H locs cells slots Q (F0 mid pc ls ((Value.int n :: r).map (mm_tr (mm_ad N0 sp))))) T hT X
      have hcA : cA2 = cA 23 := Option.some.inj (hNm.symm.trans (hAt.1.2 _ _ (mm_tys_get cA 23 (by decide) (by decide))).2)
      subst hcA
      exact mm_made (sh := (23, n.toNatClampNeg)) hN hH hS hL hc hsl hsz hsm z1 o1 e1 kk
    · cases hst
  · cases hst
theorem so_anewarray {ix r1 : Nat} (C : mm_Cx p s mid args meth c R j D cA N0 sp nb) (hd : decode (mm_b j) pc = .ok (.anewarray ix, 3)) (hk : mm_an.contains (mm_ow j, ix, r1) = true ∧ (r1 = 24 ∨ r1 = 25 ∨ r1 = 26)) (hst : mm_nwa r1 (pc + 3) L S m = some (.inl q)) (hrm : mm_nc q.2.2.2 ≤ nb + R.cells) (hrs : mm_ns q.2.2.2 ≤ sb + R.slots) (hH : mm_Hp D cA N0 sp m s H) (hS : va_S (fun x => N0 ≤ x) s.heap H locs) (hL : mm_LS (mm_ad N0 sp) (mm_mx j) ls L) (hc : mm_nc m = nb + cells) (hsl : mm_ns m = sb + slots) (kk : mm_KK p l e R s mid args below meth c Q D cA N0 sp j nb sb q) : W p l e R s mid args below meth c H locs cells slots Q (F0 mid pc ls (S.map (mm_tr (mm_ad N0 sp)))) := by
  obtain ⟨hx, hb, hml, hown, hts, hnm, hAt, hR, hN, hz⟩ := C
  unfold mm_nwa at hst
  split at hst
  · next n r =>
    split at hst
    · next hn =>
      cases hst
      obtain ⟨hn1, hn2, h0⟩ := hn
      intro T hT X
      have hsz := mm_size hz hH hN hS hc h0 hT X
      have hsm : mm_sz (r1, n.toNatClampNeg) = n.toNatClampNeg := if_neg (show ¬ r1 < 20 by omega)
      dsimp only at hrm hrs
      rw [mm_nc_new] at hrm
      rw [mm_ns_new, hsm] at hrs
      have hao : (Cond.arrayOver (.object (mm_cn (mm_ac r1)))).before args s = true := by
        rcases hk.2 with rfl | rfl | rfl
        · exact va_AO.use hAt.2.2.1
        · exact va_AO.use hAt.2.2.2.1
        · exact va_AO.use hAt.2.2.2.2.1
      have hat : mm_aty r1 = .object (mm_cn (mm_ac r1)) := by rcases hk.2 with rfl | rfl | rfl <;> rfl
      refine (W.anew (g := F0 mid pc ls ((Value.int n :: r).map (mm_tr (mm_ad N0 sp)))) hx hb hown (hts _ (mm_g_in (mm_an_w _ (List.contains_iff_mem.mp hk.1)) rfl)) hao rfl hd (n := n) (rest := r.map (mm_tr (mm_ad N0 sp))) rfl hn1 (by omega) (by omega) (by omega) (fun cA2 kA comp f1 f2 f3 f4 => ?_) : W p l e R s mid args below meth c H locs cells slots Q (F0 mid pc ls ((Value.int n :: r).map (mm_tr (mm_ad N0 sp))))) T hT X
      have hRA := (hAt.1.2 _ _ (mm_tys_get cA r1 (by omega) (by omega))).2
      rw [hat] at hRA
      obtain ⟨kA9, comp9, -, -, -, g4⟩ := hRA
      have hcA : cA2 = cA r1 := Option.some.inj (f1.symm.trans g4)
      subst hcA
      have e1 : (H.push ({ cls := cA r1, slots := Array.replicate n.toNatClampNeg .null, vm := .none } : Cell))[H.size]? = some (arrV (cA r1) n.toNatClampNeg (fun _ => .null)) := by rw [Array.getElem?_push_size, ← arrV_new]
      refine mm_made (sh := (r1, n.toNatClampNeg)) hN hH hS hL hc hsl hsz hsm (Array.size_push _) (fun x hx => by rw [Array.getElem?_push, if_neg (Nat.ne_of_lt hx)]) ?_ kk
      unfold mm_nl0 mm_cc
      rw [if_neg (show ¬ r1 < 20 by omega), if_neg (show ¬ r1 = 21 by omega), if_pos (show 24 ≤ r1 by omega)]
      exact e1
    · cases hst
  · cases hst
end SO4
