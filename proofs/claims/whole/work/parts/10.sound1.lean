section SO
variable {p : Program} {l : Launch} {e : Env} {R : Room} {s : State} {mid : MethodId} {args : Array Value} {below : List Frame} {meth : Method} {c : Code} {Q : State → Prop} {D : va_G} {cA : Nat → ClassId} {N0 : Nat} {sp : Nat → Nat} {j nb sb : Nat}
/-- what holds all along a method's run -/
def mm_Cx (p : Program) (s : State) (mid : MethodId) (args : Array Value) (meth : Method) (c : Code) (R : Room) (j : Nat) (D : va_G) (cA : Nat → ClassId) (N0 : Nat) (sp : Nat → Nat) (nb : Nat) : Prop :=
  p.tables.exec = Jvm.exec ∧ c.code = mm_b j ∧ c.maxLocals = mm_mx j ∧ s.vm.findClass (mm_cn (mm_ow j)) = some mid.cls ∧ (∀ w ∈ mm_g, w.before args s = true) ∧ meth.name = (mm_y j).name ∧ mm_At D cA sp s ∧ (1 ≤ R.frames ∧ 100 ≤ R.locals) ∧ N0 ≤ s.heap.size ∧ s.heap.size ≤ N0 + nb
/-- the goal behind a step -/
def mm_KK (p : Program) (l : Launch) (e : Env) (R : Room) (s : State) (mid : MethodId) (args : Array Value) (below : List Frame) (meth : Method) (c : Code) (Q : State → Prop) (D : va_G) (cA : Nat → ClassId) (N0 : Nat) (sp : Nat → Nat) (j nb sb : Nat) (q : Nat × mm_L × List Value × mm_M) : Prop :=
  ∀ (H' : Heap) (locs' : List Loc) (ls' : Array Slot) (cells' slots' : Nat), mm_Hp D cA N0 sp q.2.2.2 s H' → va_S (fun x => N0 ≤ x) s.heap H' locs' → mm_LS (mm_ad N0 sp) (mm_mx j) ls' q.2.1 → mm_nc q.2.2.2 = nb + cells' → mm_ns q.2.2.2 = sb + slots' →
    W p l e R s mid args below meth c H' locs' cells' slots' Q (F0 mid q.1 ls' (q.2.2.1.map (mm_tr (mm_ad N0 sp))))
variable {H : Heap} {locs : List Loc} {cells slots pc : Nat} {ls : Array Slot} {L : mm_L} {S : List Value} {m : mm_M} {q : Nat × mm_L × List Value × mm_M}
theorem so_iconst {n : Int} (C : mm_Cx p s mid args meth c R j D cA N0 sp nb) (hd : decode (mm_b j) pc = .ok (.iconst n, 1)) (hst : mm_nx (pc + 1) L (.int (Int32.ofInt n) :: S) m = some (.inl q)) (hH : mm_Hp D cA N0 sp m s H) (hS : va_S (fun x => N0 ≤ x) s.heap H locs) (hL : mm_LS (mm_ad N0 sp) (mm_mx j) ls L) (hc : mm_nc m = nb + cells) (hsl : mm_ns m = sb + slots) (kk : mm_KK p l e R s mid args below meth c Q D cA N0 sp j nb sb q) : W p l e R s mid args below meth c H locs cells slots Q (F0 mid pc ls (S.map (mm_tr (mm_ad N0 sp)))) := by
  obtain ⟨hx, hb, hml, hown, hts, hnm, hAt, hR, hN, hz⟩ := C
  cases hst
  refine lv_iconst hx hb hd rfl ?_
  exact kk _ _ _ _ _ hH hS hL hc hsl
theorem so_bipush {n : Int} (C : mm_Cx p s mid args meth c R j D cA N0 sp nb) (hd : decode (mm_b j) pc = .ok (.bipush n, 2)) (hst : mm_nx (pc + 2) L (.int (Int8.ofInt n).toInt32 :: S) m = some (.inl q)) (hH : mm_Hp D cA N0 sp m s H) (hS : va_S (fun x => N0 ≤ x) s.heap H locs) (hL : mm_LS (mm_ad N0 sp) (mm_mx j) ls L) (hc : mm_nc m = nb + cells) (hsl : mm_ns m = sb + slots) (kk : mm_KK p l e R s mid args below meth c Q D cA N0 sp j nb sb q) : W p l e R s mid args below meth c H locs cells slots Q (F0 mid pc ls (S.map (mm_tr (mm_ad N0 sp)))) := by
  obtain ⟨hx, hb, hml, hown, hts, hnm, hAt, hR, hN, hz⟩ := C
  cases hst
  refine lv_bipush hx hb hd rfl ?_
  exact kk _ _ _ _ _ hH hS hL hc hsl
theorem so_sipush {n : Int} (C : mm_Cx p s mid args meth c R j D cA N0 sp nb) (hd : decode (mm_b j) pc = .ok (.sipush n, 3)) (hst : mm_nx (pc + 3) L (.int (Int16.ofInt n).toInt32 :: S) m = some (.inl q)) (hH : mm_Hp D cA N0 sp m s H) (hS : va_S (fun x => N0 ≤ x) s.heap H locs) (hL : mm_LS (mm_ad N0 sp) (mm_mx j) ls L) (hc : mm_nc m = nb + cells) (hsl : mm_ns m = sb + slots) (kk : mm_KK p l e R s mid args below meth c Q D cA N0 sp j nb sb q) : W p l e R s mid args below meth c H locs cells slots Q (F0 mid pc ls (S.map (mm_tr (mm_ad N0 sp)))) := by
  obtain ⟨hx, hb, hml, hown, hts, hnm, hAt, hR, hN, hz⟩ := C
  cases hst
  refine lv_sipush hx hb hd rfl ?_
  exact kk _ _ _ _ _ hH hS hL hc hsl
theorem so_lconst {n : Fin 2} (C : mm_Cx p s mid args meth c R j D cA N0 sp nb) (hd : decode (mm_b j) pc = .ok (.lconst n, 1)) (hst : mm_nx (pc + 1) L (.long (Int64.ofNat (n : Nat)) :: S) m = some (.inl q)) (hH : mm_Hp D cA N0 sp m s H) (hS : va_S (fun x => N0 ≤ x) s.heap H locs) (hL : mm_LS (mm_ad N0 sp) (mm_mx j) ls L) (hc : mm_nc m = nb + cells) (hsl : mm_ns m = sb + slots) (kk : mm_KK p l e R s mid args below meth c Q D cA N0 sp j nb sb q) : W p l e R s mid args below meth c H locs cells slots Q (F0 mid pc ls (S.map (mm_tr (mm_ad N0 sp)))) := by
  obtain ⟨hx, hb, hml, hown, hts, hnm, hAt, hR, hN, hz⟩ := C
  cases hst
  refine lv_lconst hx hb hd rfl ?_
  exact kk _ _ _ _ _ hH hS hL hc hsl
theorem so_iload_n {k : Fin 4} (C : mm_Cx p s mid args meth c R j D cA N0 sp nb) (hd : decode (mm_b j) pc = .ok (.iload_n k, 1)) (hst : mm_ldI k (pc + 1) L S m = some (.inl q)) (hH : mm_Hp D cA N0 sp m s H) (hS : va_S (fun x => N0 ≤ x) s.heap H locs) (hL : mm_LS (mm_ad N0 sp) (mm_mx j) ls L) (hc : mm_nc m = nb + cells) (hsl : mm_ns m = sb + slots) (kk : mm_KK p l e R s mid args below meth c Q D cA N0 sp j nb sb q) : W p l e R s mid args below meth c H locs cells slots Q (F0 mid pc ls (S.map (mm_tr (mm_ad N0 sp)))) := by
  obtain ⟨hx, hb, hml, hown, hts, hnm, hAt, hR, hN, hz⟩ := C
  unfold mm_ldI at hst
  split at hst
  · next x hx2 =>
    cases hst
    refine lv_iload_n hx hb hd rfl (hL.at hx2) ?_
    exact kk _ _ _ _ _ hH hS hL hc hsl
  · cases hst
theorem so_istore_n {k : Fin 4} (C : mm_Cx p s mid args meth c R j D cA N0 sp nb) (hd : decode (mm_b j) pc = .ok (.istore_n k, 1)) (hst : mm_stI k (pc + 1) L S m = some (.inl q)) (hH : mm_Hp D cA N0 sp m s H) (hS : va_S (fun x => N0 ≤ x) s.heap H locs) (hL : mm_LS (mm_ad N0 sp) (mm_mx j) ls L) (hc : mm_nc m = nb + cells) (hsl : mm_ns m = sb + slots) (kk : mm_KK p l e R s mid args below meth c Q D cA N0 sp j nb sb q) : W p l e R s mid args below meth c H locs cells slots Q (F0 mid pc ls (S.map (mm_tr (mm_ad N0 sp)))) := by
  obtain ⟨hx, hb, hml, hown, hts, hnm, hAt, hR, hN, hz⟩ := C
  unfold mm_stI at hst
  split at hst
  · next x r =>
    split at hst
    · next hi =>
      cases hst
      rw [hL.1] at hi
      refine lv_istore_n hx hb hd rfl hL.2 hi rfl (fun ls2 h2 => ?_)
      exact kk _ _ ls2 _ _ hH hS (mm_s1_LS hL.1 hi h2) hc hsl
    · cases hst
  · cases hst
theorem so_iload {k : Nat} (C : mm_Cx p s mid args meth c R j D cA N0 sp nb) (hd : decode (mm_b j) pc = .ok (.iload k, 2)) (hst : mm_ldI k (pc + 2) L S m = some (.inl q)) (hH : mm_Hp D cA N0 sp m s H) (hS : va_S (fun x => N0 ≤ x) s.heap H locs) (hL : mm_LS (mm_ad N0 sp) (mm_mx j) ls L) (hc : mm_nc m = nb + cells) (hsl : mm_ns m = sb + slots) (kk : mm_KK p l e R s mid args below meth c Q D cA N0 sp j nb sb q) : W p l e R s mid args below meth c H locs cells slots Q (F0 mid pc ls (S.map (mm_tr (mm_ad N0 sp)))) := by
  obtain ⟨hx, hb, hml, hown, hts, hnm, hAt, hR, hN, hz⟩ := C
  unfold mm_ldI at hst
  split at hst
  · next x hx2 =>
    cases hst
    refine lv_iload hx hb hd (hL.at hx2) ?_
    exact kk _ _ _ _ _ hH hS hL hc hsl
  · cases hst
theorem so_istore {k : Nat} (C : mm_Cx p s mid args meth c R j D cA N0 sp nb) (hd : decode (mm_b j) pc = .ok (.istore k, 2)) (hst : mm_stI k (pc + 2) L S m = some (.inl q)) (hH : mm_Hp D cA N0 sp m s H) (hS : va_S (fun x => N0 ≤ x) s.heap H locs) (hL : mm_LS (mm_ad N0 sp) (mm_mx j) ls L) (hc : mm_nc m = nb + cells) (hsl : mm_ns m = sb + slots) (kk : mm_KK p l e R s mid args below meth c Q D cA N0 sp j nb sb q) : W p l e R s mid args below meth c H locs cells slots Q (F0 mid pc ls (S.map (mm_tr (mm_ad N0 sp)))) := by
  obtain ⟨hx, hb, hml, hown, hts, hnm, hAt, hR, hN, hz⟩ := C
  unfold mm_stI at hst
  split at hst
  · next x r =>
    split at hst
    · next hi =>
      cases hst
      rw [hL.1] at hi
      refine lv_istore hx hb hd hL.2 hi rfl (fun ls2 h2 => ?_)
      exact kk _ _ ls2 _ _ hH hS (mm_s1_LS hL.1 hi h2) hc hsl
    · cases hst
  · cases hst
theorem so_lload_n {k : Fin 4} (C : mm_Cx p s mid args meth c R j D cA N0 sp nb) (hd : decode (mm_b j) pc = .ok (.lload_n k, 1)) (hst : mm_ldL k (pc + 1) L S m = some (.inl q)) (hH : mm_Hp D cA N0 sp m s H) (hS : va_S (fun x => N0 ≤ x) s.heap H locs) (hL : mm_LS (mm_ad N0 sp) (mm_mx j) ls L) (hc : mm_nc m = nb + cells) (hsl : mm_ns m = sb + slots) (kk : mm_KK p l e R s mid args below meth c Q D cA N0 sp j nb sb q) : W p l e R s mid args below meth c H locs cells slots Q (F0 mid pc ls (S.map (mm_tr (mm_ad N0 sp)))) := by
  obtain ⟨hx, hb, hml, hown, hts, hnm, hAt, hR, hN, hz⟩ := C
  unfold mm_ldL at hst
  split at hst
  · next x hx2 =>
    cases hst
    refine lv_lload_n hx hb hd rfl (hL.at hx2) ?_
    exact kk _ _ _ _ _ hH hS hL hc hsl
  · cases hst
theorem so_lstore_n {k : Fin 4} (C : mm_Cx p s mid args meth c R j D cA N0 sp nb) (hd : decode (mm_b j) pc = .ok (.lstore_n k, 1)) (hst : mm_stL k (pc + 1) L S m = some (.inl q)) (hH : mm_Hp D cA N0 sp m s H) (hS : va_S (fun x => N0 ≤ x) s.heap H locs) (hL : mm_LS (mm_ad N0 sp) (mm_mx j) ls L) (hc : mm_nc m = nb + cells) (hsl : mm_ns m = sb + slots) (kk : mm_KK p l e R s mid args below meth c Q D cA N0 sp j nb sb q) : W p l e R s mid args below meth c H locs cells slots Q (F0 mid pc ls (S.map (mm_tr (mm_ad N0 sp)))) := by
  obtain ⟨hx, hb, hml, hown, hts, hnm, hAt, hR, hN, hz⟩ := C
  unfold mm_stL at hst
  split at hst
  · next x r =>
    split at hst
    · next hi =>
      cases hst
      rw [hL.1] at hi
      refine lv_lstore_n hx hb hd rfl hL.2 hi rfl (fun ls2 h2 => ?_)
      exact kk _ _ ls2 _ _ hH hS (mm_s2_LS hL.1 hi h2) hc hsl
    · cases hst
  · cases hst
theorem so_lload {k : Nat} (C : mm_Cx p s mid args meth c R j D cA N0 sp nb) (hd : decode (mm_b j) pc = .ok (.lload k, 2)) (hst : mm_ldL k (pc + 2) L S m = some (.inl q)) (hH : mm_Hp D cA N0 sp m s H) (hS : va_S (fun x => N0 ≤ x) s.heap H locs) (hL : mm_LS (mm_ad N0 sp) (mm_mx j) ls L) (hc : mm_nc m = nb + cells) (hsl : mm_ns m = sb + slots) (kk : mm_KK p l e R s mid args below meth c Q D cA N0 sp j nb sb q) : W p l e R s mid args below meth c H locs cells slots Q (F0 mid pc ls (S.map (mm_tr (mm_ad N0 sp)))) := by
  obtain ⟨hx, hb, hml, hown, hts, hnm, hAt, hR, hN, hz⟩ := C
  unfold mm_ldL at hst
  split at hst
  · next x hx2 =>
    cases hst
    refine lv_lload hx hb hd (hL.at hx2) ?_
    exact kk _ _ _ _ _ hH hS hL hc hsl
  · cases hst
theorem so_lstore {k : Nat} (C : mm_Cx p s mid args meth c R j D cA N0 sp nb) (hd : decode (mm_b j) pc = .ok (.lstore k, 2)) (hst : mm_stL k (pc + 2) L S m = some (.inl q)) (hH : mm_Hp D cA N0 sp m s H) (hS : va_S (fun x => N0 ≤ x) s.heap H locs) (hL : mm_LS (mm_ad N0 sp) (mm_mx j) ls L) (hc : mm_nc m = nb + cells) (hsl : mm_ns m = sb + slots) (kk : mm_KK p l e R s mid args below meth c Q D cA N0 sp j nb sb q) : W p l e R s mid args below meth c H locs cells slots Q (F0 mid pc ls (S.map (mm_tr (mm_ad N0 sp)))) := by
  obtain ⟨hx, hb, hml, hown, hts, hnm, hAt, hR, hN, hz⟩ := C
  unfold mm_stL at hst
  split at hst
  · next x r =>
    split at hst
    · next hi =>
      cases hst
      rw [hL.1] at hi
      refine lv_lstore hx hb hd hL.2 hi rfl (fun ls2 h2 => ?_)
      exact kk _ _ ls2 _ _ hH hS (mm_s2_LS hL.1 hi h2) hc hsl
    · cases hst
  · cases hst
theorem so_aload_n {k : Fin 4} (C : mm_Cx p s mid args meth c R j D cA N0 sp nb) (hd : decode (mm_b j) pc = .ok (.aload_n k, 1)) (hst : mm_ldR k (pc + 1) L S m = some (.inl q)) (hH : mm_Hp D cA N0 sp m s H) (hS : va_S (fun x => N0 ≤ x) s.heap H locs) (hL : mm_LS (mm_ad N0 sp) (mm_mx j) ls L) (hc : mm_nc m = nb + cells) (hsl : mm_ns m = sb + slots) (kk : mm_KK p l e R s mid args below meth c Q D cA N0 sp j nb sb q) : W p l e R s mid args below meth c H locs cells slots Q (F0 mid pc ls (S.map (mm_tr (mm_ad N0 sp)))) := by
  obtain ⟨hx, hb, hml, hown, hts, hnm, hAt, hR, hN, hz⟩ := C
  unfold mm_ldR at hst
  split at hst
  · next x hx2 =>
    cases hst
    refine lv_aload_n hx hb hd rfl (hL.at hx2) ?_
    exact kk _ _ _ _ _ hH hS hL hc hsl
  · cases hst
theorem so_astore_n {k : Fin 4} (C : mm_Cx p s mid args meth c R j D cA N0 sp nb) (hd : decode (mm_b j) pc = .ok (.astore_n k, 1)) (hst : mm_stR k (pc + 1) L S m = some (.inl q)) (hH : mm_Hp D cA N0 sp m s H) (hS : va_S (fun x => N0 ≤ x) s.heap H locs) (hL : mm_LS (mm_ad N0 sp) (mm_mx j) ls L) (hc : mm_nc m = nb + cells) (hsl : mm_ns m = sb + slots) (kk : mm_KK p l e R s mid args below meth c Q D cA N0 sp j nb sb q) : W p l e R s mid args below meth c H locs cells slots Q (F0 mid pc ls (S.map (mm_tr (mm_ad N0 sp)))) := by
  obtain ⟨hx, hb, hml, hown, hts, hnm, hAt, hR, hN, hz⟩ := C
  unfold mm_stR at hst
  split at hst
  · next x r =>
    split at hst
    · next hi =>
      cases hst
      rw [hL.1] at hi
      refine lv_astore_n hx hb hd rfl hL.2 hi rfl (fun ls2 h2 => ?_)
      exact kk _ _ ls2 _ _ hH hS (mm_s1_LS hL.1 hi h2) hc hsl
    · cases hst
  · cases hst
theorem so_aload {k : Nat} (C : mm_Cx p s mid args meth c R j D cA N0 sp nb) (hd : decode (mm_b j) pc = .ok (.aload k, 2)) (hst : mm_ldR k (pc + 2) L S m = some (.inl q)) (hH : mm_Hp D cA N0 sp m s H) (hS : va_S (fun x => N0 ≤ x) s.heap H locs) (hL : mm_LS (mm_ad N0 sp) (mm_mx j) ls L) (hc : mm_nc m = nb + cells) (hsl : mm_ns m = sb + slots) (kk : mm_KK p l e R s mid args below meth c Q D cA N0 sp j nb sb q) : W p l e R s mid args below meth c H locs cells slots Q (F0 mid pc ls (S.map (mm_tr (mm_ad N0 sp)))) := by
  obtain ⟨hx, hb, hml, hown, hts, hnm, hAt, hR, hN, hz⟩ := C
  unfold mm_ldR at hst
  split at hst
  · next x hx2 =>
    cases hst
    refine lv_aload hx hb hd (hL.at hx2) ?_
    exact kk _ _ _ _ _ hH hS hL hc hsl
  · cases hst
theorem so_astore {k : Nat} (C : mm_Cx p s mid args meth c R j D cA N0 sp nb) (hd : decode (mm_b j) pc = .ok (.astore k, 2)) (hst : mm_stR k (pc + 2) L S m = some (.inl q)) (hH : mm_Hp D cA N0 sp m s H) (hS : va_S (fun x => N0 ≤ x) s.heap H locs) (hL : mm_LS (mm_ad N0 sp) (mm_mx j) ls L) (hc : mm_nc m = nb + cells) (hsl : mm_ns m = sb + slots) (kk : mm_KK p l e R s mid args below meth c Q D cA N0 sp j nb sb q) : W p l e R s mid args below meth c H locs cells slots Q (F0 mid pc ls (S.map (mm_tr (mm_ad N0 sp)))) := by
  obtain ⟨hx, hb, hml, hown, hts, hnm, hAt, hR, hN, hz⟩ := C
  unfold mm_stR at hst
  split at hst
  · next x r =>
    split at hst
    · next hi =>
      cases hst
      rw [hL.1] at hi
      refine lv_astore hx hb hd hL.2 hi rfl (fun ls2 h2 => ?_)
      exact kk _ _ ls2 _ _ hH hS (mm_s1_LS hL.1 hi h2) hc hsl
    · cases hst
  · cases hst
theorem so_iinc {i : Nat} {n : Int} (C : mm_Cx p s mid args meth c R j D cA N0 sp nb) (hd : decode (mm_b j) pc = .ok (.iinc i n, 3)) (hst : mm_inc i n (pc + 3) L S m = some (.inl q)) (hH : mm_Hp D cA N0 sp m s H) (hS : va_S (fun x => N0 ≤ x) s.heap H locs) (hL : mm_LS (mm_ad N0 sp) (mm_mx j) ls L) (hc : mm_nc m = nb + cells) (hsl : mm_ns m = sb + slots) (kk : mm_KK p l e R s mid args below meth c Q D cA N0 sp j nb sb q) : W p l e R s mid args below meth c H locs cells slots Q (F0 mid pc ls (S.map (mm_tr (mm_ad N0 sp)))) := by
  obtain ⟨hx, hb, hml, hown, hts, hnm, hAt, hR, hN, hz⟩ := C
  unfold mm_inc at hst
  split at hst
  · next x hx2 =>
    split at hst
    · next hi =>
      cases hst
      rw [hL.1] at hi
      obtain ⟨k, hk⟩ := List.getElem?_of_mem (mm_as_mem.mpr ⟨.int x, hx2, rfl⟩ : (i, mm_tr (mm_ad N0 sp) (.int x)) ∈ mm_as (mm_ad N0 sp) L)
      refine lv_iinc (k := k) (x := x) hx hb hd hL.2 hk rfl hi rfl (fun ls2 h2 => ?_)
      exact kk _ _ ls2 _ _ hH hS (mm_s1_LS (v := .int (x + Int32.ofInt n)) hL.1 hi h2) hc hsl
    · cases hst
  · cases hst
theorem so_iadd (C : mm_Cx p s mid args meth c R j D cA N0 sp nb) (hd : decode (mm_b j) pc = .ok (.iadd, 1)) (hst : mm_bI (fun x y => x + y) (pc + 1) L S m = some (.inl q)) (hH : mm_Hp D cA N0 sp m s H) (hS : va_S (fun x => N0 ≤ x) s.heap H locs) (hL : mm_LS (mm_ad N0 sp) (mm_mx j) ls L) (hc : mm_nc m = nb + cells) (hsl : mm_ns m = sb + slots) (kk : mm_KK p l e R s mid args below meth c Q D cA N0 sp j nb sb q) : W p l e R s mid args below meth c H locs cells slots Q (F0 mid pc ls (S.map (mm_tr (mm_ad N0 sp)))) := by
  obtain ⟨hx, hb, hml, hown, hts, hnm, hAt, hR, hN, hz⟩ := C
  unfold mm_bI at hst
  split at hst
  · next y x r =>
    cases hst
    refine lv_iadd hx hb hd ?_
    exact kk _ _ _ _ _ hH hS hL hc hsl
  · cases hst
theorem so_isub (C : mm_Cx p s mid args meth c R j D cA N0 sp nb) (hd : decode (mm_b j) pc = .ok (.isub, 1)) (hst : mm_bI (fun x y => x - y) (pc + 1) L S m = some (.inl q)) (hH : mm_Hp D cA N0 sp m s H) (hS : va_S (fun x => N0 ≤ x) s.heap H locs) (hL : mm_LS (mm_ad N0 sp) (mm_mx j) ls L) (hc : mm_nc m = nb + cells) (hsl : mm_ns m = sb + slots) (kk : mm_KK p l e R s mid args below meth c Q D cA N0 sp j nb sb q) : W p l e R s mid args below meth c H locs cells slots Q (F0 mid pc ls (S.map (mm_tr (mm_ad N0 sp)))) := by
  obtain ⟨hx, hb, hml, hown, hts, hnm, hAt, hR, hN, hz⟩ := C
  unfold mm_bI at hst
  split at hst
  · next y x r =>
    cases hst
    refine lv_isub hx hb hd ?_
    exact kk _ _ _ _ _ hH hS hL hc hsl
  · cases hst
theorem so_imul (C : mm_Cx p s mid args meth c R j D cA N0 sp nb) (hd : decode (mm_b j) pc = .ok (.imul, 1)) (hst : mm_bI (fun x y => x * y) (pc + 1) L S m = some (.inl q)) (hH : mm_Hp D cA N0 sp m s H) (hS : va_S (fun x => N0 ≤ x) s.heap H locs) (hL : mm_LS (mm_ad N0 sp) (mm_mx j) ls L) (hc : mm_nc m = nb + cells) (hsl : mm_ns m = sb + slots) (kk : mm_KK p l e R s mid args below meth c Q D cA N0 sp j nb sb q) : W p l e R s mid args below meth c H locs cells slots Q (F0 mid pc ls (S.map (mm_tr (mm_ad N0 sp)))) := by
  obtain ⟨hx, hb, hml, hown, hts, hnm, hAt, hR, hN, hz⟩ := C
  unfold mm_bI at hst
  split at hst
  · next y x r =>
    cases hst
    refine lv_imul hx hb hd ?_
    exact kk _ _ _ _ _ hH hS hL hc hsl
  · cases hst
theorem so_iand (C : mm_Cx p s mid args meth c R j D cA N0 sp nb) (hd : decode (mm_b j) pc = .ok (.iand, 1)) (hst : mm_bI (fun x y => x &&& y) (pc + 1) L S m = some (.inl q)) (hH : mm_Hp D cA N0 sp m s H) (hS : va_S (fun x => N0 ≤ x) s.heap H locs) (hL : mm_LS (mm_ad N0 sp) (mm_mx j) ls L) (hc : mm_nc m = nb + cells) (hsl : mm_ns m = sb + slots) (kk : mm_KK p l e R s mid args below meth c Q D cA N0 sp j nb sb q) : W p l e R s mid args below meth c H locs cells slots Q (F0 mid pc ls (S.map (mm_tr (mm_ad N0 sp)))) := by
  obtain ⟨hx, hb, hml, hown, hts, hnm, hAt, hR, hN, hz⟩ := C
  unfold mm_bI at hst
  split at hst
  · next y x r =>
    cases hst
    refine lv_iand hx hb hd ?_
    exact kk _ _ _ _ _ hH hS hL hc hsl
  · cases hst
theorem so_ior (C : mm_Cx p s mid args meth c R j D cA N0 sp nb) (hd : decode (mm_b j) pc = .ok (.ior, 1)) (hst : mm_bI (fun x y => x ||| y) (pc + 1) L S m = some (.inl q)) (hH : mm_Hp D cA N0 sp m s H) (hS : va_S (fun x => N0 ≤ x) s.heap H locs) (hL : mm_LS (mm_ad N0 sp) (mm_mx j) ls L) (hc : mm_nc m = nb + cells) (hsl : mm_ns m = sb + slots) (kk : mm_KK p l e R s mid args below meth c Q D cA N0 sp j nb sb q) : W p l e R s mid args below meth c H locs cells slots Q (F0 mid pc ls (S.map (mm_tr (mm_ad N0 sp)))) := by
  obtain ⟨hx, hb, hml, hown, hts, hnm, hAt, hR, hN, hz⟩ := C
  unfold mm_bI at hst
  split at hst
  · next y x r =>
    cases hst
    refine lv_ior hx hb hd ?_
    exact kk _ _ _ _ _ hH hS hL hc hsl
  · cases hst
theorem so_ixor (C : mm_Cx p s mid args meth c R j D cA N0 sp nb) (hd : decode (mm_b j) pc = .ok (.ixor, 1)) (hst : mm_bI (fun x y => x ^^^ y) (pc + 1) L S m = some (.inl q)) (hH : mm_Hp D cA N0 sp m s H) (hS : va_S (fun x => N0 ≤ x) s.heap H locs) (hL : mm_LS (mm_ad N0 sp) (mm_mx j) ls L) (hc : mm_nc m = nb + cells) (hsl : mm_ns m = sb + slots) (kk : mm_KK p l e R s mid args below meth c Q D cA N0 sp j nb sb q) : W p l e R s mid args below meth c H locs cells slots Q (F0 mid pc ls (S.map (mm_tr (mm_ad N0 sp)))) := by
  obtain ⟨hx, hb, hml, hown, hts, hnm, hAt, hR, hN, hz⟩ := C
  unfold mm_bI at hst
  split at hst
  · next y x r =>
    cases hst
    refine lv_ixor hx hb hd ?_
    exact kk _ _ _ _ _ hH hS hL hc hsl
  · cases hst
theorem so_ishl (C : mm_Cx p s mid args meth c R j D cA N0 sp nb) (hd : decode (mm_b j) pc = .ok (.ishl, 1)) (hst : mm_bI (fun x y => x <<< (y &&& 31)) (pc + 1) L S m = some (.inl q)) (hH : mm_Hp D cA N0 sp m s H) (hS : va_S (fun x => N0 ≤ x) s.heap H locs) (hL : mm_LS (mm_ad N0 sp) (mm_mx j) ls L) (hc : mm_nc m = nb + cells) (hsl : mm_ns m = sb + slots) (kk : mm_KK p l e R s mid args below meth c Q D cA N0 sp j nb sb q) : W p l e R s mid args below meth c H locs cells slots Q (F0 mid pc ls (S.map (mm_tr (mm_ad N0 sp)))) := by
  obtain ⟨hx, hb, hml, hown, hts, hnm, hAt, hR, hN, hz⟩ := C
  unfold mm_bI at hst
  split at hst
  · next y x r =>
    cases hst
    refine lv_ishl hx hb hd ?_
    exact kk _ _ _ _ _ hH hS hL hc hsl
  · cases hst
theorem so_ishr (C : mm_Cx p s mid args meth c R j D cA N0 sp nb) (hd : decode (mm_b j) pc = .ok (.ishr, 1)) (hst : mm_bI (fun x y => x >>> (y &&& 31)) (pc + 1) L S m = some (.inl q)) (hH : mm_Hp D cA N0 sp m s H) (hS : va_S (fun x => N0 ≤ x) s.heap H locs) (hL : mm_LS (mm_ad N0 sp) (mm_mx j) ls L) (hc : mm_nc m = nb + cells) (hsl : mm_ns m = sb + slots) (kk : mm_KK p l e R s mid args below meth c Q D cA N0 sp j nb sb q) : W p l e R s mid args below meth c H locs cells slots Q (F0 mid pc ls (S.map (mm_tr (mm_ad N0 sp)))) := by
  obtain ⟨hx, hb, hml, hown, hts, hnm, hAt, hR, hN, hz⟩ := C
  unfold mm_bI at hst
  split at hst
  · next y x r =>
    cases hst
    refine lv_ishr hx hb hd ?_
    exact kk _ _ _ _ _ hH hS hL hc hsl
  · cases hst
theorem so_iushr (C : mm_Cx p s mid args meth c R j D cA N0 sp nb) (hd : decode (mm_b j) pc = .ok (.iushr, 1)) (hst : mm_bI (fun x y => (x.toUInt32 >>> (y.toUInt32 &&& Int32.toUInt32 31)).toInt32) (pc + 1) L S m = some (.inl q)) (hH : mm_Hp D cA N0 sp m s H) (hS : va_S (fun x => N0 ≤ x) s.heap H locs) (hL : mm_LS (mm_ad N0 sp) (mm_mx j) ls L) (hc : mm_nc m = nb + cells) (hsl : mm_ns m = sb + slots) (kk : mm_KK p l e R s mid args below meth c Q D cA N0 sp j nb sb q) : W p l e R s mid args below meth c H locs cells slots Q (F0 mid pc ls (S.map (mm_tr (mm_ad N0 sp)))) := by
  obtain ⟨hx, hb, hml, hown, hts, hnm, hAt, hR, hN, hz⟩ := C
  unfold mm_bI at hst
  split at hst
  · next y x r =>
    cases hst
    refine lv_iushr hx hb hd rfl ?_
    exact kk _ _ _ _ _ hH hS hL hc hsl
  · cases hst
theorem so_idiv (C : mm_Cx p s mid args meth c R j D cA N0 sp nb) (hd : decode (mm_b j) pc = .ok (.idiv, 1)) (hst : mm_dI (fun x y => x / y) (pc + 1) L S m = some (.inl q)) (hH : mm_Hp D cA N0 sp m s H) (hS : va_S (fun x => N0 ≤ x) s.heap H locs) (hL : mm_LS (mm_ad N0 sp) (mm_mx j) ls L) (hc : mm_nc m = nb + cells) (hsl : mm_ns m = sb + slots) (kk : mm_KK p l e R s mid args below meth c Q D cA N0 sp j nb sb q) : W p l e R s mid args below meth c H locs cells slots Q (F0 mid pc ls (S.map (mm_tr (mm_ad N0 sp)))) := by
  obtain ⟨hx, hb, hml, hown, hts, hnm, hAt, hR, hN, hz⟩ := C
  unfold mm_dI at hst
  split at hst
  · next y x r =>
    split at hst
    · cases hst
    · next hne =>
      cases hst
      refine lv_idiv hx hb hd hne ?_
      exact kk _ _ _ _ _ hH hS hL hc hsl
  · cases hst
theorem so_irem (C : mm_Cx p s mid args meth c R j D cA N0 sp nb) (hd : decode (mm_b j) pc = .ok (.irem, 1)) (hst : mm_dI (fun x y => x - x / y * y) (pc + 1) L S m = some (.inl q)) (hH : mm_Hp D cA N0 sp m s H) (hS : va_S (fun x => N0 ≤ x) s.heap H locs) (hL : mm_LS (mm_ad N0 sp) (mm_mx j) ls L) (hc : mm_nc m = nb + cells) (hsl : mm_ns m = sb + slots) (kk : mm_KK p l e R s mid args below meth c Q D cA N0 sp j nb sb q) : W p l e R s mid args below meth c H locs cells slots Q (F0 mid pc ls (S.map (mm_tr (mm_ad N0 sp)))) := by
  obtain ⟨hx, hb, hml, hown, hts, hnm, hAt, hR, hN, hz⟩ := C
  unfold mm_dI at hst
  split at hst
  · next y x r =>
    split at hst
    · cases hst
    · next hne =>
      cases hst
      refine lv_irem hx hb hd hne ?_
      exact kk _ _ _ _ _ hH hS hL hc hsl
  · cases hst
theorem so_ladd (C : mm_Cx p s mid args meth c R j D cA N0 sp nb) (hd : decode (mm_b j) pc = .ok (.ladd, 1)) (hst : mm_bL (fun x y => x + y) (pc + 1) L S m = some (.inl q)) (hH : mm_Hp D cA N0 sp m s H) (hS : va_S (fun x => N0 ≤ x) s.heap H locs) (hL : mm_LS (mm_ad N0 sp) (mm_mx j) ls L) (hc : mm_nc m = nb + cells) (hsl : mm_ns m = sb + slots) (kk : mm_KK p l e R s mid args below meth c Q D cA N0 sp j nb sb q) : W p l e R s mid args below meth c H locs cells slots Q (F0 mid pc ls (S.map (mm_tr (mm_ad N0 sp)))) := by
  obtain ⟨hx, hb, hml, hown, hts, hnm, hAt, hR, hN, hz⟩ := C
  unfold mm_bL at hst
  split at hst
  · next y x r =>
    cases hst
    refine lv_ladd hx hb hd ?_
    exact kk _ _ _ _ _ hH hS hL hc hsl
  · cases hst
theorem so_lsub (C : mm_Cx p s mid args meth c R j D cA N0 sp nb) (hd : decode (mm_b j) pc = .ok (.lsub, 1)) (hst : mm_bL (fun x y => x - y) (pc + 1) L S m = some (.inl q)) (hH : mm_Hp D cA N0 sp m s H) (hS : va_S (fun x => N0 ≤ x) s.heap H locs) (hL : mm_LS (mm_ad N0 sp) (mm_mx j) ls L) (hc : mm_nc m = nb + cells) (hsl : mm_ns m = sb + slots) (kk : mm_KK p l e R s mid args below meth c Q D cA N0 sp j nb sb q) : W p l e R s mid args below meth c H locs cells slots Q (F0 mid pc ls (S.map (mm_tr (mm_ad N0 sp)))) := by
  obtain ⟨hx, hb, hml, hown, hts, hnm, hAt, hR, hN, hz⟩ := C
  unfold mm_bL at hst
  split at hst
  · next y x r =>
    cases hst
    refine lv_lsub hx hb hd ?_
    exact kk _ _ _ _ _ hH hS hL hc hsl
  · cases hst
theorem so_lmul (C : mm_Cx p s mid args meth c R j D cA N0 sp nb) (hd : decode (mm_b j) pc = .ok (.lmul, 1)) (hst : mm_bL (fun x y => x * y) (pc + 1) L S m = some (.inl q)) (hH : mm_Hp D cA N0 sp m s H) (hS : va_S (fun x => N0 ≤ x) s.heap H locs) (hL : mm_LS (mm_ad N0 sp) (mm_mx j) ls L) (hc : mm_nc m = nb + cells) (hsl : mm_ns m = sb + slots) (kk : mm_KK p l e R s mid args below meth c Q D cA N0 sp j nb sb q) : W p l e R s mid args below meth c H locs cells slots Q (F0 mid pc ls (S.map (mm_tr (mm_ad N0 sp)))) := by
  obtain ⟨hx, hb, hml, hown, hts, hnm, hAt, hR, hN, hz⟩ := C
  unfold mm_bL at hst
  split at hst
  · next y x r =>
    cases hst
    refine lv_lmul hx hb hd ?_
    exact kk _ _ _ _ _ hH hS hL hc hsl
  · cases hst
theorem so_land (C : mm_Cx p s mid args meth c R j D cA N0 sp nb) (hd : decode (mm_b j) pc = .ok (.land, 1)) (hst : mm_bL (fun x y => x &&& y) (pc + 1) L S m = some (.inl q)) (hH : mm_Hp D cA N0 sp m s H) (hS : va_S (fun x => N0 ≤ x) s.heap H locs) (hL : mm_LS (mm_ad N0 sp) (mm_mx j) ls L) (hc : mm_nc m = nb + cells) (hsl : mm_ns m = sb + slots) (kk : mm_KK p l e R s mid args below meth c Q D cA N0 sp j nb sb q) : W p l e R s mid args below meth c H locs cells slots Q (F0 mid pc ls (S.map (mm_tr (mm_ad N0 sp)))) := by
  obtain ⟨hx, hb, hml, hown, hts, hnm, hAt, hR, hN, hz⟩ := C
  unfold mm_bL at hst
  split at hst
  · next y x r =>
    cases hst
    refine lv_land hx hb hd ?_
    exact kk _ _ _ _ _ hH hS hL hc hsl
  · cases hst
theorem so_lor (C : mm_Cx p s mid args meth c R j D cA N0 sp nb) (hd : decode (mm_b j) pc = .ok (.lor, 1)) (hst : mm_bL (fun x y => x ||| y) (pc + 1) L S m = some (.inl q)) (hH : mm_Hp D cA N0 sp m s H) (hS : va_S (fun x => N0 ≤ x) s.heap H locs) (hL : mm_LS (mm_ad N0 sp) (mm_mx j) ls L) (hc : mm_nc m = nb + cells) (hsl : mm_ns m = sb + slots) (kk : mm_KK p l e R s mid args below meth c Q D cA N0 sp j nb sb q) : W p l e R s mid args below meth c H locs cells slots Q (F0 mid pc ls (S.map (mm_tr (mm_ad N0 sp)))) := by
  obtain ⟨hx, hb, hml, hown, hts, hnm, hAt, hR, hN, hz⟩ := C
  unfold mm_bL at hst
  split at hst
  · next y x r =>
    cases hst
    refine lv_lor hx hb hd ?_
    exact kk _ _ _ _ _ hH hS hL hc hsl
  · cases hst
theorem so_ldiv (C : mm_Cx p s mid args meth c R j D cA N0 sp nb) (hd : decode (mm_b j) pc = .ok (.ldiv, 1)) (hst : mm_dL (fun x y => x / y) (pc + 1) L S m = some (.inl q)) (hH : mm_Hp D cA N0 sp m s H) (hS : va_S (fun x => N0 ≤ x) s.heap H locs) (hL : mm_LS (mm_ad N0 sp) (mm_mx j) ls L) (hc : mm_nc m = nb + cells) (hsl : mm_ns m = sb + slots) (kk : mm_KK p l e R s mid args below meth c Q D cA N0 sp j nb sb q) : W p l e R s mid args below meth c H locs cells slots Q (F0 mid pc ls (S.map (mm_tr (mm_ad N0 sp)))) := by
  obtain ⟨hx, hb, hml, hown, hts, hnm, hAt, hR, hN, hz⟩ := C
  unfold mm_dL at hst
  split at hst
  · next y x r =>
    split at hst
    · cases hst
    · next hne =>
      cases hst
      refine lv_ldiv hx hb hd hne ?_
      exact kk _ _ _ _ _ hH hS hL hc hsl
  · cases hst
theorem so_lrem (C : mm_Cx p s mid args meth c R j D cA N0 sp nb) (hd : decode (mm_b j) pc = .ok (.lrem, 1)) (hst : mm_dL (fun x y => x - x / y * y) (pc + 1) L S m = some (.inl q)) (hH : mm_Hp D cA N0 sp m s H) (hS : va_S (fun x => N0 ≤ x) s.heap H locs) (hL : mm_LS (mm_ad N0 sp) (mm_mx j) ls L) (hc : mm_nc m = nb + cells) (hsl : mm_ns m = sb + slots) (kk : mm_KK p l e R s mid args below meth c Q D cA N0 sp j nb sb q) : W p l e R s mid args below meth c H locs cells slots Q (F0 mid pc ls (S.map (mm_tr (mm_ad N0 sp)))) := by
  obtain ⟨hx, hb, hml, hown, hts, hnm, hAt, hR, hN, hz⟩ := C
  unfold mm_dL at hst
  split at hst
  · next y x r =>
    split at hst
    · cases hst
    · next hne =>
      cases hst
      refine lv_lrem hx hb hd hne ?_
      exact kk _ _ _ _ _ hH hS hL hc hsl
  · cases hst
theorem so_lshl (C : mm_Cx p s mid args meth c R j D cA N0 sp nb) (hd : decode (mm_b j) pc = .ok (.lshl, 1)) (hst : mm_hL (fun x y => x <<< (y.toInt64 &&& 63)) (pc + 1) L S m = some (.inl q)) (hH : mm_Hp D cA N0 sp m s H) (hS : va_S (fun x => N0 ≤ x) s.heap H locs) (hL : mm_LS (mm_ad N0 sp) (mm_mx j) ls L) (hc : mm_nc m = nb + cells) (hsl : mm_ns m = sb + slots) (kk : mm_KK p l e R s mid args below meth c Q D cA N0 sp j nb sb q) : W p l e R s mid args below meth c H locs cells slots Q (F0 mid pc ls (S.map (mm_tr (mm_ad N0 sp)))) := by
  obtain ⟨hx, hb, hml, hown, hts, hnm, hAt, hR, hN, hz⟩ := C
  unfold mm_hL at hst
  split at hst
  · next y x r =>
    cases hst
    refine lv_lshl hx hb hd rfl ?_
    exact kk _ _ _ _ _ hH hS hL hc hsl
  · cases hst
theorem so_lshr (C : mm_Cx p s mid args meth c R j D cA N0 sp nb) (hd : decode (mm_b j) pc = .ok (.lshr, 1)) (hst : mm_hL (fun x y => x >>> (y.toInt64 &&& 63)) (pc + 1) L S m = some (.inl q)) (hH : mm_Hp D cA N0 sp m s H) (hS : va_S (fun x => N0 ≤ x) s.heap H locs) (hL : mm_LS (mm_ad N0 sp) (mm_mx j) ls L) (hc : mm_nc m = nb + cells) (hsl : mm_ns m = sb + slots) (kk : mm_KK p l e R s mid args below meth c Q D cA N0 sp j nb sb q) : W p l e R s mid args below meth c H locs cells slots Q (F0 mid pc ls (S.map (mm_tr (mm_ad N0 sp)))) := by
  obtain ⟨hx, hb, hml, hown, hts, hnm, hAt, hR, hN, hz⟩ := C
  unfold mm_hL at hst
  split at hst
  · next y x r =>
    cases hst
    refine lv_lshr hx hb hd rfl ?_
    exact kk _ _ _ _ _ hH hS hL hc hsl
  · cases hst
theorem so_lushr (C : mm_Cx p s mid args meth c R j D cA N0 sp nb) (hd : decode (mm_b j) pc = .ok (.lushr, 1)) (hst : mm_hL (fun x y => (x.toUInt64 >>> (y.toInt64.toUInt64 &&& Int64.toUInt64 63)).toInt64) (pc + 1) L S m = some (.inl q)) (hH : mm_Hp D cA N0 sp m s H) (hS : va_S (fun x => N0 ≤ x) s.heap H locs) (hL : mm_LS (mm_ad N0 sp) (mm_mx j) ls L) (hc : mm_nc m = nb + cells) (hsl : mm_ns m = sb + slots) (kk : mm_KK p l e R s mid args below meth c Q D cA N0 sp j nb sb q) : W p l e R s mid args below meth c H locs cells slots Q (F0 mid pc ls (S.map (mm_tr (mm_ad N0 sp)))) := by
  obtain ⟨hx, hb, hml, hown, hts, hnm, hAt, hR, hN, hz⟩ := C
  unfold mm_hL at hst
  split at hst
  · next y x r =>
    cases hst
    refine lv_lushr hx hb hd rfl ?_
    exact kk _ _ _ _ _ hH hS hL hc hsl
  · cases hst
theorem so_lcmp (C : mm_Cx p s mid args meth c R j D cA N0 sp nb) (hd : decode (mm_b j) pc = .ok (.lcmp, 1)) (hst : mm_cL (pc + 1) L S m = some (.inl q)) (hH : mm_Hp D cA N0 sp m s H) (hS : va_S (fun x => N0 ≤ x) s.heap H locs) (hL : mm_LS (mm_ad N0 sp) (mm_mx j) ls L) (hc : mm_nc m = nb + cells) (hsl : mm_ns m = sb + slots) (kk : mm_KK p l e R s mid args below meth c Q D cA N0 sp j nb sb q) : W p l e R s mid args below meth c H locs cells slots Q (F0 mid pc ls (S.map (mm_tr (mm_ad N0 sp)))) := by
  obtain ⟨hx, hb, hml, hown, hts, hnm, hAt, hR, hN, hz⟩ := C
  unfold mm_cL at hst
  split at hst
  · next y x r =>
    cases hst
    refine W.lcmp hx hb hd ?_
    exact kk _ _ _ _ _ hH hS hL hc hsl
  · cases hst
theorem so_ineg (C : mm_Cx p s mid args meth c R j D cA N0 sp nb) (hd : decode (mm_b j) pc = .ok (.ineg, 1)) (hst : mm_1I (fun x => .int (-x)) (pc + 1) L S m = some (.inl q)) (hH : mm_Hp D cA N0 sp m s H) (hS : va_S (fun x => N0 ≤ x) s.heap H locs) (hL : mm_LS (mm_ad N0 sp) (mm_mx j) ls L) (hc : mm_nc m = nb + cells) (hsl : mm_ns m = sb + slots) (kk : mm_KK p l e R s mid args below meth c Q D cA N0 sp j nb sb q) : W p l e R s mid args below meth c H locs cells slots Q (F0 mid pc ls (S.map (mm_tr (mm_ad N0 sp)))) := by
  obtain ⟨hx, hb, hml, hown, hts, hnm, hAt, hR, hN, hz⟩ := C
  unfold mm_1I at hst
  split at hst
  · next x r =>
    cases hst
    refine lv_ineg hx hb hd ?_
    exact kk _ _ _ _ _ hH hS hL hc hsl
  · cases hst
theorem so_i2l (C : mm_Cx p s mid args meth c R j D cA N0 sp nb) (hd : decode (mm_b j) pc = .ok (.i2l, 1)) (hst : mm_1I (fun x => .long x.toInt64) (pc + 1) L S m = some (.inl q)) (hH : mm_Hp D cA N0 sp m s H) (hS : va_S (fun x => N0 ≤ x) s.heap H locs) (hL : mm_LS (mm_ad N0 sp) (mm_mx j) ls L) (hc : mm_nc m = nb + cells) (hsl : mm_ns m = sb + slots) (kk : mm_KK p l e R s mid args below meth c Q D cA N0 sp j nb sb q) : W p l e R s mid args below meth c H locs cells slots Q (F0 mid pc ls (S.map (mm_tr (mm_ad N0 sp)))) := by
  obtain ⟨hx, hb, hml, hown, hts, hnm, hAt, hR, hN, hz⟩ := C
  unfold mm_1I at hst
  split at hst
  · next x r =>
    cases hst
    refine lv_i2l hx hb hd rfl ?_
    exact kk _ _ _ _ _ hH hS hL hc hsl
  · cases hst
theorem so_l2i (C : mm_Cx p s mid args meth c R j D cA N0 sp nb) (hd : decode (mm_b j) pc = .ok (.l2i, 1)) (hst : mm_1L (fun x => .int x.toInt32) (pc + 1) L S m = some (.inl q)) (hH : mm_Hp D cA N0 sp m s H) (hS : va_S (fun x => N0 ≤ x) s.heap H locs) (hL : mm_LS (mm_ad N0 sp) (mm_mx j) ls L) (hc : mm_nc m = nb + cells) (hsl : mm_ns m = sb + slots) (kk : mm_KK p l e R s mid args below meth c Q D cA N0 sp j nb sb q) : W p l e R s mid args below meth c H locs cells slots Q (F0 mid pc ls (S.map (mm_tr (mm_ad N0 sp)))) := by
  obtain ⟨hx, hb, hml, hown, hts, hnm, hAt, hR, hN, hz⟩ := C
  unfold mm_1L at hst
  split at hst
  · next x r =>
    cases hst
    refine lv_l2i hx hb hd rfl ?_
    exact kk _ _ _ _ _ hH hS hL hc hsl
  · cases hst
theorem so_i2b (C : mm_Cx p s mid args meth c R j D cA N0 sp nb) (hd : decode (mm_b j) pc = .ok (.i2b, 1)) (hst : mm_1I (fun x => .int x.toInt8.toInt32) (pc + 1) L S m = some (.inl q)) (hH : mm_Hp D cA N0 sp m s H) (hS : va_S (fun x => N0 ≤ x) s.heap H locs) (hL : mm_LS (mm_ad N0 sp) (mm_mx j) ls L) (hc : mm_nc m = nb + cells) (hsl : mm_ns m = sb + slots) (kk : mm_KK p l e R s mid args below meth c Q D cA N0 sp j nb sb q) : W p l e R s mid args below meth c H locs cells slots Q (F0 mid pc ls (S.map (mm_tr (mm_ad N0 sp)))) := by
  obtain ⟨hx, hb, hml, hown, hts, hnm, hAt, hR, hN, hz⟩ := C
  unfold mm_1I at hst
  split at hst
  · next x r =>
    cases hst
    refine lv_i2b hx hb hd rfl ?_
    exact kk _ _ _ _ _ hH hS hL hc hsl
  · cases hst
theorem so_i2c (C : mm_Cx p s mid args meth c R j D cA N0 sp nb) (hd : decode (mm_b j) pc = .ok (.i2c, 1)) (hst : mm_1I (fun x => .int (x.toUInt32 % 65536).toInt32) (pc + 1) L S m = some (.inl q)) (hH : mm_Hp D cA N0 sp m s H) (hS : va_S (fun x => N0 ≤ x) s.heap H locs) (hL : mm_LS (mm_ad N0 sp) (mm_mx j) ls L) (hc : mm_nc m = nb + cells) (hsl : mm_ns m = sb + slots) (kk : mm_KK p l e R s mid args below meth c Q D cA N0 sp j nb sb q) : W p l e R s mid args below meth c H locs cells slots Q (F0 mid pc ls (S.map (mm_tr (mm_ad N0 sp)))) := by
  obtain ⟨hx, hb, hml, hown, hts, hnm, hAt, hR, hN, hz⟩ := C
  unfold mm_1I at hst
  split at hst
  · next x r =>
    cases hst
    refine lv_i2c hx hb hd rfl ?_
    exact kk _ _ _ _ _ hH hS hL hc hsl
  · cases hst
theorem so_dup (C : mm_Cx p s mid args meth c R j D cA N0 sp nb) (hd : decode (mm_b j) pc = .ok (.dup, 1)) (hst : mm_dup (pc + 1) L S m = some (.inl q)) (hH : mm_Hp D cA N0 sp m s H) (hS : va_S (fun x => N0 ≤ x) s.heap H locs) (hL : mm_LS (mm_ad N0 sp) (mm_mx j) ls L) (hc : mm_nc m = nb + cells) (hsl : mm_ns m = sb + slots) (kk : mm_KK p l e R s mid args below meth c Q D cA N0 sp j nb sb q) : W p l e R s mid args below meth c H locs cells slots Q (F0 mid pc ls (S.map (mm_tr (mm_ad N0 sp)))) := by
  obtain ⟨hx, hb, hml, hown, hts, hnm, hAt, hR, hN, hz⟩ := C
  unfold mm_dup at hst
  split at hst
  · next v r =>
    split at hst
    · next hv =>
      cases hst
      refine lv_dup hx hb hd (by rw [mm_tr_cat]; exact hv) ?_
      exact kk _ _ _ _ _ hH hS hL hc hsl
    · cases hst
  · cases hst
theorem so_dup2 (C : mm_Cx p s mid args meth c R j D cA N0 sp nb) (hd : decode (mm_b j) pc = .ok (.dup2, 1)) (hst : mm_dup2 (pc + 1) L S m = some (.inl q)) (hH : mm_Hp D cA N0 sp m s H) (hS : va_S (fun x => N0 ≤ x) s.heap H locs) (hL : mm_LS (mm_ad N0 sp) (mm_mx j) ls L) (hc : mm_nc m = nb + cells) (hsl : mm_ns m = sb + slots) (kk : mm_KK p l e R s mid args below meth c Q D cA N0 sp j nb sb q) : W p l e R s mid args below meth c H locs cells slots Q (F0 mid pc ls (S.map (mm_tr (mm_ad N0 sp)))) := by
  obtain ⟨hx, hb, hml, hown, hts, hnm, hAt, hR, hN, hz⟩ := C
  unfold mm_dup2 at hst
  split at hst
  · next v w r =>
    split at hst
    · next hv =>
      cases hst
      refine lv_dup2_11 hx hb hd (by rw [mm_tr_cat]; exact hv.1) (by rw [mm_tr_cat]; exact hv.2) ?_
      exact kk _ _ _ _ _ hH hS hL hc hsl
    · cases hst
  · cases hst
theorem so_pop (C : mm_Cx p s mid args meth c R j D cA N0 sp nb) (hd : decode (mm_b j) pc = .ok (.pop, 1)) (hst : mm_pop (pc + 1) L S m = some (.inl q)) (hH : mm_Hp D cA N0 sp m s H) (hS : va_S (fun x => N0 ≤ x) s.heap H locs) (hL : mm_LS (mm_ad N0 sp) (mm_mx j) ls L) (hc : mm_nc m = nb + cells) (hsl : mm_ns m = sb + slots) (kk : mm_KK p l e R s mid args below meth c Q D cA N0 sp j nb sb q) : W p l e R s mid args below meth c H locs cells slots Q (F0 mid pc ls (S.map (mm_tr (mm_ad N0 sp)))) := by
  obtain ⟨hx, hb, hml, hown, hts, hnm, hAt, hR, hN, hz⟩ := C
  unfold mm_pop at hst
  split at hst
  · next v r =>
    split at hst
    · next hv =>
      cases hst
      refine lv_pop hx hb hd (by rw [mm_tr_cat]; exact hv) ?_
      exact kk _ _ _ _ _ hH hS hL hc hsl
    · cases hst
  · cases hst
theorem so_goto {off : Int} {t : Nat} (C : mm_Cx p s mid args meth c R j D cA N0 sp nb) (hd : decode (mm_b j) pc = .ok (.goto off, 3)) (ht : (pc : Int) + off = (t : Int)) (hst : mm_nx t L S m = some (.inl q)) (hH : mm_Hp D cA N0 sp m s H) (hS : va_S (fun x => N0 ≤ x) s.heap H locs) (hL : mm_LS (mm_ad N0 sp) (mm_mx j) ls L) (hc : mm_nc m = nb + cells) (hsl : mm_ns m = sb + slots) (kk : mm_KK p l e R s mid args below meth c Q D cA N0 sp j nb sb q) : W p l e R s mid args below meth c H locs cells slots Q (F0 mid pc ls (S.map (mm_tr (mm_ad N0 sp)))) := by
  obtain ⟨hx, hb, hml, hown, hts, hnm, hAt, hR, hN, hz⟩ := C
  cases hst
  refine lv_goto hx hb hd ht ?_
  exact kk _ _ _ _ _ hH hS hL hc hsl
theorem so_if_eq {off : Int} {t : Nat} (C : mm_Cx p s mid args meth c R j D cA N0 sp nb) (hd : decode (mm_b j) pc = .ok (.ifCond .eq off, 3)) (ht : (pc : Int) + off = (t : Int)) (hst : mm_if (fun x => mm_cd .eq x 0) t (pc + 3) L S m = some (.inl q)) (hH : mm_Hp D cA N0 sp m s H) (hS : va_S (fun x => N0 ≤ x) s.heap H locs) (hL : mm_LS (mm_ad N0 sp) (mm_mx j) ls L) (hc : mm_nc m = nb + cells) (hsl : mm_ns m = sb + slots) (kk : mm_KK p l e R s mid args below meth c Q D cA N0 sp j nb sb q) : W p l e R s mid args below meth c H locs cells slots Q (F0 mid pc ls (S.map (mm_tr (mm_ad N0 sp)))) := by
  obtain ⟨hx, hb, hml, hown, hts, hnm, hAt, hR, hN, hz⟩ := C
  unfold mm_if at hst
  split at hst
  · next x r =>
    refine lv_if_eq hx hb hd ht (fun h => ?_) (fun h => ?_)
    · simp only [mm_cd, decide_eq_true_eq] at hst
      rw [if_pos h] at hst
      cases hst
      exact kk _ _ _ _ _ hH hS hL hc hsl
    · simp only [mm_cd, decide_eq_true_eq] at hst
      rw [if_neg h] at hst
      cases hst
      exact kk _ _ _ _ _ hH hS hL hc hsl
  · cases hst
theorem so_icmp_eq {off : Int} {t : Nat} (C : mm_Cx p s mid args meth c R j D cA N0 sp nb) (hd : decode (mm_b j) pc = .ok (.if_icmp .eq off, 3)) (ht : (pc : Int) + off = (t : Int)) (hst : mm_ic (mm_cd .eq) t (pc + 3) L S m = some (.inl q)) (hH : mm_Hp D cA N0 sp m s H) (hS : va_S (fun x => N0 ≤ x) s.heap H locs) (hL : mm_LS (mm_ad N0 sp) (mm_mx j) ls L) (hc : mm_nc m = nb + cells) (hsl : mm_ns m = sb + slots) (kk : mm_KK p l e R s mid args below meth c Q D cA N0 sp j nb sb q) : W p l e R s mid args below meth c H locs cells slots Q (F0 mid pc ls (S.map (mm_tr (mm_ad N0 sp)))) := by
  obtain ⟨hx, hb, hml, hown, hts, hnm, hAt, hR, hN, hz⟩ := C
  unfold mm_ic at hst
  split at hst
  · next y x r =>
    refine lv_icmp_eq hx hb hd ht (fun h => ?_) (fun h => ?_)
    · simp only [mm_cd, decide_eq_true_eq] at hst
      rw [if_pos h] at hst
      cases hst
      exact kk _ _ _ _ _ hH hS hL hc hsl
    · simp only [mm_cd, decide_eq_true_eq] at hst
      rw [if_neg h] at hst
      cases hst
      exact kk _ _ _ _ _ hH hS hL hc hsl
  · cases hst
theorem so_if_ne {off : Int} {t : Nat} (C : mm_Cx p s mid args meth c R j D cA N0 sp nb) (hd : decode (mm_b j) pc = .ok (.ifCond .ne off, 3)) (ht : (pc : Int) + off = (t : Int)) (hst : mm_if (fun x => mm_cd .ne x 0) t (pc + 3) L S m = some (.inl q)) (hH : mm_Hp D cA N0 sp m s H) (hS : va_S (fun x => N0 ≤ x) s.heap H locs) (hL : mm_LS (mm_ad N0 sp) (mm_mx j) ls L) (hc : mm_nc m = nb + cells) (hsl : mm_ns m = sb + slots) (kk : mm_KK p l e R s mid args below meth c Q D cA N0 sp j nb sb q) : W p l e R s mid args below meth c H locs cells slots Q (F0 mid pc ls (S.map (mm_tr (mm_ad N0 sp)))) := by
  obtain ⟨hx, hb, hml, hown, hts, hnm, hAt, hR, hN, hz⟩ := C
  unfold mm_if at hst
  split at hst
  · next x r =>
    refine lv_if_ne hx hb hd ht (fun h => ?_) (fun h => ?_)
    · simp only [mm_cd, decide_eq_true_eq] at hst
      rw [if_pos h] at hst
      cases hst
      exact kk _ _ _ _ _ hH hS hL hc hsl
    · simp only [mm_cd, decide_eq_true_eq] at hst
      rw [if_neg (fun z => z h)] at hst
      cases hst
      exact kk _ _ _ _ _ hH hS hL hc hsl
  · cases hst
theorem so_icmp_ne {off : Int} {t : Nat} (C : mm_Cx p s mid args meth c R j D cA N0 sp nb) (hd : decode (mm_b j) pc = .ok (.if_icmp .ne off, 3)) (ht : (pc : Int) + off = (t : Int)) (hst : mm_ic (mm_cd .ne) t (pc + 3) L S m = some (.inl q)) (hH : mm_Hp D cA N0 sp m s H) (hS : va_S (fun x => N0 ≤ x) s.heap H locs) (hL : mm_LS (mm_ad N0 sp) (mm_mx j) ls L) (hc : mm_nc m = nb + cells) (hsl : mm_ns m = sb + slots) (kk : mm_KK p l e R s mid args below meth c Q D cA N0 sp j nb sb q) : W p l e R s mid args below meth c H locs cells slots Q (F0 mid pc ls (S.map (mm_tr (mm_ad N0 sp)))) := by
  obtain ⟨hx, hb, hml, hown, hts, hnm, hAt, hR, hN, hz⟩ := C
  unfold mm_ic at hst
  split at hst
  · next y x r =>
    refine lv_icmp_ne hx hb hd ht (fun h => ?_) (fun h => ?_)
    · simp only [mm_cd, decide_eq_true_eq] at hst
      rw [if_pos h] at hst
      cases hst
      exact kk _ _ _ _ _ hH hS hL hc hsl
    · simp only [mm_cd, decide_eq_true_eq] at hst
      rw [if_neg (fun z => z h)] at hst
      cases hst
      exact kk _ _ _ _ _ hH hS hL hc hsl
  · cases hst
theorem so_if_lt {off : Int} {t : Nat} (C : mm_Cx p s mid args meth c R j D cA N0 sp nb) (hd : decode (mm_b j) pc = .ok (.ifCond .lt off, 3)) (ht : (pc : Int) + off = (t : Int)) (hst : mm_if (fun x => mm_cd .lt x 0) t (pc + 3) L S m = some (.inl q)) (hH : mm_Hp D cA N0 sp m s H) (hS : va_S (fun x => N0 ≤ x) s.heap H locs) (hL : mm_LS (mm_ad N0 sp) (mm_mx j) ls L) (hc : mm_nc m = nb + cells) (hsl : mm_ns m = sb + slots) (kk : mm_KK p l e R s mid args below meth c Q D cA N0 sp j nb sb q) : W p l e R s mid args below meth c H locs cells slots Q (F0 mid pc ls (S.map (mm_tr (mm_ad N0 sp)))) := by
  obtain ⟨hx, hb, hml, hown, hts, hnm, hAt, hR, hN, hz⟩ := C
  unfold mm_if at hst
  split at hst
  · next x r =>
    refine lv_if_lt hx hb hd ht (fun h => ?_) (fun h => ?_)
    · simp only [mm_cd, decide_eq_true_eq] at hst
      rw [if_pos h] at hst
      cases hst
      exact kk _ _ _ _ _ hH hS hL hc hsl
    · simp only [mm_cd, decide_eq_true_eq] at hst
      rw [if_neg h] at hst
      cases hst
      exact kk _ _ _ _ _ hH hS hL hc hsl
  · cases hst
theorem so_icmp_lt {off : Int} {t : Nat} (C : mm_Cx p s mid args meth c R j D cA N0 sp nb) (hd : decode (mm_b j) pc = .ok (.if_icmp .lt off, 3)) (ht : (pc : Int) + off = (t : Int)) (hst : mm_ic (mm_cd .lt) t (pc + 3) L S m = some (.inl q)) (hH : mm_Hp D cA N0 sp m s H) (hS : va_S (fun x => N0 ≤ x) s.heap H locs) (hL : mm_LS (mm_ad N0 sp) (mm_mx j) ls L) (hc : mm_nc m = nb + cells) (hsl : mm_ns m = sb + slots) (kk : mm_KK p l e R s mid args below meth c Q D cA N0 sp j nb sb q) : W p l e R s mid args below meth c H locs cells slots Q (F0 mid pc ls (S.map (mm_tr (mm_ad N0 sp)))) := by
  obtain ⟨hx, hb, hml, hown, hts, hnm, hAt, hR, hN, hz⟩ := C
  unfold mm_ic at hst
  split at hst
  · next y x r =>
    refine lv_icmp_lt hx hb hd ht (fun h => ?_) (fun h => ?_)
    · simp only [mm_cd, decide_eq_true_eq] at hst
      rw [if_pos h] at hst
      cases hst
      exact kk _ _ _ _ _ hH hS hL hc hsl
    · simp only [mm_cd, decide_eq_true_eq] at hst
      rw [if_neg h] at hst
      cases hst
      exact kk _ _ _ _ _ hH hS hL hc hsl
  · cases hst
theorem so_if_ge {off : Int} {t : Nat} (C : mm_Cx p s mid args meth c R j D cA N0 sp nb) (hd : decode (mm_b j) pc = .ok (.ifCond .ge off, 3)) (ht : (pc : Int) + off = (t : Int)) (hst : mm_if (fun x => mm_cd .ge x 0) t (pc + 3) L S m = some (.inl q)) (hH : mm_Hp D cA N0 sp m s H) (hS : va_S (fun x => N0 ≤ x) s.heap H locs) (hL : mm_LS (mm_ad N0 sp) (mm_mx j) ls L) (hc : mm_nc m = nb + cells) (hsl : mm_ns m = sb + slots) (kk : mm_KK p l e R s mid args below meth c Q D cA N0 sp j nb sb q) : W p l e R s mid args below meth c H locs cells slots Q (F0 mid pc ls (S.map (mm_tr (mm_ad N0 sp)))) := by
  obtain ⟨hx, hb, hml, hown, hts, hnm, hAt, hR, hN, hz⟩ := C
  unfold mm_if at hst
  split at hst
  · next x r =>
    refine lv_if_ge hx hb hd ht (fun h => ?_) (fun h => ?_)
    · simp only [mm_cd, decide_eq_true_eq] at hst
      rw [if_pos h] at hst
      cases hst
      exact kk _ _ _ _ _ hH hS hL hc hsl
    · simp only [mm_cd, decide_eq_true_eq] at hst
      rw [if_neg h] at hst
      cases hst
      exact kk _ _ _ _ _ hH hS hL hc hsl
  · cases hst
theorem so_icmp_ge {off : Int} {t : Nat} (C : mm_Cx p s mid args meth c R j D cA N0 sp nb) (hd : decode (mm_b j) pc = .ok (.if_icmp .ge off, 3)) (ht : (pc : Int) + off = (t : Int)) (hst : mm_ic (mm_cd .ge) t (pc + 3) L S m = some (.inl q)) (hH : mm_Hp D cA N0 sp m s H) (hS : va_S (fun x => N0 ≤ x) s.heap H locs) (hL : mm_LS (mm_ad N0 sp) (mm_mx j) ls L) (hc : mm_nc m = nb + cells) (hsl : mm_ns m = sb + slots) (kk : mm_KK p l e R s mid args below meth c Q D cA N0 sp j nb sb q) : W p l e R s mid args below meth c H locs cells slots Q (F0 mid pc ls (S.map (mm_tr (mm_ad N0 sp)))) := by
  obtain ⟨hx, hb, hml, hown, hts, hnm, hAt, hR, hN, hz⟩ := C
  unfold mm_ic at hst
  split at hst
  · next y x r =>
    refine lv_icmp_ge hx hb hd ht (fun h => ?_) (fun h => ?_)
    · simp only [mm_cd, decide_eq_true_eq] at hst
      rw [if_pos h] at hst
      cases hst
      exact kk _ _ _ _ _ hH hS hL hc hsl
    · simp only [mm_cd, decide_eq_true_eq] at hst
      rw [if_neg h] at hst
      cases hst
      exact kk _ _ _ _ _ hH hS hL hc hsl
  · cases hst
theorem so_if_gt {off : Int} {t : Nat} (C : mm_Cx p s mid args meth c R j D cA N0 sp nb) (hd : decode (mm_b j) pc = .ok (.ifCond .gt off, 3)) (ht : (pc : Int) + off = (t : Int)) (hst : mm_if (fun x => mm_cd .gt x 0) t (pc + 3) L S m = some (.inl q)) (hH : mm_Hp D cA N0 sp m s H) (hS : va_S (fun x => N0 ≤ x) s.heap H locs) (hL : mm_LS (mm_ad N0 sp) (mm_mx j) ls L) (hc : mm_nc m = nb + cells) (hsl : mm_ns m = sb + slots) (kk : mm_KK p l e R s mid args below meth c Q D cA N0 sp j nb sb q) : W p l e R s mid args below meth c H locs cells slots Q (F0 mid pc ls (S.map (mm_tr (mm_ad N0 sp)))) := by
  obtain ⟨hx, hb, hml, hown, hts, hnm, hAt, hR, hN, hz⟩ := C
  unfold mm_if at hst
  split at hst
  · next x r =>
    refine lv_if_gt hx hb hd ht (fun h => ?_) (fun h => ?_)
    · simp only [mm_cd, decide_eq_true_eq] at hst
      rw [if_pos h] at hst
      cases hst
      exact kk _ _ _ _ _ hH hS hL hc hsl
    · simp only [mm_cd, decide_eq_true_eq] at hst
      rw [if_neg h] at hst
      cases hst
      exact kk _ _ _ _ _ hH hS hL hc hsl
  · cases hst
theorem so_icmp_gt {off : Int} {t : Nat} (C : mm_Cx p s mid args meth c R j D cA N0 sp nb) (hd : decode (mm_b j) pc = .ok (.if_icmp .gt off, 3)) (ht : (pc : Int) + off = (t : Int)) (hst : mm_ic (mm_cd .gt) t (pc + 3) L S m = some (.inl q)) (hH : mm_Hp D cA N0 sp m s H) (hS : va_S (fun x => N0 ≤ x) s.heap H locs) (hL : mm_LS (mm_ad N0 sp) (mm_mx j) ls L) (hc : mm_nc m = nb + cells) (hsl : mm_ns m = sb + slots) (kk : mm_KK p l e R s mid args below meth c Q D cA N0 sp j nb sb q) : W p l e R s mid args below meth c H locs cells slots Q (F0 mid pc ls (S.map (mm_tr (mm_ad N0 sp)))) := by
  obtain ⟨hx, hb, hml, hown, hts, hnm, hAt, hR, hN, hz⟩ := C
  unfold mm_ic at hst
  split at hst
  · next y x r =>
    refine lv_icmp_gt hx hb hd ht (fun h => ?_) (fun h => ?_)
    · simp only [mm_cd, decide_eq_true_eq] at hst
      rw [if_pos h] at hst
      cases hst
      exact kk _ _ _ _ _ hH hS hL hc hsl
    · simp only [mm_cd, decide_eq_true_eq] at hst
      rw [if_neg h] at hst
      cases hst
      exact kk _ _ _ _ _ hH hS hL hc hsl
  · cases hst
theorem so_if_le {off : Int} {t : Nat} (C : mm_Cx p s mid args meth c R j D cA N0 sp nb) (hd : decode (mm_b j) pc = .ok (.ifCond .le off, 3)) (ht : (pc : Int) + off = (t : Int)) (hst : mm_if (fun x => mm_cd .le x 0) t (pc + 3) L S m = some (.inl q)) (hH : mm_Hp D cA N0 sp m s H) (hS : va_S (fun x => N0 ≤ x) s.heap H locs) (hL : mm_LS (mm_ad N0 sp) (mm_mx j) ls L) (hc : mm_nc m = nb + cells) (hsl : mm_ns m = sb + slots) (kk : mm_KK p l e R s mid args below meth c Q D cA N0 sp j nb sb q) : W p l e R s mid args below meth c H locs cells slots Q (F0 mid pc ls (S.map (mm_tr (mm_ad N0 sp)))) := by
  obtain ⟨hx, hb, hml, hown, hts, hnm, hAt, hR, hN, hz⟩ := C
  unfold mm_if at hst
  split at hst
  · next x r =>
    refine lv_if_le hx hb hd ht (fun h => ?_) (fun h => ?_)
    · simp only [mm_cd, decide_eq_true_eq] at hst
      rw [if_pos h] at hst
      cases hst
      exact kk _ _ _ _ _ hH hS hL hc hsl
    · simp only [mm_cd, decide_eq_true_eq] at hst
      rw [if_neg h] at hst
      cases hst
      exact kk _ _ _ _ _ hH hS hL hc hsl
  · cases hst
theorem so_icmp_le {off : Int} {t : Nat} (C : mm_Cx p s mid args meth c R j D cA N0 sp nb) (hd : decode (mm_b j) pc = .ok (.if_icmp .le off, 3)) (ht : (pc : Int) + off = (t : Int)) (hst : mm_ic (mm_cd .le) t (pc + 3) L S m = some (.inl q)) (hH : mm_Hp D cA N0 sp m s H) (hS : va_S (fun x => N0 ≤ x) s.heap H locs) (hL : mm_LS (mm_ad N0 sp) (mm_mx j) ls L) (hc : mm_nc m = nb + cells) (hsl : mm_ns m = sb + slots) (kk : mm_KK p l e R s mid args below meth c Q D cA N0 sp j nb sb q) : W p l e R s mid args below meth c H locs cells slots Q (F0 mid pc ls (S.map (mm_tr (mm_ad N0 sp)))) := by
  obtain ⟨hx, hb, hml, hown, hts, hnm, hAt, hR, hN, hz⟩ := C
  unfold mm_ic at hst
  split at hst
  · next y x r =>
    refine lv_icmp_le hx hb hd ht (fun h => ?_) (fun h => ?_)
    · simp only [mm_cd, decide_eq_true_eq] at hst
      rw [if_pos h] at hst
      cases hst
      exact kk _ _ _ _ _ hH hS hL hc hsl
    · simp only [mm_cd, decide_eq_true_eq] at hst
      rw [if_neg h] at hst
      cases hst
      exact kk _ _ _ _ _ hH hS hL hc hsl
  · cases hst
theorem so_tsw {d lo hi : Int} {offs : Array Int} {len : Nat} (C : mm_Cx p s mid args meth c R j D cA N0 sp nb) (hd : decode (mm_b j) pc = .ok (.tableswitch d lo hi offs, len)) (ht : 0 ≤ (pc : Int) + d ∧ ∀ o ∈ offs.toList, 0 ≤ (pc : Int) + o) (hst : mm_tsw d lo hi offs pc L S m = some (.inl q)) (hH : mm_Hp D cA N0 sp m s H) (hS : va_S (fun x => N0 ≤ x) s.heap H locs) (hL : mm_LS (mm_ad N0 sp) (mm_mx j) ls L) (hc : mm_nc m = nb + cells) (hsl : mm_ns m = sb + slots) (kk : mm_KK p l e R s mid args below meth c Q D cA N0 sp j nb sb q) : W p l e R s mid args below meth c H locs cells slots Q (F0 mid pc ls (S.map (mm_tr (mm_ad N0 sp)))) := by
  obtain ⟨hx, hb, hml, hown, hts, hnm, hAt, hR, hN, hz⟩ := C
  unfold mm_tsw at hst
  split at hst
  · next x r =>
    split at hst
    · next hx2 =>
      cases hst
      refine lv_tableOut hx hb hd hx2 (by omega : (pc : Int) + d = ((((pc : Int) + d).toNat : Nat) : Int)) ?_
      exact kk _ _ _ _ _ hH hS hL hc hsl
    · next hx2 =>
      split at hst
      · next o ho =>
        cases hst
        have h0 : 0 ≤ (pc : Int) + o := ht.2 o (List.mem_of_getElem? (by rw [Array.getElem?_toList]; exact ho))
        refine lv_tableIn hx hb hd (fun z => hx2 (Or.inl z)) (fun z => hx2 (Or.inr z)) ho (by omega : (pc : Int) + o = ((((pc : Int) + o).toNat : Nat) : Int)) ?_
        exact kk _ _ _ _ _ hH hS hL hc hsl
      · cases hst
  · cases hst
theorem mm_lsw_in (d : Int) (x : Int) : ∀ ps : List (Int × Int), Op.lookupswitch.offset ps d x = d ∨ ∃ q ∈ ps, Op.lookupswitch.offset ps d x = q.2
  | [] => Or.inl rfl
  | (a, b) :: r => by
    unfold Op.lookupswitch.offset
    split
    · exact Or.inr ⟨(a, b), List.mem_cons_self, rfl⟩
    · rcases mm_lsw_in d x r with h | ⟨q, h1, h2⟩
      · exact Or.inl h
      · exact Or.inr ⟨q, List.mem_cons_of_mem _ h1, h2⟩
theorem so_lsw {d : Int} {ps : Array (Int × Int)} {len : Nat} (C : mm_Cx p s mid args meth c R j D cA N0 sp nb) (hd : decode (mm_b j) pc = .ok (.lookupswitch d ps, len)) (ht : (ps.toList.zip (ps.toList.drop 1)).all (fun (a, next) => a.1 < next.1) = true ∧ 0 ≤ (pc : Int) + d ∧ ∀ o ∈ ps.toList, 0 ≤ (pc : Int) + o.2) (hst : mm_lsw d ps pc L S m = some (.inl q)) (hH : mm_Hp D cA N0 sp m s H) (hS : va_S (fun x => N0 ≤ x) s.heap H locs) (hL : mm_LS (mm_ad N0 sp) (mm_mx j) ls L) (hc : mm_nc m = nb + cells) (hsl : mm_ns m = sb + slots) (kk : mm_KK p l e R s mid args below meth c Q D cA N0 sp j nb sb q) : W p l e R s mid args below meth c H locs cells slots Q (F0 mid pc ls (S.map (mm_tr (mm_ad N0 sp)))) := by
  obtain ⟨hx, hb, hml, hown, hts, hnm, hAt, hR, hN, hz⟩ := C
  unfold mm_lsw at hst
  split at hst
  · next x r =>
    cases hst
    have h0 : 0 ≤ (pc : Int) + Op.lookupswitch.offset ps.toList d x.toInt := by
      rcases mm_lsw_in d x.toInt ps.toList with h | ⟨q, h1, h2⟩
      · rw [h]; exact ht.2.1
      · rw [h2]; exact ht.2.2 q h1
    refine lv_lookup hx hb hd ht.1 rfl (by omega : (pc : Int) + Op.lookupswitch.offset ps.toList d x.toInt = ((((pc : Int) + Op.lookupswitch.offset ps.toList d x.toInt).toNat : Nat) : Int)) ?_
    exact kk _ _ _ _ _ hH hS hL hc hsl
  · cases hst
end SO
