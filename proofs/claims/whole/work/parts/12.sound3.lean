def mm_aty : Nat → FieldType
  | 20 => .int
  | 21 => .long
  | 22 => .boolean
  | 23 => .char
  | 24 => .object "SamePassers$Hands"
  | 25 => .object "SamePassers$Papers"
  | 26 => .object "SamePassers$Walker"
  | _ => .array .int
theorem mm_tys_get (cA : Nat → ClassId) : ∀ k : Nat, 20 ≤ k → k ≤ 27 → (mm_tys cA)[k - 20]? = some (cA k, mm_aty k)
  | 20, _, _ => rfl
  | 21, _, _ => rfl
  | 22, _, _ => rfl
  | 23, _, _ => rfl
  | 24, _, _ => rfl
  | 25, _, _ => rfl
  | 26, _, _ => rfl
  | 27, _, _ => rfl
  | 0, h, _ => absurd h (by omega)
  | 1, h, _ => absurd h (by omega)
  | 2, h, _ => absurd h (by omega)
  | 3, h, _ => absurd h (by omega)
  | 4, h, _ => absurd h (by omega)
  | 5, h, _ => absurd h (by omega)
  | 6, h, _ => absurd h (by omega)
  | 7, h, _ => absurd h (by omega)
  | 8, h, _ => absurd h (by omega)
  | 9, h, _ => absurd h (by omega)
  | 10, h, _ => absurd h (by omega)
  | 11, h, _ => absurd h (by omega)
  | 12, h, _ => absurd h (by omega)
  | 13, h, _ => absurd h (by omega)
  | 14, h, _ => absurd h (by omega)
  | 15, h, _ => absurd h (by omega)
  | 16, h, _ => absurd h (by omega)
  | 17, h, _ => absurd h (by omega)
  | 18, h, _ => absurd h (by omega)
  | 19, h, _ => absurd h (by omega)
  | _ + 28, _, h => absurd h (by omega)
theorem mm_aty_ref : ∀ k : Nat, 24 ≤ k → (mm_aty k).isReference = true
  | 24, _ => rfl
  | 25, _ => rfl
  | 26, _ => rfl
  | 27, _ => rfl
  | _ + 28, _ => rfl
  | 0, h => absurd h (by omega)
  | 1, h => absurd h (by omega)
  | 2, h => absurd h (by omega)
  | 3, h => absurd h (by omega)
  | 4, h => absurd h (by omega)
  | 5, h => absurd h (by omega)
  | 6, h => absurd h (by omega)
  | 7, h => absurd h (by omega)
  | 8, h => absurd h (by omega)
  | 9, h => absurd h (by omega)
  | 10, h => absurd h (by omega)
  | 11, h => absurd h (by omega)
  | 12, h => absurd h (by omega)
  | 13, h => absurd h (by omega)
  | 14, h => absurd h (by omega)
  | 15, h => absurd h (by omega)
  | 16, h => absurd h (by omega)
  | 17, h => absurd h (by omega)
  | 18, h => absurd h (by omega)
  | 19, h => absurd h (by omega)
  | 20, h => absurd h (by omega)
  | 21, h => absurd h (by omega)
  | 22, h => absurd h (by omega)
  | 23, h => absurd h (by omega)
theorem mm_in_vp {i : Int32} {n : Nat} (h : mm_in i n = true) : vp_in i n := by
  unfold mm_in at h
  show ¬ (i < 0 ∨ n ≤ i.toNatClampNeg)
  exact of_decide_eq_true h
theorem mm_sh0 {m : mm_M} {s : Nat × Nat} (h : mm_sh m 0 = some s) : s = (20, m.2.1.2) := by
  unfold mm_sh at h
  rw [if_pos rfl] at h
  cases h
  rfl
theorem mm_sh_by {m : mm_M} {a : Nat} (h : 50 ≤ a ∧ a ≤ 55) : mm_sh m a = some (31, (mm_str (a - 49)).length) := by
  unfold mm_sh
  rw [if_neg (by omega), if_pos (by omega), if_neg (by omega), if_pos h]
theorem mm_ad_by {N0 : Nat} {sp : Nat → Nat} {a : Nat} (h : 50 ≤ a ∧ a ≤ 55) : mm_ad N0 sp a = sp (50 + (a - 50)) ∧ a - 50 < 6 ∧ a - 50 + 1 = a - 49 := by
  refine ⟨?_, by omega, by omega⟩
  unfold mm_ad
  rw [if_pos (by omega), show 50 + (a - 50) = a by omega]
theorem mm_ad_st {N0 : Nat} {sp : Nat → Nat} {a : Nat} (h : 1 ≤ a ∧ a ≤ 6) : mm_ad N0 sp a = sp (a - 1 + 1) ∧ a - 1 < 6 ∧ mm_ad N0 sp (49 + a) = sp (50 + (a - 1)) := by
  refine ⟨?_, by omega, ?_⟩
  · unfold mm_ad
    rw [if_pos (by omega), show a - 1 + 1 = a by omega]
  · unfold mm_ad
    rw [if_pos (by omega), show 50 + (a - 1) = 49 + a by omega]
theorem mm_sln_e : ∀ i : Nat, i < 6 → mm_sln.getD i 0 = (mm_str (i + 1)).length := by decide +kernel
theorem mm_mapD (l : List Nat) (k : Nat) : (l.map nI).getD k 0 = nI (l.getD k 0) := by
  rw [List.getD_eq_getElem?_getD, List.getD_eq_getElem?_getD, List.getElem?_map]
  cases l[k]? with
  | none => exact nI_0.symm
  | some x => rfl
theorem mm_sby_e : ∀ i : Nat, i < 6 → ∀ k : Nat, ((mm_sby.getD i []).getD k 0 : Int32) = nI ((mm_str (i + 1)).getD k 0)
  | 0, _, k => mm_mapD _ k
  | 1, _, k => mm_mapD _ k
  | 2, _, k => mm_mapD _ k
  | 3, _, k => mm_mapD _ k
  | 4, _, k => mm_mapD _ k
  | 5, _, k => mm_mapD _ k
  | _ + 6, h, _ => absurd h (by omega)
section SO3
variable {p : Program} {l : Launch} {e : Env} {R : Room} {s : State} {mid : MethodId} {args : Array Value} {below : List Frame} {meth : Method} {c : Code} {Q : State → Prop} {D : va_G} {cA : Nat → ClassId} {N0 : Nat} {sp : Nat → Nat} {j nb sb : Nat}
variable {H : Heap} {locs : List Loc} {cells slots pc : Nat} {ls : Array Slot} {L : mm_L} {S : List Value} {m : mm_M} {q : Nat × mm_L × List Value × mm_M}
theorem mm_after {m' : mm_M} {pc' : Nat} {L' : mm_L} {r : List Value} {a : Nat} {sh : Nat × Nat} {en : va_E} {H1 : Heap} {locs1 : List Loc} (hN : N0 ≤ s.heap.size) (ha : 100 ≤ a) (hm1 : m.1[a - 100]? = some sh) (e1 : m'.1 = m.1) (e2 : m'.2.1 = m.2.1) (he : en = mm_cel m' (mm_ad N0 sp) cA a sh)
    (ho2 : ∀ b : Nat, b ≠ a → m'.2.2.1 b = m.2.2.1 b ∧ m'.2.2.2.1 b = m.2.2.2.1 b ∧ m'.2.2.2.2 b = m.2.2.2.2 b) (hH : mm_Hp D cA N0 sp m s H) (hS : va_S (fun x => N0 ≤ x) s.heap H locs) (hL : mm_LS (mm_ad N0 sp) (mm_mx j) ls L') (hc : mm_nc m = nb + cells) (hsl : mm_ns m = sb + slots)
    (kk : mm_KK p l e R s mid args below meth c Q D cA N0 sp j nb sb (pc', L', r, m')) (hP1 : va_P D vwCl ((mm_ws m (mm_ad N0 sp) cA).set (a - 100) (mm_ad N0 sp a, en)) H1) (hS1 : va_S (fun x => N0 ≤ x) s.heap H1 locs1) : W p l e R s mid args below meth c H1 locs1 cells slots Q (F0 mid pc' ls (r.map (mm_tr (mm_ad N0 sp)))) := by
  rw [mm_ws_set ha hm1 e1 he ho2] at hP1
  refine kk H1 locs1 ls cells slots (hH.to hN hS hS1 hP1 e2 (ho2 0 (by omega)).1 (ho2 99 (by omega)).2.2) hS1 hL ?_ ?_
  · unfold mm_nc at hc ⊢
    dsimp only
    rw [e1, e2]; exact hc
  · unfold mm_ns at hsl ⊢
    dsimp only
    rw [e1, e2]; exact hsl
theorem so_iaload (C : mm_Cx p s mid args meth c R j D cA N0 sp nb) (hd : decode (mm_b j) pc = .ok (.iaload, 1)) (hst : mm_ald 20 (fun a i => .int (mm_gI m a i)) (pc + 1) L S m = some (.inl q)) (hH : mm_Hp D cA N0 sp m s H) (hS : va_S (fun x => N0 ≤ x) s.heap H locs) (hL : mm_LS (mm_ad N0 sp) (mm_mx j) ls L) (hc : mm_nc m = nb + cells) (hsl : mm_ns m = sb + slots) (kk : mm_KK p l e R s mid args below meth c Q D cA N0 sp j nb sb q) : W p l e R s mid args below meth c H locs cells slots Q (F0 mid pc ls (S.map (mm_tr (mm_ad N0 sp)))) := by
  obtain ⟨hx, hb, hml, hown, hts, hnm, hAt, hR, hN, hz⟩ := C
  unfold mm_ald at hst
  split at hst
  · next i a r =>
    split at hst
    · next sh hsh =>
      split at hst
      · next hs =>
        cases hst
        obtain ⟨hs1, hs2⟩ := hs
        have hin := mm_in_vp hs2
        by_cases ha0 : a = 0
        · subst ha0
          have hq := mm_sh0 hsh
          subst hq
          obtain ⟨scr, h1, h2, h3, h4, h5⟩ := hH.2.1
          have hlt : i.toNatClampNeg < m.2.1.2 := Nat.not_le.mp fun z => hin (Or.inr z)
          exact W.iald (v := .int (m.2.2.1 0 i.toNatClampNeg)) (a := mm_ad N0 sp 0) hx hb h1 h2 h3 (by rw [h4]; exact hin) (h5 _ hlt) rfl rfl hd (kk _ _ _ _ _ hH hS hL hc hsl)
        · obtain ⟨ha, hm1⟩ := mm_sh_hi hsh ha0 (by omega)
          have hg := mm_ws_get (ad := mm_ad N0 sp) (cA := cA) ha hm1
          rw [mm_cel_in (by omega), hs1] at hg
          exact va_iald hx hb hAt.1 hH.1 (a - 100) 0 hg rfl hin hd (kk _ _ _ _ _ hH hS hL hc hsl)
      · cases hst
    · cases hst
  · cases hst
theorem so_laload (C : mm_Cx p s mid args meth c R j D cA N0 sp nb) (hd : decode (mm_b j) pc = .ok (.laload, 1)) (hst : mm_ald 21 (fun a i => .long (mm_gL m a i)) (pc + 1) L S m = some (.inl q)) (hH : mm_Hp D cA N0 sp m s H) (hS : va_S (fun x => N0 ≤ x) s.heap H locs) (hL : mm_LS (mm_ad N0 sp) (mm_mx j) ls L) (hc : mm_nc m = nb + cells) (hsl : mm_ns m = sb + slots) (kk : mm_KK p l e R s mid args below meth c Q D cA N0 sp j nb sb q) : W p l e R s mid args below meth c H locs cells slots Q (F0 mid pc ls (S.map (mm_tr (mm_ad N0 sp)))) := by
  obtain ⟨hx, hb, hml, hown, hts, hnm, hAt, hR, hN, hz⟩ := C
  unfold mm_ald at hst
  split at hst
  · next i a r =>
    split at hst
    · next sh hsh =>
      split at hst
      · next hs =>
        cases hst
        obtain ⟨hs1, hs2⟩ := hs
        have hin := mm_in_vp hs2
        obtain ⟨ha, hm1⟩ := mm_sh_ob hsh (by omega) (by omega)
        have hg := mm_ws_get (ad := mm_ad N0 sp) (cA := cA) ha hm1
        rw [mm_cel_lo (hs1)] at hg
        exact va_lald hx hb hAt.1 hH.1 (a - 100) 1 hg rfl hin hd (kk _ _ _ _ _ hH hS hL hc hsl)
      · cases hst
    · cases hst
  · cases hst
theorem so_zaload (C : mm_Cx p s mid args meth c R j D cA N0 sp nb) (hd : decode (mm_b j) pc = .ok (.baload, 1)) (hst : mm_ald 22 (fun a i => .int (mm_gI m a i)) (pc + 1) L S m = some (.inl q)) (hH : mm_Hp D cA N0 sp m s H) (hS : va_S (fun x => N0 ≤ x) s.heap H locs) (hL : mm_LS (mm_ad N0 sp) (mm_mx j) ls L) (hc : mm_nc m = nb + cells) (hsl : mm_ns m = sb + slots) (kk : mm_KK p l e R s mid args below meth c Q D cA N0 sp j nb sb q) : W p l e R s mid args below meth c H locs cells slots Q (F0 mid pc ls (S.map (mm_tr (mm_ad N0 sp)))) := by
  obtain ⟨hx, hb, hml, hown, hts, hnm, hAt, hR, hN, hz⟩ := C
  unfold mm_ald at hst
  split at hst
  · next i a r =>
    split at hst
    · next sh hsh =>
      split at hst
      · next hs =>
        cases hst
        obtain ⟨hs1, hs2⟩ := hs
        have hin := mm_in_vp hs2
        obtain ⟨ha, hm1⟩ := mm_sh_ob hsh (by omega) (by omega)
        have hg := mm_ws_get (ad := mm_ad N0 sp) (cA := cA) ha hm1
        rw [mm_cel_in (by omega), hs1] at hg
        exact va_zald hx hb hAt.1 hH.1 (a - 100) 2 hg rfl hin hd (kk _ _ _ _ _ hH hS hL hc hsl)
      · cases hst
    · cases hst
  · cases hst
theorem so_caload (C : mm_Cx p s mid args meth c R j D cA N0 sp nb) (hd : decode (mm_b j) pc = .ok (.caload, 1)) (hst : mm_ald 23 (fun a i => .int (mm_gI m a i)) (pc + 1) L S m = some (.inl q)) (hH : mm_Hp D cA N0 sp m s H) (hS : va_S (fun x => N0 ≤ x) s.heap H locs) (hL : mm_LS (mm_ad N0 sp) (mm_mx j) ls L) (hc : mm_nc m = nb + cells) (hsl : mm_ns m = sb + slots) (kk : mm_KK p l e R s mid args below meth c Q D cA N0 sp j nb sb q) : W p l e R s mid args below meth c H locs cells slots Q (F0 mid pc ls (S.map (mm_tr (mm_ad N0 sp)))) := by
  obtain ⟨hx, hb, hml, hown, hts, hnm, hAt, hR, hN, hz⟩ := C
  unfold mm_ald at hst
  split at hst
  · next i a r =>
    split at hst
    · next sh hsh =>
      split at hst
      · next hs =>
        cases hst
        obtain ⟨hs1, hs2⟩ := hs
        have hin := mm_in_vp hs2
        obtain ⟨ha, hm1⟩ := mm_sh_ob hsh (by omega) (by omega)
        have hg := mm_ws_get (ad := mm_ad N0 sp) (cA := cA) ha hm1
        rw [mm_cel_in (by omega), hs1] at hg
        exact va_cald hx hb hAt.1 hH.1 (a - 100) 3 hg rfl hin hd (kk _ _ _ _ _ hH hS hL hc hsl)
      · cases hst
    · cases hst
  · cases hst
theorem so_aaload (C : mm_Cx p s mid args meth c R j D cA N0 sp nb) (hd : decode (mm_b j) pc = .ok (.aaload, 1)) (hst : mm_rld (pc + 1) L S m = some (.inl q)) (hH : mm_Hp D cA N0 sp m s H) (hS : va_S (fun x => N0 ≤ x) s.heap H locs) (hL : mm_LS (mm_ad N0 sp) (mm_mx j) ls L) (hc : mm_nc m = nb + cells) (hsl : mm_ns m = sb + slots) (kk : mm_KK p l e R s mid args below meth c Q D cA N0 sp j nb sb q) : W p l e R s mid args below meth c H locs cells slots Q (F0 mid pc ls (S.map (mm_tr (mm_ad N0 sp)))) := by
  obtain ⟨hx, hb, hml, hown, hts, hnm, hAt, hR, hN, hz⟩ := C
  unfold mm_rld at hst
  split at hst
  · next i a r =>
    split at hst
    · next sh hsh =>
      split at hst
      · next hs =>
        cases hst
        obtain ⟨⟨hs0, hs1⟩, hs2, -⟩ := hs
        have hin := mm_in_vp hs2
        obtain ⟨ha, hm1⟩ := mm_sh_ob hsh (by omega) (by omega)
        have hg := mm_ws_get (ad := mm_ad N0 sp) (cA := cA) ha hm1
        rw [mm_cel_rf hs0] at hg
        have hlt : i.toNatClampNeg < sh.2 := Nat.not_le.mp fun z => hin (Or.inr z)
        have hT := mm_tys_get cA sh.1 (by omega) hs1
        have hrk : (mm_aty sh.1).isReference = true := mm_aty_ref sh.1 hs0
        have e9 : mm_tr (mm_ad N0 sp) (va_rf (mm_gR m a i.toNatClampNeg)) = va_rf ((m.2.2.2.2 a i.toNatClampNeg).map (mm_ad N0 sp)) := mm_tr_rf _ _
        refine W.aald (v := va_rf ((m.2.2.2.2 a i.toNatClampNeg).map (mm_ad N0 sp))) (ty := mm_aty sh.1) (a := mm_ad N0 sp a) hx hb (hH.1 _ _ hg) ((hAt.1.2 _ _ hT).1 sh.2 (fun k => va_rf ((m.2.2.2.2 a k).map (mm_ad N0 sp)))) hrk (fun z => by cases z) (by show ¬ (i < 0 ∨ (arrV _ _ _).slots.size ≤ _); rw [arrV_size]; exact hin) (by show (arrV _ _ _).slots[_]? = _; rw [arrV_read _ _ hlt]) rfl rfl hd ?_
        have k9 := kk _ _ _ _ _ hH hS hL hc hsl
        simp only [List.map_cons] at k9
        rw [e9] at k9
        exact k9
      · cases hst
    · cases hst
  · cases hst
theorem so_iastore (C : mm_Cx p s mid args meth c R j D cA N0 sp nb) (hd : decode (mm_b j) pc = .ok (.iastore, 1)) (hst : mm_ast 20 (fun x => x) (pc + 1) L S m = some (.inl q)) (hH : mm_Hp D cA N0 sp m s H) (hS : va_S (fun x => N0 ≤ x) s.heap H locs) (hL : mm_LS (mm_ad N0 sp) (mm_mx j) ls L) (hc : mm_nc m = nb + cells) (hsl : mm_ns m = sb + slots) (kk : mm_KK p l e R s mid args below meth c Q D cA N0 sp j nb sb q) : W p l e R s mid args below meth c H locs cells slots Q (F0 mid pc ls (S.map (mm_tr (mm_ad N0 sp)))) := by
  obtain ⟨hx, hb, hml, hown, hts, hnm, hAt, hR, hN, hz⟩ := C
  unfold mm_ast at hst
  split at hst
  · next x i a r =>
    split at hst
    · next sh hsh =>
      split at hst
      · next hs =>
        cases hst
        obtain ⟨ha, hs1, hs2⟩ := hs
        have hin := mm_in_vp hs2
        have ha3 : ¬ a = 0 := fun z => by rw [z] at ha; exact absurd ha (by decide)
        obtain ⟨-, hm1⟩ := mm_sh_hi hsh ha3 (by omega)
        have hg := mm_ws_get (ad := mm_ad N0 sp) (cA := cA) ha hm1
        rw [mm_cel_in (by omega), hs1] at hg
        refine va_iast hx hb hAt.1 hH.1 (mm_ws_D m N0 sp cA) hS (a - 100) 0 hg rfl hin hd (fun H1 locs1 hP1 _ hS1 => ?_)
        exact mm_after (m' := mm_sI m a i.toNatClampNeg (x)) hN ha hm1 rfl rfl (by rw [mm_cel_in (by omega), hs1]; congr 4; exact (mm_u_eq).symm) mm_sI_o.2 hH hS hL hc hsl kk hP1 hS1
      · cases hst
    · cases hst
  · cases hst
theorem so_bastore (C : mm_Cx p s mid args meth c R j D cA N0 sp nb) (hd : decode (mm_b j) pc = .ok (.bastore, 1)) (hst : mm_ast 22 (vp_nar .boolean) (pc + 1) L S m = some (.inl q)) (hH : mm_Hp D cA N0 sp m s H) (hS : va_S (fun x => N0 ≤ x) s.heap H locs) (hL : mm_LS (mm_ad N0 sp) (mm_mx j) ls L) (hc : mm_nc m = nb + cells) (hsl : mm_ns m = sb + slots) (kk : mm_KK p l e R s mid args below meth c Q D cA N0 sp j nb sb q) : W p l e R s mid args below meth c H locs cells slots Q (F0 mid pc ls (S.map (mm_tr (mm_ad N0 sp)))) := by
  obtain ⟨hx, hb, hml, hown, hts, hnm, hAt, hR, hN, hz⟩ := C
  unfold mm_ast at hst
  split at hst
  · next x i a r =>
    split at hst
    · next sh hsh =>
      split at hst
      · next hs =>
        cases hst
        obtain ⟨ha, hs1, hs2⟩ := hs
        have hin := mm_in_vp hs2
        have ha3 : ¬ a = 0 := fun z => by rw [z] at ha; exact absurd ha (by decide)
        obtain ⟨-, hm1⟩ := mm_sh_hi hsh ha3 (by omega)
        have hg := mm_ws_get (ad := mm_ad N0 sp) (cA := cA) ha hm1
        rw [mm_cel_in (by omega), hs1] at hg
        refine va_zast hx hb hAt.1 hH.1 (mm_ws_D m N0 sp cA) hS (a - 100) 2 hg rfl hin hd (fun H1 locs1 hP1 _ hS1 => ?_)
        exact mm_after (m' := mm_sI m a i.toNatClampNeg (vp_nar .boolean x)) hN ha hm1 rfl rfl (by rw [mm_cel_in (by omega), hs1]; congr 4; exact (mm_u_eq).symm) mm_sI_o.2 hH hS hL hc hsl kk hP1 hS1
      · cases hst
    · cases hst
  · cases hst
theorem so_castore (C : mm_Cx p s mid args meth c R j D cA N0 sp nb) (hd : decode (mm_b j) pc = .ok (.castore, 1)) (hst : mm_ast 23 (vp_nar .char) (pc + 1) L S m = some (.inl q)) (hH : mm_Hp D cA N0 sp m s H) (hS : va_S (fun x => N0 ≤ x) s.heap H locs) (hL : mm_LS (mm_ad N0 sp) (mm_mx j) ls L) (hc : mm_nc m = nb + cells) (hsl : mm_ns m = sb + slots) (kk : mm_KK p l e R s mid args below meth c Q D cA N0 sp j nb sb q) : W p l e R s mid args below meth c H locs cells slots Q (F0 mid pc ls (S.map (mm_tr (mm_ad N0 sp)))) := by
  obtain ⟨hx, hb, hml, hown, hts, hnm, hAt, hR, hN, hz⟩ := C
  unfold mm_ast at hst
  split at hst
  · next x i a r =>
    split at hst
    · next sh hsh =>
      split at hst
      · next hs =>
        cases hst
        obtain ⟨ha, hs1, hs2⟩ := hs
        have hin := mm_in_vp hs2
        have ha3 : ¬ a = 0 := fun z => by rw [z] at ha; exact absurd ha (by decide)
        obtain ⟨-, hm1⟩ := mm_sh_hi hsh ha3 (by omega)
        have hg := mm_ws_get (ad := mm_ad N0 sp) (cA := cA) ha hm1
        rw [mm_cel_in (by omega), hs1] at hg
        refine va_cast hx hb hAt.1 hH.1 (mm_ws_D m N0 sp cA) hS (a - 100) 3 hg rfl hin hd (fun H1 locs1 hP1 _ hS1 => ?_)
        exact mm_after (m' := mm_sI m a i.toNatClampNeg (vp_nar .char x)) hN ha hm1 rfl rfl (by rw [mm_cel_in (by omega), hs1]; congr 4; exact (mm_u_eq).symm) mm_sI_o.2 hH hS hL hc hsl kk hP1 hS1
      · cases hst
    · cases hst
  · cases hst
theorem so_lastore (C : mm_Cx p s mid args meth c R j D cA N0 sp nb) (hd : decode (mm_b j) pc = .ok (.lastore, 1)) (hst : mm_lst (pc + 1) L S m = some (.inl q)) (hH : mm_Hp D cA N0 sp m s H) (hS : va_S (fun x => N0 ≤ x) s.heap H locs) (hL : mm_LS (mm_ad N0 sp) (mm_mx j) ls L) (hc : mm_nc m = nb + cells) (hsl : mm_ns m = sb + slots) (kk : mm_KK p l e R s mid args below meth c Q D cA N0 sp j nb sb q) : W p l e R s mid args below meth c H locs cells slots Q (F0 mid pc ls (S.map (mm_tr (mm_ad N0 sp)))) := by
  obtain ⟨hx, hb, hml, hown, hts, hnm, hAt, hR, hN, hz⟩ := C
  unfold mm_lst at hst
  split at hst
  · next x i a r =>
    split at hst
    · next sh hsh =>
      split at hst
      · next hs =>
        cases hst
        obtain ⟨hs1, hs2⟩ := hs
        have hin := mm_in_vp hs2
        obtain ⟨ha, hm1⟩ := mm_sh_ob hsh (by omega) (by omega)
        have hg := mm_ws_get (ad := mm_ad N0 sp) (cA := cA) ha hm1
        rw [mm_cel_lo hs1] at hg
        refine va_last hx hb hAt.1 hH.1 (mm_ws_D m N0 sp cA) hS (a - 100) 1 hg rfl hin hd (fun H1 locs1 hP1 _ hS1 => ?_)
        exact mm_after (m' := mm_sL m a i.toNatClampNeg x) hN ha hm1 rfl rfl (by rw [mm_cel_lo hs1]; congr 5; exact (mm_u_eq).symm) mm_sL_o.2 hH hS hL hc hsl kk hP1 hS1
      · cases hst
    · cases hst
  · cases hst
theorem so_aastore (C : mm_Cx p s mid args meth c R j D cA N0 sp nb) (hd : decode (mm_b j) pc = .ok (.aastore, 1)) (hst : mm_rst (pc + 1) L S m = some (.inl q)) (hH : mm_Hp D cA N0 sp m s H) (hS : va_S (fun x => N0 ≤ x) s.heap H locs) (hL : mm_LS (mm_ad N0 sp) (mm_mx j) ls L) (hc : mm_nc m = nb + cells) (hsl : mm_ns m = sb + slots) (kk : mm_KK p l e R s mid args below meth c Q D cA N0 sp j nb sb q) : W p l e R s mid args below meth c H locs cells slots Q (F0 mid pc ls (S.map (mm_tr (mm_ad N0 sp)))) := by
  obtain ⟨hx, hb, hml, hown, hts, hnm, hAt, hR, hN, hz⟩ := C
  unfold mm_rst at hst
  split at hst
  · next x i a r =>
    split at hst
    · next sh sx hsh hsx =>
      split at hst
      · next hs =>
        cases hst
        obtain ⟨hs1, hs2⟩ := hs
        have hin := mm_in_vp hs2
        obtain ⟨ha, hm1⟩ := mm_sh_ob hsh (by omega) (by omega)
        obtain ⟨hax, hmx⟩ := mm_sh_ob hsx (by omega) (by omega)
        have hg := mm_ws_get (ad := mm_ad N0 sp) (cA := cA) ha hm1
        have hgx := mm_ws_get (ad := mm_ad N0 sp) (cA := cA) hax hmx
        rw [mm_cel_rf (by omega)] at hg
        rw [mm_cel_ob (by omega)] at hgx
        have hT := mm_tys_get cA sh.1 (by omega) (by omega)
        have hcl : mm_aty sh.1 = .object (mm_cn sx.1) := by
          rcases hs1 with ⟨h1, h2⟩ | ⟨h1, h2⟩ | ⟨h1, h2⟩ <;> rw [h1, h2] <;> rfl
        rw [hcl] at hT
        refine va_astq hx hb hAt.1 hH.1 (mm_ws_D m N0 sp cA) hS (a - 100) (sh.1 - 20) (x - 100) sx.1 hg hT hgx (mm_vw sx.1 (by omega)) hin hd (fun H1 locs1 hP1 _ hS1 => ?_)
        refine mm_after (m' := mm_sR m a i.toNatClampNeg (some x)) hN ha hm1 rfl rfl ?_ mm_sR_o.2 hH hS hL hc hsl kk hP1 hS1
        rw [mm_cel_rf (by omega)]
        congr 7
        funext k
        show va_up _ _ _ k = Option.map _ (mm_u m.2.2.2.2 a i.toNatClampNeg (some x) a k)
        rw [mm_u_eq]
        unfold va_up
        by_cases hk : k = i.toNatClampNeg
        · simp only [if_pos hk]; rfl
        · simp only [if_neg hk]
      · cases hst
    · cases hst
  · cases hst
theorem so_arraylength (C : mm_Cx p s mid args meth c R j D cA N0 sp nb) (hd : decode (mm_b j) pc = .ok (.arraylength, 1)) (hst : mm_len (pc + 1) L S m = some (.inl q)) (hH : mm_Hp D cA N0 sp m s H) (hS : va_S (fun x => N0 ≤ x) s.heap H locs) (hL : mm_LS (mm_ad N0 sp) (mm_mx j) ls L) (hc : mm_nc m = nb + cells) (hsl : mm_ns m = sb + slots) (kk : mm_KK p l e R s mid args below meth c Q D cA N0 sp j nb sb q) : W p l e R s mid args below meth c H locs cells slots Q (F0 mid pc ls (S.map (mm_tr (mm_ad N0 sp)))) := by
  obtain ⟨hx, hb, hml, hown, hts, hnm, hAt, hR, hN, hz⟩ := C
  unfold mm_len at hst
  split at hst
  · next a r =>
    split at hst
    · next sh hsh =>
      split at hst
      · next hs =>
        cases hst
        by_cases hsp : 50 ≤ a ∧ a ≤ 55
        · have hsh2 : sh = (31, (mm_str (a - 49)).length) := Option.some.inj (hsh.symm.trans (mm_sh_by hsp))
          subst hsh2
          obtain ⟨e9, hi6, e49⟩ := mm_ad_by (N0 := N0) (sp := sp) hsp
          obtain ⟨cell, h1, h2, h3, h4, h5, h6, h7⟩ := (hH.2.2.2.1.1 (a - 50) hi6).2.2.2
          show W p l e R s mid args below meth c H locs cells slots Q (F0 mid pc ls (.ref (mm_ad N0 sp a) :: r.map (mm_tr (mm_ad N0 sp))))
          rw [e9]
          rw [mm_sln_e (a - 50) hi6, e49] at h5
          exact W.alen (n := Int32.ofNat (mm_str (a - 49)).length) hx hb h1 h2 h5 rfl rfl hd (kk _ _ _ _ _ hH hS hL hc hsl)
        obtain ⟨hs0, hs1⟩ : 20 ≤ sh.1 ∧ sh.1 ≤ 27 := hs.resolve_right hsp
        by_cases ha0 : a = 0
        · subst ha0
          have hq := mm_sh0 hsh
          subst hq
          obtain ⟨scr, h1, h2, h3, h4, h5⟩ := hH.2.1
          exact W.alen (n := Int32.ofNat m.2.1.2) (a := mm_ad N0 sp 0) hx hb h1 h2 (by rw [h4] <;> rfl) rfl rfl hd (kk _ _ _ _ _ hH hS hL hc hsl)
        · obtain ⟨ha, hm1⟩ := mm_sh_hi hsh ha0 (by omega)
          have hg := mm_ws_get (ad := mm_ad N0 sp) (cA := cA) ha hm1
          have hT := mm_tys_get cA sh.1 hs0 hs1
          by_cases h21 : sh.1 = 21
          · rw [mm_cel_lo h21, ← h21] at hg
            exact va_alen hx hb hAt.1 hH.1 (a - 100) (sh.1 - 20) hg hT rfl hd (kk _ _ _ _ _ hH hS hL hc hsl)
          · by_cases h24 : 24 ≤ sh.1
            · rw [mm_cel_rf h24] at hg
              exact va_alen hx hb hAt.1 hH.1 (a - 100) (sh.1 - 20) hg hT rfl hd (kk _ _ _ _ _ hH hS hL hc hsl)
            · rw [mm_cel_in (by omega)] at hg
              exact va_alen hx hb hAt.1 hH.1 (a - 100) (sh.1 - 20) hg hT rfl hd (kk _ _ _ _ _ hH hS hL hc hsl)
      · cases hst
    · cases hst
  · cases hst
theorem so_gst {ix k : Nat} (C : mm_Cx p s mid args meth c R j D cA N0 sp nb) (hd : decode (mm_b j) pc = .ok (.getfield ix, 3)) (hk : mm_fs.contains (mm_ow j, ix, 30, k) = true ∧ (k = 0 ∨ k = 1)) (hst : mm_gst k (pc + 3) L S m = some (.inl q)) (hH : mm_Hp D cA N0 sp m s H) (hS : va_S (fun x => N0 ≤ x) s.heap H locs) (hL : mm_LS (mm_ad N0 sp) (mm_mx j) ls L) (hc : mm_nc m = nb + cells) (hsl : mm_ns m = sb + slots) (kk : mm_KK p l e R s mid args below meth c Q D cA N0 sp j nb sb q) : W p l e R s mid args below meth c H locs cells slots Q (F0 mid pc ls (S.map (mm_tr (mm_ad N0 sp)))) := by
  obtain ⟨hx, hb, hml, hown, hts, hnm, hAt, hR, hN, hz⟩ := C
  unfold mm_gst at hst
  split at hst
  · next a r =>
    split at hst
    · next ha =>
      cases hst
      have hlk := hts _ (mm_g_in (mm_fs_w _ (List.contains_iff_mem.mp hk.1)) rfl)
      obtain ⟨e9, hi6, e8⟩ := mm_ad_st (N0 := N0) (sp := sp) ha
      have hE := hH.2.2.2.1.1 (a - 1) hi6
      have k9 := kk _ _ _ _ _ hH hS hL hc hsl
      show W p l e R s mid args below meth c H locs cells slots Q (F0 mid pc ls (.ref (mm_ad N0 sp a) :: r.map (mm_tr (mm_ad N0 sp))))
      rw [e9]
      rcases hk.2 with rfl | rfl
      · simp only [List.map_cons, if_true, mm_tr, e8] at k9
        obtain ⟨cf, k, i, f, cell, h1, h2, h3, h4, h5, h6⟩ := hE.2.2.1
        exact W.getf hx hb hown hlk h1 h2 h3 h4 (v := .ref (sp (50 + (a - 1)))) h5 rfl rfl hd k9
      · simp only [List.map_cons, mm_tr] at k9
        obtain ⟨cf, k, i, f, cell, h1, h2, h3, h4, h5, h6⟩ := hE.2.1
        exact W.getf hx hb hown hlk h1 h2 h3 h4 (v := .int 0) h5 rfl rfl hd k9
    · cases hst
  · cases hst
theorem so_baload (C : mm_Cx p s mid args meth c R j D cA N0 sp nb) (hd : decode (mm_b j) pc = .ok (.baload, 1)) (hst : mm_bld (pc + 1) L S m = some (.inl q)) (hH : mm_Hp D cA N0 sp m s H) (hS : va_S (fun x => N0 ≤ x) s.heap H locs) (hL : mm_LS (mm_ad N0 sp) (mm_mx j) ls L) (hc : mm_nc m = nb + cells) (hsl : mm_ns m = sb + slots) (kk : mm_KK p l e R s mid args below meth c Q D cA N0 sp j nb sb q) : W p l e R s mid args below meth c H locs cells slots Q (F0 mid pc ls (S.map (mm_tr (mm_ad N0 sp)))) := by
  unfold mm_bld at hst
  split at hst
  · next i a r =>
    split at hst
    · next ha =>
      split at hst
      · next hin =>
        cases hst
        have C9 := C
        obtain ⟨hx, hb, hml, hown, hts, hnm, hAt, hR, hN, hz⟩ := C9
        obtain ⟨e9, hi6, e49⟩ := mm_ad_by (N0 := N0) (sp := sp) ha
        obtain ⟨cell, h1, h2, h3, h4, h5, h6, h7⟩ := (hH.2.2.2.1.1 (a - 50) hi6).2.2.2
        have hl := mm_sln_e (a - 50) hi6
        rw [e49] at hl
        rw [hl] at h4 h6
        have hv := mm_in_vp hin
        have hlt : i.toNatClampNeg < (mm_str (a - 49)).length := Nat.not_le.mp fun z => hv (Or.inr z)
        have h8 := h6 _ hlt
        have e7 := mm_sby_e (a - 50) hi6 i.toNatClampNeg
        rw [e49] at e7
        dsimp only at h8
        rw [e7] at h8
        show W p l e R s mid args below meth c H locs cells slots Q (F0 mid pc ls (.int i :: .ref (mm_ad N0 sp a) :: r.map (mm_tr (mm_ad N0 sp))))
        rw [e9]
        exact W.bald (v := .int (nI ((mm_str (a - 49)).getD i.toNatClampNeg 0))) hx hb h1 h2 h3 (fun z => by
          rcases z with z | z
          · exact hv (Or.inl z)
          · omega) h8 rfl rfl hd (kk _ _ _ _ _ hH hS hL hc hsl)
      · cases hst
    · exact so_zaload C hd hst hH hS hL hc hsl kk
  · cases hst
theorem so_getstatic {ix r1 r2 : Nat} (C : mm_Cx p s mid args meth c R j D cA N0 sp nb) (hd : decode (mm_b j) pc = .ok (.getstatic ix, 3)) (hk : mm_fs.contains (mm_ow j, ix, r1, r2) = true ∧ (r1 = 0 ∨ r1 = 1)) (hst : mm_nx (pc + 3) L ((if r1 = 0 then .int 1 else va_rf (mm_gR m 99 0)) :: S) m = some (.inl q)) (hH : mm_Hp D cA N0 sp m s H) (hS : va_S (fun x => N0 ≤ x) s.heap H locs) (hL : mm_LS (mm_ad N0 sp) (mm_mx j) ls L) (hc : mm_nc m = nb + cells) (hsl : mm_ns m = sb + slots) (kk : mm_KK p l e R s mid args below meth c Q D cA N0 sp j nb sb q) : W p l e R s mid args below meth c H locs cells slots Q (F0 mid pc ls (S.map (mm_tr (mm_ad N0 sp)))) := by
  obtain ⟨hx, hb, hml, hown, hts, hnm, hAt, hR, hN, hz⟩ := C
  cases hst
  have hlk := hts _ (mm_g_in (mm_fs_w _ (List.contains_iff_mem.mp hk.1)) rfl)
  have k9 := kk _ _ _ _ _ hH hS hL hc hsl
  rcases hk.2 with rfl | rfl
  · simp only [List.map_cons, if_true, mm_tr] at k9
    obtain ⟨cf, kf, fi, f, a, cell, h1, h2, h3, h4, h5, h6, h7, h8⟩ := hH.2.2.2.2.1
    exact W.gets hx hb hown hlk h1 h2 h3 h4 h5 (fun e => by rw [e] at h6; cases h6) h7 rfl hd k9
  · simp only [List.map_cons, if_neg (show ¬ (1 : Nat) = 0 by decide), mm_tr_rf] at k9
    obtain ⟨cf, kf, fi, f, a, cell, h1, h2, h3, h4, h5, h6, h7, h8⟩ := hH.2.2.2.2.2.1
    exact W.gets hx hb hown hlk h1 h2 h3 h4 h5 (fun e => by rw [e] at h6; cases h6) h7 rfl hd k9
end SO3
