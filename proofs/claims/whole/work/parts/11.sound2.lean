theorem mm_vw : ∀ ci : Nat, ci < 13 → vwCl[ci]? = some (mm_cn ci, mm_T ci, (mm_ft ci).length)
  | 0, _ => rfl
  | 1, _ => rfl
  | 2, _ => rfl
  | 3, _ => rfl
  | 4, _ => rfl
  | 5, _ => rfl
  | 6, _ => rfl
  | 7, _ => rfl
  | 8, _ => rfl
  | 9, _ => rfl
  | 10, _ => rfl
  | 11, _ => rfl
  | 12, _ => rfl
  | _ + 13, h => absurd h (by omega)
theorem mm_ft_lt {ci k ty : Nat} (h : (mm_ft ci)[k]? = some ty) : ci < 13 := by
  by_cases hc : ci < 13
  · exact hc
  · obtain ⟨n, rfl⟩ : ∃ n, ci = n + 13 := ⟨ci - 13, by omega⟩
    exact absurd h (by simp [mm_ft])
theorem mm_lay_good (C : String) (T : u_T) (k : Nat) : goodWord (u_lay C T k) = true := by
  unfold u_lay
  split <;> rfl
theorem mm_uin : ∀ ci : Nat, ci < 13 → ∀ w ∈ u_ws (mm_cn ci) (mm_T ci) (mm_ft ci).length, w ∈ mm_g := by
  intro ci hci w hw
  have hg : goodWord w = true := by
    obtain ⟨k, -, rfl⟩ := List.mem_map.mp hw
    exact mm_lay_good _ _ _
  refine mm_g_in (mm_uw_w w ?_) hg
  unfold mm_uw
  simp only [List.mem_append]
  match ci, hci, hw with
  | 0, _, hw => exact Or.inl (Or.inl (Or.inl (Or.inl (Or.inl (Or.inl (Or.inl (Or.inl (Or.inl (Or.inl (Or.inl (Or.inl (hw))))))))))))
  | 1, _, hw => exact Or.inl (Or.inl (Or.inl (Or.inl (Or.inl (Or.inl (Or.inl (Or.inl (Or.inl (Or.inl (Or.inl (Or.inr hw)))))))))))
  | 2, _, hw => exact Or.inl (Or.inl (Or.inl (Or.inl (Or.inl (Or.inl (Or.inl (Or.inl (Or.inl (Or.inl (Or.inr hw))))))))))
  | 3, _, hw => exact Or.inl (Or.inl (Or.inl (Or.inl (Or.inl (Or.inl (Or.inl (Or.inl (Or.inl (Or.inr hw)))))))))
  | 4, _, hw => exact Or.inl (Or.inl (Or.inl (Or.inl (Or.inl (Or.inl (Or.inl (Or.inl (Or.inr hw))))))))
  | 5, _, hw => exact Or.inl (Or.inl (Or.inl (Or.inl (Or.inl (Or.inl (Or.inl (Or.inr hw)))))))
  | 6, _, hw => exact Or.inl (Or.inl (Or.inl (Or.inl (Or.inl (Or.inl (Or.inr hw))))))
  | 7, _, hw => exact Or.inl (Or.inl (Or.inl (Or.inl (Or.inl (Or.inr hw)))))
  | 8, _, hw => exact Or.inl (Or.inl (Or.inl (Or.inl (Or.inr hw))))
  | 9, _, hw => exact Or.inl (Or.inl (Or.inl (Or.inr hw)))
  | 10, _, hw => exact Or.inl (Or.inl (Or.inr hw))
  | 11, _, hw => exact Or.inl (Or.inr hw)
  | 12, _, hw => exact Or.inr hw
  | n + 13, h, _ => exact absurd h (by omega)
theorem mm_nmd : ∀ ci : Nat, ci < 13 → ∀ a, a < (mm_ft ci).length → ∀ b, b < (mm_ft ci).length → a ≠ b → (mm_T ci a).2.1 ≠ (mm_T ci b).2.1
  | 0, _ => nmX0
  | 1, _ => nmX1
  | 2, _ => nmX2
  | 3, _ => nmX3
  | 4, _ => nmX4
  | 5, _ => nmX5
  | 6, _ => nmX6
  | 7, _ => nmX7
  | 8, _ => nmX8
  | 9, _ => nmX9
  | 10, _ => nmX10
  | 11, _ => nmX11
  | 12, _ => nmX12
  | _ + 13, h => absurd h (by omega)
theorem mm_tyd : ∀ ci : Nat, ci < 13 → ∀ k, k < (mm_ft ci).length → parseFieldDescriptor (mm_T ci k).2.2.1 = some (mm_ty ci k)
  | 0, _ => tyX0_ok
  | 1, _ => tyX1_ok
  | 2, _ => tyX2_ok
  | 3, _ => tyX3_ok
  | 4, _ => tyX4_ok
  | 5, _ => tyX5_ok
  | 6, _ => tyX6_ok
  | 7, _ => tyX7_ok
  | 8, _ => tyX8_ok
  | 9, _ => tyX9_ok
  | 10, _ => tyX10_ok
  | 11, _ => tyX11_ok
  | 12, _ => tyX12_ok
  | _ + 13, h => absurd h (by omega)
def mm_isR : FieldType → Bool
  | .object _ => true
  | .array _ => true
  | _ => false
def mm_kty (n : Nat) (t : FieldType) : Bool := if n = 0 then decide (t = .int) else if n = 1 then decide (t = .long) else if n = 3 then decide (t = .boolean) else decide (n = 2) && mm_isR t
theorem mm_tyk0 : (List.range 13).all (fun ci => (List.range (mm_ft ci).length).all (fun k => mm_kty ((mm_ft ci).getD k 0) (mm_ty ci k))) = true := by decide +kernel
theorem mm_tyk {ci k ty : Nat} (h : (mm_ft ci)[k]? = some ty) : mm_kty ty (mm_ty ci k) = true := by
  have hci := mm_ft_lt h
  have h1 := List.all_eq_true.mp mm_tyk0 ci (List.mem_range.mpr hci)
  have h2 := List.all_eq_true.mp h1 k (List.mem_range.mpr (List.getElem?_eq_some_iff.mp h).1)
  have e : (mm_ft ci).getD k 0 = ty := by rw [List.getD_eq_getElem?_getD, h]; rfl
  rw [e] at h2
  exact h2
theorem mm_cel_ob {m : mm_M} {ad : Nat → Nat} {cA : Nat → ClassId} {a : Nat} {s : Nat × Nat} (h : s.1 < 20) : mm_cel m ad cA a s = .inr (s.1, (mm_ft s.1).mapIdx (fun k ty => mm_fc (m.2.2.1 a) (m.2.2.2.1 a) (m.2.2.2.2 a) ad k ty)) := by
  unfold mm_cel mm_cc
  rw [if_pos h]
theorem mm_cel_lo {m : mm_M} {ad : Nat → Nat} {cA : Nat → ClassId} {a : Nat} {s : Nat × Nat} (h : s.1 = 21) : mm_cel m ad cA a s = .inl (cA 21, s.2, .inr (.inl (m.2.2.2.1 a))) := by
  unfold mm_cel mm_cc
  rw [if_neg (by omega), if_pos h]
theorem mm_cel_rf {m : mm_M} {ad : Nat → Nat} {cA : Nat → ClassId} {a : Nat} {s : Nat × Nat} (h : 24 ≤ s.1) : mm_cel m ad cA a s = .inl (cA s.1, s.2, .inr (.inr (.inr (.inr (fun j => (m.2.2.2.2 a j).map ad))))) := by
  unfold mm_cel mm_cc
  rw [if_neg (by omega), if_neg (by omega), if_pos h]
theorem mm_cel_in {m : mm_M} {ad : Nat → Nat} {cA : Nat → ClassId} {a : Nat} {s : Nat × Nat} (h : s.1 = 20 ∨ s.1 = 22 ∨ s.1 = 23) : mm_cel m ad cA a s = .inl (cA s.1, s.2, .inl (m.2.2.1 a)) := by
  unfold mm_cel mm_cc
  rw [if_neg (by omega), if_neg (by omega), if_neg (by omega)]
theorem mm_fs_set {fI fI' : Nat → Int32} {fL fL' : Nat → Int64} {fR fR' : Nat → Option Nat} {ad : Nat → Nat} {l : List Nat} {k ty : Nat} {v : Value} (hk : l[k]? = some ty) (hv : v = mm_fc fI' fL' fR' ad k ty) (ho : ∀ i : Nat, i ≠ k → fI' i = fI i ∧ fL' i = fL i ∧ fR' i = fR i) :
    (l.mapIdx (fun k ty => mm_fc fI fL fR ad k ty)).set k v = l.mapIdx (fun k ty => mm_fc fI' fL' fR' ad k ty) := by
  apply List.ext_getElem?
  intro i
  have hl : k < (l.mapIdx (fun k ty => mm_fc fI fL fR ad k ty)).length := by rw [List.length_mapIdx]; exact (List.getElem?_eq_some_iff.mp hk).1
  by_cases hi : k = i
  · subst hi
    rw [List.getElem?_set_self hl, List.getElem?_mapIdx, hk, hv]
    rfl
  · rw [List.getElem?_set_ne hi, List.getElem?_mapIdx, List.getElem?_mapIdx]
    obtain ⟨g1, g2, g3⟩ := ho i (fun z => hi z.symm)
    unfold mm_fc
    rw [g1, g2, g3]
theorem mm_ad_hi {N0 : Nat} {sp : Nat → Nat} {a : Nat} (h : 100 ≤ a) : mm_ad N0 sp a = N0 + (a - 100) := by
  unfold mm_ad
  rw [if_neg (by omega)]
section SO2
variable {p : Program} {l : Launch} {e : Env} {R : Room} {s : State} {mid : MethodId} {args : Array Value} {below : List Frame} {meth : Method} {c : Code} {Q : State → Prop} {D : va_G} {cA : Nat → ClassId} {N0 : Nat} {sp : Nat → Nat} {j nb sb : Nat}
variable {H : Heap} {locs : List Loc} {cells slots pc : Nat} {ls : Array Slot} {L : mm_L} {S : List Value} {m : mm_M} {q : Nat × mm_L × List Value × mm_M}
theorem mm_ks_lt : ∀ x ∈ mm_ks, x.2.2 < 100 := by decide +kernel
theorem so_ldc {ix r1 r2 : Nat} {r3 : Int} (C : mm_Cx p s mid args meth c R j D cA N0 sp nb) (hd : decode (mm_b j) pc = .ok (.ldc ix, 2)) (hk : (if r1 = 0 then mm_kc.contains (mm_ow j, ix, r3) else mm_ks.contains (mm_ow j, ix, r2)) = true) (hst : mm_ldc r1 r2 r3 (pc + 2) L S m = some (.inl q)) (hH : mm_Hp D cA N0 sp m s H) (hS : va_S (fun x => N0 ≤ x) s.heap H locs) (hL : mm_LS (mm_ad N0 sp) (mm_mx j) ls L) (hc : mm_nc m = nb + cells) (hsl : mm_ns m = sb + slots) (kk : mm_KK p l e R s mid args below meth c Q D cA N0 sp j nb sb q) : W p l e R s mid args below meth c H locs cells slots Q (F0 mid pc ls (S.map (mm_tr (mm_ad N0 sp)))) := by
  obtain ⟨hx, hb, hml, hown, hts, hnm, hAt, hR, hN, hz⟩ := C
  unfold mm_ldc at hst
  split at hst
  · next h0 =>
    cases hst
    rw [if_pos h0] at hk
    refine lv_ldc hx hb hown (hts _ (mm_g_in (mm_kc_w _ (List.contains_iff_mem.mp hk)) rfl)) hd ?_
    exact kk _ _ _ _ _ hH hS hL hc hsl
  · next h0 =>
    rw [if_neg h0] at hk
    split at hst
    · next h2 =>
      cases hst
      obtain ⟨tx, htx⟩ := hAt.2.2.2.2.2.1 _ (List.contains_iff_mem.mp hk)
      have hlo : r2 < 100 := mm_ks_lt _ (List.contains_iff_mem.mp hk)
      refine va_ldcS hx hb hown htx hd ?_
      have e9 : sp r2 = mm_ad N0 sp r2 := by unfold mm_ad; rw [if_pos hlo]
      show W p l e R s mid args below meth c H locs cells slots Q (F0 mid (pc + 2) ls (.ref (sp r2) :: S.map (mm_tr (mm_ad N0 sp))))
      rw [e9]
      exact kk _ _ _ _ _ hH hS hL hc hsl
    · cases hst
theorem so_ldc_w {ix r1 : Nat} {r3 : Int} (C : mm_Cx p s mid args meth c R j D cA N0 sp nb) (hd : decode (mm_b j) pc = .ok (.ldc_w ix, 3)) (hk : r1 = 0 → mm_kc.contains (mm_ow j, ix, r3) = true) (hst : (if r1 = 0 then mm_nx (pc + 3) L (.int (Int32.ofInt r3) :: S) m else none) = some (.inl q)) (hH : mm_Hp D cA N0 sp m s H) (hS : va_S (fun x => N0 ≤ x) s.heap H locs) (hL : mm_LS (mm_ad N0 sp) (mm_mx j) ls L) (hc : mm_nc m = nb + cells) (hsl : mm_ns m = sb + slots) (kk : mm_KK p l e R s mid args below meth c Q D cA N0 sp j nb sb q) : W p l e R s mid args below meth c H locs cells slots Q (F0 mid pc ls (S.map (mm_tr (mm_ad N0 sp)))) := by
  obtain ⟨hx, hb, hml, hown, hts, hnm, hAt, hR, hN, hz⟩ := C
  split at hst
  · next h0 =>
    cases hst
    refine lv_ldcw hx hb hown (hts _ (mm_g_in (mm_kc_w _ (List.contains_iff_mem.mp (hk h0))) rfl)) hd ?_
    exact kk _ _ _ _ _ hH hS hL hc hsl
  · cases hst
theorem so_ldc2_w {ix r1 : Nat} {r3 : Int} (C : mm_Cx p s mid args meth c R j D cA N0 sp nb) (hd : decode (mm_b j) pc = .ok (.ldc2_w ix, 3)) (hk : mm_kl2.contains (mm_ow j, ix, r3) = true) (hst : (if r1 = 1 then mm_nx (pc + 3) L (.long (Int64.ofInt r3) :: S) m else none) = some (.inl q)) (hH : mm_Hp D cA N0 sp m s H) (hS : va_S (fun x => N0 ≤ x) s.heap H locs) (hL : mm_LS (mm_ad N0 sp) (mm_mx j) ls L) (hc : mm_nc m = nb + cells) (hsl : mm_ns m = sb + slots) (kk : mm_KK p l e R s mid args below meth c Q D cA N0 sp j nb sb q) : W p l e R s mid args below meth c H locs cells slots Q (F0 mid pc ls (S.map (mm_tr (mm_ad N0 sp)))) := by
  obtain ⟨hx, hb, hml, hown, hts, hnm, hAt, hR, hN, hz⟩ := C
  split at hst
  · next h0 =>
    cases hst
    refine lv_ldc2 hx hb hown (hts _ (mm_g_in (mm_kl2_w _ (List.contains_iff_mem.mp hk)) rfl)) hd ?_
    exact kk _ _ _ _ _ hH hS hL hc hsl
  · cases hst
theorem so_getfield {ix ci k : Nat} {ty : Int} (C : mm_Cx p s mid args meth c R j D cA N0 sp nb) (hd : decode (mm_b j) pc = .ok (.getfield ix, 3)) (hk : mm_fl.contains (mm_ow j, ix, ci, k) = true ∧ (mm_ft ci)[k]? = some ty.toNat ∧ 0 ≤ ty) (hst : mm_get ci k ty (pc + 3) L S m = some (.inl q)) (hH : mm_Hp D cA N0 sp m s H) (hS : va_S (fun x => N0 ≤ x) s.heap H locs) (hL : mm_LS (mm_ad N0 sp) (mm_mx j) ls L) (hc : mm_nc m = nb + cells) (hsl : mm_ns m = sb + slots) (kk : mm_KK p l e R s mid args below meth c Q D cA N0 sp j nb sb q) : W p l e R s mid args below meth c H locs cells slots Q (F0 mid pc ls (S.map (mm_tr (mm_ad N0 sp)))) := by
  obtain ⟨hx, hb, hml, hown, hts, hnm, hAt, hR, hN, hz⟩ := C
  obtain ⟨hk1, hk2, hk3⟩ := hk
  have hci := mm_ft_lt hk2
  unfold mm_get at hst
  split at hst
  · next a r =>
    split at hst
    · next sh hsh =>
      split at hst
      · next hs1 =>
        split at hst
        · cases hst
        cases hst
        obtain ⟨ha, hm1⟩ := mm_sh_ob hsh (by omega) (by omega)
        have hg := mm_ws_get (ad := mm_ad N0 sp) (cA := cA) ha hm1
        rw [mm_cel_ob (by omega), hs1] at hg
        have hv : ((mm_ft ci).mapIdx (fun k ty => mm_fc (m.2.2.1 a) (m.2.2.2.1 a) (m.2.2.2.2 a) (mm_ad N0 sp) k ty))[k]? = some (mm_tr (mm_ad N0 sp) (mm_fv m a k ty)) := by
          rw [List.getElem?_mapIdx, hk2, Option.map_some]
          congr 1
          unfold mm_fc mm_fv
          by_cases h1 : ty = 1
          · subst h1; rfl
          · by_cases h2 : ty = 2
            · subst h2; exact (mm_tr_rf _ _).symm
            · rw [if_neg (by omega), if_neg (by omega), if_neg h1, if_neg h2]; rfl
        exact va_get hx hb hts (mm_uin ci hci) hown hAt.1 hH.1 (a - 100) hg (mm_vw ci hci) k (List.getElem?_eq_some_iff.mp hk2).1 (hts _ (mm_g_in (mm_fl_w _ (List.contains_iff_mem.mp hk1)) rfl)) (fun _ h => h) hv hd (kk _ _ _ _ _ hH hS hL hc hsl)
      · cases hst
    · cases hst
  · cases hst
theorem mm_put_go {ix ci k : Nat} {ty : Int} {a : Nat} {r : List Value} {sh : Nat × Nat} {v : Value} {m' : mm_M} (C : mm_Cx p s mid args meth c R j D cA N0 sp nb) (hd : decode (mm_b j) pc = .ok (.putfield ix, 3)) (hk : mm_fl.contains (mm_ow j, ix, ci, k) = true ∧ (mm_ft ci)[k]? = some ty.toNat ∧ 0 ≤ ty) (hf : (mm_T ci k).2.2.2 = false ∨ ((mm_y j).name = "<init>" ∧ (mm_T ci k).1 = mm_cn (mm_ow j)))
    (hsh : mm_sh m a = some sh) (hs1 : sh.1 = ci) (hn : narrow (mm_ty ci k) (mm_tr (mm_ad N0 sp) v) = mm_tr (mm_ad N0 sp) v) (hfit : fits (mm_ty ci k) (mm_tr (mm_ad N0 sp) v) = true) (e1 : m'.1 = m.1) (e2 : m'.2.1 = m.2.1) (hv : mm_tr (mm_ad N0 sp) v = mm_fc (m'.2.2.1 a) (m'.2.2.2.1 a) (m'.2.2.2.2 a) (mm_ad N0 sp) k ty.toNat)
    (ho : ∀ i : Nat, i ≠ k → m'.2.2.1 a i = m.2.2.1 a i ∧ m'.2.2.2.1 a i = m.2.2.2.1 a i ∧ m'.2.2.2.2 a i = m.2.2.2.2 a i) (ho2 : ∀ b : Nat, b ≠ a → m'.2.2.1 b = m.2.2.1 b ∧ m'.2.2.2.1 b = m.2.2.2.1 b ∧ m'.2.2.2.2 b = m.2.2.2.2 b)
    (hH : mm_Hp D cA N0 sp m s H) (hS : va_S (fun x => N0 ≤ x) s.heap H locs) (hL : mm_LS (mm_ad N0 sp) (mm_mx j) ls L) (hc : mm_nc m = nb + cells) (hsl : mm_ns m = sb + slots) (kk : mm_KK p l e R s mid args below meth c Q D cA N0 sp j nb sb (pc + 3, L, r, m')) : W p l e R s mid args below meth c H locs cells slots Q (F0 mid pc ls ((v :: .ref a :: r).map (mm_tr (mm_ad N0 sp)))) := by
  obtain ⟨hx, hb, hml, hown, hts, hnm, hAt, hR, hN, hz⟩ := C
  obtain ⟨hk1, hk2, hk3⟩ := hk
  have hci := mm_ft_lt hk2
  have hkl := (List.getElem?_eq_some_iff.mp hk2).1
  obtain ⟨ha, hm1⟩ := mm_sh_ob hsh (by omega) (by omega)
  have hg := mm_ws_get (ad := mm_ad N0 sp) (cA := cA) ha hm1
  rw [mm_cel_ob (by omega), hs1] at hg
  have hset := mm_ws_set (m := m) (m' := m') (ad := mm_ad N0 sp) (cA := cA) (e := .inr (ci, ((mm_ft ci).mapIdx (fun k ty => mm_fc (m.2.2.1 a) (m.2.2.2.1 a) (m.2.2.2.2 a) (mm_ad N0 sp) k ty)).set k (mm_tr (mm_ad N0 sp) v))) ha hm1 e1 (by rw [mm_cel_ob (by omega), hs1, mm_fs_set hk2 hv ho]) ho2
  have hlink := hts _ (mm_g_in (mm_fl_w _ (List.contains_iff_mem.mp hk1)) rfl)
  have hl : k < ((mm_ft ci).mapIdx (fun k ty => mm_fc (m.2.2.1 a) (m.2.2.2.1 a) (m.2.2.2.2 a) (mm_ad N0 sp) k ty)).length := by rw [List.length_mapIdx]; exact hkl
  have fin : ∀ (H1 : Heap) (locs1 : List Loc), va_P D vwCl ((mm_ws m (mm_ad N0 sp) cA).set (a - 100) (mm_ad N0 sp a, .inr (ci, ((mm_ft ci).mapIdx (fun k ty => mm_fc (m.2.2.1 a) (m.2.2.2.1 a) (m.2.2.2.2 a) (mm_ad N0 sp) k ty)).set k (mm_tr (mm_ad N0 sp) v)))) H1 → va_S (fun x => N0 ≤ x) s.heap H1 locs1 → W p l e R s mid args below meth c H1 locs1 cells slots Q (F0 mid (pc + 3) ls (r.map (mm_tr (mm_ad N0 sp)))) := by
    intro H1 locs1 hP1 hS1
    rw [hset] at hP1
    refine kk H1 locs1 ls cells slots (hH.to hN hS hS1 hP1 e2 ?_ ?_) hS1 hL ?_ ?_
    · exact (ho2 0 (by omega)).1
    · exact (ho2 99 (by omega)).2.2
    · unfold mm_nc at hc ⊢
      dsimp only
      rw [e1, e2]; exact hc
    · unfold mm_ns at hsl ⊢
      dsimp only
      rw [e1, e2]; exact hsl
  by_cases hfin : (mm_T ci k).2.2.2 = true
  · rcases hf with h | ⟨h1, h2⟩
    · rw [h] at hfin; cases hfin
    · exact va_putF hx hb hts (mm_uin ci hci) (mm_ty ci) (mm_tyd ci hci) (mm_nmd ci hci) hown hAt.1 hH.1 (mm_ws_D m N0 sp cA) hS (a - 100) hg (mm_vw ci hci) k hkl hlink (fun _ h => h) hfin (by rw [hnm]; exact h1) h2 (mm_tyd ci hci k hkl) hn hfit hl hd (fun H1 locs1 hP1 _ hS1 => fin H1 locs1 hP1 hS1)
  · exact va_put hx hb hts (mm_uin ci hci) (mm_ty ci) (mm_tyd ci hci) (mm_nmd ci hci) hown hAt.1 hH.1 (mm_ws_D m N0 sp cA) hS (a - 100) hg (mm_vw ci hci) k hkl hlink (fun _ h => h) (by simpa using hfin) (mm_tyd ci hci k hkl) hn hfit hl hd (fun H1 locs1 hP1 _ hS1 => fin H1 locs1 hP1 hS1)
theorem mm_sI_o {a k : Nat} {x : Int32} : (∀ i : Nat, i ≠ k → (mm_sI m a k x).2.2.1 a i = m.2.2.1 a i ∧ (mm_sI m a k x).2.2.2.1 a i = m.2.2.2.1 a i ∧ (mm_sI m a k x).2.2.2.2 a i = m.2.2.2.2 a i) ∧ ∀ b : Nat, b ≠ a → (mm_sI m a k x).2.2.1 b = m.2.2.1 b ∧ (mm_sI m a k x).2.2.2.1 b = m.2.2.2.1 b ∧ (mm_sI m a k x).2.2.2.2 b = m.2.2.2.2 b := by
  refine ⟨fun i hi => ⟨?_, rfl, rfl⟩, fun b hb => ⟨mm_u_ne hb, rfl, rfl⟩⟩
  show mm_u m.2.2.1 a k x a i = _
  rw [mm_u_eq]; exact if_neg hi
theorem mm_sL_o {a k : Nat} {x : Int64} : (∀ i : Nat, i ≠ k → (mm_sL m a k x).2.2.1 a i = m.2.2.1 a i ∧ (mm_sL m a k x).2.2.2.1 a i = m.2.2.2.1 a i ∧ (mm_sL m a k x).2.2.2.2 a i = m.2.2.2.2 a i) ∧ ∀ b : Nat, b ≠ a → (mm_sL m a k x).2.2.1 b = m.2.2.1 b ∧ (mm_sL m a k x).2.2.2.1 b = m.2.2.2.1 b ∧ (mm_sL m a k x).2.2.2.2 b = m.2.2.2.2 b := by
  refine ⟨fun i hi => ⟨rfl, ?_, rfl⟩, fun b hb => ⟨rfl, mm_u_ne hb, rfl⟩⟩
  show mm_u m.2.2.2.1 a k x a i = _
  rw [mm_u_eq]; exact if_neg hi
theorem mm_sR_o {a k : Nat} {x : Option Nat} : (∀ i : Nat, i ≠ k → (mm_sR m a k x).2.2.1 a i = m.2.2.1 a i ∧ (mm_sR m a k x).2.2.2.1 a i = m.2.2.2.1 a i ∧ (mm_sR m a k x).2.2.2.2 a i = m.2.2.2.2 a i) ∧ ∀ b : Nat, b ≠ a → (mm_sR m a k x).2.2.1 b = m.2.2.1 b ∧ (mm_sR m a k x).2.2.2.1 b = m.2.2.2.1 b ∧ (mm_sR m a k x).2.2.2.2 b = m.2.2.2.2 b := by
  refine ⟨fun i hi => ⟨rfl, rfl, ?_⟩, fun b hb => ⟨rfl, rfl, mm_u_ne hb⟩⟩
  show mm_u m.2.2.2.2 a k x a i = _
  rw [mm_u_eq]; exact if_neg hi
theorem mm_sI_at {a k : Nat} {x : Int32} : (mm_sI m a k x).2.2.1 a k = x := by
  show mm_u m.2.2.1 a k x a k = x
  rw [mm_u_eq]; exact if_pos rfl
theorem mm_sL_at {a k : Nat} {x : Int64} : (mm_sL m a k x).2.2.2.1 a k = x := by
  show mm_u m.2.2.2.1 a k x a k = x
  rw [mm_u_eq]; exact if_pos rfl
theorem mm_sR_at {a k : Nat} {x : Option Nat} : (mm_sR m a k x).2.2.2.2 a k = x := by
  show mm_u m.2.2.2.2 a k x a k = x
  rw [mm_u_eq]; exact if_pos rfl
theorem so_putfield {ix ci k : Nat} {ty : Int} (C : mm_Cx p s mid args meth c R j D cA N0 sp nb) (hd : decode (mm_b j) pc = .ok (.putfield ix, 3)) (hk : (mm_fl.contains (mm_ow j, ix, ci, k) = true ∧ (mm_ft ci)[k]? = some ty.toNat ∧ 0 ≤ ty) ∧ ((mm_T ci k).2.2.2 = false ∨ ((mm_y j).name = "<init>" ∧ (mm_T ci k).1 = mm_cn (mm_ow j)))) (hst : mm_put ci k ty (pc + 3) L S m = some (.inl q)) (hH : mm_Hp D cA N0 sp m s H) (hS : va_S (fun x => N0 ≤ x) s.heap H locs) (hL : mm_LS (mm_ad N0 sp) (mm_mx j) ls L) (hc : mm_nc m = nb + cells) (hsl : mm_ns m = sb + slots) (kk : mm_KK p l e R s mid args below meth c Q D cA N0 sp j nb sb q) : W p l e R s mid args below meth c H locs cells slots Q (F0 mid pc ls (S.map (mm_tr (mm_ad N0 sp)))) := by
  obtain ⟨hx, hb, hml, hown, hts, hnm, hAt, hR, hN, hz⟩ := C
  have C : mm_Cx p s mid args meth c R j D cA N0 sp nb := ⟨hx, hb, hml, hown, hts, hnm, hAt, hR, hN, hz⟩
  obtain ⟨hk, hf⟩ := hk
  have hty := mm_tyk hk.2.1
  unfold mm_put at hst
  split at hst
  · next x a r =>
    split at hst
    · next sh hsh =>
      split at hst
      · next hs1 =>
        cases hst
        obtain ⟨hs1, ht⟩ := hs1
        refine mm_put_go (m' := mm_sI m a k x) (v := .int x) C hd hk hf hsh hs1 ?_ ?_ rfl rfl ?_ mm_sI_o.1 mm_sI_o.2 hH hS hL hc hsl kk
        · rcases ht with rfl | ⟨rfl, ht⟩
          · have e9 : mm_ty ci k = .int := by simpa [mm_kty] using hty
            rw [e9]; rfl
          · have e9 : mm_ty ci k = .boolean := by simpa [mm_kty] using hty
            rw [e9]; rcases ht with rfl | rfl <;> rfl
        · rcases ht with rfl | ⟨rfl, ht⟩
          · have e9 : mm_ty ci k = .int := by simpa [mm_kty] using hty
            rw [e9]; rfl
          · have e9 : mm_ty ci k = .boolean := by simpa [mm_kty] using hty
            rw [e9]; rcases ht with rfl | rfl <;> rfl
        · unfold mm_fc
          rw [if_neg (by rcases ht with rfl | ⟨rfl, -⟩ <;> decide), if_neg (by rcases ht with rfl | ⟨rfl, -⟩ <;> decide), mm_sI_at]; rfl
      · cases hst
    · cases hst
  · next x a r =>
    split at hst
    · next sh hsh =>
      split at hst
      · next hs1 =>
        cases hst
        obtain ⟨hs1, ht⟩ := hs1
        subst ht
        have e9 : mm_ty ci k = .long := by simpa [mm_kty] using hty
        refine mm_put_go (m' := mm_sL m a k x) (v := .long x) C hd hk hf hsh hs1 (by rw [e9]; rfl) (by rw [e9]; rfl) rfl rfl ?_ mm_sL_o.1 mm_sL_o.2 hH hS hL hc hsl kk
        unfold mm_fc
        rw [if_pos (by decide), mm_sL_at]; rfl
      · cases hst
    · cases hst
  · next x a r =>
    split at hst
    · next sh hsh =>
      split at hst
      · next hs1 =>
        cases hst
        obtain ⟨hs1, ht⟩ := hs1
        subst ht
        have e9 : mm_isR (mm_ty ci k) = true := by simpa [mm_kty] using hty
        refine mm_put_go (m' := mm_sR m a k (some x)) (v := .ref x) C hd hk hf hsh hs1 ?_ ?_ rfl rfl ?_ mm_sR_o.1 mm_sR_o.2 hH hS hL hc hsl kk
        · cases h9 : mm_ty ci k <;> rw [h9] at e9 <;> first | rfl | cases e9
        · cases h9 : mm_ty ci k <;> rw [h9] at e9 <;> first | rfl | cases e9
        · unfold mm_fc
          rw [if_neg (by decide), if_pos (by decide), mm_sR_at]; rfl
      · cases hst
    · cases hst
  · cases hst
end SO2
