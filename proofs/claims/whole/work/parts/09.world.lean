/-- where the cells of the small machine lie -/
def mm_ad (N0 : Nat) (sp : Nat → Nat) (a : Nat) : Nat := if a < 100 then sp a else N0 + (a - 100)
def mm_tr (ad : Nat → Nat) : Value → Value
  | .ref a => .ref (ad a)
  | v => v
theorem mm_tr_cat (ad : Nat → Nat) (v : Value) : (mm_tr ad v).category = v.category := by cases v <;> rfl
theorem mm_tr_sum (ad : Nat → Nat) (l : List Value) : ((l.map (mm_tr ad)).map fun v => v.category).sum = (l.map fun v => v.category).sum := by
  rw [List.map_map]
  congr 1
  exact List.map_congr_left (fun v _ => mm_tr_cat ad v)
theorem mm_tr_rf (ad : Nat → Nat) (r : Option Nat) : mm_tr ad (va_rf r) = va_rf (r.map ad) := by cases r <;> rfl
def mm_fc (fI : Nat → Int32) (fL : Nat → Int64) (fR : Nat → Option Nat) (ad : Nat → Nat) (k ty : Nat) : Value := if ty = 1 then .long (fL k) else if ty = 2 then va_rf ((fR k).map ad) else .int (fI k)
/-- a cell as the kit has it -/
def mm_cc (fI : Nat → Int32) (fL : Nat → Int64) (fR : Nat → Option Nat) (ad : Nat → Nat) (cA : Nat → ClassId) (s : Nat × Nat) : va_E :=
  if s.1 < 20 then .inr (s.1, (mm_ft s.1).mapIdx (fun k ty => mm_fc fI fL fR ad k ty))
  else if s.1 = 21 then .inl (cA 21, s.2, .inr (.inl fL))
  else if 24 ≤ s.1 then .inl (cA s.1, s.2, .inr (.inr (.inr (.inr (fun j => (fR j).map ad)))))
  else .inl (cA s.1, s.2, .inl fI)
def mm_ws (m : mm_M) (ad : Nat → Nat) (cA : Nat → ClassId) : va_W := m.1.mapIdx (fun i s => (ad (100 + i), mm_cc (m.2.2.1 (100 + i)) (m.2.2.2.1 (100 + i)) (m.2.2.2.2 (100 + i)) ad cA s))
def mm_cel (m : mm_M) (ad : Nat → Nat) (cA : Nat → ClassId) (a : Nat) (s : Nat × Nat) : va_E := mm_cc (m.2.2.1 a) (m.2.2.2.1 a) (m.2.2.2.2 a) ad cA s
theorem mm_sh_hi {m : mm_M} {a : Nat} {s : Nat × Nat} (h : mm_sh m a = some s) (ha : ¬ a = 0) (h30 : s.1 < 30) : 100 ≤ a ∧ m.1[a - 100]? = some s := by
  unfold mm_sh at h
  rw [if_neg ha] at h
  split at h
  · split at h
    · cases h; exact absurd h30 (by decide)
    · split at h
      · cases h; exact absurd h30 (show ¬ (31 : Nat) < 30 by decide)
      · cases h
  · exact ⟨by omega, h⟩
theorem mm_sh_ob {m : mm_M} {a : Nat} {s : Nat × Nat} (h : mm_sh m a = some s) (hs : ¬ s.1 = 20) (h30 : s.1 < 30) : 100 ≤ a ∧ m.1[a - 100]? = some s := by
  refine mm_sh_hi h (fun e => ?_) h30
  subst e
  unfold mm_sh at h
  rw [if_pos rfl] at h
  cases h
  exact hs rfl
theorem mm_ws_get {m : mm_M} {ad : Nat → Nat} {cA : Nat → ClassId} {a : Nat} {s : Nat × Nat} (ha : 100 ≤ a) (h : m.1[a - 100]? = some s) : (mm_ws m ad cA)[a - 100]? = some (ad a, mm_cel m ad cA a s) := by
  unfold mm_ws
  rw [List.getElem?_mapIdx, h, Option.map_some, show 100 + (a - 100) = a by omega]
  rfl
theorem mm_ws_at {m : mm_M} {ad : Nat → Nat} {cA : Nat → ClassId} {i : Nat} {q : Nat × va_E} (h : (mm_ws m ad cA)[i]? = some q) : q.1 = ad (100 + i) := by
  unfold mm_ws at h
  rw [List.getElem?_mapIdx] at h
  cases hs : m.1[i]? with
  | none => rw [hs] at h; cases h
  | some s => rw [hs] at h; cases h; rfl
theorem mm_ws_D (m : mm_M) (N0 : Nat) (sp : Nat → Nat) (cA : Nat → ClassId) : va_D (fun q => N0 ≤ q) (mm_ws m (mm_ad N0 sp) cA) := by
  have key : ∀ (i : Nat) (q : Nat × va_E), (mm_ws m (mm_ad N0 sp) cA)[i]? = some q → q.1 = N0 + i := fun i q h => by
    rw [mm_ws_at h]
    unfold mm_ad
    rw [if_neg (by omega)]
    omega
  refine ⟨fun i j x y hi hj hxy => ?_, fun k q hk => ?_⟩
  · have h1 := key i x hi
    have h2 := key j y hj
    omega
  · show N0 ≤ q.1
    rw [key k q hk]
    omega
theorem mm_ws_set {m m' : mm_M} {ad : Nat → Nat} {cA : Nat → ClassId} {a : Nat} {s : Nat × Nat} {e : va_E} (ha : 100 ≤ a) (hs : m.1[a - 100]? = some s) (h1 : m'.1 = m.1) (he : e = mm_cel m' ad cA a s)
    (ho : ∀ b : Nat, b ≠ a → m'.2.2.1 b = m.2.2.1 b ∧ m'.2.2.2.1 b = m.2.2.2.1 b ∧ m'.2.2.2.2 b = m.2.2.2.2 b) : (mm_ws m ad cA).set (a - 100) (ad a, e) = mm_ws m' ad cA := by
  apply List.ext_getElem?
  intro i
  have hl : a - 100 < (mm_ws m ad cA).length := (List.getElem?_eq_some_iff.mp (mm_ws_get (ad := ad) (cA := cA) ha hs)).1
  by_cases hi : a - 100 = i
  · subst hi
    rw [List.getElem?_set_self hl, mm_ws_get (m := m') ha (by rw [h1]; exact hs), he]
  · rw [List.getElem?_set_ne hi]
    unfold mm_ws
    rw [List.getElem?_mapIdx, List.getElem?_mapIdx, h1]
    obtain ⟨g1, g2, g3⟩ := ho (100 + i) (by omega)
    rw [g1, g2, g3]
theorem mm_u_ne {α : Type} {f : Nat → Nat → α} {a k b : Nat} {v : α} (h : b ≠ a) : mm_u f a k v b = f b := by
  funext j
  unfold mm_u
  rw [if_neg (fun q => h q.1)]
theorem mm_u_eq {α : Type} {f : Nat → Nat → α} {a k : Nat} {v : α} : mm_u f a k v a = fun j => if j = k then v else f a j := by
  funext j
  unfold mm_u
  by_cases h : j = k
  · rw [if_pos ⟨rfl, h⟩, if_pos h]
  · rw [if_neg (fun q => h q.2), if_neg h]
def mm_tys (cA : Nat → ClassId) : List (ClassId × FieldType) := [(cA 20, .int), (cA 21, .long), (cA 22, .boolean), (cA 23, .char), (cA 24, .object "SamePassers$Hands"), (cA 25, .object "SamePassers$Papers"), (cA 26, .object "SamePassers$Walker"), (cA 27, .array .int)]
def mm_g : List Cond := lw_tbl.filter goodWord
theorem mm_g_in {w : Cond} (h : w ∈ lw_tbl) (hg : goodWord w = true) : w ∈ mm_g := List.mem_filter.mpr ⟨h, hg⟩
theorem mm_g_ok : GoodIn lw_tbl mm_g := fun w h => ⟨(List.mem_filter.mp h).1, good_of_word (List.mem_filter.mp h).2⟩
theorem mm_g_self : GoodIn mm_g mm_g := fun w h => ⟨h, good_of_word (List.mem_filter.mp h).2⟩
/-- the words of a throw that are not good at any time -/
def mm_xw : List Cond := (vx_atS "SamePassers" 311 "java/util/NoSuchElementException" ["java/lang/RuntimeException", "java/lang/Exception"]).filter (fun w => !goodWord w)
def mm_xk (w : Cond) : Bool := match w with
  | .declares _ => true
  | .castable _ _ => true
  | _ => false
theorem mm_xw_k : mm_xw.all mm_xk = true := by decide +kernel
theorem mm_xw_in : ∀ w ∈ mm_xw, w ∈ lw_tbl := by decide +kernel
theorem mm_xw_warm {w : Cond} {s U : State} (hk : mm_xk w = true) (hW : s.WarmedH U.vm) (h : va_Nw w s) : va_Nw w U := by
  unfold mm_xk at hk
  split at hk
  · exact va_Nw.warmD hW h
  · exact va_Nw.warmC hW h
  · cases hk
/-- what the tables say beyond the words that are good at any time -/
def mm_At (D : va_G) (cA : Nat → ClassId) (sp : Nat → Nat) (U : State) : Prop := va_K D vwCl (mm_tys cA) U ∧ (∀ x ∈ mm_nl, va_Nw (mm_nl_c x) U) ∧ va_AO "SamePassers$Hands" U ∧ va_AO "SamePassers$Papers" U ∧ va_AO "SamePassers$Walker" U ∧ (∀ x ∈ mm_ks, ∃ tx : String, vk_R (mm_cn x.1) x.2.1 tx (sp x.2.2) U) ∧ (Cond.arrayOver (.array .int)).before #[] U = true ∧ (∀ w ∈ mm_xw, va_Nw w U)
theorem mm_At.warm {D : va_G} {cA : Nat → ClassId} {sp : Nat → Nat} {s U : State} (hW : s.WarmedH U.vm) (h : mm_At D cA sp s) : mm_At D cA sp U := by
  obtain ⟨h1, h2, h3, h4, h5, h6, h7, h8⟩ := h
  exact ⟨h1.moved hW.alike, fun x hx => va_Nw.warmM hW (h2 x hx), h3.moved hW.alike, h4.moved hW.alike, h5.moved hW.alike, fun x hx => by
    obtain ⟨tx, ht⟩ := h6 x hx
    exact ⟨tx, ht.warm hW⟩, Jvm.Stand.arrayOver_alikeB hW.alike h7, fun w hw => mm_xw_warm (List.all_eq_true.mp mm_xw_k w hw) hW (h8 w hw)⟩
def mm_sln : List Nat := [149, 5, 3, 4, 6, 8]
def mm_sby : List (List Int32) := [(mm_str 1).map nI, (mm_str 2).map nI, (mm_str 3).map nI, (mm_str 4).map nI, (mm_str 5).map nI, (mm_str 6).map nI]
/-- the heap holds the memory -/
def mm_Hp (D : va_G) (cA : Nat → ClassId) (N0 : Nat) (sp : Nat → Nat) (m : mm_M) (U : State) (H : Heap) : Prop :=
  va_P D vwCl (mm_ws m (mm_ad N0 sp) cA) H ∧ va_X (sp 0) m.2.1.2 (m.2.2.1 0) U H ∧ sp 0 < N0 ∧ vk_S 6 mm_sln mm_sby (fun i => sp (i + 1)) (fun i => sp (50 + i)) (fun x => N0 ≤ x) U H ∧ va_Z "java/lang/String" "COMPACT_STRINGS" "Z" (.int 1) (fun x => N0 ≤ x) U H ∧ va_Z "jdk/internal/util/Preconditions" "SIOOBE_FORMATTER" "Ljava/util/function/BiFunction;" (va_rf ((m.2.2.2.2 99 0).map (mm_ad N0 sp))) (fun x => N0 ≤ x) U H ∧ vx_Zq Jvm.Bundle.tN "UNASSIGNED_STACK" Jvm.Bundle.steD (fun x => N0 ≤ x) U H ∧ vx_Zq Jvm.Bundle.tN "SUPPRESSED_SENTINEL" Jvm.Bundle.listD (fun x => N0 ≤ x) U H
theorem mm_Hp.moved {D : va_G} {cA : Nat → ClassId} {N0 : Nat} {sp : Nat → Nat} {m : mm_M} {u U : State} {H : Heap} (hvm : u.vm.Alike U.vm) (h : mm_Hp D cA N0 sp m u H) : mm_Hp D cA N0 sp m U H :=
  ⟨h.1, h.2.1.moved hvm, h.2.2.1, h.2.2.2.1.moved hvm, h.2.2.2.2.1.moved hvm, h.2.2.2.2.2.1.moved hvm, vx_Zq.moved hvm h.2.2.2.2.2.2.1, vx_Zq.moved hvm h.2.2.2.2.2.2.2⟩
/-- another heap, the old cells being as they were -/
theorem mm_Hp.to {D : va_G} {cA : Nat → ClassId} {N0 : Nat} {sp : Nat → Nat} {m m' : mm_M} {s : State} {H H1 : Heap} {locs locs1 : List Loc} (h : mm_Hp D cA N0 sp m s H) (hN : N0 ≤ s.heap.size) (hS : va_S (fun x => N0 ≤ x) s.heap H locs) (hS1 : va_S (fun x => N0 ≤ x) s.heap H1 locs1)
    (hP : va_P D vwCl (mm_ws m' (mm_ad N0 sp) cA) H1) (h1 : m'.2.1 = m.2.1) (h2 : m'.2.2.1 0 = m.2.2.1 0) (h3 : m'.2.2.2.2 99 = m.2.2.2.2 99) : mm_Hp D cA N0 sp m' s H1 := by
  have old : ∀ q : Nat, q < N0 → H1[q]? = H[q]? := fun q hq => (hS1.2.1 q (by omega) (by omega)).trans (hS.2.1 q (by omega) (by omega)).symm
  refine ⟨hP, ?_, h.2.2.1, h.2.2.2.1.kept (fun a _ h4 => old a (by omega)), h.2.2.2.2.1.kept (fun a _ h4 => old a (by omega)), ?_, vx_Zq.kept h.2.2.2.2.2.2.1 (fun a _ h4 => old a (by omega)), vx_Zq.kept h.2.2.2.2.2.2.2 (fun a _ h4 => old a (by omega))⟩
  · rw [h1, h2]
    exact h.2.1.kept (old _ h.2.2.1)
  · rw [h3]
    exact h.2.2.2.2.2.1.kept (fun a _ h4 => old a (by omega))
/-- the locals hold L -/
def mm_as (ad : Nat → Nat) (L : mm_L) : List (Nat × Value) := L.zipIdx.filterMap (fun q => q.1.map (fun v => (q.2, mm_tr ad v)))
theorem mm_as_mem {ad : Nat → Nat} {L : mm_L} {q : Nat × Value} : q ∈ mm_as ad L ↔ ∃ v, L[q.1]? = some (some v) ∧ q.2 = mm_tr ad v := by
  unfold mm_as
  rw [List.mem_filterMap]
  constructor
  · rintro ⟨⟨x, i⟩, hx, h⟩
    rw [List.mem_zipIdx_iff_getElem?] at hx
    cases x with
    | none => cases h
    | some v =>
      cases h
      exact ⟨v, hx, rfl⟩
  · rintro ⟨v, h1, h2⟩
    refine ⟨(some v, q.1), List.mem_zipIdx_iff_getElem?.mpr h1, ?_⟩
    obtain ⟨i, w⟩ := q
    dsimp only at h2
    subst h2
    rfl
def mm_LS (ad : Nat → Nat) (nL : Nat) (ls : Array Slot) (L : mm_L) : Prop := L.length = nL ∧ lv_has ls nL (mm_as ad L)
theorem mm_LS.at {ad : Nat → Nat} {nL : Nat} {ls : Array Slot} {L : mm_L} (h : mm_LS ad nL ls L) {i : Nat} {v : Value} (hv : L[i]? = some (some v)) : ls[i]? = some (.val (mm_tr ad v)) := h.2.2.2 (i, mm_tr ad v) (mm_as_mem.mpr ⟨v, hv, rfl⟩)
theorem mm_kl_len (L : mm_L) (i : Nat) : (mm_kl L i).length = L.length := by
  cases i with
  | zero => rfl
  | succ i =>
    simp only [mm_kl]
    split
    · split
      · exact List.length_set
      · rfl
    · rfl
theorem mm_kl_at {L : mm_L} {i j : Nat} {v : Value} (h : (mm_kl L i)[j]? = some (some v)) : L[j]? = some (some v) ∧ ¬ (j + 1 = i ∧ v.category = 2) := by
  cases i with
  | zero => exact ⟨h, fun q => by omega⟩
  | succ i =>
    simp only [mm_kl] at h
    split at h
    · next w hw =>
      split at h
      · next hc =>
        by_cases hij : i = j
        · subst hij
          rw [List.getElem?_set_self (List.getElem?_eq_some_iff.mp hw).1] at h
          cases h
        · rw [List.getElem?_set_ne hij] at h
          exact ⟨h, fun q => hij (by omega)⟩
      · next hc =>
        refine ⟨h, fun q => ?_⟩
        have e : j = i := by omega
        subst e
        rw [hw] at h
        cases h
        exact hc q.2
    · next hw =>
      refine ⟨h, fun q => ?_⟩
      have e : j = i := by omega
      subst e
      exact hw v h
theorem mm_s1_LS {ad : Nat → Nat} {nL : Nat} {ls' : Array Slot} {L : mm_L} {i : Nat} {v : Value} (hL : L.length = nL) (hi : i < nL) (h : lv_has ls' nL ((i, mm_tr ad v) :: (mm_as ad L).filter (fun q => !(q.1 == i) && !(q.1 + 1 == i && q.2.category == 2)))) : mm_LS ad nL ls' (mm_s1 L i v) := by
  refine ⟨by unfold mm_s1; rw [List.length_set, mm_kl_len]; exact hL, h.1, h.2.1, fun q hq => ?_⟩
  obtain ⟨w, h1, h2⟩ := mm_as_mem.mp hq
  apply h.2.2
  unfold mm_s1 at h1
  by_cases hqi : i = q.1
  · rw [← hqi, List.getElem?_set_self (by rw [mm_kl_len]; omega)] at h1
    cases h1
    obtain ⟨q1, q2⟩ := q
    dsimp only at hqi h2
    subst hqi; subst h2
    exact List.mem_cons_self
  · rw [List.getElem?_set_ne hqi] at h1
    obtain ⟨g1, g2⟩ := mm_kl_at h1
    refine List.mem_cons_of_mem _ (List.mem_filter.mpr ⟨mm_as_mem.mpr ⟨w, g1, h2⟩, ?_⟩)
    rw [h2, mm_tr_cat]
    simp only [Bool.and_eq_true, Bool.not_eq_true', beq_eq_false_iff_ne, Bool.and_eq_false_iff, ne_eq]
    refine ⟨fun z => hqi z.symm, ?_⟩
    by_cases hz : q.1 + 1 = i
    · exact Or.inr (fun z => g2 ⟨hz, z⟩)
    · exact Or.inl hz
theorem mm_s2_LS {ad : Nat → Nat} {nL : Nat} {ls' : Array Slot} {L : mm_L} {i : Nat} {v : Value} (hL : L.length = nL) (hi : i + 1 < nL) (h : lv_has ls' nL ((i, mm_tr ad v) :: (mm_as ad L).filter (fun q => !(q.1 == i) && (!(q.1 == i + 1) && !(q.1 + 1 == i && q.2.category == 2))))) : mm_LS ad nL ls' (mm_s2 L i v) := by
  refine ⟨by unfold mm_s2; rw [List.length_set, List.length_set, mm_kl_len]; exact hL, h.1, h.2.1, fun q hq => ?_⟩
  obtain ⟨w, h1, h2⟩ := mm_as_mem.mp hq
  apply h.2.2
  unfold mm_s2 at h1
  by_cases hq1 : i + 1 = q.1
  · rw [← hq1, List.getElem?_set_self (by rw [List.length_set, mm_kl_len]; omega)] at h1
    cases h1
  · rw [List.getElem?_set_ne hq1] at h1
    by_cases hqi : i = q.1
    · rw [← hqi, List.getElem?_set_self (by rw [mm_kl_len]; omega)] at h1
      cases h1
      obtain ⟨q1, q2⟩ := q
      dsimp only at hqi h2
      subst hqi; subst h2
      exact List.mem_cons_self
    · rw [List.getElem?_set_ne hqi] at h1
      obtain ⟨g1, g2⟩ := mm_kl_at h1
      refine List.mem_cons_of_mem _ (List.mem_filter.mpr ⟨mm_as_mem.mpr ⟨w, g1, h2⟩, ?_⟩)
      rw [h2, mm_tr_cat]
      simp only [Bool.and_eq_true, Bool.not_eq_true', beq_eq_false_iff_ne, Bool.and_eq_false_iff, ne_eq]
      refine ⟨fun z => hqi z.symm, fun z => hq1 z.symm, ?_⟩
      by_cases hz : q.1 + 1 = i
      · exact Or.inr (fun z => g2 ⟨hz, z⟩)
      · exact Or.inl hz
/-- how many cells, and slots, there are -/
def mm_nc (m : mm_M) : Nat := m.1.length + m.2.1.1
def mm_sz (s : Nat × Nat) : Nat := if s.1 < 20 then (mm_ft s.1).length else s.2
def mm_ns (m : mm_M) : Nat := (m.1.map mm_sz).sum + 100 * m.2.1.1
