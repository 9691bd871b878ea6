theorem mm_thr154 : ∀ x ∈ mm_c154, x.2.2.2.1 = 99 → x.1 = 12 ∨ x.1 = 58 ∨ x.1 = 93 := by decide +kernel
theorem mm_w_xk : Cond.classLink "SamePassers" 307 "java/util/NoSuchElementException" ∈ mm_g := mm_g_in (List.mem_of_getElem? (i := 1390) (by decide +kernel)) rfl
theorem mm_w_xi : Cond.initialized "java/util/NoSuchElementException" ∈ mm_g := mm_g_in (List.mem_of_getElem? (i := 159) (by decide +kernel)) rfl
theorem mm_w_xc : Cond.classLink "SamePassersLaw" 13 "java/util/NoSuchElementException" ∈ mm_g := mm_g_in (List.mem_of_getElem? (i := 1385) (by decide +kernel)) rfl
theorem mm_w_xs : Cond.static (mm_y 278) ∈ mm_g := mm_g_in (List.mem_of_getElem? (i := 1383) (by decide +kernel)) rfl
theorem mm_w_xl : Cond.initialized "SamePassersLaw" ∈ mm_g := mm_g_in (mm_ini_w 13 (by decide +kernel)) rfl
def mm_nmW : Option Cond → Option (MethodName × Nat × Option FieldType)
  | some (.codeWith y _ n r h) => if h = [(0, 9, 12, 13)] then some (y, n, r) else none
  | _ => none
theorem mm_nmW_e {o : Option Cond} {y : MethodName} {n : Nat} {r : Option FieldType} (h : mm_nmW o = some (y, n, r)) : ∃ b, o = some (.codeWith y b n r [(0, 9, 12, 13)]) := by
  unfold mm_nmW at h
  split at h
  · split at h
    · next h1 => cases h; subst h1; exact ⟨_, rfl⟩
    · cases h
  · cases h
theorem mm_w_xw0 : mm_nmW (lw_tbl[1384]?) = some (mm_y 278, 4, some .int) := by decide +kernel
theorem mm_w_xp : mm_plc.getD 278 0 = 1384 := by decide +kernel
theorem mm_w_xw : Cond.codeWith (mm_y 278) (mm_b 278) 4 (some .int) [(0, 9, 12, 13)] ∈ mm_g := by
  obtain ⟨b, hb⟩ := mm_nmW_e mm_w_xw0
  have e : mm_b 278 = b := by
    unfold mm_b
    rw [if_neg (by decide), mm_w_xp, hb]
    rfl
  rw [e]
  exact mm_g_in (List.mem_of_getElem? hb) rfl
theorem mm_xat_on : mm_xw.all (fun w => w.onTables) = true := by decide +kernel
theorem mm_Wmono {p : Program} {l : Launch} {e : Env} {R : Room} {s : State} {m : MethodId} {args : Array Value} {below : List Frame} {meth : Method} {c : Code} {H : Heap} {locs : List Loc} {cells slots : Nat} {Q Q' : State → Prop} {g : JFrame} (h : ∀ t, Q t → Q' t) (k : W p l e R s m args below meth c H locs cells slots Q g) : W p l e R s m args below meth c H locs cells slots Q' g := fun T hT X => by
  obtain ⟨t, a, b⟩ := k T hT X
  exact ⟨t, a, h t b⟩
def mm_QX (D : va_G) (cA : Nat → ClassId) (N0 : Nat) (sp : Nat → Nat) (y : mm_R) : Array Value → State → Outcome → State → Prop := fun a st oc t => ∃ v, y.1 = some v ∧ mm_Qc D cA N0 sp y.2 v a st oc t
def mm_XX (D : va_G) (cA : Nat → ClassId) (N0 : Nat) (sp : Nat → Nat) (y : mm_R) : String → State → State → Prop := fun E st t => y.1 = none ∧ E = "java/util/NoSuchElementException" ∧ mm_Hp D cA N0 sp y.2 t t.heap ∧ va_F (fun x => N0 ≤ x) st t