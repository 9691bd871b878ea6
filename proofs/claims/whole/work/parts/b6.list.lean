/-- memory as lists: cells, ints, longs, references; the last written first -/
abbrev lM : Type := List (Nat × Nat) × List (Nat × Nat × Int) × List (Nat × Nat × Int) × List (Nat × Nat × Nat)
def lkI : List (Nat × Nat × Int) → Nat → Nat → Int32
  | [], _, _ => 0
  | q :: r, a, k => if q.1 = a ∧ q.2.1 = k then Int32.ofInt q.2.2 else lkI r a k
def lkJ : List (Nat × Nat × Int) → Nat → Nat → Int64
  | [], _, _ => 0
  | q :: r, a, k => if q.1 = a ∧ q.2.1 = k then Int64.ofInt q.2.2 else lkJ r a k
def lkR : List (Nat × Nat × Nat) → Nat → Nat → Option Nat
  | [], _, _ => none
  | q :: r, a, k => if q.1 = a ∧ q.2.1 = k then some q.2.2 else lkR r a k
def ab (m : lM) : mm_M := (m.1, (0, 0), lkI m.2.1, lkJ m.2.2.1, lkR m.2.2.2)
def nxL (m : lM) : Nat := 100 + m.1.length
def okL (m : lM) : Prop := (∀ q ∈ m.2.1, q.1 < nxL m) ∧ (∀ q ∈ m.2.2.1, q.1 < nxL m) ∧ (∀ q ∈ m.2.2.2, q.1 < nxL m)
def adI (m : lM) (a k : Nat) (v : Int32) : lM := (m.1, (a, k, v.toInt) :: m.2.1, m.2.2.1, m.2.2.2)
def adJ (m : lM) (a k : Nat) (v : Int64) : lM := (m.1, m.2.1, (a, k, v.toInt) :: m.2.2.1, m.2.2.2)
def adR (m : lM) (a k v : Nat) : lM := (m.1, m.2.1, m.2.2.1, (a, k, v) :: m.2.2.2)
def nwL (m : lM) (s : Nat × Nat) : lM := (m.1 ++ [s], m.2.1, m.2.2.1, m.2.2.2)
def nw2L (m : lM) (n k : Nat) : lM := (m.1 ++ (27, n) :: List.replicate n (20, k), m.2.1, m.2.2.1, (List.range n).map (fun j => (nxL m, j, nxL m + 1 + j)) ++ m.2.2.2)
section
variable {m : lM} {a k : Nat}
theorem ab_sI {v : Int32} : mm_sI (ab m) a k v = ab (adI m a k v) := by
  have : mm_u (lkI m.2.1) a k v = lkI ((a, k, v.toInt) :: m.2.1) := by
    funext b j
    unfold mm_u
    show _ = if a = b ∧ k = j then Int32.ofInt v.toInt else lkI m.2.1 b j
    by_cases z : b = a ∧ j = k
    · rw [if_pos z, if_pos ⟨z.1.symm, z.2.symm⟩, Int32.ofInt_toInt]
    · rw [if_neg z, if_neg (fun w => z ⟨w.1.symm, w.2.symm⟩)]
  show (m.1, (0, 0), mm_u (lkI m.2.1) a k v, lkJ m.2.2.1, lkR m.2.2.2) = _
  rw [this]
  rfl
theorem ab_sL {v : Int64} : mm_sL (ab m) a k v = ab (adJ m a k v) := by
  have : mm_u (lkJ m.2.2.1) a k v = lkJ ((a, k, v.toInt) :: m.2.2.1) := by
    funext b j
    unfold mm_u
    show _ = if a = b ∧ k = j then Int64.ofInt v.toInt else lkJ m.2.2.1 b j
    by_cases z : b = a ∧ j = k
    · rw [if_pos z, if_pos ⟨z.1.symm, z.2.symm⟩, Int64.ofInt_toInt]
    · rw [if_neg z, if_neg (fun w => z ⟨w.1.symm, w.2.symm⟩)]
  show (m.1, (0, 0), lkI m.2.1, mm_u (lkJ m.2.2.1) a k v, lkR m.2.2.2) = _
  rw [this]
  rfl
theorem ab_sR {v : Nat} : mm_sR (ab m) a k (some v) = ab (adR m a k v) := by
  have : mm_u (lkR m.2.2.2) a k (some v) = lkR ((a, k, v) :: m.2.2.2) := by
    funext b j
    unfold mm_u
    show _ = if a = b ∧ k = j then some v else lkR m.2.2.2 b j
    by_cases z : b = a ∧ j = k
    · rw [if_pos z, if_pos ⟨z.1.symm, z.2.symm⟩]
    · rw [if_neg z, if_neg (fun w => z ⟨w.1.symm, w.2.symm⟩)]
  show (m.1, (0, 0), lkI m.2.1, lkJ m.2.2.1, mm_u (lkR m.2.2.2) a k (some v)) = _
  rw [this]
  rfl
theorem lkI_no {n : Nat} : ∀ {l : List (Nat × Nat × Int)}, (∀ q ∈ l, q.1 < n) → n ≤ a → lkI l a k = 0
  | [], _, _ => rfl
  | q :: r, h, hn => by
    have := h q List.mem_cons_self
    unfold lkI
    rw [if_neg (by omega)]
    exact lkI_no (fun q hq => h q (List.mem_cons_of_mem _ hq)) hn
theorem lkJ_no {n : Nat} : ∀ {l : List (Nat × Nat × Int)}, (∀ q ∈ l, q.1 < n) → n ≤ a → lkJ l a k = 0
  | [], _, _ => rfl
  | q :: r, h, hn => by
    have := h q List.mem_cons_self
    unfold lkJ
    rw [if_neg (by omega)]
    exact lkJ_no (fun q hq => h q (List.mem_cons_of_mem _ hq)) hn
theorem lkR_no {n : Nat} : ∀ {l : List (Nat × Nat × Nat)}, (∀ q ∈ l, q.1 < n) → n ≤ a → lkR l a k = none
  | [], _, _ => rfl
  | q :: r, h, hn => by
    have := h q List.mem_cons_self
    unfold lkR
    rw [if_neg (by omega)]
    exact lkR_no (fun q hq => h q (List.mem_cons_of_mem _ hq)) hn
theorem cl_no {α : Type} {g : Nat → Nat → α} {n : Nat} {v : α} (h : ∀ a k, n ≤ a → g a k = v) : mm_cl g n v = g := by
  funext b j
  unfold mm_cl
  split
  · next z => exact (h b j z).symm
  · rfl
theorem ab_new (h : okL m) {s : Nat × Nat} : mm_new (ab m) s = ab (nwL m s) := by
  show (m.1 ++ [s], (0, 0), mm_cl (lkI m.2.1) (nxL m) 0, mm_cl (lkJ m.2.2.1) (nxL m) 0, mm_cl (lkR m.2.2.2) (nxL m) none) = _
  rw [cl_no (fun a k z => lkI_no h.1 z), cl_no (fun a k z => lkJ_no h.2.1 z), cl_no (fun a k z => lkR_no h.2.2 z)]
  rfl
theorem lkR_map {x : Nat} {l : List (Nat × Nat × Nat)} : ∀ (js : List Nat) (b j : Nat), lkR (js.map (fun j => (x, j, x + 1 + j)) ++ l) b j = if b = x ∧ j ∈ js then some (x + 1 + j) else lkR l b j
  | [], b, j => by rw [if_neg (by simp)]; rfl
  | i :: js, b, j => by
    show (if x = b ∧ i = j then some (x + 1 + i) else lkR (js.map (fun j => (x, j, x + 1 + j)) ++ l) b j) = _
    rw [lkR_map js b j]
    by_cases z : x = b ∧ i = j
    · rw [if_pos z, if_pos ⟨z.1.symm, z.2 ▸ List.mem_cons_self⟩, z.2]
    · rw [if_neg z]
      by_cases w : b = x ∧ j ∈ js
      · rw [if_pos w, if_pos ⟨w.1, List.mem_cons_of_mem _ w.2⟩]
      · rw [if_neg w, if_neg (fun y => (List.mem_cons.mp y.2).elim (fun q => z ⟨y.1.symm, q.symm⟩) (fun q => w ⟨y.1, q⟩))]
theorem ab_new2 (h : okL m) {n k : Nat} : mm_new2 (ab m) n k = ab (nw2L m n k) := by
  have : (fun b j => if b = nxL m then (if j < n then some (nxL m + 1 + j) else none) else mm_cl (lkR m.2.2.2) (nxL m) none b j) = lkR ((List.range n).map (fun j => (nxL m, j, nxL m + 1 + j)) ++ m.2.2.2) := by
    funext b j
    rw [lkR_map, cl_no (fun a k z => lkR_no h.2.2 z)]
    by_cases z : b = nxL m
    · rw [if_pos z]
      by_cases w : j < n
      · rw [if_pos w, if_pos ⟨z, List.mem_range.mpr w⟩]
      · rw [if_neg w, if_neg (fun y => w (List.mem_range.mp y.2)), lkR_no h.2.2 (by omega)]
    · rw [if_neg z, if_neg (fun y => z y.1)]
  show (m.1 ++ (27, n) :: List.replicate n (20, k), (0, 0), mm_cl (lkI m.2.1) (nxL m) 0, mm_cl (lkJ m.2.2.1) (nxL m) 0, fun b j => if b = nxL m then (if j < n then some (nxL m + 1 + j) else none) else mm_cl (lkR m.2.2.2) (nxL m) none b j) = _
  rw [this, cl_no (fun a k z => lkI_no h.1 z), cl_no (fun a k z => lkJ_no h.2.1 z)]
  rfl
theorem ab_lt {s : Nat × Nat} (h : mm_sh (ab m) a = some s) : a < nxL m := by
  unfold mm_sh at h
  split at h
  · unfold nxL; omega
  · split at h
    · unfold nxL; omega
    · have h : m.1[a - 100]? = some s := h
      have := (List.getElem?_eq_some_iff.mp h).1
      unfold nxL
      omega
theorem ok_I (h : okL m) (ha : a < nxL m) {v : Int32} : okL (adI m a k v) := ⟨fun q hq => (List.mem_cons.mp hq).elim (fun e => e ▸ ha) (h.1 q), h.2.1, h.2.2⟩
theorem ok_J (h : okL m) (ha : a < nxL m) {v : Int64} : okL (adJ m a k v) := ⟨h.1, fun q hq => (List.mem_cons.mp hq).elim (fun e => e ▸ ha) (h.2.1 q), h.2.2⟩
theorem ok_R (h : okL m) (ha : a < nxL m) {v : Nat} : okL (adR m a k v) := ⟨h.1, h.2.1, fun q hq => (List.mem_cons.mp hq).elim (fun e => e ▸ ha) (h.2.2 q)⟩
theorem ok_nw (h : okL m) {s : Nat × Nat} : okL (nwL m s) := by
  have e : nxL (nwL m s) = nxL m + 1 := by
    show 100 + (m.1 ++ [s]).length = 100 + m.1.length + 1
    rw [List.length_append]
    rfl
  refine ⟨fun q hq => ?_, fun q hq => ?_, fun q hq => ?_⟩
  · have := h.1 q hq; omega
  · have := h.2.1 q hq; omega
  · have := h.2.2 q hq; omega
theorem ok_nw2 (h : okL m) {n k : Nat} : okL (nw2L m n k) := by
  have e : nxL (nw2L m n k) = nxL m + 1 + n := by
    show 100 + (m.1 ++ (27, n) :: List.replicate n (20, k)).length = 100 + m.1.length + 1 + n
    rw [List.length_append, List.length_cons, List.length_replicate]
    omega
  refine ⟨fun q hq => ?_, fun q hq => ?_, fun q hq => ?_⟩
  · have := h.1 q hq; omega
  · have := h.2.1 q hq; omega
  · rcases List.mem_append.mp hq with hq | hq
    · obtain ⟨j, -, rfl⟩ := List.mem_map.mp hq
      show nxL m < _
      omega
    · have := h.2.2 q hq; omega
/-- the memory behind a step -/
def nM (e : mm_E) (S : List Value) (m : lM) : lM := match e.1 with
  | .putfield _ => match S with
    | .int x :: .ref a :: _ => adI m a e.2.2.2.1 x
    | .long x :: .ref a :: _ => adJ m a e.2.2.2.1 x
    | .ref x :: .ref a :: _ => adR m a e.2.2.2.1 x
    | _ => m
  | .iastore => match S with
    | .int x :: .int i :: .ref a :: _ => adI m a i.toNatClampNeg x
    | _ => m
  | .bastore => match S with
    | .int x :: .int i :: .ref a :: _ => adI m a i.toNatClampNeg (vp_nar .boolean x)
    | _ => m
  | .castore => match S with
    | .int x :: .int i :: .ref a :: _ => adI m a i.toNatClampNeg (vp_nar .char x)
    | _ => m
  | .lastore => match S with
    | .long x :: .int i :: .ref a :: _ => adJ m a i.toNatClampNeg x
    | _ => m
  | .aastore => match S with
    | .ref x :: .int i :: .ref a :: _ => adR m a i.toNatClampNeg x
    | _ => m
  | .new _ => nwL m (e.2.2.1, 0)
  | .newarray t => match t, S with
    | .int, .int n :: _ => nwL m (20, n.toNatClampNeg)
    | .long, .int n :: _ => nwL m (21, n.toNatClampNeg)
    | .boolean, .int n :: _ => nwL m (22, n.toNatClampNeg)
    | .char, .int n :: _ => nwL m (23, n.toNatClampNeg)
    | _, _ => m
  | .anewarray _ => match S with
    | .int n :: _ => nwL m (e.2.2.1, n.toNatClampNeg)
    | _ => m
  | .multianewarray _ _ => match S with
    | .int k :: .int n :: _ => nw2L m n.toNatClampNeg k.toNatClampNeg
    | _ => m
  | _ => m
/-- no copying of ints -/
def gcp (e : mm_E) : Bool := match e.1 with
  | .invokevirtual _ => decide (¬ e.2.2.2.2 = 13)
  | .invokespecial _ => decide (¬ e.2.2.2.2 = 13)
  | .invokestatic _ => decide (¬ e.2.2.2.2 = 13)
  | _ => true
theorem nM_inv {k n : Nat} {kd : Int} {pc : Nat} {L : mm_L} {S : List Value} {q : Nat × mm_L × List Value × mm_M} (h : mm_inv k n kd pc L S (ab m) = some (.inl q)) (hk : ¬ kd = 13) (ho : okL m) : q.2.2.2 = ab m ∧ okL m := by
  obtain ⟨-, -, -, -, -, -, h⟩ := mm_inv_pr h
  unfold mm_prim at h
  repeat' split at h
  all_goals first
    | (cases h; exact ⟨rfl, ho⟩)
    | (cases h; done)
    | (exact absurd (by assumption) hk)
set_option maxHeartbeats 4000000 in
theorem nM_step {j : Nat} {e : mm_E} {pc : Nat} {L : mm_L} {S : List Value} {q : Nat × mm_L × List Value × mm_M} (h : mm_step j e pc L S (ab m) = some (.inl q)) (hg : gcp e = true) (ho : okL m) : q.2.2.2 = ab (nM e S m) ∧ okL (nM e S m) := by
  obtain ⟨i, nn, r1, r2, r3⟩ := e
  cases i <;> dsimp only [mm_step, gcp, nM] at h hg ⊢ <;>
    first
    | exact nM_inv h (of_decide_eq_true hg) ho
    | (cases h; done)
    | ((try simp only [mm_nx, mm_ldc, mm_ldI, mm_ldL, mm_ldR, mm_stI, mm_stL, mm_stR, mm_inc, mm_bI, mm_dI, mm_bL, mm_dL, mm_hL, mm_cL, mm_1I, mm_1L, mm_dup, mm_dup2, mm_pop, mm_if, mm_ic, mm_get, mm_gst, mm_bld, mm_put, mm_ald, mm_rld, mm_ast, mm_lst, mm_rst, mm_len, mm_nwa, mm_nw2, mm_thr, mm_ret, mm_lrt, mm_tsw, mm_lsw] at h) <;> (repeat' split at h) <;>
        first
        | (cases h; done)
        | (cases h; exact ⟨rfl, ho⟩)
        | (cases h; exact ⟨ab_new ho, ok_nw ho⟩)
        | (cases h; exact ⟨ab_new2 ho, ok_nw2 ho⟩)
        | (cases h; exact ⟨ab_sI, ok_I ho (ab_lt (by assumption))⟩)
        | (cases h; exact ⟨ab_sL, ok_J ho (ab_lt (by assumption))⟩)
        | (cases h; exact ⟨ab_sR, ok_R ho (ab_lt (by assumption))⟩)
        | skip)
end
