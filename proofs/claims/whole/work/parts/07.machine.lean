/-- the memory of the small machine: shapes of the cells (kind, length), (how many were thrown, the script's length), ints, longs, references -/
abbrev mm_M : Type := List (Nat × Nat) × (Nat × Nat) × (Nat → Nat → Int32) × (Nat → Nat → Int64) × (Nat → Nat → Option Nat)
def mm_u {α : Type} (f : Nat → Nat → α) (a k : Nat) (v : α) : Nat → Nat → α := fun b j => if b = a ∧ j = k then v else f b j
def mm_cl {α : Type} (f : Nat → Nat → α) (a : Nat) (v : α) : Nat → Nat → α := fun b j => if a ≤ b then v else f b j
def mm_gI (m : mm_M) (a k : Nat) : Int32 := m.2.2.1 a k
def mm_gL (m : mm_M) (a k : Nat) : Int64 := m.2.2.2.1 a k
def mm_gR (m : mm_M) (a k : Nat) : Option Nat := m.2.2.2.2 a k
def mm_sI (m : mm_M) (a k : Nat) (v : Int32) : mm_M := (m.1, m.2.1, mm_u m.2.2.1 a k v, m.2.2.2.1, m.2.2.2.2)
def mm_sL (m : mm_M) (a k : Nat) (v : Int64) : mm_M := (m.1, m.2.1, m.2.2.1, mm_u m.2.2.2.1 a k v, m.2.2.2.2)
def mm_sR (m : mm_M) (a k : Nat) (v : Option Nat) : mm_M := (m.1, m.2.1, m.2.2.1, m.2.2.2.1, mm_u m.2.2.2.2 a k v)
/-- texts: their signs -/
def mm_str : Nat → List Nat
  | 1 => [115, 116, 114, 101, 101, 116, 32, 108, 97, 110, 101, 115, 32, 102, 114, 97, 109, 101, 32, 116, 111, 32, 115, 104, 97, 114, 112, 32, 115, 97, 121, 32, 97, 116, 32, 119, 97, 108, 107, 101, 114, 32, 108, 97, 110, 101, 32, 102, 114, 111, 109, 32, 112, 97, 99, 101, 32, 108, 97, 103, 32, 111, 110, 32, 109, 117, 115, 116, 32, 114, 111, 117, 110, 100, 32, 113, 117, 105, 99, 107, 32, 111, 100, 100, 32, 115, 116, 97, 114, 116, 32, 116, 117, 114, 110, 32, 108, 97, 116, 101, 32, 116, 97, 107, 101, 32, 108, 101, 102, 116, 32, 114, 105, 103, 104, 116, 32, 112, 108, 97, 105, 110, 32, 112, 114, 97, 109, 32, 100, 111, 103, 32, 115, 116, 114, 97, 121, 32, 110, 111, 116, 32, 97, 110, 100, 32, 111, 114, 32]
  | 2 => [116, 101, 109, 112, 111]
  | 3 => [110, 116, 104]
  | 4 => [107, 105, 110, 100]
  | 5 => [112, 97, 115, 115, 101, 115]
  | 6 => [40, 41, 60, 61, 43, 45, 42, 59]
  | _ => []
/-- the shape of the cell a: 0 is the script; 1 to 6 are texts, 50 to 55 their bytes; from 100 on the cells that are made -/
def mm_sh (m : mm_M) (a : Nat) : Option (Nat × Nat) := if a = 0 then some (20, m.2.1.2) else if a < 100 then (if 1 ≤ a ∧ a ≤ 6 then some (30, 0) else if 50 ≤ a ∧ a ≤ 55 then some (31, (mm_str (a - 49)).length) else none) else m.1[a - 100]?
def mm_next (m : mm_M) : Nat := 100 + m.1.length
def mm_new (m : mm_M) (s : Nat × Nat) : mm_M := (m.1 ++ [s], m.2.1, mm_cl m.2.2.1 (mm_next m) 0, mm_cl m.2.2.2.1 (mm_next m) 0, mm_cl m.2.2.2.2 (mm_next m) none)
def mm_new2 (m : mm_M) (n k : Nat) : mm_M := (m.1 ++ (27, n) :: List.replicate n (20, k), m.2.1, mm_cl m.2.2.1 (mm_next m) 0, mm_cl m.2.2.2.1 (mm_next m) 0, fun b j => if b = mm_next m then (if j < n then some (mm_next m + 1 + j) else none) else mm_cl m.2.2.2.2 (mm_next m) none b j)
def mm_exc (m : mm_M) : mm_M := (m.1, (m.2.1.1 + 1, m.2.1.2), m.2.2)
/-- n ints from a's place sp on, to b's place dp on -/
def mm_cp (m : mm_M) (a sp b dp n : Nat) : mm_M := (m.1, m.2.1, fun c j => if c = b ∧ dp ≤ j ∧ j < dp + n then mm_gI m a (sp + (j - dp)) else m.2.2.1 c j, m.2.2.2.1, m.2.2.2.2)
def mm_lk : List (Nat × mm_E) → Nat → Option mm_E
  | [], _ => none
  | q :: r, pc => if Nat.beq q.1 pc then some q.2 else mm_lk r pc
def mm_at (j pc : Nat) : Option mm_E := match mm_prog[j]? with
  | some t => mm_lk t pc
  | none => none
abbrev mm_L : Type := List (Option Value)
/-- a step's outcome: on; a call (method, arguments, the stack below, the place behind); an answer; thrown -/
abbrev mm_O : Type := (Nat × mm_L × List Value × mm_M) ⊕ ((Nat × List Value × List Value × Nat) ⊕ (Option Value ⊕ Unit))
def mm_nx (pc : Nat) (L : mm_L) (S : List Value) (m : mm_M) : Option mm_O := some (.inl (pc, L, S, m))
def mm_kl (L : mm_L) : Nat → mm_L
  | 0 => L
  | i + 1 => match L[i]? with
    | some (some v) => if v.category = 2 then L.set i none else L
    | _ => L
def mm_s1 (L : mm_L) (i : Nat) (v : Value) : mm_L := (mm_kl L i).set i (some v)
def mm_s2 (L : mm_L) (i : Nat) (v : Value) : mm_L := ((mm_kl L i).set i (some v)).set (i + 1) none
def mm_ldI (i pc : Nat) (L : mm_L) (S : List Value) (m : mm_M) : Option mm_O := match L[i]? with
  | some (some (.int x)) => mm_nx pc L (.int x :: S) m
  | _ => none
def mm_ldL (i pc : Nat) (L : mm_L) (S : List Value) (m : mm_M) : Option mm_O := match L[i]? with
  | some (some (.long x)) => mm_nx pc L (.long x :: S) m
  | _ => none
def mm_ldR (i pc : Nat) (L : mm_L) (S : List Value) (m : mm_M) : Option mm_O := match L[i]? with
  | some (some (.ref x)) => mm_nx pc L (.ref x :: S) m
  | _ => none
def mm_stI (i pc : Nat) (L : mm_L) (S : List Value) (m : mm_M) : Option mm_O := match S with
  | .int x :: r => if i < L.length then mm_nx pc (mm_s1 L i (.int x)) r m else none
  | _ => none
def mm_stL (i pc : Nat) (L : mm_L) (S : List Value) (m : mm_M) : Option mm_O := match S with
  | .long x :: r => if i + 1 < L.length then mm_nx pc (mm_s2 L i (.long x)) r m else none
  | _ => none
def mm_stR (i pc : Nat) (L : mm_L) (S : List Value) (m : mm_M) : Option mm_O := match S with
  | .ref x :: r => if i < L.length then mm_nx pc (mm_s1 L i (.ref x)) r m else none
  | _ => none
def mm_inc (i : Nat) (n : Int) (pc : Nat) (L : mm_L) (S : List Value) (m : mm_M) : Option mm_O := match L[i]? with
  | some (some (.int x)) => if i < L.length then mm_nx pc (mm_s1 L i (.int (x + Int32.ofInt n))) S m else none
  | _ => none
def mm_bI (f : Int32 → Int32 → Int32) (pc : Nat) (L : mm_L) (S : List Value) (m : mm_M) : Option mm_O := match S with
  | .int y :: .int x :: r => mm_nx pc L (.int (f x y) :: r) m
  | _ => none
def mm_dI (f : Int32 → Int32 → Int32) (pc : Nat) (L : mm_L) (S : List Value) (m : mm_M) : Option mm_O := match S with
  | .int y :: .int x :: r => if y = 0 then none else mm_nx pc L (.int (f x y) :: r) m
  | _ => none
def mm_bL (f : Int64 → Int64 → Int64) (pc : Nat) (L : mm_L) (S : List Value) (m : mm_M) : Option mm_O := match S with
  | .long y :: .long x :: r => mm_nx pc L (.long (f x y) :: r) m
  | _ => none
def mm_dL (f : Int64 → Int64 → Int64) (pc : Nat) (L : mm_L) (S : List Value) (m : mm_M) : Option mm_O := match S with
  | .long y :: .long x :: r => if y = 0 then none else mm_nx pc L (.long (f x y) :: r) m
  | _ => none
def mm_hL (f : Int64 → Int32 → Int64) (pc : Nat) (L : mm_L) (S : List Value) (m : mm_M) : Option mm_O := match S with
  | .int y :: .long x :: r => mm_nx pc L (.long (f x y) :: r) m
  | _ => none
def mm_cL (pc : Nat) (L : mm_L) (S : List Value) (m : mm_M) : Option mm_O := match S with
  | .long y :: .long x :: r => mm_nx pc L (.int (lg_cmp x y) :: r) m
  | _ => none
def mm_1I (f : Int32 → Value) (pc : Nat) (L : mm_L) (S : List Value) (m : mm_M) : Option mm_O := match S with
  | .int x :: r => mm_nx pc L (f x :: r) m
  | _ => none
def mm_1L (f : Int64 → Value) (pc : Nat) (L : mm_L) (S : List Value) (m : mm_M) : Option mm_O := match S with
  | .long x :: r => mm_nx pc L (f x :: r) m
  | _ => none
def mm_dup (pc : Nat) (L : mm_L) (S : List Value) (m : mm_M) : Option mm_O := match S with
  | v :: r => if v.category = 1 then mm_nx pc L (v :: v :: r) m else none
  | _ => none
def mm_dup2 (pc : Nat) (L : mm_L) (S : List Value) (m : mm_M) : Option mm_O := match S with
  | v :: w :: r => if v.category = 1 ∧ w.category = 1 then mm_nx pc L (v :: w :: v :: w :: r) m else none
  | _ => none
def mm_pop (pc : Nat) (L : mm_L) (S : List Value) (m : mm_M) : Option mm_O := match S with
  | v :: r => if v.category = 1 then mm_nx pc L r m else none
  | _ => none
def mm_if (c : Int32 → Bool) (t pc : Nat) (L : mm_L) (S : List Value) (m : mm_M) : Option mm_O := match S with
  | .int x :: r => if c x then mm_nx t L r m else mm_nx pc L r m
  | _ => none
def mm_ic (c : Int32 → Int32 → Bool) (t pc : Nat) (L : mm_L) (S : List Value) (m : mm_M) : Option mm_O := match S with
  | .int y :: .int x :: r => if c x y then mm_nx t L r m else mm_nx pc L r m
  | _ => none
/-- a field's value, by its kind: 1 a long, 2 a reference, else an int -/
def mm_fv (m : mm_M) (a k : Nat) (ty : Int) : Value := if ty = 1 then .long (mm_gL m a k) else if ty = 2 then va_rf (mm_gR m a k) else .int (mm_gI m a k)
def mm_get (ci k : Nat) (ty : Int) (pc : Nat) (L : mm_L) (S : List Value) (m : mm_M) : Option mm_O := match S with
  | .ref a :: r => match mm_sh m a with
    | some s => if s.1 = ci then (if ty = 2 ∧ mm_gR m a k = none then none else mm_nx pc L (mm_fv m a k ty :: r) m) else none
    | none => none
  | _ => none
def mm_put (ci k : Nat) (ty : Int) (pc : Nat) (L : mm_L) (S : List Value) (m : mm_M) : Option mm_O := match S with
  | .int x :: .ref a :: r => match mm_sh m a with
    | some s => if s.1 = ci ∧ (ty = 0 ∨ (ty = 3 ∧ (x = 0 ∨ x = 1))) then mm_nx pc L r (mm_sI m a k x) else none
    | none => none
  | .long x :: .ref a :: r => match mm_sh m a with
    | some s => if s.1 = ci ∧ ty = 1 then mm_nx pc L r (mm_sL m a k x) else none
    | none => none
  | .ref x :: .ref a :: r => match mm_sh m a with
    | some s => if s.1 = ci ∧ ty = 2 then mm_nx pc L r (mm_sR m a k (some x)) else none
    | none => none
  | _ => none
/-- an int within a length -/
def mm_in (i : Int32) (n : Nat) : Bool := decide (¬ (i < 0 ∨ n ≤ i.toNatClampNeg))
def mm_ald (kd : Nat) (f : Nat → Nat → Value) (pc : Nat) (L : mm_L) (S : List Value) (m : mm_M) : Option mm_O := match S with
  | .int i :: .ref a :: r => match mm_sh m a with
    | some s => if s.1 = kd ∧ mm_in i s.2 = true then mm_nx pc L (f a i.toNatClampNeg :: r) m else none
    | none => none
  | _ => none
def mm_rld (pc : Nat) (L : mm_L) (S : List Value) (m : mm_M) : Option mm_O := match S with
  | .int i :: .ref a :: r => match mm_sh m a with
    | some s => if (24 ≤ s.1 ∧ s.1 ≤ 27) ∧ mm_in i s.2 = true ∧ ¬ mm_gR m a i.toNatClampNeg = none then mm_nx pc L (va_rf (mm_gR m a i.toNatClampNeg) :: r) m else none
    | none => none
  | _ => none
def mm_ast (kd : Nat) (f : Int32 → Int32) (pc : Nat) (L : mm_L) (S : List Value) (m : mm_M) : Option mm_O := match S with
  | .int x :: .int i :: .ref a :: r => match mm_sh m a with
    | some s => if 100 ≤ a ∧ s.1 = kd ∧ mm_in i s.2 = true then mm_nx pc L r (mm_sI m a i.toNatClampNeg (f x)) else none
    | none => none
  | _ => none
def mm_lst (pc : Nat) (L : mm_L) (S : List Value) (m : mm_M) : Option mm_O := match S with
  | .long x :: .int i :: .ref a :: r => match mm_sh m a with
    | some s => if s.1 = 21 ∧ mm_in i s.2 = true then mm_nx pc L r (mm_sL m a i.toNatClampNeg x) else none
    | none => none
  | _ => none
/-- a reference stored in an array of its class: kinds 24, 25, 26 are of classes 1, 4, 9 -/
def mm_rst (pc : Nat) (L : mm_L) (S : List Value) (m : mm_M) : Option mm_O := match S with
  | .ref x :: .int i :: .ref a :: r => match mm_sh m a, mm_sh m x with
    | some s, some q => if ((s.1 = 24 ∧ q.1 = 1) ∨ (s.1 = 25 ∧ q.1 = 4) ∨ (s.1 = 26 ∧ q.1 = 9)) ∧ mm_in i s.2 = true then mm_nx pc L r (mm_sR m a i.toNatClampNeg (some x)) else none
    | _, _ => none
  | _ => none
/-- a text's fields: 0 its bytes, else its coder -/
def mm_gst (k pc : Nat) (L : mm_L) (S : List Value) (m : mm_M) : Option mm_O := match S with
  | .ref a :: r => if 1 ≤ a ∧ a ≤ 6 then mm_nx pc L ((if k = 0 then .ref (49 + a) else .int 0) :: r) m else none
  | _ => none
def mm_bld (pc : Nat) (L : mm_L) (S : List Value) (m : mm_M) : Option mm_O := match S with
  | .int i :: .ref a :: r => if 50 ≤ a ∧ a ≤ 55 then (if mm_in i (mm_str (a - 49)).length = true then mm_nx pc L (.int (nI ((mm_str (a - 49)).getD i.toNatClampNeg 0)) :: r) m else none) else mm_ald 22 (fun a i => .int (mm_gI m a i)) pc L S m
  | _ => none
def mm_len (pc : Nat) (L : mm_L) (S : List Value) (m : mm_M) : Option mm_O := match S with
  | .ref a :: r => match mm_sh m a with
    | some s => if (20 ≤ s.1 ∧ s.1 ≤ 27) ∨ (50 ≤ a ∧ a ≤ 55) then mm_nx pc L (.int (Int32.ofNat s.2) :: r) m else none
    | none => none
  | _ => none
def mm_nwa (kd pc : Nat) (L : mm_L) (S : List Value) (m : mm_M) : Option mm_O := match S with
  | .int n :: r => if ¬ n < 0 ∧ n.toNatClampNeg ≤ 100000 ∧ m.2.1.1 = 0 then mm_nx pc L (.ref (mm_next m) :: r) (mm_new m (kd, n.toNatClampNeg)) else none
  | _ => none
def mm_nw2 (pc : Nat) (L : mm_L) (S : List Value) (m : mm_M) : Option mm_O := match S with
  | .int k :: .int n :: r => if ¬ n < 0 ∧ ¬ k < 0 ∧ n.toNatClampNeg ≤ 1000 ∧ k.toNatClampNeg ≤ 1000 ∧ m.2.1.1 = 0 then mm_nx pc L (.ref (mm_next m) :: r) (mm_new2 m n.toNatClampNeg k.toNatClampNeg) else none
  | _ => none
/-- what isn't a call of ours: Math, arraycopy, texts, Object's constructor -/
def mm_prim (kd : Int) (pc : Nat) (L : mm_L) (S : List Value) (m : mm_M) : Option mm_O :=
  if kd = 4 then (match S with
    | .ref a :: r => if (mm_sh m a).isSome ∧ (r.map fun v => v.category).sum ≤ 8 then mm_nx pc L r m else none
    | _ => none)
  else if kd = 10 then (match S with
    | .int y :: .int x :: r => if (r.map fun v => v.category).sum ≤ 8 then mm_nx pc L (.int (if x < y then y else x) :: r) m else none
    | _ => none)
  else if kd = 11 then (match S with
    | .int y :: .int x :: r => if (r.map fun v => v.category).sum ≤ 8 then mm_nx pc L (.int (if y < x then y else x) :: r) m else none
    | _ => none)
  else if kd = 12 then (match S with
    | .int x :: r => if (r.map fun v => v.category).sum ≤ 8 then mm_nx pc L (.int (if 0 ≤ x then x else 0 - x) :: r) m else none
    | _ => none)
  else if kd = 13 then (match S with
    | .int n :: .int dp :: .ref b :: .int sp :: .ref a :: r => match mm_sh m a, mm_sh m b with
      | some s, some q => if 100 ≤ a ∧ 100 ≤ b ∧ s.1 = 20 ∧ q.1 = 20 ∧ ¬ sp < 0 ∧ ¬ dp < 0 ∧ ¬ n < 0 ∧ sp.toNatClampNeg + n.toNatClampNeg ≤ s.2 ∧ dp.toNatClampNeg + n.toNatClampNeg ≤ q.2 ∧ (r.map fun v => v.category).sum ≤ 8 then mm_nx pc L r (mm_cp m a sp.toNatClampNeg b dp.toNatClampNeg n.toNatClampNeg) else none
      | _, _ => none
    | _ => none)
  else none
/-- the locals with which a method begins -/
def mm_ar : List Value → mm_L
  | [] => []
  | v :: r => if v.category = 2 then some v :: none :: mm_ar r else some v :: mm_ar r
def mm_en (k : Nat) (as : List Value) : mm_L := mm_ar as ++ List.replicate (mm_mx k - (mm_ar as).length) none
/-- is the receiver one of class c -/
def mm_rc (m : mm_M) (c : Nat) (as : List Value) : Bool := match as with
  | .ref a :: _ => match mm_sh m a with
    | some s => decide ((s.1 = c ∧ c < 13) ∨ (1 ≤ a ∧ a ≤ 6 ∧ c = 16))
    | none => false
  | _ => false
def mm_rf (as : List Value) : Bool := match as with
  | .ref _ :: _ => true
  | _ => false
/-- a call: k's arguments from the stack -/
def mm_call (k n pc : Nat) (S : List Value) : Option mm_O := if n ≤ S.length ∧ ((S.drop n).map fun v => v.category).sum ≤ 8 ∧ (mm_ar (S.take n).reverse).length ≤ mm_mx k then some (.inr (.inl (k, (S.take n).reverse, S.drop n, pc))) else none
def mm_inv (k n : Nat) (kd : Int) (pc : Nat) (L : mm_L) (S : List Value) (m : mm_M) : Option mm_O :=
  if kd = 0 ∨ kd = 1 ∨ kd = 20 then mm_call k n pc S
  else if kd = 2 then (if mm_rc m (mm_ow k) (S.take n).reverse = true then mm_call k n pc S else none)
  else if kd = 3 ∨ kd = 5 then (if mm_rf (S.take n).reverse = true then mm_call k n pc S else none)
  else mm_prim kd pc L S m
def mm_ldc (r1 r2 : Nat) (r3 : Int) (pc : Nat) (L : mm_L) (S : List Value) (m : mm_M) : Option mm_O :=
  if r1 = 0 then mm_nx pc L (.int (Int32.ofInt r3) :: S) m else if r1 = 2 then mm_nx pc L (.ref r2 :: S) m else none
def mm_cd : Jvm.ClassFile.Cond → Int32 → Int32 → Bool
  | .eq, x, y => decide (x = y)
  | .ne, x, y => decide (¬ x = y)
  | .lt, x, y => decide (x < y)
  | .ge, x, y => decide (y ≤ x)
  | .gt, x, y => decide (y < x)
  | .le, x, y => decide (x ≤ y)
def mm_ret (kd : Nat) (S : List Value) : Option mm_O := match S with
  | [.int x] => if kd = 0 ∨ (kd = 1 ∧ (x = 0 ∨ x = 1)) ∨ (kd = 2 ∧ (x.toUInt32 % 65536).toInt32 = x) ∨ (kd = 3 ∧ x.toInt8.toInt32 = x) then some (.inr (.inr (.inl (some (.int x))))) else none
  | _ => none
def mm_lrt (S : List Value) : Option mm_O := match S with
  | [.long x] => some (.inr (.inr (.inl (some (.long x)))))
  | _ => none
def mm_tsw (d lo hi : Int) (offs : Array Int) (pc : Nat) (L : mm_L) (S : List Value) (m : mm_M) : Option mm_O := match S with
  | .int x :: r => if x.toInt < lo ∨ hi < x.toInt then mm_nx ((pc : Int) + d).toNat L r m else match offs[(x.toInt - lo).toNat]? with
    | some o => mm_nx ((pc : Int) + o).toNat L r m
    | none => none
  | _ => none
def mm_lsw (d : Int) (ps : Array (Int × Int)) (pc : Nat) (L : mm_L) (S : List Value) (m : mm_M) : Option mm_O := match S with
  | .int x :: r => mm_nx ((pc : Int) + Op.lookupswitch.offset ps.toList d x.toInt).toNat L r m
  | _ => none
def mm_thr (S : List Value) : Option mm_O := match S with
  | [] => some (.inr (.inr (.inr ())))
  | _ => none
/-- the kind of the method's answer: 1 a boolean, 2 a char, 3 a byte -/
def mm_isZ (j : Nat) : Nat := if mm_rt j = some .boolean then 1 else if mm_rt j = some .char then 2 else if mm_rt j = some .byte then 3 else 0
def mm_step (j : Nat) (e : mm_E) (pc : Nat) (L : mm_L) (S : List Value) (m : mm_M) : Option mm_O := match e.1 with
  | .iconst n => mm_nx (pc + 1) L (.int (Int32.ofInt n) :: S) m
  | .bipush n => mm_nx (pc + 2) L (.int (Int8.ofInt n).toInt32 :: S) m
  | .sipush n => mm_nx (pc + 3) L (.int (Int16.ofInt n).toInt32 :: S) m
  | .lconst n => mm_nx (pc + 1) L (.long (Int64.ofNat (n : Nat)) :: S) m
  | .ldc _ => mm_ldc e.2.2.1 e.2.2.2.1 e.2.2.2.2 (pc + 2) L S m
  | .ldc_w _ => if e.2.2.1 = 0 then mm_nx (pc + 3) L (.int (Int32.ofInt e.2.2.2.2) :: S) m else none
  | .ldc2_w _ => if e.2.2.1 = 1 then mm_nx (pc + 3) L (.long (Int64.ofInt e.2.2.2.2) :: S) m else none
  | .iload_n k => mm_ldI k (pc + 1) L S m
  | .iload i => mm_ldI i (pc + 2) L S m
  | .lload_n k => mm_ldL k (pc + 1) L S m
  | .lload i => mm_ldL i (pc + 2) L S m
  | .aload_n k => mm_ldR k (pc + 1) L S m
  | .aload i => mm_ldR i (pc + 2) L S m
  | .istore_n k => mm_stI k (pc + 1) L S m
  | .istore i => mm_stI i (pc + 2) L S m
  | .lstore_n k => mm_stL k (pc + 1) L S m
  | .lstore i => mm_stL i (pc + 2) L S m
  | .astore_n k => mm_stR k (pc + 1) L S m
  | .astore i => mm_stR i (pc + 2) L S m
  | .iinc i n => mm_inc i n (pc + 3) L S m
  | .iadd => mm_bI (fun x y => x + y) (pc + 1) L S m
  | .isub => mm_bI (fun x y => x - y) (pc + 1) L S m
  | .imul => mm_bI (fun x y => x * y) (pc + 1) L S m
  | .iand => mm_bI (fun x y => x &&& y) (pc + 1) L S m
  | .ior => mm_bI (fun x y => x ||| y) (pc + 1) L S m
  | .ixor => mm_bI (fun x y => x ^^^ y) (pc + 1) L S m
  | .ishl => mm_bI (fun x y => x <<< (y &&& 31)) (pc + 1) L S m
  | .ishr => mm_bI (fun x y => x >>> (y &&& 31)) (pc + 1) L S m
  | .iushr => mm_bI (fun x y => (x.toUInt32 >>> (y.toUInt32 &&& Int32.toUInt32 31)).toInt32) (pc + 1) L S m
  | .idiv => mm_dI (fun x y => x / y) (pc + 1) L S m
  | .irem => mm_dI (fun x y => x - x / y * y) (pc + 1) L S m
  | .ineg => mm_1I (fun x => .int (-x)) (pc + 1) L S m
  | .ladd => mm_bL (fun x y => x + y) (pc + 1) L S m
  | .lsub => mm_bL (fun x y => x - y) (pc + 1) L S m
  | .lmul => mm_bL (fun x y => x * y) (pc + 1) L S m
  | .land => mm_bL (fun x y => x &&& y) (pc + 1) L S m
  | .lor => mm_bL (fun x y => x ||| y) (pc + 1) L S m
  | .ldiv => mm_dL (fun x y => x / y) (pc + 1) L S m
  | .lrem => mm_dL (fun x y => x - x / y * y) (pc + 1) L S m
  | .lshl => mm_hL (fun x y => x <<< (y.toInt64 &&& 63)) (pc + 1) L S m
  | .lshr => mm_hL (fun x y => x >>> (y.toInt64 &&& 63)) (pc + 1) L S m
  | .lushr => mm_hL (fun x y => (x.toUInt64 >>> (y.toInt64.toUInt64 &&& Int64.toUInt64 63)).toInt64) (pc + 1) L S m
  | .lcmp => mm_cL (pc + 1) L S m
  | .i2l => mm_1I (fun x => .long x.toInt64) (pc + 1) L S m
  | .l2i => mm_1L (fun x => .int x.toInt32) (pc + 1) L S m
  | .i2b => mm_1I (fun x => .int x.toInt8.toInt32) (pc + 1) L S m
  | .i2c => mm_1I (fun x => .int (x.toUInt32 % 65536).toInt32) (pc + 1) L S m
  | .dup => mm_dup (pc + 1) L S m
  | .dup2 => mm_dup2 (pc + 1) L S m
  | .pop => mm_pop (pc + 1) L S m
  | .goto _ => mm_nx e.2.2.1 L S m
  | .ifCond c _ => mm_if (fun x => mm_cd c x 0) e.2.2.1 (pc + 3) L S m
  | .if_icmp c _ => mm_ic (mm_cd c) e.2.2.1 (pc + 3) L S m
  | .tableswitch d lo hi offs => mm_tsw d lo hi offs pc L S m
  | .lookupswitch d ps => mm_lsw d ps pc L S m
  | .getstatic _ => mm_nx (pc + 3) L ((if e.2.2.1 = 0 then .int 1 else va_rf (mm_gR m 99 0)) :: S) m
  | .getfield _ => if e.2.2.1 = 30 then mm_gst e.2.2.2.1 (pc + 3) L S m else mm_get e.2.2.1 e.2.2.2.1 e.2.2.2.2 (pc + 3) L S m
  | .putfield _ => mm_put e.2.2.1 e.2.2.2.1 e.2.2.2.2 (pc + 3) L S m
  | .iaload => mm_ald 20 (fun a i => .int (mm_gI m a i)) (pc + 1) L S m
  | .laload => mm_ald 21 (fun a i => .long (mm_gL m a i)) (pc + 1) L S m
  | .baload => mm_bld (pc + 1) L S m
  | .caload => mm_ald 23 (fun a i => .int (mm_gI m a i)) (pc + 1) L S m
  | .aaload => mm_rld (pc + 1) L S m
  | .iastore => mm_ast 20 (fun x => x) (pc + 1) L S m
  | .bastore => mm_ast 22 (vp_nar .boolean) (pc + 1) L S m
  | .castore => mm_ast 23 (vp_nar .char) (pc + 1) L S m
  | .lastore => mm_lst (pc + 1) L S m
  | .aastore => mm_rst (pc + 1) L S m
  | .arraylength => mm_len (pc + 1) L S m
  | .new _ => if e.2.2.1 = 99 then mm_thr S else if m.2.1.1 = 0 then mm_nx (pc + 3) L (.ref (mm_next m) :: S) (mm_new m (e.2.2.1, 0)) else none
  | .newarray t => match t with
    | .int => mm_nwa 20 (pc + 2) L S m
    | .long => mm_nwa 21 (pc + 2) L S m
    | .boolean => mm_nwa 22 (pc + 2) L S m
    | .char => mm_nwa 23 (pc + 2) L S m
    | _ => none
  | .anewarray _ => mm_nwa e.2.2.1 (pc + 3) L S m
  | .multianewarray _ _ => mm_nw2 (pc + 4) L S m
  | .invokevirtual _ => mm_inv e.2.2.1 e.2.2.2.1 e.2.2.2.2 (pc + 3) L S m
  | .invokespecial _ => mm_inv e.2.2.1 e.2.2.2.1 e.2.2.2.2 (pc + 3) L S m
  | .invokestatic _ => mm_inv e.2.2.1 e.2.2.2.1 e.2.2.2.2 (pc + 3) L S m
  | .ireturn => mm_ret (mm_isZ j) S
  | .lreturn => mm_lrt S
  | .return_ => match S with
    | [] => some (.inr (.inr (.inl none)))
    | _ => none
  | _ => none
abbrev mm_R : Type := Option (Option Value) × mm_M
abbrev mm_F : Type := Nat → Nat → Nat → mm_L → List Value → mm_M → Option mm_R
def mm_okO (m : mm_M) (o : Nat) : Bool := match mm_sh m o with
  | some s => decide (s.1 = 21) && decide (0 < s.2)
  | none => false
/-- an answer of the method's kind -/
def mm_okv (t : Option FieldType) (v : Option Value) : Bool := match v with
  | none => decide (t = none)
  | some (.long _) => decide (t = some .long)
  | some (.int _) => decide (¬ t = none) && decide (¬ t = some .long)
  | _ => false
def mm_k1 (f : mm_F) (k d j pc : Nat) (L : mm_L) (S : List Value) (q : mm_R) : Option mm_R := match q.1 with
  | some v => if mm_okv (mm_rt k) v = true then f d j pc L (v.toList ++ S) q.2 else none
  | none => none
def mm_k2 (f : mm_F) (d j pc : Nat) (L : mm_L) (S : List Value) (o : Nat) (q : mm_R) : Option mm_R := match q.1 with
  | some (some (.int r)) => if mm_okO q.2 o = true then f d j pc L (.int 0 :: S) (mm_sL q.2 o 0 r.toInt64) else none
  | none => f d j pc L (.int 1 :: S) q.2
  | _ => none
def mm_kdo (m : mm_M) (a : Nat) : Nat := match mm_sh m a with
  | some s => s.1
  | none => 999
/-- the law's own helper: calls laws, catches what it throws -/
def mm_cl2 (f : mm_F) (d : Nat) (as : List Value) (j pc : Nat) (L : mm_L) (S : List Value) (m : mm_M) : Option mm_R := match d, as with
  | d' + 1, [.ref x, .int v, .ref o] => if 6 ≤ d' ∧ (mm_ar [Value.ref x, .int v]).length ≤ mm_mx 154 ∧ mm_kdo m x = 11 then (f d' 154 0 (mm_en 154 [.ref x, .int v]) [] m).bind (mm_k2 f (d' + 2) j pc L S o) else none
  | _, _ => none
def mm_cal (f : mm_F) (d k : Nat) (as : List Value) (j pc : Nat) (L : mm_L) (S : List Value) (m : mm_M) : Option mm_R := match d with
  | 0 => none
  | d' + 1 => if k = 278 then mm_cl2 f d' as j pc L S m else (f d' k 0 (mm_en k as) [] m).bind (mm_k1 f k (d' + 1) j pc L S)
def mm_out (f : mm_F) (d j : Nat) (L : mm_L) (m : mm_M) (o : mm_O) : Option mm_R := match o with
  | .inl q => f d j q.1 q.2.1 q.2.2.1 q.2.2.2
  | .inr (.inl q) => mm_cal f d q.1 q.2.1 j q.2.2.2 L q.2.2.1 m
  | .inr (.inr (.inl v)) => some (some v, m)
  | .inr (.inr (.inr _)) => some (none, mm_exc m)
def mm_body (f : mm_F) (d j pc : Nat) (L : mm_L) (S : List Value) (m : mm_M) : Option mm_R := (mm_at j pc).bind (fun e => (mm_step j e pc L S m).bind (mm_out f d j L m))
/-- a run of the small machine: n steps at most, calls d deep at most; what comes: the answer (none: thrown) and the memory -/
def mm_run : Nat → mm_F
  | 0 => fun _ _ _ _ _ _ => none
  | n + 1 => mm_body (mm_run n)
