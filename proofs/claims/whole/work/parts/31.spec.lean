def bI (b : Bool) : Int := if b = true then 1 else 0
theorem bI_t : bI true = 1 := rfl
theorem bI_f : bI false = 0 := rfl
theorem bI_r (b : Bool) : 0 ≤ bI b ∧ bI b ≤ 1 := by cases b <;> decide
/-- places of the model's streets -/
def st (D : Nat → Nat → Int32) (i : Int) : Int := (D 322 i.toNat).toInt
def wk (D : Nat → Nat → Int32) (w k : Int) : Int := st D (17 + 7 * w + k)
def mu (D : Nat → Nat → Int32) (q k : Int) : Int := st D (73 + 3 * q + k)
def te (D : Nat → Nat → Int32) (s : Int) : Int := st D (11 + s)
/-- places of the model's state -/
def sa (D : Nat → Nat → Int32) (i : Int) : Int := (D 332 i.toNat).toInt
/-- the lasting places of the model: ints, longs -/
def pmI (a k : Nat) : Bool := (Nat.beq a 322 && Nat.blt k 100) || (Nat.beq a 332 && Nat.blt k 1680) || (Nat.beq a 323 && Nat.blt k 1100) || (Nat.beq a 324 && Nat.blt k 1100) || (Nat.beq a 329 && Nat.blt k 100) || (Nat.beq a 327 && Nat.blt k 14) || Nat.beq a 317 || Nat.beq a 333 || (Nat.beq a 316 && (Nat.beq k 2 || Nat.beq k 18 || Nat.beq k 26))
def pmL (a : Nat) : Bool := Nat.beq a 325 || Nat.beq a 321
/-- the model's memory holds the data -/
def MD (D : Nat → Nat → Int32) (E : Nat → Nat → Int64) (m : mm_M) : Prop := Sh m ∧ (∀ a k, pmI a k = true → mm_gI m a k = D a k) ∧ (∀ a k, pmL a = true → mm_gL m a k = E a k)
section
variable {D : Nat → Nat → Int32} {E : Nat → Nat → Int64} {m : mm_M}
theorem MD_st (h : MD D E m) {i : Int} (h0 : 0 ≤ i) (h1 : i < 100) : mm_gI m 322 i.toNat = iI (st D i) := by
  rw [h.2.1 322 i.toNat (by
    have : Nat.blt i.toNat 100 = true := by rw [Nat.blt_eq]; omega
    unfold pmI
    rw [this]
    rfl)]
  unfold st
  rw [iI_toInt]
theorem MD_sa (h : MD D E m) {i : Int} (h0 : 0 ≤ i) (h1 : i < 1680) : mm_gI m 332 i.toNat = iI (sa D i) := by
  rw [h.2.1 332 i.toNat (by
    have : Nat.blt i.toNat 1680 = true := by rw [Nat.blt_eq]; omega
    unfold pmI
    rw [this]
    rfl)]
  unfold sa
  rw [iI_toInt]
theorem st_r (i : Int) : -2147483648 ≤ st D i ∧ st D i < 2147483648 := ⟨Int32.le_toInt _, Int32.toInt_lt _⟩
theorem sa_r (i : Int) : -2147483648 ≤ sa D i ∧ sa D i < 2147483648 := ⟨Int32.le_toInt _, Int32.toInt_lt _⟩
end
/-- a walker as told, within its bounds -/
def InvW (D : Nat → Nat → Int32) (w : Int) : Prop := (0 ≤ wk D w 0 ∧ wk D w 0 ≤ 3) ∧ (0 ≤ wk D w 1 ∧ wk D w 1 < st D 1) ∧ (0 ≤ wk D w 2 ∧ wk D w 2 < st D 0) ∧ (0 ≤ wk D w 3 ∧ wk D w 3 ≤ 1) ∧ (1 ≤ wk D w 4 ∧ wk D w 4 ≤ 9) ∧ (0 ≤ wk D w 5 ∧ wk D w 5 ≤ 99) ∧ (-1 ≤ wk D w 6 ∧ wk D w 6 < st D 5)
def InvQ (D : Nat → Nat → Int32) (q : Int) : Prop := (0 ≤ mu D q 0 ∧ mu D q 0 < st D 6) ∧ (0 ≤ mu D q 1 ∧ mu D q 1 < st D 5) ∧ (0 ≤ mu D q 2 ∧ mu D q 2 < st D 0)
/-- a street as told, within its bounds -/
def InvS (D : Nat → Nat → Int32) : Prop := (4 ≤ st D 0 ∧ st D 0 ≤ 40) ∧ (1 ≤ st D 1 ∧ st D 1 ≤ 4) ∧ (0 ≤ st D 2 ∧ st D 2 ≤ st D 3 ∧ st D 3 < st D 0) ∧ (0 ≤ st D 4 ∧ st D 4 ≤ st D 1) ∧ (0 ≤ st D 5 ∧ st D 5 ≤ 6) ∧ (0 ≤ st D 6 ∧ st D 6 ≤ 8) ∧ (0 ≤ st D 7 ∧ st D 7 ≤ 8) ∧ (0 ≤ st D 8 ∧ st D 8 ≤ 99) ∧ (∀ s, 0 ≤ s → s < st D 5 → 0 ≤ te D s ∧ te D s ≤ 600) ∧ (∀ w, 0 ≤ w → w < st D 6 → InvW D w) ∧ (∀ q, 0 ≤ q → q < st D 7 → InvQ D q)
def cueS (D : Nat → Nat → Int32) (w : Int) : Int := if wk D w 6 < 0 then 0 else if wk D w 0 = 3 then 0 else te D (wk D w 6)
def atS (n kind rd fr gone tempo : Int) : Int := if gone < 0 then fr else if kind = 2 then (if (fr + gone / tempo) % (2 * n) < n then (fr + gone / tempo) % (2 * n) else 2 * n - 1 - (fr + gone / tempo) % (2 * n)) else if gone < tempo * (n - fr) then fr + gone / tempo else if kind = 1 then -1 else if (gone - tempo * (n - fr)) % (tempo * n + rd) < rd then -1 else ((gone - tempo * (n - fr)) % (tempo * n + rd) - rd) / tempo
def plS (n right x : Int) : Int := if x < 0 then -1 else if right = 1 then x else n - 1 - x
def placeS (D : Nat → Nat → Int32) (w start right behind tempo tenth : Int) : Int := plS (st D 0) right (atS (st D 0) (wk D w 0) (st D 8) (if right = 1 then start else st D 0 - 1 - start) (tenth - cueS D w - behind) tempo)
def framedS (D : Nat → Nat → Int32) (c : Int) : Bool := decide (st D 2 ≤ c) && decide (c ≤ st D 3)
def sightS (D : Nat → Nat → Int32) (w c : Int) : Int := if c < 0 then 0 else if framedS D c = true then (if wk D w 1 < st D 4 then 2 else 1) else 0
