/-- where a walker is, by lag -/
def lpW (D : Nat → Nat → Int32) (w b t : Int) : Int := placeS D w (sa D (1 + w)) (sa D (9 + w)) b (tempoS D w (sa D 0)) t
def hoW (D : Nat → Nat → Int32) (w a : Int) : Bool := allB (fun q => !decide (mu D q 0 = w) || decide (lpW D w a (te D (mu D q 1)) = mu D q 2)) (st D 7).toNat 0
def bmp (D : Nat → Nat → Int32) (w v a b : Int) : Prop := ∃ t, 0 ≤ t ∧ t ≤ 600 ∧ 0 ≤ lpW D w a t ∧ lpW D w a t = lpW D v b t
def fbP (D : Nat → Nat → Int32) (w v a b t : Int) : Bool := decide (0 ≤ lpW D w a t) && decide (lpW D w a t = lpW D v b t)
def fbGo (f : Int → Bool) : Nat → Int → Int
  | 0, _ => 601
  | r + 1, t => if f t = true then t else fbGo f r (t + 1)
section
variable {D : Nat → Nat → Int32} {c : Int → Int} {n : Int}
theorem lp_W {i b t : Int} : lpS D c i b t = lpW D (c i) b t := rfl
theorem ho_W {i a : Int} : holdS D c i a = hoW D (c i) a := rfl
theorem all_t {f : Int → Bool} : ∀ (r : Nat) (q : Int), allB f r q = true ↔ ∀ i, q ≤ i → i < q + r → f i = true
  | 0, q => by
    unfold allB
    exact ⟨fun _ i a b => by omega, fun _ => rfl⟩
  | r + 1, q => by
    unfold allB
    rw [Bool.and_eq_true, all_t r (q + 1)]
    constructor
    · rintro ⟨h0, h1⟩ i a b
      by_cases z : i = q
      · rw [z]; exact h0
      · exact h1 i (by omega) (by omega)
    · intro h
      exact ⟨h q (by omega) (by omega), fun i a b => h i (by omega) (by omega)⟩
theorem ho_t {w a : Int} (h7 : 0 ≤ st D 7) : hoW D w a = true ↔ ∀ q, 0 ≤ q → q < st D 7 → mu D q 0 = w → lpW D w a (te D (mu D q 1)) = mu D q 2 := by
  unfold hoW
  rw [all_t]
  constructor
  · intro h q q0 q1 e
    have := h q q0 (by omega)
    rw [Bool.or_eq_true, Bool.not_eq_true', decide_eq_true_eq, decide_eq_false_iff_not] at this
    rcases this with y | y
    · exact absurd e y
    · exact y
  · intro h q q0 q1
    rw [Bool.or_eq_true, Bool.not_eq_true', decide_eq_true_eq, decide_eq_false_iff_not]
    by_cases e : mu D q 0 = w
    · right; exact h q q0 (by omega) e
    · left; exact e
theorem tog_t {i a k b : Int} : togS D c i a k b = true ↔ (wk D (c i) 1 = wk D (c k) 1 → ¬ bmp D (c i) (c k) a b) := by
  unfold togS
  by_cases z : wk D (c i) 1 = wk D (c k) 1
  · rw [if_pos z, all_t]
    constructor
    · rintro h _ ⟨t, t0, t1, t2, t3⟩
      have := h t t0 (by omega)
      rw [Bool.or_eq_true, Bool.not_eq_true', decide_eq_true_eq, decide_eq_false_iff_not] at this
      rcases this with y | y
      · have y' : lpW D (c i) a t < 0 := y
        omega
      · exact y t3
    · intro h t t0 t1
      rw [Bool.or_eq_true, Bool.not_eq_true', decide_eq_true_eq, decide_eq_false_iff_not]
      by_cases y : lpS D c i a t < 0
      · left; exact y
      · right
        intro e
        exact h z ⟨t, t0, by omega, by rw [← lp_W]; omega, e⟩
  · rw [if_neg z]
    exact ⟨fun _ e => absurd e z, fun _ => rfl⟩
theorem bmp_s {w v a b : Int} : bmp D w v a b → bmp D v w b a := by
  rintro ⟨t, t0, t1, t2, t3⟩
  exact ⟨t, t0, t1, by rw [← t3]; exact t2, t3.symm⟩
theorem tog_s {i a k b : Int} : togS D c i a k b = togS D c k b i a := by
  apply Bool.eq_iff_iff.mpr
  rw [tog_t, tog_t]
  exact ⟨fun h e q => h e.symm (bmp_s q), fun h e q => h e.symm (bmp_s q)⟩
theorem atS_0 {n kind rd fr g tempo : Int} (h1 : 1 ≤ tempo) (f0 : 0 ≤ fr) (f1 : fr < n) (hg : g ≤ 0) : atS n kind rd fr g tempo = fr := by
  unfold atS
  by_cases y : g < 0
  · rw [if_pos y]
  · rw [if_neg y, show g = 0 by omega, Int.zero_ediv, Int.add_zero]
    by_cases k : kind = 2
    · rw [if_pos k, Int.emod_eq_of_lt f0 (by omega), if_pos f1]
    · rw [if_neg k, if_pos (Int.mul_pos (by omega) (by omega))]
theorem lp_sh (hI : InvS D) (hIB : InvB D (sa D)) {w b t : Int} (w0 : 0 ≤ w) (w1 : w < st D 6) (b0 : 0 ≤ b) (t0 : 0 ≤ t) : lpW D w b t = lpW D w 0 (max 0 (t - b)) := by
  obtain ⟨⟨s0, s1⟩, ⟨r0, r1⟩, -⟩ := hIB.2 _ w0 w1
  have tr := tempoS_r hI (take := sa D 0) w0 w1
  have cr := cueS_r hI w0 w1
  have fr : 0 ≤ (if sa D (9 + w) = 1 then sa D (1 + w) else st D 0 - 1 - sa D (1 + w)) ∧ (if sa D (9 + w) = 1 then sa D (1 + w) else st D 0 - 1 - sa D (1 + w)) < st D 0 := by
    split <;> omega
  unfold lpW placeS
  by_cases y : b ≤ t
  · rw [show max 0 (t - b) - cueS D w - 0 = t - cueS D w - b by omega]
  · rw [atS_0 tr.1 fr.1 fr.2 (show t - cueS D w - b ≤ 0 by omega), atS_0 tr.1 fr.1 fr.2 (show max 0 (t - b) - cueS D w - 0 ≤ 0 by omega)]
theorem lp_r (hI : InvS D) (hIB : InvB D (sa D)) {w b t : Int} (w0 : 0 ≤ w) (w1 : w < st D 6) : -1 ≤ lpW D w b t ∧ lpW D w b t < st D 0 := by
  obtain ⟨⟨s0, s1⟩, -⟩ := hIB.2 _ w0 w1
  have := tempoS_r hI (take := sa D 0) w0 w1
  exact placeS_r hI s0 s1 (by omega)
theorem fb_t {f : Int → Bool} : ∀ (r : Nat) (t : Int), t + r = 601 → 0 ≤ t → ∀ X, X ≤ 600 → (fbGo f r t ≤ X ↔ ∃ u, t ≤ u ∧ u ≤ X ∧ f u = true)
  | 0, t, h, t0, X, hX => by
    unfold fbGo
    exact ⟨fun q => by omega, fun ⟨u, a, b, _⟩ => by omega⟩
  | r + 1, t, h, t0, X, hX => by
    unfold fbGo
    by_cases y : f t = true
    · rw [if_pos y]
      exact ⟨fun q => ⟨t, by omega, q, y⟩, fun ⟨u, a, b, _⟩ => by omega⟩
    · rw [if_neg y, fb_t r (t + 1) (by omega) (by omega) X hX]
      constructor
      · rintro ⟨u, a, b, e⟩; exact ⟨u, by omega, b, e⟩
      · rintro ⟨u, a, b, e⟩
        by_cases z : u = t
        · rw [z] at e; exact absurd e y
        · exact ⟨u, by omega, b, e⟩
theorem fb_r {f : Int → Bool} : ∀ (r : Nat) (t : Int), t + r = 601 → 0 ≤ t → 0 ≤ fbGo f r t ∧ fbGo f r t ≤ 601
  | 0, t, h, t0 => by unfold fbGo; omega
  | r + 1, t, h, t0 => by
    unfold fbGo
    by_cases y : f t = true
    · rw [if_pos y]; omega
    · rw [if_neg y]; exact fb_r r (t + 1) (by omega) (by omega)
theorem bmp_sh (hI : InvS D) (hIB : InvB D (sa D)) {w v x y e : Int} (w0 : 0 ≤ w) (w1 : w < st D 6) (v0 : 0 ≤ v) (v1 : v < st D 6) (x0 : 0 ≤ x) (y0 : 0 ≤ y) (e0 : 0 ≤ e) (e1 : e < 24) : fbGo (fbP D w v x y) 601 0 + e ≤ 600 ↔ bmp D w v (x + e) (y + e) := by
  have h := fb_t (f := fbP D w v x y) 601 0 (by omega) (by omega) (600 - e) (by omega)
  have h' : fbGo (fbP D w v x y) 601 0 + e ≤ 600 ↔ fbGo (fbP D w v x y) 601 0 ≤ 600 - e := by omega
  rw [h', h]
  constructor
  · rintro ⟨u, u0, u1, q⟩
    unfold fbP at q
    rw [Bool.and_eq_true, decide_eq_true_eq, decide_eq_true_eq] at q
    have e1 : lpW D w (x + e) (u + e) = lpW D w x u := by
      rw [lp_sh hI hIB w0 w1 (by omega) (by omega), lp_sh hI hIB w0 w1 (b := x) (by omega) (by omega), show u + e - (x + e) = u - x by omega]
    have e2 : lpW D v (y + e) (u + e) = lpW D v y u := by
      rw [lp_sh hI hIB v0 v1 (by omega) (by omega), lp_sh hI hIB v0 v1 (b := y) (by omega) (by omega), show u + e - (y + e) = u - y by omega]
    exact ⟨u + e, by omega, by omega, by rw [e1]; exact q.1, by rw [e1, e2]; exact q.2⟩
  · rintro ⟨t, t0, t1, t2, t3⟩
    have e1 : lpW D w (x + e) t = lpW D w x (max 0 (t - e)) := by
      rw [lp_sh hI hIB w0 w1 (by omega) (by omega), lp_sh hI hIB w0 w1 (b := x) (by omega) (by omega), show max 0 (t - (x + e)) = max 0 (max 0 (t - e) - x) by omega]
    have e2 : lpW D v (y + e) t = lpW D v y (max 0 (t - e)) := by
      rw [lp_sh hI hIB v0 v1 (by omega) (by omega), lp_sh hI hIB v0 v1 (b := y) (by omega) (by omega), show max 0 (t - (y + e)) = max 0 (max 0 (t - e) - y) by omega]
    refine ⟨max 0 (t - e), by omega, by omega, ?_⟩
    unfold fbP
    rw [Bool.and_eq_true, decide_eq_true_eq, decide_eq_true_eq, ← e1, ← e2]
    exact ⟨t2, t3⟩
end
