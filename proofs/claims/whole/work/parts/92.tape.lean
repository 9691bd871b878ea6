def kwN : List Int := [1355937207, 22559955, 12158575, 755, 36016334, 26073, 57, 1597408270, 609728, 329128, 811933, 16472, 569, 687961, 34523964, 32936893, 20687, 36624174, 1042489, 609950, 1014841, 614923, 34200674, 30596128, 835140, 6038, 36646823, 19741, 1891, 573, 37754889, 19914, 570026, 1112366095]
def kcN : List Int := [283616147, 6407335, 3544025, 555, 10256074, 13903, 47, 330800670, 237308, 131638, 315743, 8782, 419, 271721, 9876874, 9454493, 11047, 10492274, 409469, 237470, 394691, 240023, 9748424, 8740238, 328090, 3328, 10504213, 10631, 1111, 423, 10737159, 10754, 223456, 230501935]
def kxN : List Int := [115, 116, 114, 101, 101, 116, 32, 108, 97, 110, 101, 115, 32, 102, 114, 97, 109, 101, 32, 116, 111, 32, 115, 104, 97, 114, 112, 32, 115, 97, 121, 32, 97, 116, 32, 119, 97, 108, 107, 101, 114, 32, 108, 97, 110, 101, 32, 102, 114, 111, 109, 32, 112, 97, 99, 101, 32, 108, 97, 103, 32, 111, 110, 32, 109, 117, 115, 116, 32, 114, 111, 117, 110, 100, 32, 113, 117, 105, 99, 107, 32, 111, 100, 100, 32, 115, 116, 97, 114, 116, 32, 116, 117, 114, 110, 32, 108, 97, 116, 101, 32, 116, 97, 107, 101, 32, 108, 101, 102, 116, 32, 114, 105, 103, 104, 116, 32, 112, 108, 97, 105, 110, 32, 112, 114, 97, 109, 32, 100, 111, 103, 32, 115, 116, 114, 97, 121, 32, 110, 111, 116, 32, 97, 110, 100, 32, 111, 114, 32, 116, 101, 109, 112, 111, 32, 110, 116, 104, 32, 107, 105, 110, 100, 32, 112, 97, 115, 115, 101, 115]
def kpN : List (Int × Nat) := [(0, 6), (7, 5), (13, 5), (19, 2), (22, 5), (28, 3), (32, 2), (35, 6), (42, 4), (47, 4), (52, 4), (57, 3), (61, 2), (64, 4), (69, 5), (75, 5), (81, 3), (85, 5), (91, 4), (96, 4), (101, 4), (106, 4), (111, 5), (117, 5), (123, 4), (128, 3), (132, 5), (138, 3), (142, 3), (146, 2), (149, 5), (155, 3), (159, 4), (164, 6)]
/-- keywords, as the model and as the class hold them -/
def kwL (k : Int) : Int64 := lI (kwN.getD k.toNat 0)
def kcL (k : Int) : Int64 := lI (kcN.getD k.toNat 0)
def WR (u v : Int64) : Prop := ∃ (X : Int → Int) (p : Int) (k : Nat), (1 ≤ k ∧ k ≤ 8) ∧ (∀ i : Nat, i < k → isL (X (p + i))) ∧ u = lI (wv 37 X p k) ∧ v = lI (wv 27 X p k)
theorem kw_all : ∀ j : Fin 34, (1 ≤ (kpN.getD j.val (0, 0)).2 ∧ (kpN.getD j.val (0, 0)).2 ≤ 8) ∧ (∀ i : Fin 8, i.val < (kpN.getD j.val (0, 0)).2 → 97 ≤ kxN.getD ((kpN.getD j.val (0, 0)).1 + (i.val : Nat)).toNat 0 ∧ kxN.getD ((kpN.getD j.val (0, 0)).1 + (i.val : Nat)).toNat 0 ≤ 122) ∧ kwN.getD j.val 0 = wv 37 (fun q => kxN.getD q.toNat 0) (kpN.getD j.val (0, 0)).1 (kpN.getD j.val (0, 0)).2 ∧ kcN.getD j.val 0 = wv 27 (fun q => kxN.getD q.toNat 0) (kpN.getD j.val (0, 0)).1 (kpN.getD j.val (0, 0)).2 := by decide +kernel
theorem kw_WR {k : Int} (k0 : 0 ≤ k) (k1 : k < 34) : WR (kwL k) (kcL k) := by
  obtain ⟨a, b, c, e⟩ := kw_all ⟨k.toNat, by omega⟩
  refine ⟨fun q => kxN.getD q.toNat 0, (kpN.getD k.toNat (0, 0)).1, (kpN.getD k.toNat (0, 0)).2, a, fun i hi => b ⟨i, by have := a.2; dsimp only at this; omega⟩ hi, ?_, ?_⟩
  · unfold kwL; rw [← c]
  · unfold kcL; rw [← e]
theorem wv_r {B : Int} (hB : B = 37 ∨ B = 27) {X : Int → Int} {p : Int} : ∀ k : Nat, (∀ i : Nat, i < k → isL (X (p + i))) → 0 ≤ wv B X p k ∧ wv B X p k < B ^ k
  | 0, _ => by unfold wv; simp
  | k + 1, h => by
    obtain ⟨a, b⟩ := wv_r hB (X := X) (p := p) k (fun i hi => h i (by omega))
    have c := h k (by omega)
    unfold isL at c
    rw [wv_s, Int.pow_succ, Int.mul_comm (B ^ k) B]
    generalize B ^ k = y at b ⊢
    rcases hB with rfl | rfl <;> omega
theorem wv_i {B : Int} (hB : B = 37 ∨ B = 27) {X Y : Int → Int} {p q : Int} : ∀ k j : Nat, (∀ i : Nat, i < k → isL (X (p + i))) → (∀ i : Nat, i < j → isL (Y (q + i))) → wv B X p k = wv B Y q j → k = j ∧ ∀ i : Nat, i < k → X (p + i) = Y (q + i)
  | 0, 0, _, _, _ => ⟨rfl, fun i hi => by omega⟩
  | 0, j + 1, _, hj, e => by
    exfalso
    have a := (wv_r hB (X := Y) (p := q) j (fun i hi => hj i (by omega))).1
    have c := hj j (by omega)
    unfold isL at c
    rw [wv_s] at e
    try (have e' : wv B X p 0 = 0 := rfl)
    rcases hB with rfl | rfl <;> omega
  | k + 1, 0, hk, _, e => by
    exfalso
    have a := (wv_r hB (X := X) (p := p) k (fun i hi => hk i (by omega))).1
    have c := hk k (by omega)
    unfold isL at c
    rw [wv_s] at e
    have e' : wv B Y q 0 = 0 := rfl
    rcases hB with rfl | rfl <;> omega
  | k + 1, j + 1, hk, hj, e => by
    have c1 := hk k (by omega)
    have c2 := hj j (by omega)
    unfold isL at c1 c2
    rw [wv_s, wv_s] at e
    have e1 : wv B X p k = wv B Y q j ∧ X (p + k) = Y (q + j) := by
      rcases hB with rfl | rfl <;> constructor <;> omega
    obtain ⟨a, b⟩ := wv_i hB k j (fun i hi => hk i (by omega)) (fun i hi => hj i (by omega)) e1.1
    subst a
    refine ⟨rfl, fun i hi => ?_⟩
    by_cases y : i = k
    · rw [y]; exact e1.2
    · exact b i (by omega)
theorem wv_c {B : Int} {X Y : Int → Int} {p q : Int} : ∀ k : Nat, (∀ i : Nat, i < k → X (p + i) = Y (q + i)) → wv B X p k = wv B Y q k
  | 0, _ => rfl
  | k + 1, h => by
    rw [wv_s, wv_s, wv_c k (fun i hi => h i (by omega)), h k (by omega)]
theorem pw_8 {k : Nat} (h : k ≤ 8) : (37 : Int) ^ k < 9223372036854775808 ∧ (27 : Int) ^ k < 9223372036854775808 := by
  have : k = 0 ∨ k = 1 ∨ k = 2 ∨ k = 3 ∨ k = 4 ∨ k = 5 ∨ k = 6 ∨ k = 7 ∨ k = 8 := by omega
  rcases this with rfl | rfl | rfl | rfl | rfl | rfl | rfl | rfl | rfl <;> decide
theorem lI_inj {a b : Int} (a0 : 0 ≤ a) (a1 : a < 9223372036854775808) (b0 : 0 ≤ b) (b1 : b < 9223372036854775808) (h : lI a = lI b) : a = b := by
  have := congrArg Int64.toInt h
  rw [lI_val (by omega) a1, lI_val (by omega) b1] at this
  exact this
theorem WR.iff {u v u' v' : Int64} (h : WR u v) (h' : WR u' v') : u = u' ↔ v = v' := by
  obtain ⟨X, p, k, ⟨k0, k1⟩, hx, rfl, rfl⟩ := h
  obtain ⟨Y, q, j, ⟨j0, j1⟩, hy, rfl, rfl⟩ := h'
  obtain ⟨a0, a1⟩ := wv_r (Or.inl rfl) k hx
  obtain ⟨b0, b1⟩ := wv_r (Or.inl rfl) j hy
  obtain ⟨c0, c1⟩ := wv_r (Or.inr rfl) k hx
  obtain ⟨d0, d1⟩ := wv_r (Or.inr rfl) j hy
  have p1 := pw_8 k1
  have p2 := pw_8 j1
  constructor
  · intro e
    obtain ⟨r, s⟩ := wv_i (Or.inl rfl) k j hx hy (lI_inj a0 (by omega) b0 (by omega) e)
    subst r
    rw [wv_c k s]
  · intro e
    obtain ⟨r, s⟩ := wv_i (Or.inr rfl) k j hx hy (lI_inj c0 (by omega) d0 (by omega) e)
    subst r
    rw [wv_c k s]
theorem lg_eq {x y : Int64} : (lg_cmp x y = iI 0) = (x = y) := by
  unfold lg_cmp
  refine propext ⟨fun h => ?_, fun h => ?_⟩
  · split at h
    · exact absurd h (by decide)
    · split at h
      · assumption
      · exact absurd h (by decide)
  · subst h
    rw [if_neg (fun q => by have : x < x := q; rw [Int64.lt_iff_toInt_lt] at this; omega), if_pos rfl]
    rfl
/-- which keyword a word is, 30: none -/
def kxGo : Nat → Int → Int64 → Int
  | 0, _, _ => 30
  | r + 1, k, v => if kwL k = v then k else kxGo r (k + 1) v
def kx (v : Int64) : Int := kxGo 30 0 v
theorem kxGo_r : ∀ (r : Nat) (k : Int) (v : Int64), 0 ≤ k → k + r = 30 → k ≤ kxGo r k v ∧ kxGo r k v ≤ 30 ∧ (kxGo r k v < 30 → kwL (kxGo r k v) = v) ∧ ∀ i, k ≤ i → i < kxGo r k v → ¬ kwL i = v
  | 0, k, v, k0, h => ⟨by unfold kxGo; omega, by unfold kxGo; omega, by unfold kxGo; omega, fun i i0 i1 => by unfold kxGo at i1; omega⟩
  | r + 1, k, v, k0, h => by
    unfold kxGo
    by_cases z : kwL k = v
    · rw [if_pos z]
      exact ⟨by omega, by omega, fun _ => z, fun i i0 i1 => by omega⟩
    · rw [if_neg z]
      obtain ⟨a, b, c, e⟩ := kxGo_r r (k + 1) v (by omega) (by omega)
      refine ⟨by omega, b, c, fun i i0 i1 => ?_⟩
      by_cases y : i = k
      · rw [y]; exact z
      · exact e i (by omega) i1
theorem kw_ij : ∀ i j : Fin 34, kwN.getD i.val 0 = kwN.getD j.val 0 → i = j := by decide +kernel
theorem kw_b : ∀ i : Fin 34, 0 ≤ kwN.getD i.val 0 ∧ kwN.getD i.val 0 < 9223372036854775808 := by decide +kernel
theorem kwL_i {i j : Int} (i0 : 0 ≤ i) (i1 : i < 34) (j0 : 0 ≤ j) (j1 : j < 34) (h : kwL i = kwL j) : i = j := by
  have a := kw_b ⟨i.toNat, by omega⟩
  have b := kw_b ⟨j.toNat, by omega⟩
  have := kw_ij ⟨i.toNat, by omega⟩ ⟨j.toNat, by omega⟩ (lI_inj a.1 a.2 b.1 b.2 h)
  have := congrArg Fin.val this
  dsimp only at this
  omega
/-- a word is the keyword w just if kx says so -/
theorem kx_w {v : Int64} {w : Int} (w0 : 0 ≤ w) (w1 : w < 30) : v = kwL w ↔ kx v = w := by
  obtain ⟨a, b, c, e⟩ := kxGo_r 30 0 v (by omega) (by omega)
  change 0 ≤ kx v at a
  change kx v ≤ 30 at b
  change kx v < 30 → kwL (kx v) = v at c
  change ∀ i, 0 ≤ i → i < kx v → ¬ kwL i = v at e
  constructor
  · intro h
    by_cases y : kx v < w
    · exact (kwL_i a (by omega) w0 (by omega) ((c (by omega)).trans h))
    · by_cases y2 : w < kx v
      · exact absurd h.symm (e w w0 y2)
      · omega
  · intro h
    rw [← c (by omega), h]
theorem kx_r {v : Int64} : 0 ≤ kx v ∧ kx v ≤ 30 := by
  obtain ⟨a, b, -, -⟩ := kxGo_r 30 0 v (by omega) (by omega)
  exact ⟨a, b⟩
/-- the class's type of a token -/
def ty (T : TK) (i : Int) : Int := if tS T i = 0 then 128 else if tS T i = 4 then 127 else if tS T i = 2 then 31 else if tS T i = 3 then tN T i else kx (tV T i)
/-- a text and its tokens -/
def TS (D : Nat → Nat → Int32) (n : Int) (T : TK) (N : Int) : Prop := (0 ≤ N ∧ N ≤ n ∧ n ≤ 1000) ∧ tX T 0 = 0 ∧ (∀ i, 0 ≤ i → i < N → Tk1 (tx D) n T i) ∧ TkE (tx D) n T N ∧ ∀ k, 0 ≤ k → k < n → 10 ≤ tx D k ∧ tx D k ≤ 126
/-- the class's text -/
def CX (D : Nat → Nat → Int32) (n : Int) (c : mm_M) : Prop := Sh c ∧ mm_gI c 101 3 = iI n ∧ (∀ k, 0 ≤ k → k < n → mm_gI c 102 k.toNat = iI (tx D k)) ∧ ∀ k, 0 ≤ k → k < 30 → mm_gL c 103 k.toNat = kcL k
/-- the class's tape stands at the token i -/
def CT (T : TK) (N i : Int) (c : mm_M) : Prop := (i < N → mm_gI c 101 2 = iI (tX T (i + 1))) ∧ mm_gI c 101 4 = iI (ty T i) ∧ mm_gI c 101 5 = iI (tP T i) ∧ (tS T i = 2 → mm_gI c 101 6 = iI (tN T i)) ∧ (tS T i = 1 → mm_gL c 101 7 = tW T i)
def scVt (a k : Nat) : Bool := Nat.beq a 101 && (Nat.beq k 2 || Nat.ble 4 k)
section
variable {D : Nat → Nat → Int32} {E : Nat → Nat → Int64} {m c c' : mm_M} {d : Nat} {n N i : Int} {T : TK}
theorem CX.fr {P : Nat → Nat → Bool} (h : CX D n c) (f : Fr P c c') (z : ∀ a k, (a = 101 ∧ k = 3) ∨ a = 102 ∨ a = 103 → P a k = false) : CX D n c' := ⟨f.sh h.1, (f.gI (z _ _ (Or.inl ⟨rfl, rfl⟩))).trans h.2.1, fun k k0 k1 => (f.gI (z _ _ (Or.inr (Or.inl rfl)))).trans (h.2.2.1 k k0 k1), fun k k0 k1 => (f.gL (z _ _ (Or.inr (Or.inr rfl)))).trans (h.2.2.2 k k0 k1)⟩
theorem scV_z {a k : Nat} (h : (a = 101 ∧ k = 3) ∨ a = 102 ∨ a = 103) : scVt a k = false := by
  rcases h with ⟨rfl, rfl⟩ | rfl | rfl <;> rfl
theorem CX.v (h : CX D n c) (f : Fr scVt c c') : CX D n c' := h.fr f (fun _ _ => scV_z)
theorem Fr.v2 {v : Int32} : Fr scVt c (mm_sI c 101 2 v) := Fr.sI rfl
theorem Fr.v4 {v : Int32} : Fr scVt c (mm_sI c 101 4 v) := Fr.sI rfl
theorem Fr.v5 {v : Int32} : Fr scVt c (mm_sI c 101 5 v) := Fr.sI rfl
theorem Fr.v6 {v : Int32} : Fr scVt c (mm_sI c 101 6 v) := Fr.sI rfl
theorem Fr.v7 {v : Int64} : Fr scVt c (mm_sL c 101 7 v) := Fr.sL rfl
theorem TS.t (h : TS D n T N) (i0 : 0 ≤ i) (i1 : i ≤ N) : 0 ≤ tX T i ∧ tX T i ≤ tP T i ∧ tP T i ≤ n ∧ ∀ k, tX T i ≤ k → k < tP T i → isB (tx D k) := by
  by_cases y : i = N
  · obtain ⟨-, b, ⟨e, f⟩, g⟩ := h.2.2.2.1
    rw [y, b]
    exact ⟨e, f, by omega, g⟩
  · obtain ⟨⟨a1, a2, a3, a4⟩, b, -⟩ := h.2.2.1 i i0 (by omega)
    exact ⟨a1, a2, by omega, b⟩
/-- blanks are passed over -/
theorem C79S (hT : TS D n T N) (i0 : 0 ≤ i) (i1 : i ≤ N) : ∀ (r : Nat) (k : Int) (c : mm_M), k = tP T i - r → tX T i ≤ k → CX D n c → mm_gI c 101 2 = iI k → ∃ c', mm_ev d 79 0 [some (.ref 101), none] [] c = mm_ev d 79 52 [some (.ref 101), none] [] c' ∧ Fr scVt c c' ∧ mm_gI c' 101 2 = iI (tP T i)
  | 0, k, c, hk, hx, h, h2 => by
    obtain ⟨a1, a2, a3, a4⟩ := hT.t i0 i1
    obtain ⟨n0, n1, n2⟩ := hT.1
    refine ⟨c, ?_, Fr.rf, by rw [h2, show tP T i = k by omega]⟩
    rw [sg_79_0]
    by_cases y : k < n
    · have hb : ¬ isB (tx D k) := by
        by_cases y2 : i = N
        · subst y2
          have := (hT.2.2.2.1).2.1
          omega
        · have := (hT.2.2.1 i i0 (by omega)).2.2.1.1
          rw [show k = tP T i by omega]
          exact this
      have hr := hT.2.2.2.2 k (by omega) y
      unfold isB at hb
      simp (disch := omega) only [shT h.1, ↓reduceIte, not_false_eq_true, not_true_eq_false, and_self, and_true, true_and, false_and, and_false, or_true, true_or, or_false, false_or, or_self, reduceCtorEq, mm_q, Option.getD_some, cI_some, cJ_some, cV_some, cS_some, kd_sI, kd_sL, kd_sR, kd_cp, ln_sI, ln_sL, ln_sR, ln_cp, gR_sI, gR_sL, gR_sR, gR_cp, gL_sI, gL_sR, gL_cp, gI_sL, gI_sR, iI_add, iI_sub, iI_mul, iI_neg, iI_in, iI_tn, iI_lt, iI_eq, Nat.reduceLeDiff, Nat.reduceEqDiff, Nat.reduceAdd, Int.reduceEq, Int.reduceLT, Int.reduceLE, Int.reduceNeg, Int.reduceAdd, Int.reduceSub, Int.reduceMul, h2, h.2.1, h.2.2.1 k (by omega) y, y, show ¬ tx D k = 10 by omega, show ¬ tx D k = 32 by omega]
    · simp (disch := omega) only [shT h.1, ↓reduceIte, not_false_eq_true, not_true_eq_false, and_self, and_true, true_and, false_and, and_false, or_true, true_or, or_false, false_or, or_self, reduceCtorEq, mm_q, Option.getD_some, cI_some, cJ_some, cV_some, cS_some, kd_sI, kd_sL, kd_sR, kd_cp, ln_sI, ln_sL, ln_sR, ln_cp, gR_sI, gR_sL, gR_sR, gR_cp, gL_sI, gL_sR, gL_cp, gI_sL, gI_sR, iI_add, iI_sub, iI_mul, iI_neg, iI_in, iI_tn, iI_lt, iI_eq, Nat.reduceLeDiff, Nat.reduceEqDiff, Nat.reduceAdd, Int.reduceEq, Int.reduceLT, Int.reduceLE, Int.reduceNeg, Int.reduceAdd, Int.reduceSub, Int.reduceMul, h2, h.2.1, y]
  | r + 1, k, c, hk, hx, h, h2 => by
    obtain ⟨a1, a2, a3, a4⟩ := hT.t i0 i1
    have n2 := hT.1.2.2
    have hb := a4 k hx (by omega)
    obtain ⟨c', e, f, g⟩ := C79S hT i0 i1 r (k + 1) (mm_sI c 101 2 (iI (k + 1))) (by omega) (by omega) (h.v Fr.v2) (by simp [gI_sI])
    refine ⟨c', ?_, Fr.v2.tr f, g⟩
    rw [← e, sg_79_0]
    have hr := hT.2.2.2.2 k (by omega) (by omega)
    rcases hb with hb | hb
    · simp (disch := omega) only [shT h.1, ↓reduceIte, not_false_eq_true, not_true_eq_false, and_self, and_true, true_and, false_and, and_false, or_true, true_or, or_false, false_or, or_self, reduceCtorEq, mm_q, Option.getD_some, cI_some, cJ_some, cV_some, cS_some, kd_sI, kd_sL, kd_sR, kd_cp, ln_sI, ln_sL, ln_sR, ln_cp, gR_sI, gR_sL, gR_sR, gR_cp, gL_sI, gL_sR, gL_cp, gI_sL, gI_sR, iI_add, iI_sub, iI_mul, iI_neg, iI_in, iI_tn, iI_lt, iI_eq, Nat.reduceLeDiff, Nat.reduceEqDiff, Nat.reduceAdd, Int.reduceEq, Int.reduceLT, Int.reduceLE, Int.reduceNeg, Int.reduceAdd, Int.reduceSub, Int.reduceMul, h2, h.2.1, h.2.2.1 k (by omega) (by omega), show k < n by omega, hb]
      rw [sg_79_39]
      simp (disch := omega) only [shT h.1, ↓reduceIte, not_false_eq_true, not_true_eq_false, and_self, and_true, true_and, false_and, and_false, or_true, true_or, or_false, false_or, or_self, reduceCtorEq, mm_q, Option.getD_some, cI_some, cJ_some, cV_some, cS_some, kd_sI, kd_sL, kd_sR, kd_cp, ln_sI, ln_sL, ln_sR, ln_cp, gR_sI, gR_sL, gR_sR, gR_cp, gL_sI, gL_sR, gL_cp, gI_sL, gI_sR, iI_add, iI_sub, iI_mul, iI_neg, iI_in, iI_tn, iI_lt, iI_eq, Nat.reduceLeDiff, Nat.reduceEqDiff, Nat.reduceAdd, Int.reduceEq, Int.reduceLT, Int.reduceLE, Int.reduceNeg, Int.reduceAdd, Int.reduceSub, Int.reduceMul, h2]
    · simp (disch := omega) only [shT h.1, ↓reduceIte, not_false_eq_true, not_true_eq_false, and_self, and_true, true_and, false_and, and_false, or_true, true_or, or_false, false_or, or_self, reduceCtorEq, mm_q, Option.getD_some, cI_some, cJ_some, cV_some, cS_some, kd_sI, kd_sL, kd_sR, kd_cp, ln_sI, ln_sL, ln_sR, ln_cp, gR_sI, gR_sL, gR_sR, gR_cp, gL_sI, gL_sR, gL_cp, gI_sL, gI_sR, iI_add, iI_sub, iI_mul, iI_neg, iI_in, iI_tn, iI_lt, iI_eq, Nat.reduceLeDiff, Nat.reduceEqDiff, Nat.reduceAdd, Int.reduceEq, Int.reduceLT, Int.reduceLE, Int.reduceNeg, Int.reduceAdd, Int.reduceSub, Int.reduceMul, h2, h.2.1, h.2.2.1 k (by omega) (by omega), show k < n by omega, hb]
      rw [sg_79_39]
      simp (disch := omega) only [shT h.1, ↓reduceIte, not_false_eq_true, not_true_eq_false, and_self, and_true, true_and, false_and, and_false, or_true, true_or, or_false, false_or, or_self, reduceCtorEq, mm_q, Option.getD_some, cI_some, cJ_some, cV_some, cS_some, kd_sI, kd_sL, kd_sR, kd_cp, ln_sI, ln_sL, ln_sR, ln_cp, gR_sI, gR_sL, gR_sR, gR_cp, gL_sI, gL_sR, gL_cp, gI_sL, gI_sR, iI_add, iI_sub, iI_mul, iI_neg, iI_in, iI_tn, iI_lt, iI_eq, Nat.reduceLeDiff, Nat.reduceEqDiff, Nat.reduceAdd, Int.reduceEq, Int.reduceLT, Int.reduceLE, Int.reduceNeg, Int.reduceAdd, Int.reduceSub, Int.reduceMul, h2]
/-- the letters of a word -/
theorem C80L {p e : Int} (p0 : 0 ≤ p) (pe : p ≤ e) (en : e ≤ n) (n2 : n ≤ 1000) (hl : ∀ q, p ≤ q → q < e → isL (tx D q)) (he : e < n → ¬ isL (tx D e)) (hr : ∀ k, 0 ≤ k → k < n → 10 ≤ tx D k ∧ tx D k ≤ 126) : ∀ (r : Nat) (k : Int) (c : mm_M), k = e - r → p ≤ k → CX D n c → mm_gI c 101 2 = iI k → mm_gL c 101 7 = lI (wv 27 (tx D) p (k - p).toNat) → ∃ c', mm_ev d 80 5 [some (.ref 101), none] [] c = mm_ev d 80 83 [some (.ref 101), none] [] c' ∧ Fr scVt c c' ∧ mm_gI c' 101 2 = iI e ∧ mm_gI c' 101 5 = mm_gI c 101 5 ∧ mm_gL c' 101 7 = lI (wv 27 (tx D) p (e - p).toNat)
  | 0, k, c, hk, hx, h, h2, h7 => by
    refine ⟨c, ?_, Fr.rf, by rw [h2, show e = k by omega], rfl, by rw [h7, show e = k by omega]⟩
    rw [sg_80_5]
    by_cases y : k < n
    · have := hr k (by omega) y
      have z := he (by omega)
      rw [show e = k by omega] at z
      unfold isL at z
      by_cases y2 : tx D k < 97
      · simp (disch := omega) only [shT h.1, ↓reduceIte, not_false_eq_true, not_true_eq_false, and_self, and_true, true_and, false_and, and_false, or_true, true_or, or_false, false_or, or_self, reduceCtorEq, mm_q, Option.getD_some, cI_some, cJ_some, cV_some, cS_some, kd_sI, kd_sL, kd_sR, kd_cp, ln_sI, ln_sL, ln_sR, ln_cp, gR_sI, gR_sL, gR_sR, gR_cp, gL_sI, gL_sR, gL_cp, gI_sL, gI_sR, iI_add, iI_sub, iI_mul, iI_neg, iI_in, iI_tn, iI_lt, iI_eq, Nat.reduceLeDiff, Nat.reduceEqDiff, Nat.reduceAdd, Int.reduceEq, Int.reduceLT, Int.reduceLE, Int.reduceNeg, Int.reduceAdd, Int.reduceSub, Int.reduceMul, h2, h.2.1, h.2.2.1 k (by omega) y, y, y2]
      · simp (disch := omega) only [shT h.1, ↓reduceIte, not_false_eq_true, not_true_eq_false, and_self, and_true, true_and, false_and, and_false, or_true, true_or, or_false, false_or, or_self, reduceCtorEq, mm_q, Option.getD_some, cI_some, cJ_some, cV_some, cS_some, kd_sI, kd_sL, kd_sR, kd_cp, ln_sI, ln_sL, ln_sR, ln_cp, gR_sI, gR_sL, gR_sR, gR_cp, gL_sI, gL_sR, gL_cp, gI_sL, gI_sR, iI_add, iI_sub, iI_mul, iI_neg, iI_in, iI_tn, iI_lt, iI_eq, Nat.reduceLeDiff, Nat.reduceEqDiff, Nat.reduceAdd, Int.reduceEq, Int.reduceLT, Int.reduceLE, Int.reduceNeg, Int.reduceAdd, Int.reduceSub, Int.reduceMul, h2, h.2.1, h.2.2.1 k (by omega) y, y, y2, show 122 < tx D k by omega]
    · simp (disch := omega) only [shT h.1, ↓reduceIte, not_false_eq_true, not_true_eq_false, and_self, and_true, true_and, false_and, and_false, or_true, true_or, or_false, false_or, or_self, reduceCtorEq, mm_q, Option.getD_some, cI_some, cJ_some, cV_some, cS_some, kd_sI, kd_sL, kd_sR, kd_cp, ln_sI, ln_sL, ln_sR, ln_cp, gR_sI, gR_sL, gR_sR, gR_cp, gL_sI, gL_sR, gL_cp, gI_sL, gI_sR, iI_add, iI_sub, iI_mul, iI_neg, iI_in, iI_tn, iI_lt, iI_eq, Nat.reduceLeDiff, Nat.reduceEqDiff, Nat.reduceAdd, Int.reduceEq, Int.reduceLT, Int.reduceLE, Int.reduceNeg, Int.reduceAdd, Int.reduceSub, Int.reduceMul, h2, h.2.1, y]
  | r + 1, k, c, hk, hx, h, h2, h7 => by
    have z := hl k hx (by omega)
    unfold isL at z
    have h' : CX D n (mm_sI (mm_sL c 101 7 (lI (wv 27 (tx D) p (k + 1 - p).toNat))) 101 2 (iI (k + 1))) := (h.v Fr.v7).v Fr.v2
    obtain ⟨c', e1, f1, g1, g2, g3⟩ := C80L p0 pe en n2 hl he hr r (k + 1) _ (by omega) (by omega) h' (by simp [gI_sI]) (by simp [gL_sI, gL_sL])
    refine ⟨c', ?_, (Fr.v7.tr Fr.v2).tr f1, g1, g2, g3⟩
    rw [← e1, sg_80_5]
    simp (disch := omega) only [shT h.1, ↓reduceIte, not_false_eq_true, not_true_eq_false, and_self, and_true, true_and, false_and, and_false, or_true, true_or, or_false, false_or, or_self, reduceCtorEq, mm_q, Option.getD_some, cI_some, cJ_some, cV_some, cS_some, kd_sI, kd_sL, kd_sR, kd_cp, ln_sI, ln_sL, ln_sR, ln_cp, gR_sI, gR_sL, gR_sR, gR_cp, gL_sI, gL_sR, gL_cp, gI_sL, gI_sR, iI_add, iI_sub, iI_mul, iI_neg, iI_in, iI_tn, iI_lt, iI_eq, Nat.reduceLeDiff, Nat.reduceEqDiff, Nat.reduceAdd, Int.reduceEq, Int.reduceLT, Int.reduceLE, Int.reduceNeg, Int.reduceAdd, Int.reduceSub, Int.reduceMul, h2, h7, h.2.1, h.2.2.1 k (by omega) (by omega), show k < n by omega, show ¬ tx D k < 97 by omega, show ¬ 122 < tx D k by omega, iI_l (show -2147483648 ≤ tx D k - 96 by omega) (by omega), lI_mul, lI_add]
    rw [show (k + 1 - p).toNat = (k - p).toNat + 1 by omega, wv_s]
    rw [show p + (((k - p).toNat : Nat) : Int) = k by omega, Int.mul_comm]
/-- the keywords are held against it -/
theorem C80K {u v : Int64} (hw : WR u v) : ∀ (r : Nat) (k : Int) (c : mm_M), k + r = 30 → 0 ≤ k → CX D n c → mm_gI c 101 4 = iI 30 → mm_gL c 101 7 = v → ∃ c', mm_ev d 80 112 [some (.ref 101), some (.int (iI (k)))] [] c = some (some none, c') ∧ Fr scVt c c' ∧ mm_gI c' 101 4 = iI (kxGo r k u) ∧ (∀ j, ¬ j = 4 → mm_gI c' 101 j = mm_gI c 101 j) ∧ mm_gL c' 101 7 = v
  | 0, k, c, hk, k0, h, h4, h7 => by
    refine ⟨c, ?_, Fr.rf, h4, fun _ _ => rfl, h7⟩
    rw [sg_80_112]
    simp (disch := omega) only [↓reduceIte, not_false_eq_true, not_true_eq_false, and_self, and_true, true_and, false_and, and_false, or_true, true_or, or_false, false_or, or_self, reduceCtorEq, mm_q, Option.getD_some, cI_some, cJ_some, cV_some, cS_some, kd_sI, kd_sL, kd_sR, kd_cp, ln_sI, ln_sL, ln_sR, ln_cp, gR_sI, gR_sL, gR_sR, gR_cp, gL_sI, gL_sR, gL_cp, gI_sL, gI_sR, iI_add, iI_sub, iI_mul, iI_neg, iI_in, iI_tn, iI_lt, iI_eq, Nat.reduceLeDiff, Nat.reduceEqDiff, Nat.reduceAdd, Int.reduceEq, Int.reduceLT, Int.reduceLE, Int.reduceNeg, Int.reduceAdd, Int.reduceSub, Int.reduceMul, show ¬ k < 30 by omega]
  | r + 1, k, c, hk, k0, h, h4, h7 => by
    have hi := (kw_WR k0 (by omega)).iff hw
    rw [sg_80_112]
    unfold kxGo
    by_cases z : kwL k = u
    · refine ⟨mm_sI c 101 4 (iI k), ?_, Fr.v4, by rw [if_pos z]; simp [gI_sI], fun j hj => by simp [gI_sI, hj], h7⟩
      have e9 : mm_ev d 80 146 [some (.ref 101), some (.int (iI (k)))] [] (mm_sI c 101 4 (iI k)) = some (some none, mm_sI c 101 4 (iI k)) := by
        rw [sg_80_146, sg_80_112]
        by_cases y : k + 1 < 30
        · simp (disch := omega) only [shT h.1, ↓reduceIte, not_false_eq_true, not_true_eq_false, and_self, and_true, true_and, false_and, and_false, or_true, true_or, or_false, false_or, or_self, reduceCtorEq, mm_q, Option.getD_some, cI_some, cJ_some, cV_some, cS_some, kd_sI, kd_sL, kd_sR, kd_cp, ln_sI, ln_sL, ln_sR, ln_cp, gR_sI, gR_sL, gR_sR, gR_cp, gL_sI, gL_sR, gL_cp, gI_sL, gI_sR, iI_add, iI_sub, iI_mul, iI_neg, iI_in, iI_tn, iI_lt, iI_eq, Nat.reduceLeDiff, Nat.reduceEqDiff, Nat.reduceAdd, Int.reduceEq, Int.reduceLT, Int.reduceLE, Int.reduceNeg, Int.reduceAdd, Int.reduceSub, Int.reduceMul, gI_sI, y, show ¬ k = 30 by omega]
        · simp (disch := omega) only [shT h.1, ↓reduceIte, not_false_eq_true, not_true_eq_false, and_self, and_true, true_and, false_and, and_false, or_true, true_or, or_false, false_or, or_self, reduceCtorEq, mm_q, Option.getD_some, cI_some, cJ_some, cV_some, cS_some, kd_sI, kd_sL, kd_sR, kd_cp, ln_sI, ln_sL, ln_sR, ln_cp, gR_sI, gR_sL, gR_sR, gR_cp, gL_sI, gL_sR, gL_cp, gI_sL, gI_sR, iI_add, iI_sub, iI_mul, iI_neg, iI_in, iI_tn, iI_lt, iI_eq, Nat.reduceLeDiff, Nat.reduceEqDiff, Nat.reduceAdd, Int.reduceEq, Int.reduceLT, Int.reduceLE, Int.reduceNeg, Int.reduceAdd, Int.reduceSub, Int.reduceMul, y]
      simp (disch := omega) only [shT h.1, ↓reduceIte, not_false_eq_true, not_true_eq_false, and_self, and_true, true_and, false_and, and_false, or_true, true_or, or_false, false_or, or_self, reduceCtorEq, mm_q, Option.getD_some, cI_some, cJ_some, cV_some, cS_some, kd_sI, kd_sL, kd_sR, kd_cp, ln_sI, ln_sL, ln_sR, ln_cp, gR_sI, gR_sL, gR_sR, gR_cp, gL_sI, gL_sR, gL_cp, gI_sL, gI_sR, iI_add, iI_sub, iI_mul, iI_neg, iI_in, iI_tn, iI_lt, iI_eq, Nat.reduceLeDiff, Nat.reduceEqDiff, Nat.reduceAdd, Int.reduceEq, Int.reduceLT, Int.reduceLE, Int.reduceNeg, Int.reduceAdd, Int.reduceSub, Int.reduceMul, show k < 30 by omega, h4, h7, h.2.2.2 k k0 (by omega), lg_eq, hi.mp z]
      exact e9
    · obtain ⟨c', e1, f1, g1, g2, g3⟩ := C80K hw r (k + 1) c (by omega) (by omega) h h4 h7
      refine ⟨c', ?_, f1, by rw [if_neg z]; exact g1, g2, g3⟩
      simp (disch := omega) only [shT h.1, ↓reduceIte, not_false_eq_true, not_true_eq_false, and_self, and_true, true_and, false_and, and_false, or_true, true_or, or_false, false_or, or_self, reduceCtorEq, mm_q, Option.getD_some, cI_some, cJ_some, cV_some, cS_some, kd_sI, kd_sL, kd_sR, kd_cp, ln_sI, ln_sL, ln_sR, ln_cp, gR_sI, gR_sL, gR_sR, gR_cp, gL_sI, gL_sR, gL_cp, gI_sL, gI_sR, iI_add, iI_sub, iI_mul, iI_neg, iI_in, iI_tn, iI_lt, iI_eq, Nat.reduceLeDiff, Nat.reduceEqDiff, Nat.reduceAdd, Int.reduceEq, Int.reduceLT, Int.reduceLE, Int.reduceNeg, Int.reduceAdd, Int.reduceSub, Int.reduceMul, show k < 30 by omega, h4, h7, h.2.2.2 k k0 (by omega), lg_eq, show ¬ kcL k = v from fun y => z (hi.mpr y)]
      rw [sg_80_146]
      simp (disch := omega) only [↓reduceIte, not_false_eq_true, not_true_eq_false, and_self, and_true, true_and, false_and, and_false, or_true, true_or, or_false, false_or, or_self, reduceCtorEq, mm_q, Option.getD_some, cI_some, cJ_some, cV_some, cS_some, kd_sI, kd_sL, kd_sR, kd_cp, ln_sI, ln_sL, ln_sR, ln_cp, gR_sI, gR_sL, gR_sR, gR_cp, gL_sI, gL_sR, gL_cp, gI_sL, gI_sR, iI_add, iI_sub, iI_mul, iI_neg, iI_in, iI_tn, iI_lt, iI_eq, Nat.reduceLeDiff, Nat.reduceEqDiff, Nat.reduceAdd, Int.reduceEq, Int.reduceLT, Int.reduceLE, Int.reduceNeg, Int.reduceAdd, Int.reduceSub, Int.reduceMul]
      exact e1
/-- the digits of a number -/
theorem C81L {p e : Int} (p0 : 0 ≤ p) (pe : p ≤ e) (en : e ≤ n) (n2 : n ≤ 1000) (hl : ∀ q, p ≤ q → q < e → isG (tx D q)) (he : e < n → ¬ isG (tx D e)) (hr : ∀ k, 0 ≤ k → k < n → 10 ≤ tx D k ∧ tx D k ≤ 126) : ∀ (r : Nat) (k : Int) (c : mm_M), k = e - r → p ≤ k → CX D n c → mm_gI c 101 2 = iI k → mm_gI c 101 6 = iI (nv (tx D) p (k - p).toNat) → ∃ c', mm_ev d 81 5 [some (.ref 101)] [] c = mm_ev d 81 81 [some (.ref 101)] [] c' ∧ Fr scVt c c' ∧ mm_gI c' 101 2 = iI e ∧ mm_gI c' 101 5 = mm_gI c 101 5 ∧ mm_gI c' 101 6 = iI (nv (tx D) p (e - p).toNat)
  | 0, k, c, hk, hx, h, h2, h7 => by
    refine ⟨c, ?_, Fr.rf, by rw [h2, show e = k by omega], rfl, by rw [h7, show e = k by omega]⟩
    rw [sg_81_5]
    by_cases y : k < n
    · have := hr k (by omega) y
      have z := he (by omega)
      rw [show e = k by omega] at z
      unfold isG at z
      by_cases y2 : tx D k < 48
      · simp (disch := omega) only [shT h.1, ↓reduceIte, not_false_eq_true, not_true_eq_false, and_self, and_true, true_and, false_and, and_false, or_true, true_or, or_false, false_or, or_self, reduceCtorEq, mm_q, Option.getD_some, cI_some, cJ_some, cV_some, cS_some, kd_sI, kd_sL, kd_sR, kd_cp, ln_sI, ln_sL, ln_sR, ln_cp, gR_sI, gR_sL, gR_sR, gR_cp, gL_sI, gL_sR, gL_cp, gI_sL, gI_sR, iI_add, iI_sub, iI_mul, iI_neg, iI_in, iI_tn, iI_lt, iI_eq, Nat.reduceLeDiff, Nat.reduceEqDiff, Nat.reduceAdd, Int.reduceEq, Int.reduceLT, Int.reduceLE, Int.reduceNeg, Int.reduceAdd, Int.reduceSub, Int.reduceMul, h2, h.2.1, h.2.2.1 k (by omega) y, y, y2]
      · simp (disch := omega) only [shT h.1, ↓reduceIte, not_false_eq_true, not_true_eq_false, and_self, and_true, true_and, false_and, and_false, or_true, true_or, or_false, false_or, or_self, reduceCtorEq, mm_q, Option.getD_some, cI_some, cJ_some, cV_some, cS_some, kd_sI, kd_sL, kd_sR, kd_cp, ln_sI, ln_sL, ln_sR, ln_cp, gR_sI, gR_sL, gR_sR, gR_cp, gL_sI, gL_sR, gL_cp, gI_sL, gI_sR, iI_add, iI_sub, iI_mul, iI_neg, iI_in, iI_tn, iI_lt, iI_eq, Nat.reduceLeDiff, Nat.reduceEqDiff, Nat.reduceAdd, Int.reduceEq, Int.reduceLT, Int.reduceLE, Int.reduceNeg, Int.reduceAdd, Int.reduceSub, Int.reduceMul, h2, h.2.1, h.2.2.1 k (by omega) y, y, y2, show 57 < tx D k by omega]
    · simp (disch := omega) only [shT h.1, ↓reduceIte, not_false_eq_true, not_true_eq_false, and_self, and_true, true_and, false_and, and_false, or_true, true_or, or_false, false_or, or_self, reduceCtorEq, mm_q, Option.getD_some, cI_some, cJ_some, cV_some, cS_some, kd_sI, kd_sL, kd_sR, kd_cp, ln_sI, ln_sL, ln_sR, ln_cp, gR_sI, gR_sL, gR_sR, gR_cp, gL_sI, gL_sR, gL_cp, gI_sL, gI_sR, iI_add, iI_sub, iI_mul, iI_neg, iI_in, iI_tn, iI_lt, iI_eq, Nat.reduceLeDiff, Nat.reduceEqDiff, Nat.reduceAdd, Int.reduceEq, Int.reduceLT, Int.reduceLE, Int.reduceNeg, Int.reduceAdd, Int.reduceSub, Int.reduceMul, h2, h.2.1, y]
  | r + 1, k, c, hk, hx, h, h2, h7 => by
    have z := hl k hx (by omega)
    unfold isG at z
    have h' : CX D n (mm_sI (mm_sI c 101 6 (iI (nv (tx D) p (k + 1 - p).toNat))) 101 2 (iI (k + 1))) := (h.v Fr.v6).v Fr.v2
    obtain ⟨c', e1, f1, g1, g2, g3⟩ := C81L p0 pe en n2 hl he hr r (k + 1) _ (by omega) (by omega) h' (by simp [gI_sI]) (by simp [gI_sI])
    refine ⟨c', ?_, (Fr.v6.tr Fr.v2).tr f1, g1, by rw [g2]; simp [gI_sI], g3⟩
    rw [← e1, sg_81_5]
    simp (disch := omega) only [shT h.1, ↓reduceIte, not_false_eq_true, not_true_eq_false, and_self, and_true, true_and, false_and, and_false, or_true, true_or, or_false, false_or, or_self, reduceCtorEq, mm_q, Option.getD_some, cI_some, cJ_some, cV_some, cS_some, kd_sI, kd_sL, kd_sR, kd_cp, ln_sI, ln_sL, ln_sR, ln_cp, gR_sI, gR_sL, gR_sR, gR_cp, gL_sI, gL_sR, gL_cp, gI_sL, gI_sR, iI_add, iI_sub, iI_mul, iI_neg, iI_in, iI_tn, iI_lt, iI_eq, Nat.reduceLeDiff, Nat.reduceEqDiff, Nat.reduceAdd, Int.reduceEq, Int.reduceLT, Int.reduceLE, Int.reduceNeg, Int.reduceAdd, Int.reduceSub, Int.reduceMul, h2, h7, h.2.1, h.2.2.1 k (by omega) (by omega), show k < n by omega, show ¬ tx D k < 48 by omega, show ¬ 57 < tx D k by omega, gI_sI]
    rw [show (k + 1 - p).toNat = (k - p).toNat + 1 by omega, nv_s]
    rw [show p + (((k - p).toNat : Nat) : Int) = k by omega, Int.mul_comm]
/-- step -/
theorem C79 (hT : TS D n T N) (h : CX D n c) (hd : 8 ≤ d) (i0 : 0 ≤ i) (i1 : i ≤ N) (h2 : mm_gI c 101 2 = iI (tX T i)) : ∃ c', mm_ev d 79 0 [some (.ref 101), none] [] c = some (some none, c') ∧ Fr scVt c c' ∧ CT T N i c' := by
  obtain ⟨a1, a2, a3, a4⟩ := hT.t i0 i1
  have n2 := hT.1.2.2
  obtain ⟨c1, e1, f1, g1⟩ := C79S (d := d) hT i0 i1 (tP T i - tX T i).toNat (tX T i) c (by omega) (by omega) h h2
  have h1 := h.v f1
  have h3 : CX D n (mm_sI c1 101 5 (iI (tP T i))) := h1.v Fr.v5
  rw [e1, sg_79_52 (by omega)]
  by_cases y : i = N
  · have e9 : tP T i = n := by rw [y]; exact hT.2.2.2.1.2.1
    have e8 : tS T i = 0 := by rw [y]; exact hT.2.2.2.1.1
    refine ⟨mm_sI (mm_sI c1 101 5 (iI (tP T i))) 101 4 (iI 128), ?_, (f1.tr Fr.v5).tr Fr.v4, by omega, ?_, ?_, by omega, by omega⟩
    · simp (disch := omega) only [shT h1.1, ↓reduceIte, not_false_eq_true, not_true_eq_false, and_self, and_true, true_and, false_and, and_false, or_true, true_or, or_false, false_or, or_self, reduceCtorEq, mm_q, Option.getD_some, cI_some, cJ_some, cV_some, cS_some, kd_sI, kd_sL, kd_sR, kd_cp, ln_sI, ln_sL, ln_sR, ln_cp, gR_sI, gR_sL, gR_sR, gR_cp, gL_sI, gL_sR, gL_cp, gI_sL, gI_sR, iI_add, iI_sub, iI_mul, iI_neg, iI_in, iI_tn, iI_lt, iI_eq, Nat.reduceLeDiff, Nat.reduceEqDiff, Nat.reduceAdd, Int.reduceEq, Int.reduceLT, Int.reduceLE, Int.reduceNeg, Int.reduceAdd, Int.reduceSub, Int.reduceMul, g1, h1.2.1, gI_sI, show ¬ tP T i < n by omega]
    · unfold ty
      rw [if_pos e8]
      simp [gI_sI]
    · simp [gI_sI]
  · obtain ⟨⟨b1, b2, b3, b4⟩, -, hb, hc⟩ := hT.2.2.1 i i0 (by omega)
    have hrr := hT.2.2.2.2 (tP T i) (by omega) (by omega)
    rcases hc with ⟨z, hl, he, hs⟩ | ⟨z, hl, he, hs⟩ | ⟨z1, z2, he, hs⟩
    · have z' := z
      unfold isL at z'
      have hk0 : mm_ev (d - 1) 80 0 [some (.ref 101), none] [] (mm_sI c1 101 5 (iI (tP T i))) = mm_ev (d - 1) 80 5 [some (.ref 101), none] [] (mm_sL (mm_sI c1 101 5 (iI (tP T i))) 101 7 (lI 0)) := by
        rw [sg_80_0]
        simp (disch := omega) only [shT h1.1, ↓reduceIte, not_false_eq_true, not_true_eq_false, and_self, and_true, true_and, false_and, and_false, or_true, true_or, or_false, false_or, or_self, reduceCtorEq, mm_q, Option.getD_some, cI_some, cJ_some, cV_some, cS_some, kd_sI, kd_sL, kd_sR, kd_cp, ln_sI, ln_sL, ln_sR, ln_cp, gR_sI, gR_sL, gR_sR, gR_cp, gL_sI, gL_sR, gL_cp, gI_sL, gI_sR, iI_add, iI_sub, iI_mul, iI_neg, iI_in, iI_tn, iI_lt, iI_eq, Nat.reduceLeDiff, Nat.reduceEqDiff, Nat.reduceAdd, Int.reduceEq, Int.reduceLT, Int.reduceLE, Int.reduceNeg, Int.reduceAdd, Int.reduceSub, Int.reduceMul]
      obtain ⟨c2, e2, f2, p1, p2, p3⟩ := C80L (d := d - 1) (p := tP T i) (e := tX T (i + 1)) (by omega) (by omega) (by omega) n2 hl he hT.2.2.2.2 (tX T (i + 1) - tP T i).toNat (tP T i) (mm_sL (mm_sI c1 101 5 (iI (tP T i))) 101 7 (lI 0)) (by omega) (by omega) (h3.v Fr.v7) (by simp [gI_sI, gI_sL, g1]) (by simp [gL_sL]; rfl)
      have h4 := (h3.v Fr.v7).v f2
      have p2' : mm_gI c2 101 5 = iI (tP T i) := by rw [p2]; simp [gI_sL, gI_sI]
      have key : ∀ r9, mm_ev (d - 1) 80 83 [some (.ref 101), none] [] c2 = some (some none, r9) → mm_cV (mm_ev (d - 1) 80 0 [some (.ref 101), none] [] (mm_sI c1 101 5 (iI (tP T i)))) (fun m3 => some (some none, m3)) = some (some none, r9) := fun r9 hr9 => by
        rw [hk0, e2, hr9]
        rfl
      have red : mm_ev d 79 52 [some (.ref 101), none] [] c1 = mm_cV (mm_ev (d - 1) 80 0 [some (.ref 101), none] [] (mm_sI c1 101 5 (iI (tP T i)))) (fun m3 => some (some none, m3)) := by
        rw [sg_79_52 (by omega)]
        simp (disch := omega) only [shT h1.1, ↓reduceIte, not_false_eq_true, not_true_eq_false, and_self, and_true, true_and, false_and, and_false, or_true, true_or, or_false, false_or, or_self, reduceCtorEq, mm_q, Option.getD_some, cI_some, cJ_some, cV_some, cS_some, kd_sI, kd_sL, kd_sR, kd_cp, ln_sI, ln_sL, ln_sR, ln_cp, gR_sI, gR_sL, gR_sR, gR_cp, gL_sI, gL_sR, gL_cp, gI_sL, gI_sR, iI_add, iI_sub, iI_mul, iI_neg, iI_in, iI_tn, iI_lt, iI_eq, Nat.reduceLeDiff, Nat.reduceEqDiff, Nat.reduceAdd, Int.reduceEq, Int.reduceLT, Int.reduceLE, Int.reduceNeg, Int.reduceAdd, Int.reduceSub, Int.reduceMul, g1, h1.2.1, gI_sI, show tP T i < n by omega, h1.2.2.1 (tP T i) (by omega) (by omega), show ¬ tx D (tP T i) < 97 by omega, show ¬ 122 < tx D (tP T i) by omega]
      rw [← sg_79_52 (by omega), red]
      rcases hs with ⟨s1, s2⟩ | ⟨s1, s2, s3, s4⟩
      · refine ⟨mm_sI c2 101 4 (iI 127), key _ ?_, (((f1.tr Fr.v5).tr Fr.v7).tr f2).tr Fr.v4, fun _ => by simp [gI_sI, p1], ?_, by simp [gI_sI, p2'], by omega, by omega⟩
        · rw [sg_80_83]
          simp (disch := omega) only [shT h4.1, ↓reduceIte, not_false_eq_true, not_true_eq_false, and_self, and_true, true_and, false_and, and_false, or_true, true_or, or_false, false_or, or_self, reduceCtorEq, mm_q, Option.getD_some, cI_some, cJ_some, cV_some, cS_some, kd_sI, kd_sL, kd_sR, kd_cp, ln_sI, ln_sL, ln_sR, ln_cp, gR_sI, gR_sL, gR_sR, gR_cp, gL_sI, gL_sR, gL_cp, gI_sL, gI_sR, iI_add, iI_sub, iI_mul, iI_neg, iI_in, iI_tn, iI_lt, iI_eq, Nat.reduceLeDiff, Nat.reduceEqDiff, Nat.reduceAdd, Int.reduceEq, Int.reduceLT, Int.reduceLE, Int.reduceNeg, Int.reduceAdd, Int.reduceSub, Int.reduceMul, p1, p2', show 8 < tX T (i + 1) - tP T i by omega]
        · unfold ty
          rw [if_neg (by omega), if_pos s2]
          simp [gI_sI]
      · have hw : WR (tV T i) (tW T i) := ⟨tx D, tP T i, (tX T (i + 1) - tP T i).toNat, ⟨by omega, by omega⟩, fun q hq => hl _ (by omega) (by omega), s3, s4⟩
        obtain ⟨c3, e3, f3, q1, q2, q3⟩ := C80K (d := d - 1) hw 30 0 (mm_sI c2 101 4 (iI 30)) (by omega) (by omega) (h4.v Fr.v4) (by simp [gI_sI]) (by rw [gL_sI, p3, ← s4])
        refine ⟨c3, key _ ?_, ((((f1.tr Fr.v5).tr Fr.v7).tr f2).tr Fr.v4).tr f3, fun _ => ?_, ?_, ?_, by omega, fun _ => q3⟩
        · rw [sg_80_83]
          simp (disch := omega) only [shT h4.1, ↓reduceIte, not_false_eq_true, not_true_eq_false, and_self, and_true, true_and, false_and, and_false, or_true, true_or, or_false, false_or, or_self, reduceCtorEq, mm_q, Option.getD_some, cI_some, cJ_some, cV_some, cS_some, kd_sI, kd_sL, kd_sR, kd_cp, ln_sI, ln_sL, ln_sR, ln_cp, gR_sI, gR_sL, gR_sR, gR_cp, gL_sI, gL_sR, gL_cp, gI_sL, gI_sR, iI_add, iI_sub, iI_mul, iI_neg, iI_in, iI_tn, iI_lt, iI_eq, Nat.reduceLeDiff, Nat.reduceEqDiff, Nat.reduceAdd, Int.reduceEq, Int.reduceLT, Int.reduceLE, Int.reduceNeg, Int.reduceAdd, Int.reduceSub, Int.reduceMul, p1, p2', show ¬ 8 < tX T (i + 1) - tP T i by omega]
          exact e3
        · rw [q2 2 (by decide)]
          simp [gI_sI, p1]
        · unfold ty kx
          rw [if_neg (by omega), if_neg (by omega), if_neg (by omega), if_neg (by omega)]
          exact q1
        · rw [q2 5 (by decide)]
          simp [gI_sI, p2']
    · have z' := z
      unfold isG at z'
      have red : mm_ev d 79 52 [some (.ref 101), none] [] c1 = mm_cV (mm_ev (d - 1) 81 0 [some (.ref 101)] [] (mm_sI c1 101 5 (iI (tP T i)))) (fun m3 => some (some none, m3)) := by
        rw [sg_79_52 (by omega)]
        simp (disch := omega) only [shT h1.1, ↓reduceIte, not_false_eq_true, not_true_eq_false, and_self, and_true, true_and, false_and, and_false, or_true, true_or, or_false, false_or, or_self, reduceCtorEq, mm_q, Option.getD_some, cI_some, cJ_some, cV_some, cS_some, kd_sI, kd_sL, kd_sR, kd_cp, ln_sI, ln_sL, ln_sR, ln_cp, gR_sI, gR_sL, gR_sR, gR_cp, gL_sI, gL_sR, gL_cp, gI_sL, gI_sR, iI_add, iI_sub, iI_mul, iI_neg, iI_in, iI_tn, iI_lt, iI_eq, Nat.reduceLeDiff, Nat.reduceEqDiff, Nat.reduceAdd, Int.reduceEq, Int.reduceLT, Int.reduceLE, Int.reduceNeg, Int.reduceAdd, Int.reduceSub, Int.reduceMul, g1, h1.2.1, gI_sI, show tP T i < n by omega, h1.2.2.1 (tP T i) (by omega) (by omega), show tx D (tP T i) < 97 by omega]
        rw [sg_79_108 (by omega)]
        simp (disch := omega) only [shT h1.1, ↓reduceIte, not_false_eq_true, not_true_eq_false, and_self, and_true, true_and, false_and, and_false, or_true, true_or, or_false, false_or, or_self, reduceCtorEq, mm_q, Option.getD_some, cI_some, cJ_some, cV_some, cS_some, kd_sI, kd_sL, kd_sR, kd_cp, ln_sI, ln_sL, ln_sR, ln_cp, gR_sI, gR_sL, gR_sR, gR_cp, gL_sI, gL_sR, gL_cp, gI_sL, gI_sR, iI_add, iI_sub, iI_mul, iI_neg, iI_in, iI_tn, iI_lt, iI_eq, Nat.reduceLeDiff, Nat.reduceEqDiff, Nat.reduceAdd, Int.reduceEq, Int.reduceLT, Int.reduceLE, Int.reduceNeg, Int.reduceAdd, Int.reduceSub, Int.reduceMul, show ¬ tx D (tP T i) < 48 by omega, show ¬ 57 < tx D (tP T i) by omega]
      obtain ⟨c2, e2, f2, p1, p2, p3⟩ := C81L (d := d - 1) (p := tP T i) (e := tX T (i + 1)) (by omega) (by omega) (by omega) n2 hl he hT.2.2.2.2 (tX T (i + 1) - tP T i).toNat (tP T i) (mm_sI (mm_sI c1 101 5 (iI (tP T i))) 101 6 (iI 0)) (by omega) (by omega) (h3.v Fr.v6) (by simp [gI_sI, g1]) (by simp [gI_sI]; rfl)
      have h4 := (h3.v Fr.v6).v f2
      have p2' : mm_gI c2 101 5 = iI (tP T i) := by rw [p2]; simp [gI_sI]
      have key : ∀ r9, mm_ev (d - 1) 81 81 [some (.ref 101)] [] c2 = some (some none, r9) → mm_cV (mm_ev (d - 1) 81 0 [some (.ref 101)] [] (mm_sI c1 101 5 (iI (tP T i)))) (fun m3 => some (some none, m3)) = some (some none, r9) := fun r9 hr9 => by
        have : mm_ev (d - 1) 81 0 [some (.ref 101)] [] (mm_sI c1 101 5 (iI (tP T i))) = mm_ev (d - 1) 81 5 [some (.ref 101)] [] (mm_sI (mm_sI c1 101 5 (iI (tP T i))) 101 6 (iI 0)) := by
          rw [sg_81_0]
          simp (disch := omega) only [shT h1.1, ↓reduceIte, not_false_eq_true, not_true_eq_false, and_self, and_true, true_and, false_and, and_false, or_true, true_or, or_false, false_or, or_self, reduceCtorEq, mm_q, Option.getD_some, cI_some, cJ_some, cV_some, cS_some, kd_sI, kd_sL, kd_sR, kd_cp, ln_sI, ln_sL, ln_sR, ln_cp, gR_sI, gR_sL, gR_sR, gR_cp, gL_sI, gL_sR, gL_cp, gI_sL, gI_sR, iI_add, iI_sub, iI_mul, iI_neg, iI_in, iI_tn, iI_lt, iI_eq, Nat.reduceLeDiff, Nat.reduceEqDiff, Nat.reduceAdd, Int.reduceEq, Int.reduceLT, Int.reduceLE, Int.reduceNeg, Int.reduceAdd, Int.reduceSub, Int.reduceMul]
        rw [this, e2, hr9]
        rfl
      rw [← sg_79_52 (by omega), red]
      rcases hs with ⟨s1, s2⟩ | ⟨s1, s2, s3, s4⟩
      · refine ⟨mm_sI c2 101 4 (iI 127), key _ ?_, (((f1.tr Fr.v5).tr Fr.v6).tr f2).tr Fr.v4, fun _ => by simp [gI_sI, p1], ?_, by simp [gI_sI, p2'], by omega, by omega⟩
        · rw [sg_81_81]
          simp (disch := omega) only [shT h4.1, ↓reduceIte, not_false_eq_true, not_true_eq_false, and_self, and_true, true_and, false_and, and_false, or_true, true_or, or_false, false_or, or_self, reduceCtorEq, mm_q, Option.getD_some, cI_some, cJ_some, cV_some, cS_some, kd_sI, kd_sL, kd_sR, kd_cp, ln_sI, ln_sL, ln_sR, ln_cp, gR_sI, gR_sL, gR_sR, gR_cp, gL_sI, gL_sR, gL_cp, gI_sL, gI_sR, iI_add, iI_sub, iI_mul, iI_neg, iI_in, iI_tn, iI_lt, iI_eq, Nat.reduceLeDiff, Nat.reduceEqDiff, Nat.reduceAdd, Int.reduceEq, Int.reduceLT, Int.reduceLE, Int.reduceNeg, Int.reduceAdd, Int.reduceSub, Int.reduceMul, p1, p2', show 4 < tX T (i + 1) - tP T i by omega]
          rw [sg_81_102]
          simp (disch := omega) only [shT h4.1, ↓reduceIte, not_false_eq_true, not_true_eq_false, and_self, and_true, true_and, false_and, and_false, or_true, true_or, or_false, false_or, or_self, reduceCtorEq, mm_q, Option.getD_some, cI_some, cJ_some, cV_some, cS_some, kd_sI, kd_sL, kd_sR, kd_cp, ln_sI, ln_sL, ln_sR, ln_cp, gR_sI, gR_sL, gR_sR, gR_cp, gL_sI, gL_sR, gL_cp, gI_sL, gI_sR, iI_add, iI_sub, iI_mul, iI_neg, iI_in, iI_tn, iI_lt, iI_eq, Nat.reduceLeDiff, Nat.reduceEqDiff, Nat.reduceAdd, Int.reduceEq, Int.reduceLT, Int.reduceLE, Int.reduceNeg, Int.reduceAdd, Int.reduceSub, Int.reduceMul]
        · unfold ty
          rw [if_neg (by omega), if_pos s2]
          simp [gI_sI]
      · refine ⟨mm_sI c2 101 4 (iI 31), key _ ?_, (((f1.tr Fr.v5).tr Fr.v6).tr f2).tr Fr.v4, fun _ => by simp [gI_sI, p1], ?_, by simp [gI_sI, p2'], fun _ => by simp [gI_sI, p3, s3], by omega⟩
        · rw [sg_81_81]
          simp (disch := omega) only [shT h4.1, ↓reduceIte, not_false_eq_true, not_true_eq_false, and_self, and_true, true_and, false_and, and_false, or_true, true_or, or_false, false_or, or_self, reduceCtorEq, mm_q, Option.getD_some, cI_some, cJ_some, cV_some, cS_some, kd_sI, kd_sL, kd_sR, kd_cp, ln_sI, ln_sL, ln_sR, ln_cp, gR_sI, gR_sL, gR_sR, gR_cp, gL_sI, gL_sR, gL_cp, gI_sL, gI_sR, iI_add, iI_sub, iI_mul, iI_neg, iI_in, iI_tn, iI_lt, iI_eq, Nat.reduceLeDiff, Nat.reduceEqDiff, Nat.reduceAdd, Int.reduceEq, Int.reduceLT, Int.reduceLE, Int.reduceNeg, Int.reduceAdd, Int.reduceSub, Int.reduceMul, p1, p2', show ¬ 4 < tX T (i + 1) - tP T i by omega]
          rw [sg_81_102]
          simp (disch := omega) only [shT h4.1, ↓reduceIte, not_false_eq_true, not_true_eq_false, and_self, and_true, true_and, false_and, and_false, or_true, true_or, or_false, false_or, or_self, reduceCtorEq, mm_q, Option.getD_some, cI_some, cJ_some, cV_some, cS_some, kd_sI, kd_sL, kd_sR, kd_cp, ln_sI, ln_sL, ln_sR, ln_cp, gR_sI, gR_sL, gR_sR, gR_cp, gL_sI, gL_sR, gL_cp, gI_sL, gI_sR, iI_add, iI_sub, iI_mul, iI_neg, iI_in, iI_tn, iI_lt, iI_eq, Nat.reduceLeDiff, Nat.reduceEqDiff, Nat.reduceAdd, Int.reduceEq, Int.reduceLT, Int.reduceLE, Int.reduceNeg, Int.reduceAdd, Int.reduceSub, Int.reduceMul]
        · unfold ty
          rw [if_neg (by omega), if_neg (by omega), if_pos s2]
          simp [gI_sI]
    · unfold isL at z1
      unfold isG at z2
      obtain ⟨v, ev, hv, v0, v1⟩ := C287 (d := d - 1) (m := mm_sI (mm_sI c1 101 5 (iI (tP T i))) 101 2 (iI (tP T i + 1))) (c := tx D (tP T i)) (by omega) (by omega) (by omega)
      have h5 : CX D n (mm_sI (mm_sI c1 101 5 (iI (tP T i))) 101 2 (iI (tP T i + 1))) := h3.v Fr.v2
      have red : mm_ev d 79 52 [some (.ref 101), none] [] c1 = mm_ev d 79 127 [some (.ref 101), some (.int (iI (tx D (tP T i))))] [] (mm_sI c1 101 5 (iI (tP T i))) := by
        have r108 : mm_ev d 79 108 [some (.ref 101), some (.int (iI (tx D (tP T i))))] [] (mm_sI c1 101 5 (iI (tP T i))) = mm_ev d 79 127 [some (.ref 101), some (.int (iI (tx D (tP T i))))] [] (mm_sI c1 101 5 (iI (tP T i))) := by
          rw [sg_79_108 (by omega)]
          by_cases y3 : tx D (tP T i) < 48
          · simp (disch := omega) only [shT h1.1, ↓reduceIte, not_false_eq_true, not_true_eq_false, and_self, and_true, true_and, false_and, and_false, or_true, true_or, or_false, false_or, or_self, reduceCtorEq, mm_q, Option.getD_some, cI_some, cJ_some, cV_some, cS_some, kd_sI, kd_sL, kd_sR, kd_cp, ln_sI, ln_sL, ln_sR, ln_cp, gR_sI, gR_sL, gR_sR, gR_cp, gL_sI, gL_sR, gL_cp, gI_sL, gI_sR, iI_add, iI_sub, iI_mul, iI_neg, iI_in, iI_tn, iI_lt, iI_eq, Nat.reduceLeDiff, Nat.reduceEqDiff, Nat.reduceAdd, Int.reduceEq, Int.reduceLT, Int.reduceLE, Int.reduceNeg, Int.reduceAdd, Int.reduceSub, Int.reduceMul, y3]
          · simp (disch := omega) only [shT h1.1, ↓reduceIte, not_false_eq_true, not_true_eq_false, and_self, and_true, true_and, false_and, and_false, or_true, true_or, or_false, false_or, or_self, reduceCtorEq, mm_q, Option.getD_some, cI_some, cJ_some, cV_some, cS_some, kd_sI, kd_sL, kd_sR, kd_cp, ln_sI, ln_sL, ln_sR, ln_cp, gR_sI, gR_sL, gR_sR, gR_cp, gL_sI, gL_sR, gL_cp, gI_sL, gI_sR, iI_add, iI_sub, iI_mul, iI_neg, iI_in, iI_tn, iI_lt, iI_eq, Nat.reduceLeDiff, Nat.reduceEqDiff, Nat.reduceAdd, Int.reduceEq, Int.reduceLT, Int.reduceLE, Int.reduceNeg, Int.reduceAdd, Int.reduceSub, Int.reduceMul, y3, show 57 < tx D (tP T i) by omega]
        rw [sg_79_52 (by omega)]
        by_cases y2 : tx D (tP T i) < 97
        · simp (disch := omega) only [shT h1.1, ↓reduceIte, not_false_eq_true, not_true_eq_false, and_self, and_true, true_and, false_and, and_false, or_true, true_or, or_false, false_or, or_self, reduceCtorEq, mm_q, Option.getD_some, cI_some, cJ_some, cV_some, cS_some, kd_sI, kd_sL, kd_sR, kd_cp, ln_sI, ln_sL, ln_sR, ln_cp, gR_sI, gR_sL, gR_sR, gR_cp, gL_sI, gL_sR, gL_cp, gI_sL, gI_sR, iI_add, iI_sub, iI_mul, iI_neg, iI_in, iI_tn, iI_lt, iI_eq, Nat.reduceLeDiff, Nat.reduceEqDiff, Nat.reduceAdd, Int.reduceEq, Int.reduceLT, Int.reduceLE, Int.reduceNeg, Int.reduceAdd, Int.reduceSub, Int.reduceMul, g1, h1.2.1, gI_sI, show tP T i < n by omega, h1.2.2.1 (tP T i) (by omega) (by omega), y2]
          exact r108
        · simp (disch := omega) only [shT h1.1, ↓reduceIte, not_false_eq_true, not_true_eq_false, and_self, and_true, true_and, false_and, and_false, or_true, true_or, or_false, false_or, or_self, reduceCtorEq, mm_q, Option.getD_some, cI_some, cJ_some, cV_some, cS_some, kd_sI, kd_sL, kd_sR, kd_cp, ln_sI, ln_sL, ln_sR, ln_cp, gR_sI, gR_sL, gR_sR, gR_cp, gL_sI, gL_sR, gL_cp, gI_sL, gI_sR, iI_add, iI_sub, iI_mul, iI_neg, iI_in, iI_tn, iI_lt, iI_eq, Nat.reduceLeDiff, Nat.reduceEqDiff, Nat.reduceAdd, Int.reduceEq, Int.reduceLT, Int.reduceLE, Int.reduceNeg, Int.reduceAdd, Int.reduceSub, Int.reduceMul, g1, h1.2.1, gI_sI, show tP T i < n by omega, h1.2.2.1 (tP T i) (by omega) (by omega), y2, show 122 < tx D (tP T i) by omega]
          exact r108
      rw [← sg_79_52 (by omega), red, sg_79_127 (by omega)]
      rcases hs with ⟨s1, s2, s3, s4⟩ | ⟨s1, s2⟩
      · refine ⟨mm_sI (mm_sI (mm_sI c1 101 5 (iI (tP T i))) 101 2 (iI (tP T i + 1))) 101 4 (iI (tx D (tP T i))), ?_, ((f1.tr Fr.v5).tr Fr.v2).tr Fr.v4, fun _ => by simp [gI_sI, he], ?_, by simp [gI_sI], by omega, by omega⟩
        · have v9 := hv.mpr s1
          simp (disch := omega) only [shT h1.1, ↓reduceIte, not_false_eq_true, not_true_eq_false, and_self, and_true, true_and, false_and, and_false, or_true, true_or, or_false, false_or, or_self, reduceCtorEq, mm_q, Option.getD_some, cI_some, cJ_some, cV_some, cS_some, kd_sI, kd_sL, kd_sR, kd_cp, ln_sI, ln_sL, ln_sR, ln_cp, gR_sI, gR_sL, gR_sR, gR_cp, gL_sI, gL_sR, gL_cp, gI_sL, gI_sR, iI_add, iI_sub, iI_mul, iI_neg, iI_in, iI_tn, iI_lt, iI_eq, Nat.reduceLeDiff, Nat.reduceEqDiff, Nat.reduceAdd, Int.reduceEq, Int.reduceLT, Int.reduceLE, Int.reduceNeg, Int.reduceAdd, Int.reduceSub, Int.reduceMul, g1, gI_sI, ev, show ¬ v < 0 by omega]
          rw [sg_79_153]
          simp (disch := omega) only [shT h1.1, ↓reduceIte, not_false_eq_true, not_true_eq_false, and_self, and_true, true_and, false_and, and_false, or_true, true_or, or_false, false_or, or_self, reduceCtorEq, mm_q, Option.getD_some, cI_some, cJ_some, cV_some, cS_some, kd_sI, kd_sL, kd_sR, kd_cp, ln_sI, ln_sL, ln_sR, ln_cp, gR_sI, gR_sL, gR_sR, gR_cp, gL_sI, gL_sR, gL_cp, gI_sL, gI_sR, iI_add, iI_sub, iI_mul, iI_neg, iI_in, iI_tn, iI_lt, iI_eq, Nat.reduceLeDiff, Nat.reduceEqDiff, Nat.reduceAdd, Int.reduceEq, Int.reduceLT, Int.reduceLE, Int.reduceNeg, Int.reduceAdd, Int.reduceSub, Int.reduceMul]
        · unfold ty
          rw [if_neg (by omega), if_neg (by omega), if_neg (by omega), if_pos s2, s3]
          simp [gI_sI]
      · refine ⟨mm_sI (mm_sI (mm_sI c1 101 5 (iI (tP T i))) 101 2 (iI (tP T i + 1))) 101 4 (iI 127), ?_, ((f1.tr Fr.v5).tr Fr.v2).tr Fr.v4, fun _ => by simp [gI_sI, he], ?_, by simp [gI_sI], by omega, by omega⟩
        · have v9 : v < 0 := by
            by_cases y4 : v < 0
            · exact y4
            · exact absurd (hv.mp (by omega)) s1
          simp (disch := omega) only [shT h1.1, ↓reduceIte, not_false_eq_true, not_true_eq_false, and_self, and_true, true_and, false_and, and_false, or_true, true_or, or_false, false_or, or_self, reduceCtorEq, mm_q, Option.getD_some, cI_some, cJ_some, cV_some, cS_some, kd_sI, kd_sL, kd_sR, kd_cp, ln_sI, ln_sL, ln_sR, ln_cp, gR_sI, gR_sL, gR_sR, gR_cp, gL_sI, gL_sR, gL_cp, gI_sL, gI_sR, iI_add, iI_sub, iI_mul, iI_neg, iI_in, iI_tn, iI_lt, iI_eq, Nat.reduceLeDiff, Nat.reduceEqDiff, Nat.reduceAdd, Int.reduceEq, Int.reduceLT, Int.reduceLE, Int.reduceNeg, Int.reduceAdd, Int.reduceSub, Int.reduceMul, g1, gI_sI, ev, v9]
          rw [sg_79_153]
          simp (disch := omega) only [shT h1.1, ↓reduceIte, not_false_eq_true, not_true_eq_false, and_self, and_true, true_and, false_and, and_false, or_true, true_or, or_false, false_or, or_self, reduceCtorEq, mm_q, Option.getD_some, cI_some, cJ_some, cV_some, cS_some, kd_sI, kd_sL, kd_sR, kd_cp, ln_sI, ln_sL, ln_sR, ln_cp, gR_sI, gR_sL, gR_sR, gR_cp, gL_sI, gL_sR, gL_cp, gI_sL, gI_sR, iI_add, iI_sub, iI_mul, iI_neg, iI_in, iI_tn, iI_lt, iI_eq, Nat.reduceLeDiff, Nat.reduceEqDiff, Nat.reduceAdd, Int.reduceEq, Int.reduceLT, Int.reduceLE, Int.reduceNeg, Int.reduceAdd, Int.reduceSub, Int.reduceMul]
        · unfold ty
          rw [if_neg (by omega), if_pos s2]
          simp [gI_sI]
/-- one token on -/
theorem C79n (hT : TS D n T N) (h : CX D n c) (hd : 8 ≤ d) (i0 : 0 ≤ i) (i1 : i < N) (hc : CT T N i c) : ∃ c', mm_ev d 79 0 [some (.ref 101), none] [] c = some (some none, c') ∧ Fr scVt c c' ∧ CT T N (i + 1) c' := C79 hT h hd (by omega) (by omega) (hc.1 i1)
/-- rewind -/
theorem C78 (hT : TS D n T N) (h : CX D n c) (hd : 9 ≤ d) : ∃ c', mm_ev d 78 0 [some (.ref 101)] [] c = some (some none, c') ∧ Fr scVt c c' ∧ CT T N 0 c' := by
  have n0 := hT.1.1
  obtain ⟨c', e, f, g⟩ := C79 (d := d - 1) (i := 0) hT (h.v (Fr.v2 (v := iI 0))) (by omega) (by omega) n0 (by rw [hT.2.1]; simp [gI_sI])
  refine ⟨c', ?_, Fr.v2.tr f, g⟩
  rw [sg_78_0 (by omega)]
  simp (disch := omega) only [shT h.1, ↓reduceIte, not_false_eq_true, not_true_eq_false, and_self, and_true, true_and, false_and, and_false, or_true, true_or, or_false, false_or, or_self, reduceCtorEq, mm_q, Option.getD_some, cI_some, cJ_some, cV_some, cS_some, kd_sI, kd_sL, kd_sR, kd_cp, ln_sI, ln_sL, ln_sR, ln_cp, gR_sI, gR_sL, gR_sR, gR_cp, gL_sI, gL_sR, gL_cp, gI_sL, gI_sR, iI_add, iI_sub, iI_mul, iI_neg, iI_in, iI_tn, iI_lt, iI_eq, Nat.reduceLeDiff, Nat.reduceEqDiff, Nat.reduceAdd, Int.reduceEq, Int.reduceLT, Int.reduceLE, Int.reduceNeg, Int.reduceAdd, Int.reduceSub, Int.reduceMul, e]
end
