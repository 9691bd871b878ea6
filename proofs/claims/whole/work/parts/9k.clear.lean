section
variable {D : Nat → Nat → Int32} {E : Nat → Nat → Int64} {m m' c c' c'' : mm_M} {d s L : Nat} {n N i f : Int} {T : TK} {X X' X'' : Nat → Nat → Int32} {Y : Nat → Int64} {v1 v2 v3 v4 v5 : Int}
theorem C24 (hs : Sh c) (hL : isLw L) : mm_ev d 24 0 [some (.ref L)] [] c = some (some none, mm_sI (mm_sI c L 4 (iI 0)) L 5 (iI 0)) := by
  rw [sg_24_0]
  have k : mm_kd c L = 3 := (lwF hs hL).1
  simp (disch := omega) only [k, ↓reduceIte, not_false_eq_true, not_true_eq_false, and_self, and_true, true_and, false_and, and_false, or_true, true_or, or_false, false_or, or_self, reduceCtorEq, mm_q, Option.getD_some, cI_some, cJ_some, cV_some, cS_some, kd_sI, kd_sL, kd_sR, kd_cp, ln_sI, ln_sL, ln_sR, ln_cp, gR_sI, gR_sL, gR_sR, gR_cp, gL_sI, gL_sR, gL_cp, gI_sL, gI_sR, iI_add, iI_sub, iI_mul, iI_neg, iI_in, iI_tn, iI_lt, iI_eq, Nat.reduceLeDiff, Nat.reduceEqDiff, Nat.reduceAdd, Int.reduceEq, Int.reduceLT, Int.reduceLE, Int.reduceNeg, Int.reduceAdd, Int.reduceSub, Int.reduceMul]
theorem C25x (hs : Sh c) (hL : isLw L) {q : Int} {v : Int32} (h4 : mm_gI c L 4 = iI q) (q0 : 0 ≤ q) (q1 : q < 1000) : mm_ev d 25 0 [some (.ref L), some (.int v)] [] c = some (some none, mm_sI (mm_sI c (L + 1) q.toNat v) L 4 (iI (q + 1))) := by
  have lf := lwF hs hL
  have hL' : L = 111 ∨ L = 114 ∨ L = 132 ∨ L = 135 := hL
  rw [sg_25_0]
  have e1 : (Int32.ofNat 1000) = iI 1000 := rfl
  simp (disch := omega) only [lf, ↓reduceIte, not_false_eq_true, not_true_eq_false, and_self, and_true, true_and, false_and, and_false, or_true, true_or, or_false, false_or, or_self, reduceCtorEq, mm_q, Option.getD_some, cI_some, cJ_some, cV_some, cS_some, kd_sI, kd_sL, kd_sR, kd_cp, ln_sI, ln_sL, ln_sR, ln_cp, gR_sI, gR_sL, gR_sR, gR_cp, gL_sI, gL_sR, gL_cp, gI_sL, gI_sR, iI_add, iI_sub, iI_mul, iI_neg, iI_in, iI_tn, iI_lt, iI_eq, Nat.reduceLeDiff, Nat.reduceEqDiff, Nat.reduceAdd, Int.reduceEq, Int.reduceLT, Int.reduceLE, Int.reduceNeg, Int.reduceAdd, Int.reduceSub, Int.reduceMul, h4, e1, q1, gI_sI, show ¬ (L = L + 1 ∧ 4 = q.toNat) by omega, show 99 ≤ L by omega]
theorem fs1 {k : Nat} {v : Int32} {F : mm_M → Option mm_R} (h : mm_kd c s = 7) : (if mm_kd c s = 7 then mm_cS (mm_sI c s k v) F else none) = F (mm_sI c s k v) := by rw [if_pos h]; rfl
theorem fs2 {k : Nat} {F : mm_M → Option mm_R} (h : mm_kd c s = 7) : (if mm_kd c s = 7 ∧ (iI 0 = iI 0 ∨ iI 0 = iI 1) then mm_cS (mm_sI c s k (iI 0)) F else none) = F (mm_sI c s k (iI 0)) := by rw [if_pos ⟨h, Or.inl rfl⟩]; rfl
/-- Street.clear -/
theorem C65 (hs : Sh c) (hst : isSt s) (hd : 2 ≤ d) : ∃ c', mm_ev d 65 0 [some (.ref s)] [] c = some (some none, c') ∧ Fr (scQs s) c c' ∧ DC alX Y c' s := by
  have hst' : s = 104 ∨ s = 125 := hst
  have k7 : mm_kd c s = 7 := (stF hs hst).1
  rw [sg_65_0 (by omega)]
  have fr10 : ∀ {x : mm_M} {k : Nat} {v : Int32}, Fr (scQs s) x (mm_sI x s k v) := fun {x k v} => Fr.sI (scQ_t (by omega) (by omega) (by omega))
  generalize h10 : mm_sI (mm_sI (mm_sI (mm_sI (mm_sI (mm_sI (mm_sI (mm_sI (mm_sI (mm_sI c s 0 (iI 4)) s 1 (iI 1)) s 2 (iI 0)) s 3 (iI 3)) s 4 (iI 1)) s 5 (iI 20)) s 6 (iI 0)) s 7 (iI 0)) s 10 (iI 0)) s 12 (iI 0) = c10
  have g10 : Fr (scQs s) c c10 := by
    rw [← h10]
    exact ((((((((fr10.tr fr10).tr fr10).tr fr10).tr fr10).tr fr10).tr fr10).tr fr10).tr fr10).tr fr10
  have s10 : Sh c10 := g10.sh hs
  have v10 : mm_gI c10 s 0 = iI 4 ∧ mm_gI c10 s 1 = iI 1 ∧ mm_gI c10 s 2 = iI 0 ∧ mm_gI c10 s 3 = iI 3 ∧ mm_gI c10 s 4 = iI 1 ∧ mm_gI c10 s 5 = iI 20 ∧ mm_gI c10 s 6 = iI 0 ∧ mm_gI c10 s 7 = iI 0 ∧ mm_gI c10 s 10 = iI 0 ∧ mm_gI c10 s 12 = iI 0 := by
    rw [← h10]
    simp [gI_sI]
  have sf := stF s10 hst
  have q16 : mm_q c10 s 16 = s + 7 := by unfold mm_q; rw [sf.2.2.2.2.2.2.2.2.2.2.2.2.2.2.2.2.2.2.2.2.2.1]; rfl
  -- the two laws
  have a1 := C24 (d := d - 1) s10 (lwQ hst)
  have a2 := C25x (d := d - 1) (c := mm_sI (mm_sI c10 (s + 7) 4 (iI 0)) (s + 7) 5 (iI 0)) (L := s + 7) (q := 0) (v := iI (-2)) s10 (lwQ hst) (by rw [gI_sI, if_neg (by omega), gI_sI, if_pos ⟨rfl, rfl⟩]) (by omega) (by omega)
  generalize h12 : mm_sI (mm_sI (mm_sI (mm_sI c10 (s + 7) 4 (iI 0)) (s + 7) 5 (iI 0)) (s + 7 + 1) (0 : Int).toNat (iI (-2))) (s + 7) 4 (iI (0 + 1)) = c12 at a2
  have s12 : Sh c12 := by rw [← h12]; exact s10
  have a3 := C24 (d := d - 1) s12 (lwO hst)
  have a4 := C25x (d := d - 1) (c := mm_sI (mm_sI c12 (s + 10) 4 (iI 0)) (s + 10) 5 (iI 0)) (L := s + 10) (q := 0) (v := iI (-3)) s12 (lwO hst) (by rw [gI_sI, if_neg (by omega), gI_sI, if_pos ⟨rfl, rfl⟩]) (by omega) (by omega)
  generalize h14 : mm_sI (mm_sI (mm_sI (mm_sI c12 (s + 10) 4 (iI 0)) (s + 10) 5 (iI 0)) (s + 10 + 1) (0 : Int).toNat (iI (-3))) (s + 10) 4 (iI (0 + 1)) = c14 at a4
  have s14 : Sh c14 := by rw [← h14]; exact s12
  have a5 := C25x (d := d - 1) (c := c14) (L := s + 10) (q := 1) (v := iI 1) s14 (lwO hst) (by rw [← h14, gI_sI, if_pos ⟨rfl, rfl⟩]; rfl) (by omega) (by omega)
  generalize h15 : mm_sI (mm_sI c14 (s + 10 + 1) (1 : Int).toNat (iI 1)) (s + 10) 4 (iI (1 + 1)) = c15 at a5
  have s15 : Sh c15 := by rw [← h15]; exact s14
  have a6 := C25x (d := d - 1) (c := c15) (L := s + 10) (q := 2) (v := iI (-10)) s15 (lwO hst) (by rw [← h15, gI_sI, if_pos ⟨rfl, rfl⟩]; rfl) (by omega) (by omega)
  refine ⟨mm_sI (mm_sI c15 (s + 10 + 1) (2 : Int).toNat (iI (-10))) (s + 10) 4 (iI (2 + 1)), ?_, ?_, ?_⟩
  · refine (fs1 k7).trans ?_
    refine (fs1 (by exact k7)).trans ?_
    refine (fs1 (by exact k7)).trans ?_
    refine (fs1 (by exact k7)).trans ?_
    refine (fs1 (by exact k7)).trans ?_
    refine (fs1 (by exact k7)).trans ?_
    refine (fs2 (by exact k7)).trans ?_
    refine (fs1 (by exact k7)).trans ?_
    refine (fs1 (by exact k7)).trans ?_
    refine (fs1 (by exact k7)).trans ?_
    rw [h10]
    have sfx := stF (s := s) (m := mm_sI (mm_sI c10 (s + 7) 4 (iI 0)) (s + 7) 5 (iI 0)) s10 hst
    simp (disch := omega) only [sf, sfx, ↓reduceIte, not_false_eq_true, not_true_eq_false, and_self, and_true, true_and, false_and, and_false, or_true, true_or, or_false, false_or, or_self, reduceCtorEq, mm_q, Option.getD_some, cI_some, cJ_some, cV_some, cS_some, kd_sI, kd_sL, kd_sR, kd_cp, ln_sI, ln_sL, ln_sR, ln_cp, gR_sI, gR_sL, gR_sR, gR_cp, gL_sI, gL_sR, gL_cp, gI_sL, gI_sR, iI_add, iI_sub, iI_mul, iI_neg, iI_in, iI_tn, iI_lt, iI_eq, Nat.reduceLeDiff, Nat.reduceEqDiff, Nat.reduceAdd, Int.reduceEq, Int.reduceLT, Int.reduceLE, Int.reduceNeg, Int.reduceAdd, Int.reduceSub, Int.reduceMul, a1, a2]
    rw [sg_65_67 (by omega)]
    have sf12 := stF s12 hst
    have sfy := stF (s := s) (m := mm_sI (mm_sI c12 (s + 10) 4 (iI 0)) (s + 10) 5 (iI 0)) s12 hst
    simp (disch := omega) only [sf12, sfy, ↓reduceIte, not_false_eq_true, not_true_eq_false, and_self, and_true, true_and, false_and, and_false, or_true, true_or, or_false, false_or, or_self, reduceCtorEq, mm_q, Option.getD_some, cI_some, cJ_some, cV_some, cS_some, kd_sI, kd_sL, kd_sR, kd_cp, ln_sI, ln_sL, ln_sR, ln_cp, gR_sI, gR_sL, gR_sR, gR_cp, gL_sI, gL_sR, gL_cp, gI_sL, gI_sR, iI_add, iI_sub, iI_mul, iI_neg, iI_in, iI_tn, iI_lt, iI_eq, Nat.reduceLeDiff, Nat.reduceEqDiff, Nat.reduceAdd, Int.reduceEq, Int.reduceLT, Int.reduceLE, Int.reduceNeg, Int.reduceAdd, Int.reduceSub, Int.reduceMul, a3, a4]
    rw [sg_65_83 (by omega)]
    have sf14 := stF s14 hst
    have sf15 := stF s15 hst
    simp (disch := omega) only [sf14, sf15, ↓reduceIte, not_false_eq_true, not_true_eq_false, and_self, and_true, true_and, false_and, and_false, or_true, true_or, or_false, false_or, or_self, reduceCtorEq, mm_q, Option.getD_some, cI_some, cJ_some, cV_some, cS_some, kd_sI, kd_sL, kd_sR, kd_cp, ln_sI, ln_sL, ln_sR, ln_cp, gR_sI, gR_sL, gR_sR, gR_cp, gL_sI, gL_sR, gL_cp, gI_sL, gI_sR, iI_add, iI_sub, iI_mul, iI_neg, iI_in, iI_tn, iI_lt, iI_eq, Nat.reduceLeDiff, Nat.reduceEqDiff, Nat.reduceAdd, Int.reduceEq, Int.reduceLT, Int.reduceLE, Int.reduceNeg, Int.reduceAdd, Int.reduceSub, Int.reduceMul, a5, a6]
  · have fr : ∀ {x : mm_M} {a k : Nat} {v : Int32}, s ≤ a → a ≤ s + 20 → ¬ ((a = s + 7 ∨ a = s + 10) ∧ k ≤ 1) → Fr (scQs s) x (mm_sI x a k v) := fun {x a k v} h0 h1 h2 => Fr.sI (scQ_t h0 h1 h2)
    have f12 : Fr (scQs s) c10 c12 := by
      rw [← h12]
      exact (((fr (by omega) (by omega) (by omega)).tr (fr (by omega) (by omega) (by omega))).tr (fr (by omega) (by omega) (by omega))).tr (fr (by omega) (by omega) (by omega))
    have f14 : Fr (scQs s) c12 c14 := by
      rw [← h14]
      exact (((fr (by omega) (by omega) (by omega)).tr (fr (by omega) (by omega) (by omega))).tr (fr (by omega) (by omega) (by omega))).tr (fr (by omega) (by omega) (by omega))
    have f15 : Fr (scQs s) c14 c15 := by
      rw [← h15]
      exact (fr (by omega) (by omega) (by omega)).tr (fr (by omega) (by omega) (by omega))
    exact ((((g10.tr f12).tr f14).tr f15).tr (fr (by omega) (by omega) (by omega))).tr (fr (by omega) (by omega) (by omega))
  · have gS : ∀ k, mm_gI (mm_sI (mm_sI c15 (s + 10 + 1) (2 : Int).toNat (iI (-10))) (s + 10) 4 (iI (2 + 1))) s k = mm_gI c10 s k := fun k => by
      rw [← h15, ← h14, ← h12]
      rw [gI_sI, if_neg (by omega), gI_sI, if_neg (by omega), gI_sI, if_neg (by omega), gI_sI, if_neg (by omega), gI_sI, if_neg (by omega), gI_sI, if_neg (by omega), gI_sI, if_neg (by omega), gI_sI, if_neg (by omega), gI_sI, if_neg (by omega), gI_sI, if_neg (by omega), gI_sI, if_neg (by omega), gI_sI, if_neg (by omega)]
    have gL7 : ∀ a k, (a = s + 7 ∨ a = s + 8) → mm_gI (mm_sI (mm_sI c15 (s + 10 + 1) (2 : Int).toNat (iI (-10))) (s + 10) 4 (iI (2 + 1))) a k = mm_gI c12 a k := fun a k h => by
      rw [← h15, ← h14]
      rw [gI_sI, if_neg (by omega), gI_sI, if_neg (by omega), gI_sI, if_neg (by omega), gI_sI, if_neg (by omega), gI_sI, if_neg (by omega), gI_sI, if_neg (by omega), gI_sI, if_neg (by omega), gI_sI, if_neg (by omega)]
    have st9 : st alX 9 = -1 := by decide
    have st10 : st alX 10 = -1 := by decide
    have st5 : st alX 5 = 0 := by decide
    have st6 : st alX 6 = 0 := by decide
    have st7 : st alX 7 = 0 := by decide
    obtain ⟨w0, w1, w2, w3, w4, w5, w6, w7, w8, w9⟩ := v10
    refine ⟨⟨⟨?_, ?_, ?_, ?_, ?_, ?_, ?_, ?_, ?_⟩, fun x y0 y1 => by omega, fun x y0 y1 => by omega, fun x y0 y1 => by omega, ?_, ?_⟩, ?_, ?_, ?_, ?_⟩
    · rw [gS, w0]; decide
    · rw [gS, w1]; decide
    · rw [gS, w2]; decide
    · rw [gS, w3]; decide
    · rw [gS, w4]; decide
    · rw [gS, w5]; decide
    · rw [gS, w7]; decide
    · rw [gS, w8]; decide
    · rw [gS, w9]; decide
    · refine Or.inl ⟨by omega, rfl, ?_, ?_⟩
      · rw [gL7 _ _ (Or.inl rfl), ← h12, gI_sI, if_pos ⟨rfl, rfl⟩]; rfl
      · rw [gL7 _ _ (Or.inr (by omega)), ← h12, gI_sI, if_neg (by omega), gI_sI, if_pos ⟨rfl, rfl⟩]
    · refine Or.inr (Or.inl ⟨by omega, rfl, ?_, ?_, ?_, ?_⟩)
      · rw [gI_sI, if_pos ⟨rfl, rfl⟩]; rfl
      · rw [gI_sI, if_neg (by omega), gI_sI, if_neg (by omega), ← h15, gI_sI, if_neg (by omega), gI_sI, if_neg (by omega), ← h14, gI_sI, if_neg (by omega), gI_sI, if_pos ⟨rfl, rfl⟩]
      · rw [gI_sI, if_neg (by omega), gI_sI, if_neg (by omega), ← h15, gI_sI, if_neg (by omega), gI_sI, if_pos ⟨rfl, rfl⟩]
      · rw [gI_sI, if_neg (by omega), gI_sI, if_pos ⟨rfl, rfl⟩]
    · rw [gS, w6]; decide
    · rw [gL7 _ _ (Or.inl rfl), ← h12, gI_sI, if_neg (by omega), gI_sI, if_neg (by omega), gI_sI, if_pos ⟨rfl, rfl⟩, st9]; decide
    · rw [gI_sI, if_neg (by omega), gI_sI, if_neg (by omega), ← h15, gI_sI, if_neg (by omega), gI_sI, if_neg (by omega), ← h14, gI_sI, if_neg (by omega), gI_sI, if_neg (by omega), gI_sI, if_pos ⟨rfl, rfl⟩, st10]; decide
    · have : rmX alX = 0 := by decide
      rw [this, st5, st6]
      exact ⟨rfl, ⟨by omega, by omega⟩, ⟨by omega, by omega⟩, fun k hk => by omega, fun k j hk => by omega, fun w w0 w1 => by omega, fun w w0 w1 => by omega⟩
end
