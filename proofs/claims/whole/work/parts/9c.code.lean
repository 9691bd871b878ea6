/-- a piece of code is fine: it lays one more on the pile -/
def LK (X : Nat → Nat → Int32) (lo a b : Int) (h : Nat) : Prop := ∀ X2 : Nat → Nat → Int32, (∀ k, a ≤ k → k < b → opS X2 k = opS X k ∧ arS X2 k = arS X k) → ∀ r, lawOk X2 lo r b (h + 1) → lawOk X2 lo (r + (b - a).toNat) a h
/-- a step of code more -/
def emX (X : Nat → Nat → Int32) (o a : Int) : Nat → Nat → Int32 := up (up (up X 323 (cdX X).toNat (iI o)) 324 (cdX X).toNat (iI a)) 316 13 (iI (cdX X + 1))
def EM (D : Nat → Nat → Int32) (E : Nat → Nat → Int64) (T : TK) (N : Int) (Y : Nat → Int64) (fh : Int) (X : Nat → Nat → Int32) (i : Int) (m : mm_M) : Prop := PF D E T N i 0 m ∧ DM X Y m ∧ mm_gI m 316 21 = iI fh
def EC (D : Nat → Nat → Int32) (n : Int) (T : TK) (N : Int) (s L : Nat) (lo start : Int) (X : Nat → Nat → Int32) (i : Int) (c : mm_M) : Prop := CR D n T N i s c ∧ isLw L ∧ (0 ≤ start ∧ start ≤ cdX X) ∧ mm_gI c L 4 = iI (cdX X - start) ∧ (∀ k, start ≤ k → k < cdX X → ¬ opS X k = 0 ∧ mm_gI c (L + 1) (k - start).toNat = iI (encS X lo k)) ∧ mm_gL c L 0 = kcL (30 + lo) ∧ mm_gL c L 1 = kcL (31 + lo)
def scLw (L a k : Nat) : Bool := scBr a k || (Nat.beq a L && Nat.beq k 4) || Nat.beq a (L + 1)
def scw2 (L a _k : Nat) : Bool := Nat.beq a L || Nat.beq a (L + 1)
def XE (X X' : Nat → Nat → Int32) (i i' lo : Int) (h : Nat) : Prop := (∀ a k : Nat, ¬ ((a = 323 ∨ a = 324) ∧ cdX X ≤ (k : Int)) → ¬ (a = 316 ∧ k = 13) → X' a k = X a k) ∧ cdX X < cdX X' ∧ cdX X' - cdX X ≤ i' - i ∧ LK X' lo (cdX X) (cdX X') h
/-- a piece of a law, read by both -/
def EX (D : Nat → Nat → Int32) (E : Nat → Nat → Int64) (n : Int) (T : TK) (N : Int) (Y : Nat → Int64) (fh lo start : Int) (s L : Nat) (jm : Nat) (Lm : mm_L) (jc : Nat) (Lc : mm_L) (p : Nat) (X : Nat → Nat → Int32) (i : Int) (h : Nat) : Prop := ∃ (i' f' : Int) (X' : Nat → Nat → Int32), (i ≤ i' ∧ i' ≤ N) ∧ (∀ (m : mm_M) (d : Nat), p ≤ d → EM D E T N Y fh X i m → ∃ m', mm_ev d jm 0 Lm [] m = some (some none, m') ∧ PF D E T N i' f' m' ∧ (f' = 0 → EM D E T N Y fh X' i' m') ∧ Fr scM m m' ∧ ∃ k, mm_gI m' 316 13 = iI k ∧ cdX X ≤ k ∧ k - cdX X ≤ i' - i) ∧ (∀ (c : mm_M) (d : Nat), p ≤ d → EC D n T N s L lo start X i c → ∃ c', mm_ev d jc 0 Lc [] c = some (some (some (.int (iI (bI (decide (f' = 0)))))), c') ∧ Fr (scLw L) c c' ∧ (f' = 0 → EC D n T N s L lo start X' i' c') ∧ (¬ f' = 0 → mm_gI c' 154 3 = iI f')) ∧ (f' = 0 → XE X X' i i' lo h) ∧ 0 ≤ f'
def lvS (t : Int) : Int := if t = 28 then 0 else if t = 29 then 0 else if t = 42 then 3 else if t = 43 then 2 else if t = 45 then 2 else if t = 60 then 1 else if t = 61 then 1 else -1
def acS (t : Int) : Int := if t = 28 then -5 else if t = 29 then -6 else if t = 43 then -9 else if t = 45 then -10 else if t = 60 then -7 else if t = 61 then -8 else -11
def coS (t : Int) : Int := if t = 28 then 9 else if t = 29 then 10 else if t = 43 then 4 else if t = 45 then 5 else if t = 60 then 7 else if t = 61 then 8 else 6
section
variable {D : Nat → Nat → Int32} {E : Nat → Nat → Int64} {m m' c c' c'' : mm_M} {d s L : Nat} {n N i f : Int} {T : TK} {X X' X'' : Nat → Nat → Int32} {Y : Nat → Int64} {lo start fh a b : Int} {h : Nat}
theorem LK.cg (l : LK X lo a b h) (e : ∀ k, a ≤ k → k < b → opS X' k = opS X k ∧ arS X' k = arS X k) : LK X' lo a b h := fun X2 e2 r q => l X2 (fun k k0 k1 => ⟨(e2 k k0 k1).1.trans (e k k0 k1).1, (e2 k k0 k1).2.trans (e k k0 k1).2⟩) r q
theorem LK.push (a0 : 0 ≤ a) (a1 : a < 1100) (h1 : h < 32) (o : (opS X a = 1 ∧ 0 ≤ arS X a) ∨ (opS X a = 2 ∧ (arS X a = lo ∨ arS X a = lo + 1))) : LK X lo a (a + 1) h := fun X2 e r q => by
  obtain ⟨e1, e2⟩ := e a (by omega) (by omega)
  rw [show r + (a + 1 - a).toNat = r + 1 by omega]
  unfold lawOk
  refine ⟨⟨a0, a1⟩, ?_⟩
  rw [e1, e2]
  rcases o with ⟨o1, o2⟩ | ⟨o1, o2⟩
  · exact Or.inr (Or.inl ⟨o1, o2, h1, q⟩)
  · exact Or.inr (Or.inr (Or.inl ⟨o1, o2, h1, q⟩))
theorem LK.not (l : LK X lo a b h) (ab : a ≤ b) (a0 : 0 ≤ a) (b1 : b < 1100) (o : opS X b = 3) : LK X lo a (b + 1) h := fun X2 e r q => by
  have := l X2 (fun k k0 k1 => e k k0 (by omega)) (r + 1) (by
    unfold lawOk
    refine ⟨⟨by omega, b1⟩, ?_⟩
    rw [(e b (by omega) (by omega)).1]
    exact Or.inr (Or.inr (Or.inr (Or.inl ⟨o, by omega, q⟩))))
  rw [show r + (b + 1 - a).toNat = r + 1 + (b - a).toNat by omega]
  exact this
theorem LK.bin {k : Int} (l : LK X lo a b h) (l2 : LK X lo b k (h + 1)) (ab : a ≤ b) (bk : b ≤ k) (a0 : 0 ≤ a) (k1 : k < 1100) (o0 : 4 ≤ opS X k) (o1 : opS X k ≤ 10) : LK X lo a (k + 1) h := fun X2 e r q => by
  have q2 := l2 X2 (fun j j0 j1 => e j (by omega) (by omega)) (r + 1) (by
    unfold lawOk
    refine ⟨⟨by omega, k1⟩, ?_⟩
    rw [(e k (by omega) (by omega)).1]
    exact Or.inr (Or.inr (Or.inr (Or.inr ⟨o0, o1, by omega, by rw [show h + 1 + 1 - 1 = h + 1 by omega]; exact q⟩))))
  have q3 := l X2 (fun j j0 j1 => e j j0 (by omega)) _ q2
  rw [show r + (k + 1 - a).toNat = r + 1 + (k - b).toNat + (b - a).toNat by omega]
  exact q3
/-- what a step more changes -/
theorem emX_c {o y : Int} (c1 : cdX X < 2000) (c0 : 0 ≤ cdX X) : cdX (emX X o y) = cdX X + 1 := by
  show (emX X o y 316 13).toInt = _
  unfold emX up
  rw [if_pos ⟨rfl, rfl⟩, iI_val (by omega) (by omega)]
theorem emX_o {o y : Int} {x k : Nat} (h1 : ¬ ((x = 323 ∨ x = 324) ∧ k = (cdX X).toNat)) (h2 : ¬ (x = 316 ∧ k = 13)) : emX X o y x k = X x k := by
  unfold emX up
  rw [if_neg h2, if_neg (by omega), if_neg (by omega)]
theorem emX_op {o y : Int} (c0 : 0 ≤ cdX X) (o0 : -100 ≤ o) (o1 : o < 10000) (y0 : -100 ≤ y) (y1 : y < 10000) : opS (emX X o y) (cdX X) = o ∧ arS (emX X o y) (cdX X) = y := by
  unfold opS arS emX up
  rw [if_neg (by omega), if_neg (by omega), if_pos ⟨rfl, rfl⟩, if_neg (by omega), if_pos ⟨rfl, rfl⟩, iI_val (by omega) (by omega), iI_val (by omega) (by omega)]
  exact ⟨rfl, rfl⟩
theorem emX_lo {o y k : Int} (k0 : 0 ≤ k) (k1 : k < cdX X) : opS (emX X o y) k = opS X k ∧ arS (emX X o y) k = arS X k := by
  unfold opS arS
  rw [emX_o (by omega) (by omega), emX_o (by omega) (by omega)]
  exact ⟨rfl, rfl⟩
/-- emit, whatever the fault -/
theorem M196f (hP : PF D E T N i f m) {k o y : Int} (hk : mm_gI m 316 13 = iI k) (k0 : 0 ≤ k) (k1 : k < 1100) : ∃ m', mm_ev d 196 0 [some (.ref 316), some (.int (iI (o))), some (.int (iI (y)))] [] m = some (some none, m') ∧ PF D E T N i f m' ∧ Fr scM m m' ∧ mm_gI m' 316 13 = iI (k + 1) ∧ m' = mm_sI (mm_sI (mm_sI m 323 (1100 + k).toNat (iI o)) 324 (1100 + k).toNat (iI y)) 316 13 (iI (k + 1)) := by
  refine ⟨mm_sI (mm_sI (mm_sI m 323 (1100 + k).toNat (iI o)) 324 (1100 + k).toNat (iI y)) 316 13 (iI (k + 1)), ?_, ?_, ?_, ?_, rfl⟩
  · rw [sg_196_0]
    simp (disch := omega) only [shM hP.1.1, ↓reduceIte, not_false_eq_true, not_true_eq_false, and_self, and_true, true_and, false_and, and_false, or_true, true_or, or_false, false_or, or_self, reduceCtorEq, mm_q, Option.getD_some, cI_some, cJ_some, cV_some, cS_some, kd_sI, kd_sL, kd_sR, kd_cp, ln_sI, ln_sL, ln_sR, ln_cp, gR_sI, gR_sL, gR_sR, gR_cp, gL_sI, gL_sR, gL_cp, gI_sL, gI_sR, iI_add, iI_sub, iI_mul, iI_neg, iI_in, iI_tn, iI_lt, iI_eq, Nat.reduceLeDiff, Nat.reduceEqDiff, Nat.reduceAdd, Int.reduceEq, Int.reduceLT, Int.reduceLE, Int.reduceNeg, Int.reduceAdd, Int.reduceSub, Int.reduceMul, gI_sI, hk]
  · refine ⟨hP.1.fr (((Fr.sI (scM_t (by omega))).tr (Fr.sI (scM_t (by omega)))).tr (Fr.sI (scM_t (by omega)))), fun k k0 k1 => ?_, ?_, ?_, hP.2.2.2.2⟩
    · exact hP.2.1 k k0 k1
    · exact hP.2.2.1
    · exact hP.2.2.2.1
  · exact ((Fr.sI (scM_t (by omega))).tr (Fr.sI (scM_t (by omega)))).tr (Fr.sI (scM_t (by omega)))
  · rw [gI_sI, if_pos ⟨rfl, rfl⟩]
/-- emit -/
theorem M196 (hM : EM D E T N Y fh X i m) (c0 : 0 ≤ cdX X) (c1 : cdX X < 1100) {o y : Int} : ∃ m', mm_ev d 196 0 [some (.ref 316), some (.int (iI (o))), some (.int (iI (y)))] [] m = some (some none, m') ∧ EM D E T N Y fh (emX X o y) i m' ∧ Fr scM m m' := by
  have hk : mm_gI m 316 13 = iI (cdX X) := by rw [hM.2.1.2.1.1]; unfold cdX; rw [iI_toInt]
  obtain ⟨m', e, h1, g, q, hm⟩ := M196f (d := d) (o := o) (y := y) hM.1 hk c0 c1
  refine ⟨m', e, ⟨h1, ⟨fun k hk => ?_, ⟨?_, ?_, ?_⟩, fun k hk => ?_, fun k hk => ?_⟩, ?_⟩, g⟩
  · rw [emX_o (by omega) (by omega), hm, gI_sI, if_neg (by omega), gI_sI, if_neg (by omega), gI_sI, if_neg (by omega)]
    exact hM.2.1.1 k hk
  · rw [q]; unfold emX up; rw [if_pos ⟨rfl, rfl⟩]
  · rw [emX_o (by omega) (by omega), hm, gI_sI, if_neg (by omega), gI_sI, if_neg (by omega), gI_sI, if_neg (by omega)]
    exact hM.2.1.2.1.2.1
  · rw [emX_o (by omega) (by omega), hm, gI_sI, if_neg (by omega), gI_sI, if_neg (by omega), gI_sI, if_neg (by omega)]
    exact hM.2.1.2.1.2.2
  · rw [emX_c (by omega) c0] at hk
    by_cases z : k = (cdX X).toNat
    · subst z
      rw [hm, gI_sI, if_neg (by omega), gI_sI, if_neg (by omega), gI_sI, if_pos ⟨rfl, by omega⟩, gI_sI, if_neg (by omega), gI_sI, if_pos ⟨rfl, by omega⟩]
      unfold emX up
      rw [if_neg (by omega), if_neg (by omega), if_pos ⟨rfl, rfl⟩, if_neg (by omega), if_pos ⟨rfl, rfl⟩]
      exact ⟨rfl, rfl⟩
    · rw [emX_o (by omega) (by omega), emX_o (by omega) (by omega), hm, gI_sI, if_neg (by omega), gI_sI, if_neg (by omega), gI_sI, if_neg (by omega), gI_sI, if_neg (by omega), gI_sI, if_neg (by omega), gI_sI, if_neg (by omega)]
      exact hM.2.1.2.2.1 k (by omega)
  · have er : rmX (emX X o y) = rmX X := by unfold rmX; rw [emX_o (by omega) (by omega)]
    rw [er] at hk
    rw [emX_o (by omega) (by omega), hm, gL_sI, gL_sI, gL_sI, gI_sI, if_neg (by omega), gI_sI, if_neg (by omega), gI_sI, if_neg (by omega)]
    exact hM.2.1.2.2.2 k hk
  · rw [hm, gI_sI, if_neg (by omega), gI_sI, if_neg (by omega), gI_sI, if_neg (by omega)]
    exact hM.2.2
theorem Fr.BLw (g : Fr scBr c c') : Fr (scLw L) c c' := g.mono (fun x k z => by
  unfold scLw at z
  simp only [Bool.or_eq_false_iff] at z
  exact z.1.1)
theorem lwB (hL : isLw L) {x k : Nat} (h : x = L ∨ x = L + 1) : scBr x k = false := by
  rcases hL with rfl | rfl | rfl | rfl <;> rcases h with rfl | rfl <;> rfl
theorem EC.br (h : EC D n T N s L lo start X i c) {j : Int} (g : Fr scBr c c') (t : CR D n T N j s c') : EC D n T N s L lo start X j c' := by
  obtain ⟨-, hL, h0, h4, hk, n0, n1⟩ := h
  exact ⟨t, hL, h0, (g.gI (lwB hL (Or.inl rfl))).trans h4, fun k k0 k1 => ⟨(hk k k0 k1).1, (g.gI (lwB hL (Or.inr rfl))).trans (hk k k0 k1).2⟩, (g.gL (lwB hL (Or.inl rfl))).trans n0, (g.gL (lwB hL (Or.inl rfl))).trans n1⟩
/-- law.add -/
theorem C25 (hC : EC D n T N s L lo start X i c) (hci : cdX X < i) (hN : TS D n T N) {o y v : Int} (hv : encS (emX X o y) lo (cdX X) = v) (v0 : -100 ≤ v) (v1 : v < 10000) (ho : ¬ o = 0) (o0 : -100 ≤ o) (o1 : o < 10000) (y0 : -100 ≤ y) (y1 : y < 10000) : ∃ c', mm_ev d 25 0 [some (.ref L), some (.int (iI (v)))] [] c = some (some none, c') ∧ EC D n T N s L lo start (emX X o y) i c' ∧ Fr (scLw L) c c' := by
  obtain ⟨t, hL, ⟨h0, h0'⟩, h4, hk, n0, n1⟩ := hC
  have hi := t.2.2.1
  have hn := hN.1
  have lf := lwF t.1.1 hL
  have l100 := lf.2.2.2.2.2.2.2
  have hL' : L = 111 ∨ L = 114 ∨ L = 132 ∨ L = 135 := hL
  refine ⟨mm_sI (mm_sI c (L + 1) (cdX X - start).toNat (iI v)) L 4 (iI (cdX X - start + 1)), ?_, ?_, ?_⟩
  · rw [sg_25_0]
    have e1 : (Int32.ofNat 1000) = iI 1000 := rfl
    simp (disch := omega) only [lf, ↓reduceIte, not_false_eq_true, not_true_eq_false, and_self, and_true, true_and, false_and, and_false, or_true, true_or, or_false, false_or, or_self, reduceCtorEq, mm_q, Option.getD_some, cI_some, cJ_some, cV_some, cS_some, kd_sI, kd_sL, kd_sR, kd_cp, ln_sI, ln_sL, ln_sR, ln_cp, gR_sI, gR_sL, gR_sR, gR_cp, gL_sI, gL_sR, gL_cp, gI_sL, gI_sR, iI_add, iI_sub, iI_mul, iI_neg, iI_in, iI_tn, iI_lt, iI_eq, Nat.reduceLeDiff, Nat.reduceEqDiff, Nat.reduceAdd, Int.reduceEq, Int.reduceLT, Int.reduceLE, Int.reduceNeg, Int.reduceAdd, Int.reduceSub, Int.reduceMul, h4, e1, show cdX X - start < 1000 by omega, gI_sI, show ¬ (L = L + 1 ∧ 4 = (cdX X - start).toNat) by omega, show 99 ≤ L by omega]
  · have hf : Fr (scw2 L) c (mm_sI (mm_sI c (L + 1) (cdX X - start).toNat (iI v)) L 4 (iI (cdX X - start + 1))) := (Fr.sI (by unfold scw2; simp)).tr (Fr.sI (by unfold scw2; simp))
    refine ⟨t.o hf (fun x k z => by unfold scw2; rw [nb (by omega), nb (by omega)]; rfl) (by unfold scw2; rw [nb (by omega), nb (by omega)]; rfl), hL, ⟨h0, by rw [emX_c (by omega) (by omega)]; omega⟩, ?_, fun k k0 k1 => ?_, n0, n1⟩
    · rw [emX_c (by omega) (by omega), gI_sI, if_pos ⟨rfl, rfl⟩, show cdX X + 1 - start = cdX X - start + 1 by omega]
    · rw [emX_c (by omega) (by omega)] at k1
      by_cases z : k = cdX X
      · subst z
        have := emX_op (X := X) (o := o) (y := y) (by omega) o0 o1 y0 y1
        refine ⟨by rw [this.1]; exact ho, ?_⟩
        rw [gI_sI, if_neg (by omega), gI_sI, if_pos ⟨rfl, rfl⟩, hv]
      · have q := emX_lo (X := X) (o := o) (y := y) (k := k) (by omega) (by omega)
        have e : encS (emX X o y) lo k = encS X lo k := by unfold encS; rw [q.1, q.2]
        rw [q.1, e, gI_sI, if_neg (by omega), gI_sI, if_neg (by omega)]
        exact hk k k0 (by omega)
  · exact (Fr.sI (by unfold scLw; simp)).tr (Fr.sI (by unfold scLw; simp))
end
