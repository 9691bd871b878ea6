/-- the street with a walker more -/
def wkX (X : Nat → Nat → Int32) (r n v0 v1 v2 v3 v4 v5 v6 : Int) : Nat → Nat → Int32 := up (up (up (up (up (up (up (up (up (up X 327 r.toNat (iI (20 + n))) 316 19 (iI (r + 1))) 322 (117 + 7 * n - 100).toNat (iI v0)) 322 (117 + 7 * n + 1 - 100).toNat (iI v1)) 322 (117 + 7 * n + 2 - 100).toNat (iI v2)) 322 (117 + 7 * n + 3 - 100).toNat (iI v3)) 322 (117 + 7 * n + 4 - 100).toNat (iI v4)) 322 (117 + 7 * n + 5 - 100).toNat (iI v5)) 322 (117 + 7 * n + 6 - 100).toNat (iI v6)) 322 (106 - 100 : Int).toNat (iI (n + 1))
section
variable {D : Nat → Nat → Int32} {E : Nat → Nat → Int64} {m m' c c' c'' : mm_M} {d s w : Nat} {n N i f : Int} {T : TK} {X X' : Nat → Nat → Int32} {Y Y' : Nat → Int64} {W W' : Nat → Int32} {cnt a b : Int} {r k v0 v1 v2 v3 v4 v5 v6 : Int}
theorem wkX_o {x y : Nat} (h1 : ¬ x = 327) (h2 : ¬ (x = 316 ∧ y = 19)) (h3 : ¬ x = 322) : wkX X r k v0 v1 v2 v3 v4 v5 v6 x y = X x y := by
  unfold wkX up
  rw [if_neg (by omega), if_neg (by omega), if_neg (by omega), if_neg (by omega), if_neg (by omega), if_neg (by omega), if_neg (by omega), if_neg (by omega), if_neg (by omega), if_neg (by omega)]
theorem wkX_rm (r0 : 0 ≤ r) (r1 : r < 100) : rmX (wkX X r k v0 v1 v2 v3 v4 v5 v6) = r + 1 := by
  show (wkX X r k v0 v1 v2 v3 v4 v5 v6 316 19).toInt = _
  unfold wkX up
  rw [if_neg (by omega), if_neg (by omega), if_neg (by omega), if_neg (by omega), if_neg (by omega), if_neg (by omega), if_neg (by omega), if_neg (by omega), if_pos ⟨rfl, rfl⟩, iI_val (by omega) (by omega)]
theorem wkX_27 (y : Nat) : wkX X r k v0 v1 v2 v3 v4 v5 v6 327 y = if y = r.toNat then iI (20 + k) else X 327 y := by
  unfold wkX up
  rw [if_neg (by omega), if_neg (by omega), if_neg (by omega), if_neg (by omega), if_neg (by omega), if_neg (by omega), if_neg (by omega), if_neg (by omega), if_neg (by omega)]
  simp
def vR (v : Int) : Prop := -1 ≤ v ∧ v < 1000
theorem wkX_st (k0 : 0 ≤ k) (k1 : k < 8) (h0 : vR v0) (h1 : vR v1) (h2 : vR v2) (h3 : vR v3) (h4 : vR v4) (h5 : vR v5) (h6 : vR v6) (j : Int) : st (wkX X r k v0 v1 v2 v3 v4 v5 v6) j = if j.toNat = 6 then k + 1 else if j.toNat = (17 + 7 * k + 6).toNat then v6 else if j.toNat = (17 + 7 * k + 5).toNat then v5 else if j.toNat = (17 + 7 * k + 4).toNat then v4 else if j.toNat = (17 + 7 * k + 3).toNat then v3 else if j.toNat = (17 + 7 * k + 2).toNat then v2 else if j.toNat = (17 + 7 * k + 1).toNat then v1 else if j.toNat = (17 + 7 * k + 0).toNat then v0 else st X j := by
  unfold vR at *
  unfold wkX
  rw [st_u, st_u, st_u, st_u, st_u, st_u, st_u, st_u, st_o (by omega), st_o (by omega), iI_val (by omega) (by omega), iI_val (by omega) (by omega), iI_val (by omega) (by omega), iI_val (by omega) (by omega), iI_val (by omega) (by omega), iI_val (by omega) (by omega), iI_val (by omega) (by omega), iI_val (by omega) (by omega)]
  rw [show (106 - 100 : Int).toNat = 6 by omega, show (117 + 7 * k + 6 - 100).toNat = (17 + 7 * k + 6).toNat by omega, show (117 + 7 * k + 5 - 100).toNat = (17 + 7 * k + 5).toNat by omega, show (117 + 7 * k + 4 - 100).toNat = (17 + 7 * k + 4).toNat by omega, show (117 + 7 * k + 3 - 100).toNat = (17 + 7 * k + 3).toNat by omega, show (117 + 7 * k + 2 - 100).toNat = (17 + 7 * k + 2).toNat by omega, show (117 + 7 * k + 1 - 100).toNat = (17 + 7 * k + 1).toNat by omega, show (117 + 7 * k - 100).toNat = (17 + 7 * k + 0).toNat by omega]
/-- what a street with a walker more says of the others -/
theorem wkX_lo (k0 : 0 ≤ k) (k1 : k < 8) (h0 : vR v0) (h1 : vR v1) (h2 : vR v2) (h3 : vR v3) (h4 : vR v4) (h5 : vR v5) (h6 : vR v6) {j : Int} (j0 : 0 ≤ j) (j1 : ¬ j = 6) (j2 : j < 17 + 7 * k ∨ 17 + 7 * k + 6 < j) : st (wkX X r k v0 v1 v2 v3 v4 v5 v6) j = st X j := by
  rw [wkX_st k0 k1 h0 h1 h2 h3 h4 h5 h6, if_neg (by omega), if_neg (by omega), if_neg (by omega), if_neg (by omega), if_neg (by omega), if_neg (by omega), if_neg (by omega), if_neg (by omega)]
theorem wkX_6 (k0 : 0 ≤ k) (k1 : k < 8) (h0 : vR v0) (h1 : vR v1) (h2 : vR v2) (h3 : vR v3) (h4 : vR v4) (h5 : vR v5) (h6 : vR v6) : st (wkX X r k v0 v1 v2 v3 v4 v5 v6) 6 = k + 1 := by
  rw [wkX_st k0 k1 h0 h1 h2 h3 h4 h5 h6, if_pos (by omega)]
theorem wkX_k (k0 : 0 ≤ k) (k1 : k < 8) (h0 : vR v0) (h1 : vR v1) (h2 : vR v2) (h3 : vR v3) (h4 : vR v4) (h5 : vR v5) (h6 : vR v6) : wk (wkX X r k v0 v1 v2 v3 v4 v5 v6) k 0 = v0 ∧ wk (wkX X r k v0 v1 v2 v3 v4 v5 v6) k 1 = v1 ∧ wk (wkX X r k v0 v1 v2 v3 v4 v5 v6) k 2 = v2 ∧ wk (wkX X r k v0 v1 v2 v3 v4 v5 v6) k 3 = v3 ∧ wk (wkX X r k v0 v1 v2 v3 v4 v5 v6) k 4 = v4 ∧ wk (wkX X r k v0 v1 v2 v3 v4 v5 v6) k 5 = v5 ∧ wk (wkX X r k v0 v1 v2 v3 v4 v5 v6) k 6 = v6 := by
  unfold wk
  refine ⟨?_, ?_, ?_, ?_, ?_, ?_, ?_⟩
  · rw [wkX_st k0 k1 h0 h1 h2 h3 h4 h5 h6, if_neg (by omega), if_neg (by omega), if_neg (by omega), if_neg (by omega), if_neg (by omega), if_neg (by omega), if_neg (by omega), if_pos (by omega)]
  · rw [wkX_st k0 k1 h0 h1 h2 h3 h4 h5 h6, if_neg (by omega), if_neg (by omega), if_neg (by omega), if_neg (by omega), if_neg (by omega), if_neg (by omega), if_pos (by omega)]
  · rw [wkX_st k0 k1 h0 h1 h2 h3 h4 h5 h6, if_neg (by omega), if_neg (by omega), if_neg (by omega), if_neg (by omega), if_neg (by omega), if_pos (by omega)]
  · rw [wkX_st k0 k1 h0 h1 h2 h3 h4 h5 h6, if_neg (by omega), if_neg (by omega), if_neg (by omega), if_neg (by omega), if_pos (by omega)]
  · rw [wkX_st k0 k1 h0 h1 h2 h3 h4 h5 h6, if_neg (by omega), if_neg (by omega), if_neg (by omega), if_pos (by omega)]
  · rw [wkX_st k0 k1 h0 h1 h2 h3 h4 h5 h6, if_neg (by omega), if_neg (by omega), if_pos (by omega)]
  · rw [wkX_st k0 k1 h0 h1 h2 h3 h4 h5 h6, if_neg (by omega), if_pos (by omega)]
theorem wkX_w (k0 : 0 ≤ k) (k1 : k < 8) (h0 : vR v0) (h1 : vR v1) (h2 : vR v2) (h3 : vR v3) (h4 : vR v4) (h5 : vR v5) (h6 : vR v6) {x j : Int} (x0 : 0 ≤ x) (x1 : x < k) (j0 : 0 ≤ j) (j1 : j < 7) : wk (wkX X r k v0 v1 v2 v3 v4 v5 v6) x j = wk X x j := by
  unfold wk
  exact wkX_lo k0 k1 h0 h1 h2 h3 h4 h5 h6 (by omega) (by omega) (by omega)
theorem fd_0 {u : Int64} {k : Nat} : fdGo Y W u 0 k = -1 := rfl
theorem fd_s {u : Int64} {r k : Nat} : fdGo Y W u (r + 1) k = if Y k = u then (W k).toInt else fdGo Y W u r (k + 1) := rfl
/-- names with the walker's own: of words nothing changes -/
theorem th_ext (hY : ∀ k, Y' k = if k = cnt.toNat then tV T a else Y k) (hW : ∀ k, W' k = if k = cnt.toNat then iI (20 + b) else W k) (c0 : 0 ≤ cnt) (b0 : 0 ≤ b) (b1 : b < 8) (hn : fdGo Y W (tV T a) cnt.toNat 0 = -1) (hw : ∀ k : Nat, (k : Int) < cnt → 0 ≤ (W k).toInt) : thS T Y' W' (cnt + 1) 0 6 i f = thS T Y W cnt 0 6 i f := by
  have key : ∀ (u : Int64) (r k : Nat), k + r = cnt.toNat → fdGo Y' W' u (r + 1) k = if fdGo Y W u r k = -1 then (if tV T a = u then 20 + b else -1) else fdGo Y W u r k := by
    intro u r
    induction r with
    | zero =>
      intro k hk
      have hy : Y' k = tV T a := by rw [hY, if_pos (by omega)]
      have hw' : W' k = iI (20 + b) := by rw [hW, if_pos (by omega)]
      rw [fd_s, hy, hw', iI_val (by omega) (by omega), fd_0, fd_0, if_pos rfl]
    | succ r ih =>
      intro k hk
      have hy : Y' k = Y k := by rw [hY, if_neg (by omega)]
      have hw' : W' k = W k := by rw [hW, if_neg (by omega)]
      rw [fd_s (r := r + 1), fd_s (r := r) (Y := Y), hy, hw']
      by_cases z : Y k = u
      · rw [if_pos z, if_pos z, if_neg (by have := hw k (by omega); omega)]
      · rw [if_neg z, if_neg z]
        exact ih (k + 1) (by omega)
  have kk := key (tV T i) cnt.toNat 0 (by omega)
  rw [show cnt.toNat + 1 = (cnt + 1).toNat by omega] at kk
  by_cases z : tV T a = tV T i
  · have f1 : fdGo Y W (tV T i) cnt.toNat 0 = -1 := by rw [← z]; exact hn
    rw [if_pos f1, if_pos z] at kk
    unfold thS
    rw [kk, f1, if_neg (show ¬ (0 ≤ 20 + b ∧ 20 + b < 0 + 6) by omega), if_neg (show ¬ ((0 : Int) ≤ -1 ∧ (-1 : Int) < 0 + 6) by omega)]
  · rw [if_neg z] at kk
    by_cases y : fdGo Y W (tV T i) cnt.toNat 0 = -1
    · rw [if_pos y] at kk
      unfold thS
      rw [kk, y]
    · rw [if_neg y] at kk
      unfold thS
      rw [kk]
/-- readWalker of the model -/
theorem M183 (hT : TS D n T N) (hE : EK E) (hX : LX X i) (iN : i < N) (z8 : st X 6 < 8) (hP : PF D E T N i 0 m) (hM : DM X Y m) (hd : 60 ≤ d) {p : Int × Int} {k1 a1 a2 k2 a3 a4 cu : Int × Int × Int} (hp : rnS T Y (X 327) (rmX X) (i + 1) = p) (hk1 : k1 = toS T 23 4 p.1 p.2) (ha1 : a1 = taS T 8 0 (st X 1 - 1) k1.2.1 k1.2.2) (ha2 : a2 = taS T 9 0 (st X 0 - 1) a1.2.1 a1.2.2) (hk2 : k2 = toS T 21 2 a2.2.1 a2.2.2) (ha3 : a3 = taS T 10 1 9 k2.2.1 k2.2.2) (ha4 : a4 = taS T 11 0 99 a3.2.1 a3.2.2) (hcu : cu = cuS T Y (X 327) (rmX X) a4.2.1 a4.2.2) (hfp : cu.2.2 = 0 → p.2 = 0) (ha4f : a4.2.2 = 0 → p.2 = 0) : ∃ m', mm_ev d 183 0 [some (.ref 316), none, none] [] m = some (some none, m') ∧ PF D E T N cu.2.1 cu.2.2 m' ∧ (cu.2.2 = 0 → DM (wkX X (rmX X) (st X 6) k1.1 a1.1 a2.1 k2.1 a3.1 a4.1 cu.1) (upY Y (rmX X).toNat (tV T (i + 1))) m') ∧ Fr scM m m' := by
  obtain ⟨i0, i1⟩ := hP.2.2.2.2.1
  have hI := hX.1
  obtain ⟨⟨c0, c1⟩, ⟨l0, l1⟩, ⟨f0, f1, f2⟩, ⟨p0, p1⟩, ⟨w0, w1⟩, ⟨q0, q1⟩, ⟨x0, x1⟩, ⟨r0, r1⟩, hte, hwk, hmu⟩ := hI
  have hr := hX.2.2.2.2.2.2
  have rd : ∀ {m2 : mm_M}, (∀ k, k < 117 → mm_gI m2 322 k = mm_gI m 322 k) → mm_gI m2 322 (100 : Int).toNat = iI (st X 0) ∧ mm_gI m2 322 (101 : Int).toNat = iI (st X 1) ∧ mm_gI m2 322 (106 : Int).toNat = iI (st X 6) := fun {m2} h => by
    refine ⟨?_, ?_, ?_⟩
    · rw [h _ (by omega), DM_st hM (by omega) (by omega)]; rfl
    · rw [h _ (by omega), DM_st hM (by omega) (by omega)]; rfl
    · rw [h _ (by omega), DM_st hM (by omega) (by omega)]; rfl
  have st3 : ∀ {m2 m3 : mm_M} {j : Int} {v : Int32}, (∀ k, k < 117 → mm_gI m2 322 k = mm_gI m 322 k) → Fr scAt m2 m3 → 117 ≤ j → (∀ k, k < 117 → mm_gI (mm_sI m3 322 j.toNat v) 322 k = mm_gI m 322 k) := fun {m2 m3 j v} h g hj k hk => by
    rw [gI_sI, if_neg (by omega), g.gI (scAt_o (by omega))]
    exact h k hk
  obtain ⟨n1, e1, h1, g1, d1, u1⟩ := M179 (d := d - 1) hT hE hP hM hX iN (by omega) (by omega) (w := 20 + st X 6) (by omega) (by omega)
  rw [hp] at h1 d1
  have t1 : ∀ k, k < 117 → mm_gI n1 322 k = mm_gI m 322 k := fun k _ => u1 k
  obtain ⟨n2, e2, h2, g2⟩ := M184 (d := d - 1) hT hE h1 (by omega) (a := 23) (c := 4) (by omega) (by omega) (by omega)
  rw [← hk1] at e2 h2
  have h2' := h2.w (j := 117 + 7 * st X 6) (v := iI k1.1) (by omega)
  have t2 := st3 (j := 117 + 7 * st X 6) (v := iI k1.1) t1 g2 (by omega)
  obtain ⟨n3, e3, h3, g3⟩ := M174 (d := d - 1) hT hE h2' (by omega) (w := 8) (lo := 0) (hi := st X 1 - 1) (by omega) (by omega) (by omega) (by omega) (by omega) (by omega)
  rw [← ha1] at e3 h3
  have h3' := h3.w (j := 117 + 7 * st X 6 + 1) (v := iI a1.1) (by omega)
  have t3 := st3 (j := 117 + 7 * st X 6 + 1) (v := iI a1.1) t2 g3 (by omega)
  have e85 : mm_ev (d - 1) 185 0 [some (.ref 316)] [] (mm_sI n3 322 (117 + 7 * st X 6 + 1).toNat (iI a1.1)) = some (some (some (.int (iI (st X 0 - 1)))), mm_sI n3 322 (117 + 7 * st X 6 + 1).toNat (iI a1.1)) := by
    rw [sg_185_0]
    simp (disch := omega) only [shM h3'.1.1, ↓reduceIte, not_false_eq_true, not_true_eq_false, and_self, and_true, true_and, false_and, and_false, or_true, true_or, or_false, false_or, or_self, reduceCtorEq, mm_q, Option.getD_some, cI_some, cJ_some, cV_some, cS_some, kd_sI, kd_sL, kd_sR, kd_cp, ln_sI, ln_sL, ln_sR, ln_cp, gR_sI, gR_sL, gR_sR, gR_cp, gL_sI, gL_sR, gL_cp, gI_sL, gI_sR, iI_add, iI_sub, iI_mul, iI_neg, iI_in, iI_tn, iI_lt, iI_eq, Nat.reduceLeDiff, Nat.reduceEqDiff, Nat.reduceAdd, Int.reduceEq, Int.reduceLT, Int.reduceLE, Int.reduceNeg, Int.reduceAdd, Int.reduceSub, Int.reduceMul, (rd t3).1]
  obtain ⟨n4, e4, h4, g4⟩ := M174 (d := d - 1) hT hE h3' (by omega) (w := 9) (lo := 0) (hi := st X 0 - 1) (by omega) (by omega) (by omega) (by omega) (by omega) (by omega)
  rw [← ha2] at e4 h4
  have h4' := h4.w (j := 117 + 7 * st X 6 + 2) (v := iI a2.1) (by omega)
  have t4 := st3 (j := 117 + 7 * st X 6 + 2) (v := iI a2.1) t3 g4 (by omega)
  obtain ⟨n5, e5, h5, g5⟩ := M184 (d := d - 1) hT hE h4' (by omega) (a := 21) (c := 2) (by omega) (by omega) (by omega)
  rw [← hk2] at e5 h5
  have h5' := h5.w (j := 117 + 7 * st X 6 + 3) (v := iI k2.1) (by omega)
  have t5 := st3 (j := 117 + 7 * st X 6 + 3) (v := iI k2.1) t4 g5 (by omega)
  obtain ⟨n6, e6, h6, g6⟩ := M174 (d := d - 1) hT hE h5' (by omega) (w := 10) (lo := 1) (hi := 9) (by omega) (by omega) (by omega) (by omega) (by omega) (by omega)
  rw [← ha3] at e6 h6
  have h6' := h6.w (j := 117 + 7 * st X 6 + 4) (v := iI a3.1) (by omega)
  have t6 := st3 (j := 117 + 7 * st X 6 + 4) (v := iI a3.1) t5 g6 (by omega)
  obtain ⟨n7, e7, h7, g7⟩ := M174 (d := d - 1) hT hE h6' (by omega) (w := 11) (lo := 0) (hi := 99) (by omega) (by omega) (by omega) (by omega) (by omega) (by omega)
  rw [← ha4] at e7 h7
  have h7' := h7.w (j := 117 + 7 * st X 6 + 5) (v := iI a4.1) (by omega)
  have t7 := st3 (j := 117 + 7 * st X 6 + 5) (v := iI a4.1) t6 g7 (by omega)
  have dm7 : p.2 = 0 → DM (up (up (up (up (up (up (up (up X 327 (rmX X).toNat (iI (20 + st X 6))) 316 19 (iI (rmX X + 1))) 322 (117 + 7 * st X 6 - 100).toNat (iI k1.1)) 322 (117 + 7 * st X 6 + 1 - 100).toNat (iI a1.1)) 322 (117 + 7 * st X 6 + 2 - 100).toNat (iI a2.1)) 322 (117 + 7 * st X 6 + 3 - 100).toNat (iI k2.1)) 322 (117 + 7 * st X 6 + 4 - 100).toNat (iI a3.1)) 322 (117 + 7 * st X 6 + 5 - 100).toNat (iI a4.1)) (upY Y (rmX X).toNat (tV T (i + 1))) (mm_sI n7 322 (117 + 7 * st X 6 + 5).toNat (iI a4.1)) := fun hp0 => ((((((((((((d1 hp0).at g2).w (by omega) (by omega)).at g3).w (by omega) (by omega)).at g4).w (by omega) (by omega)).at g5).w (by omega) (by omega)).at g6).w (by omega) (by omega)).at g7).w (by omega) (by omega)
  obtain ⟨n8, e8, h8, g8⟩ := M170 (d := d - 1) hT hE h7' (by omega) (w := 12) (by omega) (by omega)
  have t8 : ∀ k, k < 117 → mm_gI n8 322 k = mm_gI m 322 k := fun k hk => by rw [g8.gI (scAt_o (by omega))]; exact t7 k hk
  -- the run as far as the cue
  have run : mm_ev d 183 0 [some (.ref 316), none, none] [] m = mm_ev d 183 155 [some (.ref 316), some (.int (iI (st X 6))), some (.int (iI (117 + 7 * st X 6)))] [.int (iI (bI (decide (a4.2.2 = 0 ∧ ty T a4.2.1 = 12)))), .int (iI (117 + 7 * st X 6 + 6)), .ref 322] n8 := by
    rw [sg_183_0 (by omega)]
    simp (disch := omega) only [shM hP.1.1, ↓reduceIte, not_false_eq_true, not_true_eq_false, and_self, and_true, true_and, false_and, and_false, or_true, true_or, or_false, false_or, or_self, reduceCtorEq, mm_q, Option.getD_some, cI_some, cJ_some, cV_some, cS_some, kd_sI, kd_sL, kd_sR, kd_cp, ln_sI, ln_sL, ln_sR, ln_cp, gR_sI, gR_sL, gR_sR, gR_cp, gL_sI, gL_sR, gL_cp, gI_sL, gI_sR, iI_add, iI_sub, iI_mul, iI_neg, iI_in, iI_tn, iI_lt, iI_eq, Nat.reduceLeDiff, Nat.reduceEqDiff, Nat.reduceAdd, Int.reduceEq, Int.reduceLT, Int.reduceLE, Int.reduceNeg, Int.reduceAdd, Int.reduceSub, Int.reduceMul, DM_st hM, show ¬ st X 6 = 8 by omega, e1]
    rw [sg_183_28 (by omega)]
    simp (disch := omega) only [shM h1.1.1, shM h2.1.1, ↓reduceIte, not_false_eq_true, not_true_eq_false, and_self, and_true, true_and, false_and, and_false, or_true, true_or, or_false, false_or, or_self, reduceCtorEq, mm_q, Option.getD_some, cI_some, cJ_some, cV_some, cS_some, kd_sI, kd_sL, kd_sR, kd_cp, ln_sI, ln_sL, ln_sR, ln_cp, gR_sI, gR_sL, gR_sR, gR_cp, gL_sI, gL_sR, gL_cp, gI_sL, gI_sR, iI_add, iI_sub, iI_mul, iI_neg, iI_in, iI_tn, iI_lt, iI_eq, Nat.reduceLeDiff, Nat.reduceEqDiff, Nat.reduceAdd, Int.reduceEq, Int.reduceLT, Int.reduceLE, Int.reduceNeg, Int.reduceAdd, Int.reduceSub, Int.reduceMul, e2]
    rw [sg_183_48 (by omega)]
    simp (disch := omega) only [shM h2.1.1, shM h2'.1.1, ↓reduceIte, not_false_eq_true, not_true_eq_false, and_self, and_true, true_and, false_and, and_false, or_true, true_or, or_false, false_or, or_self, reduceCtorEq, mm_q, Option.getD_some, cI_some, cJ_some, cV_some, cS_some, kd_sI, kd_sL, kd_sR, kd_cp, ln_sI, ln_sL, ln_sR, ln_cp, gR_sI, gR_sL, gR_sR, gR_cp, gL_sI, gL_sR, gL_cp, gI_sL, gI_sR, iI_add, iI_sub, iI_mul, iI_neg, iI_in, iI_tn, iI_lt, iI_eq, Nat.reduceLeDiff, Nat.reduceEqDiff, Nat.reduceAdd, Int.reduceEq, Int.reduceLT, Int.reduceLE, Int.reduceNeg, Int.reduceAdd, Int.reduceSub, Int.reduceMul, (rd t2).2.1, e3]
    rw [sg_183_72 (by omega)]
    simp (disch := omega) only [shM h3.1.1, shM h3'.1.1, ↓reduceIte, not_false_eq_true, not_true_eq_false, and_self, and_true, true_and, false_and, and_false, or_true, true_or, or_false, false_or, or_self, reduceCtorEq, mm_q, Option.getD_some, cI_some, cJ_some, cV_some, cS_some, kd_sI, kd_sL, kd_sR, kd_cp, ln_sI, ln_sL, ln_sR, ln_cp, gR_sI, gR_sL, gR_sR, gR_cp, gL_sI, gL_sR, gL_cp, gI_sL, gI_sR, iI_add, iI_sub, iI_mul, iI_neg, iI_in, iI_tn, iI_lt, iI_eq, Nat.reduceLeDiff, Nat.reduceEqDiff, Nat.reduceAdd, Int.reduceEq, Int.reduceLT, Int.reduceLE, Int.reduceNeg, Int.reduceAdd, Int.reduceSub, Int.reduceMul, e85]
    rw [sg_183_88 (by omega)]
    simp (disch := omega) only [shM h3'.1.1, ↓reduceIte, not_false_eq_true, not_true_eq_false, and_self, and_true, true_and, false_and, and_false, or_true, true_or, or_false, false_or, or_self, reduceCtorEq, mm_q, Option.getD_some, cI_some, cJ_some, cV_some, cS_some, kd_sI, kd_sL, kd_sR, kd_cp, ln_sI, ln_sL, ln_sR, ln_cp, gR_sI, gR_sL, gR_sR, gR_cp, gL_sI, gL_sR, gL_cp, gI_sL, gI_sR, iI_add, iI_sub, iI_mul, iI_neg, iI_in, iI_tn, iI_lt, iI_eq, Nat.reduceLeDiff, Nat.reduceEqDiff, Nat.reduceAdd, Int.reduceEq, Int.reduceLT, Int.reduceLE, Int.reduceNeg, Int.reduceAdd, Int.reduceSub, Int.reduceMul, e4]
    rw [sg_183_91 (by omega)]
    simp (disch := omega) only [shM h4.1.1, shM h4'.1.1, ↓reduceIte, not_false_eq_true, not_true_eq_false, and_self, and_true, true_and, false_and, and_false, or_true, true_or, or_false, false_or, or_self, reduceCtorEq, mm_q, Option.getD_some, cI_some, cJ_some, cV_some, cS_some, kd_sI, kd_sL, kd_sR, kd_cp, ln_sI, ln_sL, ln_sR, ln_cp, gR_sI, gR_sL, gR_sR, gR_cp, gL_sI, gL_sR, gL_cp, gI_sL, gI_sR, iI_add, iI_sub, iI_mul, iI_neg, iI_in, iI_tn, iI_lt, iI_eq, Nat.reduceLeDiff, Nat.reduceEqDiff, Nat.reduceAdd, Int.reduceEq, Int.reduceLT, Int.reduceLE, Int.reduceNeg, Int.reduceAdd, Int.reduceSub, Int.reduceMul, e5]
    rw [sg_183_106 (by omega)]
    simp (disch := omega) only [shM h5.1.1, shM h5'.1.1, ↓reduceIte, not_false_eq_true, not_true_eq_false, and_self, and_true, true_and, false_and, and_false, or_true, true_or, or_false, false_or, or_self, reduceCtorEq, mm_q, Option.getD_some, cI_some, cJ_some, cV_some, cS_some, kd_sI, kd_sL, kd_sR, kd_cp, ln_sI, ln_sL, ln_sR, ln_cp, gR_sI, gR_sL, gR_sR, gR_cp, gL_sI, gL_sR, gL_cp, gI_sL, gI_sR, iI_add, iI_sub, iI_mul, iI_neg, iI_in, iI_tn, iI_lt, iI_eq, Nat.reduceLeDiff, Nat.reduceEqDiff, Nat.reduceAdd, Int.reduceEq, Int.reduceLT, Int.reduceLE, Int.reduceNeg, Int.reduceAdd, Int.reduceSub, Int.reduceMul, e6]
    rw [sg_183_123 (by omega)]
    simp (disch := omega) only [shM h6.1.1, shM h6'.1.1, ↓reduceIte, not_false_eq_true, not_true_eq_false, and_self, and_true, true_and, false_and, and_false, or_true, true_or, or_false, false_or, or_self, reduceCtorEq, mm_q, Option.getD_some, cI_some, cJ_some, cV_some, cS_some, kd_sI, kd_sL, kd_sR, kd_cp, ln_sI, ln_sL, ln_sR, ln_cp, gR_sI, gR_sL, gR_sR, gR_cp, gL_sI, gL_sR, gL_cp, gI_sL, gI_sR, iI_add, iI_sub, iI_mul, iI_neg, iI_in, iI_tn, iI_lt, iI_eq, Nat.reduceLeDiff, Nat.reduceEqDiff, Nat.reduceAdd, Int.reduceEq, Int.reduceLT, Int.reduceLE, Int.reduceNeg, Int.reduceAdd, Int.reduceSub, Int.reduceMul, e7]
    rw [sg_183_140 (by omega)]
    simp (disch := omega) only [shM h7.1.1, shM h7'.1.1, ↓reduceIte, not_false_eq_true, not_true_eq_false, and_self, and_true, true_and, false_and, and_false, or_true, true_or, or_false, false_or, or_self, reduceCtorEq, mm_q, Option.getD_some, cI_some, cJ_some, cV_some, cS_some, kd_sI, kd_sL, kd_sR, kd_cp, ln_sI, ln_sL, ln_sR, ln_cp, gR_sI, gR_sL, gR_sR, gR_cp, gL_sI, gL_sR, gL_cp, gI_sL, gI_sR, iI_add, iI_sub, iI_mul, iI_neg, iI_in, iI_tn, iI_lt, iI_eq, Nat.reduceLeDiff, Nat.reduceEqDiff, Nat.reduceAdd, Int.reduceEq, Int.reduceLT, Int.reduceLE, Int.reduceNeg, Int.reduceAdd, Int.reduceSub, Int.reduceMul, e8]
  have gall : Fr scM m n8 := ((((((((((((g1.tr g2.AtM).tr (Fr.s322 (by omega))).tr g3.AtM).tr (Fr.s322 (by omega))).tr g4.AtM).tr (Fr.s322 (by omega))).tr g5.AtM).tr (Fr.s322 (by omega))).tr g6.AtM).tr (Fr.s322 (by omega))).tr g7.AtM).tr (Fr.s322 (by omega))).tr g8.AtM
  -- the end
  have fin : ∀ {m2 : mm_M} {v j g : Int}, PF D E T N j g m2 → (∀ k, k < 117 → mm_gI m2 322 k = mm_gI m 322 k) → ∃ m3, mm_ev d 183 170 [some (.ref 316), some (.int (iI (st X 6))), some (.int (iI (117 + 7 * st X 6)))] [.int (iI v), .int (iI (117 + 7 * st X 6 + 6)), .ref 322] m2 = some (some none, m3) ∧ m3 = mm_sI (mm_sI m2 322 (117 + 7 * st X 6 + 6).toNat (iI v)) 322 (106 : Int).toNat (iI (st X 6 + 1)) := fun {m2 v j g} h2 t2 => by
    refine ⟨_, ?_, rfl⟩
    have e6 : mm_gI (mm_sI m2 322 (117 + 7 * st X 6 + 6).toNat (iI v)) 322 (106 : Int).toNat = iI (st X 6) := by
      rw [gI_sI, if_neg (by omega)]
      exact (rd t2).2.2
    rw [sg_183_170]
    simp (disch := omega) only [shM h2.1.1, ↓reduceIte, not_false_eq_true, not_true_eq_false, and_self, and_true, true_and, false_and, and_false, or_true, true_or, or_false, false_or, or_self, reduceCtorEq, mm_q, Option.getD_some, cI_some, cJ_some, cV_some, cS_some, kd_sI, kd_sL, kd_sR, kd_cp, ln_sI, ln_sL, ln_sR, ln_cp, gR_sI, gR_sL, gR_sR, gR_cp, gL_sI, gL_sR, gL_cp, gI_sL, gI_sR, iI_add, iI_sub, iI_mul, iI_neg, iI_in, iI_tn, iI_lt, iI_eq, Nat.reduceLeDiff, Nat.reduceEqDiff, Nat.reduceAdd, Int.reduceEq, Int.reduceLT, Int.reduceLE, Int.reduceNeg, Int.reduceAdd, Int.reduceSub, Int.reduceMul, e6]
  rw [run, sg_183_155 (by omega)]
  by_cases y : a4.2.2 = 0 ∧ ty T a4.2.1 = 12
  · rw [if_pos y] at h8
    rw [bI_1 y]
    have hp0 := ha4f y.1
    have dm8 := (dm7 hp0).at g8
    obtain ⟨j0, j1⟩ := h8.2.2.2.2.1
    have er : rmX (up (up (up (up (up (up (up (up X 327 (rmX X).toNat (iI (20 + st X 6))) 316 19 (iI (rmX X + 1))) 322 (117 + 7 * st X 6 - 100).toNat (iI k1.1)) 322 (117 + 7 * st X 6 + 1 - 100).toNat (iI a1.1)) 322 (117 + 7 * st X 6 + 2 - 100).toNat (iI a2.1)) 322 (117 + 7 * st X 6 + 3 - 100).toNat (iI k2.1)) 322 (117 + 7 * st X 6 + 4 - 100).toNat (iI a3.1)) 322 (117 + 7 * st X 6 + 5 - 100).toNat (iI a4.1)) = rmX X + 1 := by
      show (up (up (up (up (up (up (up (up X 327 (rmX X).toNat (iI (20 + st X 6))) 316 19 (iI (rmX X + 1))) 322 (117 + 7 * st X 6 - 100).toNat (iI k1.1)) 322 (117 + 7 * st X 6 + 1 - 100).toNat (iI a1.1)) 322 (117 + 7 * st X 6 + 2 - 100).toNat (iI a2.1)) 322 (117 + 7 * st X 6 + 3 - 100).toNat (iI k2.1)) 322 (117 + 7 * st X 6 + 4 - 100).toNat (iI a3.1)) 322 (117 + 7 * st X 6 + 5 - 100).toNat (iI a4.1) 316 19).toInt = _
      unfold up
      rw [if_neg (by omega), if_neg (by omega), if_neg (by omega), if_neg (by omega), if_neg (by omega), if_neg (by omega), if_pos ⟨rfl, rfl⟩, iI_val (by omega) (by omega)]
    have hW' : ∀ k, up (up (up (up (up (up (up (up X 327 (rmX X).toNat (iI (20 + st X 6))) 316 19 (iI (rmX X + 1))) 322 (117 + 7 * st X 6 - 100).toNat (iI k1.1)) 322 (117 + 7 * st X 6 + 1 - 100).toNat (iI a1.1)) 322 (117 + 7 * st X 6 + 2 - 100).toNat (iI a2.1)) 322 (117 + 7 * st X 6 + 3 - 100).toNat (iI k2.1)) 322 (117 + 7 * st X 6 + 4 - 100).toNat (iI a3.1)) 322 (117 + 7 * st X 6 + 5 - 100).toNat (iI a4.1) 327 k = if k = (rmX X).toNat then iI (20 + st X 6) else X 327 k := fun k => by
      unfold up
      rw [if_neg (by omega), if_neg (by omega), if_neg (by omega), if_neg (by omega), if_neg (by omega), if_neg (by omega), if_neg (by omega)]
      simp
    generalize hU : up (up (up (up (up (up (up (up X 327 (rmX X).toNat (iI (20 + st X 6))) 316 19 (iI (rmX X + 1))) 322 (117 + 7 * st X 6 - 100).toNat (iI k1.1)) 322 (117 + 7 * st X 6 + 1 - 100).toNat (iI a1.1)) 322 (117 + 7 * st X 6 + 2 - 100).toNat (iI a2.1)) 322 (117 + 7 * st X 6 + 3 - 100).toNat (iI k2.1)) 322 (117 + 7 * st X 6 + 4 - 100).toNat (iI a3.1)) 322 (117 + 7 * st X 6 + 5 - 100).toNat (iI a4.1) = U at dm8 er hW'
    have hfn : fdGo Y (X 327) (tV T (i + 1)) (rmX X).toNat 0 = -1 := by
      have fd := hX.fd (Y := Y) (tV T (i + 1))
      have pr := (hT.k (i := i + 1) (by omega) (by omega)).1
      unfold rnS at hp
      by_cases b1 : ty T (i + 1) = 30
      · rw [if_pos b1] at hp
        by_cases b2 : 0 ≤ fdGo Y (X 327) (tV T (i + 1)) (rmX X).toNat 0
        · rw [if_pos b2] at hp
          rw [← hp] at hp0
          dsimp only at hp0
          omega
        · omega
      · rw [if_neg b1] at hp
        rw [← hp] at hp0
        dsimp only at hp0
        omega
    have hnm : NMm (upY Y (rmX X).toNat (tV T (i + 1))) (U 327) (rmX X + 1) 326 328 n8 := by
      have := dm8.2.2.2
      rw [er] at this
      exact this
    have tex := th_ext (T := T) (i := a4.2.1 + 1) (f := 0) (a := i + 1) (b := st X 6) (cnt := rmX X) (Y := Y) (Y' := upY Y (rmX X).toNat (tV T (i + 1))) (W := X 327) (W' := U 327) (fun k => rfl) hW' (by omega) (by omega) (by omega) hfn (fun k hk => (hX.nm k hk).1)
    have hc19 : mm_gI n8 316 (if true = true then 19 else 18) = iI (rmX X + 1) := by
      rw [if_pos rfl, dm8.2.1.2.1, ← er]
      unfold rmX
      rw [iI_toInt]
    have hr9 : -1 ≤ fdGo (upY Y (rmX X).toNat (tV T (i + 1))) (U 327) (tV T (a4.2.1 + 1)) (rmX X + 1).toNat 0 ∧ fdGo (upY Y (rmX X).toNat (tV T (i + 1))) (U 327) (tV T (a4.2.1 + 1)) (rmX X + 1).toNat 0 ≤ 100 := fd_b _ _ (fun j j0 j1 => by
      rw [hW']
      by_cases b1 : j = (rmX X).toNat
      · rw [if_pos b1, iI_val (by omega) (by omega)]; omega
      · rw [if_neg b1]; exact hX.nm j (by omega))
    rw [show a4.2.2 = 0 from y.1] at h8
    obtain ⟨n9, e9, h9, g9⟩ := M186 (d := d - 1) (b := true) hT hE h8 (by omega) hc19 (by omega) (by omega) hnm hr9 (a := 0) (c := 6) (by omega) (by omega) (by omega) (by omega)
    rw [tex] at e9 h9
    have cue : cu = ((thS T Y (X 327) (rmX X) 0 6 (a4.2.1 + 1) 0).1, if 0 < (thS T Y (X 327) (rmX X) 0 6 (a4.2.1 + 1) 0).2 then a4.2.1 + 1 else a4.2.1 + 1 + 1, (thS T Y (X 327) (rmX X) 0 6 (a4.2.1 + 1) 0).2) := by rw [hcu]; unfold cuS; rw [if_pos y]
    have t9 : ∀ k, k < 117 → mm_gI n9 322 k = mm_gI m 322 k := fun k hk => by rw [g9.gI (scAt_o (by omega))]; exact t8 k hk
    obtain ⟨m3, e10, hm3⟩ := fin (v := (thS T Y (X 327) (rmX X) 0 6 (a4.2.1 + 1) 0).1) h9 t9
    rw [cue]
    dsimp only
    refine ⟨m3, ?_, by rw [hm3]; exact (h9.w (by omega)).w (by omega), fun hf => ?_, by rw [hm3]; exact ((gall.tr g9.AtM).tr (Fr.s322 (by omega))).tr (Fr.s322 (by omega))⟩
    · have e9' : mm_ev (d - 1) 186 0 [some (.ref 316), some (.int (iI 1)), some (.int (iI 0)), some (.int (iI 6)), none] [] n8 = some (some (some (.int (iI (thS T Y (X 327) (rmX X) 0 6 (a4.2.1 + 1) 0).1))), n9) := e9
      simp (disch := omega) only [shM h8.1.1, ↓reduceIte, not_false_eq_true, not_true_eq_false, and_self, and_true, true_and, false_and, and_false, or_true, true_or, or_false, false_or, or_self, reduceCtorEq, mm_q, Option.getD_some, cI_some, cJ_some, cV_some, cS_some, kd_sI, kd_sL, kd_sR, kd_cp, ln_sI, ln_sL, ln_sR, ln_cp, gR_sI, gR_sL, gR_sR, gR_cp, gL_sI, gL_sR, gL_cp, gI_sL, gI_sR, iI_add, iI_sub, iI_mul, iI_neg, iI_in, iI_tn, iI_lt, iI_eq, Nat.reduceLeDiff, Nat.reduceEqDiff, Nat.reduceAdd, Int.reduceEq, Int.reduceLT, Int.reduceLE, Int.reduceNeg, Int.reduceAdd, Int.reduceSub, Int.reduceMul, e9']
      exact e10
    · rw [hm3]
      have := ((dm8.at g9).w (j := 117 + 7 * st X 6 + 6) (v := iI (thS T Y (X 327) (rmX X) 0 6 (a4.2.1 + 1) 0).1) (by omega) (by omega)).w (j := 106) (v := iI (st X 6 + 1)) (by omega) (by omega)
      rw [← hU] at this
      exact this
  · rw [if_neg y] at h8
    rw [bI_0 y]
    have cue : cu = (-1, a4.2.1, a4.2.2) := by rw [hcu]; unfold cuS; rw [if_neg y]
    obtain ⟨m3, e10, hm3⟩ := fin (v := -1) h8 t8
    rw [cue]
    dsimp only
    refine ⟨m3, ?_, by rw [hm3]; exact (h8.w (by omega)).w (by omega), fun hf => ?_, by rw [hm3]; exact (gall.tr (Fr.s322 (by omega))).tr (Fr.s322 (by omega))⟩
    · simp (disch := omega) only [shM h8.1.1, ↓reduceIte, not_false_eq_true, not_true_eq_false, and_self, and_true, true_and, false_and, and_false, or_true, true_or, or_false, false_or, or_self, reduceCtorEq, mm_q, Option.getD_some, cI_some, cJ_some, cV_some, cS_some, kd_sI, kd_sL, kd_sR, kd_cp, ln_sI, ln_sL, ln_sR, ln_cp, gR_sI, gR_sL, gR_sR, gR_cp, gL_sI, gL_sR, gL_cp, gI_sL, gI_sR, iI_add, iI_sub, iI_mul, iI_neg, iI_in, iI_tn, iI_lt, iI_eq, Nat.reduceLeDiff, Nat.reduceEqDiff, Nat.reduceAdd, Int.reduceEq, Int.reduceLT, Int.reduceLE, Int.reduceNeg, Int.reduceAdd, Int.reduceSub, Int.reduceMul]
      exact e10
    · rw [hm3]
      exact (((dm7 (ha4f hf)).at g8).w (j := 117 + 7 * st X 6 + 6) (v := iI (-1)) (by omega) (by omega)).w (j := 106) (v := iI (st X 6 + 1)) (by omega) (by omega)
end
