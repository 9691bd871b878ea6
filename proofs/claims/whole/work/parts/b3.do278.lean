/-- a method that catches, met -/
theorem mm_ofWH {l : Launch} {y : MethodName} {ws ws' : List Cond} {rm : Room} {Pc : Array Value → State → Prop} {Qc : Array Value → State → Outcome → State → Prop} {mc ms : Nat} {free : Addr → Prop} {cc : ByteArray} {maxL : Nat} {ret : Option FieldType} {hh : List (Nat × Nat × Nat × Nat)}
    (hy : plainName y.cls = true) (hw : ws = Cond.codeWith y cc maxL ret hh :: ws')
    (body : ∀ p e s m args below meth c s₁, BodyLoose p l y (headSpec ws rm) cc maxL ret e s m args below meth c s₁ → c.maxLocals = maxL → Pc args s →
      W p l e (headSpec ws rm).room s m args below meth c s.heap [] 0 0 (MQ below Qc args s mc ms free) (entryFrame m args maxL)) : Met l y ws rm Pc Qc mc ms free := by
  refine MetFree.of_bodyS (code := cc) (maxLocals := maxL) (ret := ret) hy ?_ ?_
  · intro args s m h hn
    obtain ⟨m9, meth, c, hn9, h1, h2, h3, h4, -, h5, h6, -⟩ := Cond.codeWith_spec (atoms_spec (ws := ws) h _ (by rw [hw]; exact List.mem_cons_self))
    cases hn.symm.trans hn9
    exact ⟨meth, c, h1, h2, h3, h4, h5, h6⟩
  · intro p e s m args below meth c s₁ B hml hP _
    have hh0 : s₁.heap = s.heap := by rw [B.state]; rfl
    obtain ⟨t, a1, o, b1, b2, b3⟩ := body p e s m args below meth c s₁ B hml hP s₁ hh0 (Stand.of_body B)
    exact ⟨t, o, a1, b1, b2, ⟨b3.1, b3.2⟩⟩
def my_ww : List Cond := Cond.codeWith (mm_y 278) (mm_b 278) (mm_mx 278) (mm_rt 278) [(0, 9, 12, 13)] :: mm_g
/-- what the law's helper makes of laws -/
def my_hlp (o : Nat) (y : mm_R) (w : Int32) (m2 : mm_M) : Prop := (∃ r0 : Int32, y.1 = some (some (.int r0)) ∧ mm_okO y.2 o = true ∧ w = 0 ∧ m2 = mm_sL y.2 o 0 r0.toInt64) ∨ (y.1 = none ∧ w = 1 ∧ m2 = y.2)
theorem my_hlp_n {o : Nat} {y : mm_R} {w : Int32} {m2 : mm_M} (h : my_hlp o y w m2) : mm_nc m2 = mm_nc y.2 ∧ mm_ns m2 = mm_ns y.2 := by
  rcases h with ⟨r0, -, -, -, rfl⟩ | ⟨-, -, rfl⟩ <;> exact ⟨rfl, rfl⟩
theorem my_cl278 : plainName (mm_y 278).cls = true ∧ (mm_y 278).cls = mm_cn (mm_ow 278) ∧ mm_cn (mm_ow 278) = "SamePassersLaw" ∧ mm_mx 278 = 4 ∧ mm_rt 278 = some .int ∧ (mm_y 154).cls = "SamePassers" := by decide +kernel
theorem my_l278 : (mm_ow 278, 7, 154) ∈ mm_ml ∧ 154 ∈ mm_in1 ∧ 154 ∈ mm_vi ∧ 154 ∈ mm_ck ∧ mm_na 154 = 1 ∧ mm_ow 154 = 11 := by decide +kernel
theorem my_cst : Cond.castable "java/util/NoSuchElementException" "java/util/NoSuchElementException" ∈ mm_xw := by decide +kernel
theorem my_LS0 {ad : Nat → Nat} {ls : Array Slot} {lv : List (Nat × Value)} (h : lv_has ls 4 lv) : mm_LS ad 4 ls [none, none, none, none] := ⟨rfl, h.1, h.2.1, fun q hq => by
  obtain ⟨v, h1, -⟩ := mm_as_mem.mp hq
  have h2 : ([none, none, none, none] : mm_L)[q.1]? = some (some v) := h1
  match q, h2 with
  | (0, _), h2 => cases h2
  | (1, _), h2 => cases h2
  | (2, _), h2 => cases h2
  | (3, _), h2 => cases h2
  | (_ + 4, _), h2 => cases h2⟩
section H278
variable {l : Launch} {D : va_G} {cA : Nat → ClassId} {N0 : Nat} {sp : Nat → Nat}
theorem mm_met278 {d x o : Nat} {v w : Int32} {m m2 : mm_M} {y : mm_R} (hls : l.stackTraces = false) (hd6 : 6 ≤ d) (hkx : mm_kdo m x = 11) (har : (mm_ar [Value.ref x, .int v]).length ≤ mm_mx 154) (hF : mm_Fr d 154 0 (mm_en 154 [.ref x, .int v]) [] m y) (hgr : mm_gr m y.2) (hy : my_hlp o y w m2) :
    Met l (mm_y 278) my_ww (mm_rm (d + 1) (mm_nc m2 - mm_nc m) (mm_ns m2 - mm_ns m)) (mm_Pc D cA N0 sp m [.ref x, .int v, .ref o]) (mm_Qc D cA N0 sp m2 (some (.int w))) (mm_nc m2 - mm_nc m) (mm_ns m2 - mm_ns m) (fun x => N0 ≤ x) := by
  obtain ⟨c1, c2, c3, c4, c5, c6⟩ := my_cl278
  obtain ⟨l1, l2, l3, l4, l5, l6⟩ := my_l278
  obtain ⟨hn1, hn2⟩ := my_hlp_n hy
  have g1 := hgr.1
  have g2 := hgr.2
  refine mm_ofWH (cc := mm_b 278) (maxL := mm_mx 278) (ret := mm_rt 278) (hh := [(0, 9, 12, 13)]) c1 rfl ?_
  intro p e s mid args below meth c s₁ B hml hv
  obtain ⟨rfl, hAt, hHp, hN, hz⟩ := hv
  have hts := atoms_spec (ws := my_ww) B.pre
  have hown := findClass_of_methodNamed B.named
  rw [c2] at hown
  have htg : ∀ w ∈ mm_g, w.before (([Value.ref x, .int v, .ref o].map (mm_tr (mm_ad N0 sp))).toArray) s = true := fun w hw => hts w (List.mem_cons_of_mem _ hw)
  have htab := vx_table (x := mm_y 278) B (hts _ List.mem_cons_self)
  have C : mm_Cx p s mid (([Value.ref x, .int v, .ref o].map (mm_tr (mm_ad N0 sp))).toArray) meth c (mm_rm (d + 1) (mm_nc m2 - mm_nc m) (mm_ns m2 - mm_ns m)) 278 D cA N0 sp (mm_nc m) := ⟨B.exec, B.bytes, hml, hown, htg, (name_of_methodNamed B.named B.method).1, hAt, ⟨Nat.le_add_left _ _, Nat.le_add_right _ _⟩, hN, hz⟩
  rw [lg_entry_eq]
  have hLS := mm_en_LS (ad := mm_ad N0 sp) (k := 278) (as := [.ref x, .int v, .ref o]) (by rw [c4]; exact (show (3 : Nat) ≤ 4 by decide))
  have eL : mm_en 278 [.ref x, .int v, .ref o] = [some (.ref x), some (.int v), some (.ref o), none] := by
    unfold mm_en
    rw [c4]
    rfl
  rw [eL] at hLS
  have a0 : ∀ pc, mm_at 278 pc = mm_lk mm_c278 pc := fun pc => by unfold mm_at; rw [tb_278]
  generalize hL0 : ([some (.ref x), some (.int v), some (.ref o), none] : mm_L) = L0 at hLS
  have f0 : mm_step 278 (.aload_n 2, 1, 0, 0, 0) 0 L0 [] m = some (.inl (1, L0, [.ref o], m)) := by rw [← hL0]; rfl
  have f1 : mm_step 278 (.iconst 0, 1, 0, 0, 0) 1 L0 [.ref o] m = some (.inl (2, L0, [.int (Int32.ofInt 0), .ref o], m)) := rfl
  have f2 : mm_step 278 (.aload_n 0, 1, 0, 0, 0) 2 L0 [.int (Int32.ofInt 0), .ref o] m = some (.inl (3, L0, [.ref x, .int (Int32.ofInt 0), .ref o], m)) := by rw [← hL0]; rfl
  have f3 : mm_step 278 (.iload_n 1, 1, 0, 0, 0) 3 L0 [.ref x, .int (Int32.ofInt 0), .ref o] m = some (.inl (4, L0, [.int v, .ref x, .int (Int32.ofInt 0), .ref o], m)) := by rw [← hL0]; rfl
  refine mm_one (sb := mm_ns m) C ((a0 0).trans rfl) f0 (Nat.le_add_right _ _) (Nat.le_add_right _ _) hHp va_S.rf hLS rfl rfl (fun H1 lo1 ls1 ce1 sl1 hH1 hS1 hL1 hc1 hs1 => ?_)
  refine mm_one (sb := mm_ns m) C ((a0 1).trans rfl) f1 (Nat.le_add_right _ _) (Nat.le_add_right _ _) hH1 hS1 hL1 hc1 hs1 (fun H2 lo2 ls2 ce2 sl2 hH2 hS2 hL2 hc2 hs2 => ?_)
  refine mm_one (sb := mm_ns m) C ((a0 2).trans rfl) f2 (Nat.le_add_right _ _) (Nat.le_add_right _ _) hH2 hS2 hL2 hc2 hs2 (fun H3 lo3 ls3 ce3 sl3 hH3 hS3 hL3 hc3 hs3 => ?_)
  refine mm_one (sb := mm_ns m) C ((a0 3).trans rfl) f3 (Nat.le_add_right _ _) (Nat.le_add_right _ _) hH3 hS3 hL3 hc3 hs3 (fun H4 lo4 ls4 ce4 sl4 hH4 hS4 hL4 hc4 hs4 => ?_)
  dsimp only at hH4 hL4 hc4 hs4 ⊢
  obtain ⟨hpl, hcn, q1, q2, hna, hini, hm31⟩ := mm_kok_of l4
  intro T hT X
  have hup : H4.size ≤ N0 + mm_nc m := by
    have h2 := X.heapSize
    rw [hT] at h2
    omega
  have hlow : N0 ≤ H4.size := Nat.le_trans hN hS4.1
  have hpre : ∀ U : State, U.heap = H4 → s.WarmedH U.vm → mm_Pc D cA N0 sp m [.ref x, .int v] (([Value.ref x, .int v].map (mm_tr (mm_ad N0 sp))).toArray) U := fun U hU hW => ⟨rfl, hAt.warm hW, by rw [hU]; exact hH4.moved hW.alike, by rw [hU]; exact hlow, by rw [hU]; exact hup⟩
  have hsx : ∃ sh, mm_sh m x = some sh ∧ sh.1 = mm_ow 154 := by
    unfold mm_kdo at hkx
    split at hkx
    · next sh hsh => exact ⟨sh, hsh, by rw [l6]; exact hkx⟩
    · cases hkx
  obtain ⟨sh, hsh, hs1'⟩ := hsx
  have h13 : mm_ow 154 < 13 := by rw [l6]; decide
  have hrec : ∃ cell : Cell, H4[mm_ad N0 sp x]? = some cell ∧ cell.vm.isStatics = false ∧ s.vm.findClass (mm_y 154).cls = some cell.cls := by
    obtain ⟨ha, hm1⟩ := mm_sh_ob hsh (by omega) (by omega)
    have hg := mm_ws_get (ad := mm_ad N0 sp) (cA := cA) ha hm1
    rw [mm_cel_ob (by omega), hs1'] at hg
    have hrec := va_recv hAt.1 hH4.1 (mm_vw _ h13) hg
    rw [← hcn] at hrec
    exact hrec
  have hM := mm_metY (l := l) (D := D) (cA := cA) (N0 := N0) (sp := sp) hls har hd6 hF hgr
  have cw := cwV (R := mm_rm (d + 1) (mm_nc m2 - mm_nc m) (mm_ns m2 - mm_ns m)) (own := mm_cn (mm_ow 278)) (index := 7) (C := (mm_y 154).cls) (mm_na 154) htg (mm_gi (a := wsV (mm_cn (mm_ow 278)) 7 (mm_y 154).cls (mm_y 154) (mm_wk 154)) (fun w hw => by
    unfold wsV at hw
    rcases List.mem_append.mp hw with h | h
    · simp only [List.mem_cons, List.not_mem_nil, or_false] at h
      rcases h with rfl | rfl | rfl | rfl
      · exact mm_g_in (mm_ml_w _ l1) rfl
      · exact mm_g_in (mm_in1_w _ l2) rfl
      · exact mm_g_in (mm_vi_w _ l3) rfl
      · exact hini
    · exact (mm_wk_good l4 w h).1)) rfl (rm := mm_rm d (mm_nc y.2 - mm_nc m) (mm_ns y.2 - mm_ns m)) rfl rfl ⟨rfl, q1, q2, hna⟩ ⟨Nat.le_refl _, by
    show 8 + (mm_mx 154 + 11) + (100 + 50 * d) ≤ 100 + 50 * (d + 1)
    omega⟩
  have hrun := vx_runV (p := p) (l := l) (e := e) (below := below) (meth := meth) (H := H4) (locs := lo4) (cells := ce4) (slots := sl4) (b := mm_ad N0 sp x) (As := [.int v]) (rest := [.int (Int32.ofInt 0), .ref (mm_ad N0 sp o)]) (g := F0 mid 4 ls4 (([Value.int v, .ref x, .int (Int32.ofInt 0), .ref o]).map (mm_tr (mm_ad N0 sp)))) ⟨B.exec, B.bytes, hml, hown, htg⟩ hM cw ⟨mm_Pc_blind, hrec, hpre⟩ rfl (by rw [l5]; rfl) hL4.2.1 rfl (lv_room (show (2 : Nat) ≤ 8 by decide)) (mm_dc ((a0 4).trans rfl) (fun z => by cases z)) ⟨by
    show ce4 + (mm_nc y.2 - mm_nc m) ≤ mm_nc m2 - mm_nc m
    omega, by
    show sl4 + (mm_ns y.2 - mm_ns m) ≤ mm_ns m2 - mm_ns m
    omega⟩
  rcases hrun T hT X with ⟨v2, st₀, t, T', L2, h0, X', hL2', e1, e2, ⟨v9, hy9, hv9, hp9, hz9, hk9⟩, st⟩ | ⟨q, st₀, t, T', L2, E, ce, h0, X', hL2', e1, e2, ⟨hy9, hE, hp9, hz9, hk9⟩, hce, hcv, hcl, st⟩
  · rcases hy with ⟨r0, hr0, hok, rfl, rfl⟩ | ⟨hr0, -, -⟩
    rotate_left
    · rw [hr0] at hy9; cases hy9
    rw [hr0] at hy9
    cases hy9
    cases hv9
    rw [h0] at hz9 hk9
    have hal : t.vm.Alike s.vm := by rw [← e2]; exact X'.warmed.alike.symm
    have hH5 : mm_Hp D cA N0 sp y.2 s T'.heap := by rw [e1]; exact hp9.moved hal
    have hS5 : va_S (fun x => N0 ≤ x) s.heap T'.heap (lo4 ++ L2) := ⟨Nat.le_trans hS4.1 (by rw [e1]; exact hz9), fun q h1 h2 => by
      rw [e1, hk9 q (Nat.lt_of_lt_of_le h1 hS4.1) h2]
      exact hS4.2.1 q h1 h2, fun q hq => by
      rcases List.mem_append.mp hq with h | h
      · exact hS4.2.2 q h
      · exact hL2' q h⟩
    have f7 : mm_step 278 (.i2l, 1, 0, 0, 0) 7 L0 [.int r0, .int (Int32.ofInt 0), .ref o] y.2 = some (.inl (8, L0, [.long r0.toInt64, .int (Int32.ofInt 0), .ref o], y.2)) := rfl
    have f8 : mm_step 278 (.lastore, 1, 0, 0, 0) 8 L0 [.long r0.toInt64, .int (Int32.ofInt 0), .ref o] y.2 = some (.inl (9, L0, [], mm_sL y.2 o 0 r0.toInt64)) := by
      unfold mm_okO at hok
      split at hok
      · next so hso =>
        rw [Bool.and_eq_true, decide_eq_true_eq, decide_eq_true_eq] at hok
        show mm_lst 9 L0 [.long r0.toInt64, .int (Int32.ofInt 0), .ref o] y.2 = _
        unfold mm_lst
        dsimp only
        rw [hso]
        dsimp only
        rw [if_pos ⟨hok.1, by
          unfold mm_in
          rw [decide_eq_true_eq]
          rintro (h | h)
          · exact absurd h (by decide)
          · have : (Int32.ofInt 0).toNatClampNeg = 0 := by decide
            omega⟩]
        rfl
      · cases hok
    have f9 : mm_step 278 (.goto 6, 3, 15, 0, 0) 9 L0 [] (mm_sL y.2 o 0 r0.toInt64) = some (.inl (15, L0, [], mm_sL y.2 o 0 r0.toInt64)) := rfl
    have f15 : mm_step 278 (.iconst 0, 1, 0, 0, 0) 15 L0 [] (mm_sL y.2 o 0 r0.toInt64) = some (.inl (16, L0, [.int (Int32.ofInt 0)], mm_sL y.2 o 0 r0.toInt64)) := rfl
    have f16 : mm_step 278 (.ireturn, 1, 0, 0, 0) 16 L0 [.int (Int32.ofInt 0)] (mm_sL y.2 o 0 r0.toInt64) = some (.inr (.inr (.inl (some (.int 0))))) := by
      show mm_ret (mm_isZ 278) [.int (Int32.ofInt 0)] = _
      rw [mz_278]
      rfl
    have nl : mm_nc (mm_sL y.2 o 0 r0.toInt64) = mm_nc y.2 := rfl
    have sl : mm_ns (mm_sL y.2 o 0 r0.toInt64) = mm_ns y.2 := rfl
    have k : W p l e (mm_rm (d + 1) (mm_nc (mm_sL y.2 o 0 r0.toInt64) - mm_nc m) (mm_ns (mm_sL y.2 o 0 r0.toInt64) - mm_ns m)) s mid (([Value.ref x, .int v, .ref o].map (mm_tr (mm_ad N0 sp))).toArray) below meth c T'.heap (lo4 ++ L2) (ce4 + (mm_nc y.2 - mm_nc m)) (sl4 + (mm_ns y.2 - mm_ns m)) (MQ below (mm_Qc D cA N0 sp (mm_sL y.2 o 0 r0.toInt64) (some (.int 0))) (([Value.ref x, .int v, .ref o].map (mm_tr (mm_ad N0 sp))).toArray) s (mm_nc (mm_sL y.2 o 0 r0.toInt64) - mm_nc m) (mm_ns (mm_sL y.2 o 0 r0.toInt64) - mm_ns m) (fun x => N0 ≤ x)) (F0 mid 7 ls4 (([Value.int r0, .int (Int32.ofInt 0), .ref o]).map (mm_tr (mm_ad N0 sp)))) := by
      have b1 : mm_nc y.2 ≤ mm_nc m + (mm_rm (d + 1) (mm_nc (mm_sL y.2 o 0 r0.toInt64) - mm_nc m) (mm_ns (mm_sL y.2 o 0 r0.toInt64) - mm_ns m)).cells := by
        show mm_nc y.2 ≤ mm_nc m + (mm_nc (mm_sL y.2 o 0 r0.toInt64) - mm_nc m)
        omega
      have b2 : mm_ns y.2 ≤ mm_ns m + (mm_rm (d + 1) (mm_nc (mm_sL y.2 o 0 r0.toInt64) - mm_nc m) (mm_ns (mm_sL y.2 o 0 r0.toInt64) - mm_ns m)).slots := by
        show mm_ns y.2 ≤ mm_ns m + (mm_ns (mm_sL y.2 o 0 r0.toInt64) - mm_ns m)
        omega
      refine mm_one (sb := mm_ns m) C ((a0 7).trans rfl) f7 b1 b2 hH5 hS5 hL4 (by omega) (by omega) (fun H6 lo6 ls6 ce6 sl6 hH6 hS6 hL6 hc6 hs6 => ?_)
      refine mm_one (sb := mm_ns m) C ((a0 8).trans rfl) f8 b1 b2 hH6 hS6 hL6 hc6 hs6 (fun H7 lo7 ls7 ce7 sl7 hH7 hS7 hL7 hc7 hs7 => ?_)
      refine mm_one (sb := mm_ns m) C ((a0 9).trans rfl) f9 b1 b2 hH7 hS7 hL7 hc7 hs7 (fun H8 lo8 ls8 ce8 sl8 hH8 hS8 hL8 hc8 hs8 => ?_)
      refine mm_one (sb := mm_ns m) C ((a0 15).trans rfl) f15 b1 b2 hH8 hS8 hL8 hc8 hs8 (fun H9 lo9 ls9 ce9 sl9 hH9 hS9 hL9 hc9 hs9 => ?_)
      dsimp only at hc9 hs9
      exact mm_exit C B.returns B.notSynchronized ((a0 16).trans rfl) f16 hH9 hS9 (by omega) (by omega)
    obtain ⟨t2, a1, b1⟩ := k T' rfl X'
    exact ⟨t2, st t2 a1, b1⟩
  · rcases hy with ⟨r0, hr0, -, -, -⟩ | ⟨hr0, rfl, rfl⟩
    · rw [hr0] at hy9; cases hy9
    subst hE
    rw [h0] at hz9 hk9
    have hal : t.vm.Alike s.vm := by rw [← e2]; exact X'.warmed.alike.symm
    have hH5 : mm_Hp D cA N0 sp y.2 s T'.heap := by rw [e1]; exact hp9.moved hal
    have hS5 : va_S (fun x => N0 ≤ x) s.heap T'.heap (lo4 ++ L2) := ⟨Nat.le_trans hS4.1 (by rw [e1]; exact hz9), fun q h1 h2 => by
      rw [e1, hk9 q (Nat.lt_of_lt_of_le h1 hS4.1) h2]
      exact hS4.2.1 q h1 h2, fun q hq => by
      rcases List.mem_append.mp hq with h | h
      · exact hS4.2.2 q h
      · exact hL2' q h⟩
    have f13 : mm_step 278 (.iconst 1, 1, 0, 0, 0) 13 [none, none, none, none] [] y.2 = some (.inl (14, [none, none, none, none], [.int (Int32.ofInt 1)], y.2)) := rfl
    have f14 : mm_step 278 (.ireturn, 1, 0, 0, 0) 14 [none, none, none, none] [.int (Int32.ofInt 1)] y.2 = some (.inr (.inr (.inl (some (.int 1))))) := by
      show mm_ret (mm_isZ 278) [.int (Int32.ofInt 1)] = _
      rw [mz_278]
      rfl
    have k := vx_catch (p := p) (l := l) (e := e) (R := mm_rm (d + 1) (mm_nc y.2 - mm_nc m) (mm_ns y.2 - mm_ns m)) (args := (([Value.ref x, .int v, .ref o].map (mm_tr (mm_ad N0 sp))).toArray)) (below := below) (meth := meth) (H := T'.heap) (locs := lo4 ++ L2) (cells := ce4 + (mm_nc y.2 - mm_nc m)) (slots := sl4 + (mm_ns y.2 - mm_ns m)) (Q := MQ below (mm_Qc D cA N0 sp y.2 (some (.int 1))) (([Value.ref x, .int v, .ref o].map (mm_tr (mm_ad N0 sp))).toArray) s (mm_nc y.2 - mm_nc m) (mm_ns y.2 - mm_ns m) (fun x => N0 ≤ x)) (pc := 4) (ls := ls4) (rest := [.int (Int32.ofInt 0), .ref (mm_ad N0 sp o)]) (name := "java/util/NoSuchElementException") hown [] ⟨0, 9, 12, 13⟩ [] htab (fun z hz => by cases hz) rfl (by decide) (by rw [c3]; exact htg _ mm_w_xc) (va_Nw.use (List.all_eq_true.mp mm_xat_on _ my_cst) (hAt.2.2.2.2.2.2.2 _ my_cst)) (by rw [e1]; exact hce) hcv hcl (by
      refine lv_astore_n B.exec B.bytes (mm_dc ((a0 12).trans rfl) (fun z => by cases z)) rfl hL4.2 (by rw [c4]; decide) rfl (fun ls5 h5 => ?_)
      rw [c4] at h5
      refine mm_one (S := []) (sb := mm_ns m) C ((a0 13).trans rfl) f13 (by show mm_nc y.2 ≤ mm_nc m + (mm_nc y.2 - mm_nc m); omega) (by show mm_ns y.2 ≤ mm_ns m + (mm_ns y.2 - mm_ns m); omega) hH5 hS5 (by rw [c4]; exact my_LS0 h5) (by omega) (by omega) (fun H9 lo9 ls9 ce9 sl9 hH9 hS9 hL9 hc9 hs9 => ?_)
      dsimp only at hc9 hs9
      exact mm_exit C B.returns B.notSynchronized ((a0 14).trans rfl) f14 hH9 hS9 (by omega) (by omega))
    obtain ⟨t2, a1, b1⟩ := k T' rfl X'
    exact ⟨t2, st.trans a1, b1⟩
end H278
