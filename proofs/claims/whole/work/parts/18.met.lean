theorem mm_gi {a : List Cond} (h : ∀ w ∈ a, w ∈ mm_g) : GoodIn mm_g a := fun w hw => mm_g_self w (h w hw)
theorem mm_met {l : Launch} {D : va_G} {cA : Nat → ClassId} {N0 : Nat} {sp : Nat → Nat} {d k : Nat} {as : List Value} {m m' : mm_M} {v : Option Value} (hls : l.stackTraces = false) (hk : k ∈ mm_ck) (har : (mm_ar as).length ≤ mm_mx k) (hF : mm_Fr d k 0 (mm_en k as) [] m (some v, m')) (hgr : mm_gr m m') :
    Met l (mm_y k) (mm_wk k) (mm_rm d (mm_nc m' - mm_nc m) (mm_ns m' - mm_ns m)) (mm_Pc D cA N0 sp m as) (mm_Qc D cA N0 sp m' v) (mm_nc m' - mm_nc m) (mm_ns m' - mm_ns m) (fun x => N0 ≤ x) := by
  obtain ⟨hpl, hcn, -, -, -, -, -⟩ := mm_kok_of hk
  refine Met.ofW (cc := mm_b k) (maxL := mm_mx k) (ret := mm_rt k) hpl rfl ?_
  intro p e s mid args below meth c s₁ B hml hv
  obtain ⟨rfl, hAt, hHp, hN, hz⟩ := hv
  have hts := atoms_spec (ws := mm_wk k) B.pre
  have hown := findClass_of_methodNamed B.named
  rw [hcn] at hown
  have C : mm_Cx p s mid ((as.map (mm_tr (mm_ad N0 sp))).toArray) meth c (mm_rm d (mm_nc m' - mm_nc m) (mm_ns m' - mm_ns m)) k D cA N0 sp (mm_nc m) := ⟨B.exec, B.bytes, hml, hown, fun w hw => hts w (List.mem_cons_of_mem _ hw), (name_of_methodNamed B.named B.method).1, hAt, ⟨Nat.le_add_left _ _, Nat.le_add_right _ _⟩, hN, hz⟩
  rw [lg_entry_eq]
  have g1 := hgr.1
  have g2 := hgr.2
  refine hF p l e (mm_rm d (mm_nc m' - mm_nc m) (mm_ns m' - mm_ns m)) s mid _ below meth c _ D cA N0 sp (mm_nc m) (mm_ns m) s.heap [] 0 0 _ hls C (Nat.le_refl _) (Nat.le_refl _) hHp va_S.rf (mm_en_LS har) rfl rfl ?_ ?_ ?_
  · show mm_nc m' ≤ mm_nc m + (mm_nc m' - mm_nc m)
    omega
  · show mm_ns m' ≤ mm_ns m + (mm_ns m' - mm_ns m)
    omega
  · intro pc' e' L' S' m0 o H' locs' ls' cells' slots' he hst hr hH hS hL hc hsl
    cases o with
    | inr u => cases hr
    | inl v' =>
      cases hr
      exact mm_exit C B.returns B.notSynchronized he hst hH hS (by omega) (by omega)
section CALL2
variable {p : Program} {l : Launch} {e : Env} {R : Room} {s : State} {mid : MethodId} {args : Array Value} {below : List Frame} {meth : Method} {c : Code} {Q : State → Prop} {D : va_G} {cA : Nat → ClassId} {N0 : Nat} {sp : Nat → Nat} {j nb sb : Nat}
variable {H : Heap} {locs : List Loc} {cells slots pc : Nat} {ls : Array Slot} {L : mm_L} {S : List Value} {m : mm_M}
theorem mm_goon {v : Option Value} {m' : mm_M} {mc ms : Nat} {st0 rest : List Value} {aa : Array Value} (hr : va_Run p l e R s mid args below meth c H locs cells slots mc ms (F0 mid pc ls st0) rest (mm_Qc D cA N0 sp m' v aa) (fun x => N0 ≤ x)) (hS : va_S (fun x => N0 ≤ x) s.heap H locs)
    (kk : ∀ (H1 : Heap) (locs1 : List Loc), mm_Hp D cA N0 sp m' s H1 → va_S (fun x => N0 ≤ x) s.heap H1 locs1 → W p l e R s mid args below meth c H1 locs1 (cells + mc) (slots + ms) Q (F0 mid (pc + 3) ls ((mm_trO (mm_ad N0 sp) v).toList ++ rest))) : W p l e R s mid args below meth c H locs cells slots Q (F0 mid pc ls st0) := by
  intro T hT X
  obtain ⟨v2, st₀, t, T', L2, h0, X', hL, e1, e2, ⟨hv, hp, hz, hk⟩, st⟩ := hr T hT X
  cases hv
  rw [h0] at hz hk
  have hal : t.vm.Alike s.vm := by rw [← e2]; exact X'.warmed.alike.symm
  obtain ⟨t2, a1, b1⟩ := kk T'.heap (locs ++ L2) (by rw [e1]; exact hp.moved hal) ⟨Nat.le_trans hS.1 (by rw [e1]; exact hz), fun q h1 h2 => by
      rw [e1, hk q (Nat.lt_of_lt_of_le h1 hS.1) h2]
      exact hS.2.1 q h1 h2, fun q hq => by
      rcases List.mem_append.mp hq with h | h
      · exact hS.2.2 q h
      · exact hL q h⟩ T' rfl X'
  exact ⟨t2, st t2 a1, b1⟩
theorem mm_do {d k pc' : Nat} {e9 : mm_E} {as S' : List Value} {v : Option Value} {m' : mm_M} (hls : l.stackTraces = false) (C : mm_Cx p s mid args meth c R j D cA N0 sp nb) (he : mm_at j pc = some e9) (hst : mm_step j e9 pc L S m = some (.inr (.inl (k, as, S', pc')))) (hk8 : ¬ k = 278) (hd1 : d + 2 ≤ R.frames) (hd2 : 100 + 50 * (d + 1) ≤ R.locals) (hF : mm_Fr d k 0 (mm_en k as) [] m (some v, m')) (hgr : mm_gr m m') (hrm : mm_nc m' ≤ nb + R.cells) (hrs : mm_ns m' ≤ sb + R.slots)
    (hH : mm_Hp D cA N0 sp m s H) (hS : va_S (fun x => N0 ≤ x) s.heap H locs) (hL : mm_LS (mm_ad N0 sp) (mm_mx j) ls L) (hc : mm_nc m = nb + cells) (hsl : mm_ns m = sb + slots) (kk : mm_KK p l e R s mid args below meth c Q D cA N0 sp j nb sb (pc', L, v.toList ++ S', m')) :
    W p l e R s mid args below meth c H locs cells slots Q (F0 mid pc ls (S.map (mm_tr (mm_ad N0 sp)))) := by
  obtain ⟨hx, hb, hml, hown, hts, hnm, hAt, hR, hN, hz⟩ := C
  obtain ⟨i, n, r1, r2, r3⟩ := e9
  obtain ⟨hdc, hok, -⟩ := mm_at_ok he
  obtain ⟨hg1, hg2⟩ := hgr
  rcases mm_step_cls hst with hi | ⟨ix, rfl, rfl, rfl⟩ | ⟨ix, hi, h9⟩
  · exfalso
    rcases hi with rfl | rfl | rfl
    · have h9 : mm_ret (mm_isZ j) S = some (.inr (.inl (k, as, S', pc'))) := hst
      unfold mm_ret at h9
      split at h9
      · split at h9 <;> cases h9
      · cases h9
    · have h9 : mm_lrt S = some (.inr (.inl (k, as, S', pc'))) := hst
      unfold mm_lrt at h9
      split at h9 <;> cases h9
    · cases S with
      | nil => cases hst
      | cons a b => cases hst
  · have h9 : (some (.inr (.inr (.inr ()))) : Option mm_O) = some (.inr (.inl (k, as, S', pc'))) := hst
    cases h9
  · obtain ⟨⟨hl, hs8, har⟩, ho, hkd⟩ := mm_inv_call h9
    cases ho
    intro T hT X
    have hup : H.size ≤ N0 + mm_nc m := by
      have h2 := X.heapSize
      rw [hT] at h2
      omega
    have hlow : N0 ≤ H.size := Nat.le_trans hN hS.1
    have hpre : ∀ U : State, U.heap = H → s.WarmedH U.vm → mm_Pc D cA N0 sp m (S.take r2).reverse (((S.take r2).reverse.map (mm_tr (mm_ad N0 sp))).toArray) U := fun U hU hW => ⟨rfl, hAt.warm hW, by rw [hU]; exact hH.moved hW.alike, by rw [hU]; exact hlow, by rw [hU]; exact hup⟩
    have hstk : S.map (mm_tr (mm_ad N0 sp)) = ((S.take r2).reverse.map (mm_tr (mm_ad N0 sp))).reverse ++ (S.drop r2).map (mm_tr (mm_ad N0 sp)) := by
      rw [List.map_reverse, List.reverse_reverse, ← List.map_append, List.take_append_drop]
    have hrm8 : ((S.drop r2).map (mm_tr (mm_ad N0 sp))).map (fun v => v.category) = (S.drop r2).map (fun v => v.category) := by
      rw [List.map_map]
      exact List.map_congr_left (fun v _ => mm_tr_cat _ v)
    have hro : 2 * (F0 mid pc ls (S.map (mm_tr (mm_ad N0 sp)))).monitorRoom + (((S.drop r2).map (mm_tr (mm_ad N0 sp))).map fun v => v.category).sum ≤ 8 := lv_room (by rw [hrm8]; exact hs8)
    have fin : ∀ (H1 : Heap) (locs1 : List Loc), mm_Hp D cA N0 sp m' s H1 → va_S (fun x => N0 ≤ x) s.heap H1 locs1 → W p l e R s mid args below meth c H1 locs1 (cells + (mm_nc m' - mm_nc m)) (slots + (mm_ns m' - mm_ns m)) Q (F0 mid (pc + 3) ls ((mm_trO (mm_ad N0 sp) v).toList ++ (S.drop r2).map (mm_tr (mm_ad N0 sp)))) := by
      intro H1 locs1 hH1 hS1
      have k9 := kk H1 locs1 ls (cells + (mm_nc m' - mm_nc m)) (slots + (mm_ns m' - mm_ns m)) hH1 hS1 hL (by dsimp only; omega) (by dsimp only; omega)
      dsimp only at k9
      rw [mm_trO_l] at k9
      exact k9
    have hmx : ∀ k9 : Nat, mm_mx k9 ≤ 31 → 8 + (mm_mx k9 + 11) + (100 + 50 * d) ≤ R.locals := fun k9 h => by omega
    have hfr : d + 1 + 1 ≤ R.frames := hd1
    have hcs : cells + (mm_nc m' - mm_nc m) ≤ R.cells ∧ slots + (mm_ns m' - mm_ns m) ≤ R.slots := ⟨by omega, by omega⟩
    rcases hi with rfl | rfl | rfl
    · have hd := mm_dc he (fun z => by cases z)
      have hkd2 : r3 = 0 ∨ r3 = 1 := by
        rcases hkd with (h | h | h) | ⟨h, -⟩ | ⟨h | h, -⟩
        · exact Or.inl h
        · exact Or.inr h
        · subst h
          simp [mm_ok] at hok
          exact absurd hok.1.2 hk8
        · subst h; simp [mm_ok] at hok
        · subst h; simp [mm_ok] at hok
        · subst h; simp [mm_ok] at hok
      have hok2 : ((((mm_ml.contains (mm_ow j, ix, k) && mm_si.contains k) && mm_ck.contains k) && decide (r2 = mm_na k)) && decide (¬ k = 278)) = true := by
        unfold mm_ok at hok
        dsimp only at hok
        rw [if_pos hkd2] at hok
        exact hok
      simp only [Bool.and_eq_true, decide_eq_true_eq] at hok2
      obtain ⟨⟨⟨⟨o1, o2⟩, o3⟩, o4⟩, -⟩ := hok2
      have hkm := List.contains_iff_mem.mp o3
      obtain ⟨hpl, hcn, hn1, hn2, hna, hini, hm31⟩ := mm_kok_of hkm
      have hM := mm_met (l := l) (D := D) (cA := cA) (N0 := N0) (sp := sp) hls hkm har hF ⟨hg1, hg2⟩
      have cw := va_cwS (R := R) (own := mm_cn (mm_ow j)) (index := ix) (mm_na k) hts (mm_gi (a := va_wsS (mm_cn (mm_ow j)) ix (mm_y k) (mm_wk k)) (fun w hw => by
        unfold va_wsS at hw
        rcases List.mem_append.mp hw with h | h
        · simp only [List.mem_cons, List.not_mem_nil, or_false] at h
          rcases h with rfl | rfl | rfl
          · exact mm_g_in (mm_ml_w _ (List.contains_iff_mem.mp o1)) rfl
          · exact mm_g_in (mm_si_w _ (List.contains_iff_mem.mp o2)) rfl
          · exact hini
        · exact (mm_wk_good hkm w h).1)) rfl (rm := mm_rm d (mm_nc m' - mm_nc m) (mm_ns m' - mm_ns m)) rfl rfl ⟨hn1, hn2, hna⟩ ⟨hfr, hmx k hm31⟩
      have hrun := va_runS (p := p) (l := l) (e := e) (below := below) (meth := meth) (H := H) (locs := locs) (cells := cells) (slots := slots) (As := (S.take r2).reverse.map (mm_tr (mm_ad N0 sp))) (rest := (S.drop r2).map (mm_tr (mm_ad N0 sp))) (g := F0 mid pc ls (S.map (mm_tr (mm_ad N0 sp)))) ⟨hx, hb, hml, hown, hts⟩ hM cw ⟨mm_Pc_blind, hpre⟩ rfl (by rw [List.length_map, List.length_reverse, List.length_take]; omega) hL.2.1 hstk hro hd hcs
      exact mm_goon hrun hS fin T hT X
    · have hd := mm_dc he (fun z => by cases z)
      have hkd2 : r3 = 2 ∧ mm_rc m (mm_ow k) (S.take r2).reverse = true := by
        rcases hkd with (h | h | h) | h | ⟨h | h, -⟩
        · subst h; simp [mm_ok] at hok
        · subst h; simp [mm_ok] at hok
        · subst h; simp [mm_ok] at hok
        · exact h
        · subst h; simp [mm_ok] at hok
        · subst h; simp [mm_ok] at hok
      obtain ⟨hr3, hrc⟩ := hkd2
      have hok2 : (((((mm_ml.contains (mm_ow j, ix, k) && mm_vi.contains k) && mm_in1.contains k) && mm_ck.contains k) && decide (r2 = mm_na k + 1)) && decide (¬ k = 278)) = true := by
        unfold mm_ok at hok
        dsimp only at hok
        rw [if_pos hr3] at hok
        exact hok
      simp only [Bool.and_eq_true, decide_eq_true_eq] at hok2
      obtain ⟨⟨⟨⟨⟨o1, o2⟩, o5⟩, o3⟩, o4⟩, -⟩ := hok2
      have hkm := List.contains_iff_mem.mp o3
      obtain ⟨hpl, hcn, hn1, hn2, hna, hini, hm31⟩ := mm_kok_of hkm
      have hM := mm_met (l := l) (D := D) (cA := cA) (N0 := N0) (sp := sp) hls hkm har hF ⟨hg1, hg2⟩
      have cw := cwV (R := R) (own := mm_cn (mm_ow j)) (index := ix) (C := (mm_y k).cls) (mm_na k) hts (mm_gi (a := wsV (mm_cn (mm_ow j)) ix (mm_y k).cls (mm_y k) (mm_wk k)) (fun w hw => by
        unfold wsV at hw
        rcases List.mem_append.mp hw with h | h
        · simp only [List.mem_cons, List.not_mem_nil, or_false] at h
          rcases h with rfl | rfl | rfl | rfl
          · exact mm_g_in (mm_ml_w _ (List.contains_iff_mem.mp o1)) rfl
          · exact mm_g_in (mm_in1_w _ (List.contains_iff_mem.mp o5)) rfl
          · exact mm_g_in (mm_vi_w _ (List.contains_iff_mem.mp o2)) rfl
          · exact hini
        · exact (mm_wk_good hkm w h).1)) rfl (rm := mm_rm d (mm_nc m' - mm_nc m) (mm_ns m' - mm_ns m)) rfl rfl ⟨rfl, hn1, hn2, hna⟩ ⟨hfr, hmx k hm31⟩
      generalize has : (S.take r2).reverse = as0 at hrc hpre hstk har hF hM
      have hal : as0.length = r2 := by rw [← has, List.length_reverse, List.length_take]; omega
      unfold mm_rc at hrc
      split at hrc
      · next a As =>
        split at hrc
        · next sh hsh =>
          have hs1 : (sh.1 = mm_ow k ∧ mm_ow k < 13) ∨ (1 ≤ a ∧ a ≤ 6 ∧ mm_ow k = 16) := of_decide_eq_true hrc
          have hrec : ∃ cell : Cell, H[mm_ad N0 sp a]? = some cell ∧ cell.vm.isStatics = false ∧ s.vm.findClass (mm_y k).cls = some cell.cls := by
            rcases hs1 with ⟨hs1, h13⟩ | ⟨ha1, ha6, h16⟩
            · obtain ⟨ha, hm1⟩ := mm_sh_ob hsh (by omega) (by omega)
              have hg := mm_ws_get (ad := mm_ad N0 sp) (cA := cA) ha hm1
              rw [mm_cel_ob (by omega), hs1] at hg
              have hrec := va_recv hAt.1 hH.1 (mm_vw _ h13) hg
              rw [← hcn] at hrec
              exact hrec
            · obtain ⟨e9, hi6, -⟩ := mm_ad_st (N0 := N0) (sp := sp) ⟨ha1, ha6⟩
              obtain ⟨cell, g1, g2, g3, -⟩ := (hH.2.2.2.1.1 (a - 1) hi6).1
              refine ⟨cell, by rw [e9]; exact g1, g2, ?_⟩
              rw [hcn, h16]
              exact g3
          have hrun := va_runV (p := p) (l := l) (e := e) (below := below) (meth := meth) (H := H) (locs := locs) (cells := cells) (slots := slots) (b := mm_ad N0 sp a) (As := As.map (mm_tr (mm_ad N0 sp))) (rest := (S.drop r2).map (mm_tr (mm_ad N0 sp))) (g := F0 mid pc ls (S.map (mm_tr (mm_ad N0 sp)))) ⟨hx, hb, hml, hown, hts⟩ hM cw ⟨mm_Pc_blind, hrec, hpre⟩ rfl (by rw [List.length_map]; simp only [List.length_cons] at hal; omega) hL.2.1 (by
            show S.map _ = _
            rw [hstk]
            simp [mm_tr]) hro hd hcs
          exact mm_goon hrun hS fin T hT X
        · cases hrc
      · cases hrc
    · have hd := mm_dc he (fun z => by cases z)
      have hkd2 : (r3 = 3 ∨ r3 = 5) ∧ mm_rf (S.take r2).reverse = true := by
        rcases hkd with (h | h | h) | ⟨h, -⟩ | h
        · subst h; simp [mm_ok] at hok
        · subst h; simp [mm_ok] at hok
        · subst h; simp [mm_ok] at hok
        · subst h; simp [mm_ok] at hok
        · exact h
      obtain ⟨hr3, hrf⟩ := hkd2
      generalize has : (S.take r2).reverse = as0 at hrf hpre hstk har hF
      have hal : as0.length = r2 := by rw [← has, List.length_reverse, List.length_take]; omega
      unfold mm_rf at hrf
      split at hrf
      · next a As =>
        rcases hr3 with hr3 | hr3
        · have hok2 : ((((((mm_ml.contains (mm_ow j, ix, k) && mm_in1.contains k) && mm_ck.contains k) && decide ((mm_y k).name = "<init>")) && decide (mm_rt k = none)) && decide (r2 = mm_na k + 1)) && decide (¬ k = 278)) = true := by
            unfold mm_ok at hok
            dsimp only at hok
            rw [if_pos hr3] at hok
            exact hok
          simp only [Bool.and_eq_true, decide_eq_true_eq] at hok2
          obtain ⟨⟨⟨⟨⟨⟨o1, o5⟩, o3⟩, o6⟩, o7⟩, o4⟩, -⟩ := hok2
          have hkm := List.contains_iff_mem.mp o3
          obtain ⟨hpl, hcn, hn1, hn2, hna, hini, hm31⟩ := mm_kok_of hkm
          have hM := mm_met (l := l) (D := D) (cA := cA) (N0 := N0) (sp := sp) hls hkm har hF ⟨hg1, hg2⟩
          have cw := cwI (R := R) (own := mm_cn (mm_ow j)) (index := ix) (y := mm_y k) (bytes := mm_b k) (maxL := mm_mx k) (ws := mm_wk k) (ws' := mm_g) (mm_na k) hts (mm_wk_good hkm) (by unfold mm_wk; rw [o7]) (rm := mm_rm d (mm_nc m' - mm_nc m) (mm_ns m' - mm_ns m)) rfl rfl (hts _ hini) (hts _ (mm_g_in (mm_ml_w _ (List.contains_iff_mem.mp o1)) rfl)) (hts _ (mm_g_in (mm_in1_w _ (List.contains_iff_mem.mp o5)) rfl)) o6 ⟨hn1, hn2, hna⟩ ⟨hfr, hmx k hm31⟩
          have hrun := va_runI (p := p) (l := l) (e := e) (below := below) (meth := meth) (H := H) (locs := locs) (cells := cells) (slots := slots) (b := mm_ad N0 sp a) (As := As.map (mm_tr (mm_ad N0 sp))) (rest := (S.drop r2).map (mm_tr (mm_ad N0 sp))) (g := F0 mid pc ls (S.map (mm_tr (mm_ad N0 sp)))) ⟨hx, hb, hml, hown, hts⟩ hM cw ⟨mm_Pc_blind, hpre⟩ rfl (by rw [List.length_map]; simp only [List.length_cons] at hal; omega) hL.2.1 (by
            show S.map _ = _
            rw [hstk]
            simp [mm_tr]) hro hd hcs
          exact mm_goon hrun hS fin T hT X
        · have hok2 : ((((((mm_nl.contains (mm_ow j, ix, k) && mm_in1.contains k) && mm_ck.contains k) && decide ((mm_y k).name = "<init>")) && decide (mm_rt k = none)) && decide (r2 = mm_na k + 1)) && decide (¬ k = 278)) = true := by
            unfold mm_ok at hok
            dsimp only at hok
            rw [if_neg (by omega), if_pos hr3] at hok
            exact hok
          simp only [Bool.and_eq_true, decide_eq_true_eq] at hok2
          obtain ⟨⟨⟨⟨⟨⟨o1, o5⟩, o3⟩, o6⟩, o7⟩, o4⟩, -⟩ := hok2
          have hkm := List.contains_iff_mem.mp o3
          obtain ⟨hpl, hcn, hn1, hn2, hna, hini, hm31⟩ := mm_kok_of hkm
          have hM := mm_met (l := l) (D := D) (cA := cA) (N0 := N0) (sp := sp) hls hkm har hF ⟨hg1, hg2⟩
          have hnw : va_Nw (.methodLinkNest (mm_cn (mm_ow j)) ix (mm_y k) "SamePassers") s := hAt.2.1 (mm_ow j, ix, k) (List.contains_iff_mem.mp o1)
          have cw := va_cnB (R := R) (own := mm_cn (mm_ow j)) (host := "SamePassers") (index := ix) (y := mm_y k) (bytes := mm_b k) (maxL := mm_mx k) (ret := none) (ws := mm_wk k) (ws' := mm_g) (mm_na k) hts (mm_wk_good hkm) (by unfold mm_wk; rw [o7]) (rm := mm_rm d (mm_nc m' - mm_nc m) (mm_ns m' - mm_ns m)) rfl rfl hnw (hts _ hini) ⟨hn1, hn2, hna⟩ ⟨hfr, hmx k hm31⟩
          have hrun := va_runIN (p := p) (l := l) (e := e) (below := below) (meth := meth) (H := H) (locs := locs) (cells := cells) (slots := slots) (b := mm_ad N0 sp a) (As := As.map (mm_tr (mm_ad N0 sp))) (rest := (S.drop r2).map (mm_tr (mm_ad N0 sp))) (g := F0 mid pc ls (S.map (mm_tr (mm_ad N0 sp)))) ⟨hx, hb, hml, hown, hts⟩ hM ⟨cw, o6, hts _ (mm_g_in (mm_in1_w _ (List.contains_iff_mem.mp o5)) rfl)⟩ ⟨mm_Pc_blind, hpre⟩ rfl (by rw [List.length_map]; simp only [List.length_cons] at hal; omega) hL.2.1 (by
            show S.map _ = _
            rw [hstk]
            simp [mm_tr]) hro hd hcs
          exact mm_goon hrun hS fin T hT X
      · cases hrf
end CALL2
