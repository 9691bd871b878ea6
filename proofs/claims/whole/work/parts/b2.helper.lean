def my_rx : ByteArray := ⟨#[42, 43, 183, 0, 13, 177]⟩
def my_xat : List Cond := vx_atX "SamePassers" 311 "java/util/NoSuchElementException" 13 my_rx ["java/lang/RuntimeException", "java/lang/Exception"]
theorem my_xat_b : my_xat.filter (fun w => !goodWord w) = mm_xw := by decide +kernel
theorem my_xat_g : ∀ w ∈ my_xat.filter goodWord, w ∈ lw_tbl := by decide +kernel
theorem my_xat_ot : my_xat.all vx_ot = true := by decide +kernel
theorem mm_metY {l : Launch} {D : va_G} {cA : Nat → ClassId} {N0 : Nat} {sp : Nat → Nat} {d : Nat} {as : List Value} {m : mm_M} {y : mm_R} (hls : l.stackTraces = false) (har : (mm_ar as).length ≤ mm_mx 154) (hd6 : 6 ≤ d) (hF : mm_Fr d 154 0 (mm_en 154 as) [] m y) (hgr : mm_gr m y.2) :
    vx_Met l (mm_y 154) (mm_wk 154) (mm_rm d (mm_nc y.2 - mm_nc m) (mm_ns y.2 - mm_ns m)) (mm_Pc D cA N0 sp m as) (mm_QX D cA N0 sp y) (mm_XX D cA N0 sp y) (mm_nc y.2 - mm_nc m) (mm_ns y.2 - mm_ns m) (fun x => N0 ≤ x) := by
  have hk : 154 ∈ mm_ck := by decide +kernel
  obtain ⟨hpl, hcn, -, -, -, -, -⟩ := mm_kok_of hk
  refine vx_ofW (cc := mm_b 154) (maxL := mm_mx 154) (ret := mm_rt 154) hpl rfl ?_
  intro p e s mid args below meth c s₁ B hml htab hv
  obtain ⟨rfl, hAt, hHp, hN, hz⟩ := hv
  have hts := atoms_spec (ws := mm_wk 154) B.pre
  have hown := findClass_of_methodNamed B.named
  rw [hcn] at hown
  have htg : ∀ w ∈ mm_g, w.before ((as.map (mm_tr (mm_ad N0 sp))).toArray) s = true := fun w hw => hts w (List.mem_cons_of_mem _ hw)
  have C : mm_Cx p s mid ((as.map (mm_tr (mm_ad N0 sp))).toArray) meth c (mm_rm d (mm_nc y.2 - mm_nc m) (mm_ns y.2 - mm_ns m)) 154 D cA N0 sp (mm_nc m) := ⟨B.exec, B.bytes, hml, hown, htg, (name_of_methodNamed B.named B.method).1, hAt, ⟨Nat.le_add_left _ _, Nat.le_add_right _ _⟩, hN, hz⟩
  rw [lg_entry_eq]
  have g1 := hgr.1
  have g2 := hgr.2
  refine hF p l e (mm_rm d (mm_nc y.2 - mm_nc m) (mm_ns y.2 - mm_ns m)) s mid _ below meth c _ D cA N0 sp (mm_nc m) (mm_ns m) s.heap [] 0 0 _ hls C (Nat.le_refl _) (Nat.le_refl _) hHp va_S.rf (mm_en_LS har) rfl rfl ?_ ?_ ?_
  · show mm_nc y.2 ≤ mm_nc m + (mm_nc y.2 - mm_nc m)
    omega
  · show mm_ns y.2 ≤ mm_ns m + (mm_ns y.2 - mm_ns m)
    omega
  · intro pc' e' L' S' m0 o H' locs' ls' cells' slots' he hst hr hH hS hL hc hsl
    cases o with
    | inl v' =>
      have hy : y = (some v', m0) := hr
      subst hy
      refine vx_ret (mm_Wmono ?_ (mm_exit C B.returns B.notSynchronized he hst hH hS (show cells' = mm_nc m0 - mm_nc m by omega) (show slots' = mm_ns m0 - mm_ns m by omega)))
      rintro t ⟨o, h1, h2, h3, h4⟩
      exact ⟨o, h1, h2, ⟨v', rfl, h3⟩, h4⟩
    | inr u =>
      have hy : y = (none, mm_exc m0) := hr
      subst hy
      obtain ⟨i, n, r1, r2, r3⟩ := e'
      have hnc : mm_nc (mm_exc m0) = mm_nc m0 + 1 := by
        show m0.1.length + (m0.2.1.1 + 1) = m0.1.length + m0.2.1.1 + 1
        omega
      have hns : mm_ns (mm_exc m0) = mm_ns m0 + 100 := by
        show (m0.1.map mm_sz).sum + 100 * (m0.2.1.1 + 1) = (m0.1.map mm_sz).sum + 100 * m0.2.1.1 + 100
        omega
      rcases mm_step_cls hst with hi | ⟨ix, rfl, rfl, rfl⟩ | ⟨ix, -, h9⟩
      · exfalso
        rcases hi with rfl | rfl | rfl
        · have h9 : mm_ret (mm_isZ 154) S' = some (.inr (.inr (.inr u))) := hst
          unfold mm_ret at h9
          split at h9
          · split at h9 <;> cases h9
          · cases h9
        · have h9 : mm_lrt S' = some (.inr (.inr (.inr u))) := hst
          unfold mm_lrt at h9
          split at h9 <;> cases h9
        · cases S' with
          | nil => cases hst
          | cons a b => cases hst
      · have hpc : pc' = 12 ∨ pc' = 58 ∨ pc' = 93 := mm_thr154 (pc', _) (mm_lk_mem mm_c154 pc' _ he) rfl
        have hgo : ∀ (is sx : Nat), ix = 307 → (11, is, sx) ∈ mm_ks → mm_at 154 (pc' + 3) = some (.dup, 1, 0, 0, 0) → mm_at 154 (pc' + 4) = some (.ldc_w is, 3, 2, sx, 0) → mm_at 154 (pc' + 7) = some (.invokespecial 311, 3, 999, 0, 98) → mm_at 154 (pc' + 10) = some (.athrow, 1, 0, 0, 0) →
            W p l e (mm_rm d (mm_nc (mm_exc m0) - mm_nc m) (mm_ns (mm_exc m0) - mm_ns m)) s mid ((as.map (mm_tr (mm_ad N0 sp))).toArray) below meth c H' locs' cells' slots' (vx_MQ below (mm_QX D cA N0 sp (none, mm_exc m0)) (mm_XX D cA N0 sp (none, mm_exc m0)) ((as.map (mm_tr (mm_ad N0 sp))).toArray) s (mm_nc (mm_exc m0) - mm_nc m) (mm_ns (mm_exc m0) - mm_ns m) (fun x => N0 ≤ x)) (F0 mid pc' ls' []) := by
          intro is sx hix hks a3 a4 a7 a10
          subst hix
          obtain ⟨tx, htx⟩ := hAt.2.2.2.2.2.1 _ hks
          have hat : ∀ w ∈ my_xat, w.before ((as.map (mm_tr (mm_ad N0 sp))).toArray) s = true := vx_hat (L := my_xat) (B := mm_xw) (fun w hw => htg w (mm_g_in (my_xat_g w hw) (List.mem_filter.mp hw).2)) (fun w hw => by rw [← my_xat_b]; exact hw) (fun w hw => va_Nw.use (List.all_eq_true.mp mm_xat_on w hw) (hAt.2.2.2.2.2.2.2 w hw))
          refine vx_throwX (own := "SamePassers") (cls := "java/util/NoSuchElementException") (text := tx) (names := ["java/lang/RuntimeException", "java/lang/Exception"]) (ik := 307) (is := is) (ic := 311) (ix := 13) (rx := my_rx) (A := fun x => N0 ≤ x) B.exec B.bytes hls (by decide +kernel) (by decide +kernel) (by decide +kernel) (by decide +kernel) hown (by decide +kernel) (by decide +kernel) (htg _ mm_w_xk) (htg _ mm_w_xi) htx hat ?_ hHp.2.2.2.2.2.2.1 hHp.2.2.2.2.2.2.2 hS (by rw [hml]; exact hL.2.1) (mm_dc he (fun z => by cases z)) (mm_dc a3 (fun z => by cases z)) (mm_dc a4 (fun z => by cases z)) (mm_dc a7 (fun z => by cases z)) (mm_dc a10 (fun z => by cases z)) (fun x hx => (htab x hx).elim) ?_ ?_ ?_ ?_ B.notSynchronized ?_ hS.2.2 (by omega) (by omega)
          · intro w hw
            rcases List.mem_cons.mp hw with rfl | hw
            · rfl
            · rcases List.mem_cons.mp hw with rfl | hw
              · rfl
              · exact List.all_eq_true.mp my_xat_ot w hw
          · show 2 + 3 < d + 1
            omega
          · show 0 + (13 * (2 + 1) + 43) ≤ 100 + 50 * d
            omega
          · show cells' + 1 ≤ mm_nc (mm_exc m0) - mm_nc m
            omega
          · show slots' + 6 ≤ mm_ns (mm_exc m0) - mm_ns m
            omega
          · intro t hal hsz2 hold
            have hold2 : ∀ a : Nat, a < H'.size → ¬ N0 ≤ a → t.heap[a]? = H'[a]? := fun a h1 _ => hold a h1
            have hsp : sp 0 < H'.size := Nat.lt_of_lt_of_le hH.2.2.1 (Nat.le_trans hN hS.1)
            refine ⟨rfl, rfl, ?_, Nat.le_trans hS.1 hsz2, fun q h1 h2 => (hold q (Nat.lt_of_lt_of_le h1 hS.1)).trans (hS.2.1 q h1 h2)⟩
            refine mm_Hp.moved (m := mm_exc m0) hal ?_
            exact ⟨hH.1.kept (fun k x hx => hold x.1 ((hH.1 k x hx).lt)), hH.2.1.kept (hold _ hsp), hH.2.2.1, hH.2.2.2.1.kept hold2, hH.2.2.2.2.1.kept hold2, hH.2.2.2.2.2.1.kept hold2, vx_Zq.kept hH.2.2.2.2.2.2.1 hold2, vx_Zq.kept hH.2.2.2.2.2.2.2 hold2⟩
        rcases hpc with rfl | rfl | rfl
        · have h9 : some ((.new 307, 3, 99, 0, 0) : mm_E) = some (.new ix, n, 99, r2, r3) := he
          cases h9
          exact hgo 309 7 rfl (by decide +kernel) rfl rfl rfl rfl
        · have h9 : some ((.new 307, 3, 99, 0, 0) : mm_E) = some (.new ix, n, 99, r2, r3) := he
          cases h9
          exact hgo 326 8 rfl (by decide +kernel) rfl rfl rfl rfl
        · have h9 : some ((.new 307, 3, 99, 0, 0) : mm_E) = some (.new ix, n, 99, r2, r3) := he
          cases h9
          exact hgo 335 9 rfl (by decide +kernel) rfl rfl rfl rfl
      · obtain ⟨-, h8, -⟩ := mm_inv_call h9
        cases h8
