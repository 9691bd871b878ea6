section
variable {f : Nat → Int32} {n : Nat}
theorem ct_75 (h : okL (ctS 2 184 161 247)) : mm_ev 198 75 0 [some (.ref 101), none, none, none] [] (ovM f n (ab (ctS 2 184 161 247))) = some (some none, ovM f n (ab (ctS 4 184 42 245))) ∧ okL (ctS 4 184 42 245) := by
  have h0 := stp_ev (f := f) (n := n) _ _ _ _ _ _ (chk_s ck7_0) h
  have h1 := stp_ev (f := f) (n := n) _ _ _ _ _ _ (chk_s ck7_1) h0.2
  have h2 := stp_ev (f := f) (n := n) _ _ _ _ _ _ (chk_s ck7_2) h1.2
  have h3 := stp_ev (f := f) (n := n) _ _ _ _ _ _ (chk_s ck7_3) h2.2
  have h4 := stp_ev (f := f) (n := n) _ _ _ _ _ _ (chk_s ck7_4) h3.2
  have h5 := stp_ev (f := f) (n := n) _ _ _ _ _ _ (chk_s ck7_5) h4.2
  have h6 := stp_ev (f := f) (n := n) _ _ _ _ _ _ (chk_s ck7_6) h5.2
  have h7 := stp_ev (f := f) (n := n) _ _ _ _ _ _ (chk_s ck7_7) h6.2
  have h8 := stp_ev (f := f) (n := n) _ _ _ _ _ _ (chk_s ck7_8) h7.2
  have h9 := stp_ev (f := f) (n := n) _ _ _ _ _ _ (chk_s ck7_9) h8.2
  have h10 := stp_ev (f := f) (n := n) _ _ _ _ _ _ (chk_s ck7_10) h9.2
  have h11 := stp_ev (f := f) (n := n) _ _ _ _ _ _ (chk_s ck7_11) h10.2
  have h12 := stp_ev (f := f) (n := n) _ _ _ _ _ _ (chk_s ck7_12) h11.2
  have h13 := stp_ev (f := f) (n := n) _ _ _ _ _ _ (chk_s ck7_13) h12.2
  have h14 := stp_ev (f := f) (n := n) _ _ _ _ _ _ (chk_s ck7_14) h13.2
  have h15 := stp_ev (f := f) (n := n) _ _ _ _ _ _ (chk_s ck7_15) h14.2
  have h16 := stp_ev (f := f) (n := n) _ _ _ _ _ _ (chk_s ck7_16) h15.2
  have h17 := stp_ev (f := f) (n := n) _ _ _ _ _ _ (chk_s ck7_17) h16.2
  have h18 := stp_ev (f := f) (n := n) _ _ _ _ _ _ (chk_s ck7_18) h17.2
  have h19 := stp_ev (f := f) (n := n) _ _ _ _ _ _ (chk_s ck7_19) h18.2
  have h20 := stp_ev (f := f) (n := n) _ _ _ _ _ _ (chk_s ck7_20) h19.2
  have h21 := stp_ev (f := f) (n := n) _ _ _ _ _ _ (chk_s ck7_21) h20.2
  have h22 := stp_ev (f := f) (n := n) _ _ _ _ _ _ (chk_s ck7_22) h21.2
  have he := runL_ev (f := f) (n := n) _ _ _ _ _ _ _ _ (chr_s ck7_e) h22.2
  exact ⟨h0.1.trans (h1.1.trans (h2.1.trans (h3.1.trans (h4.1.trans (h5.1.trans (h6.1.trans (h7.1.trans (h8.1.trans (h9.1.trans (h10.1.trans (h11.1.trans (h12.1.trans (h13.1.trans (h14.1.trans (h15.1.trans (h16.1.trans (h17.1.trans (h18.1.trans (h19.1.trans (h20.1.trans (h21.1.trans (h22.1.trans (he.1))))))))))))))))))))))), he.2⟩
set_option maxRecDepth 8000 in
theorem ct_c75 {m : mm_M} : mm_ev 199 99 9 [some (.ref 100), none] [.ref 101, .ref 101, .ref 100] m = mm_cV (mm_ev 198 75 0 [some (.ref 101), none, none, none] [] m) (fun m1 => mm_ev 199 99 12 [some (.ref 100), none] [.ref 101, .ref 100] m1) := c_void (k := 75) (n := 1) (S' := [.ref 101, .ref 100]) (at_of tb_99 rfl) rfl ⟨rfl, rfl, rfl, rfl, rfl, rfl⟩ mx_75 (by decide) ma_75 (by decide) (fun (m1 : mm_M) => rfl)
set_option maxRecDepth 8000 in
theorem ct_c99 {m : mm_M} : mm_ev 200 277 4 [some (.ref 0), none, none, none, none, none, none] [.ref 100, .ref 100] m = mm_cV (mm_ev 199 99 0 [some (.ref 100), none] [] m) (fun m1 => mm_ev 200 277 7 [some (.ref 0), none, none, none, none, none, none] [.ref 100] m1) := c_void (k := 99) (n := 1) (S' := [.ref 100]) (at_of tb_277 rfl) rfl ⟨rfl, rfl, rfl, rfl, rfl, rfl⟩ mx_99 (by decide) ma_99 (by decide) (fun (m1 : mm_M) => rfl)
set_option maxRecDepth 8000 in
theorem ct_c158 {m : mm_M} : mm_ev 200 277 12 [some (.ref 0), some (.ref 100), none, none, none, none, none] [.ref 316, .ref 316] m = mm_cV (mm_ev 199 158 0 [some (.ref 316)] [] m) (fun m1 => mm_ev 200 277 15 [some (.ref 0), some (.ref 100), none, none, none, none, none] [.ref 316] m1) := c_void (k := 158) (n := 1) (S' := [.ref 316]) (at_of tb_277 rfl) rfl ⟨rfl, rfl, rfl, rfl, rfl, rfl⟩ mx_158 (by decide) ma_158 (by decide) (fun (m1 : mm_M) => rfl)
theorem ct_99 (h : okL (ctS 1 184 161 247)) : mm_ev 199 99 0 [some (.ref 100), none] [] (ovM f n (ab (ctS 1 184 161 247))) = some (some none, ovM f n (ab (ctS 216 140 34 26))) ∧ okL (ctS 216 140 34 26) := by
  have h0 := stp_ev (f := f) (n := n) _ _ _ _ _ _ (chk_s ck9_0) h
  have c := ct_75 (f := f) (n := n) h0.2
  have h2 := stp_ev (f := f) (n := n) _ _ _ _ _ _ (chk_s ck9_2) c.2
  have h3 := stp_ev (f := f) (n := n) _ _ _ _ _ _ (chk_s ck9_3) h2.2
  have h4 := stp_ev (f := f) (n := n) _ _ _ _ _ _ (chk_s ck9_4) h3.2
  have h5 := stp_ev (f := f) (n := n) _ _ _ _ _ _ (chk_s ck9_5) h4.2
  have h6 := stp_ev (f := f) (n := n) _ _ _ _ _ _ (chk_s ck9_6) h5.2
  have h7 := stp_ev (f := f) (n := n) _ _ _ _ _ _ (chk_s ck9_7) h6.2
  have h8 := stp_ev (f := f) (n := n) _ _ _ _ _ _ (chk_s ck9_8) h7.2
  have h9 := stp_ev (f := f) (n := n) _ _ _ _ _ _ (chk_s ck9_9) h8.2
  have h10 := stp_ev (f := f) (n := n) _ _ _ _ _ _ (chk_s ck9_10) h9.2
  have h11 := stp_ev (f := f) (n := n) _ _ _ _ _ _ (chk_s ck9_11) h10.2
  have h12 := stp_ev (f := f) (n := n) _ _ _ _ _ _ (chk_s ck9_12) h11.2
  have h13 := stp_ev (f := f) (n := n) _ _ _ _ _ _ (chk_s ck9_13) h12.2
  have h14 := stp_ev (f := f) (n := n) _ _ _ _ _ _ (chk_s ck9_14) h13.2
  have h15 := stp_ev (f := f) (n := n) _ _ _ _ _ _ (chk_s ck9_15) h14.2
  have h16 := stp_ev (f := f) (n := n) _ _ _ _ _ _ (chk_s ck9_16) h15.2
  have h17 := stp_ev (f := f) (n := n) _ _ _ _ _ _ (chk_s ck9_17) h16.2
  have h18 := stp_ev (f := f) (n := n) _ _ _ _ _ _ (chk_s ck9_18) h17.2
  have h19 := stp_ev (f := f) (n := n) _ _ _ _ _ _ (chk_s ck9_19) h18.2
  have h20 := stp_ev (f := f) (n := n) _ _ _ _ _ _ (chk_s ck9_20) h19.2
  have h21 := stp_ev (f := f) (n := n) _ _ _ _ _ _ (chk_s ck9_21) h20.2
  have h22 := stp_ev (f := f) (n := n) _ _ _ _ _ _ (chk_s ck9_22) h21.2
  have h23 := stp_ev (f := f) (n := n) _ _ _ _ _ _ (chk_s ck9_23) h22.2
  have h24 := stp_ev (f := f) (n := n) _ _ _ _ _ _ (chk_s ck9_24) h23.2
  have h25 := stp_ev (f := f) (n := n) _ _ _ _ _ _ (chk_s ck9_25) h24.2
  have h26 := stp_ev (f := f) (n := n) _ _ _ _ _ _ (chk_s ck9_26) h25.2
  have h27 := stp_ev (f := f) (n := n) _ _ _ _ _ _ (chk_s ck9_27) h26.2
  have h28 := stp_ev (f := f) (n := n) _ _ _ _ _ _ (chk_s ck9_28) h27.2
  have h29 := stp_ev (f := f) (n := n) _ _ _ _ _ _ (chk_s ck9_29) h28.2
  have h30 := stp_ev (f := f) (n := n) _ _ _ _ _ _ (chk_s ck9_30) h29.2
  have h31 := stp_ev (f := f) (n := n) _ _ _ _ _ _ (chk_s ck9_31) h30.2
  have h32 := stp_ev (f := f) (n := n) _ _ _ _ _ _ (chk_s ck9_32) h31.2
  have h33 := stp_ev (f := f) (n := n) _ _ _ _ _ _ (chk_s ck9_33) h32.2
  have h34 := stp_ev (f := f) (n := n) _ _ _ _ _ _ (chk_s ck9_34) h33.2
  have h35 := stp_ev (f := f) (n := n) _ _ _ _ _ _ (chk_s ck9_35) h34.2
  have h36 := stp_ev (f := f) (n := n) _ _ _ _ _ _ (chk_s ck9_36) h35.2
  have h37 := stp_ev (f := f) (n := n) _ _ _ _ _ _ (chk_s ck9_37) h36.2
  have he := runL_ev (f := f) (n := n) _ _ _ _ _ _ _ _ (chr_s ck9_e) h37.2
  refine ⟨h0.1.trans ?_, he.2⟩
  dsimp only
  rw [ct_c75, c.1, cV_some]
  exact h2.1.trans (h3.1.trans (h4.1.trans (h5.1.trans (h6.1.trans (h7.1.trans (h8.1.trans (h9.1.trans (h10.1.trans (h11.1.trans (h12.1.trans (h13.1.trans (h14.1.trans (h15.1.trans (h16.1.trans (h17.1.trans (h18.1.trans (h19.1.trans (h20.1.trans (h21.1.trans (h22.1.trans (h23.1.trans (h24.1.trans (h25.1.trans (h26.1.trans (h27.1.trans (h28.1.trans (h29.1.trans (h30.1.trans (h31.1.trans (h32.1.trans (h33.1.trans (h34.1.trans (h35.1.trans (h36.1.trans (h37.1.trans (he.1))))))))))))))))))))))))))))))))))))
theorem ct_158 (h : okL (ctS 217 140 34 26)) : mm_ev 199 158 0 [some (.ref 316)] [] (ovM f n (ab (ctS 217 140 34 26))) = some (some none, ovM f n (ab (ctS 243 0 0 0))) ∧ okL (ctS 243 0 0 0) := by
  have h0 := stp_ev (f := f) (n := n) _ _ _ _ _ _ (chk_s ck1_0) h
  have h1 := stp_ev (f := f) (n := n) _ _ _ _ _ _ (chk_s ck1_1) h0.2
  have h2 := stp_ev (f := f) (n := n) _ _ _ _ _ _ (chk_s ck1_2) h1.2
  have h3 := stp_ev (f := f) (n := n) _ _ _ _ _ _ (chk_s ck1_3) h2.2
  have h4 := stp_ev (f := f) (n := n) _ _ _ _ _ _ (chk_s ck1_4) h3.2
  have h5 := stp_ev (f := f) (n := n) _ _ _ _ _ _ (chk_s ck1_5) h4.2
  have h6 := stp_ev (f := f) (n := n) _ _ _ _ _ _ (chk_s ck1_6) h5.2
  have h7 := stp_ev (f := f) (n := n) _ _ _ _ _ _ (chk_s ck1_7) h6.2
  have h8 := stp_ev (f := f) (n := n) _ _ _ _ _ _ (chk_s ck1_8) h7.2
  have h9 := stp_ev (f := f) (n := n) _ _ _ _ _ _ (chk_s ck1_9) h8.2
  have h10 := stp_ev (f := f) (n := n) _ _ _ _ _ _ (chk_s ck1_10) h9.2
  have he := runL_ev (f := f) (n := n) _ _ _ _ _ _ _ _ (chr_s ck1_e) h10.2
  exact ⟨h0.1.trans (h1.1.trans (h2.1.trans (h3.1.trans (h4.1.trans (h5.1.trans (h6.1.trans (h7.1.trans (h8.1.trans (h9.1.trans (h10.1.trans (he.1))))))))))), he.2⟩
theorem ct_all (h : okL (ctS 0 184 161 247)) : mm_ev 200 277 0 [some (.ref 0), none, none, none, none, none, none] [] (ovM f n (ab (ctS 0 184 161 247))) = mm_ev 200 277 23 [some (.ref 0), some (.ref 100), some (.ref 316), some (.ref 343), some (.int (iI 0)), none, none] [] (ovM f n (ab (ctS 244 0 0 0))) := by
  have h0 := stp_ev (f := f) (n := n) _ _ _ _ _ _ (chk_s ck2_0) h
  have c0 := ct_99 (f := f) (n := n) h0.2
  have h1 := stp_ev (f := f) (n := n) _ _ _ _ _ _ (chk_s ck2_1) c0.2
  have c1 := ct_158 (f := f) (n := n) h1.2
  have h2 := stp_ev (f := f) (n := n) _ _ _ _ _ _ (chk_s ck2_2) c1.2
  refine h0.1.trans ?_
  dsimp only
  rw [ct_c99, c0.1, cV_some]
  refine h1.1.trans ?_
  dsimp only
  rw [ct_c158, c1.1, cV_some]
  exact h2.1
end
theorem ct_0 : ctS 0 184 161 247 = ct0 := eqM_s (by decide +kernel)
theorem ct_M : ctS 244 0 0 0 = ctM := eqM_s (by decide +kernel)
theorem ok_0 : okL ct0 := by
  refine ⟨fun _ h => absurd h List.not_mem_nil, fun _ h => absurd h List.not_mem_nil, fun q h => ?_⟩
  rcases List.mem_cons.mp h with rfl | h
  · decide
  · exact absurd h List.not_mem_nil
/-- from the law's first instruction to its loop -/
theorem ct_fin {f : Nat → Int32} {n : Nat} : mm_ev 200 277 0 ctA [] (ovM f n (ab ct0)) = mm_ev 200 277 23 [some (.ref 0), some (.ref 100), some (.ref 316), some (.ref 343), (some (.int (iI (0)))), none, none] [] (ovM f n (ab ctM)) := by
  have h := ct_all (f := f) (n := n) (by rw [ct_0]; exact ok_0)
  rw [ct_0, ct_M] at h
  exact h
