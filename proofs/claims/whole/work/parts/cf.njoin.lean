section
variable {f : Nat → Int32} {n : Nat}
theorem ct_75n (h : okL (ctN 2 184 161 247)) : mm_ev 198 75 0 [some (.ref 101), none, none, none] [] (ovM f n (ab (ctN 2 184 161 247))) = some (some none, ovM f n (ab (ctN 4 184 42 245))) ∧ okL (ctN 4 184 42 245) := by
  have h0 := stp_ev (f := f) (n := n) _ _ _ _ _ _ (chk_s nck7_0) h
  have h1 := stp_ev (f := f) (n := n) _ _ _ _ _ _ (chk_s nck7_1) h0.2
  have h2 := stp_ev (f := f) (n := n) _ _ _ _ _ _ (chk_s nck7_2) h1.2
  have h3 := stp_ev (f := f) (n := n) _ _ _ _ _ _ (chk_s nck7_3) h2.2
  have h4 := stp_ev (f := f) (n := n) _ _ _ _ _ _ (chk_s nck7_4) h3.2
  have h5 := stp_ev (f := f) (n := n) _ _ _ _ _ _ (chk_s nck7_5) h4.2
  have h6 := stp_ev (f := f) (n := n) _ _ _ _ _ _ (chk_s nck7_6) h5.2
  have h7 := stp_ev (f := f) (n := n) _ _ _ _ _ _ (chk_s nck7_7) h6.2
  have h8 := stp_ev (f := f) (n := n) _ _ _ _ _ _ (chk_s nck7_8) h7.2
  have h9 := stp_ev (f := f) (n := n) _ _ _ _ _ _ (chk_s nck7_9) h8.2
  have h10 := stp_ev (f := f) (n := n) _ _ _ _ _ _ (chk_s nck7_10) h9.2
  have h11 := stp_ev (f := f) (n := n) _ _ _ _ _ _ (chk_s nck7_11) h10.2
  have h12 := stp_ev (f := f) (n := n) _ _ _ _ _ _ (chk_s nck7_12) h11.2
  have h13 := stp_ev (f := f) (n := n) _ _ _ _ _ _ (chk_s nck7_13) h12.2
  have h14 := stp_ev (f := f) (n := n) _ _ _ _ _ _ (chk_s nck7_14) h13.2
  have h15 := stp_ev (f := f) (n := n) _ _ _ _ _ _ (chk_s nck7_15) h14.2
  have h16 := stp_ev (f := f) (n := n) _ _ _ _ _ _ (chk_s nck7_16) h15.2
  have h17 := stp_ev (f := f) (n := n) _ _ _ _ _ _ (chk_s nck7_17) h16.2
  have h18 := stp_ev (f := f) (n := n) _ _ _ _ _ _ (chk_s nck7_18) h17.2
  have h19 := stp_ev (f := f) (n := n) _ _ _ _ _ _ (chk_s nck7_19) h18.2
  have h20 := stp_ev (f := f) (n := n) _ _ _ _ _ _ (chk_s nck7_20) h19.2
  have h21 := stp_ev (f := f) (n := n) _ _ _ _ _ _ (chk_s nck7_21) h20.2
  have h22 := stp_ev (f := f) (n := n) _ _ _ _ _ _ (chk_s nck7_22) h21.2
  have he := runL_ev (f := f) (n := n) _ _ _ _ _ _ _ _ (chr_s nck7_e) h22.2
  exact ⟨h0.1.trans (h1.1.trans (h2.1.trans (h3.1.trans (h4.1.trans (h5.1.trans (h6.1.trans (h7.1.trans (h8.1.trans (h9.1.trans (h10.1.trans (h11.1.trans (h12.1.trans (h13.1.trans (h14.1.trans (h15.1.trans (h16.1.trans (h17.1.trans (h18.1.trans (h19.1.trans (h20.1.trans (h21.1.trans (h22.1.trans (he.1))))))))))))))))))))))), he.2⟩
theorem ct_99n (h : okL (ctN 1 184 161 247)) : mm_ev 199 99 0 [some (.ref 100), none] [] (ovM f n (ab (ctN 1 184 161 247))) = some (some none, ovM f n (ab (ctN 216 140 34 26))) ∧ okL (ctN 216 140 34 26) := by
  have h0 := stp_ev (f := f) (n := n) _ _ _ _ _ _ (chk_s nck9_0) h
  have c := ct_75n (f := f) (n := n) h0.2
  have h2 := stp_ev (f := f) (n := n) _ _ _ _ _ _ (chk_s nck9_2) c.2
  have h3 := stp_ev (f := f) (n := n) _ _ _ _ _ _ (chk_s nck9_3) h2.2
  have h4 := stp_ev (f := f) (n := n) _ _ _ _ _ _ (chk_s nck9_4) h3.2
  have h5 := stp_ev (f := f) (n := n) _ _ _ _ _ _ (chk_s nck9_5) h4.2
  have h6 := stp_ev (f := f) (n := n) _ _ _ _ _ _ (chk_s nck9_6) h5.2
  have h7 := stp_ev (f := f) (n := n) _ _ _ _ _ _ (chk_s nck9_7) h6.2
  have h8 := stp_ev (f := f) (n := n) _ _ _ _ _ _ (chk_s nck9_8) h7.2
  have h9 := stp_ev (f := f) (n := n) _ _ _ _ _ _ (chk_s nck9_9) h8.2
  have h10 := stp_ev (f := f) (n := n) _ _ _ _ _ _ (chk_s nck9_10) h9.2
  have h11 := stp_ev (f := f) (n := n) _ _ _ _ _ _ (chk_s nck9_11) h10.2
  have h12 := stp_ev (f := f) (n := n) _ _ _ _ _ _ (chk_s nck9_12) h11.2
  have h13 := stp_ev (f := f) (n := n) _ _ _ _ _ _ (chk_s nck9_13) h12.2
  have h14 := stp_ev (f := f) (n := n) _ _ _ _ _ _ (chk_s nck9_14) h13.2
  have h15 := stp_ev (f := f) (n := n) _ _ _ _ _ _ (chk_s nck9_15) h14.2
  have h16 := stp_ev (f := f) (n := n) _ _ _ _ _ _ (chk_s nck9_16) h15.2
  have h17 := stp_ev (f := f) (n := n) _ _ _ _ _ _ (chk_s nck9_17) h16.2
  have h18 := stp_ev (f := f) (n := n) _ _ _ _ _ _ (chk_s nck9_18) h17.2
  have h19 := stp_ev (f := f) (n := n) _ _ _ _ _ _ (chk_s nck9_19) h18.2
  have h20 := stp_ev (f := f) (n := n) _ _ _ _ _ _ (chk_s nck9_20) h19.2
  have h21 := stp_ev (f := f) (n := n) _ _ _ _ _ _ (chk_s nck9_21) h20.2
  have h22 := stp_ev (f := f) (n := n) _ _ _ _ _ _ (chk_s nck9_22) h21.2
  have h23 := stp_ev (f := f) (n := n) _ _ _ _ _ _ (chk_s nck9_23) h22.2
  have h24 := stp_ev (f := f) (n := n) _ _ _ _ _ _ (chk_s nck9_24) h23.2
  have h25 := stp_ev (f := f) (n := n) _ _ _ _ _ _ (chk_s nck9_25) h24.2
  have h26 := stp_ev (f := f) (n := n) _ _ _ _ _ _ (chk_s nck9_26) h25.2
  have h27 := stp_ev (f := f) (n := n) _ _ _ _ _ _ (chk_s nck9_27) h26.2
  have h28 := stp_ev (f := f) (n := n) _ _ _ _ _ _ (chk_s nck9_28) h27.2
  have h29 := stp_ev (f := f) (n := n) _ _ _ _ _ _ (chk_s nck9_29) h28.2
  have h30 := stp_ev (f := f) (n := n) _ _ _ _ _ _ (chk_s nck9_30) h29.2
  have h31 := stp_ev (f := f) (n := n) _ _ _ _ _ _ (chk_s nck9_31) h30.2
  have h32 := stp_ev (f := f) (n := n) _ _ _ _ _ _ (chk_s nck9_32) h31.2
  have h33 := stp_ev (f := f) (n := n) _ _ _ _ _ _ (chk_s nck9_33) h32.2
  have h34 := stp_ev (f := f) (n := n) _ _ _ _ _ _ (chk_s nck9_34) h33.2
  have h35 := stp_ev (f := f) (n := n) _ _ _ _ _ _ (chk_s nck9_35) h34.2
  have h36 := stp_ev (f := f) (n := n) _ _ _ _ _ _ (chk_s nck9_36) h35.2
  have h37 := stp_ev (f := f) (n := n) _ _ _ _ _ _ (chk_s nck9_37) h36.2
  have he := runL_ev (f := f) (n := n) _ _ _ _ _ _ _ _ (chr_s nck9_e) h37.2
  refine ⟨h0.1.trans ?_, he.2⟩
  dsimp only
  rw [ct_c75, c.1, cV_some]
  exact h2.1.trans (h3.1.trans (h4.1.trans (h5.1.trans (h6.1.trans (h7.1.trans (h8.1.trans (h9.1.trans (h10.1.trans (h11.1.trans (h12.1.trans (h13.1.trans (h14.1.trans (h15.1.trans (h16.1.trans (h17.1.trans (h18.1.trans (h19.1.trans (h20.1.trans (h21.1.trans (h22.1.trans (h23.1.trans (h24.1.trans (h25.1.trans (h26.1.trans (h27.1.trans (h28.1.trans (h29.1.trans (h30.1.trans (h31.1.trans (h32.1.trans (h33.1.trans (h34.1.trans (h35.1.trans (h36.1.trans (h37.1.trans (he.1))))))))))))))))))))))))))))))))))))
theorem ct_158n (h : okL (ctN 217 140 34 26)) : mm_ev 199 158 0 [some (.ref 316)] [] (ovM f n (ab (ctN 217 140 34 26))) = some (some none, ovM f n (ab (ctN 243 0 0 0))) ∧ okL (ctN 243 0 0 0) := by
  have h0 := stp_ev (f := f) (n := n) _ _ _ _ _ _ (chk_s nck1_0) h
  have h1 := stp_ev (f := f) (n := n) _ _ _ _ _ _ (chk_s nck1_1) h0.2
  have h2 := stp_ev (f := f) (n := n) _ _ _ _ _ _ (chk_s nck1_2) h1.2
  have h3 := stp_ev (f := f) (n := n) _ _ _ _ _ _ (chk_s nck1_3) h2.2
  have h4 := stp_ev (f := f) (n := n) _ _ _ _ _ _ (chk_s nck1_4) h3.2
  have h5 := stp_ev (f := f) (n := n) _ _ _ _ _ _ (chk_s nck1_5) h4.2
  have h6 := stp_ev (f := f) (n := n) _ _ _ _ _ _ (chk_s nck1_6) h5.2
  have h7 := stp_ev (f := f) (n := n) _ _ _ _ _ _ (chk_s nck1_7) h6.2
  have h8 := stp_ev (f := f) (n := n) _ _ _ _ _ _ (chk_s nck1_8) h7.2
  have h9 := stp_ev (f := f) (n := n) _ _ _ _ _ _ (chk_s nck1_9) h8.2
  have h10 := stp_ev (f := f) (n := n) _ _ _ _ _ _ (chk_s nck1_10) h9.2
  have he := runL_ev (f := f) (n := n) _ _ _ _ _ _ _ _ (chr_s nck1_e) h10.2
  exact ⟨h0.1.trans (h1.1.trans (h2.1.trans (h3.1.trans (h4.1.trans (h5.1.trans (h6.1.trans (h7.1.trans (h8.1.trans (h9.1.trans (h10.1.trans (he.1))))))))))), he.2⟩
theorem ct_alln (h : okL (ctN 0 184 161 247)) : mm_ev 200 277 0 [some (.ref 0), none, none, none, none, none, none] [] (ovM f n (ab (ctN 0 184 161 247))) = mm_ev 200 277 23 [some (.ref 0), some (.ref 100), some (.ref 316), some (.ref 343), some (.int (iI 0)), none, none] [] (ovM f n (ab (ctN 244 0 0 0))) := by
  have h0 := stp_ev (f := f) (n := n) _ _ _ _ _ _ (chk_s nck2_0) h
  have c0 := ct_99n (f := f) (n := n) h0.2
  have h1 := stp_ev (f := f) (n := n) _ _ _ _ _ _ (chk_s nck2_1) c0.2
  have c1 := ct_158n (f := f) (n := n) h1.2
  have h2 := stp_ev (f := f) (n := n) _ _ _ _ _ _ (chk_s nck2_2) c1.2
  refine h0.1.trans ?_
  dsimp only
  rw [ct_c99, c0.1, cV_some]
  refine h1.1.trans ?_
  dsimp only
  rw [ct_c158, c1.1, cV_some]
  exact h2.1
end
theorem ct_0n : ctN 0 184 161 247 = ct0n := eqM_s (by decide +kernel)
theorem ct_Mn : ctN 244 0 0 0 = ctMn := eqM_s (by decide +kernel)
theorem ok_0n : okL ct0n := ⟨fun _ h => absurd h List.not_mem_nil, fun _ h => absurd h List.not_mem_nil, fun _ h => absurd h List.not_mem_nil⟩
/-- from the law's first instruction to its loop -/
theorem ct_finn {f : Nat → Int32} {n : Nat} : mm_ev 200 277 0 ctA [] (ovM f n (ab ct0n)) = mm_ev 200 277 23 [some (.ref 0), some (.ref 100), some (.ref 316), some (.ref 343), (some (.int (iI (0)))), none, none] [] (ovM f n (ab ctMn)) := by
  have h := ct_alln (f := f) (n := n) (by rw [ct_0n]; exact ok_0n)
  rw [ct_0n, ct_Mn] at h
  exact h
