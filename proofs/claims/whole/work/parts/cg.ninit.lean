theorem lkR_app : ∀ {l l' : List (Nat × Nat × Nat)} {a k : Nat}, (∀ q ∈ l', ¬ q.1 = a) → lkR (l ++ l') a k = lkR l a k
  | [], [], _, _, _ => rfl
  | [], q :: r, a, k, h => by
    show (if q.1 = a ∧ q.2.1 = k then some q.2.2 else lkR r a k) = none
    rw [if_neg (fun z => h q List.mem_cons_self z.1)]
    exact lkR_app (l := []) (fun q hq => h q (List.mem_cons_of_mem _ hq))
  | q :: l, l', a, k, h => by
    show (if q.1 = a ∧ q.2.1 = k then some q.2.2 else lkR (l ++ l') a k) = if q.1 = a ∧ q.2.1 = k then some q.2.2 else lkR l a k
    rw [lkR_app h]
theorem ctRs : eqC (ctRn ++ [(99, 0, 98)]) ctR = true := by decide +kernel
theorem ctRe {a k : Nat} (h : ¬ a = 99) : lkR ctRn a k = lkR ctR a k := by
  rw [← eqC_s ctRs]
  refine (lkR_app (fun q hq => ?_)).symm
  rcases List.mem_cons.mp hq with rfl | hq
  · exact fun z => h z.symm
  · exact absurd hq List.not_mem_nil
section
variable {f : Nat → Int32} {n : Nat}
theorem ShN : Sh (ovM f n (ab ctMn)) := ⟨rfl, fun a k ha hs => (ctRe (by omega)).trans (ct_R ha hs)⟩
theorem grN {a k : Nat} (h : ¬ a = 99) : mm_gR (ovM f n (ab ctMn)) a k = mm_gR (ovM f n (ab ctM)) a k := ctRe h
theorem giN {a k : Nat} : mm_gI (ovM f n (ab ctMn)) a k = mm_gI (ovM f n (ab ctM)) a k := by
  show (if a = 0 then f k else lkI ctI a k) = (if a = 0 then f k else lkI ctI a k)
  rfl
theorem glN {a k : Nat} : mm_gL (ovM f n (ab ctMn)) a k = mm_gL (ovM f n (ab ctM)) a k := by
  show lkJ ctJ a k = lkJ ctJ a k
  rfl
theorem WdN : Wd (ovM f n (ab ctMn)) := by
  have hR : RCm D0 (ovM f n (ab ctM)) 104 146 := RCm0
  have hT : RT D0 E0 (ovM f n (ab ctM)) 104 146 := RT0
  have hM : MD D0 E0 (ovM f n (ab ctM)) := MD0
  refine ⟨D0, E0, 104, 146, hR.mem GI0.k9 ShN ((grN (by decide)).trans hR.1.2.2.1) ((grN (by decide)).trans hR.2.2.1) ((grN (by decide)).trans hR.1.2.2.2.2.1.1) (fun _ _ _ => giN), ?_, ⟨ShN, fun a k z => giN.trans (hM.2.1 a k z), fun a k z => glN.trans (hM.2.2 a k z)⟩, GI0⟩
  obtain ⟨⟨h1, h2, h3⟩, h4, h5, h6, h7, h8⟩ := hT
  refine ⟨⟨h1, ⟨ShN, giN.trans h2.2.1, fun k k0 k1 => giN.trans (h2.2.2.1 k k0 k1), fun k k0 k1 => glN.trans (h2.2.2.2 k k0 k1)⟩, h3⟩, fun q hq => ?_, ?_, (grN (by decide)).trans h6, (grN (by decide)).trans h7, h8⟩
  · obtain ⟨a1, a2, a3, a4⟩ := h4 q hq
    exact ⟨glN.trans a1, glN.trans a2, glN.trans a3, glN.trans a4⟩
  · obtain ⟨v1, v2, v3, v4, v5, v6, v7⟩ := h5
    refine ⟨v1, v2, v3, fun j hj => ?_, v5, v6, v7⟩
    rcases v4 j hj with ⟨u1, u2, u3⟩ | ⟨u1, u2, u3⟩
    · exact Or.inl ⟨u1, u2, by rw [glN]; exact u3⟩
    · exact Or.inr ⟨u1, u2, by rw [glN]; exact u3⟩
theorem SCN : SC f n 0 (ovM f n (ab ctMn)) := ⟨rfl, fun k => (show (if (0 : Nat) = 0 then f k else lkI ctI 0 k) = f k from if_pos rfl)⟩
theorem law_alln (n1 : n ≤ 3584) : ∃ (m' : mm_M) (t : Nat), mm_ev 200 277 0 ctA [] (ovM f n (ab ct0n)) = some (some (some (.int (iI 1))), m') ∧ m'.1 = mm_S0 ∧ m'.2.1.1 ≤ 3600 := by
  obtain ⟨m', t, e, s, ht, hs⟩ := lw_loop (f := f) (n := n) (d := 200) (by decide) n1 (n + 7) 0 0 none none _ (by omega) (by omega) (by omega) (by omega) WdN SCN
  refine ⟨m', t, ct_finn.trans e, hs.1, ?_⟩
  rw [s.1]
  exact ht
/-- the start: the script laid over nothing, the formatter as it is -/
def stM (f : Nat → Int32) (n : Nat) (o : Bool) : mm_M := ovM f n (ab (if o = true then ct0 else ct0n))
theorem law_st (n1 : n ≤ 3584) (o : Bool) : ∃ m', mm_ev 200 277 0 ctA [] (stM f n o) = some (some (some (.int (iI 1))), m') ∧ m'.1 = mm_S0 ∧ m'.2.1.1 ≤ 3600 := by
  cases o
  · obtain ⟨m', t, e⟩ := law_alln (f := f) n1
    exact ⟨m', e⟩
  · obtain ⟨m', t, e⟩ := law_all (f := f) n1
    exact ⟨m', e⟩
end
