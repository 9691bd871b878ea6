theorem lkR_mem : ∀ {l : List (Nat × Nat × Nat)} {a k v : Nat}, lkR l a k = some v → (a, k, v) ∈ l
  | [], _, _, _, h => by cases h
  | q :: r, a, k, v, h => by
    unfold lkR at h
    split at h
    · next z =>
      cases h
      rw [← z.1, ← z.2]
      exact List.mem_cons_self
    · exact List.mem_cons_of_mem _ (lkR_mem h)
def eqN (o : Option Nat) (v : Nat) : Bool := match o with
  | some x => Nat.beq x v
  | none => false
theorem eqN_s {o : Option Nat} {v : Nat} (h : eqN o v = true) : o = some v := by
  unfold eqN at h
  split at h
  · rw [Nat.eq_of_beq_eq_true h]
  · cases h
theorem ctR1 : ctR.all (fun r => Nat.ble r.1 99 || (mm_swp r.1 r.2.1 || eqN (mm_R0 r.1 r.2.1) r.2.2)) = true := by decide +kernel
theorem ctR2 : mm_RL.all (fun r => eqN (lkR ctR r.1 r.2.1) r.2.2) = true := by decide +kernel
theorem ct_R {a k : Nat} (ha : 100 ≤ a) (hs : mm_swp a k = false) : lkR ctR a k = mm_R0 a k := by
  cases h : lkR ctR a k with
  | some v =>
    have q := List.all_eq_true.mp ctR1 _ (lkR_mem h)
    dsimp only at q
    rw [hs, Bool.false_or, Bool.or_eq_true, Nat.ble_eq] at q
    rcases q with q | q
    · omega
    · exact (eqN_s q).symm
  | none =>
    cases h' : mm_R0 a k with
    | none => rfl
    | some v =>
      exfalso
      unfold mm_R0 at h'
      obtain ⟨r, hr, hv⟩ := Option.map_eq_some_iff.mp h'
      have m1 := List.mem_of_find?_eq_some hr
      have m2 := List.find?_some hr
      rw [Bool.and_eq_true] at m2
      have e1 := Nat.eq_of_beq_eq_true m2.1
      have e2 := Nat.eq_of_beq_eq_true m2.2
      have q := eqN_s (List.all_eq_true.mp ctR2 r m1)
      rw [e1, e2, h] at q
      cases q
theorem lkI_z {a : Nat} : ∀ {l : List (Nat × Nat × Int)} (k : Nat), l.all (fun q => !Nat.beq q.1 a || eqI q.2.2 0) = true → lkI l a k = 0
  | [], _, _ => rfl
  | q :: r, k, h => by
    rw [List.all_cons, Bool.and_eq_true] at h
    unfold lkI
    split
    · next z =>
      have h1 := h.1
      rw [Bool.or_eq_true, Bool.not_eq_true'] at h1
      rcases h1 with h1 | h1
      · rw [z.1] at h1
        exact absurd (Nat.beq_refl a) (by rw [h1]; decide)
      · rw [eqI_s h1]
        rfl
    · exact lkI_z k h.2
/-- the first data -/
def D0 (a k : Nat) : Int32 := lkI ctI a k
def E0 (a k : Nat) : Int64 := lkJ ctJ a k
theorem d0z {a : Nat} (h : ctI.all (fun q => !Nat.beq q.1 a || eqI q.2.2 0) = true) (k : Nat) : D0 a k = iI 0 := lkI_z k h
theorem sa0 (j : Int) : sa D0 j = 0 := by
  unfold sa
  rw [d0z (by decide +kernel)]
  rfl
theorem mk0 (j : Int) : mkd D0 j = 0 := by
  unfold mkd
  rw [d0z (by decide +kernel)]
  rfl
theorem s00 : st D0 0 = 4 ∧ st D0 1 = 1 ∧ st D0 2 = 0 ∧ st D0 3 = 3 ∧ st D0 4 = 1 ∧ st D0 5 = 0 ∧ st D0 6 = 0 ∧ st D0 7 = 0 ∧ st D0 8 = 20 ∧ st D0 9 = -1 ∧ st D0 10 = -1 := by decide +kernel
theorem l00 : li D0 0 = 0 ∧ und D0 = 0 ∧ (D0 316 2).toInt = 0 ∧ (D0 316 18).toInt = 0 := by decide +kernel
theorem c00 : D0 104 0 = iI 4 ∧ D0 104 1 = iI 1 ∧ D0 104 2 = iI 0 ∧ D0 104 3 = iI 3 ∧ D0 104 4 = iI 1 ∧ D0 104 5 = iI 20 ∧ D0 104 7 = iI 0 ∧ D0 104 10 = iI 0 ∧ D0 104 12 = iI 0 ∧ D0 111 4 = iI 1 ∧ D0 112 0 = iI (-2) ∧ D0 114 4 = iI 3 ∧ D0 115 0 = iI (-3) ∧ D0 115 1 = iI 1 ∧ D0 115 2 = iI (-10) := by decide +kernel
theorem k00 : ∀ k : Nat, k < 30 → E0 103 k = kcL (k : Int) := by decide +kernel
theorem k01 : ∀ k : Nat, k < 34 → E0 321 k = kwL (k : Int) := by decide +kernel
theorem f00 : (E0 111 0 = kcL 30 ∧ E0 111 1 = kcL 31 ∧ E0 114 0 = kcL 32 ∧ E0 114 1 = kcL 33) ∧ (E0 132 0 = kcL 30 ∧ E0 132 1 = kcL 31 ∧ E0 135 0 = kcL 32 ∧ E0 135 1 = kcL 33) := by decide +kernel
theorem r00 : lkR ctR 100 1 = some 104 ∧ lkR ctR 172 4 = some 104 ∧ lkR ctR 100 3 = some 146 ∧ lkR ctR 100 2 = some 125 ∧ lkR ctR 100 4 = some 150 := by decide +kernel
theorem GI0 : GI D0 := by
  obtain ⟨a0, a1, a2, a3, a4, a5, a6, a7, a8, a9, a10⟩ := s00
  obtain ⟨b0, b1, b2, b3⟩ := l00
  refine ⟨⟨by omega, by omega, by omega, by omega, by omega, by omega, by omega, by omega, fun s h0 h1 => by omega, fun s h0 h1 => by omega, fun s h0 h1 => by omega⟩, ⟨Or.inl a9, Or.inl a10⟩, ⟨by omega, fun k k0 k1 => by omega⟩, ⟨⟨by rw [sa0]; omega, fun w w0 w1 => by omega⟩, by rw [sa0]; omega⟩, ⟨by rw [sa0]; omega, fun k k0 k1 => by rw [sa0] at k1; omega⟩, ⟨by rw [sa0]; omega, fun k k0 k1 => by rw [sa0] at k1; omega⟩, fun k k0 k1 => by omega, fun k k0 k1 z => absurd (mk0 k) z⟩
section
variable {f : Nat → Int32} {n : Nat}
theorem g0 {a k : Nat} (h : ¬ a = 0) : mm_gI (ovM f n (ab ctM)) a k = D0 a k := if_neg h
theorem gr0 {a k : Nat} : mm_gR (ovM f n (ab ctM)) a k = lkR ctR a k := rfl
theorem Sh0 : Sh (ovM f n (ab ctM)) := ⟨rfl, fun a k ha hs => ct_R ha hs⟩
theorem gz {a k : Nat} (h : ¬ a = 0) (z : ctI.all (fun q => !Nat.beq q.1 a || eqI q.2.2 0) = true) : mm_gI (ovM f n (ab ctM)) a k = iI 0 := (g0 h).trans (d0z z k)
theorem RSt0 : RSt D0 (ovM f n (ab ctM)) 104 := by
  obtain ⟨a0, a1, a2, a3, a4, a5, a6, a7, a8, a9, a10⟩ := s00
  obtain ⟨c0, c1, c2, c3, c4, c5, c7, c10, c12, e1, e2, e3, e4, e5, e6⟩ := c00
  refine ⟨⟨?_, ?_, ?_, ?_, ?_, ?_, ?_, ?_, ?_⟩, fun w w0 w1 => by omega, fun w w0 w1 => by omega, fun w w0 w1 => by omega, Or.inl ⟨by omega, rfl, ?_, ?_⟩, Or.inr (Or.inl ⟨by omega, rfl, ?_, ?_, ?_, ?_⟩)⟩
  · rw [g0 (by decide), c0, a0]
  · rw [g0 (by decide), c1, a1]
  · rw [g0 (by decide), c2, a2]
  · rw [g0 (by decide), c3, a3]
  · rw [g0 (by decide), c4, a4]
  · rw [g0 (by decide), c5, a8]
  · rw [g0 (by decide), c7, a5]
  · rw [g0 (by decide), c10, a6]
  · rw [g0 (by decide), c12, a7]
  · rw [g0 (by decide)]; exact e1
  · rw [g0 (by decide)]; exact e2
  · rw [g0 (by decide)]; exact e3
  · rw [g0 (by decide)]; exact e4
  · rw [g0 (by decide)]; exact e5
  · rw [g0 (by decide)]; exact e6
theorem RCm0 : RCm D0 (ovM f n (ab ctM)) 104 146 := by
  obtain ⟨a0, a1, a2, a3, a4, a5, a6, a7, a8, a9, a10⟩ := s00
  obtain ⟨b0, b1, b2, b3⟩ := l00
  refine ⟨⟨Sh0, Or.inl rfl, gr0.trans r00.1, RSt0, ⟨gr0.trans r00.2.1, fun w w0 w1 => by omega⟩, fun w w0 w1 => by omega, ?_⟩, Or.inl rfl, gr0.trans r00.2.2.1, ⟨?_, fun k k0 k1 => by omega⟩, ⟨⟨?_, ?_⟩, fun k k0 k1 => ⟨?_, ?_⟩, fun k k0 k1 => ⟨?_, ?_, ?_⟩⟩, ⟨by omega, ?_, 0, by omega, ?_, fun k k0 k1 => by omega⟩, fun k k0 k1 => ⟨⟨fun _ => mk0 k, fun _ => ?_⟩, fun z => absurd (mk0 k) z⟩⟩
  · rw [sa0]; exact gz (by decide) (by decide +kernel)
  · rw [b0]; exact gz (by decide) (by decide +kernel)
  · rw [sa0]; exact gz (by decide) (by decide +kernel)
  · rw [sa0]; exact gz (by decide) (by decide +kernel)
  · rw [sa0]; exact gz (by decide) (by decide +kernel)
  · rw [sa0]; exact gz (by decide) (by decide +kernel)
  · rw [sa0]; exact gz (by decide) (by decide +kernel)
  · rw [sa0]; exact gz (by decide) (by decide +kernel)
  · rw [sa0]; exact gz (by decide) (by decide +kernel)
  · rw [b1]; exact gz (by decide) (by decide +kernel)
  · exact gz (by decide) (by decide +kernel)
  · rw [gz (by decide) (by decide +kernel)]
    have : k = 0 ∨ k = 1 ∨ k = 2 ∨ k = 3 := by omega
    rcases this with rfl | rfl | rfl | rfl <;> decide +kernel
theorem RT0 : RT D0 E0 (ovM f n (ab ctM)) 104 146 := by
  obtain ⟨a0, a1, a2, a3, a4, a5, a6, a7, a8, a9, a10⟩ := s00
  obtain ⟨b0, b1, b2, b3⟩ := l00
  refine ⟨⟨by omega, ⟨Sh0, ?_, fun k k0 k1 => by omega, fun k k0 k1 => ?_⟩, fun k k0 k1 => by omega⟩, ?_, ⟨by omega, by omega, by omega, fun k hk => by omega, fun k j hk => by omega, fun w w0 w1 => by omega, fun w w0 w1 => by omega⟩, (gr0.trans r00.2.2.2.1).trans (by decide), (gr0.trans r00.2.2.2.2).trans (by decide), ?_⟩
  · rw [b2]; exact gz (by decide) (by decide +kernel)
  · have := k00 k.toNat (by omega)
    rw [show ((k.toNat : Nat) : Int) = k by omega] at this
    exact this
  · intro q hq
    rcases hq with rfl | rfl
    · exact f00.1
    · exact f00.2
  · intro k k0 k1
    have := k01 k.toNat (by omega)
    rw [show ((k.toNat : Nat) : Int) = k by omega] at this
    exact this
theorem MD0 : MD D0 E0 (ovM f n (ab ctM)) := ⟨Sh0, fun a k z => g0 (by have := pm_hi z; omega), fun _ _ _ => rfl⟩
theorem Wd0 : Wd (ovM f n (ab ctM)) := ⟨D0, E0, 104, 146, RCm0, RT0, MD0, GI0⟩
theorem SC0 : SC f n 0 (ovM f n (ab ctM)) := ⟨rfl, fun k => (show (if (0 : Nat) = 0 then f k else lkI ctI 0 k) = f k from if_pos rfl)⟩
/-- the whole law, on the small machine -/
theorem law_all (n1 : n ≤ 3584) : ∃ (m' : mm_M) (t : Nat), mm_ev 200 277 0 ctA [] (ovM f n (ab ct0)) = some (some (some (.int (iI 1))), m') ∧ m'.1 = mm_S0 ∧ m'.2.1.1 ≤ 3600 := by
  obtain ⟨m', t, e, s, ht, hs⟩ := lw_loop (f := f) (n := n) (d := 200) (by decide) n1 (n + 7) 0 0 none none _ (by omega) (by omega) (by omega) (by omega) Wd0 SC0
  refine ⟨m', t, ct_fin.trans e, hs.1, ?_⟩
  rw [s.1]
  exact ht
end
