section
variable {s : State} {b : Nat}
theorem vk_cg {N : Nat} {len : List Nat} {byt : List (List Int32)} {adK adV aK aV : Nat → Nat} {A : Nat → Prop} {U : State} {H : Heap} (h : vk_S N len byt adK adV A U H) (e1 : ∀ i, i < N → aK i = adK i) (e2 : ∀ i, i < N → aV i = adV i) : vk_S N len byt aK aV A U H :=
  ⟨fun i hi => by rw [e1 i hi, e2 i hi]; exact h.1 i hi, fun i j hi hj e => h.2 i j hi hj (by rw [← e1 i hi, ← e1 j hj]; exact e)⟩
/-- the classes, numbered -/
theorem st_cls (hts : ∀ w ∈ lw_tbl, w.before #[Value.ref b] s = true) : ∃ D : va_G, ∀ (k : Nat) (q : vw_C), vwCl[k]? = some q → u_Kn s q.1 q.2.1 q.2.2 (D.1 k) (D.2 k) := by
  have h : ∀ k : Nat, ∃ D : ClassId × (Nat → Nat), ∀ q : vw_C, vwCl[k]? = some q → u_Kn s q.1 q.2.1 q.2.2 D.1 D.2 := by
    intro k
    match k with
    | 0 =>
      obtain ⟨c, i, h⟩ := u_known (C := RX0) (T := TX0) (N := 6) (n := 6) hts uw_0 (hts _ ui_0)
      exact ⟨(c, i), fun q hq => by cases hq; exact h⟩
    | 1 =>
      obtain ⟨c, i, h⟩ := u_known (C := RX1) (T := TX1) (N := 4) (n := 4) hts uw_1 (hts _ ui_1)
      exact ⟨(c, i), fun q hq => by cases hq; exact h⟩
    | 2 =>
      obtain ⟨c, i, h⟩ := u_known (C := RX2) (T := TX2) (N := 9) (n := 9) hts uw_2 (hts _ ui_2)
      exact ⟨(c, i), fun q hq => by cases hq; exact h⟩
    | 3 =>
      obtain ⟨c, i, h⟩ := u_known (C := RX3) (T := TX3) (N := 6) (n := 6) hts uw_3 (hts _ ui_3)
      exact ⟨(c, i), fun q hq => by cases hq; exact h⟩
    | 4 =>
      obtain ⟨c, i, h⟩ := u_known (C := RX4) (T := TX4) (N := 11) (n := 11) hts uw_4 (hts _ ui_4)
      exact ⟨(c, i), fun q hq => by cases hq; exact h⟩
    | 5 =>
      obtain ⟨c, i, h⟩ := u_known (C := RX5) (T := TX5) (N := 7) (n := 7) hts uw_5 (hts _ ui_5)
      exact ⟨(c, i), fun q hq => by cases hq; exact h⟩
    | 6 =>
      obtain ⟨c, i, h⟩ := u_known (C := RX6) (T := TX6) (N := 4) (n := 4) hts uw_6 (hts _ ui_6)
      exact ⟨(c, i), fun q hq => by cases hq; exact h⟩
    | 7 =>
      obtain ⟨c, i, h⟩ := u_known (C := RX7) (T := TX7) (N := 18) (n := 18) hts uw_7 (hts _ ui_7)
      exact ⟨(c, i), fun q hq => by cases hq; exact h⟩
    | 8 =>
      obtain ⟨c, i, h⟩ := u_known (C := RX8) (T := TX8) (N := 8) (n := 8) hts uw_8 (hts _ ui_8)
      exact ⟨(c, i), fun q hq => by cases hq; exact h⟩
    | 9 =>
      obtain ⟨c, i, h⟩ := u_known (C := RX9) (T := TX9) (N := 8) (n := 8) hts uw_9 (hts _ ui_9)
      exact ⟨(c, i), fun q hq => by cases hq; exact h⟩
    | 10 =>
      obtain ⟨c, i, h⟩ := u_known (C := RX10) (T := TX10) (N := 6) (n := 6) hts uw_10 (hts _ ui_10)
      exact ⟨(c, i), fun q hq => by cases hq; exact h⟩
    | 11 =>
      obtain ⟨c, i, h⟩ := u_known (C := RX11) (T := TX11) (N := 19) (n := 19) hts uw_11 (hts _ ui_11)
      exact ⟨(c, i), fun q hq => by cases hq; exact h⟩
    | 12 =>
      obtain ⟨c, i, h⟩ := u_known (C := RX12) (T := TX12) (N := 40) (n := 40) hts uw_12 (hts _ ui_12)
      exact ⟨(c, i), fun q hq => by cases hq; exact h⟩
    | k + 13 => exact ⟨(0, fun _ => 0), fun q hq => by simp [vwCl] at hq⟩
  obtain ⟨F, hF⟩ := Classical.axiomOfChoice h
  exact ⟨(fun k => (F k).1, fun k => (F k).2), fun k q hq => hF k q hq⟩
theorem ar_p {ty : FieldType} {args : Array Value} (h : (Cond.arrayClass ty).before args s = true) (hr : ∀ c, s.vm.findClass ("[" ++ ty.toString) = some c → va_RA s c ty) : ∃ c : ClassId, ArrOfT s c ty ∧ va_RA s c ty := by
  obtain ⟨c, k, comp, h1, h2, h3⟩ := Cond.arrayClass_spec h
  exact ⟨c, fun N z => ⟨(fun k h => by cases h), k, h2, comp, h3⟩, hr c h1⟩
theorem ar_o {C : String} {args : Array Value} (h : (Cond.arrayOver (.object C)).before args s = true) : ∃ c : ClassId, ArrOfT s c (.object C) ∧ va_RA s c (.object C) := by
  obtain ⟨comp, c, k, h1, -, h3, h4, h5⟩ := Cond.arrayOver_spec h
  exact ⟨c, fun N z => ⟨(fun k h => by cases h), k, h3, comp, h4⟩, k, comp, h3, h4, h1, h5⟩
theorem ar_a {args : Array Value} (h : (Cond.arrayOver (.array .int)).before args s = true) : ∃ c : ClassId, ArrOfT s c (.array .int) ∧ va_RA s c (.array .int) := by
  obtain ⟨comp, c, k, h1, h3, h4, h5⟩ := Jvm.Cond.arrayOver_specA h
  exact ⟨c, fun N z => ⟨(fun k h => by cases h), k, h3, comp, h4⟩, h5⟩
/-- the array classes -/
theorem st_arr (hts : ∀ w ∈ lw_tbl, w.before #[Value.ref b] s = true) : ∃ cA : Nat → ClassId, ∀ (k : Nat) (q : ClassId × FieldType), (mm_tys cA)[k]? = some q → ArrOfT s q.1 q.2 ∧ va_RA s q.1 q.2 := by
  have t := fun q hq => hts q (tb_st q hq)
  obtain ⟨c0, h0⟩ := ar_p (t (Cond.arrayClass .int) (by simp)) (fun c h => h)
  obtain ⟨c1, h1⟩ := ar_p (t (Cond.arrayClass .long) (by simp)) (fun c h => h)
  obtain ⟨c2, h2⟩ := ar_p (t (Cond.arrayClass .boolean) (by simp)) (fun c h => h)
  obtain ⟨c3, h3⟩ := ar_p (t (Cond.arrayClass .char) (by simp)) (fun c h => h)
  obtain ⟨c4, h4⟩ := ar_o (t (Cond.arrayOver (.object "SamePassers$Hands")) (by simp))
  obtain ⟨c5, h5⟩ := ar_o (t (Cond.arrayOver (.object "SamePassers$Papers")) (by simp))
  obtain ⟨c6, h6⟩ := ar_o (t (Cond.arrayOver (.object "SamePassers$Walker")) (by simp))
  obtain ⟨c7, h7⟩ := ar_a (t (Cond.arrayOver (.array .int)) (by simp))
  refine ⟨fun k => if k = 20 then c0 else if k = 21 then c1 else if k = 22 then c2 else if k = 23 then c3 else if k = 24 then c4 else if k = 25 then c5 else if k = 26 then c6 else c7, fun k q hq => ?_⟩
  match k, hq with
  | 0, hq => cases hq; exact h0
  | 1, hq => cases hq; exact h1
  | 2, hq => cases hq; exact h2
  | 3, hq => cases hq; exact h3
  | 4, hq => cases hq; exact h4
  | 5, hq => cases hq; exact h5
  | 6, hq => cases hq; exact h6
  | 7, hq => cases hq; exact h7
  | k + 8, hq => simp [mm_tys] at hq
/-- a reference or null -/
theorem rf_of {v : Value} (h : v.isRef = true) : ∃ x : Option Nat, v = va_rf x := by
  cases v with
  | ref a => exact ⟨some a, rfl⟩
  | null => exact ⟨none, rfl⟩
  | _ => cases h
def spW (b : Nat) (adK adV : Nat → Nat) (x7 x8 x9 y : Nat) : Nat → Nat := fun a => if a = 0 then b else if a < 7 then adK (a - 1) else if a = 7 then x7 else if a = 8 then x8 else if a = 9 then x9 else if a < 98 then adV (a - 50) else y
/-- the world at the law's entry -/
theorem st_world {L : Nat} {xs : Nat → Int32} (hts : ∀ w ∈ lw_tbl, w.before #[Value.ref b] s = true) (hX : va_X b L xs s s.heap) (hbl : b < s.heap.size) (hgv : (Jvm.Cond.and given_1 narrow_1).before #[Value.ref b] s = true) : ∃ (D : va_G) (cA : Nat → ClassId) (sp : Nat → Nat) (o : Bool), mm_At D cA sp s ∧ mm_Hp D cA s.heap.size sp (stM xs L o) s s.heap ∧ sp 0 = b := by
  have hg : ∀ c ∈ NW, c.before #[Value.ref b] s = true := flat_of_before _ hgv
  have hgi : ∀ {k : Nat} {c : Cond}, NW[k]? = some c → c.before #[Value.ref b] s = true := fun h => hg _ (List.mem_of_getElem? h)
  have t := fun q hq => hts q (tb_st q hq)
  have hA : ∀ a : Nat, a < s.heap.size → ¬ (fun x => s.heap.size ≤ x) a := fun a h => Nat.not_le.mpr h
  obtain ⟨D, hD⟩ := st_cls hts
  obtain ⟨cA, hcA⟩ := st_arr hts
  obtain ⟨adK, adV, hS, hev⟩ := vk_Sof (args := #[Value.ref b]) (s := s) (N := 6) (tm := nwT) (len := mm_sln) (byt := mm_sby) (A := fun x => s.heap.size ≤ x) nw_ln (fun i hi => hgi (nw_ex i hi)) (fun i hi => hgi (nw_co i hi)) (fun i hi => hgi (nw_ar i hi)) (fun i hi => hgi (nw_le i hi)) (fun i hi j hj => hgi (nw_el i hi j hj)) (fun i j hi hj e => (nw_ne i hi j hj e).elim (fun h => Or.inl (hg _ h)) (fun h => Or.inr (hg _ h))) hA
  obtain ⟨x7, -, -, -, e7, -⟩ := Cond.exactly_spec (args := #[Value.ref b]) (first := s) (o := none) (s := s) (idx := []) (hgi nw_x7)
  obtain ⟨x8, -, -, -, e8, -⟩ := Cond.exactly_spec (args := #[Value.ref b]) (first := s) (o := none) (s := s) (idx := []) (hgi nw_x8)
  obtain ⟨x9, -, -, -, e9, -⟩ := Cond.exactly_spec (args := #[Value.ref b]) (first := s) (o := none) (s := s) (idx := []) (hgi nw_x9)
  obtain ⟨v, hv, hvr⟩ := Cond.isRef_spec (hgi nw_si)
  obtain ⟨x, rfl⟩ := rf_of hvr
  have hZ := va_Zof (A := fun x => s.heap.size ≤ x) (t (Cond.laysStatic "jdk/internal/util/Preconditions" "SIOOBE_FORMATTER" "Ljava/util/function/BiFunction;") (by simp)) (t (Cond.initialized "jdk/internal/util/Preconditions") (by simp)) hv hA
  have hC := va_Zof (A := fun x => s.heap.size ≤ x) (t (Cond.laysStatic "java/lang/String" "COMPACT_STRINGS" "Z") (by simp)) (t (Cond.initialized "java/lang/String") (by simp)) (va_eqt (hgi nw_cs)) hA
  have hU := vx_Zqof (A := fun x => s.heap.size ≤ x) (t (Cond.laysStatic Jvm.Bundle.tN "UNASSIGNED_STACK" Jvm.Bundle.steD) (by simp)) (t (Cond.initialized Jvm.Bundle.tN) (by simp)) (hgi nw_un) hA
  have hV := vx_Zqof (A := fun x => s.heap.size ≤ x) (t (Cond.laysStatic Jvm.Bundle.tN "SUPPRESSED_SENTINEL" Jvm.Bundle.listD) (by simp)) (t (Cond.initialized Jvm.Bundle.tN) (by simp)) (hgi nw_su) hA
  refine ⟨D, cA, spW b adK adV x7 x8 x9 (x.getD 0), x.isSome, ⟨⟨hD, hcA⟩, fun q hq => va_Nw.of rfl (hts _ (tb_nl q hq)), va_AO.of (t _ (by simp)), va_AO.of (t _ (by simp)), va_AO.of (t _ (by simp)), fun q hq => ?_, t (Cond.arrayOver (.array .int)) (by simp), fun w hw => ?_⟩, ⟨?_, ?_, hbl, vk_cg hS (fun i hi => ?_) (fun i hi => ?_), hC, ?_, hU, hV⟩, rfl⟩
  · have k0 := hev 0 (by decide)
    have k1 := hev 1 (by decide)
    have k2 := hev 2 (by decide)
    have k3 := hev 3 (by decide)
    have k4 := hev 4 (by decide)
    have k5 := hev 5 (by decide)
    simp only [mm_ks, List.mem_cons, List.not_mem_nil, or_false] at hq
    rcases hq with rfl | rfl | rfl | rfl | rfl | rfl | rfl | rfl | rfl
    · exact ⟨_, vk_R.of (t (Cond.stringRef "SamePassers$Street" 36 "tempo") (by simp)) k1⟩
    · exact ⟨_, vk_R.of (t (Cond.stringRef "SamePassers$Street" 38 "nth") (by simp)) k2⟩
    · exact ⟨_, vk_R.of (t (Cond.stringRef "SamePassers$Street" 47 "kind") (by simp)) k3⟩
    · exact ⟨_, vk_R.of (t (Cond.stringRef "SamePassers$Street" 49 "passes") (by simp)) k4⟩
    · exact ⟨_, vk_R.of (t (Cond.stringRef "SamePassers$Tape" 19 "street lanes frame to sharp say at walker lane from pace lag on must round quick odd start turn late take left right plain pram dog stray not and or ") (by simp)) k0⟩
    · exact ⟨_, vk_R.of (t (Cond.stringRef "SamePassers$Tape" 54 "()<=+-*;") (by simp)) k5⟩
    · exact ⟨_, vk_R.of (t (Cond.stringRef "SamePassers" 309 "no such take") (by simp)) e7⟩
    · exact ⟨_, vk_R.of (t (Cond.stringRef "SamePassers" 326 "no law") (by simp)) e8⟩
    · exact ⟨_, vk_R.of (t (Cond.stringRef "SamePassers" 335 "the laws do not agree") (by simp)) e9⟩
  · have hk := List.all_eq_true.mp mm_xw_k w hw
    have hw2 := hts w (mm_xw_in w hw)
    unfold mm_xk at hk
    split at hk
    · exact va_Nw.of rfl hw2
    · exact va_Nw.of rfl hw2
    · cases hk
  · intro k q hq
    have : mm_ws (stM xs L x.isSome) (mm_ad s.heap.size (spW b adK adV x7 x8 x9 (x.getD 0))) cA = [] := by
      unfold stM
      cases x.isSome <;> rfl
    rw [this] at hq
    cases hq
  · have e1 : (stM xs L x.isSome).2.2.1 0 = xs := by
      funext k
      show (if (0 : Nat) = 0 then xs k else (ab (if x.isSome = true then ct0 else ct0n)).2.2.1 0 k) = xs k
      exact if_pos rfl
    have e2 : (stM xs L x.isSome).2.1.2 = L := rfl
    rw [e1, e2]
    exact hX
  · show spW b adK adV x7 x8 x9 (x.getD 0) (i + 1) = adK i
    unfold spW
    rw [if_neg (by omega), if_pos (by omega), show i + 1 - 1 = i by omega]
  · show spW b adK adV x7 x8 x9 (x.getD 0) (50 + i) = adV i
    unfold spW
    rw [if_neg (by omega), if_neg (by omega), if_neg (by omega), if_neg (by omega), if_neg (by omega), if_pos (by omega), show 50 + i - 50 = i by omega]
  · cases x with
    | none => exact hZ
    | some a => exact hZ
end
