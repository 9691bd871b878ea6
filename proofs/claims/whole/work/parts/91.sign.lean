section
variable {m : mm_M} {d : Nat}
set_option maxRecDepth 8000 in
theorem C285t : mm_ev d 285 0 [some (.ref 6)] [] m = some (some (some (.int (iI 1))), m) := ev_t tb_285 7 (pc' := 18) (L' := [some (.ref 6)]) (S' := [.int (iI 1)]) (m' := m) rfl (r_retB (at_of tb_285 rfl) mz_285 (Or.inr rfl))
set_option maxRecDepth 8000 in
theorem C283t : mm_ev d 283 0 [some (.ref 6)] [] m = some (some (some (.int (iI 0))), m) := ev_t tb_283 5 (pc' := 14) (L' := [some (.ref 6)]) (S' := [.int (iI 0)]) (m' := m) rfl (by
  have h : mm_at 283 14 = some (.ireturn, 1, 0, 0, 0) := at_of tb_283 rfl
  exact ev_r h rfl)
set_option maxRecDepth 8000 in
theorem C282t (hd : 0 < d) : mm_ev d 282 0 [some (.ref 6)] [] m = some (some (some (.int (iI 8))), m) := ev_t tb_282 4 (pc' := 6) (L' := [some (.ref 6)]) (S' := [.ref 6, .int (iI 8)]) (m' := m) rfl (by
  refine (c_int (k := 283) (n := 1) (S' := [.int (iI 8)]) (L0 := [some (.ref 6)]) (f := fun v m2 => mm_ev d 282 9 [some (.ref 6)] [.int v, .int (iI 8)] m2) (at_of tb_282 rfl) rfl ⟨rfl, rfl, rfl, rfl, rfl, rfl⟩ mx_283 (by decide) ma_283 hd (fun _ _ => rfl)).trans ?_
  rw [C283t, cI_some]
  exact ev_t tb_282 1 (pc' := 10) (L' := [some (.ref 6)]) (S' := [.int (iI 8)]) (m' := m) rfl (r_retI (at_of tb_282 rfl) mz_282))
set_option maxRecDepth 8000 in
theorem ix_0 {l1 l2 c : Int32} : mm_ev d 292 7 [some (.ref 55), some (.int l1), some (.int l2), some (.int (iI 8)), some (.int c), some (.int (iI 0))] [] m = if iI 40 = c then some (some (some (.int (iI 0))), m) else mm_ev d 292 7 [some (.ref 55), some (.int l1), some (.int l2), some (.int (iI 8)), some (.int c), some (.int (iI 1))] [] m :=
  ev_t tb_292 7 (pc' := 19) (L' := [some (.ref 55), some (.int l1), some (.int l2), some (.int (iI 8)), some (.int c), some (.int (iI 0))]) (S' := [.int c, .int (iI 40)]) (m' := m) rfl (r_ne (at_of tb_292 rfl) (ev_t tb_292 2 (pc' := 7) (L' := [some (.ref 55), some (.int l1), some (.int l2), some (.int (iI 8)), some (.int c), some (.int (iI 1))]) (S' := []) (m' := m) rfl rfl) (ev_t tb_292 1 (pc' := 24) (L' := [some (.ref 55), some (.int l1), some (.int l2), some (.int (iI 8)), some (.int c), some (.int (iI 0))]) (S' := [.int (iI 0)]) (m' := m) rfl (r_retI (at_of tb_292 rfl) mz_292)))
set_option maxRecDepth 8000 in
theorem ix_1 {l1 l2 c : Int32} : mm_ev d 292 7 [some (.ref 55), some (.int l1), some (.int l2), some (.int (iI 8)), some (.int c), some (.int (iI 1))] [] m = if iI 41 = c then some (some (some (.int (iI 1))), m) else mm_ev d 292 7 [some (.ref 55), some (.int l1), some (.int l2), some (.int (iI 8)), some (.int c), some (.int (iI 2))] [] m :=
  ev_t tb_292 7 (pc' := 19) (L' := [some (.ref 55), some (.int l1), some (.int l2), some (.int (iI 8)), some (.int c), some (.int (iI 1))]) (S' := [.int c, .int (iI 41)]) (m' := m) rfl (r_ne (at_of tb_292 rfl) (ev_t tb_292 2 (pc' := 7) (L' := [some (.ref 55), some (.int l1), some (.int l2), some (.int (iI 8)), some (.int c), some (.int (iI 2))]) (S' := []) (m' := m) rfl rfl) (ev_t tb_292 1 (pc' := 24) (L' := [some (.ref 55), some (.int l1), some (.int l2), some (.int (iI 8)), some (.int c), some (.int (iI 1))]) (S' := [.int (iI 1)]) (m' := m) rfl (r_retI (at_of tb_292 rfl) mz_292)))
set_option maxRecDepth 8000 in
theorem ix_2 {l1 l2 c : Int32} : mm_ev d 292 7 [some (.ref 55), some (.int l1), some (.int l2), some (.int (iI 8)), some (.int c), some (.int (iI 2))] [] m = if iI 60 = c then some (some (some (.int (iI 2))), m) else mm_ev d 292 7 [some (.ref 55), some (.int l1), some (.int l2), some (.int (iI 8)), some (.int c), some (.int (iI 3))] [] m :=
  ev_t tb_292 7 (pc' := 19) (L' := [some (.ref 55), some (.int l1), some (.int l2), some (.int (iI 8)), some (.int c), some (.int (iI 2))]) (S' := [.int c, .int (iI 60)]) (m' := m) rfl (r_ne (at_of tb_292 rfl) (ev_t tb_292 2 (pc' := 7) (L' := [some (.ref 55), some (.int l1), some (.int l2), some (.int (iI 8)), some (.int c), some (.int (iI 3))]) (S' := []) (m' := m) rfl rfl) (ev_t tb_292 1 (pc' := 24) (L' := [some (.ref 55), some (.int l1), some (.int l2), some (.int (iI 8)), some (.int c), some (.int (iI 2))]) (S' := [.int (iI 2)]) (m' := m) rfl (r_retI (at_of tb_292 rfl) mz_292)))
set_option maxRecDepth 8000 in
theorem ix_3 {l1 l2 c : Int32} : mm_ev d 292 7 [some (.ref 55), some (.int l1), some (.int l2), some (.int (iI 8)), some (.int c), some (.int (iI 3))] [] m = if iI 61 = c then some (some (some (.int (iI 3))), m) else mm_ev d 292 7 [some (.ref 55), some (.int l1), some (.int l2), some (.int (iI 8)), some (.int c), some (.int (iI 4))] [] m :=
  ev_t tb_292 7 (pc' := 19) (L' := [some (.ref 55), some (.int l1), some (.int l2), some (.int (iI 8)), some (.int c), some (.int (iI 3))]) (S' := [.int c, .int (iI 61)]) (m' := m) rfl (r_ne (at_of tb_292 rfl) (ev_t tb_292 2 (pc' := 7) (L' := [some (.ref 55), some (.int l1), some (.int l2), some (.int (iI 8)), some (.int c), some (.int (iI 4))]) (S' := []) (m' := m) rfl rfl) (ev_t tb_292 1 (pc' := 24) (L' := [some (.ref 55), some (.int l1), some (.int l2), some (.int (iI 8)), some (.int c), some (.int (iI 3))]) (S' := [.int (iI 3)]) (m' := m) rfl (r_retI (at_of tb_292 rfl) mz_292)))
set_option maxRecDepth 8000 in
theorem ix_4 {l1 l2 c : Int32} : mm_ev d 292 7 [some (.ref 55), some (.int l1), some (.int l2), some (.int (iI 8)), some (.int c), some (.int (iI 4))] [] m = if iI 43 = c then some (some (some (.int (iI 4))), m) else mm_ev d 292 7 [some (.ref 55), some (.int l1), some (.int l2), some (.int (iI 8)), some (.int c), some (.int (iI 5))] [] m :=
  ev_t tb_292 7 (pc' := 19) (L' := [some (.ref 55), some (.int l1), some (.int l2), some (.int (iI 8)), some (.int c), some (.int (iI 4))]) (S' := [.int c, .int (iI 43)]) (m' := m) rfl (r_ne (at_of tb_292 rfl) (ev_t tb_292 2 (pc' := 7) (L' := [some (.ref 55), some (.int l1), some (.int l2), some (.int (iI 8)), some (.int c), some (.int (iI 5))]) (S' := []) (m' := m) rfl rfl) (ev_t tb_292 1 (pc' := 24) (L' := [some (.ref 55), some (.int l1), some (.int l2), some (.int (iI 8)), some (.int c), some (.int (iI 4))]) (S' := [.int (iI 4)]) (m' := m) rfl (r_retI (at_of tb_292 rfl) mz_292)))
set_option maxRecDepth 8000 in
theorem ix_5 {l1 l2 c : Int32} : mm_ev d 292 7 [some (.ref 55), some (.int l1), some (.int l2), some (.int (iI 8)), some (.int c), some (.int (iI 5))] [] m = if iI 45 = c then some (some (some (.int (iI 5))), m) else mm_ev d 292 7 [some (.ref 55), some (.int l1), some (.int l2), some (.int (iI 8)), some (.int c), some (.int (iI 6))] [] m :=
  ev_t tb_292 7 (pc' := 19) (L' := [some (.ref 55), some (.int l1), some (.int l2), some (.int (iI 8)), some (.int c), some (.int (iI 5))]) (S' := [.int c, .int (iI 45)]) (m' := m) rfl (r_ne (at_of tb_292 rfl) (ev_t tb_292 2 (pc' := 7) (L' := [some (.ref 55), some (.int l1), some (.int l2), some (.int (iI 8)), some (.int c), some (.int (iI 6))]) (S' := []) (m' := m) rfl rfl) (ev_t tb_292 1 (pc' := 24) (L' := [some (.ref 55), some (.int l1), some (.int l2), some (.int (iI 8)), some (.int c), some (.int (iI 5))]) (S' := [.int (iI 5)]) (m' := m) rfl (r_retI (at_of tb_292 rfl) mz_292)))
set_option maxRecDepth 8000 in
theorem ix_6 {l1 l2 c : Int32} : mm_ev d 292 7 [some (.ref 55), some (.int l1), some (.int l2), some (.int (iI 8)), some (.int c), some (.int (iI 6))] [] m = if iI 42 = c then some (some (some (.int (iI 6))), m) else mm_ev d 292 7 [some (.ref 55), some (.int l1), some (.int l2), some (.int (iI 8)), some (.int c), some (.int (iI 7))] [] m :=
  ev_t tb_292 7 (pc' := 19) (L' := [some (.ref 55), some (.int l1), some (.int l2), some (.int (iI 8)), some (.int c), some (.int (iI 6))]) (S' := [.int c, .int (iI 42)]) (m' := m) rfl (r_ne (at_of tb_292 rfl) (ev_t tb_292 2 (pc' := 7) (L' := [some (.ref 55), some (.int l1), some (.int l2), some (.int (iI 8)), some (.int c), some (.int (iI 7))]) (S' := []) (m' := m) rfl rfl) (ev_t tb_292 1 (pc' := 24) (L' := [some (.ref 55), some (.int l1), some (.int l2), some (.int (iI 8)), some (.int c), some (.int (iI 6))]) (S' := [.int (iI 6)]) (m' := m) rfl (r_retI (at_of tb_292 rfl) mz_292)))
set_option maxRecDepth 8000 in
theorem ix_7 {l1 l2 c : Int32} : mm_ev d 292 7 [some (.ref 55), some (.int l1), some (.int l2), some (.int (iI 8)), some (.int c), some (.int (iI 7))] [] m = if iI 59 = c then some (some (some (.int (iI 7))), m) else mm_ev d 292 7 [some (.ref 55), some (.int l1), some (.int l2), some (.int (iI 8)), some (.int c), some (.int (iI 8))] [] m :=
  ev_t tb_292 7 (pc' := 19) (L' := [some (.ref 55), some (.int l1), some (.int l2), some (.int (iI 8)), some (.int c), some (.int (iI 7))]) (S' := [.int c, .int (iI 59)]) (m' := m) rfl (r_ne (at_of tb_292 rfl) (ev_t tb_292 2 (pc' := 7) (L' := [some (.ref 55), some (.int l1), some (.int l2), some (.int (iI 8)), some (.int c), some (.int (iI 8))]) (S' := []) (m' := m) rfl rfl) (ev_t tb_292 1 (pc' := 24) (L' := [some (.ref 55), some (.int l1), some (.int l2), some (.int (iI 8)), some (.int c), some (.int (iI 7))]) (S' := [.int (iI 7)]) (m' := m) rfl (r_retI (at_of tb_292 rfl) mz_292)))
set_option maxRecDepth 8000 in
theorem ix_8 {l1 l2 c : Int32} : mm_ev d 292 7 [some (.ref 55), some (.int l1), some (.int l2), some (.int (iI 8)), some (.int c), some (.int (iI 8))] [] m = some (some (some (.int (iI (-1)))), m) :=
  ev_t tb_292 4 (pc' := 32) (L' := [some (.ref 55), some (.int l1), some (.int l2), some (.int (iI 8)), some (.int c), some (.int (iI 8))]) (S' := [.int (iI (-1))]) (m' := m) rfl (r_retI (at_of tb_292 rfl) mz_292)
theorem b128 : ∀ c : Fin 128, (iI (c.val : Int)).toInt8.toInt32 = iI (c.val : Int) := by decide +kernel
theorem b_of {c : Int} (h0 : 0 ≤ c) (h1 : c < 128) : (iI c).toInt8.toInt32 = iI c := by
  have := b128 ⟨c.toNat, by omega⟩
  rw [show ((c.toNat : Nat) : Int) = c by omega] at this
  exact this
/-- indexOf in the text of signs -/
theorem C287 (hd : 5 ≤ d) {c : Int} (c0 : 0 ≤ c) (c1 : c < 128) : ∃ v, mm_ev d 287 0 [some (.ref 6), some (.int (iI (c)))] [] m = some (some (some (.int (iI v))), m) ∧ (0 ≤ v ↔ sgn c) ∧ -1 ≤ v ∧ v ≤ 7 := by
  have e292 : ∀ d' : Nat, ∃ v, mm_ev d' 292 7 [some (.ref 55), some (.int (iI (c))), some (.int (iI 0)), some (.int (iI 8)), some (.int (iI (c))), some (.int (iI 0))] [] m = some (some (some (.int (iI v))), m) ∧ (0 ≤ v ↔ sgn c) ∧ -1 ≤ v ∧ v ≤ 7 := by
    intro d'
    unfold sgn
    rw [ix_0]
    by_cases z0 : c = 40
    · exact ⟨0, by rw [z0, if_pos rfl], by omega, by omega, by omega⟩
    · rw [if_neg (by rw [iI_eq] <;> omega), ix_1]
      by_cases z1 : c = 41
      · exact ⟨1, by rw [z1, if_pos rfl], by omega, by omega, by omega⟩
      · rw [if_neg (by rw [iI_eq] <;> omega), ix_2]
        by_cases z2 : c = 60
        · exact ⟨2, by rw [z2, if_pos rfl], by omega, by omega, by omega⟩
        · rw [if_neg (by rw [iI_eq] <;> omega), ix_3]
          by_cases z3 : c = 61
          · exact ⟨3, by rw [z3, if_pos rfl], by omega, by omega, by omega⟩
          · rw [if_neg (by rw [iI_eq] <;> omega), ix_4]
            by_cases z4 : c = 43
            · exact ⟨4, by rw [z4, if_pos rfl], by omega, by omega, by omega⟩
            · rw [if_neg (by rw [iI_eq] <;> omega), ix_5]
              by_cases z5 : c = 45
              · exact ⟨5, by rw [z5, if_pos rfl], by omega, by omega, by omega⟩
              · rw [if_neg (by rw [iI_eq] <;> omega), ix_6]
                by_cases z6 : c = 42
                · exact ⟨6, by rw [z6, if_pos rfl], by omega, by omega, by omega⟩
                · rw [if_neg (by rw [iI_eq] <;> omega), ix_7]
                  by_cases z7 : c = 59
                  · exact ⟨7, by rw [z7, if_pos rfl], by omega, by omega, by omega⟩
                  · rw [if_neg (by rw [iI_eq] <;> omega), ix_8]
                    exact ⟨-1, rfl, by omega, by omega, by omega⟩
  obtain ⟨v, e, hv⟩ := e292 (d - 3)
  refine ⟨v, ?_, hv⟩
  rw [sg_287_0 (by omega)]
  refine (c_int (k := 288) (n := 3) (S' := []) (L0 := [some (.ref 6), some (.int (iI (c))), some (.int (iI 0))]) (f := fun v m2 => some (some (some (.int v)), m2)) (at_of tb_287 rfl) rfl ⟨rfl, rfl, rfl, rfl, rfl, rfl⟩ mx_288 (by decide) ma_288 (by omega) (fun v m2 => r_retI (at_of tb_287 rfl) mz_287)).trans ?_
  have e288 : mm_ev (d - 1) 288 0 [some (.ref 6), some (.int (iI (c))), some (.int (iI 0))] [] m = some (some (some (.int (iI v))), m) := by
    rw [sg_288_0 (by omega)]
    refine (c_int (k := 285) (n := 1) (S' := []) (L0 := [some (.ref 6)]) (f := fun v m2 => mm_ev (d - 1) 288 4 [some (.ref 6), some (.int (iI (c))), some (.int (iI 0))] [.int v] m2) (at_of tb_288 rfl) rfl ⟨rfl, rfl, rfl, rfl, rfl, rfl⟩ mx_285 (by decide) ma_285 (by omega) (fun _ _ => rfl)).trans ?_
    rw [C285t, cI_some]
    refine ev_t tb_288 6 (pc' := 14) (L' := [some (.ref 6), some (.int (iI (c))), some (.int (iI 0))]) (S' := [.ref 6, .int (iI 0), .int (iI c), .ref 55]) (m' := m) rfl ?_
    refine (c_int (k := 282) (n := 1) (S' := [.int (iI 0), .int (iI c), .ref 55]) (L0 := [some (.ref 6)]) (f := fun v m2 => mm_ev (d - 1) 288 17 [some (.ref 6), some (.int (iI (c))), some (.int (iI 0))] [.int v, .int (iI 0), .int (iI c), .ref 55] m2) (at_of tb_288 rfl) rfl ⟨rfl, rfl, rfl, rfl, rfl, rfl⟩ mx_282 (by decide) ma_282 (by omega) (fun _ _ => rfl)).trans ?_
    rw [C282t (by omega), cI_some]
    refine (c_int (k := 290) (n := 4) (S' := []) (L0 := [some (.ref 55), some (.int (iI (c))), some (.int (iI 0)), some (.int (iI 8))]) (f := fun v m2 => some (some (some (.int v)), m2)) (at_of tb_288 rfl) rfl ⟨rfl, rfl, rfl, rfl, rfl, rfl⟩ mx_290 (by decide) ma_290 (by omega) (fun v m2 => ev_t tb_288 1 (pc' := 36) (L' := [some (.ref 6), some (.int (iI (c))), some (.int (iI 0))]) (S' := [.int v]) (m' := m2) rfl (r_retI (at_of tb_288 rfl) mz_288))).trans ?_
    rw [sg_290_0 (by omega), sg_291_0, if_neg (by rw [iI_lt] <;> omega), if_neg (by rw [iI_lt] <;> omega), cI_some, sg_290_4 (by omega), if_neg (by decide), if_pos (Or.inr (by omega))]
    have l8 : mm_ln m 55 = 8 := rfl
    rw [l8, show iMax (iI 0) (iI 0) = iI 0 by decide, show iMin (iI 8) (Int32.ofNat 8) = iI 8 by decide, if_pos (by decide), sg_292_0, b_of c0 c1]
    rw [show d - 1 - 1 - 1 = d - 3 by omega, e]
    rfl
  rw [e288]
  rfl
end
