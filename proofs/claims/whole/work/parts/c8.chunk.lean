def eqS : List Value → List Value → Bool
  | [], [] => true
  | v :: l, w :: l' => eqV v w && eqS l l'
  | _, _ => false
theorem eqS_s : ∀ {l l' : List Value}, eqS l l' = true → l = l'
  | [], [], _ => rfl
  | v :: l, w :: l', h => by
    have h : (eqV v w && eqS l l') = true := h
    rw [Bool.and_eq_true] at h
    rw [eqV_s h.1, eqS_s h.2]
  | [], _ :: _, h => by cases h
  | _ :: _, [], h => by cases h
def chk (r : Option (Nat × mm_L × List Value × lM)) (pc : Nat) (L : mm_L) (S : List Value) (m : lM) : Bool := match r with
  | some q => Nat.beq q.1 pc && (eqL q.2.1 L && (eqS q.2.2.1 S && eqM q.2.2.2 m))
  | none => false
theorem chk_s {r : Option (Nat × mm_L × List Value × lM)} {pc : Nat} {L : mm_L} {S : List Value} {m : lM} (h : chk r pc L S m = true) : r = some (pc, L, S, m) := by
  unfold chk at h
  split at h
  · next q =>
    rw [Bool.and_eq_true, Bool.and_eq_true, Bool.and_eq_true] at h
    obtain ⟨q1, q2, q3, q4⟩ := q
    have e1 : q1 = pc := Nat.eq_of_beq_eq_true h.1
    have e2 : q2 = L := eqL_s h.2.1
    have e3 : q3 = S := eqS_s h.2.2.1
    have e4 : q4 = m := eqM_s h.2.2.2
    rw [e1, e2, e3, e4]
  · cases h
def chr (r : Option (Option Value × lM)) (m : lM) : Bool := match r with
  | some q => q.1.isNone && eqM q.2 m
  | none => false
theorem chr_s {r : Option (Option Value × lM)} {m : lM} (h : chr r m = true) : r = some (none, m) := by
  unfold chr at h
  split at h
  · next q =>
    rw [Bool.and_eq_true] at h
    obtain ⟨q1, q2⟩ := q
    have e1 : q1 = none := Option.isNone_iff_eq_none.mp h.1
    have e2 : q2 = m := eqM_s h.2
    rw [e1, e2]
  · cases h
def ctS (n a b c : Nat) : lM := (mm_S0.take n, ctI.drop a, ctJ.drop b, ctR.drop c)
theorem ck2_0 : chk (stp 20000 200 277 2 0 [some (.ref 0), none, none, none, none, none, none] [] (ctS 0 184 161 247)) 4 [some (.ref 0), none, none, none, none, none, none] [.ref 100, .ref 100] (ctS 1 184 161 247) = true := by decide +kernel
theorem ck9_0 : chk (stp 20000 199 99 5 0 [some (.ref 100), none] [] (ctS 1 184 161 247)) 9 [some (.ref 100), none] [.ref 101, .ref 101, .ref 100] (ctS 2 184 161 247) = true := by decide +kernel
theorem ck9_2 : chk (stp 20000 199 99 5 12 [some (.ref 100), none] [.ref 101, .ref 100] (ctS 4 184 42 245)) 23 [some (.ref 100), none] [.ref 104, .ref 100] (ctS 25 162 38 224) = true := by decide +kernel
theorem ck9_3 : chk (stp 20000 199 99 5 23 [some (.ref 100), none] [.ref 104, .ref 100] (ctS 25 162 38 224)) 34 [some (.ref 100), none] [.ref 125, .ref 100] (ctS 46 140 34 203) = true := by decide +kernel
theorem ck9_4 : chk (stp 20000 199 99 10 34 [some (.ref 100), none] [.ref 125, .ref 100] (ctS 46 140 34 203)) 56 [some (.ref 100), none] [.ref 150, .ref 100] (ctS 54 140 34 195) = true := by decide +kernel
theorem ck9_5 : chk (stp 20000 199 99 10 56 [some (.ref 100), none] [.ref 150, .ref 100] (ctS 54 140 34 195)) 76 [some (.ref 100), none] [.ref 150, .ref 125, .ref 101, .ref 154, .ref 154, .ref 100] (ctS 55 140 34 194) = true := by decide +kernel
theorem ck9_6 : chk (stp 20000 199 99 10 76 [some (.ref 100), none] [.ref 150, .ref 125, .ref 101, .ref 154, .ref 154, .ref 100] (ctS 55 140 34 194)) 98 [some (.ref 100), none] [.ref 159, .ref 159, .ref 100] (ctS 60 140 34 186) = true := by decide +kernel
theorem ck9_7 : chk (stp 20000 199 99 10 98 [some (.ref 100), none] [.ref 159, .ref 159, .ref 100] (ctS 60 140 34 186)) 121 [some (.ref 100), none] [.ref 169, .ref 100] (ctS 70 140 34 176) = true := by decide +kernel
theorem ck9_8 : chk (stp 20000 199 99 10 121 [some (.ref 100), none] [.ref 169, .ref 100] (ctS 70 140 34 176)) 141 [some (.ref 100), none] [.ref 100] (ctS 72 140 34 173) = true := by decide +kernel
theorem ck9_9 : chk (stp 20000 199 99 10 141 [some (.ref 100), none] [.ref 100] (ctS 72 140 34 173)) 161 [some (.ref 100), none] [.ref 100, .ref 178, .ref 178, .ref 100] (ctS 79 140 34 166) = true := by decide +kernel
theorem ck9_10 : chk (stp 20000 199 99 10 161 [some (.ref 100), none] [.ref 100, .ref 178, .ref 178, .ref 100] (ctS 79 140 34 166)) 185 [some (.ref 100), none] [] (ctS 95 140 34 147) = true := by decide +kernel
theorem ck9_11 : chk (stp 20000 199 99 10 185 [some (.ref 100), none] [] (ctS 95 140 34 147)) 204 [some (.ref 100), some (.int (iI 0))] [] (ctS 112 140 34 130) = true := by decide +kernel
theorem ck9_12 : chk (stp 20000 199 99 10 204 [some (.ref 100), some (.int (iI 0))] [] (ctS 112 140 34 130)) 199 [some (.ref 100), some (.int (iI 1))] [.int (iI 1)] (ctS 116 140 34 126) = true := by decide +kernel
theorem ck9_13 : chk (stp 20000 199 99 10 199 [some (.ref 100), some (.int (iI 1))] [.int (iI 1)] (ctS 116 140 34 126)) 220 [some (.ref 100), some (.int (iI 2))] [] (ctS 120 140 34 122) = true := by decide +kernel
theorem ck9_14 : chk (stp 20000 199 99 10 220 [some (.ref 100), some (.int (iI 2))] [] (ctS 120 140 34 122)) 216 [some (.ref 100), some (.int (iI 2))] [.ref 220, .int (iI 2), .ref 169] (ctS 124 140 34 119) = true := by decide +kernel
theorem ck9_15 : chk (stp 20000 199 99 10 216 [some (.ref 100), some (.int (iI 2))] [.ref 220, .int (iI 2), .ref 169] (ctS 124 140 34 119)) 212 [some (.ref 100), some (.int (iI 3))] [.ref 224, .int (iI 3), .ref 169] (ctS 125 140 34 118) = true := by decide +kernel
theorem ck9_16 : chk (stp 20000 199 99 10 212 [some (.ref 100), some (.int (iI 3))] [.ref 224, .int (iI 3), .ref 169] (ctS 125 140 34 118)) 208 [some (.ref 100), some (.int (iI 4))] [.ref 169] (ctS 128 140 34 114) = true := by decide +kernel
theorem ck9_17 : chk (stp 20000 199 99 10 208 [some (.ref 100), some (.int (iI 4))] [.ref 169] (ctS 128 140 34 114)) 204 [some (.ref 100), some (.int (iI 5))] [] (ctS 132 140 34 110) = true := by decide +kernel
theorem ck9_18 : chk (stp 20000 199 99 10 204 [some (.ref 100), some (.int (iI 5))] [] (ctS 132 140 34 110)) 199 [some (.ref 100), some (.int (iI 6))] [.int (iI 6)] (ctS 136 140 34 106) = true := by decide +kernel
theorem ck9_19 : chk (stp 20000 199 99 10 199 [some (.ref 100), some (.int (iI 6))] [.int (iI 6)] (ctS 136 140 34 106)) 220 [some (.ref 100), some (.int (iI 7))] [] (ctS 140 140 34 102) = true := by decide +kernel
theorem ck9_20 : chk (stp 20000 199 99 10 220 [some (.ref 100), some (.int (iI 7))] [] (ctS 140 140 34 102)) 216 [some (.ref 100), some (.int (iI 7))] [.ref 240, .int (iI 7), .ref 169] (ctS 144 140 34 99) = true := by decide +kernel
theorem ck9_21 : chk (stp 20000 199 99 10 216 [some (.ref 100), some (.int (iI 7))] [.ref 240, .int (iI 7), .ref 169] (ctS 144 140 34 99)) 212 [some (.ref 100), some (.int (iI 8))] [.ref 244, .int (iI 8), .ref 169] (ctS 145 140 34 98) = true := by decide +kernel
theorem ck9_22 : chk (stp 20000 199 99 10 212 [some (.ref 100), some (.int (iI 8))] [.ref 244, .int (iI 8), .ref 169] (ctS 145 140 34 98)) 208 [some (.ref 100), some (.int (iI 9))] [.ref 169] (ctS 148 140 34 94) = true := by decide +kernel
theorem ck9_23 : chk (stp 20000 199 99 10 208 [some (.ref 100), some (.int (iI 9))] [.ref 169] (ctS 148 140 34 94)) 204 [some (.ref 100), some (.int (iI 10))] [] (ctS 152 140 34 90) = true := by decide +kernel
theorem ck9_24 : chk (stp 20000 199 99 10 204 [some (.ref 100), some (.int (iI 10))] [] (ctS 152 140 34 90)) 199 [some (.ref 100), some (.int (iI 11))] [.int (iI 11)] (ctS 156 140 34 86) = true := by decide +kernel
theorem ck9_25 : chk (stp 20000 199 99 10 199 [some (.ref 100), some (.int (iI 11))] [.int (iI 11)] (ctS 156 140 34 86)) 220 [some (.ref 100), some (.int (iI 12))] [] (ctS 160 140 34 82) = true := by decide +kernel
theorem ck9_26 : chk (stp 20000 199 99 10 220 [some (.ref 100), some (.int (iI 12))] [] (ctS 160 140 34 82)) 216 [some (.ref 100), some (.int (iI 12))] [.ref 260, .int (iI 12), .ref 169] (ctS 164 140 34 79) = true := by decide +kernel
theorem ck9_27 : chk (stp 20000 199 99 10 216 [some (.ref 100), some (.int (iI 12))] [.ref 260, .int (iI 12), .ref 169] (ctS 164 140 34 79)) 212 [some (.ref 100), some (.int (iI 13))] [.ref 264, .int (iI 13), .ref 169] (ctS 165 140 34 78) = true := by decide +kernel
theorem ck9_28 : chk (stp 20000 199 99 10 212 [some (.ref 100), some (.int (iI 13))] [.ref 264, .int (iI 13), .ref 169] (ctS 165 140 34 78)) 208 [some (.ref 100), some (.int (iI 14))] [.ref 169] (ctS 168 140 34 74) = true := by decide +kernel
theorem ck9_29 : chk (stp 20000 199 99 10 208 [some (.ref 100), some (.int (iI 14))] [.ref 169] (ctS 168 140 34 74)) 204 [some (.ref 100), some (.int (iI 15))] [] (ctS 172 140 34 70) = true := by decide +kernel
theorem ck9_30 : chk (stp 20000 199 99 10 204 [some (.ref 100), some (.int (iI 15))] [] (ctS 172 140 34 70)) 199 [some (.ref 100), some (.int (iI 16))] [.int (iI 16)] (ctS 176 140 34 66) = true := by decide +kernel
theorem ck9_31 : chk (stp 20000 199 99 10 199 [some (.ref 100), some (.int (iI 16))] [.int (iI 16)] (ctS 176 140 34 66)) 235 [some (.ref 100), some (.int (iI 0))] [.int (iI 0), .ref 170] (ctS 176 140 34 66) = true := by decide +kernel
theorem ck9_32 : chk (stp 20000 199 99 10 235 [some (.ref 100), some (.int (iI 0))] [.int (iI 0), .ref 170] (ctS 176 140 34 66)) 255 [some (.ref 100), some (.int (iI 0))] [.ref 280, .int (iI 0), .ref 171] (ctS 186 140 34 57) = true := by decide +kernel
theorem ck9_33 : chk (stp 20000 199 99 10 255 [some (.ref 100), some (.int (iI 0))] [.ref 280, .int (iI 0), .ref 171] (ctS 186 140 34 57)) 238 [some (.ref 100), some (.int (iI 1))] [.ref 286, .int (iI 1), .ref 170] (ctS 187 140 34 56) = true := by decide +kernel
theorem ck9_34 : chk (stp 20000 199 99 10 238 [some (.ref 100), some (.int (iI 1))] [.ref 286, .int (iI 1), .ref 170] (ctS 187 140 34 56)) 256 [some (.ref 100), some (.int (iI 1))] [] (ctS 196 140 34 46) = true := by decide +kernel
theorem ck9_35 : chk (stp 20000 199 99 10 256 [some (.ref 100), some (.int (iI 1))] [] (ctS 196 140 34 46)) 239 [some (.ref 100), some (.int (iI 2))] [.ref 296, .ref 296, .int (iI 2), .ref 170] (ctS 197 140 34 46) = true := by decide +kernel
theorem ck9_36 : chk (stp 20000 199 99 10 239 [some (.ref 100), some (.int (iI 2))] [.ref 296, .ref 296, .int (iI 2), .ref 170] (ctS 197 140 34 46)) 259 [some (.ref 100), some (.int (iI 3))] [] (ctS 206 140 34 36) = true := by decide +kernel
theorem ck9_37 : chk (stp 20000 199 99 10 259 [some (.ref 100), some (.int (iI 3))] [] (ctS 206 140 34 36)) 242 [some (.ref 100), some (.int (iI 3))] [.ref 306, .int (iI 3), .ref 170] (ctS 210 140 34 33) = true := by decide +kernel
theorem ck9_e : chr (runL 20000 199 99 242 [some (.ref 100), some (.int (iI 3))] [.ref 306, .int (iI 3), .ref 170] (ctS 210 140 34 33)) (ctS 216 140 34 26) = true := by decide +kernel
theorem ck2_1 : chk (stp 20000 200 277 3 7 [some (.ref 0), none, none, none, none, none, none] [.ref 100] (ctS 216 140 34 26)) 12 [some (.ref 0), some (.ref 100), none, none, none, none, none] [.ref 316, .ref 316] (ctS 217 140 34 26) = true := by decide +kernel
theorem ck1_0 : chk (stp 20000 199 158 24 0 [some (.ref 316)] [] (ctS 217 140 34 26)) 50 [some (.ref 316)] [.long (lI 1355937207), .int (iI 0), .ref 321, .ref 321, .ref 316] (ctS 222 140 34 22) = true := by decide +kernel
theorem ck1_1 : chk (stp 20000 199 158 24 50 [some (.ref 316)] [.long (lI 1355937207), .int (iI 0), .ref 321, .ref 321, .ref 316] (ctS 222 140 34 22)) 87 [some (.ref 316)] [.long (lI 57), .int (iI 6), .ref 321, .ref 321, .ref 316] (ctS 222 140 28 22) = true := by decide +kernel
theorem ck1_2 : chk (stp 20000 199 158 24 87 [some (.ref 316)] [.long (lI 57), .int (iI 6), .ref 321, .ref 321, .ref 316] (ctS 222 140 28 22)) 129 [some (.ref 316)] [.long (lI 569), .int (iI 12), .ref 321, .ref 321, .ref 316] (ctS 222 140 22 22) = true := by decide +kernel
theorem ck1_3 : chk (stp 20000 199 158 24 129 [some (.ref 316)] [.long (lI 569), .int (iI 12), .ref 321, .ref 321, .ref 316] (ctS 222 140 22 22)) 171 [some (.ref 316)] [.long (lI 1042489), .int (iI 18), .ref 321, .ref 321, .ref 316] (ctS 222 140 16 22) = true := by decide +kernel
theorem ck1_4 : chk (stp 20000 199 158 24 171 [some (.ref 316)] [.long (lI 1042489), .int (iI 18), .ref 321, .ref 321, .ref 316] (ctS 222 140 16 22)) 213 [some (.ref 316)] [.long (lI 835140), .int (iI 24), .ref 321, .ref 321, .ref 316] (ctS 222 140 10 22) = true := by decide +kernel
theorem ck1_5 : chk (stp 20000 199 158 24 213 [some (.ref 316)] [.long (lI 835140), .int (iI 24), .ref 321, .ref 321, .ref 316] (ctS 222 140 10 22)) 255 [some (.ref 316)] [.long (lI 37754889), .int (iI 30), .ref 321, .ref 321, .ref 316] (ctS 222 140 4 22) = true := by decide +kernel
theorem ck1_6 : chk (stp 20000 199 158 24 255 [some (.ref 316)] [.long (lI 37754889), .int (iI 30), .ref 321, .ref 321, .ref 316] (ctS 222 140 4 22)) 302 [some (.ref 316)] [.int (iI 2200), .ref 316] (ctS 224 140 0 19) = true := by decide +kernel
theorem ck1_7 : chk (stp 20000 199 158 24 302 [some (.ref 316)] [.int (iI 2200), .ref 316] (ctS 224 140 0 19)) 350 [some (.ref 316)] [.int (iI 4), .ref 316] (ctS 230 140 0 13) = true := by decide +kernel
theorem ck1_8 : chk (stp 20000 199 158 24 350 [some (.ref 316)] [.int (iI 4), .ref 316] (ctS 230 140 0 13)) 398 [some (.ref 316)] [.int (iI 9216), .ref 316] (ctS 236 140 0 7) = true := by decide +kernel
theorem ck1_9 : chk (stp 20000 199 158 28 398 [some (.ref 316)] [.int (iI 9216), .ref 316] (ctS 236 140 0 7)) 451 [some (.ref 316)] [.int (iI 0), .ref 316] (ctS 243 140 0 0) = true := by decide +kernel
theorem ck1_10 : chk (stp 20000 199 158 2 451 [some (.ref 316)] [.int (iI 0), .ref 316] (ctS 243 140 0 0)) 455 [some (.ref 316)] [.ref 316] (ctS 243 33 0 0) = true := by decide +kernel
theorem ck1_e : chr (runL 20000 199 158 455 [some (.ref 316)] [.ref 316] (ctS 243 33 0 0)) (ctS 243 0 0 0) = true := by decide +kernel
theorem ck2_2 : chk (stp 20000 200 277 6 15 [some (.ref 0), some (.ref 100), none, none, none, none, none] [.ref 316] (ctS 243 0 0 0)) 23 [some (.ref 0), some (.ref 100), some (.ref 316), some (.ref 343), some (.int (iI 0)), none, none] [] (ctS 244 0 0 0) = true := by decide +kernel
