/-- what the Statement gives of the start, word by word -/
def NW : List Cond := flatC (Jvm.Cond.and given_1 narrow_1)
def nwT : Nat → Term := fun i => match i with
  | 0 => .string "SamePassers$Tape" 19
  | 1 => .string "SamePassers$Street" 36
  | 2 => .string "SamePassers$Street" 38
  | 3 => .string "SamePassers$Street" 47
  | 4 => .string "SamePassers$Street" 49
  | _ => .string "SamePassers$Tape" 54
def nwP : List Nat := [69, 222, 232, 241, 252, 266]
theorem nw_ln : ∀ i : Nat, i < 6 → mm_sln.getD i 0 < 2 ^ 31 := by decide +kernel
theorem nw_ex : ∀ i : Nat, i < 6 → NW[nwP.getD i 0]? = some (Cond.exactly (nwT i) "java/lang/String") := by decide +kernel
theorem nw_co : ∀ i : Nat, i < 6 → NW[nwP.getD i 0 + 1]? = some (Cond.eq (.field (nwT i) "java/lang/String" "coder" "B") (.int 0)) := by decide +kernel
theorem nw_ar : ∀ i : Nat, i < 6 → NW[nwP.getD i 0 + 2]? = some (Cond.arrayOf (.field (nwT i) "java/lang/String" "value" "[B") .byte) := by decide +kernel
theorem nw_le : ∀ i : Nat, i < 6 → NW[nwP.getD i 0 + 3]? = some (Cond.eq (.length (.field (nwT i) "java/lang/String" "value" "[B")) (.int (Int32.ofNat (mm_sln.getD i 0)))) := by decide +kernel
theorem nw_el : ∀ i : Nat, i < 6 → ∀ j : Nat, j < mm_sln.getD i 0 → NW[nwP.getD i 0 + 4 + j]? = some (Cond.eq (.elem (.field (nwT i) "java/lang/String" "value" "[B") (.int (Int32.ofNat j))) (.int ((mm_sby.getD i []).getD j 0))) := by decide +kernel
theorem nw_ne : ∀ i : Nat, i < 6 → ∀ j : Nat, j < 6 → i ≠ j → (Cond.not (Cond.eq (nwT i) (nwT j)) ∈ NW ∨ Cond.not (Cond.eq (nwT j) (nwT i)) ∈ NW) := by decide +kernel
theorem nw_cs : NW[4]? = some (Cond.eq (.static "java/lang/String" "COMPACT_STRINGS" "Z") (.int 1)) := by decide +kernel
theorem nw_si : NW[5]? = some (Cond.isRef (.static "jdk/internal/util/Preconditions" "SIOOBE_FORMATTER" "Ljava/util/function/BiFunction;")) := by decide +kernel
theorem nw_un : NW[9]? = some (Cond.isRef (.static Jvm.Bundle.tN "UNASSIGNED_STACK" Jvm.Bundle.steD)) := by decide +kernel
theorem nw_su : NW[10]? = some (Cond.isRef (.static Jvm.Bundle.tN "SUPPRESSED_SENTINEL" Jvm.Bundle.listD)) := by decide +kernel
theorem nw_x7 : NW[283]? = some (Cond.exactly (.string "SamePassers" 309) "java/lang/String") := by decide +kernel
theorem nw_x8 : NW[305]? = some (Cond.exactly (.string "SamePassers" 326) "java/lang/String") := by decide +kernel
theorem nw_x9 : NW[322]? = some (Cond.exactly (.string "SamePassers" 335) "java/lang/String") := by decide +kernel
theorem tb_st : ∀ q ∈ [Cond.laysStatic "java/lang/String" "COMPACT_STRINGS" "Z", Cond.initialized "java/lang/String", Cond.laysStatic "jdk/internal/util/Preconditions" "SIOOBE_FORMATTER" "Ljava/util/function/BiFunction;", Cond.initialized "jdk/internal/util/Preconditions", Cond.laysStatic Jvm.Bundle.tN "UNASSIGNED_STACK" Jvm.Bundle.steD, Cond.laysStatic Jvm.Bundle.tN "SUPPRESSED_SENTINEL" Jvm.Bundle.listD, Cond.initialized Jvm.Bundle.tN, Cond.arrayClass .int, Cond.arrayClass .long, Cond.arrayClass .boolean, Cond.arrayClass .char, Cond.arrayOver (.object "SamePassers$Hands"), Cond.arrayOver (.object "SamePassers$Papers"), Cond.arrayOver (.object "SamePassers$Walker"), Cond.arrayOver (.array .int), Cond.stringRef "SamePassers$Tape" 19 "street lanes frame to sharp say at walker lane from pace lag on must round quick odd start turn late take left right plain pram dog stray not and or ", Cond.stringRef "SamePassers$Street" 36 "tempo", Cond.stringRef "SamePassers$Street" 38 "nth", Cond.stringRef "SamePassers$Street" 47 "kind", Cond.stringRef "SamePassers$Street" 49 "passes", Cond.stringRef "SamePassers$Tape" 54 "()<=+-*;", Cond.stringRef "SamePassers" 309 "no such take", Cond.stringRef "SamePassers" 326 "no law", Cond.stringRef "SamePassers" 335 "the laws do not agree"], q ∈ lw_tbl := by decide +kernel
theorem tb_nl : ∀ x ∈ mm_nl, mm_nl_c x ∈ lw_tbl := by decide +kernel
