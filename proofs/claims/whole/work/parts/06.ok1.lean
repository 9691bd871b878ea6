def mm_na (k : Nat) : Nat := match parseMethodDescriptor (mm_y k).desc with
  | some d => d.parameters.length
  | none => 999
/-- an entry of the tables is what the class files say -/
def mm_ok (j pc : Nat) (e : mm_E) : Bool := match e.1 with
  | .getstatic ix => mm_fs.contains (mm_ow j, ix, e.2.2.1, e.2.2.2.1) && (decide (e.2.2.1 = 0) || decide (e.2.2.1 = 1))
  | .getfield ix => if e.2.2.1 = 30 then mm_fs.contains (mm_ow j, ix, 30, e.2.2.2.1) && (decide (e.2.2.2.1 = 0) || decide (e.2.2.2.1 = 1)) else mm_fl.contains (mm_ow j, ix, e.2.2.1, e.2.2.2.1) && decide ((mm_ft e.2.2.1)[e.2.2.2.1]? = some e.2.2.2.2.toNat) && decide (0 ≤ e.2.2.2.2)
  | .putfield ix => mm_fl.contains (mm_ow j, ix, e.2.2.1, e.2.2.2.1) && decide ((mm_ft e.2.2.1)[e.2.2.2.1]? = some e.2.2.2.2.toNat) && decide (0 ≤ e.2.2.2.2) && (!(mm_T e.2.2.1 e.2.2.2.1).2.2.2 || (decide ((mm_y j).name = "<init>") && decide ((mm_T e.2.2.1 e.2.2.2.1).1 = mm_cn (mm_ow j))))
  | .ifCond _ off => decide ((pc : Int) + off = (e.2.2.1 : Int))
  | .if_icmp _ off => decide ((pc : Int) + off = (e.2.2.1 : Int))
  | .goto off => decide ((pc : Int) + off = (e.2.2.1 : Int))
  | .tableswitch d _ _ offs => decide (0 ≤ (pc : Int) + d) && offs.toList.all (fun o => decide (0 ≤ (pc : Int) + o))
  | .lookupswitch d ps => (ps.toList.zip (ps.toList.drop 1)).all (fun (a, next) => a.1 < next.1) && decide (0 ≤ (pc : Int) + d) && ps.toList.all (fun o => decide (0 ≤ (pc : Int) + o.2))
  | .ldc ix => if e.2.2.1 = 0 then mm_kc.contains (mm_ow j, ix, e.2.2.2.2) else mm_ks.contains (mm_ow j, ix, e.2.2.2.1)
  | .ldc_w ix => decide (¬ e.2.2.1 = 0) || mm_kc.contains (mm_ow j, ix, e.2.2.2.2)
  | .ldc2_w ix => mm_kl2.contains (mm_ow j, ix, e.2.2.2.2)
  | .invokestatic ix => if e.2.2.2.2 = 0 ∨ e.2.2.2.2 = 1 then mm_ml.contains (mm_ow j, ix, e.2.2.1) && mm_si.contains e.2.2.1 && mm_ck.contains e.2.2.1 && decide (e.2.2.2.1 = mm_na e.2.2.1) && decide (¬ e.2.2.1 = 278) else if e.2.2.2.2 = 20 then mm_ml.contains (mm_ow j, ix, 278) && decide (e.2.2.1 = 278) && decide (e.2.2.2.1 = 3) else decide (98 ≤ e.2.2.2.2) || (decide (10 ≤ e.2.2.2.2) && decide (e.2.2.2.2 ≤ 13) && mm_pm.contains (mm_ow j, ix, e.2.2.2.2))
  | .invokevirtual ix => if e.2.2.2.2 = 2 then mm_ml.contains (mm_ow j, ix, e.2.2.1) && mm_vi.contains e.2.2.1 && mm_in1.contains e.2.2.1 && mm_ck.contains e.2.2.1 && decide (e.2.2.2.1 = mm_na e.2.2.1 + 1) && decide (¬ e.2.2.1 = 278) else false
  | .invokespecial ix => if e.2.2.2.2 = 3 then mm_ml.contains (mm_ow j, ix, e.2.2.1) && mm_in1.contains e.2.2.1 && mm_ck.contains e.2.2.1 && decide ((mm_y e.2.2.1).name = "<init>") && decide (mm_rt e.2.2.1 = none) && decide (e.2.2.2.1 = mm_na e.2.2.1 + 1) && decide (¬ e.2.2.1 = 278) else if e.2.2.2.2 = 5 then mm_nl.contains (mm_ow j, ix, e.2.2.1) && mm_in1.contains e.2.2.1 && mm_ck.contains e.2.2.1 && decide ((mm_y e.2.2.1).name = "<init>") && decide (mm_rt e.2.2.1 = none) && decide (e.2.2.2.1 = mm_na e.2.2.1 + 1) && decide (¬ e.2.2.1 = 278) else decide (e.2.2.2.2 = 98) || (decide (e.2.2.2.2 = 4) && mm_pm.contains (mm_ow j, ix, 4))
  | .new ix => decide (e.2.2.1 = 99) || (mm_nw.contains (mm_ow j, ix, e.2.2.1) && decide (e.2.2.1 < 13))
  | .anewarray ix => mm_an.contains (mm_ow j, ix, e.2.2.1) && (decide (e.2.2.1 = 24) || decide (e.2.2.1 = 25) || decide (e.2.2.1 = 26))
  | .multianewarray ix dims => mm_n2.contains (mm_ow j, ix) && decide (dims = 2)
  | .ireturn => decide (mm_rt j = some .int) || decide (mm_rt j = some .boolean) || decide (mm_rt j = some .char) || decide (mm_rt j = some .byte)
  | .lreturn => decide (mm_rt j = some .long)
  | .return_ => decide (mm_rt j = none)
  | _ => true
def mm_chk (j : Nat) (x : Nat × mm_E) : Bool := decide (decode (mm_b j) x.1 = .ok (x.2.1, x.2.2.1)) && mm_ok j x.1 x.2

set_option maxRecDepth 100000 in
theorem mm_chk_0 : mm_c0.all (mm_chk 0) = true := by decide +kernel
set_option maxRecDepth 100000 in
theorem mm_chk_1 : mm_c1.all (mm_chk 1) = true := by decide +kernel
set_option maxRecDepth 100000 in
theorem mm_chk_2 : mm_c2.all (mm_chk 2) = true := by decide +kernel
set_option maxRecDepth 100000 in
theorem mm_chk_3 : mm_c3.all (mm_chk 3) = true := by decide +kernel
set_option maxRecDepth 100000 in
theorem mm_chk_4 : mm_c4.all (mm_chk 4) = true := by decide +kernel
set_option maxRecDepth 100000 in
theorem mm_chk_5 : mm_c5.all (mm_chk 5) = true := by decide +kernel
set_option maxRecDepth 100000 in
theorem mm_chk_6 : mm_c6.all (mm_chk 6) = true := by decide +kernel
set_option maxRecDepth 100000 in
theorem mm_chk_7 : mm_c7.all (mm_chk 7) = true := by decide +kernel
set_option maxRecDepth 100000 in
theorem mm_chk_8 : mm_c8.all (mm_chk 8) = true := by decide +kernel
set_option maxRecDepth 100000 in
theorem mm_chk_9 : mm_c9.all (mm_chk 9) = true := by decide +kernel
set_option maxRecDepth 100000 in
theorem mm_chk_10 : mm_c10.all (mm_chk 10) = true := by decide +kernel
set_option maxRecDepth 100000 in
theorem mm_chk_11 : mm_c11.all (mm_chk 11) = true := by decide +kernel
set_option maxRecDepth 100000 in
theorem mm_chk_12 : mm_c12.all (mm_chk 12) = true := by decide +kernel
set_option maxRecDepth 100000 in
theorem mm_chk_13 : mm_c13.all (mm_chk 13) = true := by decide +kernel
set_option maxRecDepth 100000 in
theorem mm_chk_14 : mm_c14.all (mm_chk 14) = true := by decide +kernel
set_option maxRecDepth 100000 in
theorem mm_chk_15 : mm_c15.all (mm_chk 15) = true := by decide +kernel
set_option maxRecDepth 100000 in
theorem mm_chk_16 : mm_c16.all (mm_chk 16) = true := by decide +kernel
set_option maxRecDepth 100000 in
theorem mm_chk_17 : mm_c17.all (mm_chk 17) = true := by decide +kernel
set_option maxRecDepth 100000 in
theorem mm_chk_18 : mm_c18.all (mm_chk 18) = true := by decide +kernel
set_option maxRecDepth 100000 in
theorem mm_chk_19 : mm_c19.all (mm_chk 19) = true := by decide +kernel
set_option maxRecDepth 100000 in
theorem mm_chk_20 : mm_c20.all (mm_chk 20) = true := by decide +kernel
set_option maxRecDepth 100000 in
theorem mm_chk_21 : mm_c21.all (mm_chk 21) = true := by decide +kernel
set_option maxRecDepth 100000 in
theorem mm_chk_22 : mm_c22.all (mm_chk 22) = true := by decide +kernel
set_option maxRecDepth 100000 in
theorem mm_chk_23 : mm_c23.all (mm_chk 23) = true := by decide +kernel
set_option maxRecDepth 100000 in
theorem mm_chk_24 : mm_c24.all (mm_chk 24) = true := by decide +kernel
set_option maxRecDepth 100000 in
theorem mm_chk_25 : mm_c25.all (mm_chk 25) = true := by decide +kernel
set_option maxRecDepth 100000 in
theorem mm_chk_26 : mm_c26.all (mm_chk 26) = true := by decide +kernel
set_option maxRecDepth 100000 in
theorem mm_chk_27 : mm_c27.all (mm_chk 27) = true := by decide +kernel
set_option maxRecDepth 100000 in
theorem mm_chk_28 : mm_c28.all (mm_chk 28) = true := by decide +kernel
set_option maxRecDepth 100000 in
theorem mm_chk_29 : mm_c29.all (mm_chk 29) = true := by decide +kernel
set_option maxRecDepth 100000 in
theorem mm_chk_30 : mm_c30.all (mm_chk 30) = true := by decide +kernel
set_option maxRecDepth 100000 in
theorem mm_chk_31 : mm_c31.all (mm_chk 31) = true := by decide +kernel
set_option maxRecDepth 100000 in
theorem mm_chk_32 : mm_c32.all (mm_chk 32) = true := by decide +kernel
set_option maxRecDepth 100000 in
theorem mm_chk_33 : mm_c33.all (mm_chk 33) = true := by decide +kernel
set_option maxRecDepth 100000 in
theorem mm_chk_34 : mm_c34.all (mm_chk 34) = true := by decide +kernel
set_option maxRecDepth 100000 in
theorem mm_chk_35 : mm_c35.all (mm_chk 35) = true := by decide +kernel
set_option maxRecDepth 100000 in
theorem mm_chk_36 : mm_c36.all (mm_chk 36) = true := by decide +kernel
set_option maxRecDepth 100000 in
theorem mm_chk_37 : mm_c37.all (mm_chk 37) = true := by decide +kernel
set_option maxRecDepth 100000 in
theorem mm_chk_38 : mm_c38.all (mm_chk 38) = true := by decide +kernel
set_option maxRecDepth 100000 in
theorem mm_chk_39 : mm_c39.all (mm_chk 39) = true := by decide +kernel
set_option maxRecDepth 100000 in
theorem mm_chk_40 : mm_c40.all (mm_chk 40) = true := by decide +kernel
set_option maxRecDepth 100000 in
theorem mm_chk_41 : mm_c41.all (mm_chk 41) = true := by decide +kernel
set_option maxRecDepth 100000 in
theorem mm_chk_42 : mm_c42.all (mm_chk 42) = true := by decide +kernel
set_option maxRecDepth 100000 in
theorem mm_chk_43 : mm_c43.all (mm_chk 43) = true := by decide +kernel
set_option maxRecDepth 100000 in
theorem mm_chk_44 : mm_c44.all (mm_chk 44) = true := by decide +kernel
set_option maxRecDepth 100000 in
theorem mm_chk_45 : mm_c45.all (mm_chk 45) = true := by decide +kernel
set_option maxRecDepth 100000 in
theorem mm_chk_46 : mm_c46.all (mm_chk 46) = true := by decide +kernel
set_option maxRecDepth 100000 in
theorem mm_chk_47 : mm_c47.all (mm_chk 47) = true := by decide +kernel
set_option maxRecDepth 100000 in
theorem mm_chk_48 : mm_c48.all (mm_chk 48) = true := by decide +kernel
set_option maxRecDepth 100000 in
theorem mm_chk_49 : mm_c49.all (mm_chk 49) = true := by decide +kernel
set_option maxRecDepth 100000 in
theorem mm_chk_50 : mm_c50.all (mm_chk 50) = true := by decide +kernel
set_option maxRecDepth 100000 in
theorem mm_chk_51 : mm_c51.all (mm_chk 51) = true := by decide +kernel
set_option maxRecDepth 100000 in
theorem mm_chk_52 : mm_c52.all (mm_chk 52) = true := by decide +kernel
set_option maxRecDepth 100000 in
theorem mm_chk_53 : mm_c53.all (mm_chk 53) = true := by decide +kernel
set_option maxRecDepth 100000 in
theorem mm_chk_54 : mm_c54.all (mm_chk 54) = true := by decide +kernel
set_option maxRecDepth 100000 in
theorem mm_chk_55 : mm_c55.all (mm_chk 55) = true := by decide +kernel
set_option maxRecDepth 100000 in
theorem mm_chk_56 : mm_c56.all (mm_chk 56) = true := by decide +kernel
set_option maxRecDepth 100000 in
theorem mm_chk_57 : mm_c57.all (mm_chk 57) = true := by decide +kernel
set_option maxRecDepth 100000 in
theorem mm_chk_58 : mm_c58.all (mm_chk 58) = true := by decide +kernel
set_option maxRecDepth 100000 in
theorem mm_chk_59 : mm_c59.all (mm_chk 59) = true := by decide +kernel
set_option maxRecDepth 100000 in
theorem mm_chk_60 : mm_c60.all (mm_chk 60) = true := by decide +kernel
set_option maxRecDepth 100000 in
theorem mm_chk_61 : mm_c61.all (mm_chk 61) = true := by decide +kernel
set_option maxRecDepth 100000 in
theorem mm_chk_62 : mm_c62.all (mm_chk 62) = true := by decide +kernel
set_option maxRecDepth 100000 in
theorem mm_chk_63 : mm_c63.all (mm_chk 63) = true := by decide +kernel
set_option maxRecDepth 100000 in
theorem mm_chk_64 : mm_c64.all (mm_chk 64) = true := by decide +kernel
set_option maxRecDepth 100000 in
theorem mm_chk_65 : mm_c65.all (mm_chk 65) = true := by decide +kernel
set_option maxRecDepth 100000 in
theorem mm_chk_66 : mm_c66.all (mm_chk 66) = true := by decide +kernel
set_option maxRecDepth 100000 in
theorem mm_chk_67 : mm_c67.all (mm_chk 67) = true := by decide +kernel
set_option maxRecDepth 100000 in
theorem mm_chk_68 : mm_c68.all (mm_chk 68) = true := by decide +kernel
set_option maxRecDepth 100000 in
theorem mm_chk_69 : mm_c69.all (mm_chk 69) = true := by decide +kernel
set_option maxRecDepth 100000 in
theorem mm_chk_70 : mm_c70.all (mm_chk 70) = true := by decide +kernel
set_option maxRecDepth 100000 in
theorem mm_chk_71 : mm_c71.all (mm_chk 71) = true := by decide +kernel
set_option maxRecDepth 100000 in
theorem mm_chk_72 : mm_c72.all (mm_chk 72) = true := by decide +kernel
set_option maxRecDepth 100000 in
theorem mm_chk_73 : mm_c73.all (mm_chk 73) = true := by decide +kernel
set_option maxRecDepth 100000 in
theorem mm_chk_74 : mm_c74.all (mm_chk 74) = true := by decide +kernel
set_option maxRecDepth 100000 in
theorem mm_chk_75 : mm_c75.all (mm_chk 75) = true := by decide +kernel
set_option maxRecDepth 100000 in
theorem mm_chk_76 : mm_c76.all (mm_chk 76) = true := by decide +kernel
set_option maxRecDepth 100000 in
theorem mm_chk_77 : mm_c77.all (mm_chk 77) = true := by decide +kernel
set_option maxRecDepth 100000 in
theorem mm_chk_78 : mm_c78.all (mm_chk 78) = true := by decide +kernel
set_option maxRecDepth 100000 in
theorem mm_chk_79 : mm_c79.all (mm_chk 79) = true := by decide +kernel
set_option maxRecDepth 100000 in
theorem mm_chk_80 : mm_c80.all (mm_chk 80) = true := by decide +kernel
set_option maxRecDepth 100000 in
theorem mm_chk_81 : mm_c81.all (mm_chk 81) = true := by decide +kernel
set_option maxRecDepth 100000 in
theorem mm_chk_82 : mm_c82.all (mm_chk 82) = true := by decide +kernel
set_option maxRecDepth 100000 in
theorem mm_chk_83 : mm_c83.all (mm_chk 83) = true := by decide +kernel
set_option maxRecDepth 100000 in
theorem mm_chk_84 : mm_c84.all (mm_chk 84) = true := by decide +kernel
set_option maxRecDepth 100000 in
theorem mm_chk_85 : mm_c85.all (mm_chk 85) = true := by decide +kernel
set_option maxRecDepth 100000 in
theorem mm_chk_86 : mm_c86.all (mm_chk 86) = true := by decide +kernel
set_option maxRecDepth 100000 in
theorem mm_chk_87 : mm_c87.all (mm_chk 87) = true := by decide +kernel
set_option maxRecDepth 100000 in
theorem mm_chk_88 : mm_c88.all (mm_chk 88) = true := by decide +kernel
set_option maxRecDepth 100000 in
theorem mm_chk_89 : mm_c89.all (mm_chk 89) = true := by decide +kernel
set_option maxRecDepth 100000 in
theorem mm_chk_90 : mm_c90.all (mm_chk 90) = true := by decide +kernel
set_option maxRecDepth 100000 in
theorem mm_chk_91 : mm_c91.all (mm_chk 91) = true := by decide +kernel
set_option maxRecDepth 100000 in
theorem mm_chk_92 : mm_c92.all (mm_chk 92) = true := by decide +kernel
set_option maxRecDepth 100000 in
theorem mm_chk_93 : mm_c93.all (mm_chk 93) = true := by decide +kernel
set_option maxRecDepth 100000 in
theorem mm_chk_94 : mm_c94.all (mm_chk 94) = true := by decide +kernel
set_option maxRecDepth 100000 in
theorem mm_chk_95 : mm_c95.all (mm_chk 95) = true := by decide +kernel
set_option maxRecDepth 100000 in
theorem mm_chk_96 : mm_c96.all (mm_chk 96) = true := by decide +kernel
set_option maxRecDepth 100000 in
theorem mm_chk_97 : mm_c97.all (mm_chk 97) = true := by decide +kernel
set_option maxRecDepth 100000 in
theorem mm_chk_98 : mm_c98.all (mm_chk 98) = true := by decide +kernel
set_option maxRecDepth 100000 in
theorem mm_chk_99 : mm_c99.all (mm_chk 99) = true := by decide +kernel
