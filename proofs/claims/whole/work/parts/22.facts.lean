set_option maxRecDepth 4000 in
theorem tb_0 : mm_prog[0]? = some mm_c0 := rfl
theorem mx_0 : mm_mx 0 = 1 := by decide +kernel
theorem mo_0 : mm_ow 0 = 0 := by decide +kernel
theorem ma_0 : mm_rt 0 = none := by decide +kernel
set_option maxRecDepth 4000 in
theorem tb_1 : mm_prog[1]? = some mm_c1 := rfl
theorem mx_1 : mm_mx 1 = 6 := by decide +kernel
theorem mo_1 : mm_ow 1 = 0 := by decide +kernel
theorem ma_1 : mm_rt 1 = none := by decide +kernel
set_option maxRecDepth 4000 in
theorem tb_2 : mm_prog[2]? = some mm_c2 := rfl
theorem mx_2 : mm_mx 2 = 6 := by decide +kernel
theorem mo_2 : mm_ow 2 = 0 := by decide +kernel
theorem ma_2 : ¬ mm_rt 2 = none ∧ ¬ mm_rt 2 = some .long := by decide +kernel
theorem mz_2 : mm_isZ 2 = 0 := by decide +kernel
set_option maxRecDepth 4000 in
theorem tb_3 : mm_prog[3]? = some mm_c3 := rfl
theorem mx_3 : mm_mx 3 = 5 := by decide +kernel
theorem mo_3 : mm_ow 3 = 0 := by decide +kernel
theorem ma_3 : ¬ mm_rt 3 = none ∧ ¬ mm_rt 3 = some .long := by decide +kernel
theorem mz_3 : mm_isZ 3 = 0 := by decide +kernel
set_option maxRecDepth 4000 in
theorem tb_4 : mm_prog[4]? = some mm_c4 := rfl
theorem mx_4 : mm_mx 4 = 9 := by decide +kernel
theorem mo_4 : mm_ow 4 = 0 := by decide +kernel
theorem ma_4 : ¬ mm_rt 4 = none ∧ ¬ mm_rt 4 = some .long := by decide +kernel
theorem mz_4 : mm_isZ 4 = 0 := by decide +kernel
set_option maxRecDepth 4000 in
theorem tb_5 : mm_prog[5]? = some mm_c5 := rfl
theorem mx_5 : mm_mx 5 = 10 := by decide +kernel
theorem mo_5 : mm_ow 5 = 0 := by decide +kernel
theorem ma_5 : ¬ mm_rt 5 = none ∧ ¬ mm_rt 5 = some .long := by decide +kernel
theorem mz_5 : mm_isZ 5 = 0 := by decide +kernel
set_option maxRecDepth 4000 in
theorem tb_6 : mm_prog[6]? = some mm_c6 := rfl
theorem mx_6 : mm_mx 6 = 2 := by decide +kernel
theorem mo_6 : mm_ow 6 = 0 := by decide +kernel
theorem ma_6 : ¬ mm_rt 6 = none ∧ ¬ mm_rt 6 = some .long := by decide +kernel
theorem mz_6 : mm_isZ 6 = 1 := by decide +kernel
set_option maxRecDepth 4000 in
theorem tb_7 : mm_prog[7]? = some mm_c7 := rfl
theorem mx_7 : mm_mx 7 = 5 := by decide +kernel
theorem mo_7 : mm_ow 7 = 0 := by decide +kernel
theorem ma_7 : ¬ mm_rt 7 = none ∧ ¬ mm_rt 7 = some .long := by decide +kernel
theorem mz_7 : mm_isZ 7 = 0 := by decide +kernel
set_option maxRecDepth 4000 in
theorem tb_8 : mm_prog[8]? = some mm_c8 := rfl
theorem mx_8 : mm_mx 8 = 5 := by decide +kernel
theorem mo_8 : mm_ow 8 = 0 := by decide +kernel
theorem ma_8 : ¬ mm_rt 8 = none ∧ ¬ mm_rt 8 = some .long := by decide +kernel
theorem mz_8 : mm_isZ 8 = 1 := by decide +kernel
set_option maxRecDepth 4000 in
theorem tb_9 : mm_prog[9]? = some mm_c9 := rfl
theorem mx_9 : mm_mx 9 = 1 := by decide +kernel
theorem mo_9 : mm_ow 9 = 1 := by decide +kernel
theorem ma_9 : mm_rt 9 = none := by decide +kernel
set_option maxRecDepth 4000 in
theorem tb_10 : mm_prog[10]? = some mm_c10 := rfl
theorem mx_10 : mm_mx 10 = 3 := by decide +kernel
theorem mo_10 : mm_ow 10 = 1 := by decide +kernel
theorem ma_10 : mm_rt 10 = none := by decide +kernel
set_option maxRecDepth 4000 in
theorem tb_11 : mm_prog[11]? = some mm_c11 := rfl
theorem mx_11 : mm_mx 11 = 2 := by decide +kernel
theorem mo_11 : mm_ow 11 = 1 := by decide +kernel
theorem ma_11 : mm_rt 11 = none := by decide +kernel
set_option maxRecDepth 4000 in
theorem tb_12 : mm_prog[12]? = some mm_c12 := rfl
theorem mx_12 : mm_mx 12 = 1 := by decide +kernel
theorem mo_12 : mm_ow 12 = 1 := by decide +kernel
theorem ma_12 : mm_rt 12 = none := by decide +kernel
set_option maxRecDepth 4000 in
theorem tb_13 : mm_prog[13]? = some mm_c13 := rfl
theorem mx_13 : mm_mx 13 = 2 := by decide +kernel
theorem mo_13 : mm_ow 13 = 2 := by decide +kernel
theorem ma_13 : mm_rt 13 = none := by decide +kernel
set_option maxRecDepth 4000 in
theorem tb_14 : mm_prog[14]? = some mm_c14 := rfl
theorem mx_14 : mm_mx 14 = 5 := by decide +kernel
theorem mo_14 : mm_ow 14 = 2 := by decide +kernel
theorem ma_14 : ¬ mm_rt 14 = none ∧ ¬ mm_rt 14 = some .long := by decide +kernel
theorem mz_14 : mm_isZ 14 = 1 := by decide +kernel
set_option maxRecDepth 4000 in
theorem tb_15 : mm_prog[15]? = some mm_c15 := rfl
theorem mx_15 : mm_mx 15 = 6 := by decide +kernel
theorem mo_15 : mm_ow 15 = 2 := by decide +kernel
theorem ma_15 : mm_rt 15 = none := by decide +kernel
set_option maxRecDepth 4000 in
theorem tb_16 : mm_prog[16]? = some mm_c16 := rfl
theorem mx_16 : mm_mx 16 = 6 := by decide +kernel
theorem mo_16 : mm_ow 16 = 2 := by decide +kernel
theorem ma_16 : ¬ mm_rt 16 = none ∧ ¬ mm_rt 16 = some .long := by decide +kernel
theorem mz_16 : mm_isZ 16 = 0 := by decide +kernel
set_option maxRecDepth 4000 in
theorem tb_17 : mm_prog[17]? = some mm_c17 := rfl
theorem mx_17 : mm_mx 17 = 4 := by decide +kernel
theorem mo_17 : mm_ow 17 = 2 := by decide +kernel
theorem ma_17 : ¬ mm_rt 17 = none ∧ ¬ mm_rt 17 = some .long := by decide +kernel
theorem mz_17 : mm_isZ 17 = 0 := by decide +kernel
set_option maxRecDepth 4000 in
theorem tb_18 : mm_prog[18]? = some mm_c18 := rfl
theorem mx_18 : mm_mx 18 = 3 := by decide +kernel
theorem mo_18 : mm_ow 18 = 2 := by decide +kernel
theorem ma_18 : mm_rt 18 = none := by decide +kernel
set_option maxRecDepth 4000 in
theorem tb_19 : mm_prog[19]? = some mm_c19 := rfl
theorem mx_19 : mm_mx 19 = 7 := by decide +kernel
theorem mo_19 : mm_ow 19 = 2 := by decide +kernel
theorem ma_19 : mm_rt 19 = none := by decide +kernel
set_option maxRecDepth 4000 in
theorem tb_20 : mm_prog[20]? = some mm_c20 := rfl
theorem mx_20 : mm_mx 20 = 7 := by decide +kernel
theorem mo_20 : mm_ow 20 = 2 := by decide +kernel
theorem ma_20 : ¬ mm_rt 20 = none ∧ ¬ mm_rt 20 = some .long := by decide +kernel
theorem mz_20 : mm_isZ 20 = 0 := by decide +kernel
set_option maxRecDepth 4000 in
theorem tb_21 : mm_prog[21]? = some mm_c21 := rfl
theorem mx_21 : mm_mx 21 = 5 := by decide +kernel
theorem mo_21 : mm_ow 21 = 2 := by decide +kernel
theorem ma_21 : mm_rt 21 = none := by decide +kernel
set_option maxRecDepth 4000 in
theorem tb_22 : mm_prog[22]? = some mm_c22 := rfl
theorem mx_22 : mm_mx 22 = 5 := by decide +kernel
theorem mo_22 : mm_ow 22 = 2 := by decide +kernel
theorem ma_22 : mm_rt 22 = none := by decide +kernel
set_option maxRecDepth 4000 in
theorem tb_23 : mm_prog[23]? = some mm_c23 := rfl
theorem mx_23 : mm_mx 23 = 3 := by decide +kernel
theorem mo_23 : mm_ow 23 = 3 := by decide +kernel
theorem ma_23 : mm_rt 23 = none := by decide +kernel
set_option maxRecDepth 4000 in
theorem tb_24 : mm_prog[24]? = some mm_c24 := rfl
theorem mx_24 : mm_mx 24 = 1 := by decide +kernel
theorem mo_24 : mm_ow 24 = 3 := by decide +kernel
theorem ma_24 : mm_rt 24 = none := by decide +kernel
set_option maxRecDepth 4000 in
theorem tb_25 : mm_prog[25]? = some mm_c25 := rfl
theorem mx_25 : mm_mx 25 = 2 := by decide +kernel
theorem mo_25 : mm_ow 25 = 3 := by decide +kernel
theorem ma_25 : mm_rt 25 = none := by decide +kernel
set_option maxRecDepth 4000 in
theorem tb_26 : mm_prog[26]? = some mm_c26 := rfl
theorem mx_26 : mm_mx 26 = 6 := by decide +kernel
theorem mo_26 : mm_ow 26 = 3 := by decide +kernel
theorem ma_26 : ¬ mm_rt 26 = none ∧ ¬ mm_rt 26 = some .long := by decide +kernel
theorem mz_26 : mm_isZ 26 = 0 := by decide +kernel
set_option maxRecDepth 4000 in
theorem tb_27 : mm_prog[27]? = some mm_c27 := rfl
theorem mx_27 : mm_mx 27 = 3 := by decide +kernel
theorem mo_27 : mm_ow 27 = 3 := by decide +kernel
theorem ma_27 : ¬ mm_rt 27 = none ∧ ¬ mm_rt 27 = some .long := by decide +kernel
theorem mz_27 : mm_isZ 27 = 0 := by decide +kernel
set_option maxRecDepth 4000 in
theorem tb_28 : mm_prog[28]? = some mm_c28 := rfl
theorem mx_28 : mm_mx 28 = 1 := by decide +kernel
theorem mo_28 : mm_ow 28 = 4 := by decide +kernel
theorem ma_28 : mm_rt 28 = none := by decide +kernel
set_option maxRecDepth 4000 in
theorem tb_29 : mm_prog[29]? = some mm_c29 := rfl
theorem mx_29 : mm_mx 29 = 3 := by decide +kernel
theorem mo_29 : mm_ow 29 = 4 := by decide +kernel
theorem ma_29 : ¬ mm_rt 29 = none ∧ ¬ mm_rt 29 = some .long := by decide +kernel
theorem mz_29 : mm_isZ 29 = 1 := by decide +kernel
set_option maxRecDepth 4000 in
theorem tb_30 : mm_prog[30]? = some mm_c30 := rfl
theorem mx_30 : mm_mx 30 = 4 := by decide +kernel
theorem mo_30 : mm_ow 30 = 4 := by decide +kernel
theorem ma_30 : ¬ mm_rt 30 = none ∧ ¬ mm_rt 30 = some .long := by decide +kernel
theorem mz_30 : mm_isZ 30 = 1 := by decide +kernel
set_option maxRecDepth 4000 in
theorem tb_31 : mm_prog[31]? = some mm_c31 := rfl
theorem mx_31 : mm_mx 31 = 2 := by decide +kernel
theorem mo_31 : mm_ow 31 = 4 := by decide +kernel
theorem ma_31 : mm_rt 31 = none := by decide +kernel
set_option maxRecDepth 4000 in
theorem tb_32 : mm_prog[32]? = some mm_c32 := rfl
theorem mx_32 : mm_mx 32 = 6 := by decide +kernel
theorem mo_32 : mm_ow 32 = 4 := by decide +kernel
theorem ma_32 : mm_rt 32 = none := by decide +kernel
set_option maxRecDepth 4000 in
theorem tb_33 : mm_prog[33]? = some mm_c33 := rfl
theorem mx_33 : mm_mx 33 = 4 := by decide +kernel
theorem mo_33 : mm_ow 33 = 4 := by decide +kernel
theorem ma_33 : ¬ mm_rt 33 = none ∧ ¬ mm_rt 33 = some .long := by decide +kernel
theorem mz_33 : mm_isZ 33 = 1 := by decide +kernel
set_option maxRecDepth 4000 in
theorem tb_34 : mm_prog[34]? = some mm_c34 := rfl
theorem mx_34 : mm_mx 34 = 5 := by decide +kernel
theorem mo_34 : mm_ow 34 = 4 := by decide +kernel
theorem ma_34 : mm_rt 34 = none := by decide +kernel
set_option maxRecDepth 4000 in
theorem tb_35 : mm_prog[35]? = some mm_c35 := rfl
theorem mx_35 : mm_mx 35 = 4 := by decide +kernel
theorem mo_35 : mm_ow 35 = 5 := by decide +kernel
theorem ma_35 : mm_rt 35 = none := by decide +kernel
set_option maxRecDepth 4000 in
theorem tb_36 : mm_prog[36]? = some mm_c36 := rfl
theorem mx_36 : mm_mx 36 = 4 := by decide +kernel
theorem mo_36 : mm_ow 36 = 5 := by decide +kernel
theorem ma_36 : ¬ mm_rt 36 = none ∧ ¬ mm_rt 36 = some .long := by decide +kernel
theorem mz_36 : mm_isZ 36 = 0 := by decide +kernel
set_option maxRecDepth 4000 in
theorem tb_37 : mm_prog[37]? = some mm_c37 := rfl
theorem mx_37 : mm_mx 37 = 1 := by decide +kernel
theorem mo_37 : mm_ow 37 = 5 := by decide +kernel
theorem ma_37 : ¬ mm_rt 37 = none ∧ ¬ mm_rt 37 = some .long := by decide +kernel
theorem mz_37 : mm_isZ 37 = 1 := by decide +kernel
set_option maxRecDepth 4000 in
theorem tb_38 : mm_prog[38]? = some mm_c38 := rfl
theorem mx_38 : mm_mx 38 = 4 := by decide +kernel
theorem mo_38 : mm_ow 38 = 5 := by decide +kernel
theorem ma_38 : ¬ mm_rt 38 = none ∧ ¬ mm_rt 38 = some .long := by decide +kernel
theorem mz_38 : mm_isZ 38 = 1 := by decide +kernel
set_option maxRecDepth 4000 in
theorem tb_39 : mm_prog[39]? = some mm_c39 := rfl
theorem mx_39 : mm_mx 39 = 2 := by decide +kernel
theorem mo_39 : mm_ow 39 = 5 := by decide +kernel
theorem ma_39 : ¬ mm_rt 39 = none ∧ ¬ mm_rt 39 = some .long := by decide +kernel
theorem mz_39 : mm_isZ 39 = 1 := by decide +kernel
set_option maxRecDepth 4000 in
theorem tb_40 : mm_prog[40]? = some mm_c40 := rfl
theorem mx_40 : mm_mx 40 = 2 := by decide +kernel
theorem mo_40 : mm_ow 40 = 5 := by decide +kernel
theorem ma_40 : ¬ mm_rt 40 = none ∧ ¬ mm_rt 40 = some .long := by decide +kernel
theorem mz_40 : mm_isZ 40 = 1 := by decide +kernel
set_option maxRecDepth 4000 in
theorem tb_41 : mm_prog[41]? = some mm_c41 := rfl
theorem mx_41 : mm_mx 41 = 3 := by decide +kernel
theorem mo_41 : mm_ow 41 = 5 := by decide +kernel
theorem ma_41 : ¬ mm_rt 41 = none ∧ ¬ mm_rt 41 = some .long := by decide +kernel
theorem mz_41 : mm_isZ 41 = 1 := by decide +kernel
set_option maxRecDepth 4000 in
theorem tb_42 : mm_prog[42]? = some mm_c42 := rfl
theorem mx_42 : mm_mx 42 = 1 := by decide +kernel
theorem mo_42 : mm_ow 42 = 5 := by decide +kernel
theorem ma_42 : ¬ mm_rt 42 = none ∧ ¬ mm_rt 42 = some .long := by decide +kernel
theorem mz_42 : mm_isZ 42 = 1 := by decide +kernel
set_option maxRecDepth 4000 in
theorem tb_43 : mm_prog[43]? = some mm_c43 := rfl
theorem mx_43 : mm_mx 43 = 1 := by decide +kernel
theorem mo_43 : mm_ow 43 = 5 := by decide +kernel
theorem ma_43 : ¬ mm_rt 43 = none ∧ ¬ mm_rt 43 = some .long := by decide +kernel
theorem mz_43 : mm_isZ 43 = 1 := by decide +kernel
set_option maxRecDepth 4000 in
theorem tb_44 : mm_prog[44]? = some mm_c44 := rfl
theorem mx_44 : mm_mx 44 = 3 := by decide +kernel
theorem mo_44 : mm_ow 44 = 5 := by decide +kernel
theorem ma_44 : ¬ mm_rt 44 = none ∧ ¬ mm_rt 44 = some .long := by decide +kernel
theorem mz_44 : mm_isZ 44 = 1 := by decide +kernel
set_option maxRecDepth 4000 in
theorem tb_45 : mm_prog[45]? = some mm_c45 := rfl
theorem mx_45 : mm_mx 45 = 2 := by decide +kernel
theorem mo_45 : mm_ow 45 = 5 := by decide +kernel
theorem ma_45 : ¬ mm_rt 45 = none ∧ ¬ mm_rt 45 = some .long := by decide +kernel
theorem mz_45 : mm_isZ 45 = 1 := by decide +kernel
set_option maxRecDepth 4000 in
theorem tb_46 : mm_prog[46]? = some mm_c46 := rfl
theorem mx_46 : mm_mx 46 = 2 := by decide +kernel
theorem mo_46 : mm_ow 46 = 5 := by decide +kernel
theorem ma_46 : ¬ mm_rt 46 = none ∧ ¬ mm_rt 46 = some .long := by decide +kernel
theorem mz_46 : mm_isZ 46 = 1 := by decide +kernel
set_option maxRecDepth 4000 in
theorem tb_47 : mm_prog[47]? = some mm_c47 := rfl
theorem mx_47 : mm_mx 47 = 2 := by decide +kernel
theorem mo_47 : mm_ow 47 = 5 := by decide +kernel
theorem ma_47 : ¬ mm_rt 47 = none ∧ ¬ mm_rt 47 = some .long := by decide +kernel
theorem mz_47 : mm_isZ 47 = 1 := by decide +kernel
set_option maxRecDepth 4000 in
theorem tb_48 : mm_prog[48]? = some mm_c48 := rfl
theorem mx_48 : mm_mx 48 = 2 := by decide +kernel
theorem mo_48 : mm_ow 48 = 5 := by decide +kernel
theorem ma_48 : ¬ mm_rt 48 = none ∧ ¬ mm_rt 48 = some .long := by decide +kernel
theorem mz_48 : mm_isZ 48 = 1 := by decide +kernel
set_option maxRecDepth 4000 in
theorem tb_49 : mm_prog[49]? = some mm_c49 := rfl
theorem mx_49 : mm_mx 49 = 1 := by decide +kernel
theorem mo_49 : mm_ow 49 = 5 := by decide +kernel
theorem ma_49 : ¬ mm_rt 49 = none ∧ ¬ mm_rt 49 = some .long := by decide +kernel
theorem mz_49 : mm_isZ 49 = 1 := by decide +kernel
set_option maxRecDepth 4000 in
theorem tb_50 : mm_prog[50]? = some mm_c50 := rfl
theorem mx_50 : mm_mx 50 = 3 := by decide +kernel
theorem mo_50 : mm_ow 50 = 5 := by decide +kernel
theorem ma_50 : ¬ mm_rt 50 = none ∧ ¬ mm_rt 50 = some .long := by decide +kernel
theorem mz_50 : mm_isZ 50 = 1 := by decide +kernel
set_option maxRecDepth 4000 in
theorem tb_51 : mm_prog[51]? = some mm_c51 := rfl
theorem mx_51 : mm_mx 51 = 1 := by decide +kernel
theorem mo_51 : mm_ow 51 = 5 := by decide +kernel
theorem ma_51 : ¬ mm_rt 51 = none ∧ ¬ mm_rt 51 = some .long := by decide +kernel
theorem mz_51 : mm_isZ 51 = 1 := by decide +kernel
set_option maxRecDepth 4000 in
theorem tb_52 : mm_prog[52]? = some mm_c52 := rfl
theorem mx_52 : mm_mx 52 = 1 := by decide +kernel
theorem mo_52 : mm_ow 52 = 5 := by decide +kernel
theorem ma_52 : ¬ mm_rt 52 = none ∧ ¬ mm_rt 52 = some .long := by decide +kernel
theorem mz_52 : mm_isZ 52 = 1 := by decide +kernel
set_option maxRecDepth 4000 in
theorem tb_53 : mm_prog[53]? = some mm_c53 := rfl
theorem mx_53 : mm_mx 53 = 2 := by decide +kernel
theorem mo_53 : mm_ow 53 = 5 := by decide +kernel
theorem ma_53 : ¬ mm_rt 53 = none ∧ ¬ mm_rt 53 = some .long := by decide +kernel
theorem mz_53 : mm_isZ 53 = 1 := by decide +kernel
set_option maxRecDepth 4000 in
theorem tb_54 : mm_prog[54]? = some mm_c54 := rfl
theorem mx_54 : mm_mx 54 = 7 := by decide +kernel
theorem mo_54 : mm_ow 54 = 5 := by decide +kernel
theorem ma_54 : ¬ mm_rt 54 = none ∧ ¬ mm_rt 54 = some .long := by decide +kernel
theorem mz_54 : mm_isZ 54 = 1 := by decide +kernel
set_option maxRecDepth 4000 in
theorem tb_55 : mm_prog[55]? = some mm_c55 := rfl
theorem mx_55 : mm_mx 55 = 5 := by decide +kernel
theorem mo_55 : mm_ow 55 = 5 := by decide +kernel
theorem ma_55 : ¬ mm_rt 55 = none ∧ ¬ mm_rt 55 = some .long := by decide +kernel
theorem mz_55 : mm_isZ 55 = 1 := by decide +kernel
set_option maxRecDepth 4000 in
theorem tb_56 : mm_prog[56]? = some mm_c56 := rfl
theorem mx_56 : mm_mx 56 = 2 := by decide +kernel
theorem mo_56 : mm_ow 56 = 5 := by decide +kernel
theorem ma_56 : ¬ mm_rt 56 = none ∧ ¬ mm_rt 56 = some .long := by decide +kernel
theorem mz_56 : mm_isZ 56 = 0 := by decide +kernel
set_option maxRecDepth 4000 in
theorem tb_57 : mm_prog[57]? = some mm_c57 := rfl
theorem mx_57 : mm_mx 57 = 1 := by decide +kernel
theorem mo_57 : mm_ow 57 = 5 := by decide +kernel
theorem ma_57 : ¬ mm_rt 57 = none ∧ ¬ mm_rt 57 = some .long := by decide +kernel
theorem mz_57 : mm_isZ 57 = 0 := by decide +kernel
set_option maxRecDepth 4000 in
theorem tb_58 : mm_prog[58]? = some mm_c58 := rfl
theorem mx_58 : mm_mx 58 = 1 := by decide +kernel
theorem mo_58 : mm_ow 58 = 5 := by decide +kernel
theorem ma_58 : ¬ mm_rt 58 = none ∧ ¬ mm_rt 58 = some .long := by decide +kernel
theorem mz_58 : mm_isZ 58 = 0 := by decide +kernel
set_option maxRecDepth 4000 in
theorem tb_59 : mm_prog[59]? = some mm_c59 := rfl
theorem mx_59 : mm_mx 59 = 5 := by decide +kernel
theorem mo_59 : mm_ow 59 = 5 := by decide +kernel
theorem ma_59 : ¬ mm_rt 59 = none ∧ ¬ mm_rt 59 = some .long := by decide +kernel
theorem mz_59 : mm_isZ 59 = 0 := by decide +kernel
set_option maxRecDepth 4000 in
theorem tb_60 : mm_prog[60]? = some mm_c60 := rfl
theorem mx_60 : mm_mx 60 = 2 := by decide +kernel
theorem mo_60 : mm_ow 60 = 5 := by decide +kernel
theorem ma_60 : ¬ mm_rt 60 = none ∧ ¬ mm_rt 60 = some .long := by decide +kernel
theorem mz_60 : mm_isZ 60 = 1 := by decide +kernel
set_option maxRecDepth 4000 in
theorem tb_61 : mm_prog[61]? = some mm_c61 := rfl
theorem mx_61 : mm_mx 61 = 1 := by decide +kernel
theorem mo_61 : mm_ow 61 = 6 := by decide +kernel
theorem ma_61 : mm_rt 61 = none := by decide +kernel
set_option maxRecDepth 4000 in
theorem tb_62 : mm_prog[62]? = some mm_c62 := rfl
theorem mx_62 : mm_mx 62 = 4 := by decide +kernel
theorem mo_62 : mm_ow 62 = 6 := by decide +kernel
theorem ma_62 : mm_rt 62 = none := by decide +kernel
set_option maxRecDepth 4000 in
theorem tb_63 : mm_prog[63]? = some mm_c63 := rfl
theorem mx_63 : mm_mx 63 = 4 := by decide +kernel
theorem mo_63 : mm_ow 63 = 6 := by decide +kernel
theorem ma_63 : mm_rt 63 = none := by decide +kernel
set_option maxRecDepth 4000 in
theorem tb_64 : mm_prog[64]? = some mm_c64 := rfl
theorem mx_64 : mm_mx 64 = 2 := by decide +kernel
theorem mo_64 : mm_ow 64 = 7 := by decide +kernel
theorem ma_64 : mm_rt 64 = none := by decide +kernel
set_option maxRecDepth 4000 in
theorem tb_65 : mm_prog[65]? = some mm_c65 := rfl
theorem mx_65 : mm_mx 65 = 1 := by decide +kernel
theorem mo_65 : mm_ow 65 = 7 := by decide +kernel
theorem ma_65 : mm_rt 65 = none := by decide +kernel
set_option maxRecDepth 4000 in
theorem tb_66 : mm_prog[66]? = some mm_c66 := rfl
theorem mx_66 : mm_mx 66 = 4 := by decide +kernel
theorem mo_66 : mm_ow 66 = 7 := by decide +kernel
theorem ma_66 : ¬ mm_rt 66 = none ∧ ¬ mm_rt 66 = some .long := by decide +kernel
theorem mz_66 : mm_isZ 66 = 0 := by decide +kernel
set_option maxRecDepth 4000 in
theorem tb_67 : mm_prog[67]? = some mm_c67 := rfl
theorem mx_67 : mm_mx 67 = 4 := by decide +kernel
theorem mo_67 : mm_ow 67 = 7 := by decide +kernel
theorem ma_67 : ¬ mm_rt 67 = none ∧ ¬ mm_rt 67 = some .long := by decide +kernel
theorem mz_67 : mm_isZ 67 = 0 := by decide +kernel
set_option maxRecDepth 4000 in
theorem tb_68 : mm_prog[68]? = some mm_c68 := rfl
theorem mx_68 : mm_mx 68 = 4 := by decide +kernel
theorem mo_68 : mm_ow 68 = 7 := by decide +kernel
theorem ma_68 : ¬ mm_rt 68 = none ∧ ¬ mm_rt 68 = some .long := by decide +kernel
theorem mz_68 : mm_isZ 68 = 1 := by decide +kernel
set_option maxRecDepth 4000 in
theorem tb_69 : mm_prog[69]? = some mm_c69 := rfl
theorem mx_69 : mm_mx 69 = 4 := by decide +kernel
theorem mo_69 : mm_ow 69 = 7 := by decide +kernel
theorem ma_69 : mm_rt 69 = none := by decide +kernel
set_option maxRecDepth 4000 in
theorem tb_70 : mm_prog[70]? = some mm_c70 := rfl
theorem mx_70 : mm_mx 70 = 4 := by decide +kernel
theorem mo_70 : mm_ow 70 = 7 := by decide +kernel
theorem ma_70 : ¬ mm_rt 70 = none ∧ ¬ mm_rt 70 = some .long := by decide +kernel
theorem mz_70 : mm_isZ 70 = 0 := by decide +kernel
set_option maxRecDepth 4000 in
theorem tb_71 : mm_prog[71]? = some mm_c71 := rfl
theorem mx_71 : mm_mx 71 = 4 := by decide +kernel
theorem mo_71 : mm_ow 71 = 7 := by decide +kernel
theorem ma_71 : ¬ mm_rt 71 = none ∧ ¬ mm_rt 71 = some .long := by decide +kernel
theorem mz_71 : mm_isZ 71 = 0 := by decide +kernel
set_option maxRecDepth 4000 in
theorem tb_72 : mm_prog[72]? = some mm_c72 := rfl
theorem mx_72 : mm_mx 72 = 2 := by decide +kernel
theorem mo_72 : mm_ow 72 = 7 := by decide +kernel
theorem ma_72 : ¬ mm_rt 72 = none ∧ ¬ mm_rt 72 = some .long := by decide +kernel
theorem mz_72 : mm_isZ 72 = 1 := by decide +kernel
set_option maxRecDepth 4000 in
theorem tb_73 : mm_prog[73]? = some mm_c73 := rfl
theorem mx_73 : mm_mx 73 = 3 := by decide +kernel
theorem mo_73 : mm_ow 73 = 7 := by decide +kernel
theorem ma_73 : ¬ mm_rt 73 = none ∧ ¬ mm_rt 73 = some .long := by decide +kernel
theorem mz_73 : mm_isZ 73 = 0 := by decide +kernel
set_option maxRecDepth 4000 in
theorem tb_74 : mm_prog[74]? = some mm_c74 := rfl
theorem mx_74 : mm_mx 74 = 3 := by decide +kernel
theorem mo_74 : mm_ow 74 = 7 := by decide +kernel
theorem ma_74 : ¬ mm_rt 74 = none ∧ ¬ mm_rt 74 = some .long := by decide +kernel
theorem mz_74 : mm_isZ 74 = 0 := by decide +kernel
set_option maxRecDepth 4000 in
theorem tb_75 : mm_prog[75]? = some mm_c75 := rfl
theorem mx_75 : mm_mx 75 = 4 := by decide +kernel
theorem mo_75 : mm_ow 75 = 8 := by decide +kernel
theorem ma_75 : mm_rt 75 = none := by decide +kernel
set_option maxRecDepth 4000 in
theorem tb_76 : mm_prog[76]? = some mm_c76 := rfl
theorem mx_76 : mm_mx 76 = 4 := by decide +kernel
theorem mo_76 : mm_ow 76 = 8 := by decide +kernel
theorem ma_76 : mm_rt 76 = some .long := by decide +kernel
set_option maxRecDepth 4000 in
theorem tb_77 : mm_prog[77]? = some mm_c77 := rfl
theorem mx_77 : mm_mx 77 = 6 := by decide +kernel
theorem mo_77 : mm_ow 77 = 8 := by decide +kernel
theorem ma_77 : mm_rt 77 = none := by decide +kernel
set_option maxRecDepth 4000 in
theorem tb_78 : mm_prog[78]? = some mm_c78 := rfl
theorem mx_78 : mm_mx 78 = 1 := by decide +kernel
theorem mo_78 : mm_ow 78 = 8 := by decide +kernel
theorem ma_78 : mm_rt 78 = none := by decide +kernel
set_option maxRecDepth 4000 in
theorem tb_79 : mm_prog[79]? = some mm_c79 := rfl
theorem mx_79 : mm_mx 79 = 2 := by decide +kernel
theorem mo_79 : mm_ow 79 = 8 := by decide +kernel
theorem ma_79 : mm_rt 79 = none := by decide +kernel
set_option maxRecDepth 4000 in
theorem tb_80 : mm_prog[80]? = some mm_c80 := rfl
theorem mx_80 : mm_mx 80 = 2 := by decide +kernel
theorem mo_80 : mm_ow 80 = 8 := by decide +kernel
theorem ma_80 : mm_rt 80 = none := by decide +kernel
set_option maxRecDepth 4000 in
theorem tb_81 : mm_prog[81]? = some mm_c81 := rfl
theorem mx_81 : mm_mx 81 = 1 := by decide +kernel
theorem mo_81 : mm_ow 81 = 8 := by decide +kernel
theorem ma_81 : mm_rt 81 = none := by decide +kernel
set_option maxRecDepth 4000 in
theorem tb_82 : mm_prog[82]? = some mm_c82 := rfl
theorem mx_82 : mm_mx 82 = 1 := by decide +kernel
theorem mo_82 : mm_ow 82 = 8 := by decide +kernel
theorem ma_82 : mm_rt 82 = none := by decide +kernel
set_option maxRecDepth 4000 in
theorem tb_83 : mm_prog[83]? = some mm_c83 := rfl
theorem mx_83 : mm_mx 83 = 1 := by decide +kernel
theorem mo_83 : mm_ow 83 = 9 := by decide +kernel
theorem ma_83 : mm_rt 83 = none := by decide +kernel
set_option maxRecDepth 4000 in
theorem tb_84 : mm_prog[84]? = some mm_c84 := rfl
theorem mx_84 : mm_mx 84 = 2 := by decide +kernel
theorem mo_84 : mm_ow 84 = 10 := by decide +kernel
theorem ma_84 : mm_rt 84 = none := by decide +kernel
set_option maxRecDepth 4000 in
theorem tb_85 : mm_prog[85]? = some mm_c85 := rfl
theorem mx_85 : mm_mx 85 = 6 := by decide +kernel
theorem mo_85 : mm_ow 85 = 10 := by decide +kernel
theorem ma_85 : mm_rt 85 = none := by decide +kernel
set_option maxRecDepth 4000 in
theorem tb_86 : mm_prog[86]? = some mm_c86 := rfl
theorem mx_86 : mm_mx 86 = 6 := by decide +kernel
theorem mo_86 : mm_ow 86 = 10 := by decide +kernel
theorem ma_86 : ¬ mm_rt 86 = none ∧ ¬ mm_rt 86 = some .long := by decide +kernel
theorem mz_86 : mm_isZ 86 = 0 := by decide +kernel
set_option maxRecDepth 4000 in
theorem tb_87 : mm_prog[87]? = some mm_c87 := rfl
theorem mx_87 : mm_mx 87 = 3 := by decide +kernel
theorem mo_87 : mm_ow 87 = 10 := by decide +kernel
theorem ma_87 : ¬ mm_rt 87 = none ∧ ¬ mm_rt 87 = some .long := by decide +kernel
theorem mz_87 : mm_isZ 87 = 0 := by decide +kernel
set_option maxRecDepth 4000 in
theorem tb_88 : mm_prog[88]? = some mm_c88 := rfl
theorem mx_88 : mm_mx 88 = 7 := by decide +kernel
theorem mo_88 : mm_ow 88 = 10 := by decide +kernel
theorem ma_88 : ¬ mm_rt 88 = none ∧ ¬ mm_rt 88 = some .long := by decide +kernel
theorem mz_88 : mm_isZ 88 = 0 := by decide +kernel
set_option maxRecDepth 4000 in
theorem tb_89 : mm_prog[89]? = some mm_c89 := rfl
theorem mx_89 : mm_mx 89 = 9 := by decide +kernel
theorem mo_89 : mm_ow 89 = 10 := by decide +kernel
theorem ma_89 : ¬ mm_rt 89 = none ∧ ¬ mm_rt 89 = some .long := by decide +kernel
theorem mz_89 : mm_isZ 89 = 0 := by decide +kernel
set_option maxRecDepth 4000 in
theorem tb_90 : mm_prog[90]? = some mm_c90 := rfl
theorem mx_90 : mm_mx 90 = 2 := by decide +kernel
theorem mo_90 : mm_ow 90 = 10 := by decide +kernel
theorem ma_90 : ¬ mm_rt 90 = none ∧ ¬ mm_rt 90 = some .long := by decide +kernel
theorem mz_90 : mm_isZ 90 = 0 := by decide +kernel
set_option maxRecDepth 4000 in
theorem tb_91 : mm_prog[91]? = some mm_c91 := rfl
theorem mx_91 : mm_mx 91 = 1 := by decide +kernel
theorem mo_91 : mm_ow 91 = 10 := by decide +kernel
theorem ma_91 : ¬ mm_rt 91 = none ∧ ¬ mm_rt 91 = some .long := by decide +kernel
theorem mz_91 : mm_isZ 91 = 1 := by decide +kernel
set_option maxRecDepth 4000 in
theorem tb_92 : mm_prog[92]? = some mm_c92 := rfl
theorem mx_92 : mm_mx 92 = 3 := by decide +kernel
theorem mo_92 : mm_ow 92 = 10 := by decide +kernel
theorem ma_92 : ¬ mm_rt 92 = none ∧ ¬ mm_rt 92 = some .long := by decide +kernel
theorem mz_92 : mm_isZ 92 = 0 := by decide +kernel
set_option maxRecDepth 4000 in
theorem tb_93 : mm_prog[93]? = some mm_c93 := rfl
theorem mx_93 : mm_mx 93 = 3 := by decide +kernel
theorem mo_93 : mm_ow 93 = 10 := by decide +kernel
theorem ma_93 : ¬ mm_rt 93 = none ∧ ¬ mm_rt 93 = some .long := by decide +kernel
theorem mz_93 : mm_isZ 93 = 0 := by decide +kernel
set_option maxRecDepth 4000 in
theorem tb_94 : mm_prog[94]? = some mm_c94 := rfl
theorem mx_94 : mm_mx 94 = 2 := by decide +kernel
theorem mo_94 : mm_ow 94 = 10 := by decide +kernel
theorem ma_94 : ¬ mm_rt 94 = none ∧ ¬ mm_rt 94 = some .long := by decide +kernel
theorem mz_94 : mm_isZ 94 = 1 := by decide +kernel
set_option maxRecDepth 4000 in
theorem tb_95 : mm_prog[95]? = some mm_c95 := rfl
theorem mx_95 : mm_mx 95 = 7 := by decide +kernel
theorem mo_95 : mm_ow 95 = 10 := by decide +kernel
theorem ma_95 : ¬ mm_rt 95 = none ∧ ¬ mm_rt 95 = some .long := by decide +kernel
theorem mz_95 : mm_isZ 95 = 1 := by decide +kernel
set_option maxRecDepth 4000 in
theorem tb_96 : mm_prog[96]? = some mm_c96 := rfl
theorem mx_96 : mm_mx 96 = 3 := by decide +kernel
theorem mo_96 : mm_ow 96 = 10 := by decide +kernel
theorem ma_96 : ¬ mm_rt 96 = none ∧ ¬ mm_rt 96 = some .long := by decide +kernel
theorem mz_96 : mm_isZ 96 = 0 := by decide +kernel
set_option maxRecDepth 4000 in
theorem tb_97 : mm_prog[97]? = some mm_c97 := rfl
theorem mx_97 : mm_mx 97 = 5 := by decide +kernel
theorem mo_97 : mm_ow 97 = 10 := by decide +kernel
theorem ma_97 : ¬ mm_rt 97 = none ∧ ¬ mm_rt 97 = some .long := by decide +kernel
theorem mz_97 : mm_isZ 97 = 0 := by decide +kernel
set_option maxRecDepth 4000 in
theorem tb_98 : mm_prog[98]? = some mm_c98 := rfl
theorem mx_98 : mm_mx 98 = 4 := by decide +kernel
theorem mo_98 : mm_ow 98 = 10 := by decide +kernel
theorem ma_98 : ¬ mm_rt 98 = none ∧ ¬ mm_rt 98 = some .long := by decide +kernel
theorem mz_98 : mm_isZ 98 = 0 := by decide +kernel
set_option maxRecDepth 4000 in
theorem tb_99 : mm_prog[99]? = some mm_c99 := rfl
theorem mx_99 : mm_mx 99 = 2 := by decide +kernel
theorem mo_99 : mm_ow 99 = 11 := by decide +kernel
theorem ma_99 : mm_rt 99 = none := by decide +kernel
set_option maxRecDepth 4000 in
theorem tb_100 : mm_prog[100]? = some mm_c100 := rfl
theorem mx_100 : mm_mx 100 = 7 := by decide +kernel
theorem mo_100 : mm_ow 100 = 11 := by decide +kernel
theorem ma_100 : ¬ mm_rt 100 = none ∧ ¬ mm_rt 100 = some .long := by decide +kernel
theorem mz_100 : mm_isZ 100 = 0 := by decide +kernel
set_option maxRecDepth 4000 in
theorem tb_101 : mm_prog[101]? = some mm_c101 := rfl
theorem mx_101 : mm_mx 101 = 3 := by decide +kernel
theorem mo_101 : mm_ow 101 = 11 := by decide +kernel
theorem ma_101 : ¬ mm_rt 101 = none ∧ ¬ mm_rt 101 = some .long := by decide +kernel
theorem mz_101 : mm_isZ 101 = 0 := by decide +kernel
set_option maxRecDepth 4000 in
theorem tb_102 : mm_prog[102]? = some mm_c102 := rfl
theorem mx_102 : mm_mx 102 = 1 := by decide +kernel
theorem mo_102 : mm_ow 102 = 11 := by decide +kernel
theorem ma_102 : mm_rt 102 = none := by decide +kernel
set_option maxRecDepth 4000 in
theorem tb_103 : mm_prog[103]? = some mm_c103 := rfl
theorem mx_103 : mm_mx 103 = 1 := by decide +kernel
theorem mo_103 : mm_ow 103 = 11 := by decide +kernel
theorem ma_103 : mm_rt 103 = none := by decide +kernel
set_option maxRecDepth 4000 in
theorem tb_104 : mm_prog[104]? = some mm_c104 := rfl
theorem mx_104 : mm_mx 104 = 1 := by decide +kernel
theorem mo_104 : mm_ow 104 = 11 := by decide +kernel
theorem ma_104 : mm_rt 104 = none := by decide +kernel
set_option maxRecDepth 4000 in
theorem tb_105 : mm_prog[105]? = some mm_c105 := rfl
theorem mx_105 : mm_mx 105 = 3 := by decide +kernel
theorem mo_105 : mm_ow 105 = 11 := by decide +kernel
theorem ma_105 : ¬ mm_rt 105 = none ∧ ¬ mm_rt 105 = some .long := by decide +kernel
theorem mz_105 : mm_isZ 105 = 0 := by decide +kernel
set_option maxRecDepth 4000 in
theorem tb_106 : mm_prog[106]? = some mm_c106 := rfl
theorem mx_106 : mm_mx 106 = 4 := by decide +kernel
theorem mo_106 : mm_ow 106 = 11 := by decide +kernel
theorem ma_106 : ¬ mm_rt 106 = none ∧ ¬ mm_rt 106 = some .long := by decide +kernel
theorem mz_106 : mm_isZ 106 = 0 := by decide +kernel
set_option maxRecDepth 4000 in
theorem tb_107 : mm_prog[107]? = some mm_c107 := rfl
theorem mx_107 : mm_mx 107 = 2 := by decide +kernel
theorem mo_107 : mm_ow 107 = 11 := by decide +kernel
theorem ma_107 : ¬ mm_rt 107 = none ∧ ¬ mm_rt 107 = some .long := by decide +kernel
theorem mz_107 : mm_isZ 107 = 1 := by decide +kernel
set_option maxRecDepth 4000 in
theorem tb_108 : mm_prog[108]? = some mm_c108 := rfl
theorem mx_108 : mm_mx 108 = 2 := by decide +kernel
theorem mo_108 : mm_ow 108 = 11 := by decide +kernel
theorem ma_108 : ¬ mm_rt 108 = none ∧ ¬ mm_rt 108 = some .long := by decide +kernel
theorem mz_108 : mm_isZ 108 = 0 := by decide +kernel
set_option maxRecDepth 4000 in
theorem tb_109 : mm_prog[109]? = some mm_c109 := rfl
theorem mx_109 : mm_mx 109 = 2 := by decide +kernel
theorem mo_109 : mm_ow 109 = 11 := by decide +kernel
theorem ma_109 : ¬ mm_rt 109 = none ∧ ¬ mm_rt 109 = some .long := by decide +kernel
theorem mz_109 : mm_isZ 109 = 1 := by decide +kernel
set_option maxRecDepth 4000 in
theorem tb_110 : mm_prog[110]? = some mm_c110 := rfl
theorem mx_110 : mm_mx 110 = 3 := by decide +kernel
theorem mo_110 : mm_ow 110 = 11 := by decide +kernel
theorem ma_110 : ¬ mm_rt 110 = none ∧ ¬ mm_rt 110 = some .long := by decide +kernel
theorem mz_110 : mm_isZ 110 = 1 := by decide +kernel
set_option maxRecDepth 4000 in
theorem tb_111 : mm_prog[111]? = some mm_c111 := rfl
theorem mx_111 : mm_mx 111 = 2 := by decide +kernel
theorem mo_111 : mm_ow 111 = 11 := by decide +kernel
theorem ma_111 : ¬ mm_rt 111 = none ∧ ¬ mm_rt 111 = some .long := by decide +kernel
theorem mz_111 : mm_isZ 111 = 1 := by decide +kernel
set_option maxRecDepth 4000 in
theorem tb_112 : mm_prog[112]? = some mm_c112 := rfl
theorem mx_112 : mm_mx 112 = 1 := by decide +kernel
theorem mo_112 : mm_ow 112 = 11 := by decide +kernel
theorem ma_112 : mm_rt 112 = none := by decide +kernel
set_option maxRecDepth 4000 in
theorem tb_113 : mm_prog[113]? = some mm_c113 := rfl
theorem mx_113 : mm_mx 113 = 2 := by decide +kernel
theorem mo_113 : mm_ow 113 = 11 := by decide +kernel
theorem ma_113 : ¬ mm_rt 113 = none ∧ ¬ mm_rt 113 = some .long := by decide +kernel
theorem mz_113 : mm_isZ 113 = 1 := by decide +kernel
set_option maxRecDepth 4000 in
theorem tb_114 : mm_prog[114]? = some mm_c114 := rfl
theorem mx_114 : mm_mx 114 = 3 := by decide +kernel
theorem mo_114 : mm_ow 114 = 11 := by decide +kernel
theorem ma_114 : ¬ mm_rt 114 = none ∧ ¬ mm_rt 114 = some .long := by decide +kernel
theorem mz_114 : mm_isZ 114 = 1 := by decide +kernel
set_option maxRecDepth 4000 in
theorem tb_115 : mm_prog[115]? = some mm_c115 := rfl
theorem mx_115 : mm_mx 115 = 1 := by decide +kernel
theorem mo_115 : mm_ow 115 = 11 := by decide +kernel
theorem ma_115 : ¬ mm_rt 115 = none ∧ ¬ mm_rt 115 = some .long := by decide +kernel
theorem mz_115 : mm_isZ 115 = 0 := by decide +kernel
set_option maxRecDepth 4000 in
theorem tb_116 : mm_prog[116]? = some mm_c116 := rfl
theorem mx_116 : mm_mx 116 = 1 := by decide +kernel
theorem mo_116 : mm_ow 116 = 11 := by decide +kernel
theorem ma_116 : ¬ mm_rt 116 = none ∧ ¬ mm_rt 116 = some .long := by decide +kernel
theorem mz_116 : mm_isZ 116 = 1 := by decide +kernel
set_option maxRecDepth 4000 in
theorem tb_117 : mm_prog[117]? = some mm_c117 := rfl
theorem mx_117 : mm_mx 117 = 5 := by decide +kernel
theorem mo_117 : mm_ow 117 = 11 := by decide +kernel
theorem ma_117 : ¬ mm_rt 117 = none ∧ ¬ mm_rt 117 = some .long := by decide +kernel
theorem mz_117 : mm_isZ 117 = 0 := by decide +kernel
set_option maxRecDepth 4000 in
theorem tb_118 : mm_prog[118]? = some mm_c118 := rfl
theorem mx_118 : mm_mx 118 = 3 := by decide +kernel
theorem mo_118 : mm_ow 118 = 11 := by decide +kernel
theorem ma_118 : ¬ mm_rt 118 = none ∧ ¬ mm_rt 118 = some .long := by decide +kernel
theorem mz_118 : mm_isZ 118 = 0 := by decide +kernel
set_option maxRecDepth 4000 in
theorem tb_119 : mm_prog[119]? = some mm_c119 := rfl
theorem mx_119 : mm_mx 119 = 1 := by decide +kernel
theorem mo_119 : mm_ow 119 = 11 := by decide +kernel
theorem ma_119 : ¬ mm_rt 119 = none ∧ ¬ mm_rt 119 = some .long := by decide +kernel
theorem mz_119 : mm_isZ 119 = 1 := by decide +kernel
set_option maxRecDepth 4000 in
theorem tb_120 : mm_prog[120]? = some mm_c120 := rfl
theorem mx_120 : mm_mx 120 = 3 := by decide +kernel
theorem mo_120 : mm_ow 120 = 11 := by decide +kernel
theorem ma_120 : ¬ mm_rt 120 = none ∧ ¬ mm_rt 120 = some .long := by decide +kernel
theorem mz_120 : mm_isZ 120 = 0 := by decide +kernel
set_option maxRecDepth 4000 in
theorem tb_121 : mm_prog[121]? = some mm_c121 := rfl
theorem mx_121 : mm_mx 121 = 3 := by decide +kernel
theorem mo_121 : mm_ow 121 = 11 := by decide +kernel
theorem ma_121 : ¬ mm_rt 121 = none ∧ ¬ mm_rt 121 = some .long := by decide +kernel
theorem mz_121 : mm_isZ 121 = 0 := by decide +kernel
set_option maxRecDepth 4000 in
theorem tb_122 : mm_prog[122]? = some mm_c122 := rfl
theorem mx_122 : mm_mx 122 = 1 := by decide +kernel
theorem mo_122 : mm_ow 122 = 11 := by decide +kernel
theorem ma_122 : ¬ mm_rt 122 = none ∧ ¬ mm_rt 122 = some .long := by decide +kernel
theorem mz_122 : mm_isZ 122 = 1 := by decide +kernel
set_option maxRecDepth 4000 in
theorem tb_123 : mm_prog[123]? = some mm_c123 := rfl
theorem mx_123 : mm_mx 123 = 2 := by decide +kernel
theorem mo_123 : mm_ow 123 = 11 := by decide +kernel
theorem ma_123 : ¬ mm_rt 123 = none ∧ ¬ mm_rt 123 = some .long := by decide +kernel
theorem mz_123 : mm_isZ 123 = 0 := by decide +kernel
set_option maxRecDepth 4000 in
theorem tb_124 : mm_prog[124]? = some mm_c124 := rfl
theorem mx_124 : mm_mx 124 = 2 := by decide +kernel
theorem mo_124 : mm_ow 124 = 11 := by decide +kernel
theorem ma_124 : ¬ mm_rt 124 = none ∧ ¬ mm_rt 124 = some .long := by decide +kernel
theorem mz_124 : mm_isZ 124 = 1 := by decide +kernel
set_option maxRecDepth 4000 in
theorem tb_125 : mm_prog[125]? = some mm_c125 := rfl
theorem mx_125 : mm_mx 125 = 4 := by decide +kernel
theorem mo_125 : mm_ow 125 = 11 := by decide +kernel
theorem ma_125 : ¬ mm_rt 125 = none ∧ ¬ mm_rt 125 = some .long := by decide +kernel
theorem mz_125 : mm_isZ 125 = 0 := by decide +kernel
set_option maxRecDepth 4000 in
theorem tb_126 : mm_prog[126]? = some mm_c126 := rfl
theorem mx_126 : mm_mx 126 = 6 := by decide +kernel
theorem mo_126 : mm_ow 126 = 11 := by decide +kernel
theorem ma_126 : ¬ mm_rt 126 = none ∧ ¬ mm_rt 126 = some .long := by decide +kernel
theorem mz_126 : mm_isZ 126 = 0 := by decide +kernel
set_option maxRecDepth 4000 in
theorem tb_127 : mm_prog[127]? = some mm_c127 := rfl
theorem mx_127 : mm_mx 127 = 4 := by decide +kernel
theorem mo_127 : mm_ow 127 = 11 := by decide +kernel
theorem ma_127 : ¬ mm_rt 127 = none ∧ ¬ mm_rt 127 = some .long := by decide +kernel
theorem mz_127 : mm_isZ 127 = 0 := by decide +kernel
set_option maxRecDepth 4000 in
theorem tb_128 : mm_prog[128]? = some mm_c128 := rfl
theorem mx_128 : mm_mx 128 = 2 := by decide +kernel
theorem mo_128 : mm_ow 128 = 11 := by decide +kernel
theorem ma_128 : ¬ mm_rt 128 = none ∧ ¬ mm_rt 128 = some .long := by decide +kernel
theorem mz_128 : mm_isZ 128 = 1 := by decide +kernel
set_option maxRecDepth 4000 in
theorem tb_129 : mm_prog[129]? = some mm_c129 := rfl
theorem mx_129 : mm_mx 129 = 9 := by decide +kernel
theorem mo_129 : mm_ow 129 = 11 := by decide +kernel
theorem ma_129 : ¬ mm_rt 129 = none ∧ ¬ mm_rt 129 = some .long := by decide +kernel
theorem mz_129 : mm_isZ 129 = 0 := by decide +kernel
set_option maxRecDepth 4000 in
theorem tb_130 : mm_prog[130]? = some mm_c130 := rfl
theorem mx_130 : mm_mx 130 = 5 := by decide +kernel
theorem mo_130 : mm_ow 130 = 11 := by decide +kernel
theorem ma_130 : mm_rt 130 = some .long := by decide +kernel
set_option maxRecDepth 4000 in
theorem tb_131 : mm_prog[131]? = some mm_c131 := rfl
theorem mx_131 : mm_mx 131 = 7 := by decide +kernel
theorem mo_131 : mm_ow 131 = 11 := by decide +kernel
theorem ma_131 : ¬ mm_rt 131 = none ∧ ¬ mm_rt 131 = some .long := by decide +kernel
theorem mz_131 : mm_isZ 131 = 1 := by decide +kernel
set_option maxRecDepth 4000 in
theorem tb_132 : mm_prog[132]? = some mm_c132 := rfl
theorem mx_132 : mm_mx 132 = 7 := by decide +kernel
theorem mo_132 : mm_ow 132 = 11 := by decide +kernel
theorem ma_132 : ¬ mm_rt 132 = none ∧ ¬ mm_rt 132 = some .long := by decide +kernel
theorem mz_132 : mm_isZ 132 = 0 := by decide +kernel
set_option maxRecDepth 4000 in
theorem tb_133 : mm_prog[133]? = some mm_c133 := rfl
theorem mx_133 : mm_mx 133 = 1 := by decide +kernel
theorem mo_133 : mm_ow 133 = 11 := by decide +kernel
theorem ma_133 : ¬ mm_rt 133 = none ∧ ¬ mm_rt 133 = some .long := by decide +kernel
theorem mz_133 : mm_isZ 133 = 1 := by decide +kernel
set_option maxRecDepth 4000 in
theorem tb_134 : mm_prog[134]? = some mm_c134 := rfl
theorem mx_134 : mm_mx 134 = 4 := by decide +kernel
theorem mo_134 : mm_ow 134 = 11 := by decide +kernel
theorem ma_134 : mm_rt 134 = none := by decide +kernel
set_option maxRecDepth 4000 in
theorem tb_135 : mm_prog[135]? = some mm_c135 := rfl
theorem mx_135 : mm_mx 135 = 9 := by decide +kernel
theorem mo_135 : mm_ow 135 = 11 := by decide +kernel
theorem ma_135 : ¬ mm_rt 135 = none ∧ ¬ mm_rt 135 = some .long := by decide +kernel
theorem mz_135 : mm_isZ 135 = 0 := by decide +kernel
set_option maxRecDepth 4000 in
theorem tb_136 : mm_prog[136]? = some mm_c136 := rfl
theorem mx_136 : mm_mx 136 = 7 := by decide +kernel
theorem mo_136 : mm_ow 136 = 11 := by decide +kernel
theorem ma_136 : mm_rt 136 = some .long := by decide +kernel
set_option maxRecDepth 4000 in
theorem tb_137 : mm_prog[137]? = some mm_c137 := rfl
theorem mx_137 : mm_mx 137 = 2 := by decide +kernel
theorem mo_137 : mm_ow 137 = 11 := by decide +kernel
theorem ma_137 : ¬ mm_rt 137 = none ∧ ¬ mm_rt 137 = some .long := by decide +kernel
theorem mz_137 : mm_isZ 137 = 1 := by decide +kernel
set_option maxRecDepth 4000 in
theorem tb_138 : mm_prog[138]? = some mm_c138 := rfl
theorem mx_138 : mm_mx 138 = 5 := by decide +kernel
theorem mo_138 : mm_ow 138 = 11 := by decide +kernel
theorem ma_138 : ¬ mm_rt 138 = none ∧ ¬ mm_rt 138 = some .long := by decide +kernel
theorem mz_138 : mm_isZ 138 = 0 := by decide +kernel
set_option maxRecDepth 4000 in
theorem tb_139 : mm_prog[139]? = some mm_c139 := rfl
theorem mx_139 : mm_mx 139 = 5 := by decide +kernel
theorem mo_139 : mm_ow 139 = 11 := by decide +kernel
theorem ma_139 : ¬ mm_rt 139 = none ∧ ¬ mm_rt 139 = some .long := by decide +kernel
theorem mz_139 : mm_isZ 139 = 0 := by decide +kernel
set_option maxRecDepth 4000 in
theorem tb_140 : mm_prog[140]? = some mm_c140 := rfl
theorem mx_140 : mm_mx 140 = 8 := by decide +kernel
theorem mo_140 : mm_ow 140 = 11 := by decide +kernel
theorem ma_140 : ¬ mm_rt 140 = none ∧ ¬ mm_rt 140 = some .long := by decide +kernel
theorem mz_140 : mm_isZ 140 = 1 := by decide +kernel
set_option maxRecDepth 4000 in
theorem tb_141 : mm_prog[141]? = some mm_c141 := rfl
theorem mx_141 : mm_mx 141 = 5 := by decide +kernel
theorem mo_141 : mm_ow 141 = 11 := by decide +kernel
theorem ma_141 : ¬ mm_rt 141 = none ∧ ¬ mm_rt 141 = some .long := by decide +kernel
theorem mz_141 : mm_isZ 141 = 0 := by decide +kernel
set_option maxRecDepth 4000 in
theorem tb_142 : mm_prog[142]? = some mm_c142 := rfl
theorem mx_142 : mm_mx 142 = 3 := by decide +kernel
theorem mo_142 : mm_ow 142 = 11 := by decide +kernel
theorem ma_142 : ¬ mm_rt 142 = none ∧ ¬ mm_rt 142 = some .long := by decide +kernel
theorem mz_142 : mm_isZ 142 = 1 := by decide +kernel
set_option maxRecDepth 4000 in
theorem tb_143 : mm_prog[143]? = some mm_c143 := rfl
theorem mx_143 : mm_mx 143 = 7 := by decide +kernel
theorem mo_143 : mm_ow 143 = 11 := by decide +kernel
theorem ma_143 : ¬ mm_rt 143 = none ∧ ¬ mm_rt 143 = some .long := by decide +kernel
theorem mz_143 : mm_isZ 143 = 0 := by decide +kernel
set_option maxRecDepth 4000 in
theorem tb_144 : mm_prog[144]? = some mm_c144 := rfl
theorem mx_144 : mm_mx 144 = 4 := by decide +kernel
theorem mo_144 : mm_ow 144 = 11 := by decide +kernel
theorem ma_144 : ¬ mm_rt 144 = none ∧ ¬ mm_rt 144 = some .long := by decide +kernel
theorem mz_144 : mm_isZ 144 = 0 := by decide +kernel
set_option maxRecDepth 4000 in
theorem tb_145 : mm_prog[145]? = some mm_c145 := rfl
theorem mx_145 : mm_mx 145 = 4 := by decide +kernel
theorem mo_145 : mm_ow 145 = 11 := by decide +kernel
theorem ma_145 : ¬ mm_rt 145 = none ∧ ¬ mm_rt 145 = some .long := by decide +kernel
theorem mz_145 : mm_isZ 145 = 0 := by decide +kernel
set_option maxRecDepth 4000 in
theorem tb_146 : mm_prog[146]? = some mm_c146 := rfl
theorem mx_146 : mm_mx 146 = 6 := by decide +kernel
theorem mo_146 : mm_ow 146 = 11 := by decide +kernel
theorem ma_146 : ¬ mm_rt 146 = none ∧ ¬ mm_rt 146 = some .long := by decide +kernel
theorem mz_146 : mm_isZ 146 = 0 := by decide +kernel
set_option maxRecDepth 4000 in
theorem tb_147 : mm_prog[147]? = some mm_c147 := rfl
theorem mx_147 : mm_mx 147 = 4 := by decide +kernel
theorem mo_147 : mm_ow 147 = 11 := by decide +kernel
theorem ma_147 : ¬ mm_rt 147 = none ∧ ¬ mm_rt 147 = some .long := by decide +kernel
theorem mz_147 : mm_isZ 147 = 1 := by decide +kernel
set_option maxRecDepth 4000 in
theorem tb_148 : mm_prog[148]? = some mm_c148 := rfl
theorem mx_148 : mm_mx 148 = 3 := by decide +kernel
theorem mo_148 : mm_ow 148 = 11 := by decide +kernel
theorem ma_148 : ¬ mm_rt 148 = none ∧ ¬ mm_rt 148 = some .long := by decide +kernel
theorem mz_148 : mm_isZ 148 = 0 := by decide +kernel
set_option maxRecDepth 4000 in
theorem tb_149 : mm_prog[149]? = some mm_c149 := rfl
theorem mx_149 : mm_mx 149 = 13 := by decide +kernel
theorem mo_149 : mm_ow 149 = 11 := by decide +kernel
theorem ma_149 : ¬ mm_rt 149 = none ∧ ¬ mm_rt 149 = some .long := by decide +kernel
theorem mz_149 : mm_isZ 149 = 0 := by decide +kernel
set_option maxRecDepth 4000 in
theorem tb_150 : mm_prog[150]? = some mm_c150 := rfl
theorem mx_150 : mm_mx 150 = 7 := by decide +kernel
theorem mo_150 : mm_ow 150 = 11 := by decide +kernel
theorem ma_150 : mm_rt 150 = some .long := by decide +kernel
set_option maxRecDepth 4000 in
theorem tb_151 : mm_prog[151]? = some mm_c151 := rfl
theorem mx_151 : mm_mx 151 = 2 := by decide +kernel
theorem mo_151 : mm_ow 151 = 11 := by decide +kernel
theorem ma_151 : mm_rt 151 = some .long := by decide +kernel
set_option maxRecDepth 4000 in
theorem tb_152 : mm_prog[152]? = some mm_c152 := rfl
theorem mx_152 : mm_mx 152 = 3 := by decide +kernel
theorem mo_152 : mm_ow 152 = 11 := by decide +kernel
theorem ma_152 : ¬ mm_rt 152 = none ∧ ¬ mm_rt 152 = some .long := by decide +kernel
theorem mz_152 : mm_isZ 152 = 1 := by decide +kernel
set_option maxRecDepth 4000 in
theorem tb_153 : mm_prog[153]? = some mm_c153 := rfl
theorem mx_153 : mm_mx 153 = 2 := by decide +kernel
theorem mo_153 : mm_ow 153 = 11 := by decide +kernel
theorem ma_153 : ¬ mm_rt 153 = none ∧ ¬ mm_rt 153 = some .long := by decide +kernel
theorem mz_153 : mm_isZ 153 = 0 := by decide +kernel
set_option maxRecDepth 4000 in
theorem tb_154 : mm_prog[154]? = some mm_c154 := rfl
theorem mx_154 : mm_mx 154 = 2 := by decide +kernel
theorem mo_154 : mm_ow 154 = 11 := by decide +kernel
theorem ma_154 : ¬ mm_rt 154 = none ∧ ¬ mm_rt 154 = some .long := by decide +kernel
theorem mz_154 : mm_isZ 154 = 0 := by decide +kernel
set_option maxRecDepth 4000 in
theorem tb_155 : mm_prog[155]? = some mm_c155 := rfl
theorem mx_155 : mm_mx 155 = 1 := by decide +kernel
theorem mo_155 : mm_ow 155 = 12 := by decide +kernel
theorem ma_155 : ¬ mm_rt 155 = none ∧ ¬ mm_rt 155 = some .long := by decide +kernel
theorem mz_155 : mm_isZ 155 = 0 := by decide +kernel
set_option maxRecDepth 4000 in
theorem tb_156 : mm_prog[156]? = some mm_c156 := rfl
theorem mx_156 : mm_mx 156 = 7 := by decide +kernel
theorem mo_156 : mm_ow 156 = 12 := by decide +kernel
theorem ma_156 : ¬ mm_rt 156 = none ∧ ¬ mm_rt 156 = some .long := by decide +kernel
theorem mz_156 : mm_isZ 156 = 0 := by decide +kernel
set_option maxRecDepth 4000 in
theorem tb_157 : mm_prog[157]? = some mm_c157 := rfl
theorem mx_157 : mm_mx 157 = 5 := by decide +kernel
theorem mo_157 : mm_ow 157 = 12 := by decide +kernel
theorem ma_157 : mm_rt 157 = none := by decide +kernel
set_option maxRecDepth 4000 in
theorem tb_158 : mm_prog[158]? = some mm_c158 := rfl
theorem mx_158 : mm_mx 158 = 1 := by decide +kernel
theorem mo_158 : mm_ow 158 = 12 := by decide +kernel
theorem ma_158 : mm_rt 158 = none := by decide +kernel
set_option maxRecDepth 4000 in
theorem tb_159 : mm_prog[159]? = some mm_c159 := rfl
theorem mx_159 : mm_mx 159 = 3 := by decide +kernel
theorem mo_159 : mm_ow 159 = 12 := by decide +kernel
theorem ma_159 : mm_rt 159 = none := by decide +kernel
set_option maxRecDepth 4000 in
theorem tb_160 : mm_prog[160]? = some mm_c160 := rfl
theorem mx_160 : mm_mx 160 = 2 := by decide +kernel
theorem mo_160 : mm_ow 160 = 12 := by decide +kernel
theorem ma_160 : mm_rt 160 = none := by decide +kernel
set_option maxRecDepth 4000 in
theorem tb_161 : mm_prog[161]? = some mm_c161 := rfl
theorem mx_161 : mm_mx 161 = 3 := by decide +kernel
theorem mo_161 : mm_ow 161 = 12 := by decide +kernel
theorem ma_161 : mm_rt 161 = none := by decide +kernel
set_option maxRecDepth 4000 in
theorem tb_162 : mm_prog[162]? = some mm_c162 := rfl
theorem mx_162 : mm_mx 162 = 3 := by decide +kernel
theorem mo_162 : mm_ow 162 = 12 := by decide +kernel
theorem ma_162 : ¬ mm_rt 162 = none ∧ ¬ mm_rt 162 = some .long := by decide +kernel
theorem mz_162 : mm_isZ 162 = 0 := by decide +kernel
set_option maxRecDepth 4000 in
theorem tb_163 : mm_prog[163]? = some mm_c163 := rfl
theorem mx_163 : mm_mx 163 = 2 := by decide +kernel
theorem mo_163 : mm_ow 163 = 12 := by decide +kernel
theorem ma_163 : ¬ mm_rt 163 = none ∧ ¬ mm_rt 163 = some .long := by decide +kernel
theorem mz_163 : mm_isZ 163 = 0 := by decide +kernel
set_option maxRecDepth 4000 in
theorem tb_164 : mm_prog[164]? = some mm_c164 := rfl
theorem mx_164 : mm_mx 164 = 7 := by decide +kernel
theorem mo_164 : mm_ow 164 = 12 := by decide +kernel
theorem ma_164 : mm_rt 164 = none := by decide +kernel
set_option maxRecDepth 4000 in
theorem tb_165 : mm_prog[165]? = some mm_c165 := rfl
theorem mx_165 : mm_mx 165 = 1 := by decide +kernel
theorem mo_165 : mm_ow 165 = 12 := by decide +kernel
theorem ma_165 : ¬ mm_rt 165 = none ∧ ¬ mm_rt 165 = some .long := by decide +kernel
theorem mz_165 : mm_isZ 165 = 1 := by decide +kernel
set_option maxRecDepth 4000 in
theorem tb_166 : mm_prog[166]? = some mm_c166 := rfl
theorem mx_166 : mm_mx 166 = 1 := by decide +kernel
theorem mo_166 : mm_ow 166 = 12 := by decide +kernel
theorem ma_166 : ¬ mm_rt 166 = none ∧ ¬ mm_rt 166 = some .long := by decide +kernel
theorem mz_166 : mm_isZ 166 = 0 := by decide +kernel
set_option maxRecDepth 4000 in
theorem tb_167 : mm_prog[167]? = some mm_c167 := rfl
theorem mx_167 : mm_mx 167 = 1 := by decide +kernel
theorem mo_167 : mm_ow 167 = 12 := by decide +kernel
theorem ma_167 : ¬ mm_rt 167 = none ∧ ¬ mm_rt 167 = some .long := by decide +kernel
theorem mz_167 : mm_isZ 167 = 1 := by decide +kernel
set_option maxRecDepth 4000 in
theorem tb_168 : mm_prog[168]? = some mm_c168 := rfl
theorem mx_168 : mm_mx 168 = 1 := by decide +kernel
theorem mo_168 : mm_ow 168 = 12 := by decide +kernel
theorem ma_168 : ¬ mm_rt 168 = none ∧ ¬ mm_rt 168 = some .long := by decide +kernel
theorem mz_168 : mm_isZ 168 = 1 := by decide +kernel
set_option maxRecDepth 4000 in
theorem tb_169 : mm_prog[169]? = some mm_c169 := rfl
theorem mx_169 : mm_mx 169 = 2 := by decide +kernel
theorem mo_169 : mm_ow 169 = 12 := by decide +kernel
theorem ma_169 : mm_rt 169 = none := by decide +kernel
set_option maxRecDepth 4000 in
theorem tb_170 : mm_prog[170]? = some mm_c170 := rfl
theorem mx_170 : mm_mx 170 = 3 := by decide +kernel
theorem mo_170 : mm_ow 170 = 12 := by decide +kernel
theorem ma_170 : ¬ mm_rt 170 = none ∧ ¬ mm_rt 170 = some .long := by decide +kernel
theorem mz_170 : mm_isZ 170 = 1 := by decide +kernel
set_option maxRecDepth 4000 in
theorem tb_171 : mm_prog[171]? = some mm_c171 := rfl
theorem mx_171 : mm_mx 171 = 2 := by decide +kernel
theorem mo_171 : mm_ow 171 = 12 := by decide +kernel
theorem ma_171 : ¬ mm_rt 171 = none ∧ ¬ mm_rt 171 = some .long := by decide +kernel
theorem mz_171 : mm_isZ 171 = 1 := by decide +kernel
set_option maxRecDepth 4000 in
theorem tb_172 : mm_prog[172]? = some mm_c172 := rfl
theorem mx_172 : mm_mx 172 = 2 := by decide +kernel
theorem mo_172 : mm_ow 172 = 12 := by decide +kernel
theorem ma_172 : mm_rt 172 = none := by decide +kernel
set_option maxRecDepth 4000 in
theorem tb_173 : mm_prog[173]? = some mm_c173 := rfl
theorem mx_173 : mm_mx 173 = 3 := by decide +kernel
theorem mo_173 : mm_ow 173 = 12 := by decide +kernel
theorem ma_173 : ¬ mm_rt 173 = none ∧ ¬ mm_rt 173 = some .long := by decide +kernel
theorem mz_173 : mm_isZ 173 = 0 := by decide +kernel
set_option maxRecDepth 4000 in
theorem tb_174 : mm_prog[174]? = some mm_c174 := rfl
theorem mx_174 : mm_mx 174 = 4 := by decide +kernel
theorem mo_174 : mm_ow 174 = 12 := by decide +kernel
theorem ma_174 : ¬ mm_rt 174 = none ∧ ¬ mm_rt 174 = some .long := by decide +kernel
theorem mz_174 : mm_isZ 174 = 0 := by decide +kernel
set_option maxRecDepth 4000 in
theorem tb_175 : mm_prog[175]? = some mm_c175 := rfl
theorem mx_175 : mm_mx 175 = 2 := by decide +kernel
theorem mo_175 : mm_ow 175 = 12 := by decide +kernel
theorem ma_175 : mm_rt 175 = none := by decide +kernel
set_option maxRecDepth 4000 in
theorem tb_176 : mm_prog[176]? = some mm_c176 := rfl
theorem mx_176 : mm_mx 176 = 2 := by decide +kernel
theorem mo_176 : mm_ow 176 = 12 := by decide +kernel
theorem ma_176 : ¬ mm_rt 176 = none ∧ ¬ mm_rt 176 = some .long := by decide +kernel
theorem mz_176 : mm_isZ 176 = 1 := by decide +kernel
set_option maxRecDepth 4000 in
theorem tb_177 : mm_prog[177]? = some mm_c177 := rfl
theorem mx_177 : mm_mx 177 = 1 := by decide +kernel
theorem mo_177 : mm_ow 177 = 12 := by decide +kernel
theorem ma_177 : mm_rt 177 = none := by decide +kernel
set_option maxRecDepth 4000 in
theorem tb_178 : mm_prog[178]? = some mm_c178 := rfl
theorem mx_178 : mm_mx 178 = 2 := by decide +kernel
theorem mo_178 : mm_ow 178 = 12 := by decide +kernel
theorem ma_178 : mm_rt 178 = none := by decide +kernel
set_option maxRecDepth 4000 in
theorem tb_179 : mm_prog[179]? = some mm_c179 := rfl
theorem mx_179 : mm_mx 179 = 2 := by decide +kernel
theorem mo_179 : mm_ow 179 = 12 := by decide +kernel
theorem ma_179 : mm_rt 179 = none := by decide +kernel
set_option maxRecDepth 4000 in
theorem tb_180 : mm_prog[180]? = some mm_c180 := rfl
theorem mx_180 : mm_mx 180 = 1 := by decide +kernel
theorem mo_180 : mm_ow 180 = 12 := by decide +kernel
theorem ma_180 : ¬ mm_rt 180 = none ∧ ¬ mm_rt 180 = some .long := by decide +kernel
theorem mz_180 : mm_isZ 180 = 1 := by decide +kernel
set_option maxRecDepth 4000 in
theorem tb_181 : mm_prog[181]? = some mm_c181 := rfl
theorem mx_181 : mm_mx 181 = 5 := by decide +kernel
theorem mo_181 : mm_ow 181 = 12 := by decide +kernel
theorem ma_181 : ¬ mm_rt 181 = none ∧ ¬ mm_rt 181 = some .long := by decide +kernel
theorem mz_181 : mm_isZ 181 = 0 := by decide +kernel
set_option maxRecDepth 4000 in
theorem tb_182 : mm_prog[182]? = some mm_c182 := rfl
theorem mx_182 : mm_mx 182 = 3 := by decide +kernel
theorem mo_182 : mm_ow 182 = 12 := by decide +kernel
theorem ma_182 : ¬ mm_rt 182 = none ∧ ¬ mm_rt 182 = some .long := by decide +kernel
theorem mz_182 : mm_isZ 182 = 0 := by decide +kernel
set_option maxRecDepth 4000 in
theorem tb_183 : mm_prog[183]? = some mm_c183 := rfl
theorem mx_183 : mm_mx 183 = 3 := by decide +kernel
theorem mo_183 : mm_ow 183 = 12 := by decide +kernel
theorem ma_183 : mm_rt 183 = none := by decide +kernel
set_option maxRecDepth 4000 in
theorem tb_184 : mm_prog[184]? = some mm_c184 := rfl
theorem mx_184 : mm_mx 184 = 4 := by decide +kernel
theorem mo_184 : mm_ow 184 = 12 := by decide +kernel
theorem ma_184 : ¬ mm_rt 184 = none ∧ ¬ mm_rt 184 = some .long := by decide +kernel
theorem mz_184 : mm_isZ 184 = 0 := by decide +kernel
set_option maxRecDepth 4000 in
theorem tb_185 : mm_prog[185]? = some mm_c185 := rfl
theorem mx_185 : mm_mx 185 = 1 := by decide +kernel
theorem mo_185 : mm_ow 185 = 12 := by decide +kernel
theorem ma_185 : ¬ mm_rt 185 = none ∧ ¬ mm_rt 185 = some .long := by decide +kernel
theorem mz_185 : mm_isZ 185 = 0 := by decide +kernel
set_option maxRecDepth 4000 in
theorem tb_186 : mm_prog[186]? = some mm_c186 := rfl
theorem mx_186 : mm_mx 186 = 5 := by decide +kernel
theorem mo_186 : mm_ow 186 = 12 := by decide +kernel
theorem ma_186 : ¬ mm_rt 186 = none ∧ ¬ mm_rt 186 = some .long := by decide +kernel
theorem mz_186 : mm_isZ 186 = 0 := by decide +kernel
set_option maxRecDepth 4000 in
theorem tb_187 : mm_prog[187]? = some mm_c187 := rfl
theorem mx_187 : mm_mx 187 = 5 := by decide +kernel
theorem mo_187 : mm_ow 187 = 12 := by decide +kernel
theorem ma_187 : ¬ mm_rt 187 = none ∧ ¬ mm_rt 187 = some .long := by decide +kernel
theorem mz_187 : mm_isZ 187 = 0 := by decide +kernel
set_option maxRecDepth 4000 in
theorem tb_188 : mm_prog[188]? = some mm_c188 := rfl
theorem mx_188 : mm_mx 188 = 3 := by decide +kernel
theorem mo_188 : mm_ow 188 = 12 := by decide +kernel
theorem ma_188 : ¬ mm_rt 188 = none ∧ ¬ mm_rt 188 = some .long := by decide +kernel
theorem mz_188 : mm_isZ 188 = 1 := by decide +kernel
set_option maxRecDepth 4000 in
theorem tb_189 : mm_prog[189]? = some mm_c189 := rfl
theorem mx_189 : mm_mx 189 = 5 := by decide +kernel
theorem mo_189 : mm_ow 189 = 12 := by decide +kernel
theorem ma_189 : mm_rt 189 = none := by decide +kernel
set_option maxRecDepth 4000 in
theorem tb_190 : mm_prog[190]? = some mm_c190 := rfl
theorem mx_190 : mm_mx 190 = 2 := by decide +kernel
theorem mo_190 : mm_ow 190 = 12 := by decide +kernel
theorem ma_190 : mm_rt 190 = none := by decide +kernel
set_option maxRecDepth 4000 in
theorem tb_191 : mm_prog[191]? = some mm_c191 := rfl
theorem mx_191 : mm_mx 191 = 3 := by decide +kernel
theorem mo_191 : mm_ow 191 = 12 := by decide +kernel
theorem ma_191 : mm_rt 191 = none := by decide +kernel
set_option maxRecDepth 4000 in
theorem tb_192 : mm_prog[192]? = some mm_c192 := rfl
theorem mx_192 : mm_mx 192 = 3 := by decide +kernel
theorem mo_192 : mm_ow 192 = 12 := by decide +kernel
theorem ma_192 : mm_rt 192 = none := by decide +kernel
set_option maxRecDepth 4000 in
theorem tb_193 : mm_prog[193]? = some mm_c193 := rfl
theorem mx_193 : mm_mx 193 = 3 := by decide +kernel
theorem mo_193 : mm_ow 193 = 12 := by decide +kernel
theorem ma_193 : mm_rt 193 = none := by decide +kernel
set_option maxRecDepth 4000 in
theorem tb_194 : mm_prog[194]? = some mm_c194 := rfl
theorem mx_194 : mm_mx 194 = 2 := by decide +kernel
theorem mo_194 : mm_ow 194 = 12 := by decide +kernel
theorem ma_194 : mm_rt 194 = none := by decide +kernel
set_option maxRecDepth 4000 in
theorem tb_195 : mm_prog[195]? = some mm_c195 := rfl
theorem mx_195 : mm_mx 195 = 4 := by decide +kernel
theorem mo_195 : mm_ow 195 = 12 := by decide +kernel
theorem ma_195 : mm_rt 195 = none := by decide +kernel
set_option maxRecDepth 4000 in
theorem tb_196 : mm_prog[196]? = some mm_c196 := rfl
theorem mx_196 : mm_mx 196 = 3 := by decide +kernel
theorem mo_196 : mm_ow 196 = 12 := by decide +kernel
theorem ma_196 : mm_rt 196 = none := by decide +kernel
set_option maxRecDepth 4000 in
theorem tb_197 : mm_prog[197]? = some mm_c197 := rfl
theorem mx_197 : mm_mx 197 = 3 := by decide +kernel
theorem mo_197 : mm_ow 197 = 12 := by decide +kernel
theorem ma_197 : ¬ mm_rt 197 = none ∧ ¬ mm_rt 197 = some .long := by decide +kernel
theorem mz_197 : mm_isZ 197 = 1 := by decide +kernel
set_option maxRecDepth 4000 in
theorem tb_198 : mm_prog[198]? = some mm_c198 := rfl
theorem mx_198 : mm_mx 198 = 3 := by decide +kernel
theorem mo_198 : mm_ow 198 = 12 := by decide +kernel
theorem ma_198 : ¬ mm_rt 198 = none ∧ ¬ mm_rt 198 = some .long := by decide +kernel
theorem mz_198 : mm_isZ 198 = 0 := by decide +kernel
set_option maxRecDepth 4000 in
theorem tb_199 : mm_prog[199]? = some mm_c199 := rfl
theorem mx_199 : mm_mx 199 = 3 := by decide +kernel
theorem mo_199 : mm_ow 199 = 12 := by decide +kernel
theorem ma_199 : ¬ mm_rt 199 = none ∧ ¬ mm_rt 199 = some .long := by decide +kernel
theorem mz_199 : mm_isZ 199 = 0 := by decide +kernel
set_option maxRecDepth 4000 in
theorem tb_200 : mm_prog[200]? = some mm_c200 := rfl
theorem mx_200 : mm_mx 200 = 2 := by decide +kernel
theorem mo_200 : mm_ow 200 = 12 := by decide +kernel
theorem ma_200 : ¬ mm_rt 200 = none ∧ ¬ mm_rt 200 = some .long := by decide +kernel
theorem mz_200 : mm_isZ 200 = 1 := by decide +kernel
set_option maxRecDepth 4000 in
theorem tb_201 : mm_prog[201]? = some mm_c201 := rfl
theorem mx_201 : mm_mx 201 = 1 := by decide +kernel
theorem mo_201 : mm_ow 201 = 12 := by decide +kernel
theorem ma_201 : ¬ mm_rt 201 = none ∧ ¬ mm_rt 201 = some .long := by decide +kernel
theorem mz_201 : mm_isZ 201 = 0 := by decide +kernel
set_option maxRecDepth 4000 in
theorem tb_202 : mm_prog[202]? = some mm_c202 := rfl
theorem mx_202 : mm_mx 202 = 4 := by decide +kernel
theorem mo_202 : mm_ow 202 = 12 := by decide +kernel
theorem ma_202 : ¬ mm_rt 202 = none ∧ ¬ mm_rt 202 = some .long := by decide +kernel
theorem mz_202 : mm_isZ 202 = 0 := by decide +kernel
set_option maxRecDepth 4000 in
theorem tb_203 : mm_prog[203]? = some mm_c203 := rfl
theorem mx_203 : mm_mx 203 = 5 := by decide +kernel
theorem mo_203 : mm_ow 203 = 12 := by decide +kernel
theorem ma_203 : ¬ mm_rt 203 = none ∧ ¬ mm_rt 203 = some .long := by decide +kernel
theorem mz_203 : mm_isZ 203 = 0 := by decide +kernel
set_option maxRecDepth 4000 in
theorem tb_204 : mm_prog[204]? = some mm_c204 := rfl
theorem mx_204 : mm_mx 204 = 3 := by decide +kernel
theorem mo_204 : mm_ow 204 = 12 := by decide +kernel
theorem ma_204 : ¬ mm_rt 204 = none ∧ ¬ mm_rt 204 = some .long := by decide +kernel
theorem mz_204 : mm_isZ 204 = 0 := by decide +kernel
set_option maxRecDepth 4000 in
theorem tb_205 : mm_prog[205]? = some mm_c205 := rfl
theorem mx_205 : mm_mx 205 = 7 := by decide +kernel
theorem mo_205 : mm_ow 205 = 12 := by decide +kernel
theorem ma_205 : ¬ mm_rt 205 = none ∧ ¬ mm_rt 205 = some .long := by decide +kernel
theorem mz_205 : mm_isZ 205 = 0 := by decide +kernel
set_option maxRecDepth 4000 in
theorem tb_206 : mm_prog[206]? = some mm_c206 := rfl
theorem mx_206 : mm_mx 206 = 3 := by decide +kernel
theorem mo_206 : mm_ow 206 = 12 := by decide +kernel
theorem ma_206 : ¬ mm_rt 206 = none ∧ ¬ mm_rt 206 = some .long := by decide +kernel
theorem mz_206 : mm_isZ 206 = 0 := by decide +kernel
set_option maxRecDepth 4000 in
theorem tb_207 : mm_prog[207]? = some mm_c207 := rfl
theorem mx_207 : mm_mx 207 = 13 := by decide +kernel
theorem mo_207 : mm_ow 207 = 12 := by decide +kernel
theorem ma_207 : ¬ mm_rt 207 = none ∧ ¬ mm_rt 207 = some .long := by decide +kernel
theorem mz_207 : mm_isZ 207 = 0 := by decide +kernel
set_option maxRecDepth 4000 in
theorem tb_208 : mm_prog[208]? = some mm_c208 := rfl
theorem mx_208 : mm_mx 208 = 1 := by decide +kernel
theorem mo_208 : mm_ow 208 = 12 := by decide +kernel
theorem ma_208 : ¬ mm_rt 208 = none ∧ ¬ mm_rt 208 = some .long := by decide +kernel
theorem mz_208 : mm_isZ 208 = 0 := by decide +kernel
set_option maxRecDepth 4000 in
theorem tb_209 : mm_prog[209]? = some mm_c209 := rfl
theorem mx_209 : mm_mx 209 = 3 := by decide +kernel
theorem mo_209 : mm_ow 209 = 12 := by decide +kernel
theorem ma_209 : ¬ mm_rt 209 = none ∧ ¬ mm_rt 209 = some .long := by decide +kernel
theorem mz_209 : mm_isZ 209 = 0 := by decide +kernel
set_option maxRecDepth 4000 in
theorem tb_210 : mm_prog[210]? = some mm_c210 := rfl
theorem mx_210 : mm_mx 210 = 2 := by decide +kernel
theorem mo_210 : mm_ow 210 = 12 := by decide +kernel
theorem ma_210 : ¬ mm_rt 210 = none ∧ ¬ mm_rt 210 = some .long := by decide +kernel
theorem mz_210 : mm_isZ 210 = 0 := by decide +kernel
set_option maxRecDepth 4000 in
theorem tb_211 : mm_prog[211]? = some mm_c211 := rfl
theorem mx_211 : mm_mx 211 = 3 := by decide +kernel
theorem mo_211 : mm_ow 211 = 12 := by decide +kernel
theorem ma_211 : ¬ mm_rt 211 = none ∧ ¬ mm_rt 211 = some .long := by decide +kernel
theorem mz_211 : mm_isZ 211 = 0 := by decide +kernel
set_option maxRecDepth 4000 in
theorem tb_212 : mm_prog[212]? = some mm_c212 := rfl
theorem mx_212 : mm_mx 212 = 2 := by decide +kernel
theorem mo_212 : mm_ow 212 = 12 := by decide +kernel
theorem ma_212 : ¬ mm_rt 212 = none ∧ ¬ mm_rt 212 = some .long := by decide +kernel
theorem mz_212 : mm_isZ 212 = 1 := by decide +kernel
set_option maxRecDepth 4000 in
theorem tb_213 : mm_prog[213]? = some mm_c213 := rfl
theorem mx_213 : mm_mx 213 = 4 := by decide +kernel
theorem mo_213 : mm_ow 213 = 12 := by decide +kernel
theorem ma_213 : ¬ mm_rt 213 = none ∧ ¬ mm_rt 213 = some .long := by decide +kernel
theorem mz_213 : mm_isZ 213 = 0 := by decide +kernel
set_option maxRecDepth 4000 in
theorem tb_214 : mm_prog[214]? = some mm_c214 := rfl
theorem mx_214 : mm_mx 214 = 2 := by decide +kernel
theorem mo_214 : mm_ow 214 = 12 := by decide +kernel
theorem ma_214 : ¬ mm_rt 214 = none ∧ ¬ mm_rt 214 = some .long := by decide +kernel
theorem mz_214 : mm_isZ 214 = 0 := by decide +kernel
set_option maxRecDepth 4000 in
theorem tb_215 : mm_prog[215]? = some mm_c215 := rfl
theorem mx_215 : mm_mx 215 = 2 := by decide +kernel
theorem mo_215 : mm_ow 215 = 12 := by decide +kernel
theorem ma_215 : ¬ mm_rt 215 = none ∧ ¬ mm_rt 215 = some .long := by decide +kernel
theorem mz_215 : mm_isZ 215 = 1 := by decide +kernel
set_option maxRecDepth 4000 in
theorem tb_216 : mm_prog[216]? = some mm_c216 := rfl
theorem mx_216 : mm_mx 216 = 1 := by decide +kernel
theorem mo_216 : mm_ow 216 = 12 := by decide +kernel
theorem ma_216 : ¬ mm_rt 216 = none ∧ ¬ mm_rt 216 = some .long := by decide +kernel
theorem mz_216 : mm_isZ 216 = 0 := by decide +kernel
set_option maxRecDepth 4000 in
theorem tb_217 : mm_prog[217]? = some mm_c217 := rfl
theorem mx_217 : mm_mx 217 = 3 := by decide +kernel
theorem mo_217 : mm_ow 217 = 12 := by decide +kernel
theorem ma_217 : ¬ mm_rt 217 = none ∧ ¬ mm_rt 217 = some .long := by decide +kernel
theorem mz_217 : mm_isZ 217 = 1 := by decide +kernel
set_option maxRecDepth 4000 in
theorem tb_218 : mm_prog[218]? = some mm_c218 := rfl
theorem mx_218 : mm_mx 218 = 2 := by decide +kernel
theorem mo_218 : mm_ow 218 = 12 := by decide +kernel
theorem ma_218 : mm_rt 218 = none := by decide +kernel
set_option maxRecDepth 4000 in
theorem tb_219 : mm_prog[219]? = some mm_c219 := rfl
theorem mx_219 : mm_mx 219 = 5 := by decide +kernel
theorem mo_219 : mm_ow 219 = 12 := by decide +kernel
theorem ma_219 : mm_rt 219 = none := by decide +kernel
set_option maxRecDepth 4000 in
theorem tb_220 : mm_prog[220]? = some mm_c220 := rfl
theorem mx_220 : mm_mx 220 = 2 := by decide +kernel
theorem mo_220 : mm_ow 220 = 12 := by decide +kernel
theorem ma_220 : ¬ mm_rt 220 = none ∧ ¬ mm_rt 220 = some .long := by decide +kernel
theorem mz_220 : mm_isZ 220 = 1 := by decide +kernel
set_option maxRecDepth 4000 in
theorem tb_221 : mm_prog[221]? = some mm_c221 := rfl
theorem mx_221 : mm_mx 221 = 3 := by decide +kernel
theorem mo_221 : mm_ow 221 = 12 := by decide +kernel
theorem ma_221 : ¬ mm_rt 221 = none ∧ ¬ mm_rt 221 = some .long := by decide +kernel
theorem mz_221 : mm_isZ 221 = 1 := by decide +kernel
set_option maxRecDepth 4000 in
theorem tb_222 : mm_prog[222]? = some mm_c222 := rfl
theorem mx_222 : mm_mx 222 = 1 := by decide +kernel
theorem mo_222 : mm_ow 222 = 12 := by decide +kernel
theorem ma_222 : ¬ mm_rt 222 = none ∧ ¬ mm_rt 222 = some .long := by decide +kernel
theorem mz_222 : mm_isZ 222 = 0 := by decide +kernel
set_option maxRecDepth 4000 in
theorem tb_223 : mm_prog[223]? = some mm_c223 := rfl
theorem mx_223 : mm_mx 223 = 3 := by decide +kernel
theorem mo_223 : mm_ow 223 = 12 := by decide +kernel
theorem ma_223 : mm_rt 223 = none := by decide +kernel
set_option maxRecDepth 4000 in
theorem tb_224 : mm_prog[224]? = some mm_c224 := rfl
theorem mx_224 : mm_mx 224 = 1 := by decide +kernel
theorem mo_224 : mm_ow 224 = 12 := by decide +kernel
theorem ma_224 : ¬ mm_rt 224 = none ∧ ¬ mm_rt 224 = some .long := by decide +kernel
theorem mz_224 : mm_isZ 224 = 1 := by decide +kernel
set_option maxRecDepth 4000 in
theorem tb_225 : mm_prog[225]? = some mm_c225 := rfl
theorem mx_225 : mm_mx 225 = 8 := by decide +kernel
theorem mo_225 : mm_ow 225 = 12 := by decide +kernel
theorem ma_225 : ¬ mm_rt 225 = none ∧ ¬ mm_rt 225 = some .long := by decide +kernel
theorem mz_225 : mm_isZ 225 = 0 := by decide +kernel
set_option maxRecDepth 4000 in
theorem tb_226 : mm_prog[226]? = some mm_c226 := rfl
theorem mx_226 : mm_mx 226 = 5 := by decide +kernel
theorem mo_226 : mm_ow 226 = 12 := by decide +kernel
theorem ma_226 : ¬ mm_rt 226 = none ∧ ¬ mm_rt 226 = some .long := by decide +kernel
theorem mz_226 : mm_isZ 226 = 1 := by decide +kernel
set_option maxRecDepth 4000 in
theorem tb_227 : mm_prog[227]? = some mm_c227 := rfl
theorem mx_227 : mm_mx 227 = 4 := by decide +kernel
theorem mo_227 : mm_ow 227 = 12 := by decide +kernel
theorem ma_227 : ¬ mm_rt 227 = none ∧ ¬ mm_rt 227 = some .long := by decide +kernel
theorem mz_227 : mm_isZ 227 = 0 := by decide +kernel
set_option maxRecDepth 4000 in
theorem tb_228 : mm_prog[228]? = some mm_c228 := rfl
theorem mx_228 : mm_mx 228 = 1 := by decide +kernel
theorem mo_228 : mm_ow 228 = 12 := by decide +kernel
theorem ma_228 : ¬ mm_rt 228 = none ∧ ¬ mm_rt 228 = some .long := by decide +kernel
theorem mz_228 : mm_isZ 228 = 0 := by decide +kernel
set_option maxRecDepth 4000 in
theorem tb_229 : mm_prog[229]? = some mm_c229 := rfl
theorem mx_229 : mm_mx 229 = 7 := by decide +kernel
theorem mo_229 : mm_ow 229 = 12 := by decide +kernel
theorem ma_229 : ¬ mm_rt 229 = none ∧ ¬ mm_rt 229 = some .long := by decide +kernel
theorem mz_229 : mm_isZ 229 = 0 := by decide +kernel
set_option maxRecDepth 4000 in
theorem tb_230 : mm_prog[230]? = some mm_c230 := rfl
theorem mx_230 : mm_mx 230 = 3 := by decide +kernel
theorem mo_230 : mm_ow 230 = 12 := by decide +kernel
theorem ma_230 : ¬ mm_rt 230 = none ∧ ¬ mm_rt 230 = some .long := by decide +kernel
theorem mz_230 : mm_isZ 230 = 0 := by decide +kernel
set_option maxRecDepth 4000 in
theorem tb_231 : mm_prog[231]? = some mm_c231 := rfl
theorem mx_231 : mm_mx 231 = 7 := by decide +kernel
theorem mo_231 : mm_ow 231 = 12 := by decide +kernel
theorem ma_231 : ¬ mm_rt 231 = none ∧ ¬ mm_rt 231 = some .long := by decide +kernel
theorem mz_231 : mm_isZ 231 = 0 := by decide +kernel
set_option maxRecDepth 4000 in
theorem tb_232 : mm_prog[232]? = some mm_c232 := rfl
theorem mx_232 : mm_mx 232 = 8 := by decide +kernel
theorem mo_232 : mm_ow 232 = 12 := by decide +kernel
theorem ma_232 : ¬ mm_rt 232 = none ∧ ¬ mm_rt 232 = some .long := by decide +kernel
theorem mz_232 : mm_isZ 232 = 0 := by decide +kernel
set_option maxRecDepth 4000 in
theorem tb_233 : mm_prog[233]? = some mm_c233 := rfl
theorem mx_233 : mm_mx 233 = 3 := by decide +kernel
theorem mo_233 : mm_ow 233 = 12 := by decide +kernel
theorem ma_233 : ¬ mm_rt 233 = none ∧ ¬ mm_rt 233 = some .long := by decide +kernel
theorem mz_233 : mm_isZ 233 = 0 := by decide +kernel
set_option maxRecDepth 4000 in
theorem tb_234 : mm_prog[234]? = some mm_c234 := rfl
theorem mx_234 : mm_mx 234 = 3 := by decide +kernel
theorem mo_234 : mm_ow 234 = 12 := by decide +kernel
theorem ma_234 : ¬ mm_rt 234 = none ∧ ¬ mm_rt 234 = some .long := by decide +kernel
theorem mz_234 : mm_isZ 234 = 0 := by decide +kernel
set_option maxRecDepth 4000 in
theorem tb_235 : mm_prog[235]? = some mm_c235 := rfl
theorem mx_235 : mm_mx 235 = 3 := by decide +kernel
theorem mo_235 : mm_ow 235 = 12 := by decide +kernel
theorem ma_235 : ¬ mm_rt 235 = none ∧ ¬ mm_rt 235 = some .long := by decide +kernel
theorem mz_235 : mm_isZ 235 = 0 := by decide +kernel
set_option maxRecDepth 4000 in
theorem tb_236 : mm_prog[236]? = some mm_c236 := rfl
theorem mx_236 : mm_mx 236 = 3 := by decide +kernel
theorem mo_236 : mm_ow 236 = 12 := by decide +kernel
theorem ma_236 : ¬ mm_rt 236 = none ∧ ¬ mm_rt 236 = some .long := by decide +kernel
theorem mz_236 : mm_isZ 236 = 0 := by decide +kernel
set_option maxRecDepth 4000 in
theorem tb_237 : mm_prog[237]? = some mm_c237 := rfl
theorem mx_237 : mm_mx 237 = 1 := by decide +kernel
theorem mo_237 : mm_ow 237 = 12 := by decide +kernel
theorem ma_237 : ¬ mm_rt 237 = none ∧ ¬ mm_rt 237 = some .long := by decide +kernel
theorem mz_237 : mm_isZ 237 = 1 := by decide +kernel
set_option maxRecDepth 4000 in
theorem tb_238 : mm_prog[238]? = some mm_c238 := rfl
theorem mx_238 : mm_mx 238 = 2 := by decide +kernel
theorem mo_238 : mm_ow 238 = 12 := by decide +kernel
theorem ma_238 : ¬ mm_rt 238 = none ∧ ¬ mm_rt 238 = some .long := by decide +kernel
theorem mz_238 : mm_isZ 238 = 0 := by decide +kernel
set_option maxRecDepth 4000 in
theorem tb_239 : mm_prog[239]? = some mm_c239 := rfl
theorem mx_239 : mm_mx 239 = 4 := by decide +kernel
theorem mo_239 : mm_ow 239 = 12 := by decide +kernel
theorem ma_239 : ¬ mm_rt 239 = none ∧ ¬ mm_rt 239 = some .long := by decide +kernel
theorem mz_239 : mm_isZ 239 = 0 := by decide +kernel
set_option maxRecDepth 4000 in
theorem tb_240 : mm_prog[240]? = some mm_c240 := rfl
theorem mx_240 : mm_mx 240 = 6 := by decide +kernel
theorem mo_240 : mm_ow 240 = 12 := by decide +kernel
theorem ma_240 : ¬ mm_rt 240 = none ∧ ¬ mm_rt 240 = some .long := by decide +kernel
theorem mz_240 : mm_isZ 240 = 0 := by decide +kernel
set_option maxRecDepth 4000 in
theorem tb_241 : mm_prog[241]? = some mm_c241 := rfl
theorem mx_241 : mm_mx 241 = 7 := by decide +kernel
theorem mo_241 : mm_ow 241 = 12 := by decide +kernel
theorem ma_241 : mm_rt 241 = some .long := by decide +kernel
set_option maxRecDepth 4000 in
theorem tb_242 : mm_prog[242]? = some mm_c242 := rfl
theorem mx_242 : mm_mx 242 = 1 := by decide +kernel
theorem mo_242 : mm_ow 242 = 12 := by decide +kernel
theorem ma_242 : ¬ mm_rt 242 = none ∧ ¬ mm_rt 242 = some .long := by decide +kernel
theorem mz_242 : mm_isZ 242 = 0 := by decide +kernel
set_option maxRecDepth 4000 in
theorem tb_243 : mm_prog[243]? = some mm_c243 := rfl
theorem mx_243 : mm_mx 243 = 6 := by decide +kernel
theorem mo_243 : mm_ow 243 = 12 := by decide +kernel
theorem ma_243 : ¬ mm_rt 243 = none ∧ ¬ mm_rt 243 = some .long := by decide +kernel
theorem mz_243 : mm_isZ 243 = 0 := by decide +kernel
set_option maxRecDepth 4000 in
theorem tb_244 : mm_prog[244]? = some mm_c244 := rfl
theorem mx_244 : mm_mx 244 = 4 := by decide +kernel
theorem mo_244 : mm_ow 244 = 12 := by decide +kernel
theorem ma_244 : ¬ mm_rt 244 = none ∧ ¬ mm_rt 244 = some .long := by decide +kernel
theorem mz_244 : mm_isZ 244 = 0 := by decide +kernel
set_option maxRecDepth 4000 in
theorem tb_245 : mm_prog[245]? = some mm_c245 := rfl
theorem mx_245 : mm_mx 245 = 3 := by decide +kernel
theorem mo_245 : mm_ow 245 = 12 := by decide +kernel
theorem ma_245 : ¬ mm_rt 245 = none ∧ ¬ mm_rt 245 = some .long := by decide +kernel
theorem mz_245 : mm_isZ 245 = 0 := by decide +kernel
set_option maxRecDepth 4000 in
theorem tb_246 : mm_prog[246]? = some mm_c246 := rfl
theorem mx_246 : mm_mx 246 = 5 := by decide +kernel
theorem mo_246 : mm_ow 246 = 12 := by decide +kernel
theorem ma_246 : mm_rt 246 = none := by decide +kernel
set_option maxRecDepth 4000 in
theorem tb_247 : mm_prog[247]? = some mm_c247 := rfl
theorem mx_247 : mm_mx 247 = 5 := by decide +kernel
theorem mo_247 : mm_ow 247 = 12 := by decide +kernel
theorem ma_247 : ¬ mm_rt 247 = none ∧ ¬ mm_rt 247 = some .long := by decide +kernel
theorem mz_247 : mm_isZ 247 = 1 := by decide +kernel
set_option maxRecDepth 4000 in
theorem tb_248 : mm_prog[248]? = some mm_c248 := rfl
theorem mx_248 : mm_mx 248 = 5 := by decide +kernel
theorem mo_248 : mm_ow 248 = 12 := by decide +kernel
theorem ma_248 : ¬ mm_rt 248 = none ∧ ¬ mm_rt 248 = some .long := by decide +kernel
theorem mz_248 : mm_isZ 248 = 0 := by decide +kernel
set_option maxRecDepth 4000 in
theorem tb_249 : mm_prog[249]? = some mm_c249 := rfl
theorem mx_249 : mm_mx 249 = 5 := by decide +kernel
theorem mo_249 : mm_ow 249 = 12 := by decide +kernel
theorem ma_249 : ¬ mm_rt 249 = none ∧ ¬ mm_rt 249 = some .long := by decide +kernel
theorem mz_249 : mm_isZ 249 = 0 := by decide +kernel
set_option maxRecDepth 4000 in
theorem tb_250 : mm_prog[250]? = some mm_c250 := rfl
theorem mx_250 : mm_mx 250 = 8 := by decide +kernel
theorem mo_250 : mm_ow 250 = 12 := by decide +kernel
theorem ma_250 : ¬ mm_rt 250 = none ∧ ¬ mm_rt 250 = some .long := by decide +kernel
theorem mz_250 : mm_isZ 250 = 1 := by decide +kernel
set_option maxRecDepth 4000 in
theorem tb_251 : mm_prog[251]? = some mm_c251 := rfl
theorem mx_251 : mm_mx 251 = 6 := by decide +kernel
theorem mo_251 : mm_ow 251 = 12 := by decide +kernel
theorem ma_251 : mm_rt 251 = none := by decide +kernel
set_option maxRecDepth 4000 in
theorem tb_252 : mm_prog[252]? = some mm_c252 := rfl
theorem mx_252 : mm_mx 252 = 8 := by decide +kernel
theorem mo_252 : mm_ow 252 = 12 := by decide +kernel
theorem ma_252 : ¬ mm_rt 252 = none ∧ ¬ mm_rt 252 = some .long := by decide +kernel
theorem mz_252 : mm_isZ 252 = 0 := by decide +kernel
set_option maxRecDepth 4000 in
theorem tb_253 : mm_prog[253]? = some mm_c253 := rfl
theorem mx_253 : mm_mx 253 = 7 := by decide +kernel
theorem mo_253 : mm_ow 253 = 12 := by decide +kernel
theorem ma_253 : ¬ mm_rt 253 = none ∧ ¬ mm_rt 253 = some .long := by decide +kernel
theorem mz_253 : mm_isZ 253 = 0 := by decide +kernel
set_option maxRecDepth 4000 in
theorem tb_254 : mm_prog[254]? = some mm_c254 := rfl
theorem mx_254 : mm_mx 254 = 7 := by decide +kernel
theorem mo_254 : mm_ow 254 = 12 := by decide +kernel
theorem ma_254 : ¬ mm_rt 254 = none ∧ ¬ mm_rt 254 = some .long := by decide +kernel
theorem mz_254 : mm_isZ 254 = 0 := by decide +kernel
set_option maxRecDepth 4000 in
theorem tb_255 : mm_prog[255]? = some mm_c255 := rfl
theorem mx_255 : mm_mx 255 = 11 := by decide +kernel
theorem mo_255 : mm_ow 255 = 12 := by decide +kernel
theorem ma_255 : ¬ mm_rt 255 = none ∧ ¬ mm_rt 255 = some .long := by decide +kernel
theorem mz_255 : mm_isZ 255 = 0 := by decide +kernel
set_option maxRecDepth 4000 in
theorem tb_256 : mm_prog[256]? = some mm_c256 := rfl
theorem mx_256 : mm_mx 256 = 9 := by decide +kernel
theorem mo_256 : mm_ow 256 = 12 := by decide +kernel
theorem ma_256 : ¬ mm_rt 256 = none ∧ ¬ mm_rt 256 = some .long := by decide +kernel
theorem mz_256 : mm_isZ 256 = 0 := by decide +kernel
set_option maxRecDepth 4000 in
theorem tb_257 : mm_prog[257]? = some mm_c257 := rfl
theorem mx_257 : mm_mx 257 = 5 := by decide +kernel
theorem mo_257 : mm_ow 257 = 12 := by decide +kernel
theorem ma_257 : ¬ mm_rt 257 = none ∧ ¬ mm_rt 257 = some .long := by decide +kernel
theorem mz_257 : mm_isZ 257 = 0 := by decide +kernel
set_option maxRecDepth 4000 in
theorem tb_258 : mm_prog[258]? = some mm_c258 := rfl
theorem mx_258 : mm_mx 258 = 5 := by decide +kernel
theorem mo_258 : mm_ow 258 = 12 := by decide +kernel
theorem ma_258 : ¬ mm_rt 258 = none ∧ ¬ mm_rt 258 = some .long := by decide +kernel
theorem mz_258 : mm_isZ 258 = 0 := by decide +kernel
set_option maxRecDepth 4000 in
theorem tb_259 : mm_prog[259]? = some mm_c259 := rfl
theorem mx_259 : mm_mx 259 = 9 := by decide +kernel
theorem mo_259 : mm_ow 259 = 12 := by decide +kernel
theorem ma_259 : ¬ mm_rt 259 = none ∧ ¬ mm_rt 259 = some .long := by decide +kernel
theorem mz_259 : mm_isZ 259 = 1 := by decide +kernel
set_option maxRecDepth 4000 in
theorem tb_260 : mm_prog[260]? = some mm_c260 := rfl
theorem mx_260 : mm_mx 260 = 5 := by decide +kernel
theorem mo_260 : mm_ow 260 = 12 := by decide +kernel
theorem ma_260 : ¬ mm_rt 260 = none ∧ ¬ mm_rt 260 = some .long := by decide +kernel
theorem mz_260 : mm_isZ 260 = 0 := by decide +kernel
set_option maxRecDepth 4000 in
theorem tb_261 : mm_prog[261]? = some mm_c261 := rfl
theorem mx_261 : mm_mx 261 = 3 := by decide +kernel
theorem mo_261 : mm_ow 261 = 12 := by decide +kernel
theorem ma_261 : ¬ mm_rt 261 = none ∧ ¬ mm_rt 261 = some .long := by decide +kernel
theorem mz_261 : mm_isZ 261 = 1 := by decide +kernel
set_option maxRecDepth 4000 in
theorem tb_262 : mm_prog[262]? = some mm_c262 := rfl
theorem mx_262 : mm_mx 262 = 9 := by decide +kernel
theorem mo_262 : mm_ow 262 = 12 := by decide +kernel
theorem ma_262 : ¬ mm_rt 262 = none ∧ ¬ mm_rt 262 = some .long := by decide +kernel
theorem mz_262 : mm_isZ 262 = 0 := by decide +kernel
set_option maxRecDepth 4000 in
theorem tb_263 : mm_prog[263]? = some mm_c263 := rfl
theorem mx_263 : mm_mx 263 = 5 := by decide +kernel
theorem mo_263 : mm_ow 263 = 12 := by decide +kernel
theorem ma_263 : ¬ mm_rt 263 = none ∧ ¬ mm_rt 263 = some .long := by decide +kernel
theorem mz_263 : mm_isZ 263 = 1 := by decide +kernel
set_option maxRecDepth 4000 in
theorem tb_264 : mm_prog[264]? = some mm_c264 := rfl
theorem mx_264 : mm_mx 264 = 9 := by decide +kernel
theorem mo_264 : mm_ow 264 = 12 := by decide +kernel
theorem ma_264 : ¬ mm_rt 264 = none ∧ ¬ mm_rt 264 = some .long := by decide +kernel
theorem mz_264 : mm_isZ 264 = 0 := by decide +kernel
set_option maxRecDepth 4000 in
theorem tb_265 : mm_prog[265]? = some mm_c265 := rfl
theorem mx_265 : mm_mx 265 = 5 := by decide +kernel
theorem mo_265 : mm_ow 265 = 12 := by decide +kernel
theorem ma_265 : ¬ mm_rt 265 = none ∧ ¬ mm_rt 265 = some .long := by decide +kernel
theorem mz_265 : mm_isZ 265 = 1 := by decide +kernel
set_option maxRecDepth 4000 in
theorem tb_266 : mm_prog[266]? = some mm_c266 := rfl
theorem mx_266 : mm_mx 266 = 3 := by decide +kernel
theorem mo_266 : mm_ow 266 = 12 := by decide +kernel
theorem ma_266 : ¬ mm_rt 266 = none ∧ ¬ mm_rt 266 = some .long := by decide +kernel
theorem mz_266 : mm_isZ 266 = 0 := by decide +kernel
set_option maxRecDepth 4000 in
theorem tb_267 : mm_prog[267]? = some mm_c267 := rfl
theorem mx_267 : mm_mx 267 = 4 := by decide +kernel
theorem mo_267 : mm_ow 267 = 12 := by decide +kernel
theorem ma_267 : ¬ mm_rt 267 = none ∧ ¬ mm_rt 267 = some .long := by decide +kernel
theorem mz_267 : mm_isZ 267 = 0 := by decide +kernel
set_option maxRecDepth 4000 in
theorem tb_268 : mm_prog[268]? = some mm_c268 := rfl
theorem mx_268 : mm_mx 268 = 3 := by decide +kernel
theorem mo_268 : mm_ow 268 = 12 := by decide +kernel
theorem ma_268 : ¬ mm_rt 268 = none ∧ ¬ mm_rt 268 = some .long := by decide +kernel
theorem mz_268 : mm_isZ 268 = 1 := by decide +kernel
set_option maxRecDepth 4000 in
theorem tb_269 : mm_prog[269]? = some mm_c269 := rfl
theorem mx_269 : mm_mx 269 = 3 := by decide +kernel
theorem mo_269 : mm_ow 269 = 12 := by decide +kernel
theorem ma_269 : ¬ mm_rt 269 = none ∧ ¬ mm_rt 269 = some .long := by decide +kernel
theorem mz_269 : mm_isZ 269 = 1 := by decide +kernel
set_option maxRecDepth 4000 in
theorem tb_270 : mm_prog[270]? = some mm_c270 := rfl
theorem mx_270 : mm_mx 270 = 10 := by decide +kernel
theorem mo_270 : mm_ow 270 = 12 := by decide +kernel
theorem ma_270 : ¬ mm_rt 270 = none ∧ ¬ mm_rt 270 = some .long := by decide +kernel
theorem mz_270 : mm_isZ 270 = 1 := by decide +kernel
set_option maxRecDepth 4000 in
theorem tb_271 : mm_prog[271]? = some mm_c271 := rfl
theorem mx_271 : mm_mx 271 = 5 := by decide +kernel
theorem mo_271 : mm_ow 271 = 12 := by decide +kernel
theorem ma_271 : mm_rt 271 = none := by decide +kernel
set_option maxRecDepth 4000 in
theorem tb_272 : mm_prog[272]? = some mm_c272 := rfl
theorem mx_272 : mm_mx 272 = 5 := by decide +kernel
theorem mo_272 : mm_ow 272 = 12 := by decide +kernel
theorem ma_272 : ¬ mm_rt 272 = none ∧ ¬ mm_rt 272 = some .long := by decide +kernel
theorem mz_272 : mm_isZ 272 = 1 := by decide +kernel
set_option maxRecDepth 4000 in
theorem tb_273 : mm_prog[273]? = some mm_c273 := rfl
theorem mx_273 : mm_mx 273 = 10 := by decide +kernel
theorem mo_273 : mm_ow 273 = 12 := by decide +kernel
theorem ma_273 : ¬ mm_rt 273 = none ∧ ¬ mm_rt 273 = some .long := by decide +kernel
theorem mz_273 : mm_isZ 273 = 0 := by decide +kernel
set_option maxRecDepth 4000 in
theorem tb_274 : mm_prog[274]? = some mm_c274 := rfl
theorem mx_274 : mm_mx 274 = 2 := by decide +kernel
theorem mo_274 : mm_ow 274 = 12 := by decide +kernel
theorem ma_274 : ¬ mm_rt 274 = none ∧ ¬ mm_rt 274 = some .long := by decide +kernel
theorem mz_274 : mm_isZ 274 = 0 := by decide +kernel
set_option maxRecDepth 4000 in
theorem tb_275 : mm_prog[275]? = some mm_c275 := rfl
theorem mx_275 : mm_mx 275 = 3 := by decide +kernel
theorem mo_275 : mm_ow 275 = 12 := by decide +kernel
theorem ma_275 : ¬ mm_rt 275 = none ∧ ¬ mm_rt 275 = some .long := by decide +kernel
theorem mz_275 : mm_isZ 275 = 1 := by decide +kernel
set_option maxRecDepth 4000 in
theorem tb_276 : mm_prog[276]? = some mm_c276 := rfl
theorem mx_276 : mm_mx 276 = 2 := by decide +kernel
theorem mo_276 : mm_ow 276 = 12 := by decide +kernel
theorem ma_276 : ¬ mm_rt 276 = none ∧ ¬ mm_rt 276 = some .long := by decide +kernel
theorem mz_276 : mm_isZ 276 = 0 := by decide +kernel
set_option maxRecDepth 4000 in
theorem tb_277 : mm_prog[277]? = some mm_c277 := rfl
theorem mx_277 : mm_mx 277 = 7 := by decide +kernel
theorem mo_277 : mm_ow 277 = 13 := by decide +kernel
theorem ma_277 : ¬ mm_rt 277 = none ∧ ¬ mm_rt 277 = some .long := by decide +kernel
theorem mz_277 : mm_isZ 277 = 1 := by decide +kernel
set_option maxRecDepth 4000 in
theorem tb_278 : mm_prog[278]? = some mm_c278 := rfl
theorem mx_278 : mm_mx 278 = 4 := by decide +kernel
theorem mo_278 : mm_ow 278 = 13 := by decide +kernel
theorem ma_278 : ¬ mm_rt 278 = none ∧ ¬ mm_rt 278 = some .long := by decide +kernel
theorem mz_278 : mm_isZ 278 = 0 := by decide +kernel
set_option maxRecDepth 4000 in
theorem tb_279 : mm_prog[279]? = some mm_c279 := rfl
theorem mx_279 : mm_mx 279 = 1 := by decide +kernel
theorem mo_279 : mm_ow 279 = 14 := by decide +kernel
theorem ma_279 : ¬ mm_rt 279 = none ∧ ¬ mm_rt 279 = some .long := by decide +kernel
theorem mz_279 : mm_isZ 279 = 0 := by decide +kernel
set_option maxRecDepth 4000 in
theorem tb_280 : mm_prog[280]? = some mm_c280 := rfl
theorem mx_280 : mm_mx 280 = 4 := by decide +kernel
theorem mo_280 : mm_ow 280 = 15 := by decide +kernel
theorem ma_280 : mm_rt 280 = none := by decide +kernel
set_option maxRecDepth 4000 in
theorem tb_281 : mm_prog[281]? = some mm_c281 := rfl
theorem mx_281 : mm_mx 281 = 5 := by decide +kernel
theorem mo_281 : mm_ow 281 = 15 := by decide +kernel
theorem ma_281 : mm_rt 281 = none := by decide +kernel
set_option maxRecDepth 4000 in
theorem tb_282 : mm_prog[282]? = some mm_c282 := rfl
theorem mx_282 : mm_mx 282 = 1 := by decide +kernel
theorem mo_282 : mm_ow 282 = 16 := by decide +kernel
theorem ma_282 : ¬ mm_rt 282 = none ∧ ¬ mm_rt 282 = some .long := by decide +kernel
theorem mz_282 : mm_isZ 282 = 0 := by decide +kernel
set_option maxRecDepth 4000 in
theorem tb_283 : mm_prog[283]? = some mm_c283 := rfl
theorem mx_283 : mm_mx 283 = 1 := by decide +kernel
theorem mo_283 : mm_ow 283 = 16 := by decide +kernel
theorem ma_283 : ¬ mm_rt 283 = none ∧ ¬ mm_rt 283 = some .long := by decide +kernel
set_option maxRecDepth 4000 in
theorem tb_284 : mm_prog[284]? = some mm_c284 := rfl
theorem mx_284 : mm_mx 284 = 2 := by decide +kernel
theorem mo_284 : mm_ow 284 = 16 := by decide +kernel
theorem ma_284 : ¬ mm_rt 284 = none ∧ ¬ mm_rt 284 = some .long := by decide +kernel
set_option maxRecDepth 4000 in
theorem tb_285 : mm_prog[285]? = some mm_c285 := rfl
theorem mx_285 : mm_mx 285 = 1 := by decide +kernel
theorem mo_285 : mm_ow 285 = 16 := by decide +kernel
theorem ma_285 : ¬ mm_rt 285 = none ∧ ¬ mm_rt 285 = some .long := by decide +kernel
theorem mz_285 : mm_isZ 285 = 1 := by decide +kernel
set_option maxRecDepth 4000 in
theorem tb_286 : mm_prog[286]? = some mm_c286 := rfl
theorem mx_286 : mm_mx 286 = 2 := by decide +kernel
theorem mo_286 : mm_ow 286 = 16 := by decide +kernel
theorem ma_286 : mm_rt 286 = none := by decide +kernel
set_option maxRecDepth 4000 in
theorem tb_287 : mm_prog[287]? = some mm_c287 := rfl
theorem mx_287 : mm_mx 287 = 2 := by decide +kernel
theorem mo_287 : mm_ow 287 = 16 := by decide +kernel
theorem ma_287 : ¬ mm_rt 287 = none ∧ ¬ mm_rt 287 = some .long := by decide +kernel
theorem mz_287 : mm_isZ 287 = 0 := by decide +kernel
set_option maxRecDepth 4000 in
theorem tb_288 : mm_prog[288]? = some mm_c288 := rfl
theorem mx_288 : mm_mx 288 = 3 := by decide +kernel
theorem mo_288 : mm_ow 288 = 16 := by decide +kernel
theorem ma_288 : ¬ mm_rt 288 = none ∧ ¬ mm_rt 288 = some .long := by decide +kernel
theorem mz_288 : mm_isZ 288 = 0 := by decide +kernel
set_option maxRecDepth 4000 in
theorem tb_289 : mm_prog[289]? = some mm_c289 := rfl
theorem mx_289 : mm_mx 289 = 2 := by decide +kernel
theorem mo_289 : mm_ow 289 = 17 := by decide +kernel
theorem ma_289 : ¬ mm_rt 289 = none ∧ ¬ mm_rt 289 = some .long := by decide +kernel
set_option maxRecDepth 4000 in
theorem tb_290 : mm_prog[290]? = some mm_c290 := rfl
theorem mx_290 : mm_mx 290 = 4 := by decide +kernel
theorem mo_290 : mm_ow 290 = 17 := by decide +kernel
theorem ma_290 : ¬ mm_rt 290 = none ∧ ¬ mm_rt 290 = some .long := by decide +kernel
theorem mz_290 : mm_isZ 290 = 0 := by decide +kernel
set_option maxRecDepth 4000 in
theorem tb_291 : mm_prog[291]? = some mm_c291 := rfl
theorem mx_291 : mm_mx 291 = 1 := by decide +kernel
theorem mo_291 : mm_ow 291 = 17 := by decide +kernel
theorem ma_291 : ¬ mm_rt 291 = none ∧ ¬ mm_rt 291 = some .long := by decide +kernel
theorem mz_291 : mm_isZ 291 = 1 := by decide +kernel
set_option maxRecDepth 4000 in
theorem tb_292 : mm_prog[292]? = some mm_c292 := rfl
theorem mx_292 : mm_mx 292 = 6 := by decide +kernel
theorem mo_292 : mm_ow 292 = 17 := by decide +kernel
theorem ma_292 : ¬ mm_rt 292 = none ∧ ¬ mm_rt 292 = some .long := by decide +kernel
theorem mz_292 : mm_isZ 292 = 0 := by decide +kernel
set_option maxRecDepth 4000 in
theorem tb_293 : mm_prog[293]? = some mm_c293 := rfl
theorem mx_293 : mm_mx 293 = 3 := by decide +kernel
theorem mo_293 : mm_ow 293 = 18 := by decide +kernel
theorem ma_293 : ¬ mm_rt 293 = none ∧ ¬ mm_rt 293 = some .long := by decide +kernel
theorem mz_293 : mm_isZ 293 = 0 := by decide +kernel
