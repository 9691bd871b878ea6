def mm_pz : List (List (Nat × mm_E) × Nat) := [(mm_c0, 0), (mm_c1, 1), (mm_c2, 2), (mm_c3, 3), (mm_c4, 4), (mm_c5, 5), (mm_c6, 6), (mm_c7, 7), (mm_c8, 8), (mm_c9, 9), (mm_c10, 10), (mm_c11, 11), (mm_c12, 12), (mm_c13, 13), (mm_c14, 14), (mm_c15, 15), (mm_c16, 16), (mm_c17, 17), (mm_c18, 18), (mm_c19, 19), (mm_c20, 20), (mm_c21, 21), (mm_c22, 22), (mm_c23, 23), (mm_c24, 24), (mm_c25, 25), (mm_c26, 26), (mm_c27, 27), (mm_c28, 28), (mm_c29, 29), (mm_c30, 30), (mm_c31, 31), (mm_c32, 32), (mm_c33, 33), (mm_c34, 34), (mm_c35, 35), (mm_c36, 36), (mm_c37, 37), (mm_c38, 38), (mm_c39, 39), (mm_c40, 40), (mm_c41, 41), (mm_c42, 42), (mm_c43, 43), (mm_c44, 44), (mm_c45, 45), (mm_c46, 46), (mm_c47, 47), (mm_c48, 48), (mm_c49, 49), (mm_c50, 50), (mm_c51, 51), (mm_c52, 52), (mm_c53, 53), (mm_c54, 54), (mm_c55, 55), (mm_c56, 56), (mm_c57, 57), (mm_c58, 58), (mm_c59, 59), (mm_c60, 60), (mm_c61, 61), (mm_c62, 62), (mm_c63, 63), (mm_c64, 64), (mm_c65, 65), (mm_c66, 66), (mm_c67, 67), (mm_c68, 68), (mm_c69, 69), (mm_c70, 70), (mm_c71, 71), (mm_c72, 72), (mm_c73, 73), (mm_c74, 74), (mm_c75, 75), (mm_c76, 76), (mm_c77, 77), (mm_c78, 78), (mm_c79, 79), (mm_c80, 80), (mm_c81, 81), (mm_c82, 82), (mm_c83, 83), (mm_c84, 84), (mm_c85, 85), (mm_c86, 86), (mm_c87, 87), (mm_c88, 88), (mm_c89, 89), (mm_c90, 90), (mm_c91, 91), (mm_c92, 92), (mm_c93, 93), (mm_c94, 94), (mm_c95, 95), (mm_c96, 96), (mm_c97, 97), (mm_c98, 98), (mm_c99, 99), (mm_c100, 100), (mm_c101, 101), (mm_c102, 102), (mm_c103, 103), (mm_c104, 104), (mm_c105, 105), (mm_c106, 106), (mm_c107, 107), (mm_c108, 108), (mm_c109, 109), (mm_c110, 110), (mm_c111, 111), (mm_c112, 112), (mm_c113, 113), (mm_c114, 114), (mm_c115, 115), (mm_c116, 116), (mm_c117, 117), (mm_c118, 118), (mm_c119, 119), (mm_c120, 120), (mm_c121, 121), (mm_c122, 122), (mm_c123, 123), (mm_c124, 124), (mm_c125, 125), (mm_c126, 126), (mm_c127, 127), (mm_c128, 128), (mm_c129, 129), (mm_c130, 130), (mm_c131, 131), (mm_c132, 132), (mm_c133, 133), (mm_c134, 134), (mm_c135, 135), (mm_c136, 136), (mm_c137, 137), (mm_c138, 138), (mm_c139, 139), (mm_c140, 140), (mm_c141, 141), (mm_c142, 142), (mm_c143, 143), (mm_c144, 144), (mm_c145, 145), (mm_c146, 146), (mm_c147, 147), (mm_c148, 148), (mm_c149, 149), (mm_c150, 150), (mm_c151, 151), (mm_c152, 152), (mm_c153, 153), (mm_c154, 154), (mm_c155, 155), (mm_c156, 156), (mm_c157, 157), (mm_c158, 158), (mm_c159, 159), (mm_c160, 160), (mm_c161, 161), (mm_c162, 162), (mm_c163, 163), (mm_c164, 164), (mm_c165, 165), (mm_c166, 166), (mm_c167, 167), (mm_c168, 168), (mm_c169, 169), (mm_c170, 170), (mm_c171, 171), (mm_c172, 172), (mm_c173, 173), (mm_c174, 174), (mm_c175, 175), (mm_c176, 176), (mm_c177, 177), (mm_c178, 178), (mm_c179, 179), (mm_c180, 180), (mm_c181, 181), (mm_c182, 182), (mm_c183, 183), (mm_c184, 184), (mm_c185, 185), (mm_c186, 186), (mm_c187, 187), (mm_c188, 188), (mm_c189, 189), (mm_c190, 190), (mm_c191, 191), (mm_c192, 192), (mm_c193, 193), (mm_c194, 194), (mm_c195, 195), (mm_c196, 196), (mm_c197, 197), (mm_c198, 198), (mm_c199, 199), (mm_c200, 200), (mm_c201, 201), (mm_c202, 202), (mm_c203, 203), (mm_c204, 204), (mm_c205, 205), (mm_c206, 206), (mm_c207, 207), (mm_c208, 208), (mm_c209, 209), (mm_c210, 210), (mm_c211, 211), (mm_c212, 212), (mm_c213, 213), (mm_c214, 214), (mm_c215, 215), (mm_c216, 216), (mm_c217, 217), (mm_c218, 218), (mm_c219, 219), (mm_c220, 220), (mm_c221, 221), (mm_c222, 222), (mm_c223, 223), (mm_c224, 224), (mm_c225, 225), (mm_c226, 226), (mm_c227, 227), (mm_c228, 228), (mm_c229, 229), (mm_c230, 230), (mm_c231, 231), (mm_c232, 232), (mm_c233, 233), (mm_c234, 234), (mm_c235, 235), (mm_c236, 236), (mm_c237, 237), (mm_c238, 238), (mm_c239, 239), (mm_c240, 240), (mm_c241, 241), (mm_c242, 242), (mm_c243, 243), (mm_c244, 244), (mm_c245, 245), (mm_c246, 246), (mm_c247, 247), (mm_c248, 248), (mm_c249, 249), (mm_c250, 250), (mm_c251, 251), (mm_c252, 252), (mm_c253, 253), (mm_c254, 254), (mm_c255, 255), (mm_c256, 256), (mm_c257, 257), (mm_c258, 258), (mm_c259, 259), (mm_c260, 260), (mm_c261, 261), (mm_c262, 262), (mm_c263, 263), (mm_c264, 264), (mm_c265, 265), (mm_c266, 266), (mm_c267, 267), (mm_c268, 268), (mm_c269, 269), (mm_c270, 270), (mm_c271, 271), (mm_c272, 272), (mm_c273, 273), (mm_c274, 274), (mm_c275, 275), (mm_c276, 276), (mm_c277, 277), (mm_c278, 278), (mm_c279, 279), (mm_c280, 280), (mm_c281, 281), (mm_c282, 282), (mm_c283, 283), (mm_c284, 284), (mm_c285, 285), (mm_c286, 286), (mm_c287, 287), (mm_c288, 288), (mm_c289, 289), (mm_c290, 290), (mm_c291, 291), (mm_c292, 292), (mm_c293, 293)]
set_option maxRecDepth 100000 in
theorem mm_pz_e : List.zipIdx mm_prog = mm_pz := rfl
theorem mm_pz_0 : ∀ x ∈ ([(mm_c0, 0), (mm_c1, 1), (mm_c2, 2), (mm_c3, 3), (mm_c4, 4), (mm_c5, 5), (mm_c6, 6), (mm_c7, 7), (mm_c8, 8), (mm_c9, 9), (mm_c10, 10), (mm_c11, 11), (mm_c12, 12), (mm_c13, 13), (mm_c14, 14), (mm_c15, 15), (mm_c16, 16), (mm_c17, 17), (mm_c18, 18), (mm_c19, 19), (mm_c20, 20), (mm_c21, 21), (mm_c22, 22), (mm_c23, 23), (mm_c24, 24), (mm_c25, 25), (mm_c26, 26), (mm_c27, 27), (mm_c28, 28), (mm_c29, 29), (mm_c30, 30), (mm_c31, 31), (mm_c32, 32), (mm_c33, 33), (mm_c34, 34), (mm_c35, 35), (mm_c36, 36), (mm_c37, 37), (mm_c38, 38), (mm_c39, 39), (mm_c40, 40), (mm_c41, 41), (mm_c42, 42), (mm_c43, 43), (mm_c44, 44), (mm_c45, 45), (mm_c46, 46)] : List (List (Nat × mm_E) × Nat)), x.1.all (mm_chk x.2) = true := List.forall_mem_cons.mpr ⟨mm_chk_0, List.forall_mem_cons.mpr ⟨mm_chk_1, List.forall_mem_cons.mpr ⟨mm_chk_2, List.forall_mem_cons.mpr ⟨mm_chk_3, List.forall_mem_cons.mpr ⟨mm_chk_4, List.forall_mem_cons.mpr ⟨mm_chk_5, List.forall_mem_cons.mpr ⟨mm_chk_6, List.forall_mem_cons.mpr ⟨mm_chk_7, List.forall_mem_cons.mpr ⟨mm_chk_8, List.forall_mem_cons.mpr ⟨mm_chk_9, List.forall_mem_cons.mpr ⟨mm_chk_10, List.forall_mem_cons.mpr ⟨mm_chk_11, List.forall_mem_cons.mpr ⟨mm_chk_12, List.forall_mem_cons.mpr ⟨mm_chk_13, List.forall_mem_cons.mpr ⟨mm_chk_14, List.forall_mem_cons.mpr ⟨mm_chk_15, List.forall_mem_cons.mpr ⟨mm_chk_16, List.forall_mem_cons.mpr ⟨mm_chk_17, List.forall_mem_cons.mpr ⟨mm_chk_18, List.forall_mem_cons.mpr ⟨mm_chk_19, List.forall_mem_cons.mpr ⟨mm_chk_20, List.forall_mem_cons.mpr ⟨mm_chk_21, List.forall_mem_cons.mpr ⟨mm_chk_22, List.forall_mem_cons.mpr ⟨mm_chk_23, List.forall_mem_cons.mpr ⟨mm_chk_24, List.forall_mem_cons.mpr ⟨mm_chk_25, List.forall_mem_cons.mpr ⟨mm_chk_26, List.forall_mem_cons.mpr ⟨mm_chk_27, List.forall_mem_cons.mpr ⟨mm_chk_28, List.forall_mem_cons.mpr ⟨mm_chk_29, List.forall_mem_cons.mpr ⟨mm_chk_30, List.forall_mem_cons.mpr ⟨mm_chk_31, List.forall_mem_cons.mpr ⟨mm_chk_32, List.forall_mem_cons.mpr ⟨mm_chk_33, List.forall_mem_cons.mpr ⟨mm_chk_34, List.forall_mem_cons.mpr ⟨mm_chk_35, List.forall_mem_cons.mpr ⟨mm_chk_36, List.forall_mem_cons.mpr ⟨mm_chk_37, List.forall_mem_cons.mpr ⟨mm_chk_38, List.forall_mem_cons.mpr ⟨mm_chk_39, List.forall_mem_cons.mpr ⟨mm_chk_40, List.forall_mem_cons.mpr ⟨mm_chk_41, List.forall_mem_cons.mpr ⟨mm_chk_42, List.forall_mem_cons.mpr ⟨mm_chk_43, List.forall_mem_cons.mpr ⟨mm_chk_44, List.forall_mem_cons.mpr ⟨mm_chk_45, List.forall_mem_cons.mpr ⟨mm_chk_46, fun _ h => absurd h List.not_mem_nil⟩⟩⟩⟩⟩⟩⟩⟩⟩⟩⟩⟩⟩⟩⟩⟩⟩⟩⟩⟩⟩⟩⟩⟩⟩⟩⟩⟩⟩⟩⟩⟩⟩⟩⟩⟩⟩⟩⟩⟩⟩⟩⟩⟩⟩⟩⟩
theorem mm_pz_1 : ∀ x ∈ ([(mm_c47, 47), (mm_c48, 48), (mm_c49, 49), (mm_c50, 50), (mm_c51, 51), (mm_c52, 52), (mm_c53, 53), (mm_c54, 54), (mm_c55, 55), (mm_c56, 56), (mm_c57, 57), (mm_c58, 58), (mm_c59, 59), (mm_c60, 60), (mm_c61, 61), (mm_c62, 62), (mm_c63, 63), (mm_c64, 64), (mm_c65, 65), (mm_c66, 66), (mm_c67, 67), (mm_c68, 68), (mm_c69, 69), (mm_c70, 70), (mm_c71, 71), (mm_c72, 72), (mm_c73, 73), (mm_c74, 74), (mm_c75, 75), (mm_c76, 76), (mm_c77, 77), (mm_c78, 78), (mm_c79, 79), (mm_c80, 80), (mm_c81, 81), (mm_c82, 82), (mm_c83, 83), (mm_c84, 84), (mm_c85, 85), (mm_c86, 86), (mm_c87, 87), (mm_c88, 88), (mm_c89, 89), (mm_c90, 90), (mm_c91, 91), (mm_c92, 92), (mm_c93, 93)] : List (List (Nat × mm_E) × Nat)), x.1.all (mm_chk x.2) = true := List.forall_mem_cons.mpr ⟨mm_chk_47, List.forall_mem_cons.mpr ⟨mm_chk_48, List.forall_mem_cons.mpr ⟨mm_chk_49, List.forall_mem_cons.mpr ⟨mm_chk_50, List.forall_mem_cons.mpr ⟨mm_chk_51, List.forall_mem_cons.mpr ⟨mm_chk_52, List.forall_mem_cons.mpr ⟨mm_chk_53, List.forall_mem_cons.mpr ⟨mm_chk_54, List.forall_mem_cons.mpr ⟨mm_chk_55, List.forall_mem_cons.mpr ⟨mm_chk_56, List.forall_mem_cons.mpr ⟨mm_chk_57, List.forall_mem_cons.mpr ⟨mm_chk_58, List.forall_mem_cons.mpr ⟨mm_chk_59, List.forall_mem_cons.mpr ⟨mm_chk_60, List.forall_mem_cons.mpr ⟨mm_chk_61, List.forall_mem_cons.mpr ⟨mm_chk_62, List.forall_mem_cons.mpr ⟨mm_chk_63, List.forall_mem_cons.mpr ⟨mm_chk_64, List.forall_mem_cons.mpr ⟨mm_chk_65, List.forall_mem_cons.mpr ⟨mm_chk_66, List.forall_mem_cons.mpr ⟨mm_chk_67, List.forall_mem_cons.mpr ⟨mm_chk_68, List.forall_mem_cons.mpr ⟨mm_chk_69, List.forall_mem_cons.mpr ⟨mm_chk_70, List.forall_mem_cons.mpr ⟨mm_chk_71, List.forall_mem_cons.mpr ⟨mm_chk_72, List.forall_mem_cons.mpr ⟨mm_chk_73, List.forall_mem_cons.mpr ⟨mm_chk_74, List.forall_mem_cons.mpr ⟨mm_chk_75, List.forall_mem_cons.mpr ⟨mm_chk_76, List.forall_mem_cons.mpr ⟨mm_chk_77, List.forall_mem_cons.mpr ⟨mm_chk_78, List.forall_mem_cons.mpr ⟨mm_chk_79, List.forall_mem_cons.mpr ⟨mm_chk_80, List.forall_mem_cons.mpr ⟨mm_chk_81, List.forall_mem_cons.mpr ⟨mm_chk_82, List.forall_mem_cons.mpr ⟨mm_chk_83, List.forall_mem_cons.mpr ⟨mm_chk_84, List.forall_mem_cons.mpr ⟨mm_chk_85, List.forall_mem_cons.mpr ⟨mm_chk_86, List.forall_mem_cons.mpr ⟨mm_chk_87, List.forall_mem_cons.mpr ⟨mm_chk_88, List.forall_mem_cons.mpr ⟨mm_chk_89, List.forall_mem_cons.mpr ⟨mm_chk_90, List.forall_mem_cons.mpr ⟨mm_chk_91, List.forall_mem_cons.mpr ⟨mm_chk_92, List.forall_mem_cons.mpr ⟨mm_chk_93, fun _ h => absurd h List.not_mem_nil⟩⟩⟩⟩⟩⟩⟩⟩⟩⟩⟩⟩⟩⟩⟩⟩⟩⟩⟩⟩⟩⟩⟩⟩⟩⟩⟩⟩⟩⟩⟩⟩⟩⟩⟩⟩⟩⟩⟩⟩⟩⟩⟩⟩⟩⟩⟩
theorem mm_pz_2 : ∀ x ∈ ([(mm_c94, 94), (mm_c95, 95), (mm_c96, 96), (mm_c97, 97), (mm_c98, 98), (mm_c99, 99), (mm_c100, 100), (mm_c101, 101), (mm_c102, 102), (mm_c103, 103), (mm_c104, 104), (mm_c105, 105), (mm_c106, 106), (mm_c107, 107), (mm_c108, 108), (mm_c109, 109), (mm_c110, 110), (mm_c111, 111), (mm_c112, 112), (mm_c113, 113), (mm_c114, 114), (mm_c115, 115), (mm_c116, 116), (mm_c117, 117), (mm_c118, 118), (mm_c119, 119), (mm_c120, 120), (mm_c121, 121), (mm_c122, 122), (mm_c123, 123), (mm_c124, 124), (mm_c125, 125), (mm_c126, 126), (mm_c127, 127), (mm_c128, 128), (mm_c129, 129), (mm_c130, 130), (mm_c131, 131), (mm_c132, 132), (mm_c133, 133), (mm_c134, 134), (mm_c135, 135), (mm_c136, 136), (mm_c137, 137), (mm_c138, 138), (mm_c139, 139), (mm_c140, 140)] : List (List (Nat × mm_E) × Nat)), x.1.all (mm_chk x.2) = true := List.forall_mem_cons.mpr ⟨mm_chk_94, List.forall_mem_cons.mpr ⟨mm_chk_95, List.forall_mem_cons.mpr ⟨mm_chk_96, List.forall_mem_cons.mpr ⟨mm_chk_97, List.forall_mem_cons.mpr ⟨mm_chk_98, List.forall_mem_cons.mpr ⟨mm_chk_99, List.forall_mem_cons.mpr ⟨mm_chk_100, List.forall_mem_cons.mpr ⟨mm_chk_101, List.forall_mem_cons.mpr ⟨mm_chk_102, List.forall_mem_cons.mpr ⟨mm_chk_103, List.forall_mem_cons.mpr ⟨mm_chk_104, List.forall_mem_cons.mpr ⟨mm_chk_105, List.forall_mem_cons.mpr ⟨mm_chk_106, List.forall_mem_cons.mpr ⟨mm_chk_107, List.forall_mem_cons.mpr ⟨mm_chk_108, List.forall_mem_cons.mpr ⟨mm_chk_109, List.forall_mem_cons.mpr ⟨mm_chk_110, List.forall_mem_cons.mpr ⟨mm_chk_111, List.forall_mem_cons.mpr ⟨mm_chk_112, List.forall_mem_cons.mpr ⟨mm_chk_113, List.forall_mem_cons.mpr ⟨mm_chk_114, List.forall_mem_cons.mpr ⟨mm_chk_115, List.forall_mem_cons.mpr ⟨mm_chk_116, List.forall_mem_cons.mpr ⟨mm_chk_117, List.forall_mem_cons.mpr ⟨mm_chk_118, List.forall_mem_cons.mpr ⟨mm_chk_119, List.forall_mem_cons.mpr ⟨mm_chk_120, List.forall_mem_cons.mpr ⟨mm_chk_121, List.forall_mem_cons.mpr ⟨mm_chk_122, List.forall_mem_cons.mpr ⟨mm_chk_123, List.forall_mem_cons.mpr ⟨mm_chk_124, List.forall_mem_cons.mpr ⟨mm_chk_125, List.forall_mem_cons.mpr ⟨mm_chk_126, List.forall_mem_cons.mpr ⟨mm_chk_127, List.forall_mem_cons.mpr ⟨mm_chk_128, List.forall_mem_cons.mpr ⟨mm_chk_129, List.forall_mem_cons.mpr ⟨mm_chk_130, List.forall_mem_cons.mpr ⟨mm_chk_131, List.forall_mem_cons.mpr ⟨mm_chk_132, List.forall_mem_cons.mpr ⟨mm_chk_133, List.forall_mem_cons.mpr ⟨mm_chk_134, List.forall_mem_cons.mpr ⟨mm_chk_135, List.forall_mem_cons.mpr ⟨mm_chk_136, List.forall_mem_cons.mpr ⟨mm_chk_137, List.forall_mem_cons.mpr ⟨mm_chk_138, List.forall_mem_cons.mpr ⟨mm_chk_139, List.forall_mem_cons.mpr ⟨mm_chk_140, fun _ h => absurd h List.not_mem_nil⟩⟩⟩⟩⟩⟩⟩⟩⟩⟩⟩⟩⟩⟩⟩⟩⟩⟩⟩⟩⟩⟩⟩⟩⟩⟩⟩⟩⟩⟩⟩⟩⟩⟩⟩⟩⟩⟩⟩⟩⟩⟩⟩⟩⟩⟩⟩
theorem mm_pz_3 : ∀ x ∈ ([(mm_c141, 141), (mm_c142, 142), (mm_c143, 143), (mm_c144, 144), (mm_c145, 145), (mm_c146, 146), (mm_c147, 147), (mm_c148, 148), (mm_c149, 149), (mm_c150, 150), (mm_c151, 151), (mm_c152, 152), (mm_c153, 153), (mm_c154, 154), (mm_c155, 155), (mm_c156, 156), (mm_c157, 157), (mm_c158, 158), (mm_c159, 159), (mm_c160, 160), (mm_c161, 161), (mm_c162, 162), (mm_c163, 163), (mm_c164, 164), (mm_c165, 165), (mm_c166, 166), (mm_c167, 167), (mm_c168, 168), (mm_c169, 169), (mm_c170, 170), (mm_c171, 171), (mm_c172, 172), (mm_c173, 173), (mm_c174, 174), (mm_c175, 175), (mm_c176, 176), (mm_c177, 177), (mm_c178, 178), (mm_c179, 179), (mm_c180, 180), (mm_c181, 181), (mm_c182, 182), (mm_c183, 183), (mm_c184, 184), (mm_c185, 185), (mm_c186, 186), (mm_c187, 187)] : List (List (Nat × mm_E) × Nat)), x.1.all (mm_chk x.2) = true := List.forall_mem_cons.mpr ⟨mm_chk_141, List.forall_mem_cons.mpr ⟨mm_chk_142, List.forall_mem_cons.mpr ⟨mm_chk_143, List.forall_mem_cons.mpr ⟨mm_chk_144, List.forall_mem_cons.mpr ⟨mm_chk_145, List.forall_mem_cons.mpr ⟨mm_chk_146, List.forall_mem_cons.mpr ⟨mm_chk_147, List.forall_mem_cons.mpr ⟨mm_chk_148, List.forall_mem_cons.mpr ⟨mm_chk_149, List.forall_mem_cons.mpr ⟨mm_chk_150, List.forall_mem_cons.mpr ⟨mm_chk_151, List.forall_mem_cons.mpr ⟨mm_chk_152, List.forall_mem_cons.mpr ⟨mm_chk_153, List.forall_mem_cons.mpr ⟨mm_chk_154, List.forall_mem_cons.mpr ⟨mm_chk_155, List.forall_mem_cons.mpr ⟨mm_chk_156, List.forall_mem_cons.mpr ⟨mm_chk_157, List.forall_mem_cons.mpr ⟨mm_chk_158, List.forall_mem_cons.mpr ⟨mm_chk_159, List.forall_mem_cons.mpr ⟨mm_chk_160, List.forall_mem_cons.mpr ⟨mm_chk_161, List.forall_mem_cons.mpr ⟨mm_chk_162, List.forall_mem_cons.mpr ⟨mm_chk_163, List.forall_mem_cons.mpr ⟨mm_chk_164, List.forall_mem_cons.mpr ⟨mm_chk_165, List.forall_mem_cons.mpr ⟨mm_chk_166, List.forall_mem_cons.mpr ⟨mm_chk_167, List.forall_mem_cons.mpr ⟨mm_chk_168, List.forall_mem_cons.mpr ⟨mm_chk_169, List.forall_mem_cons.mpr ⟨mm_chk_170, List.forall_mem_cons.mpr ⟨mm_chk_171, List.forall_mem_cons.mpr ⟨mm_chk_172, List.forall_mem_cons.mpr ⟨mm_chk_173, List.forall_mem_cons.mpr ⟨mm_chk_174, List.forall_mem_cons.mpr ⟨mm_chk_175, List.forall_mem_cons.mpr ⟨mm_chk_176, List.forall_mem_cons.mpr ⟨mm_chk_177, List.forall_mem_cons.mpr ⟨mm_chk_178, List.forall_mem_cons.mpr ⟨mm_chk_179, List.forall_mem_cons.mpr ⟨mm_chk_180, List.forall_mem_cons.mpr ⟨mm_chk_181, List.forall_mem_cons.mpr ⟨mm_chk_182, List.forall_mem_cons.mpr ⟨mm_chk_183, List.forall_mem_cons.mpr ⟨mm_chk_184, List.forall_mem_cons.mpr ⟨mm_chk_185, List.forall_mem_cons.mpr ⟨mm_chk_186, List.forall_mem_cons.mpr ⟨mm_chk_187, fun _ h => absurd h List.not_mem_nil⟩⟩⟩⟩⟩⟩⟩⟩⟩⟩⟩⟩⟩⟩⟩⟩⟩⟩⟩⟩⟩⟩⟩⟩⟩⟩⟩⟩⟩⟩⟩⟩⟩⟩⟩⟩⟩⟩⟩⟩⟩⟩⟩⟩⟩⟩⟩
theorem mm_pz_4 : ∀ x ∈ ([(mm_c188, 188), (mm_c189, 189), (mm_c190, 190), (mm_c191, 191), (mm_c192, 192), (mm_c193, 193), (mm_c194, 194), (mm_c195, 195), (mm_c196, 196), (mm_c197, 197), (mm_c198, 198), (mm_c199, 199), (mm_c200, 200), (mm_c201, 201), (mm_c202, 202), (mm_c203, 203), (mm_c204, 204), (mm_c205, 205), (mm_c206, 206), (mm_c207, 207), (mm_c208, 208), (mm_c209, 209), (mm_c210, 210), (mm_c211, 211), (mm_c212, 212), (mm_c213, 213), (mm_c214, 214), (mm_c215, 215), (mm_c216, 216), (mm_c217, 217), (mm_c218, 218), (mm_c219, 219), (mm_c220, 220), (mm_c221, 221), (mm_c222, 222), (mm_c223, 223), (mm_c224, 224), (mm_c225, 225), (mm_c226, 226), (mm_c227, 227), (mm_c228, 228), (mm_c229, 229), (mm_c230, 230), (mm_c231, 231), (mm_c232, 232), (mm_c233, 233), (mm_c234, 234)] : List (List (Nat × mm_E) × Nat)), x.1.all (mm_chk x.2) = true := List.forall_mem_cons.mpr ⟨mm_chk_188, List.forall_mem_cons.mpr ⟨mm_chk_189, List.forall_mem_cons.mpr ⟨mm_chk_190, List.forall_mem_cons.mpr ⟨mm_chk_191, List.forall_mem_cons.mpr ⟨mm_chk_192, List.forall_mem_cons.mpr ⟨mm_chk_193, List.forall_mem_cons.mpr ⟨mm_chk_194, List.forall_mem_cons.mpr ⟨mm_chk_195, List.forall_mem_cons.mpr ⟨mm_chk_196, List.forall_mem_cons.mpr ⟨mm_chk_197, List.forall_mem_cons.mpr ⟨mm_chk_198, List.forall_mem_cons.mpr ⟨mm_chk_199, List.forall_mem_cons.mpr ⟨mm_chk_200, List.forall_mem_cons.mpr ⟨mm_chk_201, List.forall_mem_cons.mpr ⟨mm_chk_202, List.forall_mem_cons.mpr ⟨mm_chk_203, List.forall_mem_cons.mpr ⟨mm_chk_204, List.forall_mem_cons.mpr ⟨mm_chk_205, List.forall_mem_cons.mpr ⟨mm_chk_206, List.forall_mem_cons.mpr ⟨mm_chk_207, List.forall_mem_cons.mpr ⟨mm_chk_208, List.forall_mem_cons.mpr ⟨mm_chk_209, List.forall_mem_cons.mpr ⟨mm_chk_210, List.forall_mem_cons.mpr ⟨mm_chk_211, List.forall_mem_cons.mpr ⟨mm_chk_212, List.forall_mem_cons.mpr ⟨mm_chk_213, List.forall_mem_cons.mpr ⟨mm_chk_214, List.forall_mem_cons.mpr ⟨mm_chk_215, List.forall_mem_cons.mpr ⟨mm_chk_216, List.forall_mem_cons.mpr ⟨mm_chk_217, List.forall_mem_cons.mpr ⟨mm_chk_218, List.forall_mem_cons.mpr ⟨mm_chk_219, List.forall_mem_cons.mpr ⟨mm_chk_220, List.forall_mem_cons.mpr ⟨mm_chk_221, List.forall_mem_cons.mpr ⟨mm_chk_222, List.forall_mem_cons.mpr ⟨mm_chk_223, List.forall_mem_cons.mpr ⟨mm_chk_224, List.forall_mem_cons.mpr ⟨mm_chk_225, List.forall_mem_cons.mpr ⟨mm_chk_226, List.forall_mem_cons.mpr ⟨mm_chk_227, List.forall_mem_cons.mpr ⟨mm_chk_228, List.forall_mem_cons.mpr ⟨mm_chk_229, List.forall_mem_cons.mpr ⟨mm_chk_230, List.forall_mem_cons.mpr ⟨mm_chk_231, List.forall_mem_cons.mpr ⟨mm_chk_232, List.forall_mem_cons.mpr ⟨mm_chk_233, List.forall_mem_cons.mpr ⟨mm_chk_234, fun _ h => absurd h List.not_mem_nil⟩⟩⟩⟩⟩⟩⟩⟩⟩⟩⟩⟩⟩⟩⟩⟩⟩⟩⟩⟩⟩⟩⟩⟩⟩⟩⟩⟩⟩⟩⟩⟩⟩⟩⟩⟩⟩⟩⟩⟩⟩⟩⟩⟩⟩⟩⟩
theorem mm_pz_5 : ∀ x ∈ ([(mm_c235, 235), (mm_c236, 236), (mm_c237, 237), (mm_c238, 238), (mm_c239, 239), (mm_c240, 240), (mm_c241, 241), (mm_c242, 242), (mm_c243, 243), (mm_c244, 244), (mm_c245, 245), (mm_c246, 246), (mm_c247, 247), (mm_c248, 248), (mm_c249, 249), (mm_c250, 250), (mm_c251, 251), (mm_c252, 252), (mm_c253, 253), (mm_c254, 254), (mm_c255, 255), (mm_c256, 256), (mm_c257, 257), (mm_c258, 258), (mm_c259, 259), (mm_c260, 260), (mm_c261, 261), (mm_c262, 262), (mm_c263, 263), (mm_c264, 264), (mm_c265, 265), (mm_c266, 266), (mm_c267, 267), (mm_c268, 268), (mm_c269, 269), (mm_c270, 270), (mm_c271, 271), (mm_c272, 272), (mm_c273, 273), (mm_c274, 274), (mm_c275, 275), (mm_c276, 276), (mm_c277, 277), (mm_c278, 278), (mm_c279, 279), (mm_c280, 280), (mm_c281, 281)] : List (List (Nat × mm_E) × Nat)), x.1.all (mm_chk x.2) = true := List.forall_mem_cons.mpr ⟨mm_chk_235, List.forall_mem_cons.mpr ⟨mm_chk_236, List.forall_mem_cons.mpr ⟨mm_chk_237, List.forall_mem_cons.mpr ⟨mm_chk_238, List.forall_mem_cons.mpr ⟨mm_chk_239, List.forall_mem_cons.mpr ⟨mm_chk_240, List.forall_mem_cons.mpr ⟨mm_chk_241, List.forall_mem_cons.mpr ⟨mm_chk_242, List.forall_mem_cons.mpr ⟨mm_chk_243, List.forall_mem_cons.mpr ⟨mm_chk_244, List.forall_mem_cons.mpr ⟨mm_chk_245, List.forall_mem_cons.mpr ⟨mm_chk_246, List.forall_mem_cons.mpr ⟨mm_chk_247, List.forall_mem_cons.mpr ⟨mm_chk_248, List.forall_mem_cons.mpr ⟨mm_chk_249, List.forall_mem_cons.mpr ⟨mm_chk_250, List.forall_mem_cons.mpr ⟨mm_chk_251, List.forall_mem_cons.mpr ⟨mm_chk_252, List.forall_mem_cons.mpr ⟨mm_chk_253, List.forall_mem_cons.mpr ⟨mm_chk_254, List.forall_mem_cons.mpr ⟨mm_chk_255, List.forall_mem_cons.mpr ⟨mm_chk_256, List.forall_mem_cons.mpr ⟨mm_chk_257, List.forall_mem_cons.mpr ⟨mm_chk_258, List.forall_mem_cons.mpr ⟨mm_chk_259, List.forall_mem_cons.mpr ⟨mm_chk_260, List.forall_mem_cons.mpr ⟨mm_chk_261, List.forall_mem_cons.mpr ⟨mm_chk_262, List.forall_mem_cons.mpr ⟨mm_chk_263, List.forall_mem_cons.mpr ⟨mm_chk_264, List.forall_mem_cons.mpr ⟨mm_chk_265, List.forall_mem_cons.mpr ⟨mm_chk_266, List.forall_mem_cons.mpr ⟨mm_chk_267, List.forall_mem_cons.mpr ⟨mm_chk_268, List.forall_mem_cons.mpr ⟨mm_chk_269, List.forall_mem_cons.mpr ⟨mm_chk_270, List.forall_mem_cons.mpr ⟨mm_chk_271, List.forall_mem_cons.mpr ⟨mm_chk_272, List.forall_mem_cons.mpr ⟨mm_chk_273, List.forall_mem_cons.mpr ⟨mm_chk_274, List.forall_mem_cons.mpr ⟨mm_chk_275, List.forall_mem_cons.mpr ⟨mm_chk_276, List.forall_mem_cons.mpr ⟨mm_chk_277, List.forall_mem_cons.mpr ⟨mm_chk_278, List.forall_mem_cons.mpr ⟨mm_chk_279, List.forall_mem_cons.mpr ⟨mm_chk_280, List.forall_mem_cons.mpr ⟨mm_chk_281, fun _ h => absurd h List.not_mem_nil⟩⟩⟩⟩⟩⟩⟩⟩⟩⟩⟩⟩⟩⟩⟩⟩⟩⟩⟩⟩⟩⟩⟩⟩⟩⟩⟩⟩⟩⟩⟩⟩⟩⟩⟩⟩⟩⟩⟩⟩⟩⟩⟩⟩⟩⟩⟩
theorem mm_pz_6 : ∀ x ∈ ([(mm_c282, 282), (mm_c283, 283), (mm_c284, 284), (mm_c285, 285), (mm_c286, 286), (mm_c287, 287), (mm_c288, 288), (mm_c289, 289), (mm_c290, 290), (mm_c291, 291), (mm_c292, 292), (mm_c293, 293)] : List (List (Nat × mm_E) × Nat)), x.1.all (mm_chk x.2) = true := List.forall_mem_cons.mpr ⟨mm_chk_282, List.forall_mem_cons.mpr ⟨mm_chk_283, List.forall_mem_cons.mpr ⟨mm_chk_284, List.forall_mem_cons.mpr ⟨mm_chk_285, List.forall_mem_cons.mpr ⟨mm_chk_286, List.forall_mem_cons.mpr ⟨mm_chk_287, List.forall_mem_cons.mpr ⟨mm_chk_288, List.forall_mem_cons.mpr ⟨mm_chk_289, List.forall_mem_cons.mpr ⟨mm_chk_290, List.forall_mem_cons.mpr ⟨mm_chk_291, List.forall_mem_cons.mpr ⟨mm_chk_292, List.forall_mem_cons.mpr ⟨mm_chk_293, fun _ h => absurd h List.not_mem_nil⟩⟩⟩⟩⟩⟩⟩⟩⟩⟩⟩⟩
set_option maxRecDepth 100000 in
theorem mm_pz_ok : ∀ x ∈ mm_pz, x.1.all (mm_chk x.2) = true := List.forall_mem_append.mpr ⟨mm_pz_0, List.forall_mem_append.mpr ⟨mm_pz_1, List.forall_mem_append.mpr ⟨mm_pz_2, List.forall_mem_append.mpr ⟨mm_pz_3, List.forall_mem_append.mpr ⟨mm_pz_4, List.forall_mem_append.mpr ⟨mm_pz_5, mm_pz_6⟩⟩⟩⟩⟩⟩
def mm_iln : Instr → Nat
  | .bipush _ => 2
  | .sipush _ => 3
  | .ldc _ => 2
  | .ldc_w _ => 3
  | .ldc2_w _ => 3
  | .iload _ => 2
  | .lload _ => 2
  | .aload _ => 2
  | .istore _ => 2
  | .lstore _ => 2
  | .astore _ => 2
  | .iinc _ _ => 3
  | .ifCond _ _ => 3
  | .if_icmp _ _ => 3
  | .goto _ => 3
  | .getstatic _ => 3
  | .getfield _ => 3
  | .putfield _ => 3
  | .invokestatic _ => 3
  | .invokevirtual _ => 3
  | .invokespecial _ => 3
  | .new _ => 3
  | .newarray _ => 2
  | .anewarray _ => 3
  | .multianewarray _ _ => 4
  | .tableswitch _ _ _ _ => 0
  | .lookupswitch _ _ => 0
  | _ => 1
def mm_lnok (e : mm_E) : Bool := decide (mm_iln e.1 = 0) || decide (e.2.1 = mm_iln e.1)
set_option maxRecDepth 100000 in
theorem mm_lnk : mm_prog.all (fun t => t.all (fun x => mm_lnok x.2)) = true := by decide +kernel
theorem mm_lk_mem : ∀ (t : List (Nat × mm_E)) (pc : Nat) (e : mm_E), mm_lk t pc = some e → (pc, e) ∈ t
  | [], _, _, h => by cases h
  | q :: r, pc, e, h => by
    unfold mm_lk at h
    split at h
    · next hq =>
      cases h
      have e1 : q.1 = pc := Nat.eq_of_beq_eq_true hq
      subst e1
      exact List.mem_cons_self
    · exact List.mem_cons_of_mem _ (mm_lk_mem r pc e h)
theorem mm_at_ok {j pc : Nat} {e : mm_E} (h : mm_at j pc = some e) : decode (mm_b j) pc = .ok (e.1, e.2.1) ∧ mm_ok j pc e = true ∧ mm_lnok e = true := by
  unfold mm_at at h
  split at h
  · next t ht =>
    have hm := mm_lk_mem t pc e h
    have hz : (t, j) ∈ mm_pz := by
      rw [← mm_pz_e]
      exact List.mem_zipIdx_iff_getElem?.mpr ht
    have h1 := List.all_eq_true.mp (mm_pz_ok _ hz) (pc, e) hm
    unfold mm_chk at h1
    simp only [Bool.and_eq_true, decide_eq_true_eq] at h1
    have h2 := List.all_eq_true.mp mm_lnk t (List.mem_of_getElem? ht)
    have h3 := List.all_eq_true.mp h2 (pc, e) hm
    exact ⟨h1.1, h1.2, h3⟩
  · cases h
theorem mm_dc {j pc : Nat} {i : Instr} {n : Nat} {r : Nat × Nat × Int} (h : mm_at j pc = some (i, n, r)) (hi : ¬ mm_iln i = 0) : decode (mm_b j) pc = .ok (i, mm_iln i) := by
  obtain ⟨h1, -, h3⟩ := mm_at_ok h
  unfold mm_lnok at h3
  simp only [Bool.or_eq_true, decide_eq_true_eq] at h3
  rw [← h3.resolve_left hi]
  exact h1
section SO6
variable {p : Program} {l : Launch} {e : Env} {R : Room} {s : State} {mid : MethodId} {args : Array Value} {below : List Frame} {meth : Method} {c : Code} {Q : State → Prop} {D : va_G} {cA : Nat → ClassId} {N0 : Nat} {sp : Nat → Nat} {j nb sb : Nat}
variable {H : Heap} {locs : List Loc} {cells slots pc : Nat} {ls : Array Slot} {L : mm_L} {S : List Value} {m : mm_M} {q : Nat × mm_L × List Value × mm_M}
theorem mm_call_ne {k n : Nat} {S : List Value} {q : Nat × mm_L × List Value × mm_M} {pc : Nat} : ¬ mm_call k n pc S = some (.inl q) := by
  unfold mm_call
  split <;> simp
theorem mm_inv_pr {k n : Nat} {kd : Int} {pc : Nat} {L : mm_L} {S : List Value} {m : mm_M} {q : Nat × mm_L × List Value × mm_M} (h : mm_inv k n kd pc L S m = some (.inl q)) : ¬ kd = 0 ∧ ¬ kd = 1 ∧ ¬ kd = 20 ∧ ¬ kd = 2 ∧ ¬ kd = 3 ∧ ¬ kd = 5 ∧ mm_prim kd pc L S m = some (.inl q) := by
  unfold mm_inv at h
  split at h
  · exact absurd h mm_call_ne
  · next h1 =>
    split at h
    · split at h
      · exact absurd h mm_call_ne
      · cases h
    · next h2 =>
      split at h
      · split at h
        · exact absurd h mm_call_ne
        · cases h
      · next h3 => exact ⟨fun z => h1 (Or.inl z), fun z => h1 (Or.inr (Or.inl z)), fun z => h1 (Or.inr (Or.inr z)), h2, fun z => h3 (Or.inl z), fun z => h3 (Or.inr z), h⟩
theorem mm_inv_st {ix r1 r2 : Nat} {r3 : Int} (C : mm_Cx p s mid args meth c R j D cA N0 sp nb) (hd : decode (mm_b j) pc = .ok (.invokestatic ix, 3)) (hok : mm_ok j pc (.invokestatic ix, 3, r1, r2, r3) = true) (hst : mm_inv r1 r2 r3 (pc + 3) L S m = some (.inl q)) (hrm : mm_nc q.2.2.2 ≤ nb + R.cells) (hrs : mm_ns q.2.2.2 ≤ sb + R.slots) (hH : mm_Hp D cA N0 sp m s H) (hS : va_S (fun x => N0 ≤ x) s.heap H locs) (hL : mm_LS (mm_ad N0 sp) (mm_mx j) ls L) (hc : mm_nc m = nb + cells) (hsl : mm_ns m = sb + slots) (kk : mm_KK p l e R s mid args below meth c Q D cA N0 sp j nb sb q) : W p l e R s mid args below meth c H locs cells slots Q (F0 mid pc ls (S.map (mm_tr (mm_ad N0 sp)))) := by
  obtain ⟨g0, g1, g20, g2, g3, g5, hpr⟩ := mm_inv_pr hst
  by_cases h10 : r3 = 10
  · subst h10
    exact so_mmax C hd (by simpa [mm_ok] using hok) hpr hrm hrs hH hS hL hc hsl kk
  by_cases h11 : r3 = 11
  · subst h11
    exact so_mmin C hd (by simpa [mm_ok] using hok) hpr hrm hrs hH hS hL hc hsl kk
  by_cases h12 : r3 = 12
  · subst h12
    exact so_mabs C hd (by simpa [mm_ok] using hok) hpr hrm hrs hH hS hL hc hsl kk
  by_cases h13 : r3 = 13
  · subst h13
    exact so_acopy C hd (by simpa [mm_ok] using hok) hpr hrm hrs hH hS hL hc hsl kk
  exfalso
  unfold mm_prim at hpr
  have hne : ¬ r3 = 4 ∧ ¬ r3 = 10 ∧ ¬ r3 = 11 ∧ ¬ r3 = 12 ∧ ¬ r3 = 13 := by
    first
      | (exfalso; simp [mm_ok, g0, g1, g20, g2, g3, g5] at hok; done)
      | (simp [mm_ok, g0, g1, g20, g2, g3, g5] at hok; refine ⟨?_, ?_, ?_, ?_, ?_⟩ <;> omega)
  obtain ⟨n1, n2, n3, n4, n5⟩ := hne
  rw [if_neg n1, if_neg n2, if_neg n3, if_neg n4, if_neg n5] at hpr
  cases hpr
theorem mm_inv_vi {ix r1 r2 : Nat} {r3 : Int} (C : mm_Cx p s mid args meth c R j D cA N0 sp nb) (hd : decode (mm_b j) pc = .ok (.invokevirtual ix, 3)) (hok : mm_ok j pc (.invokevirtual ix, 3, r1, r2, r3) = true) (hst : mm_inv r1 r2 r3 (pc + 3) L S m = some (.inl q)) (hrm : mm_nc q.2.2.2 ≤ nb + R.cells) (hrs : mm_ns q.2.2.2 ≤ sb + R.slots) (hH : mm_Hp D cA N0 sp m s H) (hS : va_S (fun x => N0 ≤ x) s.heap H locs) (hL : mm_LS (mm_ad N0 sp) (mm_mx j) ls L) (hc : mm_nc m = nb + cells) (hsl : mm_ns m = sb + slots) (kk : mm_KK p l e R s mid args below meth c Q D cA N0 sp j nb sb q) : W p l e R s mid args below meth c H locs cells slots Q (F0 mid pc ls (S.map (mm_tr (mm_ad N0 sp)))) := by
  obtain ⟨g0, g1, g20, g2, g3, g5, hpr⟩ := mm_inv_pr hst
  exfalso
  unfold mm_prim at hpr
  have hne : ¬ r3 = 4 ∧ ¬ r3 = 10 ∧ ¬ r3 = 11 ∧ ¬ r3 = 12 ∧ ¬ r3 = 13 := by
    first
      | (exfalso; simp [mm_ok, g0, g1, g20, g2, g3, g5] at hok; done)
      | (simp [mm_ok, g0, g1, g20, g2, g3, g5] at hok; refine ⟨?_, ?_, ?_, ?_, ?_⟩ <;> omega)
  obtain ⟨n1, n2, n3, n4, n5⟩ := hne
  rw [if_neg n1, if_neg n2, if_neg n3, if_neg n4, if_neg n5] at hpr
  cases hpr
theorem mm_inv_sp {ix r1 r2 : Nat} {r3 : Int} (C : mm_Cx p s mid args meth c R j D cA N0 sp nb) (hd : decode (mm_b j) pc = .ok (.invokespecial ix, 3)) (hok : mm_ok j pc (.invokespecial ix, 3, r1, r2, r3) = true) (hst : mm_inv r1 r2 r3 (pc + 3) L S m = some (.inl q)) (hrm : mm_nc q.2.2.2 ≤ nb + R.cells) (hrs : mm_ns q.2.2.2 ≤ sb + R.slots) (hH : mm_Hp D cA N0 sp m s H) (hS : va_S (fun x => N0 ≤ x) s.heap H locs) (hL : mm_LS (mm_ad N0 sp) (mm_mx j) ls L) (hc : mm_nc m = nb + cells) (hsl : mm_ns m = sb + slots) (kk : mm_KK p l e R s mid args below meth c Q D cA N0 sp j nb sb q) : W p l e R s mid args below meth c H locs cells slots Q (F0 mid pc ls (S.map (mm_tr (mm_ad N0 sp)))) := by
  obtain ⟨g0, g1, g20, g2, g3, g5, hpr⟩ := mm_inv_pr hst
  by_cases h4 : r3 = 4
  · subst h4
    exact so_objinit C hd (by simpa [mm_ok] using hok) hpr hrm hrs hH hS hL hc hsl kk
  exfalso
  unfold mm_prim at hpr
  have hne : ¬ r3 = 4 ∧ ¬ r3 = 10 ∧ ¬ r3 = 11 ∧ ¬ r3 = 12 ∧ ¬ r3 = 13 := by
    first
      | (exfalso; simp [mm_ok, g0, g1, g20, g2, g3, g5] at hok; done)
      | (simp [mm_ok, g0, g1, g20, g2, g3, g5] at hok; refine ⟨?_, ?_, ?_, ?_, ?_⟩ <;> omega)
  obtain ⟨n1, n2, n3, n4, n5⟩ := hne
  rw [if_neg n1, if_neg n2, if_neg n3, if_neg n4, if_neg n5] at hpr
  cases hpr
theorem mm_one {e9 : mm_E} (C : mm_Cx p s mid args meth c R j D cA N0 sp nb) (he : mm_at j pc = some e9) (hst : mm_step j e9 pc L S m = some (.inl q)) (hrm : mm_nc q.2.2.2 ≤ nb + R.cells) (hrs : mm_ns q.2.2.2 ≤ sb + R.slots) (hH : mm_Hp D cA N0 sp m s H) (hS : va_S (fun x => N0 ≤ x) s.heap H locs) (hL : mm_LS (mm_ad N0 sp) (mm_mx j) ls L) (hc : mm_nc m = nb + cells) (hsl : mm_ns m = sb + slots) (kk : mm_KK p l e R s mid args below meth c Q D cA N0 sp j nb sb q) : W p l e R s mid args below meth c H locs cells slots Q (F0 mid pc ls (S.map (mm_tr (mm_ad N0 sp)))) := by
  obtain ⟨i, n, r1, r2, r3⟩ := e9
  obtain ⟨hdc, hok, -⟩ := mm_at_ok he
  cases i
  case iconst => exact so_iconst C (mm_dc he (fun z => by cases z)) hst hH hS hL hc hsl kk
  case bipush => exact so_bipush C (mm_dc he (fun z => by cases z)) hst hH hS hL hc hsl kk
  case sipush => exact so_sipush C (mm_dc he (fun z => by cases z)) hst hH hS hL hc hsl kk
  case lconst => exact so_lconst C (mm_dc he (fun z => by cases z)) hst hH hS hL hc hsl kk
  case iload_n => exact so_iload_n C (mm_dc he (fun z => by cases z)) hst hH hS hL hc hsl kk
  case istore_n => exact so_istore_n C (mm_dc he (fun z => by cases z)) hst hH hS hL hc hsl kk
  case iload => exact so_iload C (mm_dc he (fun z => by cases z)) hst hH hS hL hc hsl kk
  case istore => exact so_istore C (mm_dc he (fun z => by cases z)) hst hH hS hL hc hsl kk
  case lload_n => exact so_lload_n C (mm_dc he (fun z => by cases z)) hst hH hS hL hc hsl kk
  case lstore_n => exact so_lstore_n C (mm_dc he (fun z => by cases z)) hst hH hS hL hc hsl kk
  case lload => exact so_lload C (mm_dc he (fun z => by cases z)) hst hH hS hL hc hsl kk
  case lstore => exact so_lstore C (mm_dc he (fun z => by cases z)) hst hH hS hL hc hsl kk
  case aload_n => exact so_aload_n C (mm_dc he (fun z => by cases z)) hst hH hS hL hc hsl kk
  case astore_n => exact so_astore_n C (mm_dc he (fun z => by cases z)) hst hH hS hL hc hsl kk
  case aload => exact so_aload C (mm_dc he (fun z => by cases z)) hst hH hS hL hc hsl kk
  case astore => exact so_astore C (mm_dc he (fun z => by cases z)) hst hH hS hL hc hsl kk
  case iinc => exact so_iinc C (mm_dc he (fun z => by cases z)) hst hH hS hL hc hsl kk
  case iadd => exact so_iadd C (mm_dc he (fun z => by cases z)) hst hH hS hL hc hsl kk
  case isub => exact so_isub C (mm_dc he (fun z => by cases z)) hst hH hS hL hc hsl kk
  case imul => exact so_imul C (mm_dc he (fun z => by cases z)) hst hH hS hL hc hsl kk
  case iand => exact so_iand C (mm_dc he (fun z => by cases z)) hst hH hS hL hc hsl kk
  case ior => exact so_ior C (mm_dc he (fun z => by cases z)) hst hH hS hL hc hsl kk
  case ixor => exact so_ixor C (mm_dc he (fun z => by cases z)) hst hH hS hL hc hsl kk
  case ishl => exact so_ishl C (mm_dc he (fun z => by cases z)) hst hH hS hL hc hsl kk
  case ishr => exact so_ishr C (mm_dc he (fun z => by cases z)) hst hH hS hL hc hsl kk
  case iushr => exact so_iushr C (mm_dc he (fun z => by cases z)) hst hH hS hL hc hsl kk
  case idiv => exact so_idiv C (mm_dc he (fun z => by cases z)) hst hH hS hL hc hsl kk
  case irem => exact so_irem C (mm_dc he (fun z => by cases z)) hst hH hS hL hc hsl kk
  case ladd => exact so_ladd C (mm_dc he (fun z => by cases z)) hst hH hS hL hc hsl kk
  case lsub => exact so_lsub C (mm_dc he (fun z => by cases z)) hst hH hS hL hc hsl kk
  case lmul => exact so_lmul C (mm_dc he (fun z => by cases z)) hst hH hS hL hc hsl kk
  case land => exact so_land C (mm_dc he (fun z => by cases z)) hst hH hS hL hc hsl kk
  case lor => exact so_lor C (mm_dc he (fun z => by cases z)) hst hH hS hL hc hsl kk
  case ldiv => exact so_ldiv C (mm_dc he (fun z => by cases z)) hst hH hS hL hc hsl kk
  case lrem => exact so_lrem C (mm_dc he (fun z => by cases z)) hst hH hS hL hc hsl kk
  case lshl => exact so_lshl C (mm_dc he (fun z => by cases z)) hst hH hS hL hc hsl kk
  case lshr => exact so_lshr C (mm_dc he (fun z => by cases z)) hst hH hS hL hc hsl kk
  case lushr => exact so_lushr C (mm_dc he (fun z => by cases z)) hst hH hS hL hc hsl kk
  case lcmp => exact so_lcmp C (mm_dc he (fun z => by cases z)) hst hH hS hL hc hsl kk
  case ineg => exact so_ineg C (mm_dc he (fun z => by cases z)) hst hH hS hL hc hsl kk
  case i2l => exact so_i2l C (mm_dc he (fun z => by cases z)) hst hH hS hL hc hsl kk
  case l2i => exact so_l2i C (mm_dc he (fun z => by cases z)) hst hH hS hL hc hsl kk
  case i2b => exact so_i2b C (mm_dc he (fun z => by cases z)) hst hH hS hL hc hsl kk
  case i2c => exact so_i2c C (mm_dc he (fun z => by cases z)) hst hH hS hL hc hsl kk
  case dup => exact so_dup C (mm_dc he (fun z => by cases z)) hst hH hS hL hc hsl kk
  case dup2 => exact so_dup2 C (mm_dc he (fun z => by cases z)) hst hH hS hL hc hsl kk
  case pop => exact so_pop C (mm_dc he (fun z => by cases z)) hst hH hS hL hc hsl kk
  case iaload => exact so_iaload C (mm_dc he (fun z => by cases z)) hst hH hS hL hc hsl kk
  case laload => exact so_laload C (mm_dc he (fun z => by cases z)) hst hH hS hL hc hsl kk
  case baload => exact so_baload C (mm_dc he (fun z => by cases z)) hst hH hS hL hc hsl kk
  case caload => exact so_caload C (mm_dc he (fun z => by cases z)) hst hH hS hL hc hsl kk
  case aaload => exact so_aaload C (mm_dc he (fun z => by cases z)) hst hH hS hL hc hsl kk
  case iastore => exact so_iastore C (mm_dc he (fun z => by cases z)) hst hH hS hL hc hsl kk
  case bastore => exact so_bastore C (mm_dc he (fun z => by cases z)) hst hH hS hL hc hsl kk
  case castore => exact so_castore C (mm_dc he (fun z => by cases z)) hst hH hS hL hc hsl kk
  case lastore => exact so_lastore C (mm_dc he (fun z => by cases z)) hst hH hS hL hc hsl kk
  case aastore => exact so_aastore C (mm_dc he (fun z => by cases z)) hst hH hS hL hc hsl kk
  case arraylength => exact so_arraylength C (mm_dc he (fun z => by cases z)) hst hH hS hL hc hsl kk
  case ldc ix => exact so_ldc C (mm_dc he (fun z => by cases z)) hok hst hH hS hL hc hsl kk
  case ldc_w ix =>
    refine so_ldc_w C (mm_dc he (fun z => by cases z)) (fun h0 => ?_) hst hH hS hL hc hsl kk
    have h9 : (decide (¬ r1 = 0) || mm_kc.contains (mm_ow j, ix, r3)) = true := hok
    rw [decide_eq_false (fun z => z h0), Bool.false_or] at h9
    exact h9
  case ldc2_w ix => exact so_ldc2_w C (mm_dc he (fun z => by cases z)) hok hst hH hS hL hc hsl kk
  case goto off => exact so_goto C (mm_dc he (fun z => by cases z)) (of_decide_eq_true hok) hst hH hS hL hc hsl kk
  case ifCond cd off =>
    have ht : (pc : Int) + off = (r1 : Int) := of_decide_eq_true hok
    cases cd
    case eq => exact so_if_eq C (mm_dc he (fun z => by cases z)) ht hst hH hS hL hc hsl kk
    case ne => exact so_if_ne C (mm_dc he (fun z => by cases z)) ht hst hH hS hL hc hsl kk
    case lt => exact so_if_lt C (mm_dc he (fun z => by cases z)) ht hst hH hS hL hc hsl kk
    case ge => exact so_if_ge C (mm_dc he (fun z => by cases z)) ht hst hH hS hL hc hsl kk
    case gt => exact so_if_gt C (mm_dc he (fun z => by cases z)) ht hst hH hS hL hc hsl kk
    case le => exact so_if_le C (mm_dc he (fun z => by cases z)) ht hst hH hS hL hc hsl kk
  case if_icmp cd off =>
    have ht : (pc : Int) + off = (r1 : Int) := of_decide_eq_true hok
    cases cd
    case eq => exact so_icmp_eq C (mm_dc he (fun z => by cases z)) ht hst hH hS hL hc hsl kk
    case ne => exact so_icmp_ne C (mm_dc he (fun z => by cases z)) ht hst hH hS hL hc hsl kk
    case lt => exact so_icmp_lt C (mm_dc he (fun z => by cases z)) ht hst hH hS hL hc hsl kk
    case ge => exact so_icmp_ge C (mm_dc he (fun z => by cases z)) ht hst hH hS hL hc hsl kk
    case gt => exact so_icmp_gt C (mm_dc he (fun z => by cases z)) ht hst hH hS hL hc hsl kk
    case le => exact so_icmp_le C (mm_dc he (fun z => by cases z)) ht hst hH hS hL hc hsl kk
  case tableswitch d lo hi offs =>
    have h9 : (decide (0 ≤ (pc : Int) + d) && offs.toList.all (fun o => decide (0 ≤ (pc : Int) + o))) = true := hok
    rw [Bool.and_eq_true] at h9
    exact so_tsw C hdc ⟨of_decide_eq_true h9.1, fun o ho => of_decide_eq_true (List.all_eq_true.mp h9.2 o ho)⟩ hst hH hS hL hc hsl kk
  case lookupswitch d ps =>
    have h9 : ((ps.toList.zip (ps.toList.drop 1)).all (fun (a, next) => a.1 < next.1) && decide (0 ≤ (pc : Int) + d) && ps.toList.all (fun o => decide (0 ≤ (pc : Int) + o.2))) = true := hok
    rw [Bool.and_eq_true, Bool.and_eq_true] at h9
    exact so_lsw C hdc ⟨h9.1.1, of_decide_eq_true h9.1.2, fun o ho => of_decide_eq_true (List.all_eq_true.mp h9.2 o ho)⟩ hst hH hS hL hc hsl kk
  case getstatic ix =>
    have h9 : (mm_fs.contains (mm_ow j, ix, r1, r2) && (decide (r1 = 0) || decide (r1 = 1))) = true := hok
    simp only [Bool.and_eq_true, Bool.or_eq_true, decide_eq_true_eq] at h9
    exact so_getstatic C (mm_dc he (fun z => by cases z)) h9 hst hH hS hL hc hsl kk
  case getfield ix =>
    by_cases h30 : r1 = 30
    · subst h30
      have h9 : (mm_fs.contains (mm_ow j, ix, 30, r2) && (decide (r2 = 0) || decide (r2 = 1))) = true := by
        unfold mm_ok at hok
        dsimp only at hok
        rw [if_pos rfl] at hok
        exact hok
      simp only [Bool.and_eq_true, Bool.or_eq_true, decide_eq_true_eq] at h9
      have hst2 : mm_gst r2 (pc + 3) L S m = some (.inl q) := by
        unfold mm_step at hst
        dsimp only at hst
        rw [if_pos rfl] at hst
        exact hst
      exact so_gst C (mm_dc he (fun z => by cases z)) h9 hst2 hH hS hL hc hsl kk
    have hst2 : mm_get r1 r2 r3 (pc + 3) L S m = some (.inl q) := by
      unfold mm_step at hst
      dsimp only at hst
      rw [if_neg h30] at hst
      exact hst
    have hok2 : mm_ok j pc (.getfield ix, n, r1, r2, r3) = true := hok
    unfold mm_ok at hok2
    dsimp only at hok2
    rw [if_neg h30] at hok2
    have h9 : (mm_fl.contains (mm_ow j, ix, r1, r2) && decide ((mm_ft r1)[r2]? = some r3.toNat) && decide (0 ≤ r3)) = true := hok2
    rw [Bool.and_eq_true, Bool.and_eq_true] at h9
    exact so_getfield C (mm_dc he (fun z => by cases z)) ⟨h9.1.1, of_decide_eq_true h9.1.2, of_decide_eq_true h9.2⟩ hst2 hH hS hL hc hsl kk
  case putfield ix =>
    have h9 : (mm_fl.contains (mm_ow j, ix, r1, r2) && decide ((mm_ft r1)[r2]? = some r3.toNat) && decide (0 ≤ r3) && (!(mm_T r1 r2).2.2.2 || (decide ((mm_y j).name = "<init>") && decide ((mm_T r1 r2).1 = mm_cn (mm_ow j))))) = true := hok
    rw [Bool.and_eq_true, Bool.and_eq_true, Bool.and_eq_true, Bool.or_eq_true, Bool.and_eq_true] at h9
    refine so_putfield C (mm_dc he (fun z => by cases z)) ⟨⟨h9.1.1.1, of_decide_eq_true h9.1.1.2, of_decide_eq_true h9.1.2⟩, ?_⟩ hst hH hS hL hc hsl kk
    rcases h9.2 with h | h
    · exact Or.inl (by simpa using h)
    · exact Or.inr ⟨of_decide_eq_true h.1, of_decide_eq_true h.2⟩
  case new ix =>
    have h9 : (decide (r1 = 99) || (mm_nw.contains (mm_ow j, ix, r1) && decide (r1 < 13))) = true := hok
    rw [Bool.or_eq_true, Bool.and_eq_true] at h9
    refine so_new C (mm_dc he (fun z => by cases z)) ?_ hst hrm hrs hH hS hL hc hsl kk
    rcases h9 with h | h
    · exact Or.inl (of_decide_eq_true h)
    · exact Or.inr ⟨h.1, of_decide_eq_true h.2⟩
  case newarray t =>
    cases t
    case int => exact so_nwa_i C (mm_dc he (fun z => by cases z)) hst hrm hrs hH hS hL hc hsl kk
    case long => exact so_nwa_l C (mm_dc he (fun z => by cases z)) hst hrm hrs hH hS hL hc hsl kk
    case boolean => exact so_nwa_z C (mm_dc he (fun z => by cases z)) hst hrm hrs hH hS hL hc hsl kk
    case char => exact so_nwa_c C (mm_dc he (fun z => by cases z)) hst hrm hrs hH hS hL hc hsl kk
    all_goals cases hst
  case anewarray ix =>
    have h9 : (mm_an.contains (mm_ow j, ix, r1) && (decide (r1 = 24) || decide (r1 = 25) || decide (r1 = 26))) = true := hok
    rw [Bool.and_eq_true, Bool.or_eq_true, Bool.or_eq_true] at h9
    refine so_anewarray C (mm_dc he (fun z => by cases z)) ⟨h9.1, ?_⟩ hst hrm hrs hH hS hL hc hsl kk
    rcases h9.2 with (h | h) | h
    · exact Or.inl (of_decide_eq_true h)
    · exact Or.inr (Or.inl (of_decide_eq_true h))
    · exact Or.inr (Or.inr (of_decide_eq_true h))
  case multianewarray ix dims =>
    have h9 : (mm_n2.contains (mm_ow j, ix) && decide (dims = 2)) = true := hok
    rw [Bool.and_eq_true] at h9
    have hdm : dims = 2 := of_decide_eq_true h9.2
    subst hdm
    exact so_multi C (mm_dc he (fun z => by cases z)) h9.1 hst hrm hrs hH hS hL hc hsl kk
  case invokestatic ix =>
    exact mm_inv_st C (mm_dc he (fun z => by cases z)) hok hst hrm hrs hH hS hL hc hsl kk
  case invokevirtual ix =>
    exact mm_inv_vi C (mm_dc he (fun z => by cases z)) hok hst hrm hrs hH hS hL hc hsl kk
  case invokespecial ix =>
    exact mm_inv_sp C (mm_dc he (fun z => by cases z)) hok hst hrm hrs hH hS hL hc hsl kk
  case ireturn =>
    exact absurd hst (by show ¬ mm_ret (mm_isZ j) S = _; unfold mm_ret; split <;> first | (split <;> simp) | simp)
  case lreturn =>
    exact absurd hst (by show ¬ mm_lrt S = _; unfold mm_lrt; split <;> simp)
  case return_ =>
    cases S with
    | nil => cases hst
    | cons a b => cases hst
  all_goals cases hst
end SO6
