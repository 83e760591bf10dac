/-! ===== the memory behind the constructors: 177 cells; the class's are 1 .. 152, the reference's 153 .. 176 ===== -/
def shpL : List (Nat × Nat) := [(0, 0), (19, 11), (16, 6), (1, 240), (12, 12), (1, 8), (1, 8), (1, 7), (1, 7), (1, 7), (1, 10), (1, 5), (12, 12), (1, 8), (1, 8), (1, 7), (1, 7), (1, 7), (1, 10), (1, 5), (18, 12), (1, 7), (1, 7), (1, 7), (1, 5), (15, 3), (3, 20), (18, 12), (1, 7), (1, 7), (1, 7), (1, 5), (18, 12), (1, 7), (1, 7), (1, 7), (1, 5), (18, 12), (1, 7), (1, 7), (1, 7), (1, 5), (18, 12), (1, 7), (1, 7), (1, 7), (1, 5), (18, 12), (1, 7), (1, 7), (1, 7), (1, 5), (18, 12), (1, 7), (1, 7), (1, 7), (1, 5), (18, 12), (1, 7), (1, 7), (1, 7), (1, 5), (18, 12), (1, 7), (1, 7), (1, 7), (1, 5), (18, 12), (1, 7), (1, 7), (1, 7), (1, 5), (18, 12), (1, 7), (1, 7), (1, 7), (1, 5), (18, 12), (1, 7), (1, 7), (1, 7), (1, 5), (18, 12), (1, 7), (1, 7), (1, 7), (1, 5), (18, 12), (1, 7), (1, 7), (1, 7), (1, 5), (18, 12), (1, 7), (1, 7), (1, 7), (1, 5), (18, 12), (1, 7), (1, 7), (1, 7), (1, 5), (18, 12), (1, 7), (1, 7), (1, 7), (1, 5), (18, 12), (1, 7), (1, 7), (1, 7), (1, 5), (18, 12), (1, 7), (1, 7), (1, 7), (1, 5), (18, 12), (1, 7), (1, 7), (1, 7), (1, 5), (18, 12), (1, 7), (1, 7), (1, 7), (1, 5), (13, 3), (18, 12), (1, 7), (1, 7), (1, 7), (1, 5), (13, 3), (18, 12), (1, 7), (1, 7), (1, 7), (1, 5), (17, 7), (1, 7), (1, 7), (1, 64), (1, 1024), (14, 5), (1, 8), (1, 8), (1, 8), (1, 22), (10, 3), (1, 15), (1, 15), (11, 1), (20, 41), (1, 805), (2, 2), (1, 8), (1, 8), (1, 7), (1, 7), (1, 7), (1, 10), (1, 240), (1, 8), (1, 8), (1, 7), (1, 7), (1, 7), (1, 10), (1, 5), (1, 49), (1, 896), (1, 8), (1, 8), (2, 8), (1, 15), (1, 15)]
def shp (a : Nat) : Nat × Nat := shpL.getD a (0, 0)
def ptrL : List (List (Option Nat)) := [[], [some 2, none, none, some 20, some 25, some 127, some 133, some 139, some 144, some 149, some 152], [some 3], [], [none, none, none, none, none, some 5, some 6, some 7, some 8, some 9, some 10, some 11], [], [], [], [], [], [], [], [none, none, none, none, none, some 13, some 14, some 15, some 16, some 17, some 18, some 19], [], [], [], [], [], [], [], [none, none, none, none, none, none, none, none, some 21, some 22, some 23, some 24], [], [], [], [], [some 26], [some 27, some 32, some 37, some 42, some 47, some 52, some 57, some 62, some 67, some 72, some 77, some 82, some 87, some 92, some 97, some 102, some 107, some 112, some 117, some 122], [none, none, none, none, none, none, none, none, some 28, some 29, some 30, some 31], [], [], [], [], [none, none, none, none, none, none, none, none, some 33, some 34, some 35, some 36], [], [], [], [], [none, none, none, none, none, none, none, none, some 38, some 39, some 40, some 41], [], [], [], [], [none, none, none, none, none, none, none, none, some 43, some 44, some 45, some 46], [], [], [], [], [none, none, none, none, none, none, none, none, some 48, some 49, some 50, some 51], [], [], [], [], [none, none, none, none, none, none, none, none, some 53, some 54, some 55, some 56], [], [], [], [], [none, none, none, none, none, none, none, none, some 58, some 59, some 60, some 61], [], [], [], [], [none, none, none, none, none, none, none, none, some 63, some 64, some 65, some 66], [], [], [], [], [none, none, none, none, none, none, none, none, some 68, some 69, some 70, some 71], [], [], [], [], [none, none, none, none, none, none, none, none, some 73, some 74, some 75, some 76], [], [], [], [], [none, none, none, none, none, none, none, none, some 78, some 79, some 80, some 81], [], [], [], [], [none, none, none, none, none, none, none, none, some 83, some 84, some 85, some 86], [], [], [], [], [none, none, none, none, none, none, none, none, some 88, some 89, some 90, some 91], [], [], [], [], [none, none, none, none, none, none, none, none, some 93, some 94, some 95, some 96], [], [], [], [], [none, none, none, none, none, none, none, none, some 98, some 99, some 100, some 101], [], [], [], [], [none, none, none, none, none, none, none, none, some 103, some 104, some 105, some 106], [], [], [], [], [none, none, none, none, none, none, none, none, some 108, some 109, some 110, some 111], [], [], [], [], [none, none, none, none, none, none, none, none, some 113, some 114, some 115, some 116], [], [], [], [], [none, none, none, none, none, none, none, none, some 118, some 119, some 120, some 121], [], [], [], [], [none, none, none, none, none, none, none, none, some 123, some 124, some 125, some 126], [], [], [], [], [some 128], [none, none, none, none, none, none, none, none, some 129, some 130, some 131, some 132], [], [], [], [], [some 134], [none, none, none, none, none, none, none, none, some 135, some 136, some 137, some 138], [], [], [], [], [some 140, some 141, some 142, some 143], [], [], [], [], [some 145, some 146, some 147, some 148], [], [], [], [], [some 150, some 151], [], [], [], [some 154, some 155, none, none, none, none, none, some 156, some 157, some 158, some 159, some 160, some 161, some 162, none, none, none, none, none, none, none, none, none, none, none, some 163, some 164, some 165, some 166, some 167, some 168, some 169, some 170, some 171, none, some 172, some 173, some 174, none, some 175, some 176], [], [], [], [], [], [], [], [], [], [], [], [], [], [], [], [], [], [], [], [], [], [], []]
def ptr0 (a j : Nat) : Option Nat := (ptrL.getD a []).getD j none
def mk (C R : Nat → Nat → Int32) (L : Nat → Nat → Int64) (hb : Nat) : ak_M := (fun a j => if a < 153 then C a j else R a j, L, fun a j => if a = 1 ∧ j = 1 then some hb else if a = 1 ∧ j = 2 then some (16 - hb) else ptr0 a j, shp, 177, 4668)
def up (C : Nat → Nat → Int32) (a j : Nat) (x : Int32) : Nat → Nat → Int32 := fun b k => if b = a ∧ k = j then x else C b k
def upL (C : Nat → Nat → Int64) (a j : Nat) (x : Int64) : Nat → Nat → Int64 := fun b k => if b = a ∧ k = j then x else C b k
theorem shp_1 : shp 1 = (19, 11) := rfl
theorem shp_2 : shp 2 = (16, 6) := rfl
theorem shp_3 : shp 3 = (1, 240) := rfl
theorem shp_4 : shp 4 = (12, 12) := rfl
theorem shp_5 : shp 5 = (1, 8) := rfl
theorem shp_6 : shp 6 = (1, 8) := rfl
theorem shp_7 : shp 7 = (1, 7) := rfl
theorem shp_8 : shp 8 = (1, 7) := rfl
theorem shp_9 : shp 9 = (1, 7) := rfl
theorem shp_10 : shp 10 = (1, 10) := rfl
theorem shp_11 : shp 11 = (1, 5) := rfl
theorem shp_12 : shp 12 = (12, 12) := rfl
theorem shp_13 : shp 13 = (1, 8) := rfl
theorem shp_14 : shp 14 = (1, 8) := rfl
theorem shp_15 : shp 15 = (1, 7) := rfl
theorem shp_16 : shp 16 = (1, 7) := rfl
theorem shp_17 : shp 17 = (1, 7) := rfl
theorem shp_18 : shp 18 = (1, 10) := rfl
theorem shp_19 : shp 19 = (1, 5) := rfl
theorem shp_20 : shp 20 = (18, 12) := rfl
theorem shp_21 : shp 21 = (1, 7) := rfl
theorem shp_22 : shp 22 = (1, 7) := rfl
theorem shp_23 : shp 23 = (1, 7) := rfl
theorem shp_24 : shp 24 = (1, 5) := rfl
theorem shp_25 : shp 25 = (15, 3) := rfl
theorem shp_26 : shp 26 = (3, 20) := rfl
theorem shp_27 : shp 27 = (18, 12) := rfl
theorem shp_28 : shp 28 = (1, 7) := rfl
theorem shp_29 : shp 29 = (1, 7) := rfl
theorem shp_30 : shp 30 = (1, 7) := rfl
theorem shp_31 : shp 31 = (1, 5) := rfl
theorem shp_32 : shp 32 = (18, 12) := rfl
theorem shp_33 : shp 33 = (1, 7) := rfl
theorem shp_34 : shp 34 = (1, 7) := rfl
theorem shp_35 : shp 35 = (1, 7) := rfl
theorem shp_36 : shp 36 = (1, 5) := rfl
theorem shp_37 : shp 37 = (18, 12) := rfl
theorem shp_38 : shp 38 = (1, 7) := rfl
theorem shp_39 : shp 39 = (1, 7) := rfl
theorem shp_40 : shp 40 = (1, 7) := rfl
theorem shp_41 : shp 41 = (1, 5) := rfl
theorem shp_42 : shp 42 = (18, 12) := rfl
theorem shp_43 : shp 43 = (1, 7) := rfl
theorem shp_44 : shp 44 = (1, 7) := rfl
theorem shp_45 : shp 45 = (1, 7) := rfl
theorem shp_46 : shp 46 = (1, 5) := rfl
theorem shp_47 : shp 47 = (18, 12) := rfl
theorem shp_48 : shp 48 = (1, 7) := rfl
theorem shp_49 : shp 49 = (1, 7) := rfl
theorem shp_50 : shp 50 = (1, 7) := rfl
theorem shp_51 : shp 51 = (1, 5) := rfl
theorem shp_52 : shp 52 = (18, 12) := rfl
theorem shp_53 : shp 53 = (1, 7) := rfl
theorem shp_54 : shp 54 = (1, 7) := rfl
theorem shp_55 : shp 55 = (1, 7) := rfl
theorem shp_56 : shp 56 = (1, 5) := rfl
theorem shp_57 : shp 57 = (18, 12) := rfl
theorem shp_58 : shp 58 = (1, 7) := rfl
theorem shp_59 : shp 59 = (1, 7) := rfl
theorem shp_60 : shp 60 = (1, 7) := rfl
theorem shp_61 : shp 61 = (1, 5) := rfl
theorem shp_62 : shp 62 = (18, 12) := rfl
theorem shp_63 : shp 63 = (1, 7) := rfl
theorem shp_64 : shp 64 = (1, 7) := rfl
theorem shp_65 : shp 65 = (1, 7) := rfl
theorem shp_66 : shp 66 = (1, 5) := rfl
theorem shp_67 : shp 67 = (18, 12) := rfl
theorem shp_68 : shp 68 = (1, 7) := rfl
theorem shp_69 : shp 69 = (1, 7) := rfl
theorem shp_70 : shp 70 = (1, 7) := rfl
theorem shp_71 : shp 71 = (1, 5) := rfl
theorem shp_72 : shp 72 = (18, 12) := rfl
theorem shp_73 : shp 73 = (1, 7) := rfl
theorem shp_74 : shp 74 = (1, 7) := rfl
theorem shp_75 : shp 75 = (1, 7) := rfl
theorem shp_76 : shp 76 = (1, 5) := rfl
theorem shp_77 : shp 77 = (18, 12) := rfl
theorem shp_78 : shp 78 = (1, 7) := rfl
theorem shp_79 : shp 79 = (1, 7) := rfl
theorem shp_80 : shp 80 = (1, 7) := rfl
theorem shp_81 : shp 81 = (1, 5) := rfl
theorem shp_82 : shp 82 = (18, 12) := rfl
theorem shp_83 : shp 83 = (1, 7) := rfl
theorem shp_84 : shp 84 = (1, 7) := rfl
theorem shp_85 : shp 85 = (1, 7) := rfl
theorem shp_86 : shp 86 = (1, 5) := rfl
theorem shp_87 : shp 87 = (18, 12) := rfl
theorem shp_88 : shp 88 = (1, 7) := rfl
theorem shp_89 : shp 89 = (1, 7) := rfl
theorem shp_90 : shp 90 = (1, 7) := rfl
theorem shp_91 : shp 91 = (1, 5) := rfl
theorem shp_92 : shp 92 = (18, 12) := rfl
theorem shp_93 : shp 93 = (1, 7) := rfl
theorem shp_94 : shp 94 = (1, 7) := rfl
theorem shp_95 : shp 95 = (1, 7) := rfl
theorem shp_96 : shp 96 = (1, 5) := rfl
theorem shp_97 : shp 97 = (18, 12) := rfl
theorem shp_98 : shp 98 = (1, 7) := rfl
theorem shp_99 : shp 99 = (1, 7) := rfl
theorem shp_100 : shp 100 = (1, 7) := rfl
theorem shp_101 : shp 101 = (1, 5) := rfl
theorem shp_102 : shp 102 = (18, 12) := rfl
theorem shp_103 : shp 103 = (1, 7) := rfl
theorem shp_104 : shp 104 = (1, 7) := rfl
theorem shp_105 : shp 105 = (1, 7) := rfl
theorem shp_106 : shp 106 = (1, 5) := rfl
theorem shp_107 : shp 107 = (18, 12) := rfl
theorem shp_108 : shp 108 = (1, 7) := rfl
theorem shp_109 : shp 109 = (1, 7) := rfl
theorem shp_110 : shp 110 = (1, 7) := rfl
theorem shp_111 : shp 111 = (1, 5) := rfl
theorem shp_112 : shp 112 = (18, 12) := rfl
theorem shp_113 : shp 113 = (1, 7) := rfl
theorem shp_114 : shp 114 = (1, 7) := rfl
theorem shp_115 : shp 115 = (1, 7) := rfl
theorem shp_116 : shp 116 = (1, 5) := rfl
theorem shp_117 : shp 117 = (18, 12) := rfl
theorem shp_118 : shp 118 = (1, 7) := rfl
theorem shp_119 : shp 119 = (1, 7) := rfl
theorem shp_120 : shp 120 = (1, 7) := rfl
theorem shp_121 : shp 121 = (1, 5) := rfl
theorem shp_122 : shp 122 = (18, 12) := rfl
theorem shp_123 : shp 123 = (1, 7) := rfl
theorem shp_124 : shp 124 = (1, 7) := rfl
theorem shp_125 : shp 125 = (1, 7) := rfl
theorem shp_126 : shp 126 = (1, 5) := rfl
theorem shp_127 : shp 127 = (13, 3) := rfl
theorem shp_128 : shp 128 = (18, 12) := rfl
theorem shp_129 : shp 129 = (1, 7) := rfl
theorem shp_130 : shp 130 = (1, 7) := rfl
theorem shp_131 : shp 131 = (1, 7) := rfl
theorem shp_132 : shp 132 = (1, 5) := rfl
theorem shp_133 : shp 133 = (13, 3) := rfl
theorem shp_134 : shp 134 = (18, 12) := rfl
theorem shp_135 : shp 135 = (1, 7) := rfl
theorem shp_136 : shp 136 = (1, 7) := rfl
theorem shp_137 : shp 137 = (1, 7) := rfl
theorem shp_138 : shp 138 = (1, 5) := rfl
theorem shp_139 : shp 139 = (17, 7) := rfl
theorem shp_140 : shp 140 = (1, 7) := rfl
theorem shp_141 : shp 141 = (1, 7) := rfl
theorem shp_142 : shp 142 = (1, 64) := rfl
theorem shp_143 : shp 143 = (1, 1024) := rfl
theorem shp_144 : shp 144 = (14, 5) := rfl
theorem shp_145 : shp 145 = (1, 8) := rfl
theorem shp_146 : shp 146 = (1, 8) := rfl
theorem shp_147 : shp 147 = (1, 8) := rfl
theorem shp_148 : shp 148 = (1, 22) := rfl
theorem shp_149 : shp 149 = (10, 3) := rfl
theorem shp_150 : shp 150 = (1, 15) := rfl
theorem shp_151 : shp 151 = (1, 15) := rfl
theorem shp_152 : shp 152 = (11, 1) := rfl
theorem shp_153 : shp 153 = (20, 41) := rfl
theorem shp_154 : shp 154 = (1, 805) := rfl
theorem shp_155 : shp 155 = (2, 2) := rfl
theorem shp_156 : shp 156 = (1, 8) := rfl
theorem shp_157 : shp 157 = (1, 8) := rfl
theorem shp_158 : shp 158 = (1, 7) := rfl
theorem shp_159 : shp 159 = (1, 7) := rfl
theorem shp_160 : shp 160 = (1, 7) := rfl
theorem shp_161 : shp 161 = (1, 10) := rfl
theorem shp_162 : shp 162 = (1, 240) := rfl
theorem shp_163 : shp 163 = (1, 8) := rfl
theorem shp_164 : shp 164 = (1, 8) := rfl
theorem shp_165 : shp 165 = (1, 7) := rfl
theorem shp_166 : shp 166 = (1, 7) := rfl
theorem shp_167 : shp 167 = (1, 7) := rfl
theorem shp_168 : shp 168 = (1, 10) := rfl
theorem shp_169 : shp 169 = (1, 5) := rfl
theorem shp_170 : shp 170 = (1, 49) := rfl
theorem shp_171 : shp 171 = (1, 896) := rfl
theorem shp_172 : shp 172 = (1, 8) := rfl
theorem shp_173 : shp 173 = (1, 8) := rfl
theorem shp_174 : shp 174 = (2, 8) := rfl
theorem shp_175 : shp 175 = (1, 15) := rfl
theorem shp_176 : shp 176 = (1, 15) := rfl
theorem ptr_1_0 : ptr0 1 0 = some 2 := rfl
theorem ptr_1_3 : ptr0 1 3 = some 20 := rfl
theorem ptr_1_4 : ptr0 1 4 = some 25 := rfl
theorem ptr_1_5 : ptr0 1 5 = some 127 := rfl
theorem ptr_1_6 : ptr0 1 6 = some 133 := rfl
theorem ptr_1_7 : ptr0 1 7 = some 139 := rfl
theorem ptr_1_8 : ptr0 1 8 = some 144 := rfl
theorem ptr_1_9 : ptr0 1 9 = some 149 := rfl
theorem ptr_1_10 : ptr0 1 10 = some 152 := rfl
theorem ptr_2_0 : ptr0 2 0 = some 3 := rfl
theorem ptr_4_5 : ptr0 4 5 = some 5 := rfl
theorem ptr_4_6 : ptr0 4 6 = some 6 := rfl
theorem ptr_4_7 : ptr0 4 7 = some 7 := rfl
theorem ptr_4_8 : ptr0 4 8 = some 8 := rfl
theorem ptr_4_9 : ptr0 4 9 = some 9 := rfl
theorem ptr_4_10 : ptr0 4 10 = some 10 := rfl
theorem ptr_4_11 : ptr0 4 11 = some 11 := rfl
theorem ptr_12_5 : ptr0 12 5 = some 13 := rfl
theorem ptr_12_6 : ptr0 12 6 = some 14 := rfl
theorem ptr_12_7 : ptr0 12 7 = some 15 := rfl
theorem ptr_12_8 : ptr0 12 8 = some 16 := rfl
theorem ptr_12_9 : ptr0 12 9 = some 17 := rfl
theorem ptr_12_10 : ptr0 12 10 = some 18 := rfl
theorem ptr_12_11 : ptr0 12 11 = some 19 := rfl
theorem ptr_20_8 : ptr0 20 8 = some 21 := rfl
theorem ptr_20_9 : ptr0 20 9 = some 22 := rfl
theorem ptr_20_10 : ptr0 20 10 = some 23 := rfl
theorem ptr_20_11 : ptr0 20 11 = some 24 := rfl
theorem ptr_25_0 : ptr0 25 0 = some 26 := rfl
theorem ptr_26_0 : ptr0 26 0 = some 27 := rfl
theorem ptr_26_1 : ptr0 26 1 = some 32 := rfl
theorem ptr_26_2 : ptr0 26 2 = some 37 := rfl
theorem ptr_26_3 : ptr0 26 3 = some 42 := rfl
theorem ptr_26_4 : ptr0 26 4 = some 47 := rfl
theorem ptr_26_5 : ptr0 26 5 = some 52 := rfl
theorem ptr_26_6 : ptr0 26 6 = some 57 := rfl
theorem ptr_26_7 : ptr0 26 7 = some 62 := rfl
theorem ptr_26_8 : ptr0 26 8 = some 67 := rfl
theorem ptr_26_9 : ptr0 26 9 = some 72 := rfl
theorem ptr_26_10 : ptr0 26 10 = some 77 := rfl
theorem ptr_26_11 : ptr0 26 11 = some 82 := rfl
theorem ptr_26_12 : ptr0 26 12 = some 87 := rfl
theorem ptr_26_13 : ptr0 26 13 = some 92 := rfl
theorem ptr_26_14 : ptr0 26 14 = some 97 := rfl
theorem ptr_26_15 : ptr0 26 15 = some 102 := rfl
theorem ptr_26_16 : ptr0 26 16 = some 107 := rfl
theorem ptr_26_17 : ptr0 26 17 = some 112 := rfl
theorem ptr_26_18 : ptr0 26 18 = some 117 := rfl
theorem ptr_26_19 : ptr0 26 19 = some 122 := rfl
theorem ptr_27_8 : ptr0 27 8 = some 28 := rfl
theorem ptr_27_9 : ptr0 27 9 = some 29 := rfl
theorem ptr_27_10 : ptr0 27 10 = some 30 := rfl
theorem ptr_27_11 : ptr0 27 11 = some 31 := rfl
theorem ptr_32_8 : ptr0 32 8 = some 33 := rfl
theorem ptr_32_9 : ptr0 32 9 = some 34 := rfl
theorem ptr_32_10 : ptr0 32 10 = some 35 := rfl
theorem ptr_32_11 : ptr0 32 11 = some 36 := rfl
theorem ptr_37_8 : ptr0 37 8 = some 38 := rfl
theorem ptr_37_9 : ptr0 37 9 = some 39 := rfl
theorem ptr_37_10 : ptr0 37 10 = some 40 := rfl
theorem ptr_37_11 : ptr0 37 11 = some 41 := rfl
theorem ptr_42_8 : ptr0 42 8 = some 43 := rfl
theorem ptr_42_9 : ptr0 42 9 = some 44 := rfl
theorem ptr_42_10 : ptr0 42 10 = some 45 := rfl
theorem ptr_42_11 : ptr0 42 11 = some 46 := rfl
theorem ptr_47_8 : ptr0 47 8 = some 48 := rfl
theorem ptr_47_9 : ptr0 47 9 = some 49 := rfl
theorem ptr_47_10 : ptr0 47 10 = some 50 := rfl
theorem ptr_47_11 : ptr0 47 11 = some 51 := rfl
theorem ptr_52_8 : ptr0 52 8 = some 53 := rfl
theorem ptr_52_9 : ptr0 52 9 = some 54 := rfl
theorem ptr_52_10 : ptr0 52 10 = some 55 := rfl
theorem ptr_52_11 : ptr0 52 11 = some 56 := rfl
theorem ptr_57_8 : ptr0 57 8 = some 58 := rfl
theorem ptr_57_9 : ptr0 57 9 = some 59 := rfl
theorem ptr_57_10 : ptr0 57 10 = some 60 := rfl
theorem ptr_57_11 : ptr0 57 11 = some 61 := rfl
theorem ptr_62_8 : ptr0 62 8 = some 63 := rfl
theorem ptr_62_9 : ptr0 62 9 = some 64 := rfl
theorem ptr_62_10 : ptr0 62 10 = some 65 := rfl
theorem ptr_62_11 : ptr0 62 11 = some 66 := rfl
theorem ptr_67_8 : ptr0 67 8 = some 68 := rfl
theorem ptr_67_9 : ptr0 67 9 = some 69 := rfl
theorem ptr_67_10 : ptr0 67 10 = some 70 := rfl
theorem ptr_67_11 : ptr0 67 11 = some 71 := rfl
theorem ptr_72_8 : ptr0 72 8 = some 73 := rfl
theorem ptr_72_9 : ptr0 72 9 = some 74 := rfl
theorem ptr_72_10 : ptr0 72 10 = some 75 := rfl
theorem ptr_72_11 : ptr0 72 11 = some 76 := rfl
theorem ptr_77_8 : ptr0 77 8 = some 78 := rfl
theorem ptr_77_9 : ptr0 77 9 = some 79 := rfl
theorem ptr_77_10 : ptr0 77 10 = some 80 := rfl
theorem ptr_77_11 : ptr0 77 11 = some 81 := rfl
theorem ptr_82_8 : ptr0 82 8 = some 83 := rfl
theorem ptr_82_9 : ptr0 82 9 = some 84 := rfl
theorem ptr_82_10 : ptr0 82 10 = some 85 := rfl
theorem ptr_82_11 : ptr0 82 11 = some 86 := rfl
theorem ptr_87_8 : ptr0 87 8 = some 88 := rfl
theorem ptr_87_9 : ptr0 87 9 = some 89 := rfl
theorem ptr_87_10 : ptr0 87 10 = some 90 := rfl
theorem ptr_87_11 : ptr0 87 11 = some 91 := rfl
theorem ptr_92_8 : ptr0 92 8 = some 93 := rfl
theorem ptr_92_9 : ptr0 92 9 = some 94 := rfl
theorem ptr_92_10 : ptr0 92 10 = some 95 := rfl
theorem ptr_92_11 : ptr0 92 11 = some 96 := rfl
theorem ptr_97_8 : ptr0 97 8 = some 98 := rfl
theorem ptr_97_9 : ptr0 97 9 = some 99 := rfl
theorem ptr_97_10 : ptr0 97 10 = some 100 := rfl
theorem ptr_97_11 : ptr0 97 11 = some 101 := rfl
theorem ptr_102_8 : ptr0 102 8 = some 103 := rfl
theorem ptr_102_9 : ptr0 102 9 = some 104 := rfl
theorem ptr_102_10 : ptr0 102 10 = some 105 := rfl
theorem ptr_102_11 : ptr0 102 11 = some 106 := rfl
theorem ptr_107_8 : ptr0 107 8 = some 108 := rfl
theorem ptr_107_9 : ptr0 107 9 = some 109 := rfl
theorem ptr_107_10 : ptr0 107 10 = some 110 := rfl
theorem ptr_107_11 : ptr0 107 11 = some 111 := rfl
theorem ptr_112_8 : ptr0 112 8 = some 113 := rfl
theorem ptr_112_9 : ptr0 112 9 = some 114 := rfl
theorem ptr_112_10 : ptr0 112 10 = some 115 := rfl
theorem ptr_112_11 : ptr0 112 11 = some 116 := rfl
theorem ptr_117_8 : ptr0 117 8 = some 118 := rfl
theorem ptr_117_9 : ptr0 117 9 = some 119 := rfl
theorem ptr_117_10 : ptr0 117 10 = some 120 := rfl
theorem ptr_117_11 : ptr0 117 11 = some 121 := rfl
theorem ptr_122_8 : ptr0 122 8 = some 123 := rfl
theorem ptr_122_9 : ptr0 122 9 = some 124 := rfl
theorem ptr_122_10 : ptr0 122 10 = some 125 := rfl
theorem ptr_122_11 : ptr0 122 11 = some 126 := rfl
theorem ptr_127_0 : ptr0 127 0 = some 128 := rfl
theorem ptr_128_8 : ptr0 128 8 = some 129 := rfl
theorem ptr_128_9 : ptr0 128 9 = some 130 := rfl
theorem ptr_128_10 : ptr0 128 10 = some 131 := rfl
theorem ptr_128_11 : ptr0 128 11 = some 132 := rfl
theorem ptr_133_0 : ptr0 133 0 = some 134 := rfl
theorem ptr_134_8 : ptr0 134 8 = some 135 := rfl
theorem ptr_134_9 : ptr0 134 9 = some 136 := rfl
theorem ptr_134_10 : ptr0 134 10 = some 137 := rfl
theorem ptr_134_11 : ptr0 134 11 = some 138 := rfl
theorem ptr_139_0 : ptr0 139 0 = some 140 := rfl
theorem ptr_139_1 : ptr0 139 1 = some 141 := rfl
theorem ptr_139_2 : ptr0 139 2 = some 142 := rfl
theorem ptr_139_3 : ptr0 139 3 = some 143 := rfl
theorem ptr_144_0 : ptr0 144 0 = some 145 := rfl
theorem ptr_144_1 : ptr0 144 1 = some 146 := rfl
theorem ptr_144_2 : ptr0 144 2 = some 147 := rfl
theorem ptr_144_3 : ptr0 144 3 = some 148 := rfl
theorem ptr_149_0 : ptr0 149 0 = some 150 := rfl
theorem ptr_149_1 : ptr0 149 1 = some 151 := rfl
theorem ptr_153_0 : ptr0 153 0 = some 154 := rfl
theorem ptr_153_1 : ptr0 153 1 = some 155 := rfl
theorem ptr_153_7 : ptr0 153 7 = some 156 := rfl
theorem ptr_153_8 : ptr0 153 8 = some 157 := rfl
theorem ptr_153_9 : ptr0 153 9 = some 158 := rfl
theorem ptr_153_10 : ptr0 153 10 = some 159 := rfl
theorem ptr_153_11 : ptr0 153 11 = some 160 := rfl
theorem ptr_153_12 : ptr0 153 12 = some 161 := rfl
theorem ptr_153_13 : ptr0 153 13 = some 162 := rfl
theorem ptr_153_25 : ptr0 153 25 = some 163 := rfl
theorem ptr_153_26 : ptr0 153 26 = some 164 := rfl
theorem ptr_153_27 : ptr0 153 27 = some 165 := rfl
theorem ptr_153_28 : ptr0 153 28 = some 166 := rfl
theorem ptr_153_29 : ptr0 153 29 = some 167 := rfl
theorem ptr_153_30 : ptr0 153 30 = some 168 := rfl
theorem ptr_153_31 : ptr0 153 31 = some 169 := rfl
theorem ptr_153_32 : ptr0 153 32 = some 170 := rfl
theorem ptr_153_33 : ptr0 153 33 = some 171 := rfl
theorem ptr_153_35 : ptr0 153 35 = some 172 := rfl
theorem ptr_153_36 : ptr0 153 36 = some 173 := rfl
theorem ptr_153_37 : ptr0 153 37 = some 174 := rfl
theorem ptr_153_39 : ptr0 153 39 = some 175 := rfl
theorem ptr_153_40 : ptr0 153 40 = some 176 := rfl
section MK
variable {C R : Nat → Nat → Int32} {L : Nat → Nat → Int64} {hb : Nat}
theorem mS_mk {a : Nat} : mS (mk C R L hb) a = shp a := rfl
theorem mZ_mk : mZ (mk C R L hb) = 177 := rfl
theorem mT_mk : mT (mk C R L hb) = 4668 := rfl
theorem mL_mk {a j : Nat} : mL (mk C R L hb) a j = L a j := rfl
theorem mI_mk {a j : Nat} : mI (mk C R L hb) a j = if a < 153 then C a j else R a j := rfl
theorem mP_11 : mP (mk C R L hb) 1 1 = some hb := rfl
theorem mP_12 : mP (mk C R L hb) 1 2 = some (16 - hb) := rfl
theorem mP_mk {a j : Nat} : mP (mk C R L hb) a j = if a = 1 ∧ j = 1 then some hb else if a = 1 ∧ j = 2 then some (16 - hb) else ptr0 a j := rfl
theorem uI_mk {a j : Nat} {x : Int32} : uI (mk C R L hb) a j x = if a < 153 then mk (up C a j x) R L hb else mk C (up R a j x) L hb := by
  unfold uI mk
  split
  next h =>
    refine Prod.ext ?_ rfl
    funext b k
    show (if b = a ∧ k = j then x else if b < 153 then C b k else R b k) = (if b < 153 then (if b = a ∧ k = j then x else C b k) else R b k)
    by_cases hb : b = a ∧ k = j
    · rw [if_pos hb, if_pos hb, if_pos (by omega)]
    · rw [if_neg hb, if_neg hb]
  next h =>
    refine Prod.ext ?_ rfl
    funext b k
    show (if b = a ∧ k = j then x else if b < 153 then C b k else R b k) = (if b < 153 then C b k else (if b = a ∧ k = j then x else R b k))
    by_cases hb : b = a ∧ k = j
    · rw [if_pos hb, if_pos hb, if_neg (by omega)]
    · rw [if_neg hb, if_neg hb]
theorem uL_mk {a j : Nat} {x : Int64} : uL (mk C R L hb) a j x = mk C R (upL L a j x) hb := rfl
end MK
theorem up_self {C : Nat → Nat → Int32} {a j : Nat} {x : Int32} : up C a j x a j = x := by unfold up; rw [if_pos ⟨rfl, rfl⟩]
theorem up_at {C : Nat → Nat → Int32} {a j b k : Nat} {x : Int32} : up C a j x b k = if b = a ∧ k = j then x else C b k := rfl
