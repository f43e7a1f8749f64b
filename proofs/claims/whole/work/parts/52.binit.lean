/-! Constructors: Vector, Inertia, Frame, Body -/

theorem vv_obj : Cond.instanceMethod objectInit ∈ ltb := List.mem_filter.mpr ⟨List.mem_append_right _ (List.mem_of_getElem? (i := 15) (by decide +kernel)), by decide +kernel⟩
theorem vk_obj : Cond.code objectInit ⟨#[0xb1]⟩ 1 none ∈ ltb := List.mem_filter.mpr ⟨List.mem_append_right _ (List.mem_of_getElem? (i := 16) (by decide +kernel)), by decide +kernel⟩
theorem vk_X4_init : Cond.code yX4_init cX4_init 7 none ∈ ltb := List.mem_filter.mpr ⟨List.mem_append_right _ (List.mem_of_getElem? (i := 28) (by decide +kernel)), by decide +kernel⟩
theorem vn_X4 : Cond.initialized RX4 ∈ ltb := List.mem_filter.mpr ⟨List.mem_append_right _ (List.mem_of_getElem? (i := 3) (by decide +kernel)), by decide +kernel⟩
theorem mi_X4_init : Mi yX4_init yX4_init.cls 3 cX4_init 7 none := ⟨by decide +kernel, vk_X4_init, vn_X4, by decide⟩
theorem vv_X4_init : Cond.instanceMethod yX4_init ∈ ltb := List.mem_filter.mpr ⟨List.mem_append_right _ (List.mem_of_getElem? (i := 27) (by decide +kernel)), by decide +kernel⟩
theorem dX4_init_0 : decode cX4_init 0 = .ok (.aload_n 0, 1) := by decide +kernel
theorem dX4_init_1 : decode cX4_init 1 = .ok (.invokespecial 1, 3) := by decide +kernel
theorem dX4_init_4 : decode cX4_init 4 = .ok (.aload_n 0, 1) := by decide +kernel
theorem dX4_init_5 : decode cX4_init 5 = .ok (.lload_n 1, 1) := by decide +kernel
theorem dX4_init_6 : decode cX4_init 6 = .ok (.putfield 7, 3) := by decide +kernel
theorem dX4_init_9 : decode cX4_init 9 = .ok (.aload_n 0, 1) := by decide +kernel
theorem dX4_init_10 : decode cX4_init 10 = .ok (.lload_n 3, 1) := by decide +kernel
theorem dX4_init_11 : decode cX4_init 11 = .ok (.putfield 13, 3) := by decide +kernel
theorem dX4_init_14 : decode cX4_init 14 = .ok (.aload_n 0, 1) := by decide +kernel
theorem dX4_init_15 : decode cX4_init 15 = .ok (.lload 5, 2) := by decide +kernel
theorem dX4_init_17 : decode cX4_init 17 = .ok (.putfield 16, 3) := by decide +kernel
theorem dX4_init_20 : decode cX4_init 20 = .ok (.return_, 1) := by decide +kernel
theorem vk_X3_init : Cond.code yX3_init cX3_init 1 none ∈ ltb := List.mem_filter.mpr ⟨List.mem_append_right _ (List.mem_of_getElem? (i := 50) (by decide +kernel)), by decide +kernel⟩
theorem vn_X3 : Cond.initialized RX3 ∈ ltb := List.mem_filter.mpr ⟨List.mem_append_right _ (List.mem_of_getElem? (i := 4) (by decide +kernel)), by decide +kernel⟩
theorem mi_X3_init : Mi yX3_init yX3_init.cls 0 cX3_init 1 none := ⟨by decide +kernel, vk_X3_init, vn_X3, by decide⟩
theorem vv_X3_init : Cond.instanceMethod yX3_init ∈ ltb := List.mem_filter.mpr ⟨List.mem_append_right _ (List.mem_of_getElem? (i := 49) (by decide +kernel)), by decide +kernel⟩
theorem dX3_init_0 : decode cX3_init 0 = .ok (.aload_n 0, 1) := by decide +kernel
theorem dX3_init_1 : decode cX3_init 1 = .ok (.invokespecial 1, 3) := by decide +kernel
theorem dX3_init_4 : decode cX3_init 4 = .ok (.aload_n 0, 1) := by decide +kernel
theorem dX3_init_5 : decode cX3_init 5 = .ok (.new 7, 3) := by decide +kernel
theorem dX3_init_8 : decode cX3_init 8 = .ok (.dup, 1) := by decide +kernel
theorem dX3_init_9 : decode cX3_init 9 = .ok (.lconst 0, 1) := by decide +kernel
theorem dX3_init_10 : decode cX3_init 10 = .ok (.lconst 0, 1) := by decide +kernel
theorem dX3_init_11 : decode cX3_init 11 = .ok (.lconst 0, 1) := by decide +kernel
theorem dX3_init_12 : decode cX3_init 12 = .ok (.invokespecial 9, 3) := by decide +kernel
theorem dX3_init_15 : decode cX3_init 15 = .ok (.putfield 12, 3) := by decide +kernel
theorem dX3_init_18 : decode cX3_init 18 = .ok (.aload_n 0, 1) := by decide +kernel
theorem dX3_init_19 : decode cX3_init 19 = .ok (.new 7, 3) := by decide +kernel
theorem dX3_init_22 : decode cX3_init 22 = .ok (.dup, 1) := by decide +kernel
theorem dX3_init_23 : decode cX3_init 23 = .ok (.lconst 0, 1) := by decide +kernel
theorem dX3_init_24 : decode cX3_init 24 = .ok (.lconst 0, 1) := by decide +kernel
theorem dX3_init_25 : decode cX3_init 25 = .ok (.lconst 0, 1) := by decide +kernel
theorem dX3_init_26 : decode cX3_init 26 = .ok (.invokespecial 9, 3) := by decide +kernel
theorem dX3_init_29 : decode cX3_init 29 = .ok (.putfield 18, 3) := by decide +kernel
theorem dX3_init_32 : decode cX3_init 32 = .ok (.aload_n 0, 1) := by decide +kernel
theorem dX3_init_33 : decode cX3_init 33 = .ok (.new 7, 3) := by decide +kernel
theorem dX3_init_36 : decode cX3_init 36 = .ok (.dup, 1) := by decide +kernel
theorem dX3_init_37 : decode cX3_init 37 = .ok (.lconst 0, 1) := by decide +kernel
theorem dX3_init_38 : decode cX3_init 38 = .ok (.lconst 0, 1) := by decide +kernel
theorem dX3_init_39 : decode cX3_init 39 = .ok (.lconst 0, 1) := by decide +kernel
theorem dX3_init_40 : decode cX3_init 40 = .ok (.invokespecial 9, 3) := by decide +kernel
theorem dX3_init_43 : decode cX3_init 43 = .ok (.putfield 21, 3) := by decide +kernel
theorem dX3_init_46 : decode cX3_init 46 = .ok (.return_, 1) := by decide +kernel
theorem vk_X2_init : Cond.code yX2_init cX2_init 1 none ∈ ltb := List.mem_filter.mpr ⟨List.mem_append_right _ (List.mem_of_getElem? (i := 68) (by decide +kernel)), by decide +kernel⟩
theorem vn_X2 : Cond.initialized RX2 ∈ ltb := List.mem_filter.mpr ⟨List.mem_append_right _ (List.mem_of_getElem? (i := 5) (by decide +kernel)), by decide +kernel⟩
theorem mi_X2_init : Mi yX2_init yX2_init.cls 0 cX2_init 1 none := ⟨by decide +kernel, vk_X2_init, vn_X2, by decide⟩
theorem vv_X2_init : Cond.instanceMethod yX2_init ∈ ltb := List.mem_filter.mpr ⟨List.mem_append_right _ (List.mem_of_getElem? (i := 67) (by decide +kernel)), by decide +kernel⟩
theorem dX2_init_0 : decode cX2_init 0 = .ok (.aload_n 0, 1) := by decide +kernel
theorem dX2_init_1 : decode cX2_init 1 = .ok (.invokespecial 1, 3) := by decide +kernel
theorem dX2_init_4 : decode cX2_init 4 = .ok (.aload_n 0, 1) := by decide +kernel
theorem dX2_init_5 : decode cX2_init 5 = .ok (.new 7, 3) := by decide +kernel
theorem dX2_init_8 : decode cX2_init 8 = .ok (.dup, 1) := by decide +kernel
theorem dX2_init_9 : decode cX2_init 9 = .ok (.lconst 1, 1) := by decide +kernel
theorem dX2_init_10 : decode cX2_init 10 = .ok (.lconst 0, 1) := by decide +kernel
theorem dX2_init_11 : decode cX2_init 11 = .ok (.lconst 0, 1) := by decide +kernel
theorem dX2_init_12 : decode cX2_init 12 = .ok (.invokespecial 9, 3) := by decide +kernel
theorem dX2_init_15 : decode cX2_init 15 = .ok (.putfield 12, 3) := by decide +kernel
theorem dX2_init_18 : decode cX2_init 18 = .ok (.aload_n 0, 1) := by decide +kernel
theorem dX2_init_19 : decode cX2_init 19 = .ok (.new 7, 3) := by decide +kernel
theorem dX2_init_22 : decode cX2_init 22 = .ok (.dup, 1) := by decide +kernel
theorem dX2_init_23 : decode cX2_init 23 = .ok (.lconst 0, 1) := by decide +kernel
theorem dX2_init_24 : decode cX2_init 24 = .ok (.lconst 1, 1) := by decide +kernel
theorem dX2_init_25 : decode cX2_init 25 = .ok (.lconst 0, 1) := by decide +kernel
theorem dX2_init_26 : decode cX2_init 26 = .ok (.invokespecial 9, 3) := by decide +kernel
theorem dX2_init_29 : decode cX2_init 29 = .ok (.putfield 18, 3) := by decide +kernel
theorem dX2_init_32 : decode cX2_init 32 = .ok (.aload_n 0, 1) := by decide +kernel
theorem dX2_init_33 : decode cX2_init 33 = .ok (.new 7, 3) := by decide +kernel
theorem dX2_init_36 : decode cX2_init 36 = .ok (.dup, 1) := by decide +kernel
theorem dX2_init_37 : decode cX2_init 37 = .ok (.lconst 0, 1) := by decide +kernel
theorem dX2_init_38 : decode cX2_init 38 = .ok (.lconst 0, 1) := by decide +kernel
theorem dX2_init_39 : decode cX2_init 39 = .ok (.lconst 1, 1) := by decide +kernel
theorem dX2_init_40 : decode cX2_init 40 = .ok (.invokespecial 9, 3) := by decide +kernel
theorem dX2_init_43 : decode cX2_init 43 = .ok (.putfield 21, 3) := by decide +kernel
theorem dX2_init_46 : decode cX2_init 46 = .ok (.aload_n 0, 1) := by decide +kernel
theorem dX2_init_47 : decode cX2_init 47 = .ok (.new 7, 3) := by decide +kernel
theorem dX2_init_50 : decode cX2_init 50 = .ok (.dup, 1) := by decide +kernel
theorem dX2_init_51 : decode cX2_init 51 = .ok (.lconst 0, 1) := by decide +kernel
theorem dX2_init_52 : decode cX2_init 52 = .ok (.lconst 0, 1) := by decide +kernel
theorem dX2_init_53 : decode cX2_init 53 = .ok (.lconst 0, 1) := by decide +kernel
theorem dX2_init_54 : decode cX2_init 54 = .ok (.invokespecial 9, 3) := by decide +kernel
theorem dX2_init_57 : decode cX2_init 57 = .ok (.putfield 24, 3) := by decide +kernel
theorem dX2_init_60 : decode cX2_init 60 = .ok (.return_, 1) := by decide +kernel
theorem vk_X0_init : Cond.code yX0_init cX0_init 1 none ∈ ltb := List.mem_filter.mpr ⟨List.mem_append_right _ (List.mem_of_getElem? (i := 22) (by decide +kernel)), by decide +kernel⟩
theorem vn_X0 : Cond.initialized RX0 ∈ ltb := List.mem_filter.mpr ⟨List.mem_append_right _ (List.mem_of_getElem? (i := 2) (by decide +kernel)), by decide +kernel⟩
theorem mi_X0_init : Mi yX0_init yX0_init.cls 0 cX0_init 1 none := ⟨by decide +kernel, vk_X0_init, vn_X0, by decide⟩
theorem vv_X0_init : Cond.instanceMethod yX0_init ∈ ltb := List.mem_filter.mpr ⟨List.mem_append_right _ (List.mem_of_getElem? (i := 21) (by decide +kernel)), by decide +kernel⟩
theorem dX0_init_0 : decode cX0_init 0 = .ok (.aload_n 0, 1) := by decide +kernel
theorem dX0_init_1 : decode cX0_init 1 = .ok (.invokespecial 1, 3) := by decide +kernel
theorem dX0_init_4 : decode cX0_init 4 = .ok (.aload_n 0, 1) := by decide +kernel
theorem dX0_init_5 : decode cX0_init 5 = .ok (.new 7, 3) := by decide +kernel
theorem dX0_init_8 : decode cX0_init 8 = .ok (.dup, 1) := by decide +kernel
theorem dX0_init_9 : decode cX0_init 9 = .ok (.lconst 0, 1) := by decide +kernel
theorem dX0_init_10 : decode cX0_init 10 = .ok (.lconst 0, 1) := by decide +kernel
theorem dX0_init_11 : decode cX0_init 11 = .ok (.lconst 0, 1) := by decide +kernel
theorem dX0_init_12 : decode cX0_init 12 = .ok (.invokespecial 9, 3) := by decide +kernel
theorem dX0_init_15 : decode cX0_init 15 = .ok (.putfield 12, 3) := by decide +kernel
theorem dX0_init_18 : decode cX0_init 18 = .ok (.aload_n 0, 1) := by decide +kernel
theorem dX0_init_19 : decode cX0_init 19 = .ok (.new 7, 3) := by decide +kernel
theorem dX0_init_22 : decode cX0_init 22 = .ok (.dup, 1) := by decide +kernel
theorem dX0_init_23 : decode cX0_init 23 = .ok (.lconst 0, 1) := by decide +kernel
theorem dX0_init_24 : decode cX0_init 24 = .ok (.lconst 0, 1) := by decide +kernel
theorem dX0_init_25 : decode cX0_init 25 = .ok (.lconst 0, 1) := by decide +kernel
theorem dX0_init_26 : decode cX0_init 26 = .ok (.invokespecial 9, 3) := by decide +kernel
theorem dX0_init_29 : decode cX0_init 29 = .ok (.putfield 18, 3) := by decide +kernel
theorem dX0_init_32 : decode cX0_init 32 = .ok (.aload_n 0, 1) := by decide +kernel
theorem dX0_init_33 : decode cX0_init 33 = .ok (.new 21, 3) := by decide +kernel
theorem dX0_init_36 : decode cX0_init 36 = .ok (.dup, 1) := by decide +kernel
theorem dX0_init_37 : decode cX0_init 37 = .ok (.invokespecial 23, 3) := by decide +kernel
theorem dX0_init_40 : decode cX0_init 40 = .ok (.putfield 24, 3) := by decide +kernel
theorem dX0_init_43 : decode cX0_init 43 = .ok (.aload_n 0, 1) := by decide +kernel
theorem dX0_init_44 : decode cX0_init 44 = .ok (.new 28, 3) := by decide +kernel
theorem dX0_init_47 : decode cX0_init 47 = .ok (.dup, 1) := by decide +kernel
theorem dX0_init_48 : decode cX0_init 48 = .ok (.invokespecial 30, 3) := by decide +kernel
theorem dX0_init_51 : decode cX0_init 51 = .ok (.putfield 31, 3) := by decide +kernel
theorem dX0_init_54 : decode cX0_init 54 = .ok (.aload_n 0, 1) := by decide +kernel
theorem dX0_init_55 : decode cX0_init 55 = .ok (.new 7, 3) := by decide +kernel
theorem dX0_init_58 : decode cX0_init 58 = .ok (.dup, 1) := by decide +kernel
theorem dX0_init_59 : decode cX0_init 59 = .ok (.lconst 0, 1) := by decide +kernel
theorem dX0_init_60 : decode cX0_init 60 = .ok (.lconst 0, 1) := by decide +kernel
theorem dX0_init_61 : decode cX0_init 61 = .ok (.lconst 0, 1) := by decide +kernel
theorem dX0_init_62 : decode cX0_init 62 = .ok (.invokespecial 9, 3) := by decide +kernel
theorem dX0_init_65 : decode cX0_init 65 = .ok (.putfield 35, 3) := by decide +kernel
theorem dX0_init_68 : decode cX0_init 68 = .ok (.aload_n 0, 1) := by decide +kernel
theorem dX0_init_69 : decode cX0_init 69 = .ok (.new 7, 3) := by decide +kernel
theorem dX0_init_72 : decode cX0_init 72 = .ok (.dup, 1) := by decide +kernel
theorem dX0_init_73 : decode cX0_init 73 = .ok (.lconst 0, 1) := by decide +kernel
theorem dX0_init_74 : decode cX0_init 74 = .ok (.lconst 0, 1) := by decide +kernel
theorem dX0_init_75 : decode cX0_init 75 = .ok (.lconst 0, 1) := by decide +kernel
theorem dX0_init_76 : decode cX0_init 76 = .ok (.invokespecial 9, 3) := by decide +kernel
theorem dX0_init_79 : decode cX0_init 79 = .ok (.putfield 38, 3) := by decide +kernel
theorem dX0_init_82 : decode cX0_init 82 = .ok (.aload_n 0, 1) := by decide +kernel
theorem dX0_init_83 : decode cX0_init 83 = .ok (.new 7, 3) := by decide +kernel
theorem dX0_init_86 : decode cX0_init 86 = .ok (.dup, 1) := by decide +kernel
theorem dX0_init_87 : decode cX0_init 87 = .ok (.lconst 0, 1) := by decide +kernel
theorem dX0_init_88 : decode cX0_init 88 = .ok (.lconst 0, 1) := by decide +kernel
theorem dX0_init_89 : decode cX0_init 89 = .ok (.lconst 0, 1) := by decide +kernel
theorem dX0_init_90 : decode cX0_init 90 = .ok (.invokespecial 9, 3) := by decide +kernel
theorem dX0_init_93 : decode cX0_init 93 = .ok (.putfield 41, 3) := by decide +kernel
theorem dX0_init_96 : decode cX0_init 96 = .ok (.aload_n 0, 1) := by decide +kernel
theorem dX0_init_97 : decode cX0_init 97 = .ok (.new 7, 3) := by decide +kernel
theorem dX0_init_100 : decode cX0_init 100 = .ok (.dup, 1) := by decide +kernel
theorem dX0_init_101 : decode cX0_init 101 = .ok (.lconst 0, 1) := by decide +kernel
theorem dX0_init_102 : decode cX0_init 102 = .ok (.lconst 0, 1) := by decide +kernel
theorem dX0_init_103 : decode cX0_init 103 = .ok (.lconst 0, 1) := by decide +kernel
theorem dX0_init_104 : decode cX0_init 104 = .ok (.invokespecial 9, 3) := by decide +kernel
theorem dX0_init_107 : decode cX0_init 107 = .ok (.putfield 44, 3) := by decide +kernel
theorem dX0_init_110 : decode cX0_init 110 = .ok (.aload_n 0, 1) := by decide +kernel
theorem dX0_init_111 : decode cX0_init 111 = .ok (.new 7, 3) := by decide +kernel
theorem dX0_init_114 : decode cX0_init 114 = .ok (.dup, 1) := by decide +kernel
theorem dX0_init_115 : decode cX0_init 115 = .ok (.lconst 0, 1) := by decide +kernel
theorem dX0_init_116 : decode cX0_init 116 = .ok (.lconst 0, 1) := by decide +kernel
theorem dX0_init_117 : decode cX0_init 117 = .ok (.lconst 0, 1) := by decide +kernel
theorem dX0_init_118 : decode cX0_init 118 = .ok (.invokespecial 9, 3) := by decide +kernel
theorem dX0_init_121 : decode cX0_init 121 = .ok (.putfield 47, 3) := by decide +kernel
theorem dX0_init_124 : decode cX0_init 124 = .ok (.aload_n 0, 1) := by decide +kernel
theorem dX0_init_125 : decode cX0_init 125 = .ok (.new 7, 3) := by decide +kernel
theorem dX0_init_128 : decode cX0_init 128 = .ok (.dup, 1) := by decide +kernel
theorem dX0_init_129 : decode cX0_init 129 = .ok (.lconst 0, 1) := by decide +kernel
theorem dX0_init_130 : decode cX0_init 130 = .ok (.lconst 0, 1) := by decide +kernel
theorem dX0_init_131 : decode cX0_init 131 = .ok (.lconst 0, 1) := by decide +kernel
theorem dX0_init_132 : decode cX0_init 132 = .ok (.invokespecial 9, 3) := by decide +kernel
theorem dX0_init_135 : decode cX0_init 135 = .ok (.putfield 50, 3) := by decide +kernel
theorem dX0_init_138 : decode cX0_init 138 = .ok (.aload_n 0, 1) := by decide +kernel
theorem dX0_init_139 : decode cX0_init 139 = .ok (.new 7, 3) := by decide +kernel
theorem dX0_init_142 : decode cX0_init 142 = .ok (.dup, 1) := by decide +kernel
theorem dX0_init_143 : decode cX0_init 143 = .ok (.lconst 0, 1) := by decide +kernel
theorem dX0_init_144 : decode cX0_init 144 = .ok (.lconst 0, 1) := by decide +kernel
theorem dX0_init_145 : decode cX0_init 145 = .ok (.lconst 0, 1) := by decide +kernel
theorem dX0_init_146 : decode cX0_init 146 = .ok (.invokespecial 9, 3) := by decide +kernel
theorem dX0_init_149 : decode cX0_init 149 = .ok (.putfield 53, 3) := by decide +kernel
theorem dX0_init_152 : decode cX0_init 152 = .ok (.aload_n 0, 1) := by decide +kernel
theorem dX0_init_153 : decode cX0_init 153 = .ok (.new 7, 3) := by decide +kernel
theorem dX0_init_156 : decode cX0_init 156 = .ok (.dup, 1) := by decide +kernel
theorem dX0_init_157 : decode cX0_init 157 = .ok (.lconst 0, 1) := by decide +kernel
theorem dX0_init_158 : decode cX0_init 158 = .ok (.lconst 0, 1) := by decide +kernel
theorem dX0_init_159 : decode cX0_init 159 = .ok (.lconst 0, 1) := by decide +kernel
theorem dX0_init_160 : decode cX0_init 160 = .ok (.invokespecial 9, 3) := by decide +kernel
theorem dX0_init_163 : decode cX0_init 163 = .ok (.putfield 56, 3) := by decide +kernel
theorem dX0_init_166 : decode cX0_init 166 = .ok (.aload_n 0, 1) := by decide +kernel
theorem dX0_init_167 : decode cX0_init 167 = .ok (.new 7, 3) := by decide +kernel
theorem dX0_init_170 : decode cX0_init 170 = .ok (.dup, 1) := by decide +kernel
theorem dX0_init_171 : decode cX0_init 171 = .ok (.lconst 0, 1) := by decide +kernel
theorem dX0_init_172 : decode cX0_init 172 = .ok (.lconst 0, 1) := by decide +kernel
theorem dX0_init_173 : decode cX0_init 173 = .ok (.lconst 0, 1) := by decide +kernel
theorem dX0_init_174 : decode cX0_init 174 = .ok (.invokespecial 9, 3) := by decide +kernel
theorem dX0_init_177 : decode cX0_init 177 = .ok (.putfield 59, 3) := by decide +kernel
theorem dX0_init_180 : decode cX0_init 180 = .ok (.aload_n 0, 1) := by decide +kernel
theorem dX0_init_181 : decode cX0_init 181 = .ok (.new 7, 3) := by decide +kernel
theorem dX0_init_184 : decode cX0_init 184 = .ok (.dup, 1) := by decide +kernel
theorem dX0_init_185 : decode cX0_init 185 = .ok (.lconst 0, 1) := by decide +kernel
theorem dX0_init_186 : decode cX0_init 186 = .ok (.lconst 0, 1) := by decide +kernel
theorem dX0_init_187 : decode cX0_init 187 = .ok (.lconst 0, 1) := by decide +kernel
theorem dX0_init_188 : decode cX0_init 188 = .ok (.invokespecial 9, 3) := by decide +kernel
theorem dX0_init_191 : decode cX0_init 191 = .ok (.putfield 62, 3) := by decide +kernel
theorem dX0_init_194 : decode cX0_init 194 = .ok (.return_, 1) := by decide +kernel
theorem vi_X4 : Cond.instantiable RX4 3 ∈ ltb := List.mem_filter.mpr ⟨List.mem_append_right _ (List.mem_of_getElem? (i := 25) (by decide +kernel)), by decide +kernel⟩
theorem vi_X3 : Cond.instantiable RX3 3 ∈ ltb := List.mem_filter.mpr ⟨List.mem_append_right _ (List.mem_of_getElem? (i := 47) (by decide +kernel)), by decide +kernel⟩
theorem vi_X2 : Cond.instantiable RX2 4 ∈ ltb := List.mem_filter.mpr ⟨List.mem_append_right _ (List.mem_of_getElem? (i := 65) (by decide +kernel)), by decide +kernel⟩
theorem vi_X0 : Cond.instantiable RX0 18 ∈ ltb := List.mem_filter.mpr ⟨List.mem_append_right _ (List.mem_of_getElem? (i := 19) (by decide +kernel)), by decide +kernel⟩
section BD
variable {p : Program} {l : Launch} {e : Env} {R : Room} {s : State} {m : MethodId} {args : Array Value} {below : List Frame} {meth : Method} {c : Code} {Q : State → Prop} {H H0 : Heap} {locs : List Loc} {cells slots pc : Nat} {ls : Array Slot} {rest : List Value} {D : va_G} {c5 : C5} {A : Nat → Prop} {ws : va_W} {own : String} {cc : ByteArray} {nL h0 : Nat}
theorem bd_obj (C : CB D c5 own cc nL p s m args c) (hl0 : ls[0]? = some (.val (.ref h0))) (hls : ls.size = nL) {idx : Nat} (wl : Cond.methodLink own idx objectInit ∈ ltb) (d0 : decode cc pc = .ok (.aload_n 0, 1)) (d1 : decode cc (pc + 1) = .ok (.invokespecial idx, 3)) (hfr : 1 ≤ R.frames) (hlo : 12 ≤ R.locals)
    (kk : W p l e R s m args below meth c H locs cells slots Q (F0 m (pc + 4) ls [])) : W p l e R s m args below meth c H locs cells slots Q (F0 m pc ls []) := by
  obtain ⟨hx, hb, hml, hown, hts, hK, hN, hXA⟩ := C
  refine lv_aload_n hx hb d0 rfl hl0 ?_
  refine W.objInit hx hb hown (hts _ wl) (hts _ vv_obj) (hts _ vk_obj) rfl (by rw [hml]; exact hls) rfl d1 hfr (by show 2 * 0 + 0 + 12 ≤ R.locals; omega) ?_
  exact kk
end BD
theorem Cn.of {l : Launch} {y : MethodName} {cc : ByteArray} {maxL : Nat} {rm : Room} {ci : Nat} {fs0 As : List Value} {mc ms : Nat} {Sh : C5 → Nat → va_W → Prop} (hy : plainName y.cls = true ∧ y.name = "<init>") (hlen : ∀ h0 : Nat, (lg_sl (Value.ref h0 :: As)).length ≤ maxL)
    (body : ∀ (D : va_G) (c5 : C5) (h0 : Nat) (p : Program) (e : Env) (s : State) (m : MethodId) (below : List Frame) (meth : Method) (c : Code) (A : Nat → Prop) (Q : State → Prop), CB D c5 y.cls cc maxL p s m (Value.ref h0 :: As).toArray c → meth.name = "<init>" → (∀ x, s.heap.size ≤ x → A x) → ∀ ls : Array Slot, lv_has ls maxL (lv_args 0 (.ref h0 :: As)) → va_P D vwCl [(h0, .inr (ci, fs0))] s.heap → va_D A [(h0, .inr (ci, fs0))] → va_S A s.heap s.heap [] →
      (∀ (ws : va_W) (H : Heap) (locs : List Loc) (ls : Array Slot) (pc cells slots : Nat), decode cc pc = .ok (.return_, 1) → Sh c5 h0 ws → va_P D vwCl ws H → va_D A ws → va_S A s.heap H locs → cells ≤ mc → slots ≤ ms → W p l e rm s m (Value.ref h0 :: As).toArray below meth c H locs cells slots Q (F0 m pc ls [])) →
      W p l e rm s m (Value.ref h0 :: As).toArray below meth c s.heap [] 0 0 Q (F0 m 0 ls [])) : Cn l y cc maxL rm ci fs0 As mc ms Sh := by
  intro D c5 h0 sz
  refine Met.ofW (cc := cc) (maxL := maxL) (ret := none) hy.1 rfl ?_
  intro p e s m args below meth c s₁ B hml hv
  obtain ⟨rfl, hsz, hP, hK, hN, hXA⟩ := hv
  subst hsz
  have hts := ltb_code (atoms_spec (ws := .code y cc maxL none :: ltb) B.pre)
  have hin : meth.name = "<init>" := (name_of_methodNamed B.named B.method).1.trans hy.2
  have hl := lv_entry (Value.ref h0 :: As) (n := maxL) (hlen h0)
  rw [lg_entry_eq]
  have hlk := B.notSynchronized
  refine body D c5 h0 p e s m below meth c (nwA h0 s.heap.size) _ ⟨B.exec, B.bytes, hml, findClass_of_methodNamed B.named, hts, hK, hN, hXA⟩ hin (fun x h => Or.inr h) _ hl hP ⟨fun i j x y hi hj _ => ?_, fun k x hk => ?_⟩ va_S.rf (fun ws H locs ls pc cells slots hd hSh hP hD hS hc hs => ?_)
  · have h1 : i < 1 := (List.getElem?_eq_some_iff.mp hi).1
    have h2 : j < 1 := (List.getElem?_eq_some_iff.mp hj).1
    omega
  · have h1 : k < 1 := (List.getElem?_eq_some_iff.mp hk).1
    rw [show k = 0 by omega] at hk
    cases hk
    exact Or.inl rfl
  · exact W.widen hc hs (W.vret B.exec B.bytes B.returns (fun t ht hW => ⟨⟨rfl, ws, hSh, by rw [ht]; exact hP, hD⟩, hS.F ht⟩) hS.2.2 hd hlk)

theorem vm_X4_1 : Cond.methodLink RX4 1 objectInit ∈ ltb := List.mem_filter.mpr ⟨List.mem_append_right _ (List.mem_of_getElem? (i := 29) (by decide +kernel)), by decide +kernel⟩
theorem vf_X4_7 : Cond.fieldLink RX4 7 (TX4 0).1 (TX4 0).2.1 (TX4 0).2.2.1 ∈ ltb := List.mem_filter.mpr ⟨List.mem_append_right _ (List.mem_of_getElem? (i := 30) (by decide +kernel)), by decide +kernel⟩
theorem vf_X4_13 : Cond.fieldLink RX4 13 (TX4 1).1 (TX4 1).2.1 (TX4 1).2.2.1 ∈ ltb := List.mem_filter.mpr ⟨List.mem_append_right _ (List.mem_of_getElem? (i := 33) (by decide +kernel)), by decide +kernel⟩
theorem vf_X4_16 : Cond.fieldLink RX4 16 (TX4 2).1 (TX4 2).2.1 (TX4 2).2.2.1 ∈ ltb := List.mem_filter.mpr ⟨List.mem_append_right _ (List.mem_of_getElem? (i := 36) (by decide +kernel)), by decide +kernel⟩
set_option maxRecDepth 100000 in
set_option maxHeartbeats 4000000 in
theorem cn_X4 (l : Launch) (x y z : Int64) : Cn l yX4_init cX4_init 7 (rmb 1 0 0) 3 [.long 0, .long 0, .long 0] [.long x, .long y, .long z] 0 0 (fun _ h0 ws => ws = [(h0, .inr (3, [.long x, .long y, .long z]))]) := by
  refine Cn.of (by decide) (fun _ => Nat.le_of_ble_eq_true rfl) ?_
  intro D c5 h0 p e s m below meth c A Q C hin hA ls hl hP hD hS ret
  have hl : lv_has ls 7 [(0, .ref h0), (1, .long x), (3, .long y), (5, .long z)] := hl
  have hx := C.1
  have hb := C.2.1
  refine bd_obj C (lv_at hl 0 rfl) hl.1 vm_X4_1 dX4_init_0 dX4_init_1 (Nat.le_of_ble_eq_true rfl) (Nat.le_of_ble_eq_true rfl) ?_
  refine lv_aload_n hx hb dX4_init_4 rfl (lv_at hl 0 rfl) ?_
  refine lv_lload_n hx hb dX4_init_5 rfl (lv_at hl 1 rfl) ?_
  refine bd_put C cls3 (k := 0) (by decide) vf_X4_7 rfl rfl rfl (Nat.le_of_ble_eq_true rfl) hP hD hS dX4_init_6 (fun H locs hP hD hS => ?_)
  refine lv_aload_n hx hb dX4_init_9 rfl (lv_at hl 0 rfl) ?_
  refine lv_lload_n hx hb dX4_init_10 rfl (lv_at hl 2 rfl) ?_
  refine bd_put C cls3 (k := 1) (by decide) vf_X4_13 rfl rfl rfl (Nat.le_of_ble_eq_true rfl) hP hD hS dX4_init_11 (fun H locs hP hD hS => ?_)
  refine lv_aload_n hx hb dX4_init_14 rfl (lv_at hl 0 rfl) ?_
  refine lv_lload hx hb dX4_init_15 (lv_at hl 3 rfl) ?_
  refine bd_put C cls3 (k := 2) (by decide) vf_X4_16 rfl rfl rfl (Nat.le_of_ble_eq_true rfl) hP hD hS dX4_init_17 (fun H locs hP hD hS => ?_)
  exact ret _ H locs ls _ _ _ dX4_init_20 rfl hP hD hS (Nat.le_refl _) (Nat.le_refl _)
section BD
variable {p : Program} {l : Launch} {e : Env} {R : Room} {s : State} {m : MethodId} {args : Array Value} {below : List Frame} {meth : Method} {c : Code} {Q : State → Prop} {H H0 : Heap} {locs : List Loc} {cells slots pc : Nat} {ls : Array Slot} {rest : List Value} {D : va_G} {c5 : C5} {A : Nat → Prop} {ws : va_W} {own : String} {cc : ByteArray} {nL h0 : Nat}
/-- a field that is a new vector -/
theorem bd_fldV (C : CB D c5 own cc nL p s m args c) (hin2 : meth.name = "<init>") (hA : ∀ x, H0.size ≤ x → A x) (hl0 : ls[0]? = some (.val (.ref h0))) (hls : ls.size = nL) {ci N k i1 i2 i3 : Nat} {Cs : String} {T : u_T} {ty0 : Nat → FieldType} (hC : Cls ci Cs T N ty0) (hk : k < N) (wcl : Cond.classLink own i1 RX4 ∈ ltb) (wml : Cond.methodLink own i2 yX4_init ∈ ltb) (wf : Cond.fieldLink own i3 (T k).1 (T k).2.1 (T k).2.2.1 ∈ ltb) (hfin : (T k).2.2.2 = true) (hdecl : (T k).1 = own) (hty : ty0 k = .object "LimbWorks$Vector") {fs : List Value} (hfl : k < fs.length) {v : V3} {n1 n2 n3 : Fin 2}
    (d0 : decode cc pc = .ok (.aload_n 0, 1)) (d1 : decode cc (pc + 1) = .ok (.new i1, 3)) (d4 : decode cc (pc + 4) = .ok (.dup, 1)) (d5 : decode cc (pc + 5) = .ok (.lconst n1, 1)) (d6 : decode cc (pc + 6) = .ok (.lconst n2, 1)) (d7 : decode cc (pc + 7) = .ok (.lconst n3, 1)) (d8 : decode cc (pc + 8) = .ok (.invokespecial i2, 3)) (d11 : decode cc (pc + 11) = .ok (.putfield i3, 3))
    (hfr : 2 ≤ R.frames) (hlo : 72 ≤ R.locals) (hcells : cells + 1 ≤ R.cells) (hslots : slots + 3 ≤ R.slots) (hP : va_P D vwCl ((h0, .inr (ci, fs)) :: ws) H) (hD : va_D A ((h0, .inr (ci, fs)) :: ws)) (hS : va_S A H0 H locs) (hv : ([.long (Int64.ofNat n1.val), .long (Int64.ofNat n2.val), .long (Int64.ofNat n3.val)] : List Value) = vfs v)
    (kk : ∀ (q : Nat) (H1 : Heap) (locs1 : List Loc), va_P D vwCl ((h0, .inr (ci, fs.set k (.ref q))) :: (ws ++ [(q, .inr (3, vfs v))])) H1 → va_D A ((h0, .inr (ci, fs.set k (.ref q))) :: (ws ++ [(q, .inr (3, vfs v))])) → va_S A H0 H1 locs1 → W p l e R s m args below meth c H1 locs1 (cells + 1) (slots + 3) Q (F0 m (pc + 14) ls [])) :
    W p l e R s m args below meth c H locs cells slots Q (F0 m pc ls []) := by
  have hx := C.1
  have hb := C.2.1
  refine lv_aload_n hx hb d0 rfl hl0 ?_
  refine bd_new C cls3 wcl vi_X4 vn_X4 (fs0 := [.long 0, .long 0, .long 0]) (fun j hj => by rcases (show j = 0 ∨ j = 1 ∨ j = 2 by omega) with rfl | rfl | rfl <;> rfl) hP hD hS hA hcells hslots d1 (fun q H1 hP1 hD1 hS1 => ?_)
  refine lv_dup hx hb d4 rfl ?_
  refine lv_lconst hx hb d5 rfl ?_
  refine lv_lconst hx hb d6 rfl ?_
  refine lv_lconst hx hb d7 rfl ?_
  refine bd_init (rest := [.ref q, .ref h0]) C (cn_X4 l _ _ _) mi_X4_init vv_X4_init wml rfl rfl ⟨hfr, by show 8 + (7 + 11) + 46 * 1 ≤ R.locals; omega⟩ (Nat.le_of_ble_eq_true rfl) hP1 hD1 hS1 hA hls hcells hslots rfl d8 (fun ws' H2 locs2 hSh hP2 hD2 hS2 => ?_)
  subst hSh
  rw [hv] at hP2 hD2
  exact bd_putF C hin2 hC hk wf hfin hdecl (v := .ref q) (by rw [hty]; rfl) (by rw [hty]; rfl) hfl hP2 hD2 hS2 d11 (fun H3 locs3 hP3 hD3 hS3 => kk q H3 locs3 hP3 hD3 hS3)
/-- a field that is a new object of a nest mate -/
theorem bd_fldO (C : CB D c5 own cc nL p s m args c) (hin2 : meth.name = "<init>") (hA : ∀ x, H0.size ≤ x → A x) (hl0 : ls[0]? = some (.val (.ref h0))) (hls : ls.size = nL) {ci N k i1 i2 i3 : Nat} {Cs : String} {T : u_T} {ty0 : Nat → FieldType} (hC : Cls ci Cs T N ty0) (hk : k < N)
    {C2 : String} (wcl : Cond.classLink own i1 C2 ∈ ltb) {ci2 N2 : Nat} {T2 : u_T} {ty2 : Nat → FieldType} (hC2 : Cls ci2 C2 T2 N2 ty2) (wins : Cond.instantiable C2 N2 ∈ ltb) (wini : Cond.initialized C2 ∈ ltb) {fs2 : List Value} (hfs2 : ∀ j, j < N2 → defaultValue (ty2 j) = vp_V fs2 j)
    {y : MethodName} {host : String} {c2 : ByteArray} {maxL d2 mc ms : Nat} {Sh : C5 → Nat → va_W → Prop} (hM : Cn l y c2 maxL (rmb d2 mc ms) ci2 fs2 [] mc ms Sh) (hI : Mi y y.cls 0 c2 maxL none) (wi : Cond.instanceMethod y ∈ ltb) (wl : va_Nw (.methodLinkNest own i2 y host) s) (hy : y.name = "<init>")
    (wf : Cond.fieldLink own i3 (T k).1 (T k).2.1 (T k).2.2.1 ∈ ltb) (hfin : (T k).2.2.2 = true) (hdecl : (T k).1 = own) (hnr : ∀ q : Nat, narrow (ty0 k) (.ref q) = .ref q) (hft : ∀ q : Nat, fits (ty0 k) (.ref q) = true) {fs : List Value} (hfl : k < fs.length)
    (d0 : decode cc pc = .ok (.aload_n 0, 1)) (d1 : decode cc (pc + 1) = .ok (.new i1, 3)) (d4 : decode cc (pc + 4) = .ok (.dup, 1)) (d5 : decode cc (pc + 5) = .ok (.invokespecial i2, 3)) (d8 : decode cc (pc + 8) = .ok (.putfield i3, 3))
    (hfr : d2 + 1 ≤ R.frames) (hlo : 8 + (maxL + 11) + 46 * d2 ≤ R.locals) (hcells : cells + 1 + mc ≤ R.cells) (hslots : slots + N2 + ms ≤ R.slots) (hP : va_P D vwCl ((h0, .inr (ci, fs)) :: ws) H) (hD : va_D A ((h0, .inr (ci, fs)) :: ws)) (hS : va_S A H0 H locs)
    (kk : ∀ (q : Nat) (ws' : va_W) (H1 : Heap) (locs1 : List Loc), Sh c5 q ws' → va_P D vwCl ((h0, .inr (ci, fs.set k (.ref q))) :: (ws ++ ws')) H1 → va_D A ((h0, .inr (ci, fs.set k (.ref q))) :: (ws ++ ws')) → va_S A H0 H1 locs1 → W p l e R s m args below meth c H1 locs1 (cells + 1 + mc) (slots + N2 + ms) Q (F0 m (pc + 11) ls [])) :
    W p l e R s m args below meth c H locs cells slots Q (F0 m pc ls []) := by
  have hx := C.1
  have hb := C.2.1
  refine lv_aload_n hx hb d0 rfl hl0 ?_
  refine bd_new C hC2 wcl wins wini hfs2 hP hD hS hA (by omega) (by omega) d1 (fun q H1 hP1 hD1 hS1 => ?_)
  refine lv_dup hx hb d4 rfl ?_
  refine bd_initN (rest := [.ref q, .ref h0]) C hM hI wi wl hy rfl ⟨hfr, hlo⟩ (Nat.le_of_ble_eq_true rfl) hP1 hD1 hS1 hA hls hcells hslots rfl d5 (fun ws' H2 locs2 hSh hP2 hD2 hS2 => ?_)
  exact bd_putF C hin2 hC hk wf hfin hdecl (v := .ref q) (hnr q) (hft q) hfl hP2 hD2 hS2 d8 (fun H3 locs3 hP3 hD3 hS3 => kk q ws' H3 locs3 hSh hP3 hD3 hS3)
end BD
def V0 : va_E := .inr (3, vfs (0, 0, 0))
def shI (_ : C5) (h0 : Nat) (ws : va_W) : Prop := ∃ i1 i2 i3 : Nat, ws = [(h0, .inr (2, [.ref i1, .ref i2, .ref i3])), (i1, V0), (i2, V0), (i3, V0)]
def shF (_ : C5) (h0 : Nat) (ws : va_W) : Prop := ∃ f1 f2 f3 f4 : Nat, ws = [(h0, .inr (1, [.ref f1, .ref f2, .ref f3, .ref f4])), (f1, .inr (3, vfs (1, 0, 0))), (f2, .inr (3, vfs (0, 1, 0))), (f3, .inr (3, vfs (0, 0, 1))), (f4, V0)]
def bks : List Nat := [2, 50, 51, 3, 52, 53, 54, 4, 55, 56, 57, 58, 59, 60, 61, 62, 63, 64, 65, 66, 67, 68]
/-- the state of new objects -/
def s0 : SS := (fun kd _ => if kd = 55 then (1, 0, 0) else if kd = 56 then (0, 1, 0) else if kd = 57 then (0, 0, 1) else (0, 0, 0), fun _ _ _ => 0, fun _ _ => 0)
def G0 (c5 : C5) (ad : Nat → Nat → Nat) : Geo := ((fun _ => 0, fun _ _ => 0), c5, ad)
def bwl (c5 : C5) (ad : Nat → Nat) : va_W := bks.map (fun kd => (ad kd, cellOf (G0 c5 (fun a _ => ad a)) s0 kd 0))
def shB (c5 : C5) (h0 : Nat) (ws : va_W) : Prop := ∃ ad : Nat → Nat, ad 2 = h0 ∧ ws = bwl c5 ad
def bfs0 : List Value := [.int 0, .int 0, .null, .long 0, .long 0, .null, .null, .null, .null, .null, .null, .null, .null, .null, .null, .null, .null, .null]
theorem hf3 : ∀ j, j < 3 → defaultValue (tyX3 j) = vp_V [.null, .null, .null] j := by decide +kernel
theorem hf2 : ∀ j, j < 4 → defaultValue (tyX2 j) = vp_V [.null, .null, .null, .null] j := by decide +kernel

theorem vm_X3_1 : Cond.methodLink RX3 1 objectInit ∈ ltb := List.mem_filter.mpr ⟨List.mem_append_right _ (List.mem_of_getElem? (i := 51) (by decide +kernel)), by decide +kernel⟩
theorem vc_X3_7 : Cond.classLink RX3 7 RX4 ∈ ltb := List.mem_filter.mpr ⟨List.mem_append_right _ (List.mem_of_getElem? (i := 52) (by decide +kernel)), by decide +kernel⟩
theorem vm_X3_9 : Cond.methodLink RX3 9 yX4_init ∈ ltb := List.mem_filter.mpr ⟨List.mem_append_right _ (List.mem_of_getElem? (i := 53) (by decide +kernel)), by decide +kernel⟩
theorem vf_X3_12 : Cond.fieldLink RX3 12 (TX3 0).1 (TX3 0).2.1 (TX3 0).2.2.1 ∈ ltb := List.mem_filter.mpr ⟨List.mem_append_right _ (List.mem_of_getElem? (i := 54) (by decide +kernel)), by decide +kernel⟩
theorem vf_X3_18 : Cond.fieldLink RX3 18 (TX3 1).1 (TX3 1).2.1 (TX3 1).2.2.1 ∈ ltb := List.mem_filter.mpr ⟨List.mem_append_right _ (List.mem_of_getElem? (i := 55) (by decide +kernel)), by decide +kernel⟩
theorem vf_X3_21 : Cond.fieldLink RX3 21 (TX3 2).1 (TX3 2).2.1 (TX3 2).2.2.1 ∈ ltb := List.mem_filter.mpr ⟨List.mem_append_right _ (List.mem_of_getElem? (i := 56) (by decide +kernel)), by decide +kernel⟩
set_option maxRecDepth 100000 in
set_option maxHeartbeats 4000000 in
theorem cn_X3 (l : Launch) : Cn l yX3_init cX3_init 1 (rmb 2 3 9) 2 [.null, .null, .null] [] 3 9 shI := by
  refine Cn.of (by decide) (fun _ => Nat.le_of_ble_eq_true rfl) ?_
  intro D c5 h0 p e s m below meth c A Q C hin hA ls hl hP hD hS ret
  have hl : lv_has ls 1 [(0, .ref h0)] := hl
  refine bd_obj C (lv_at hl 0 rfl) hl.1 vm_X3_1 dX3_init_0 dX3_init_1 (Nat.le_of_ble_eq_true rfl) (Nat.le_of_ble_eq_true rfl) ?_
  refine bd_fldV C hin hA (lv_at hl 0 rfl) hl.1 cls2 (k := 0) (by decide) vc_X3_7 vm_X3_9 vf_X3_12 rfl rfl rfl (Nat.le_of_ble_eq_true rfl) (v := (0, 0, 0)) dX3_init_4 dX3_init_5 dX3_init_8 dX3_init_9 dX3_init_10 dX3_init_11 dX3_init_12 dX3_init_15 (Nat.le_of_ble_eq_true rfl) (Nat.le_of_ble_eq_true rfl) (Nat.le_of_ble_eq_true rfl) (Nat.le_of_ble_eq_true rfl) hP hD hS rfl (fun q1 H locs hP hD hS => ?_)
  refine bd_fldV C hin hA (lv_at hl 0 rfl) hl.1 cls2 (k := 1) (by decide) vc_X3_7 vm_X3_9 vf_X3_18 rfl rfl rfl (Nat.le_of_ble_eq_true rfl) (v := (0, 0, 0)) dX3_init_18 dX3_init_19 dX3_init_22 dX3_init_23 dX3_init_24 dX3_init_25 dX3_init_26 dX3_init_29 (Nat.le_of_ble_eq_true rfl) (Nat.le_of_ble_eq_true rfl) (Nat.le_of_ble_eq_true rfl) (Nat.le_of_ble_eq_true rfl) hP hD hS rfl (fun q2 H locs hP hD hS => ?_)
  refine bd_fldV C hin hA (lv_at hl 0 rfl) hl.1 cls2 (k := 2) (by decide) vc_X3_7 vm_X3_9 vf_X3_21 rfl rfl rfl (Nat.le_of_ble_eq_true rfl) (v := (0, 0, 0)) dX3_init_32 dX3_init_33 dX3_init_36 dX3_init_37 dX3_init_38 dX3_init_39 dX3_init_40 dX3_init_43 (Nat.le_of_ble_eq_true rfl) (Nat.le_of_ble_eq_true rfl) (Nat.le_of_ble_eq_true rfl) (Nat.le_of_ble_eq_true rfl) hP hD hS rfl (fun q3 H locs hP hD hS => ?_)
  exact ret _ H locs ls _ _ _ dX3_init_46 ⟨q1, q2, q3, rfl⟩ hP hD hS (Nat.le_of_ble_eq_true rfl) (Nat.le_of_ble_eq_true rfl)
theorem vm_X2_1 : Cond.methodLink RX2 1 objectInit ∈ ltb := List.mem_filter.mpr ⟨List.mem_append_right _ (List.mem_of_getElem? (i := 69) (by decide +kernel)), by decide +kernel⟩
theorem vc_X2_7 : Cond.classLink RX2 7 RX4 ∈ ltb := List.mem_filter.mpr ⟨List.mem_append_right _ (List.mem_of_getElem? (i := 70) (by decide +kernel)), by decide +kernel⟩
theorem vm_X2_9 : Cond.methodLink RX2 9 yX4_init ∈ ltb := List.mem_filter.mpr ⟨List.mem_append_right _ (List.mem_of_getElem? (i := 71) (by decide +kernel)), by decide +kernel⟩
theorem vf_X2_12 : Cond.fieldLink RX2 12 (TX2 0).1 (TX2 0).2.1 (TX2 0).2.2.1 ∈ ltb := List.mem_filter.mpr ⟨List.mem_append_right _ (List.mem_of_getElem? (i := 72) (by decide +kernel)), by decide +kernel⟩
theorem vf_X2_18 : Cond.fieldLink RX2 18 (TX2 1).1 (TX2 1).2.1 (TX2 1).2.2.1 ∈ ltb := List.mem_filter.mpr ⟨List.mem_append_right _ (List.mem_of_getElem? (i := 73) (by decide +kernel)), by decide +kernel⟩
theorem vf_X2_21 : Cond.fieldLink RX2 21 (TX2 2).1 (TX2 2).2.1 (TX2 2).2.2.1 ∈ ltb := List.mem_filter.mpr ⟨List.mem_append_right _ (List.mem_of_getElem? (i := 74) (by decide +kernel)), by decide +kernel⟩
theorem vf_X2_24 : Cond.fieldLink RX2 24 (TX2 3).1 (TX2 3).2.1 (TX2 3).2.2.1 ∈ ltb := List.mem_filter.mpr ⟨List.mem_append_right _ (List.mem_of_getElem? (i := 76) (by decide +kernel)), by decide +kernel⟩
set_option maxRecDepth 100000 in
set_option maxHeartbeats 4000000 in
theorem cn_X2 (l : Launch) : Cn l yX2_init cX2_init 1 (rmb 2 4 12) 1 [.null, .null, .null, .null] [] 4 12 shF := by
  refine Cn.of (by decide) (fun _ => Nat.le_of_ble_eq_true rfl) ?_
  intro D c5 h0 p e s m below meth c A Q C hin hA ls hl hP hD hS ret
  have hl : lv_has ls 1 [(0, .ref h0)] := hl
  refine bd_obj C (lv_at hl 0 rfl) hl.1 vm_X2_1 dX2_init_0 dX2_init_1 (Nat.le_of_ble_eq_true rfl) (Nat.le_of_ble_eq_true rfl) ?_
  refine bd_fldV C hin hA (lv_at hl 0 rfl) hl.1 cls1 (k := 0) (by decide) vc_X2_7 vm_X2_9 vf_X2_12 rfl rfl rfl (Nat.le_of_ble_eq_true rfl) (v := (1, 0, 0)) dX2_init_4 dX2_init_5 dX2_init_8 dX2_init_9 dX2_init_10 dX2_init_11 dX2_init_12 dX2_init_15 (Nat.le_of_ble_eq_true rfl) (Nat.le_of_ble_eq_true rfl) (Nat.le_of_ble_eq_true rfl) (Nat.le_of_ble_eq_true rfl) hP hD hS rfl (fun q1 H locs hP hD hS => ?_)
  refine bd_fldV C hin hA (lv_at hl 0 rfl) hl.1 cls1 (k := 1) (by decide) vc_X2_7 vm_X2_9 vf_X2_18 rfl rfl rfl (Nat.le_of_ble_eq_true rfl) (v := (0, 1, 0)) dX2_init_18 dX2_init_19 dX2_init_22 dX2_init_23 dX2_init_24 dX2_init_25 dX2_init_26 dX2_init_29 (Nat.le_of_ble_eq_true rfl) (Nat.le_of_ble_eq_true rfl) (Nat.le_of_ble_eq_true rfl) (Nat.le_of_ble_eq_true rfl) hP hD hS rfl (fun q2 H locs hP hD hS => ?_)
  refine bd_fldV C hin hA (lv_at hl 0 rfl) hl.1 cls1 (k := 2) (by decide) vc_X2_7 vm_X2_9 vf_X2_21 rfl rfl rfl (Nat.le_of_ble_eq_true rfl) (v := (0, 0, 1)) dX2_init_32 dX2_init_33 dX2_init_36 dX2_init_37 dX2_init_38 dX2_init_39 dX2_init_40 dX2_init_43 (Nat.le_of_ble_eq_true rfl) (Nat.le_of_ble_eq_true rfl) (Nat.le_of_ble_eq_true rfl) (Nat.le_of_ble_eq_true rfl) hP hD hS rfl (fun q3 H locs hP hD hS => ?_)
  refine bd_fldV C hin hA (lv_at hl 0 rfl) hl.1 cls1 (k := 3) (by decide) vc_X2_7 vm_X2_9 vf_X2_24 rfl rfl rfl (Nat.le_of_ble_eq_true rfl) (v := (0, 0, 0)) dX2_init_46 dX2_init_47 dX2_init_50 dX2_init_51 dX2_init_52 dX2_init_53 dX2_init_54 dX2_init_57 (Nat.le_of_ble_eq_true rfl) (Nat.le_of_ble_eq_true rfl) (Nat.le_of_ble_eq_true rfl) (Nat.le_of_ble_eq_true rfl) hP hD hS rfl (fun q4 H locs hP hD hS => ?_)
  exact ret _ H locs ls _ _ _ dX2_init_60 ⟨q1, q2, q3, q4, rfl⟩ hP hD hS (Nat.le_of_ble_eq_true rfl) (Nat.le_of_ble_eq_true rfl)
theorem vm_X0_1 : Cond.methodLink RX0 1 objectInit ∈ ltb := List.mem_filter.mpr ⟨List.mem_append_right _ (List.mem_of_getElem? (i := 23) (by decide +kernel)), by decide +kernel⟩
theorem vc_X0_7 : Cond.classLink RX0 7 RX4 ∈ ltb := List.mem_filter.mpr ⟨List.mem_append_right _ (List.mem_of_getElem? (i := 24) (by decide +kernel)), by decide +kernel⟩
theorem vm_X0_9 : Cond.methodLink RX0 9 yX4_init ∈ ltb := List.mem_filter.mpr ⟨List.mem_append_right _ (List.mem_of_getElem? (i := 26) (by decide +kernel)), by decide +kernel⟩
theorem vf_X0_12 : Cond.fieldLink RX0 12 (TX0 2).1 (TX0 2).2.1 (TX0 2).2.2.1 ∈ ltb := List.mem_filter.mpr ⟨List.mem_append_right _ (List.mem_of_getElem? (i := 89) (by decide +kernel)), by decide +kernel⟩
theorem vf_X0_18 : Cond.fieldLink RX0 18 (TX0 5).1 (TX0 5).2.1 (TX0 5).2.2.1 ∈ ltb := List.mem_filter.mpr ⟨List.mem_append_right _ (List.mem_of_getElem? (i := 95) (by decide +kernel)), by decide +kernel⟩
theorem vc_X0_21 : Cond.classLink RX0 21 RX3 ∈ ltb := List.mem_filter.mpr ⟨List.mem_append_right _ (List.mem_of_getElem? (i := 46) (by decide +kernel)), by decide +kernel⟩
theorem vf_X0_24 : Cond.fieldLink RX0 24 (TX0 6).1 (TX0 6).2.1 (TX0 6).2.2.1 ∈ ltb := List.mem_filter.mpr ⟨List.mem_append_right _ (List.mem_of_getElem? (i := 97) (by decide +kernel)), by decide +kernel⟩
theorem vc_X0_28 : Cond.classLink RX0 28 RX2 ∈ ltb := List.mem_filter.mpr ⟨List.mem_append_right _ (List.mem_of_getElem? (i := 64) (by decide +kernel)), by decide +kernel⟩
theorem vf_X0_31 : Cond.fieldLink RX0 31 (TX0 7).1 (TX0 7).2.1 (TX0 7).2.2.1 ∈ ltb := List.mem_filter.mpr ⟨List.mem_append_right _ (List.mem_of_getElem? (i := 99) (by decide +kernel)), by decide +kernel⟩
theorem vf_X0_35 : Cond.fieldLink RX0 35 (TX0 8).1 (TX0 8).2.1 (TX0 8).2.2.1 ∈ ltb := List.mem_filter.mpr ⟨List.mem_append_right _ (List.mem_of_getElem? (i := 100) (by decide +kernel)), by decide +kernel⟩
theorem vf_X0_38 : Cond.fieldLink RX0 38 (TX0 9).1 (TX0 9).2.1 (TX0 9).2.2.1 ∈ ltb := List.mem_filter.mpr ⟨List.mem_append_right _ (List.mem_of_getElem? (i := 101) (by decide +kernel)), by decide +kernel⟩
theorem vf_X0_41 : Cond.fieldLink RX0 41 (TX0 10).1 (TX0 10).2.1 (TX0 10).2.2.1 ∈ ltb := List.mem_filter.mpr ⟨List.mem_append_right _ (List.mem_of_getElem? (i := 102) (by decide +kernel)), by decide +kernel⟩
theorem vf_X0_44 : Cond.fieldLink RX0 44 (TX0 11).1 (TX0 11).2.1 (TX0 11).2.2.1 ∈ ltb := List.mem_filter.mpr ⟨List.mem_append_right _ (List.mem_of_getElem? (i := 103) (by decide +kernel)), by decide +kernel⟩
theorem vf_X0_47 : Cond.fieldLink RX0 47 (TX0 12).1 (TX0 12).2.1 (TX0 12).2.2.1 ∈ ltb := List.mem_filter.mpr ⟨List.mem_append_right _ (List.mem_of_getElem? (i := 105) (by decide +kernel)), by decide +kernel⟩
theorem vf_X0_50 : Cond.fieldLink RX0 50 (TX0 13).1 (TX0 13).2.1 (TX0 13).2.2.1 ∈ ltb := List.mem_filter.mpr ⟨List.mem_append_right _ (List.mem_of_getElem? (i := 106) (by decide +kernel)), by decide +kernel⟩
theorem vf_X0_53 : Cond.fieldLink RX0 53 (TX0 14).1 (TX0 14).2.1 (TX0 14).2.2.1 ∈ ltb := List.mem_filter.mpr ⟨List.mem_append_right _ (List.mem_of_getElem? (i := 107) (by decide +kernel)), by decide +kernel⟩
theorem vf_X0_56 : Cond.fieldLink RX0 56 (TX0 15).1 (TX0 15).2.1 (TX0 15).2.2.1 ∈ ltb := List.mem_filter.mpr ⟨List.mem_append_right _ (List.mem_of_getElem? (i := 108) (by decide +kernel)), by decide +kernel⟩
theorem vf_X0_59 : Cond.fieldLink RX0 59 (TX0 16).1 (TX0 16).2.1 (TX0 16).2.2.1 ∈ ltb := List.mem_filter.mpr ⟨List.mem_append_right _ (List.mem_of_getElem? (i := 109) (by decide +kernel)), by decide +kernel⟩
theorem vf_X0_62 : Cond.fieldLink RX0 62 (TX0 17).1 (TX0 17).2.1 (TX0 17).2.2.1 ∈ ltb := List.mem_filter.mpr ⟨List.mem_append_right _ (List.mem_of_getElem? (i := 110) (by decide +kernel)), by decide +kernel⟩
set_option maxRecDepth 100000 in
set_option maxHeartbeats 4000000 in
theorem cn_X0 (l : Launch) : Cn l yX0_init cX0_init 1 (rmb 3 21 64) 0 bfs0 [] 21 64 shB := by
  refine Cn.of (by decide) (fun _ => Nat.le_of_ble_eq_true rfl) ?_
  intro D c5 h0 p e s m below meth c A Q C hin hA ls hl hP hD hS ret
  have hl : lv_has ls 1 [(0, .ref h0)] := hl
  refine bd_obj C (lv_at hl 0 rfl) hl.1 vm_X0_1 dX0_init_0 dX0_init_1 (Nat.le_of_ble_eq_true rfl) (Nat.le_of_ble_eq_true rfl) ?_
  refine bd_fldV C hin hA (lv_at hl 0 rfl) hl.1 cls0 (k := 2) (by decide) vc_X0_7 vm_X0_9 vf_X0_12 rfl rfl rfl (Nat.le_of_ble_eq_true rfl) (v := (0, 0, 0)) dX0_init_4 dX0_init_5 dX0_init_8 dX0_init_9 dX0_init_10 dX0_init_11 dX0_init_12 dX0_init_15 (Nat.le_of_ble_eq_true rfl) (Nat.le_of_ble_eq_true rfl) (Nat.le_of_ble_eq_true rfl) (Nat.le_of_ble_eq_true rfl) hP hD hS rfl (fun q1 H locs hP hD hS => ?_)
  refine bd_fldV C hin hA (lv_at hl 0 rfl) hl.1 cls0 (k := 5) (by decide) vc_X0_7 vm_X0_9 vf_X0_18 rfl rfl rfl (Nat.le_of_ble_eq_true rfl) (v := (0, 0, 0)) dX0_init_18 dX0_init_19 dX0_init_22 dX0_init_23 dX0_init_24 dX0_init_25 dX0_init_26 dX0_init_29 (Nat.le_of_ble_eq_true rfl) (Nat.le_of_ble_eq_true rfl) (Nat.le_of_ble_eq_true rfl) (Nat.le_of_ble_eq_true rfl) hP hD hS rfl (fun q2 H locs hP hD hS => ?_)
  refine bd_fldO C hin hA (lv_at hl 0 rfl) hl.1 cls0 (k := 6) (by decide) vc_X0_21 cls2 vi_X3 vn_X3 hf3 (cn_X3 l) mi_X3_init vv_X3_init C.2.2.2.2.2.2.1.2.1 rfl vf_X0_24 rfl rfl (fun _ => rfl) (fun _ => rfl) (Nat.le_of_ble_eq_true rfl) dX0_init_32 dX0_init_33 dX0_init_36 dX0_init_37 dX0_init_40 (Nat.le_of_ble_eq_true rfl) (Nat.le_of_ble_eq_true rfl) (Nat.le_of_ble_eq_true rfl) (Nat.le_of_ble_eq_true rfl) hP hD hS (fun q3 ws3 H locs hSh hP hD hS => ?_)
  obtain ⟨i1, i2, i3, rfl⟩ := hSh
  refine bd_fldO C hin hA (lv_at hl 0 rfl) hl.1 cls0 (k := 7) (by decide) vc_X0_28 cls1 vi_X2 vn_X2 hf2 (cn_X2 l) mi_X2_init vv_X2_init C.2.2.2.2.2.2.1.2.2 rfl vf_X0_31 rfl rfl (fun _ => rfl) (fun _ => rfl) (Nat.le_of_ble_eq_true rfl) dX0_init_43 dX0_init_44 dX0_init_47 dX0_init_48 dX0_init_51 (Nat.le_of_ble_eq_true rfl) (Nat.le_of_ble_eq_true rfl) (Nat.le_of_ble_eq_true rfl) (Nat.le_of_ble_eq_true rfl) hP hD hS (fun q4 ws4 H locs hSh hP hD hS => ?_)
  obtain ⟨f1, f2, f3, f4, rfl⟩ := hSh
  refine bd_fldV C hin hA (lv_at hl 0 rfl) hl.1 cls0 (k := 8) (by decide) vc_X0_7 vm_X0_9 vf_X0_35 rfl rfl rfl (Nat.le_of_ble_eq_true rfl) (v := (0, 0, 0)) dX0_init_54 dX0_init_55 dX0_init_58 dX0_init_59 dX0_init_60 dX0_init_61 dX0_init_62 dX0_init_65 (Nat.le_of_ble_eq_true rfl) (Nat.le_of_ble_eq_true rfl) (Nat.le_of_ble_eq_true rfl) (Nat.le_of_ble_eq_true rfl) hP hD hS rfl (fun q5 H locs hP hD hS => ?_)
  refine bd_fldV C hin hA (lv_at hl 0 rfl) hl.1 cls0 (k := 9) (by decide) vc_X0_7 vm_X0_9 vf_X0_38 rfl rfl rfl (Nat.le_of_ble_eq_true rfl) (v := (0, 0, 0)) dX0_init_68 dX0_init_69 dX0_init_72 dX0_init_73 dX0_init_74 dX0_init_75 dX0_init_76 dX0_init_79 (Nat.le_of_ble_eq_true rfl) (Nat.le_of_ble_eq_true rfl) (Nat.le_of_ble_eq_true rfl) (Nat.le_of_ble_eq_true rfl) hP hD hS rfl (fun q6 H locs hP hD hS => ?_)
  refine bd_fldV C hin hA (lv_at hl 0 rfl) hl.1 cls0 (k := 10) (by decide) vc_X0_7 vm_X0_9 vf_X0_41 rfl rfl rfl (Nat.le_of_ble_eq_true rfl) (v := (0, 0, 0)) dX0_init_82 dX0_init_83 dX0_init_86 dX0_init_87 dX0_init_88 dX0_init_89 dX0_init_90 dX0_init_93 (Nat.le_of_ble_eq_true rfl) (Nat.le_of_ble_eq_true rfl) (Nat.le_of_ble_eq_true rfl) (Nat.le_of_ble_eq_true rfl) hP hD hS rfl (fun q7 H locs hP hD hS => ?_)
  refine bd_fldV C hin hA (lv_at hl 0 rfl) hl.1 cls0 (k := 11) (by decide) vc_X0_7 vm_X0_9 vf_X0_44 rfl rfl rfl (Nat.le_of_ble_eq_true rfl) (v := (0, 0, 0)) dX0_init_96 dX0_init_97 dX0_init_100 dX0_init_101 dX0_init_102 dX0_init_103 dX0_init_104 dX0_init_107 (Nat.le_of_ble_eq_true rfl) (Nat.le_of_ble_eq_true rfl) (Nat.le_of_ble_eq_true rfl) (Nat.le_of_ble_eq_true rfl) hP hD hS rfl (fun q8 H locs hP hD hS => ?_)
  refine bd_fldV C hin hA (lv_at hl 0 rfl) hl.1 cls0 (k := 12) (by decide) vc_X0_7 vm_X0_9 vf_X0_47 rfl rfl rfl (Nat.le_of_ble_eq_true rfl) (v := (0, 0, 0)) dX0_init_110 dX0_init_111 dX0_init_114 dX0_init_115 dX0_init_116 dX0_init_117 dX0_init_118 dX0_init_121 (Nat.le_of_ble_eq_true rfl) (Nat.le_of_ble_eq_true rfl) (Nat.le_of_ble_eq_true rfl) (Nat.le_of_ble_eq_true rfl) hP hD hS rfl (fun q9 H locs hP hD hS => ?_)
  refine bd_fldV C hin hA (lv_at hl 0 rfl) hl.1 cls0 (k := 13) (by decide) vc_X0_7 vm_X0_9 vf_X0_50 rfl rfl rfl (Nat.le_of_ble_eq_true rfl) (v := (0, 0, 0)) dX0_init_124 dX0_init_125 dX0_init_128 dX0_init_129 dX0_init_130 dX0_init_131 dX0_init_132 dX0_init_135 (Nat.le_of_ble_eq_true rfl) (Nat.le_of_ble_eq_true rfl) (Nat.le_of_ble_eq_true rfl) (Nat.le_of_ble_eq_true rfl) hP hD hS rfl (fun q10 H locs hP hD hS => ?_)
  refine bd_fldV C hin hA (lv_at hl 0 rfl) hl.1 cls0 (k := 14) (by decide) vc_X0_7 vm_X0_9 vf_X0_53 rfl rfl rfl (Nat.le_of_ble_eq_true rfl) (v := (0, 0, 0)) dX0_init_138 dX0_init_139 dX0_init_142 dX0_init_143 dX0_init_144 dX0_init_145 dX0_init_146 dX0_init_149 (Nat.le_of_ble_eq_true rfl) (Nat.le_of_ble_eq_true rfl) (Nat.le_of_ble_eq_true rfl) (Nat.le_of_ble_eq_true rfl) hP hD hS rfl (fun q11 H locs hP hD hS => ?_)
  refine bd_fldV C hin hA (lv_at hl 0 rfl) hl.1 cls0 (k := 15) (by decide) vc_X0_7 vm_X0_9 vf_X0_56 rfl rfl rfl (Nat.le_of_ble_eq_true rfl) (v := (0, 0, 0)) dX0_init_152 dX0_init_153 dX0_init_156 dX0_init_157 dX0_init_158 dX0_init_159 dX0_init_160 dX0_init_163 (Nat.le_of_ble_eq_true rfl) (Nat.le_of_ble_eq_true rfl) (Nat.le_of_ble_eq_true rfl) (Nat.le_of_ble_eq_true rfl) hP hD hS rfl (fun q12 H locs hP hD hS => ?_)
  refine bd_fldV C hin hA (lv_at hl 0 rfl) hl.1 cls0 (k := 16) (by decide) vc_X0_7 vm_X0_9 vf_X0_59 rfl rfl rfl (Nat.le_of_ble_eq_true rfl) (v := (0, 0, 0)) dX0_init_166 dX0_init_167 dX0_init_170 dX0_init_171 dX0_init_172 dX0_init_173 dX0_init_174 dX0_init_177 (Nat.le_of_ble_eq_true rfl) (Nat.le_of_ble_eq_true rfl) (Nat.le_of_ble_eq_true rfl) (Nat.le_of_ble_eq_true rfl) hP hD hS rfl (fun q13 H locs hP hD hS => ?_)
  refine bd_fldV C hin hA (lv_at hl 0 rfl) hl.1 cls0 (k := 17) (by decide) vc_X0_7 vm_X0_9 vf_X0_62 rfl rfl rfl (Nat.le_of_ble_eq_true rfl) (v := (0, 0, 0)) dX0_init_180 dX0_init_181 dX0_init_184 dX0_init_185 dX0_init_186 dX0_init_187 dX0_init_188 dX0_init_191 (Nat.le_of_ble_eq_true rfl) (Nat.le_of_ble_eq_true rfl) (Nat.le_of_ble_eq_true rfl) (Nat.le_of_ble_eq_true rfl) hP hD hS rfl (fun q14 H locs hP hD hS => ?_)
  exact ret _ H locs ls _ _ _ dX0_init_194 ⟨(fun a => match a with | 2 => h0 | 50 => q1 | 51 => q2 | 59 => q5 | 60 => q6 | 61 => q7 | 62 => q8 | 63 => q9 | 64 => q10 | 65 => q11 | 66 => q12 | 67 => q13 | 68 => q14 | 3 => q3 | 52 => i1 | 53 => i2 | 54 => i3 | 4 => q4 | 55 => f1 | 56 => f2 | 57 => f3 | _ => f4), rfl, rfl⟩ hP hD hS (Nat.le_of_ble_eq_true rfl) (Nat.le_of_ble_eq_true rfl)
