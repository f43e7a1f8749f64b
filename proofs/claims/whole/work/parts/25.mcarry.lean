/-! The reference: loads and carry -/
theorem g3_c (s : SS) (q : Nat × Nat) (b : Nat) {c : Nat} (hc : c < 3) : vco c (g3 s q b) = s.2.1 q.1 q.2 (b + c) := by
  rcases (show c = 0 ∨ c = 1 ∨ c = 2 by omega) with rfl | rfl | rfl <;> rfl
theorem vco_sca (v : V3) (f : ZF) (c : Nat) : vco c (v_sca v f) = vco c v * f := by
  unfold vco
  split <;> rfl
theorem vco_add (v u : V3) (c : Nat) : vco c (v_add v u) = vco c v + vco c u := by
  unfold vco
  split <;> rfl
def m_l1 (s : SS) (k : Nat) : SS := p3 s (33, 0) (3 * k) (v_mv (g3 s (27, 0) (9 * k)) (g3 s (27, 0) (9 * k + 3)) (g3 s (27, 0) (9 * k + 6)) (g3 s (20, 0) (16 * k + 5)))
def m_l2 (s : SS) (k : Nat) : SS := p3 s (36, 0) 0 (g3 s (33, 0) (3 * k))
def m_l3 (s : SS) (k : Nat) : SS := p3 s (34, 0) (3 * k) (g3 s (32, 0) (3 * k))
def m_l5 (s : SS) (k : Nat) : SS := p3 s (34, 0) (3 * k) (v_sca (g3 s (34, 0) (3 * k)) (s.2.1 20 0 (16 * k + 4)))
def m_l7 (s : SS) (k : Nat) : SS := p3 s (35, 0) (3 * k) (v_crs (g3 s (30, 0) (3 * k)) (g3 s (36, 0) 0))
def m_l9 (s : SS) (k : Nat) : SS := p3 s (35, 0) (3 * k) (v_adt (g3 s (35, 0) (3 * k)) (g3 s (36, 0) 0) 1)
def m_lod (s : SS) (k : Nat) : SS := m_l9 (m_hvy (m_l7 (m_hvy (m_l5 (m_swg (m_l3 (m_l2 (m_l1 s k) k) k) (34, 0) (3 * k) k (36, 0)) k) k (30, 0) (3 * k)) k) k (31, 0) (3 * k)) k
noncomputable def sp_X6_loads : Spc := fun av σ post => match av with
  | [.inr (.inr b), .inl k] => bif is6 b then (∃ k', k = nI k' ∧ k' < 8 ∧ post none (m_lod σ k')) else False
  | _ => False
theorem dX6_loads_0 : decode cX6_loads 0 = .ok (.aload_n 0, 1) := by decide +kernel
theorem dX6_loads_1 : decode cX6_loads 1 = .ok (.getfield 57, 3) := by decide +kernel
theorem dX6_loads_4 : decode cX6_loads 4 = .ok (.iconst 3, 1) := by decide +kernel
theorem dX6_loads_5 : decode cX6_loads 5 = .ok (.iload_n 1, 1) := by decide +kernel
theorem dX6_loads_6 : decode cX6_loads 6 = .ok (.imul, 1) := by decide +kernel
theorem dX6_loads_7 : decode cX6_loads 7 = .ok (.aload_n 0, 1) := by decide +kernel
theorem dX6_loads_8 : decode cX6_loads 8 = .ok (.getfield 39, 3) := by decide +kernel
theorem dX6_loads_11 : decode cX6_loads 11 = .ok (.bipush 9, 2) := by decide +kernel
theorem dX6_loads_13 : decode cX6_loads 13 = .ok (.iload_n 1, 1) := by decide +kernel
theorem dX6_loads_14 : decode cX6_loads 14 = .ok (.imul, 1) := by decide +kernel
theorem dX6_loads_15 : decode cX6_loads 15 = .ok (.aload_n 0, 1) := by decide +kernel
theorem dX6_loads_16 : decode cX6_loads 16 = .ok (.getfield 17, 3) := by decide +kernel
theorem dX6_loads_19 : decode cX6_loads 19 = .ok (.bipush 16, 2) := by decide +kernel
theorem dX6_loads_21 : decode cX6_loads 21 = .ok (.iload_n 1, 1) := by decide +kernel
theorem dX6_loads_22 : decode cX6_loads 22 = .ok (.imul, 1) := by decide +kernel
theorem dX6_loads_23 : decode cX6_loads 23 = .ok (.iconst 5, 1) := by decide +kernel
theorem dX6_loads_24 : decode cX6_loads 24 = .ok (.iadd, 1) := by decide +kernel
theorem dX6_loads_25 : decode cX6_loads 25 = .ok (.invokestatic 129, 3) := by decide +kernel
theorem dX6_loads_28 : decode cX6_loads 28 = .ok (.iconst 0, 1) := by decide +kernel
theorem dX6_loads_29 : decode cX6_loads 29 = .ok (.istore_n 2, 1) := by decide +kernel
theorem dX6_loads_30 : decode cX6_loads 30 = .ok (.iload_n 2, 1) := by decide +kernel
theorem dX6_loads_31 : decode cX6_loads 31 = .ok (.iconst 3, 1) := by decide +kernel
theorem dX6_loads_32 : decode cX6_loads 32 = .ok (.if_icmp .ge 25, 3) := by decide +kernel
theorem dX6_loads_35 : decode cX6_loads 35 = .ok (.aload_n 0, 1) := by decide +kernel
theorem dX6_loads_36 : decode cX6_loads 36 = .ok (.getfield 66, 3) := by decide +kernel
theorem dX6_loads_39 : decode cX6_loads 39 = .ok (.iload_n 2, 1) := by decide +kernel
theorem dX6_loads_40 : decode cX6_loads 40 = .ok (.aload_n 0, 1) := by decide +kernel
theorem dX6_loads_41 : decode cX6_loads 41 = .ok (.getfield 57, 3) := by decide +kernel
theorem dX6_loads_44 : decode cX6_loads 44 = .ok (.iconst 3, 1) := by decide +kernel
theorem dX6_loads_45 : decode cX6_loads 45 = .ok (.iload_n 1, 1) := by decide +kernel
theorem dX6_loads_46 : decode cX6_loads 46 = .ok (.imul, 1) := by decide +kernel
theorem dX6_loads_47 : decode cX6_loads 47 = .ok (.iload_n 2, 1) := by decide +kernel
theorem dX6_loads_48 : decode cX6_loads 48 = .ok (.iadd, 1) := by decide +kernel
theorem dX6_loads_49 : decode cX6_loads 49 = .ok (.laload, 1) := by decide +kernel
theorem dX6_loads_50 : decode cX6_loads 50 = .ok (.lastore, 1) := by decide +kernel
theorem dX6_loads_51 : decode cX6_loads 51 = .ok (.iinc 2 1, 3) := by decide +kernel
theorem dX6_loads_54 : decode cX6_loads 54 = .ok (.goto (-24), 3) := by decide +kernel
theorem dX6_loads_57 : decode cX6_loads 57 = .ok (.iconst 0, 1) := by decide +kernel
theorem dX6_loads_58 : decode cX6_loads 58 = .ok (.istore_n 2, 1) := by decide +kernel
theorem dX6_loads_59 : decode cX6_loads 59 = .ok (.iload_n 2, 1) := by decide +kernel
theorem dX6_loads_60 : decode cX6_loads 60 = .ok (.iconst 3, 1) := by decide +kernel
theorem dX6_loads_61 : decode cX6_loads 61 = .ok (.if_icmp .ge 29, 3) := by decide +kernel
theorem dX6_loads_64 : decode cX6_loads 64 = .ok (.aload_n 0, 1) := by decide +kernel
theorem dX6_loads_65 : decode cX6_loads 65 = .ok (.getfield 60, 3) := by decide +kernel
theorem dX6_loads_68 : decode cX6_loads 68 = .ok (.iconst 3, 1) := by decide +kernel
theorem dX6_loads_69 : decode cX6_loads 69 = .ok (.iload_n 1, 1) := by decide +kernel
theorem dX6_loads_70 : decode cX6_loads 70 = .ok (.imul, 1) := by decide +kernel
theorem dX6_loads_71 : decode cX6_loads 71 = .ok (.iload_n 2, 1) := by decide +kernel
theorem dX6_loads_72 : decode cX6_loads 72 = .ok (.iadd, 1) := by decide +kernel
theorem dX6_loads_73 : decode cX6_loads 73 = .ok (.aload_n 0, 1) := by decide +kernel
theorem dX6_loads_74 : decode cX6_loads 74 = .ok (.getfield 54, 3) := by decide +kernel
theorem dX6_loads_77 : decode cX6_loads 77 = .ok (.iconst 3, 1) := by decide +kernel
theorem dX6_loads_78 : decode cX6_loads 78 = .ok (.iload_n 1, 1) := by decide +kernel
theorem dX6_loads_79 : decode cX6_loads 79 = .ok (.imul, 1) := by decide +kernel
theorem dX6_loads_80 : decode cX6_loads 80 = .ok (.iload_n 2, 1) := by decide +kernel
theorem dX6_loads_81 : decode cX6_loads 81 = .ok (.iadd, 1) := by decide +kernel
theorem dX6_loads_82 : decode cX6_loads 82 = .ok (.laload, 1) := by decide +kernel
theorem dX6_loads_83 : decode cX6_loads 83 = .ok (.lastore, 1) := by decide +kernel
theorem dX6_loads_84 : decode cX6_loads 84 = .ok (.iinc 2 1, 3) := by decide +kernel
theorem dX6_loads_87 : decode cX6_loads 87 = .ok (.goto (-28), 3) := by decide +kernel
theorem dX6_loads_90 : decode cX6_loads 90 = .ok (.aload_n 0, 1) := by decide +kernel
theorem dX6_loads_91 : decode cX6_loads 91 = .ok (.aload_n 0, 1) := by decide +kernel
theorem dX6_loads_92 : decode cX6_loads 92 = .ok (.getfield 60, 3) := by decide +kernel
theorem dX6_loads_95 : decode cX6_loads 95 = .ok (.iconst 3, 1) := by decide +kernel
theorem dX6_loads_96 : decode cX6_loads 96 = .ok (.iload_n 1, 1) := by decide +kernel
theorem dX6_loads_97 : decode cX6_loads 97 = .ok (.imul, 1) := by decide +kernel
theorem dX6_loads_98 : decode cX6_loads 98 = .ok (.iload_n 1, 1) := by decide +kernel
theorem dX6_loads_99 : decode cX6_loads 99 = .ok (.aload_n 0, 1) := by decide +kernel
theorem dX6_loads_100 : decode cX6_loads 100 = .ok (.getfield 66, 3) := by decide +kernel
theorem dX6_loads_103 : decode cX6_loads 103 = .ok (.invokevirtual 139, 3) := by decide +kernel
theorem dX6_loads_106 : decode cX6_loads 106 = .ok (.iconst 0, 1) := by decide +kernel
theorem dX6_loads_107 : decode cX6_loads 107 = .ok (.istore_n 2, 1) := by decide +kernel
theorem dX6_loads_108 : decode cX6_loads 108 = .ok (.iload_n 2, 1) := by decide +kernel
theorem dX6_loads_109 : decode cX6_loads 109 = .ok (.iconst 3, 1) := by decide +kernel
theorem dX6_loads_110 : decode cX6_loads 110 = .ok (.if_icmp .ge 45, 3) := by decide +kernel
theorem dX6_loads_113 : decode cX6_loads 113 = .ok (.aload_n 0, 1) := by decide +kernel
theorem dX6_loads_114 : decode cX6_loads 114 = .ok (.getfield 60, 3) := by decide +kernel
theorem dX6_loads_117 : decode cX6_loads 117 = .ok (.iconst 3, 1) := by decide +kernel
theorem dX6_loads_118 : decode cX6_loads 118 = .ok (.iload_n 1, 1) := by decide +kernel
theorem dX6_loads_119 : decode cX6_loads 119 = .ok (.imul, 1) := by decide +kernel
theorem dX6_loads_120 : decode cX6_loads 120 = .ok (.iload_n 2, 1) := by decide +kernel
theorem dX6_loads_121 : decode cX6_loads 121 = .ok (.iadd, 1) := by decide +kernel
theorem dX6_loads_122 : decode cX6_loads 122 = .ok (.aload_n 0, 1) := by decide +kernel
theorem dX6_loads_123 : decode cX6_loads 123 = .ok (.getfield 60, 3) := by decide +kernel
theorem dX6_loads_126 : decode cX6_loads 126 = .ok (.iconst 3, 1) := by decide +kernel
theorem dX6_loads_127 : decode cX6_loads 127 = .ok (.iload_n 1, 1) := by decide +kernel
theorem dX6_loads_128 : decode cX6_loads 128 = .ok (.imul, 1) := by decide +kernel
theorem dX6_loads_129 : decode cX6_loads 129 = .ok (.iload_n 2, 1) := by decide +kernel
theorem dX6_loads_130 : decode cX6_loads 130 = .ok (.iadd, 1) := by decide +kernel
theorem dX6_loads_131 : decode cX6_loads 131 = .ok (.laload, 1) := by decide +kernel
theorem dX6_loads_132 : decode cX6_loads 132 = .ok (.aload_n 0, 1) := by decide +kernel
theorem dX6_loads_133 : decode cX6_loads 133 = .ok (.getfield 17, 3) := by decide +kernel
theorem dX6_loads_136 : decode cX6_loads 136 = .ok (.bipush 16, 2) := by decide +kernel
theorem dX6_loads_138 : decode cX6_loads 138 = .ok (.iload_n 1, 1) := by decide +kernel
theorem dX6_loads_139 : decode cX6_loads 139 = .ok (.imul, 1) := by decide +kernel
theorem dX6_loads_140 : decode cX6_loads 140 = .ok (.iconst 4, 1) := by decide +kernel
theorem dX6_loads_141 : decode cX6_loads 141 = .ok (.iadd, 1) := by decide +kernel
theorem dX6_loads_142 : decode cX6_loads 142 = .ok (.laload, 1) := by decide +kernel
theorem dX6_loads_143 : decode cX6_loads 143 = .ok (.lmul, 1) := by decide +kernel
theorem dX6_loads_144 : decode cX6_loads 144 = .ok (.ldc2_w 91, 3) := by decide +kernel
theorem dX6_loads_147 : decode cX6_loads 147 = .ok (.lrem, 1) := by decide +kernel
theorem dX6_loads_148 : decode cX6_loads 148 = .ok (.lastore, 1) := by decide +kernel
theorem dX6_loads_149 : decode cX6_loads 149 = .ok (.iinc 2 1, 3) := by decide +kernel
theorem dX6_loads_152 : decode cX6_loads 152 = .ok (.goto (-44), 3) := by decide +kernel
theorem dX6_loads_155 : decode cX6_loads 155 = .ok (.aload_n 0, 1) := by decide +kernel
theorem dX6_loads_156 : decode cX6_loads 156 = .ok (.aload_n 0, 1) := by decide +kernel
theorem dX6_loads_157 : decode cX6_loads 157 = .ok (.getfield 66, 3) := by decide +kernel
theorem dX6_loads_160 : decode cX6_loads 160 = .ok (.iload_n 1, 1) := by decide +kernel
theorem dX6_loads_161 : decode cX6_loads 161 = .ok (.aload_n 0, 1) := by decide +kernel
theorem dX6_loads_162 : decode cX6_loads 162 = .ok (.getfield 48, 3) := by decide +kernel
theorem dX6_loads_165 : decode cX6_loads 165 = .ok (.iconst 3, 1) := by decide +kernel
theorem dX6_loads_166 : decode cX6_loads 166 = .ok (.iload_n 1, 1) := by decide +kernel
theorem dX6_loads_167 : decode cX6_loads 167 = .ok (.imul, 1) := by decide +kernel
theorem dX6_loads_168 : decode cX6_loads 168 = .ok (.invokevirtual 150, 3) := by decide +kernel
theorem dX6_loads_171 : decode cX6_loads 171 = .ok (.aload_n 0, 1) := by decide +kernel
theorem dX6_loads_172 : decode cX6_loads 172 = .ok (.getfield 63, 3) := by decide +kernel
theorem dX6_loads_175 : decode cX6_loads 175 = .ok (.iconst 3, 1) := by decide +kernel
theorem dX6_loads_176 : decode cX6_loads 176 = .ok (.iload_n 1, 1) := by decide +kernel
theorem dX6_loads_177 : decode cX6_loads 177 = .ok (.imul, 1) := by decide +kernel
theorem dX6_loads_178 : decode cX6_loads 178 = .ok (.aload_n 0, 1) := by decide +kernel
theorem dX6_loads_179 : decode cX6_loads 179 = .ok (.getfield 48, 3) := by decide +kernel
theorem dX6_loads_182 : decode cX6_loads 182 = .ok (.iconst 3, 1) := by decide +kernel
theorem dX6_loads_183 : decode cX6_loads 183 = .ok (.iload_n 1, 1) := by decide +kernel
theorem dX6_loads_184 : decode cX6_loads 184 = .ok (.imul, 1) := by decide +kernel
theorem dX6_loads_185 : decode cX6_loads 185 = .ok (.aload_n 0, 1) := by decide +kernel
theorem dX6_loads_186 : decode cX6_loads 186 = .ok (.getfield 66, 3) := by decide +kernel
theorem dX6_loads_189 : decode cX6_loads 189 = .ok (.iconst 0, 1) := by decide +kernel
theorem dX6_loads_190 : decode cX6_loads 190 = .ok (.invokestatic 136, 3) := by decide +kernel
theorem dX6_loads_193 : decode cX6_loads 193 = .ok (.aload_n 0, 1) := by decide +kernel
theorem dX6_loads_194 : decode cX6_loads 194 = .ok (.aload_n 0, 1) := by decide +kernel
theorem dX6_loads_195 : decode cX6_loads 195 = .ok (.getfield 66, 3) := by decide +kernel
theorem dX6_loads_198 : decode cX6_loads 198 = .ok (.iload_n 1, 1) := by decide +kernel
theorem dX6_loads_199 : decode cX6_loads 199 = .ok (.aload_n 0, 1) := by decide +kernel
theorem dX6_loads_200 : decode cX6_loads 200 = .ok (.getfield 51, 3) := by decide +kernel
theorem dX6_loads_203 : decode cX6_loads 203 = .ok (.iconst 3, 1) := by decide +kernel
theorem dX6_loads_204 : decode cX6_loads 204 = .ok (.iload_n 1, 1) := by decide +kernel
theorem dX6_loads_205 : decode cX6_loads 205 = .ok (.imul, 1) := by decide +kernel
theorem dX6_loads_206 : decode cX6_loads 206 = .ok (.invokevirtual 150, 3) := by decide +kernel
theorem dX6_loads_209 : decode cX6_loads 209 = .ok (.aload_n 0, 1) := by decide +kernel
theorem dX6_loads_210 : decode cX6_loads 210 = .ok (.getfield 63, 3) := by decide +kernel
theorem dX6_loads_213 : decode cX6_loads 213 = .ok (.iconst 3, 1) := by decide +kernel
theorem dX6_loads_214 : decode cX6_loads 214 = .ok (.iload_n 1, 1) := by decide +kernel
theorem dX6_loads_215 : decode cX6_loads 215 = .ok (.imul, 1) := by decide +kernel
theorem dX6_loads_216 : decode cX6_loads 216 = .ok (.aload_n 0, 1) := by decide +kernel
theorem dX6_loads_217 : decode cX6_loads 217 = .ok (.getfield 66, 3) := by decide +kernel
theorem dX6_loads_220 : decode cX6_loads 220 = .ok (.iconst 0, 1) := by decide +kernel
theorem dX6_loads_221 : decode cX6_loads 221 = .ok (.lconst 1, 1) := by decide +kernel
theorem dX6_loads_222 : decode cX6_loads 222 = .ok (.invokestatic 132, 3) := by decide +kernel
theorem dX6_loads_225 : decode cX6_loads 225 = .ok (.return_, 1) := by decide +kernel
theorem wf_X6_57 : Cond.fieldLink RX6 57 (TX6 17).1 (TX6 17).2.1 (TX6 17).2.2.1 ∈ ltb := List.mem_filter.mpr ⟨List.mem_append_right _ (List.mem_of_getElem? (i := 484) (by decide +kernel)), by decide +kernel⟩
theorem wf_X6_66 : Cond.fieldLink RX6 66 (TX6 20).1 (TX6 20).2.1 (TX6 20).2.2.1 ∈ ltb := List.mem_filter.mpr ⟨List.mem_append_right _ (List.mem_of_getElem? (i := 487) (by decide +kernel)), by decide +kernel⟩
theorem wf_X6_60 : Cond.fieldLink RX6 60 (TX6 18).1 (TX6 18).2.1 (TX6 18).2.2.1 ∈ ltb := List.mem_filter.mpr ⟨List.mem_append_right _ (List.mem_of_getElem? (i := 485) (by decide +kernel)), by decide +kernel⟩
theorem wf_X6_54 : Cond.fieldLink RX6 54 (TX6 16).1 (TX6 16).2.1 (TX6 16).2.2.1 ∈ ltb := List.mem_filter.mpr ⟨List.mem_append_right _ (List.mem_of_getElem? (i := 483) (by decide +kernel)), by decide +kernel⟩
theorem wc_X6_swing : Cond.code yX6_swing cX6_swing 5 none ∈ ltb := List.mem_filter.mpr ⟨List.mem_append_right _ (List.mem_of_getElem? (i := 655) (by decide +kernel)), by decide +kernel⟩
theorem mi_X6_swing : Mi yX6_swing RX6 4 cX6_swing 5 none := ⟨by decide +kernel, wc_X6_swing, wi_X6, by decide⟩
theorem wv_X6_swing : Cond.instanceMethod yX6_swing ∈ ltb := List.mem_filter.mpr ⟨List.mem_append_right _ (List.mem_of_getElem? (i := 654) (by decide +kernel)), by decide +kernel⟩
theorem we_X6_swing : Cond.selects RX6 yX6_swing yX6_swing ∈ ltb := List.mem_filter.mpr ⟨List.mem_append_left _ (List.mem_of_getElem? (i := 16) (by decide +kernel)), by decide +kernel⟩
theorem wm_X6_139 : Cond.methodLink RX6 139 yX6_swing ∈ ltb := List.mem_filter.mpr ⟨List.mem_append_right _ (List.mem_of_getElem? (i := 652) (by decide +kernel)), by decide +kernel⟩
theorem wc_X6_heavy : Cond.code yX6_heavy cX6_heavy 7 none ∈ ltb := List.mem_filter.mpr ⟨List.mem_append_right _ (List.mem_of_getElem? (i := 663) (by decide +kernel)), by decide +kernel⟩
theorem mi_X6_heavy : Mi yX6_heavy RX6 4 cX6_heavy 7 none := ⟨by decide +kernel, wc_X6_heavy, wi_X6, by decide⟩
theorem wv_X6_heavy : Cond.instanceMethod yX6_heavy ∈ ltb := List.mem_filter.mpr ⟨List.mem_append_right _ (List.mem_of_getElem? (i := 662) (by decide +kernel)), by decide +kernel⟩
theorem we_X6_heavy : Cond.selects RX6 yX6_heavy yX6_heavy ∈ ltb := List.mem_filter.mpr ⟨List.mem_append_left _ (List.mem_of_getElem? (i := 18) (by decide +kernel)), by decide +kernel⟩
theorem wm_X6_150 : Cond.methodLink RX6 150 yX6_heavy ∈ ltb := List.mem_filter.mpr ⟨List.mem_append_right _ (List.mem_of_getElem? (i := 660) (by decide +kernel)), by decide +kernel⟩
theorem wf_X6_63 : Cond.fieldLink RX6 63 (TX6 19).1 (TX6 19).2.1 (TX6 19).2.2.1 ∈ ltb := List.mem_filter.mpr ⟨List.mem_append_right _ (List.mem_of_getElem? (i := 486) (by decide +kernel)), by decide +kernel⟩
noncomputable def pr_X6_loads : Prg := [(0, z_aload 0 1), (1, z_get 5 17), (4, z_ic (nI 3) 1), (5, z_iload 1 1), (6, z_imul), (7, z_aload 0 1), (8, z_get 5 11), (11, z_ic (nI 9) 2), (13, z_iload 1 1), (14, z_imul), (15, z_aload 0 1), (16, z_get 5 4), (19, z_ic (nI 16) 2), (21, z_iload 1 1), (22, z_imul), (23, z_ic (nI 5) 1), (24, z_iadd), (25, z_call 6 sp_X6_turned), (28, z_ic (nI 0) 1), (29, z_istore 2 1), (30, z_iload 2 1), (31, z_ic (nI 3) 1), (32, z_if2 (fun x y => y ≤ x) 57), (35, z_aload 0 1), (36, z_get 5 20), (39, z_iload 2 1), (40, z_aload 0 1), (41, z_get 5 17), (44, z_ic (nI 3) 1), (45, z_iload 1 1), (46, z_imul), (47, z_iload 2 1), (48, z_iadd), (49, z_laload), (50, z_lastore), (51, z_iinc 2 (nI 1)), (54, z_goto 30), (57, z_ic (nI 0) 1), (58, z_istore 2 1), (59, z_iload 2 1), (60, z_ic (nI 3) 1), (61, z_if2 (fun x y => y ≤ x) 90), (64, z_aload 0 1), (65, z_get 5 18), (68, z_ic (nI 3) 1), (69, z_iload 1 1), (70, z_imul), (71, z_iload 2 1), (72, z_iadd), (73, z_aload 0 1), (74, z_get 5 16), (77, z_ic (nI 3) 1), (78, z_iload 1 1), (79, z_imul), (80, z_iload 2 1), (81, z_iadd), (82, z_laload), (83, z_lastore), (84, z_iinc 2 (nI 1)), (87, z_goto 59), (90, z_aload 0 1), (91, z_aload 0 1), (92, z_get 5 18), (95, z_ic (nI 3) 1), (96, z_iload 1 1), (97, z_imul), (98, z_iload 1 1), (99, z_aload 0 1), (100, z_get 5 20), (103, z_callv 4 5 sp_X6_swing), (106, z_ic (nI 0) 1), (107, z_istore 2 1), (108, z_iload 2 1), (109, z_ic (nI 3) 1), (110, z_if2 (fun x y => y ≤ x) 155), (113, z_aload 0 1), (114, z_get 5 18), (117, z_ic (nI 3) 1), (118, z_iload 1 1), (119, z_imul), (120, z_iload 2 1), (121, z_iadd), (122, z_aload 0 1), (123, z_get 5 18), (126, z_ic (nI 3) 1), (127, z_iload 1 1), (128, z_imul), (129, z_iload 2 1), (130, z_iadd), (131, z_laload), (132, z_aload 0 1), (133, z_get 5 4), (136, z_ic (nI 16) 2), (138, z_iload 1 1), (139, z_imul), (140, z_ic (nI 4) 1), (141, z_iadd), (142, z_laload), (143, z_lmul), (144, z_lc (.inl 2147483647) 3), (147, z_lrem), (148, z_lastore), (149, z_iinc 2 (nI 1)), (152, z_goto 108), (155, z_aload 0 1), (156, z_aload 0 1), (157, z_get 5 20), (160, z_iload 1 1), (161, z_aload 0 1), (162, z_get 5 14), (165, z_ic (nI 3) 1), (166, z_iload 1 1), (167, z_imul), (168, z_callv 4 5 sp_X6_heavy), (171, z_aload 0 1), (172, z_get 5 19), (175, z_ic (nI 3) 1), (176, z_iload 1 1), (177, z_imul), (178, z_aload 0 1), (179, z_get 5 14), (182, z_ic (nI 3) 1), (183, z_iload 1 1), (184, z_imul), (185, z_aload 0 1), (186, z_get 5 20), (189, z_ic (nI 0) 1), (190, z_call 6 sp_X6_cross), (193, z_aload 0 1), (194, z_aload 0 1), (195, z_get 5 20), (198, z_iload 1 1), (199, z_aload 0 1), (200, z_get 5 15), (203, z_ic (nI 3) 1), (204, z_iload 1 1), (205, z_imul), (206, z_callv 4 5 sp_X6_heavy), (209, z_aload 0 1), (210, z_get 5 19), (213, z_ic (nI 3) 1), (214, z_iload 1 1), (215, z_imul), (216, z_aload 0 1), (217, z_get 5 20), (220, z_ic (nI 0) 1), (221, z_lc (.inr 1) 1), (222, z_call 5 sp_X6_add), (225, z_vret)]
set_option maxRecDepth 100000 in
set_option maxHeartbeats 4000000 in
theorem sn_X6_loads {G : Geo} (hG : GeoOK G) (l : Launch) : ∀ q ∈ pr_X6_loads, Sn G l yX6_loads.cls cX6_loads 3 3 none q.1 q.2 :=
  fcs (zs_aload_n dX6_loads_0 rfl) <| fcs (zs_get cls5 (by decide) (by decide) wf_X6_57 dX6_loads_1) <| fcs (zs_iconst dX6_loads_4 rfl) <| fcs (zs_iload_n dX6_loads_5 rfl) <| fcs (zs_imul dX6_loads_6) <| fcs (zs_aload_n dX6_loads_7 rfl) <| fcs (zs_get cls5 (by decide) (by decide) wf_X6_39 dX6_loads_8) <| fcs (zs_bipush dX6_loads_11 rfl) <| fcs (zs_iload_n dX6_loads_13 rfl) <| fcs (zs_imul dX6_loads_14) <| fcs (zs_aload_n dX6_loads_15 rfl) <| fcs (zs_get cls5 (by decide) (by decide) wf_X6_17 dX6_loads_16) <| fcs (zs_bipush dX6_loads_19 rfl) <| fcs (zs_iload_n dX6_loads_21 rfl) <| fcs (zs_imul dX6_loads_22) <| fcs (zs_iconst dX6_loads_23 rfl) <| fcs (zs_iadd dX6_loads_24) <| fcs (zs_calls (ct_X6_turned hG l) mi_X6_turned ws_X6_turned (by decide) wm_X6_129 dX6_loads_25) <| fcs (zs_iconst dX6_loads_28 rfl) <| fcs (zs_istore_n dX6_loads_29 rfl (by decide)) <| fcs (zs_iload_n dX6_loads_30 rfl) <| fcs (zs_iconst dX6_loads_31 rfl) <| fcs (zs_icmp_ge dX6_loads_32 rfl) <| fcs (zs_aload_n dX6_loads_35 rfl) <| fcs (zs_get cls5 (by decide) (by decide) wf_X6_66 dX6_loads_36) <| fcs (zs_iload_n dX6_loads_39 rfl) <| fcs (zs_aload_n dX6_loads_40 rfl) <| fcs (zs_get cls5 (by decide) (by decide) wf_X6_57 dX6_loads_41) <| fcs (zs_iconst dX6_loads_44 rfl) <| fcs (zs_iload_n dX6_loads_45 rfl) <| fcs (zs_imul dX6_loads_46) <| fcs (zs_iload_n dX6_loads_47 rfl) <| fcs (zs_iadd dX6_loads_48) <| fcs (zs_laload dX6_loads_49) <| fcs (zs_lastore dX6_loads_50) <| fcs (zs_iinc dX6_loads_51 rfl (by decide)) <| fcs (zs_goto dX6_loads_54 rfl) <| fcs (zs_iconst dX6_loads_57 rfl) <| fcs (zs_istore_n dX6_loads_58 rfl (by decide)) <| fcs (zs_iload_n dX6_loads_59 rfl) <| fcs (zs_iconst dX6_loads_60 rfl) <| fcs (zs_icmp_ge dX6_loads_61 rfl) <| fcs (zs_aload_n dX6_loads_64 rfl) <| fcs (zs_get cls5 (by decide) (by decide) wf_X6_60 dX6_loads_65) <| fcs (zs_iconst dX6_loads_68 rfl) <| fcs (zs_iload_n dX6_loads_69 rfl) <| fcs (zs_imul dX6_loads_70) <| fcs (zs_iload_n dX6_loads_71 rfl) <| fcs (zs_iadd dX6_loads_72) <| fcs (zs_aload_n dX6_loads_73 rfl) <| fcs (zs_get cls5 (by decide) (by decide) wf_X6_54 dX6_loads_74) <| fcs (zs_iconst dX6_loads_77 rfl) <| fcs (zs_iload_n dX6_loads_78 rfl) <| fcs (zs_imul dX6_loads_79) <| fcs (zs_iload_n dX6_loads_80 rfl) <| fcs (zs_iadd dX6_loads_81) <| fcs (zs_laload dX6_loads_82) <| fcs (zs_lastore dX6_loads_83) <| fcs (zs_iinc dX6_loads_84 rfl (by decide)) <| fcs (zs_goto dX6_loads_87 rfl) <| fcs (zs_aload_n dX6_loads_90 rfl) <| fcs (zs_aload_n dX6_loads_91 rfl) <| fcs (zs_get cls5 (by decide) (by decide) wf_X6_60 dX6_loads_92) <| fcs (zs_iconst dX6_loads_95 rfl) <| fcs (zs_iload_n dX6_loads_96 rfl) <| fcs (zs_imul dX6_loads_97) <| fcs (zs_iload_n dX6_loads_98 rfl) <| fcs (zs_aload_n dX6_loads_99 rfl) <| fcs (zs_get cls5 (by decide) (by decide) wf_X6_66 dX6_loads_100) <| fcs (zs_callv cls5 (by decide) (ct_X6_swing hG l) mi_X6_swing wv_X6_swing we_X6_swing (by decide) wm_X6_139 dX6_loads_103) <| fcs (zs_iconst dX6_loads_106 rfl) <| fcs (zs_istore_n dX6_loads_107 rfl (by decide)) <| fcs (zs_iload_n dX6_loads_108 rfl) <| fcs (zs_iconst dX6_loads_109 rfl) <| fcs (zs_icmp_ge dX6_loads_110 rfl) <| fcs (zs_aload_n dX6_loads_113 rfl) <| fcs (zs_get cls5 (by decide) (by decide) wf_X6_60 dX6_loads_114) <| fcs (zs_iconst dX6_loads_117 rfl) <| fcs (zs_iload_n dX6_loads_118 rfl) <| fcs (zs_imul dX6_loads_119) <| fcs (zs_iload_n dX6_loads_120 rfl) <| fcs (zs_iadd dX6_loads_121) <| fcs (zs_aload_n dX6_loads_122 rfl) <| fcs (zs_get cls5 (by decide) (by decide) wf_X6_60 dX6_loads_123) <| fcs (zs_iconst dX6_loads_126 rfl) <| fcs (zs_iload_n dX6_loads_127 rfl) <| fcs (zs_imul dX6_loads_128) <| fcs (zs_iload_n dX6_loads_129 rfl) <| fcs (zs_iadd dX6_loads_130) <| fcs (zs_laload dX6_loads_131) <| fcs (zs_aload_n dX6_loads_132 rfl) <| fcs (zs_get cls5 (by decide) (by decide) wf_X6_17 dX6_loads_133) <| fcs (zs_bipush dX6_loads_136 rfl) <| fcs (zs_iload_n dX6_loads_138 rfl) <| fcs (zs_imul dX6_loads_139) <| fcs (zs_iconst dX6_loads_140 rfl) <| fcs (zs_iadd dX6_loads_141) <| fcs (zs_laload dX6_loads_142) <| fcs (zs_lmul dX6_loads_143) <| fcs (zs_ldc2 dX6_loads_144 wl_X6_91) <| fcs (zs_lrem dX6_loads_147) <| fcs (zs_lastore dX6_loads_148) <| fcs (zs_iinc dX6_loads_149 rfl (by decide)) <| fcs (zs_goto dX6_loads_152 rfl) <| fcs (zs_aload_n dX6_loads_155 rfl) <| fcs (zs_aload_n dX6_loads_156 rfl) <| fcs (zs_get cls5 (by decide) (by decide) wf_X6_66 dX6_loads_157) <| fcs (zs_iload_n dX6_loads_160 rfl) <| fcs (zs_aload_n dX6_loads_161 rfl) <| fcs (zs_get cls5 (by decide) (by decide) wf_X6_48 dX6_loads_162) <| fcs (zs_iconst dX6_loads_165 rfl) <| fcs (zs_iload_n dX6_loads_166 rfl) <| fcs (zs_imul dX6_loads_167) <| fcs (zs_callv cls5 (by decide) (ct_X6_heavy hG l) mi_X6_heavy wv_X6_heavy we_X6_heavy (by decide) wm_X6_150 dX6_loads_168) <| fcs (zs_aload_n dX6_loads_171 rfl) <| fcs (zs_get cls5 (by decide) (by decide) wf_X6_63 dX6_loads_172) <| fcs (zs_iconst dX6_loads_175 rfl) <| fcs (zs_iload_n dX6_loads_176 rfl) <| fcs (zs_imul dX6_loads_177) <| fcs (zs_aload_n dX6_loads_178 rfl) <| fcs (zs_get cls5 (by decide) (by decide) wf_X6_48 dX6_loads_179) <| fcs (zs_iconst dX6_loads_182 rfl) <| fcs (zs_iload_n dX6_loads_183 rfl) <| fcs (zs_imul dX6_loads_184) <| fcs (zs_aload_n dX6_loads_185 rfl) <| fcs (zs_get cls5 (by decide) (by decide) wf_X6_66 dX6_loads_186) <| fcs (zs_iconst dX6_loads_189 rfl) <| fcs (zs_calls (ct_X6_cross hG l) mi_X6_cross ws_X6_cross (by decide) wm_X6_136 dX6_loads_190) <| fcs (zs_aload_n dX6_loads_193 rfl) <| fcs (zs_aload_n dX6_loads_194 rfl) <| fcs (zs_get cls5 (by decide) (by decide) wf_X6_66 dX6_loads_195) <| fcs (zs_iload_n dX6_loads_198 rfl) <| fcs (zs_aload_n dX6_loads_199 rfl) <| fcs (zs_get cls5 (by decide) (by decide) wf_X6_51 dX6_loads_200) <| fcs (zs_iconst dX6_loads_203 rfl) <| fcs (zs_iload_n dX6_loads_204 rfl) <| fcs (zs_imul dX6_loads_205) <| fcs (zs_callv cls5 (by decide) (ct_X6_heavy hG l) mi_X6_heavy wv_X6_heavy we_X6_heavy (by decide) wm_X6_150 dX6_loads_206) <| fcs (zs_aload_n dX6_loads_209 rfl) <| fcs (zs_get cls5 (by decide) (by decide) wf_X6_63 dX6_loads_210) <| fcs (zs_iconst dX6_loads_213 rfl) <| fcs (zs_iload_n dX6_loads_214 rfl) <| fcs (zs_imul dX6_loads_215) <| fcs (zs_aload_n dX6_loads_216 rfl) <| fcs (zs_get cls5 (by decide) (by decide) wf_X6_66 dX6_loads_217) <| fcs (zs_iconst dX6_loads_220 rfl) <| fcs (zs_lconst dX6_loads_221 rfl) <| fcs (zs_calls (ct_X6_add hG l) mi_X6_add ws_X6_add (by decide) wm_X6_132 dX6_loads_222) <| fcs (zs_vret dX6_loads_225) <| fnl
section LD
variable {X : Kx} {post : Option AV → SS → Prop}
set_option maxRecDepth 100000 in
set_option maxHeartbeats 4000000 in
theorem ld_6 (hX : Closed pr_X6_loads post X) {s : SS} {k : Nat} (hk : k < 8) (h : post none (m_l9 (m_hvy (m_l7 (m_hvy s k (30, 0) (3 * k)) k) k (31, 0) (3 * k)) k)) : X 155 [(0, ar 6 0), (1, .inl (nI k))] [] s := by
  refine go hX [] 60 ?_
  refine ⟨k, 3 * k, ⟨rfl, by rw [pk_mul]⟩, ⟨hk, by omega⟩, ?_⟩
  refine ⟨3 * k, 3 * k, 0, ⟨by rw [pk_mul], by rw [pk_mul], rfl⟩, ⟨by show 3 * k + 2 < 24; omega, by show 3 * k + 2 < 24; omega, nle rfl⟩, ?_⟩
  refine ⟨k, 3 * k, ⟨rfl, by rw [pk_mul]⟩, ⟨hk, by omega⟩, ?_⟩
  refine ⟨3 * k, 0, ⟨by rw [pk_mul], rfl⟩, ⟨by show 3 * k + 2 < 24; omega, nle rfl⟩, ?_⟩
  exact h
set_option maxRecDepth 100000 in
set_option maxHeartbeats 4000000 in
theorem ld_5 (hX : Closed pr_X6_loads post X) {s : SS} {k : Nat} (hk : k < 8) (h : post none (m_l9 (m_hvy (m_l7 (m_hvy (m_l5 s k) k (30, 0) (3 * k)) k) k (31, 0) (3 * k)) k)) : X 108 [(2, .inl (nI 0)), (0, ar 6 0), (1, .inl (nI k))] [] s := by
  have lp : ∀ (m c : Nat) (cc : Int32), c + m = 3 → cc = nI c → X 108 [(2, .inl cc), (0, ar 6 0), (1, .inl (nI k))] [] (fl s (34, 0) (3 * k) c (fun c => vco c (v_sca (g3 s (34, 0) (3 * k)) (s.2.1 20 0 (16 * k + 4))))) := by
    intro m
    induction m with
    | zero =>
      intro c cc hc e
      subst e
      refine go hX [108, 155] 100 ?_
      refine ⟨fun g => ?_, fun g => absurd ((nI_leI (by decide) (by omega)).mpr (by omega)) g⟩
      have e : c = 3 := by omega
      subst e
      exact wk hX (ld_6 hX hk h) ⟨⟨_, rfl, Or.inl rfl⟩, ⟨_, rfl, Or.inl rfl⟩, trivial⟩
    | succ m ih =>
      intro c cc hc e
      subst e
      have ih2 := ih (c + 1) _ (by omega) (nI_add c 1)
      refine go hX [108, 155] 100 ?_
      refine ⟨fun g => absurd ((nI_leI (by decide) (by omega)).mp g) (by omega), fun g => ?_⟩
      refine ⟨⟨nle rfl, nle rfl⟩, 3 * k + c, by rw [pk_mul, nI_add], by show 3 * k + c < 24; omega, ?_⟩
      refine ⟨⟨nle rfl, nle rfl⟩, 16 * k + 4, by rw [pk_mul, nI_add], by show 16 * k + 4 < 128; omega, ne_P, ?_⟩
      refine ⟨⟨nle rfl, nle rfl⟩, (3 * k) + c, ((fun c => vco c (v_sca (g3 s (34, 0) (3 * k)) (s.2.1 20 0 (16 * k + 4))))) c, by rw [pk_mul, nI_add], by show 3 * k + c < 24; omega, ?_, ?_⟩
      · refine (n_times _ _).trans ?_
        dsimp only
        rw [fl_o _ _ _ _ _ _ _ (by omega), fl_n _ _ _ _ _ _ _ (by decide), vco_sca, g3_c _ _ _ (show c < 3 by omega)]
      · exact (fl_s s (34, 0) ((3 * k)) c (fun c => vco c (v_sca (g3 s (34, 0) (3 * k)) (s.2.1 20 0 (16 * k + 4)))) (i := (3 * k) + c) rfl rfl).symm ▸ ih2
  have l0 := lp 3 0 _ rfl rfl
  rw [fl_0] at l0
  exact l0
set_option maxRecDepth 100000 in
set_option maxHeartbeats 4000000 in
theorem ld_3 (hX : Closed pr_X6_loads post X) {s : SS} {k : Nat} (hk : k < 8) (h : post none (m_l9 (m_hvy (m_l7 (m_hvy (m_l5 (m_swg (m_l3 s k) (34, 0) (3 * k) k (36, 0)) k) k (30, 0) (3 * k)) k) k (31, 0) (3 * k)) k)) : X 59 [(2, .inl (nI 0)), (0, ar 6 0), (1, .inl (nI k))] [] s := by
  have lp : ∀ (m c : Nat) (cc : Int32), c + m = 3 → cc = nI c → X 59 [(2, .inl cc), (0, ar 6 0), (1, .inl (nI k))] [] (fl s (34, 0) (3 * k) c (fun c => vco c (g3 s (32, 0) (3 * k)))) := by
    intro m
    induction m with
    | zero =>
      intro c cc hc e
      subst e
      refine go hX [59, 108] 100 ?_
      refine ⟨fun g => ?_, fun g => absurd ((nI_leI (by decide) (by omega)).mpr (by omega)) g⟩
      have e : c = 3 := by omega
      subst e
      refine ⟨3 * k, k, ⟨by rw [pk_mul], rfl⟩, ⟨by omega, hk⟩, ?_⟩
      exact ld_5 hX hk h
    | succ m ih =>
      intro c cc hc e
      subst e
      have ih2 := ih (c + 1) _ (by omega) (nI_add c 1)
      refine go hX [59, 108] 100 ?_
      refine ⟨fun g => absurd ((nI_leI (by decide) (by omega)).mp g) (by omega), fun g => ?_⟩
      refine ⟨⟨nle rfl, nle rfl⟩, 3 * k + c, by rw [pk_mul, nI_add], by show 3 * k + c < 24; omega, ?_⟩
      refine ⟨⟨nle rfl, nle rfl⟩, (3 * k) + c, ((fun c => vco c (g3 s (32, 0) (3 * k)))) c, by rw [pk_mul, nI_add], by show 3 * k + c < 24; omega, ?_, ?_⟩
      · show em _ = em _
        dsimp only
        rw [fl_n _ _ _ _ _ _ _ (by decide), g3_c _ _ _ (show c < 3 by omega)]
      · exact (fl_s s (34, 0) ((3 * k)) c (fun c => vco c (g3 s (32, 0) (3 * k))) (i := (3 * k) + c) rfl rfl).symm ▸ ih2
  have l0 := lp 3 0 _ rfl rfl
  rw [fl_0] at l0
  exact l0
set_option maxRecDepth 100000 in
set_option maxHeartbeats 4000000 in
theorem ld_2 (hX : Closed pr_X6_loads post X) {s : SS} {k : Nat} (hk : k < 8) (h : post none (m_l9 (m_hvy (m_l7 (m_hvy (m_l5 (m_swg (m_l3 (m_l2 s k) k) (34, 0) (3 * k) k (36, 0)) k) k (30, 0) (3 * k)) k) k (31, 0) (3 * k)) k)) : X 30 [(2, .inl (nI 0)), (0, ar 6 0), (1, .inl (nI k))] [] s := by
  have lp : ∀ (m c : Nat) (cc : Int32), c + m = 3 → cc = nI c → X 30 [(2, .inl cc), (0, ar 6 0), (1, .inl (nI k))] [] (fl s (36, 0) 0 c (fun c => vco c (g3 s (33, 0) (3 * k)))) := by
    intro m
    induction m with
    | zero =>
      intro c cc hc e
      subst e
      refine go hX [30, 59] 100 ?_
      refine ⟨fun g => ?_, fun g => absurd ((nI_leI (by decide) (by omega)).mpr (by omega)) g⟩
      have e : c = 3 := by omega
      subst e
      exact ld_3 hX hk h
    | succ m ih =>
      intro c cc hc e
      subst e
      have ih2 := ih (c + 1) _ (by omega) (nI_add c 1)
      refine go hX [30, 59] 100 ?_
      refine ⟨fun g => absurd ((nI_leI (by decide) (by omega)).mp g) (by omega), fun g => ?_⟩
      refine ⟨⟨nle rfl, nle rfl⟩, 3 * k + c, by rw [pk_mul, nI_add], by show 3 * k + c < 24; omega, ?_⟩
      refine ⟨⟨nle rfl, nle rfl⟩, 0 + c, ((fun c => vco c (g3 s (33, 0) (3 * k)))) c, by rw [Nat.zero_add], by show 0 + c < 3; omega, ?_, ?_⟩
      · show em _ = em _
        dsimp only
        rw [fl_n _ _ _ _ _ _ _ (by decide), g3_c _ _ _ (show c < 3 by omega)]
      · exact (fl_s s (36, 0) (0) c (fun c => vco c (g3 s (33, 0) (3 * k))) (i := 0 + c) rfl rfl).symm ▸ ih2
  have l0 := lp 3 0 _ rfl rfl
  rw [fl_0] at l0
  exact l0
end LD
set_option maxRecDepth 100000 in
set_option maxHeartbeats 4000000 in
theorem ct_X6_loads {G : Geo} (hG : GeoOK G) (l : Launch) : Ct G l yX6_loads cX6_loads 3 none 3 sp_X6_loads := by
  refine Ct.of pr_X6_loads hG (by decide +kernel) (sn_X6_loads hG l) ?_
  intro av σ post hok h
  unfold sp_X6_loads at h
  split at h
  · rename_i b k
    obtain ⟨hb, k, rfl, hk, h9⟩ := bif_t h
    clear h
    obtain rfl := is6_t hb
    refine ⟨Nat.le_of_ble_eq_true rfl, fun X hX => ?_⟩
    refine go hX [30] 60 ?_
    refine ⟨3 * k, 9 * k, 16 * k + 5, ⟨by rw [pk_mul], by rw [pk_mul], by rw [pk_mul, nI_add]⟩, ⟨by show 3 * k + 2 < 24; omega, by show 9 * k + 8 < 72; omega, by show 16 * k + 5 + 2 < 128; omega⟩, ?_⟩
    exact ld_2 hX hk h9
  · exact h.elim
/-! carry -/
noncomputable def m_c1 (s : SS) (k : Nat) : SS := fl s (40, 0) 0 9 (rotf true (s.2.1 20 0 (16 * k + 3)))
def m_c2 (s : SS) (p : Nat) : SS := fl s (39, 0) 0 9 (mm s (27, 0) (9 * p) (40, 0) 0)
def m_c3 (s : SS) (k : Nat) : SS := p3 s (29, 0) (3 * k) (s.2.1 39 0 2, s.2.1 39 0 5, s.2.1 39 0 8)
def m_c4 (s : SS) (k p : Nat) : SS := p3 s (36, 0) 0 (v_mv (g3 s (27, 0) (9 * p)) (g3 s (27, 0) (9 * p + 3)) (g3 s (27, 0) (9 * p + 6)) (g3 s (20, 0) (16 * k)))
def m_c5 (s : SS) (k : Nat) : SS := if s.2.2 8 k = 0 then s else p3 s (36, 0) 0 (v_adt (g3 s (36, 0) 0) (g3 s (29, 0) (3 * k)) (s.2.1 21 0 k))
/-- the parent's place, turning, change and lift, on to the body, up to c -/
def m_q4 (s : SS) (k p c : Nat) : SS :=
  fl (fl (fl (fl s (28, 0) (3 * k) c (fun c => vco c (v_add (g3 s (28, 0) (3 * p)) (g3 s (36, 0) 0)))) (30, 0) (3 * k) c (fun c => vco c (g3 s (30, 0) (3 * p)))) (31, 0) (3 * k) c (fun c => vco c (g3 s (31, 0) (3 * p)))) (32, 0) (3 * k) c (fun c => vco c (g3 s (32, 0) (3 * p)))
def m_c6 (s : SS) (k p : Nat) : SS := m_q4 s k p 3
def m_c7 (s : SS) (k : Nat) : SS := p3 s (37, 0) 0 (v_sca (g3 s (29, 0) (3 * k)) (s.2.1 25 0 k))
def m_c8 (s : SS) (p : Nat) : SS := p3 s (37, 0) 0 (v_crs (g3 s (30, 0) (3 * p)) (g3 s (37, 0) 0))
/-- a body that slides -/
def m_c9 (s : SS) (k : Nat) : SS :=
  let s := fl s (27, 0) (9 * k) 9 (fun c => s.2.1 39 0 c)
  let s := p3 s (32, 0) (3 * k) (v_adt (g3 s (32, 0) (3 * k)) (g3 s (37, 0) 0) 2)
  p3 s (32, 0) (3 * k) (v_adt (g3 s (32, 0) (3 * k)) (g3 s (29, 0) (3 * k)) (s.2.1 26 0 k))
/-- a body that turns -/
noncomputable def m_ct (s : SS) (k : Nat) : SS :=
  let s := fl s (40, 0) 0 9 (rotf false (s.2.1 21 0 k))
  let s := fl s (27, 0) (9 * k) 9 (mm s (39, 0) 0 (40, 0) 0)
  let s := p3 s (30, 0) (3 * k) (v_adt (g3 s (30, 0) (3 * k)) (g3 s (29, 0) (3 * k)) (s.2.1 25 0 k))
  let s := p3 s (31, 0) (3 * k) (v_adt (g3 s (31, 0) (3 * k)) (g3 s (29, 0) (3 * k)) (s.2.1 26 0 k))
  p3 s (31, 0) (3 * k) (v_adt (g3 s (31, 0) (3 * k)) (g3 s (37, 0) 0) 1)
noncomputable def m_c10 (s : SS) (k : Nat) : SS := if s.2.2 8 k = 0 then m_ct s k else m_c9 s k
def m_end (s : SS) (k p : Nat) : SS := m_lod (m_swg s (32, 0) (3 * k) p (36, 0)) k
noncomputable def m_car (s : SS) (k p : Nat) : SS := m_end (m_c10 (m_c8 (m_c7 (m_c6 (m_c5 (m_c4 (m_c3 (m_c2 (m_c1 s k) p) k) k p) k) k p) k) p) k) k p
noncomputable def sp_X6_carry : Spc := fun av σ post => match av with
  | [.inr (.inr b), .inl k] => bif is6 b then (∃ k' p', (k = nI k' ∧ σ.2.2 7 k' = nI p') ∧ (k' < 8 ∧ p' < k') ∧ post none (m_car σ k' p')) else False
  | _ => False
theorem dX6_carry_0 : decode cX6_carry 0 = .ok (.aload_n 0, 1) := by decide +kernel
theorem dX6_carry_1 : decode cX6_carry 1 = .ok (.getfield 7, 3) := by decide +kernel
theorem dX6_carry_4 : decode cX6_carry 4 = .ok (.iload_n 1, 1) := by decide +kernel
theorem dX6_carry_5 : decode cX6_carry 5 = .ok (.iaload, 1) := by decide +kernel
theorem dX6_carry_6 : decode cX6_carry 6 = .ok (.istore_n 2, 1) := by decide +kernel
theorem dX6_carry_7 : decode cX6_carry 7 = .ok (.aload_n 0, 1) := by decide +kernel
theorem dX6_carry_8 : decode cX6_carry 8 = .ok (.getfield 78, 3) := by decide +kernel
theorem dX6_carry_11 : decode cX6_carry 11 = .ok (.iconst 0, 1) := by decide +kernel
theorem dX6_carry_12 : decode cX6_carry 12 = .ok (.aload_n 0, 1) := by decide +kernel
theorem dX6_carry_13 : decode cX6_carry 13 = .ok (.getfield 17, 3) := by decide +kernel
theorem dX6_carry_16 : decode cX6_carry 16 = .ok (.bipush 16, 2) := by decide +kernel
theorem dX6_carry_18 : decode cX6_carry 18 = .ok (.iload_n 1, 1) := by decide +kernel
theorem dX6_carry_19 : decode cX6_carry 19 = .ok (.imul, 1) := by decide +kernel
theorem dX6_carry_20 : decode cX6_carry 20 = .ok (.iconst 3, 1) := by decide +kernel
theorem dX6_carry_21 : decode cX6_carry 21 = .ok (.iadd, 1) := by decide +kernel
theorem dX6_carry_22 : decode cX6_carry 22 = .ok (.laload, 1) := by decide +kernel
theorem dX6_carry_23 : decode cX6_carry 23 = .ok (.invokestatic 121, 3) := by decide +kernel
theorem dX6_carry_26 : decode cX6_carry 26 = .ok (.aload_n 0, 1) := by decide +kernel
theorem dX6_carry_27 : decode cX6_carry 27 = .ok (.getfield 75, 3) := by decide +kernel
theorem dX6_carry_30 : decode cX6_carry 30 = .ok (.iconst 0, 1) := by decide +kernel
theorem dX6_carry_31 : decode cX6_carry 31 = .ok (.aload_n 0, 1) := by decide +kernel
theorem dX6_carry_32 : decode cX6_carry 32 = .ok (.getfield 39, 3) := by decide +kernel
theorem dX6_carry_35 : decode cX6_carry 35 = .ok (.bipush 9, 2) := by decide +kernel
theorem dX6_carry_37 : decode cX6_carry 37 = .ok (.iload_n 2, 1) := by decide +kernel
theorem dX6_carry_38 : decode cX6_carry 38 = .ok (.imul, 1) := by decide +kernel
theorem dX6_carry_39 : decode cX6_carry 39 = .ok (.aload_n 0, 1) := by decide +kernel
theorem dX6_carry_40 : decode cX6_carry 40 = .ok (.getfield 78, 3) := by decide +kernel
theorem dX6_carry_43 : decode cX6_carry 43 = .ok (.iconst 0, 1) := by decide +kernel
theorem dX6_carry_44 : decode cX6_carry 44 = .ok (.invokestatic 125, 3) := by decide +kernel
theorem dX6_carry_47 : decode cX6_carry 47 = .ok (.iconst 0, 1) := by decide +kernel
theorem dX6_carry_48 : decode cX6_carry 48 = .ok (.istore_n 3, 1) := by decide +kernel
theorem dX6_carry_49 : decode cX6_carry 49 = .ok (.iload_n 3, 1) := by decide +kernel
theorem dX6_carry_50 : decode cX6_carry 50 = .ok (.iconst 3, 1) := by decide +kernel
theorem dX6_carry_51 : decode cX6_carry 51 = .ok (.if_icmp .ge 29, 3) := by decide +kernel
theorem dX6_carry_54 : decode cX6_carry 54 = .ok (.aload_n 0, 1) := by decide +kernel
theorem dX6_carry_55 : decode cX6_carry 55 = .ok (.getfield 45, 3) := by decide +kernel
theorem dX6_carry_58 : decode cX6_carry 58 = .ok (.iconst 3, 1) := by decide +kernel
theorem dX6_carry_59 : decode cX6_carry 59 = .ok (.iload_n 1, 1) := by decide +kernel
theorem dX6_carry_60 : decode cX6_carry 60 = .ok (.imul, 1) := by decide +kernel
theorem dX6_carry_61 : decode cX6_carry 61 = .ok (.iload_n 3, 1) := by decide +kernel
theorem dX6_carry_62 : decode cX6_carry 62 = .ok (.iadd, 1) := by decide +kernel
theorem dX6_carry_63 : decode cX6_carry 63 = .ok (.aload_n 0, 1) := by decide +kernel
theorem dX6_carry_64 : decode cX6_carry 64 = .ok (.getfield 75, 3) := by decide +kernel
theorem dX6_carry_67 : decode cX6_carry 67 = .ok (.iconst 3, 1) := by decide +kernel
theorem dX6_carry_68 : decode cX6_carry 68 = .ok (.iload_n 3, 1) := by decide +kernel
theorem dX6_carry_69 : decode cX6_carry 69 = .ok (.imul, 1) := by decide +kernel
theorem dX6_carry_70 : decode cX6_carry 70 = .ok (.iconst 2, 1) := by decide +kernel
theorem dX6_carry_71 : decode cX6_carry 71 = .ok (.iadd, 1) := by decide +kernel
theorem dX6_carry_72 : decode cX6_carry 72 = .ok (.laload, 1) := by decide +kernel
theorem dX6_carry_73 : decode cX6_carry 73 = .ok (.lastore, 1) := by decide +kernel
theorem dX6_carry_74 : decode cX6_carry 74 = .ok (.iinc 3 1, 3) := by decide +kernel
theorem dX6_carry_77 : decode cX6_carry 77 = .ok (.goto (-28), 3) := by decide +kernel
theorem dX6_carry_80 : decode cX6_carry 80 = .ok (.aload_n 0, 1) := by decide +kernel
theorem dX6_carry_81 : decode cX6_carry 81 = .ok (.getfield 66, 3) := by decide +kernel
theorem dX6_carry_84 : decode cX6_carry 84 = .ok (.iconst 0, 1) := by decide +kernel
theorem dX6_carry_85 : decode cX6_carry 85 = .ok (.aload_n 0, 1) := by decide +kernel
theorem dX6_carry_86 : decode cX6_carry 86 = .ok (.getfield 39, 3) := by decide +kernel
theorem dX6_carry_89 : decode cX6_carry 89 = .ok (.bipush 9, 2) := by decide +kernel
theorem dX6_carry_91 : decode cX6_carry 91 = .ok (.iload_n 2, 1) := by decide +kernel
theorem dX6_carry_92 : decode cX6_carry 92 = .ok (.imul, 1) := by decide +kernel
theorem dX6_carry_93 : decode cX6_carry 93 = .ok (.aload_n 0, 1) := by decide +kernel
theorem dX6_carry_94 : decode cX6_carry 94 = .ok (.getfield 17, 3) := by decide +kernel
theorem dX6_carry_97 : decode cX6_carry 97 = .ok (.bipush 16, 2) := by decide +kernel
theorem dX6_carry_99 : decode cX6_carry 99 = .ok (.iload_n 1, 1) := by decide +kernel
theorem dX6_carry_100 : decode cX6_carry 100 = .ok (.imul, 1) := by decide +kernel
theorem dX6_carry_101 : decode cX6_carry 101 = .ok (.invokestatic 129, 3) := by decide +kernel
theorem dX6_carry_104 : decode cX6_carry 104 = .ok (.aload_n 0, 1) := by decide +kernel
theorem dX6_carry_105 : decode cX6_carry 105 = .ok (.getfield 13, 3) := by decide +kernel
theorem dX6_carry_108 : decode cX6_carry 108 = .ok (.iload_n 1, 1) := by decide +kernel
theorem dX6_carry_109 : decode cX6_carry 109 = .ok (.baload, 1) := by decide +kernel
theorem dX6_carry_110 : decode cX6_carry 110 = .ok (.ifCond .eq 24, 3) := by decide +kernel
theorem dX6_carry_113 : decode cX6_carry 113 = .ok (.aload_n 0, 1) := by decide +kernel
theorem dX6_carry_114 : decode cX6_carry 114 = .ok (.getfield 66, 3) := by decide +kernel
theorem dX6_carry_117 : decode cX6_carry 117 = .ok (.iconst 0, 1) := by decide +kernel
theorem dX6_carry_118 : decode cX6_carry 118 = .ok (.aload_n 0, 1) := by decide +kernel
theorem dX6_carry_119 : decode cX6_carry 119 = .ok (.getfield 45, 3) := by decide +kernel
theorem dX6_carry_122 : decode cX6_carry 122 = .ok (.iconst 3, 1) := by decide +kernel
theorem dX6_carry_123 : decode cX6_carry 123 = .ok (.iload_n 1, 1) := by decide +kernel
theorem dX6_carry_124 : decode cX6_carry 124 = .ok (.imul, 1) := by decide +kernel
theorem dX6_carry_125 : decode cX6_carry 125 = .ok (.aload_n 0, 1) := by decide +kernel
theorem dX6_carry_126 : decode cX6_carry 126 = .ok (.getfield 21, 3) := by decide +kernel
theorem dX6_carry_129 : decode cX6_carry 129 = .ok (.iload_n 1, 1) := by decide +kernel
theorem dX6_carry_130 : decode cX6_carry 130 = .ok (.laload, 1) := by decide +kernel
theorem dX6_carry_131 : decode cX6_carry 131 = .ok (.invokestatic 132, 3) := by decide +kernel
theorem dX6_carry_134 : decode cX6_carry 134 = .ok (.iconst 0, 1) := by decide +kernel
theorem dX6_carry_135 : decode cX6_carry 135 = .ok (.istore_n 3, 1) := by decide +kernel
theorem dX6_carry_136 : decode cX6_carry 136 = .ok (.iload_n 3, 1) := by decide +kernel
theorem dX6_carry_137 : decode cX6_carry 137 = .ok (.iconst 3, 1) := by decide +kernel
theorem dX6_carry_138 : decode cX6_carry 138 = .ok (.if_icmp .ge 100, 3) := by decide +kernel
theorem dX6_carry_141 : decode cX6_carry 141 = .ok (.aload_n 0, 1) := by decide +kernel
theorem dX6_carry_142 : decode cX6_carry 142 = .ok (.getfield 42, 3) := by decide +kernel
theorem dX6_carry_145 : decode cX6_carry 145 = .ok (.iconst 3, 1) := by decide +kernel
theorem dX6_carry_146 : decode cX6_carry 146 = .ok (.iload_n 1, 1) := by decide +kernel
theorem dX6_carry_147 : decode cX6_carry 147 = .ok (.imul, 1) := by decide +kernel
theorem dX6_carry_148 : decode cX6_carry 148 = .ok (.iload_n 3, 1) := by decide +kernel
theorem dX6_carry_149 : decode cX6_carry 149 = .ok (.iadd, 1) := by decide +kernel
theorem dX6_carry_150 : decode cX6_carry 150 = .ok (.aload_n 0, 1) := by decide +kernel
theorem dX6_carry_151 : decode cX6_carry 151 = .ok (.getfield 42, 3) := by decide +kernel
theorem dX6_carry_154 : decode cX6_carry 154 = .ok (.iconst 3, 1) := by decide +kernel
theorem dX6_carry_155 : decode cX6_carry 155 = .ok (.iload_n 2, 1) := by decide +kernel
theorem dX6_carry_156 : decode cX6_carry 156 = .ok (.imul, 1) := by decide +kernel
theorem dX6_carry_157 : decode cX6_carry 157 = .ok (.iload_n 3, 1) := by decide +kernel
theorem dX6_carry_158 : decode cX6_carry 158 = .ok (.iadd, 1) := by decide +kernel
theorem dX6_carry_159 : decode cX6_carry 159 = .ok (.laload, 1) := by decide +kernel
theorem dX6_carry_160 : decode cX6_carry 160 = .ok (.aload_n 0, 1) := by decide +kernel
theorem dX6_carry_161 : decode cX6_carry 161 = .ok (.getfield 66, 3) := by decide +kernel
theorem dX6_carry_164 : decode cX6_carry 164 = .ok (.iload_n 3, 1) := by decide +kernel
theorem dX6_carry_165 : decode cX6_carry 165 = .ok (.laload, 1) := by decide +kernel
theorem dX6_carry_166 : decode cX6_carry 166 = .ok (.ladd, 1) := by decide +kernel
theorem dX6_carry_167 : decode cX6_carry 167 = .ok (.ldc2_w 91, 3) := by decide +kernel
theorem dX6_carry_170 : decode cX6_carry 170 = .ok (.lrem, 1) := by decide +kernel
theorem dX6_carry_171 : decode cX6_carry 171 = .ok (.lastore, 1) := by decide +kernel
theorem dX6_carry_172 : decode cX6_carry 172 = .ok (.aload_n 0, 1) := by decide +kernel
theorem dX6_carry_173 : decode cX6_carry 173 = .ok (.getfield 48, 3) := by decide +kernel
theorem dX6_carry_176 : decode cX6_carry 176 = .ok (.iconst 3, 1) := by decide +kernel
theorem dX6_carry_177 : decode cX6_carry 177 = .ok (.iload_n 1, 1) := by decide +kernel
theorem dX6_carry_178 : decode cX6_carry 178 = .ok (.imul, 1) := by decide +kernel
theorem dX6_carry_179 : decode cX6_carry 179 = .ok (.iload_n 3, 1) := by decide +kernel
theorem dX6_carry_180 : decode cX6_carry 180 = .ok (.iadd, 1) := by decide +kernel
theorem dX6_carry_181 : decode cX6_carry 181 = .ok (.aload_n 0, 1) := by decide +kernel
theorem dX6_carry_182 : decode cX6_carry 182 = .ok (.getfield 48, 3) := by decide +kernel
theorem dX6_carry_185 : decode cX6_carry 185 = .ok (.iconst 3, 1) := by decide +kernel
theorem dX6_carry_186 : decode cX6_carry 186 = .ok (.iload_n 2, 1) := by decide +kernel
theorem dX6_carry_187 : decode cX6_carry 187 = .ok (.imul, 1) := by decide +kernel
theorem dX6_carry_188 : decode cX6_carry 188 = .ok (.iload_n 3, 1) := by decide +kernel
theorem dX6_carry_189 : decode cX6_carry 189 = .ok (.iadd, 1) := by decide +kernel
theorem dX6_carry_190 : decode cX6_carry 190 = .ok (.laload, 1) := by decide +kernel
theorem dX6_carry_191 : decode cX6_carry 191 = .ok (.lastore, 1) := by decide +kernel
theorem dX6_carry_192 : decode cX6_carry 192 = .ok (.aload_n 0, 1) := by decide +kernel
theorem dX6_carry_193 : decode cX6_carry 193 = .ok (.getfield 51, 3) := by decide +kernel
theorem dX6_carry_196 : decode cX6_carry 196 = .ok (.iconst 3, 1) := by decide +kernel
theorem dX6_carry_197 : decode cX6_carry 197 = .ok (.iload_n 1, 1) := by decide +kernel
theorem dX6_carry_198 : decode cX6_carry 198 = .ok (.imul, 1) := by decide +kernel
theorem dX6_carry_199 : decode cX6_carry 199 = .ok (.iload_n 3, 1) := by decide +kernel
theorem dX6_carry_200 : decode cX6_carry 200 = .ok (.iadd, 1) := by decide +kernel
theorem dX6_carry_201 : decode cX6_carry 201 = .ok (.aload_n 0, 1) := by decide +kernel
theorem dX6_carry_202 : decode cX6_carry 202 = .ok (.getfield 51, 3) := by decide +kernel
theorem dX6_carry_205 : decode cX6_carry 205 = .ok (.iconst 3, 1) := by decide +kernel
theorem dX6_carry_206 : decode cX6_carry 206 = .ok (.iload_n 2, 1) := by decide +kernel
theorem dX6_carry_207 : decode cX6_carry 207 = .ok (.imul, 1) := by decide +kernel
theorem dX6_carry_208 : decode cX6_carry 208 = .ok (.iload_n 3, 1) := by decide +kernel
theorem dX6_carry_209 : decode cX6_carry 209 = .ok (.iadd, 1) := by decide +kernel
theorem dX6_carry_210 : decode cX6_carry 210 = .ok (.laload, 1) := by decide +kernel
theorem dX6_carry_211 : decode cX6_carry 211 = .ok (.lastore, 1) := by decide +kernel
theorem dX6_carry_212 : decode cX6_carry 212 = .ok (.aload_n 0, 1) := by decide +kernel
theorem dX6_carry_213 : decode cX6_carry 213 = .ok (.getfield 54, 3) := by decide +kernel
theorem dX6_carry_216 : decode cX6_carry 216 = .ok (.iconst 3, 1) := by decide +kernel
theorem dX6_carry_217 : decode cX6_carry 217 = .ok (.iload_n 1, 1) := by decide +kernel
theorem dX6_carry_218 : decode cX6_carry 218 = .ok (.imul, 1) := by decide +kernel
theorem dX6_carry_219 : decode cX6_carry 219 = .ok (.iload_n 3, 1) := by decide +kernel
theorem dX6_carry_220 : decode cX6_carry 220 = .ok (.iadd, 1) := by decide +kernel
theorem dX6_carry_221 : decode cX6_carry 221 = .ok (.aload_n 0, 1) := by decide +kernel
theorem dX6_carry_222 : decode cX6_carry 222 = .ok (.getfield 54, 3) := by decide +kernel
theorem dX6_carry_225 : decode cX6_carry 225 = .ok (.iconst 3, 1) := by decide +kernel
theorem dX6_carry_226 : decode cX6_carry 226 = .ok (.iload_n 2, 1) := by decide +kernel
theorem dX6_carry_227 : decode cX6_carry 227 = .ok (.imul, 1) := by decide +kernel
theorem dX6_carry_228 : decode cX6_carry 228 = .ok (.iload_n 3, 1) := by decide +kernel
theorem dX6_carry_229 : decode cX6_carry 229 = .ok (.iadd, 1) := by decide +kernel
theorem dX6_carry_230 : decode cX6_carry 230 = .ok (.laload, 1) := by decide +kernel
theorem dX6_carry_231 : decode cX6_carry 231 = .ok (.lastore, 1) := by decide +kernel
theorem dX6_carry_232 : decode cX6_carry 232 = .ok (.iinc 3 1, 3) := by decide +kernel
theorem dX6_carry_235 : decode cX6_carry 235 = .ok (.goto (-99), 3) := by decide +kernel
theorem dX6_carry_238 : decode cX6_carry 238 = .ok (.iconst 0, 1) := by decide +kernel
theorem dX6_carry_239 : decode cX6_carry 239 = .ok (.istore_n 3, 1) := by decide +kernel
theorem dX6_carry_240 : decode cX6_carry 240 = .ok (.iload_n 3, 1) := by decide +kernel
theorem dX6_carry_241 : decode cX6_carry 241 = .ok (.iconst 3, 1) := by decide +kernel
theorem dX6_carry_242 : decode cX6_carry 242 = .ok (.if_icmp .ge 36, 3) := by decide +kernel
theorem dX6_carry_245 : decode cX6_carry 245 = .ok (.aload_n 0, 1) := by decide +kernel
theorem dX6_carry_246 : decode cX6_carry 246 = .ok (.getfield 69, 3) := by decide +kernel
theorem dX6_carry_249 : decode cX6_carry 249 = .ok (.iload_n 3, 1) := by decide +kernel
theorem dX6_carry_250 : decode cX6_carry 250 = .ok (.aload_n 0, 1) := by decide +kernel
theorem dX6_carry_251 : decode cX6_carry 251 = .ok (.getfield 45, 3) := by decide +kernel
theorem dX6_carry_254 : decode cX6_carry 254 = .ok (.iconst 3, 1) := by decide +kernel
theorem dX6_carry_255 : decode cX6_carry 255 = .ok (.iload_n 1, 1) := by decide +kernel
theorem dX6_carry_256 : decode cX6_carry 256 = .ok (.imul, 1) := by decide +kernel
theorem dX6_carry_257 : decode cX6_carry 257 = .ok (.iload_n 3, 1) := by decide +kernel
theorem dX6_carry_258 : decode cX6_carry 258 = .ok (.iadd, 1) := by decide +kernel
theorem dX6_carry_259 : decode cX6_carry 259 = .ok (.laload, 1) := by decide +kernel
theorem dX6_carry_260 : decode cX6_carry 260 = .ok (.aload_n 0, 1) := by decide +kernel
theorem dX6_carry_261 : decode cX6_carry 261 = .ok (.getfield 33, 3) := by decide +kernel
theorem dX6_carry_264 : decode cX6_carry 264 = .ok (.iload_n 1, 1) := by decide +kernel
theorem dX6_carry_265 : decode cX6_carry 265 = .ok (.laload, 1) := by decide +kernel
theorem dX6_carry_266 : decode cX6_carry 266 = .ok (.lmul, 1) := by decide +kernel
theorem dX6_carry_267 : decode cX6_carry 267 = .ok (.ldc2_w 91, 3) := by decide +kernel
theorem dX6_carry_270 : decode cX6_carry 270 = .ok (.lrem, 1) := by decide +kernel
theorem dX6_carry_271 : decode cX6_carry 271 = .ok (.lastore, 1) := by decide +kernel
theorem dX6_carry_272 : decode cX6_carry 272 = .ok (.iinc 3 1, 3) := by decide +kernel
theorem dX6_carry_275 : decode cX6_carry 275 = .ok (.goto (-35), 3) := by decide +kernel
theorem dX6_carry_278 : decode cX6_carry 278 = .ok (.aload_n 0, 1) := by decide +kernel
theorem dX6_carry_279 : decode cX6_carry 279 = .ok (.getfield 69, 3) := by decide +kernel
theorem dX6_carry_282 : decode cX6_carry 282 = .ok (.iconst 0, 1) := by decide +kernel
theorem dX6_carry_283 : decode cX6_carry 283 = .ok (.aload_n 0, 1) := by decide +kernel
theorem dX6_carry_284 : decode cX6_carry 284 = .ok (.getfield 48, 3) := by decide +kernel
theorem dX6_carry_287 : decode cX6_carry 287 = .ok (.iconst 3, 1) := by decide +kernel
theorem dX6_carry_288 : decode cX6_carry 288 = .ok (.iload_n 2, 1) := by decide +kernel
theorem dX6_carry_289 : decode cX6_carry 289 = .ok (.imul, 1) := by decide +kernel
theorem dX6_carry_290 : decode cX6_carry 290 = .ok (.aload_n 0, 1) := by decide +kernel
theorem dX6_carry_291 : decode cX6_carry 291 = .ok (.getfield 69, 3) := by decide +kernel
theorem dX6_carry_294 : decode cX6_carry 294 = .ok (.iconst 0, 1) := by decide +kernel
theorem dX6_carry_295 : decode cX6_carry 295 = .ok (.invokestatic 136, 3) := by decide +kernel
theorem dX6_carry_298 : decode cX6_carry 298 = .ok (.aload_n 0, 1) := by decide +kernel
theorem dX6_carry_299 : decode cX6_carry 299 = .ok (.getfield 13, 3) := by decide +kernel
theorem dX6_carry_302 : decode cX6_carry 302 = .ok (.iload_n 1, 1) := by decide +kernel
theorem dX6_carry_303 : decode cX6_carry 303 = .ok (.baload, 1) := by decide +kernel
theorem dX6_carry_304 : decode cX6_carry 304 = .ok (.ifCond .eq 78, 3) := by decide +kernel
theorem dX6_carry_307 : decode cX6_carry 307 = .ok (.iconst 0, 1) := by decide +kernel
theorem dX6_carry_308 : decode cX6_carry 308 = .ok (.istore_n 3, 1) := by decide +kernel
theorem dX6_carry_309 : decode cX6_carry 309 = .ok (.iload_n 3, 1) := by decide +kernel
theorem dX6_carry_310 : decode cX6_carry 310 = .ok (.bipush 9, 2) := by decide +kernel
theorem dX6_carry_312 : decode cX6_carry 312 = .ok (.if_icmp .ge 26, 3) := by decide +kernel
theorem dX6_carry_315 : decode cX6_carry 315 = .ok (.aload_n 0, 1) := by decide +kernel
theorem dX6_carry_316 : decode cX6_carry 316 = .ok (.getfield 39, 3) := by decide +kernel
theorem dX6_carry_319 : decode cX6_carry 319 = .ok (.bipush 9, 2) := by decide +kernel
theorem dX6_carry_321 : decode cX6_carry 321 = .ok (.iload_n 1, 1) := by decide +kernel
theorem dX6_carry_322 : decode cX6_carry 322 = .ok (.imul, 1) := by decide +kernel
theorem dX6_carry_323 : decode cX6_carry 323 = .ok (.iload_n 3, 1) := by decide +kernel
theorem dX6_carry_324 : decode cX6_carry 324 = .ok (.iadd, 1) := by decide +kernel
theorem dX6_carry_325 : decode cX6_carry 325 = .ok (.aload_n 0, 1) := by decide +kernel
theorem dX6_carry_326 : decode cX6_carry 326 = .ok (.getfield 75, 3) := by decide +kernel
theorem dX6_carry_329 : decode cX6_carry 329 = .ok (.iload_n 3, 1) := by decide +kernel
theorem dX6_carry_330 : decode cX6_carry 330 = .ok (.laload, 1) := by decide +kernel
theorem dX6_carry_331 : decode cX6_carry 331 = .ok (.lastore, 1) := by decide +kernel
theorem dX6_carry_332 : decode cX6_carry 332 = .ok (.iinc 3 1, 3) := by decide +kernel
theorem dX6_carry_335 : decode cX6_carry 335 = .ok (.goto (-26), 3) := by decide +kernel
theorem dX6_carry_338 : decode cX6_carry 338 = .ok (.aload_n 0, 1) := by decide +kernel
theorem dX6_carry_339 : decode cX6_carry 339 = .ok (.getfield 54, 3) := by decide +kernel
theorem dX6_carry_342 : decode cX6_carry 342 = .ok (.iconst 3, 1) := by decide +kernel
theorem dX6_carry_343 : decode cX6_carry 343 = .ok (.iload_n 1, 1) := by decide +kernel
theorem dX6_carry_344 : decode cX6_carry 344 = .ok (.imul, 1) := by decide +kernel
theorem dX6_carry_345 : decode cX6_carry 345 = .ok (.aload_n 0, 1) := by decide +kernel
theorem dX6_carry_346 : decode cX6_carry 346 = .ok (.getfield 69, 3) := by decide +kernel
theorem dX6_carry_349 : decode cX6_carry 349 = .ok (.iconst 0, 1) := by decide +kernel
theorem dX6_carry_350 : decode cX6_carry 350 = .ok (.ldc2_w 95, 3) := by decide +kernel
theorem dX6_carry_353 : decode cX6_carry 353 = .ok (.invokestatic 132, 3) := by decide +kernel
theorem dX6_carry_356 : decode cX6_carry 356 = .ok (.aload_n 0, 1) := by decide +kernel
theorem dX6_carry_357 : decode cX6_carry 357 = .ok (.getfield 54, 3) := by decide +kernel
theorem dX6_carry_360 : decode cX6_carry 360 = .ok (.iconst 3, 1) := by decide +kernel
theorem dX6_carry_361 : decode cX6_carry 361 = .ok (.iload_n 1, 1) := by decide +kernel
theorem dX6_carry_362 : decode cX6_carry 362 = .ok (.imul, 1) := by decide +kernel
theorem dX6_carry_363 : decode cX6_carry 363 = .ok (.aload_n 0, 1) := by decide +kernel
theorem dX6_carry_364 : decode cX6_carry 364 = .ok (.getfield 45, 3) := by decide +kernel
theorem dX6_carry_367 : decode cX6_carry 367 = .ok (.iconst 3, 1) := by decide +kernel
theorem dX6_carry_368 : decode cX6_carry 368 = .ok (.iload_n 1, 1) := by decide +kernel
theorem dX6_carry_369 : decode cX6_carry 369 = .ok (.imul, 1) := by decide +kernel
theorem dX6_carry_370 : decode cX6_carry 370 = .ok (.aload_n 0, 1) := by decide +kernel
theorem dX6_carry_371 : decode cX6_carry 371 = .ok (.getfield 36, 3) := by decide +kernel
theorem dX6_carry_374 : decode cX6_carry 374 = .ok (.iload_n 1, 1) := by decide +kernel
theorem dX6_carry_375 : decode cX6_carry 375 = .ok (.laload, 1) := by decide +kernel
theorem dX6_carry_376 : decode cX6_carry 376 = .ok (.invokestatic 132, 3) := by decide +kernel
theorem dX6_carry_379 : decode cX6_carry 379 = .ok (.goto 100, 3) := by decide +kernel
theorem dX6_carry_382 : decode cX6_carry 382 = .ok (.aload_n 0, 1) := by decide +kernel
theorem dX6_carry_383 : decode cX6_carry 383 = .ok (.getfield 78, 3) := by decide +kernel
theorem dX6_carry_386 : decode cX6_carry 386 = .ok (.iconst 2, 1) := by decide +kernel
theorem dX6_carry_387 : decode cX6_carry 387 = .ok (.aload_n 0, 1) := by decide +kernel
theorem dX6_carry_388 : decode cX6_carry 388 = .ok (.getfield 21, 3) := by decide +kernel
theorem dX6_carry_391 : decode cX6_carry 391 = .ok (.iload_n 1, 1) := by decide +kernel
theorem dX6_carry_392 : decode cX6_carry 392 = .ok (.laload, 1) := by decide +kernel
theorem dX6_carry_393 : decode cX6_carry 393 = .ok (.invokestatic 121, 3) := by decide +kernel
theorem dX6_carry_396 : decode cX6_carry 396 = .ok (.aload_n 0, 1) := by decide +kernel
theorem dX6_carry_397 : decode cX6_carry 397 = .ok (.getfield 39, 3) := by decide +kernel
theorem dX6_carry_400 : decode cX6_carry 400 = .ok (.bipush 9, 2) := by decide +kernel
theorem dX6_carry_402 : decode cX6_carry 402 = .ok (.iload_n 1, 1) := by decide +kernel
theorem dX6_carry_403 : decode cX6_carry 403 = .ok (.imul, 1) := by decide +kernel
theorem dX6_carry_404 : decode cX6_carry 404 = .ok (.aload_n 0, 1) := by decide +kernel
theorem dX6_carry_405 : decode cX6_carry 405 = .ok (.getfield 75, 3) := by decide +kernel
theorem dX6_carry_408 : decode cX6_carry 408 = .ok (.iconst 0, 1) := by decide +kernel
theorem dX6_carry_409 : decode cX6_carry 409 = .ok (.aload_n 0, 1) := by decide +kernel
theorem dX6_carry_410 : decode cX6_carry 410 = .ok (.getfield 78, 3) := by decide +kernel
theorem dX6_carry_413 : decode cX6_carry 413 = .ok (.iconst 0, 1) := by decide +kernel
theorem dX6_carry_414 : decode cX6_carry 414 = .ok (.invokestatic 125, 3) := by decide +kernel
theorem dX6_carry_417 : decode cX6_carry 417 = .ok (.aload_n 0, 1) := by decide +kernel
theorem dX6_carry_418 : decode cX6_carry 418 = .ok (.getfield 48, 3) := by decide +kernel
theorem dX6_carry_421 : decode cX6_carry 421 = .ok (.iconst 3, 1) := by decide +kernel
theorem dX6_carry_422 : decode cX6_carry 422 = .ok (.iload_n 1, 1) := by decide +kernel
theorem dX6_carry_423 : decode cX6_carry 423 = .ok (.imul, 1) := by decide +kernel
theorem dX6_carry_424 : decode cX6_carry 424 = .ok (.aload_n 0, 1) := by decide +kernel
theorem dX6_carry_425 : decode cX6_carry 425 = .ok (.getfield 45, 3) := by decide +kernel
theorem dX6_carry_428 : decode cX6_carry 428 = .ok (.iconst 3, 1) := by decide +kernel
theorem dX6_carry_429 : decode cX6_carry 429 = .ok (.iload_n 1, 1) := by decide +kernel
theorem dX6_carry_430 : decode cX6_carry 430 = .ok (.imul, 1) := by decide +kernel
theorem dX6_carry_431 : decode cX6_carry 431 = .ok (.aload_n 0, 1) := by decide +kernel
theorem dX6_carry_432 : decode cX6_carry 432 = .ok (.getfield 33, 3) := by decide +kernel
theorem dX6_carry_435 : decode cX6_carry 435 = .ok (.iload_n 1, 1) := by decide +kernel
theorem dX6_carry_436 : decode cX6_carry 436 = .ok (.laload, 1) := by decide +kernel
theorem dX6_carry_437 : decode cX6_carry 437 = .ok (.invokestatic 132, 3) := by decide +kernel
theorem dX6_carry_440 : decode cX6_carry 440 = .ok (.aload_n 0, 1) := by decide +kernel
theorem dX6_carry_441 : decode cX6_carry 441 = .ok (.getfield 51, 3) := by decide +kernel
theorem dX6_carry_444 : decode cX6_carry 444 = .ok (.iconst 3, 1) := by decide +kernel
theorem dX6_carry_445 : decode cX6_carry 445 = .ok (.iload_n 1, 1) := by decide +kernel
theorem dX6_carry_446 : decode cX6_carry 446 = .ok (.imul, 1) := by decide +kernel
theorem dX6_carry_447 : decode cX6_carry 447 = .ok (.aload_n 0, 1) := by decide +kernel
theorem dX6_carry_448 : decode cX6_carry 448 = .ok (.getfield 45, 3) := by decide +kernel
theorem dX6_carry_451 : decode cX6_carry 451 = .ok (.iconst 3, 1) := by decide +kernel
theorem dX6_carry_452 : decode cX6_carry 452 = .ok (.iload_n 1, 1) := by decide +kernel
theorem dX6_carry_453 : decode cX6_carry 453 = .ok (.imul, 1) := by decide +kernel
theorem dX6_carry_454 : decode cX6_carry 454 = .ok (.aload_n 0, 1) := by decide +kernel
theorem dX6_carry_455 : decode cX6_carry 455 = .ok (.getfield 36, 3) := by decide +kernel
theorem dX6_carry_458 : decode cX6_carry 458 = .ok (.iload_n 1, 1) := by decide +kernel
theorem dX6_carry_459 : decode cX6_carry 459 = .ok (.laload, 1) := by decide +kernel
theorem dX6_carry_460 : decode cX6_carry 460 = .ok (.invokestatic 132, 3) := by decide +kernel
theorem dX6_carry_463 : decode cX6_carry 463 = .ok (.aload_n 0, 1) := by decide +kernel
theorem dX6_carry_464 : decode cX6_carry 464 = .ok (.getfield 51, 3) := by decide +kernel
theorem dX6_carry_467 : decode cX6_carry 467 = .ok (.iconst 3, 1) := by decide +kernel
theorem dX6_carry_468 : decode cX6_carry 468 = .ok (.iload_n 1, 1) := by decide +kernel
theorem dX6_carry_469 : decode cX6_carry 469 = .ok (.imul, 1) := by decide +kernel
theorem dX6_carry_470 : decode cX6_carry 470 = .ok (.aload_n 0, 1) := by decide +kernel
theorem dX6_carry_471 : decode cX6_carry 471 = .ok (.getfield 69, 3) := by decide +kernel
theorem dX6_carry_474 : decode cX6_carry 474 = .ok (.iconst 0, 1) := by decide +kernel
theorem dX6_carry_475 : decode cX6_carry 475 = .ok (.lconst 1, 1) := by decide +kernel
theorem dX6_carry_476 : decode cX6_carry 476 = .ok (.invokestatic 132, 3) := by decide +kernel
theorem dX6_carry_479 : decode cX6_carry 479 = .ok (.aload_n 0, 1) := by decide +kernel
theorem dX6_carry_480 : decode cX6_carry 480 = .ok (.aload_n 0, 1) := by decide +kernel
theorem dX6_carry_481 : decode cX6_carry 481 = .ok (.getfield 54, 3) := by decide +kernel
theorem dX6_carry_484 : decode cX6_carry 484 = .ok (.iconst 3, 1) := by decide +kernel
theorem dX6_carry_485 : decode cX6_carry 485 = .ok (.iload_n 1, 1) := by decide +kernel
theorem dX6_carry_486 : decode cX6_carry 486 = .ok (.imul, 1) := by decide +kernel
theorem dX6_carry_487 : decode cX6_carry 487 = .ok (.iload_n 2, 1) := by decide +kernel
theorem dX6_carry_488 : decode cX6_carry 488 = .ok (.aload_n 0, 1) := by decide +kernel
theorem dX6_carry_489 : decode cX6_carry 489 = .ok (.getfield 66, 3) := by decide +kernel
theorem dX6_carry_492 : decode cX6_carry 492 = .ok (.invokevirtual 139, 3) := by decide +kernel
theorem dX6_carry_495 : decode cX6_carry 495 = .ok (.aload_n 0, 1) := by decide +kernel
theorem dX6_carry_496 : decode cX6_carry 496 = .ok (.iload_n 1, 1) := by decide +kernel
theorem dX6_carry_497 : decode cX6_carry 497 = .ok (.invokevirtual 143, 3) := by decide +kernel
theorem dX6_carry_500 : decode cX6_carry 500 = .ok (.return_, 1) := by decide +kernel
theorem wf_X6_7 : Cond.fieldLink RX6 7 (TX6 2).1 (TX6 2).2.1 (TX6 2).2.2.1 ∈ ltb := List.mem_filter.mpr ⟨List.mem_append_right _ (List.mem_of_getElem? (i := 469) (by decide +kernel)), by decide +kernel⟩
theorem wf_X6_78 : Cond.fieldLink RX6 78 (TX6 24).1 (TX6 24).2.1 (TX6 24).2.2.1 ∈ ltb := List.mem_filter.mpr ⟨List.mem_append_right _ (List.mem_of_getElem? (i := 491) (by decide +kernel)), by decide +kernel⟩
theorem wc_X6_rotation : Cond.code yX6_rotation cX6_rotation 9 none ∈ ltb := List.mem_filter.mpr ⟨List.mem_append_right _ (List.mem_of_getElem? (i := 625) (by decide +kernel)), by decide +kernel⟩
theorem mi_X6_rotation : Mi yX6_rotation RX6 3 cX6_rotation 9 none := ⟨by decide +kernel, wc_X6_rotation, wi_X6, by decide⟩
theorem ws_X6_rotation : Cond.static yX6_rotation ∈ ltb := List.mem_filter.mpr ⟨List.mem_append_right _ (List.mem_of_getElem? (i := 624) (by decide +kernel)), by decide +kernel⟩
theorem wm_X6_121 : Cond.methodLink RX6 121 yX6_rotation ∈ ltb := List.mem_filter.mpr ⟨List.mem_append_right _ (List.mem_of_getElem? (i := 623) (by decide +kernel)), by decide +kernel⟩
theorem wf_X6_75 : Cond.fieldLink RX6 75 (TX6 23).1 (TX6 23).2.1 (TX6 23).2.2.1 ∈ ltb := List.mem_filter.mpr ⟨List.mem_append_right _ (List.mem_of_getElem? (i := 490) (by decide +kernel)), by decide +kernel⟩
theorem wc_X6_times : Cond.code yX6_times cX6_times 8 none ∈ ltb := List.mem_filter.mpr ⟨List.mem_append_right _ (List.mem_of_getElem? (i := 639) (by decide +kernel)), by decide +kernel⟩
theorem mi_X6_times : Mi yX6_times RX6 6 cX6_times 8 none := ⟨by decide +kernel, wc_X6_times, wi_X6, by decide⟩
theorem ws_X6_times : Cond.static yX6_times ∈ ltb := List.mem_filter.mpr ⟨List.mem_append_right _ (List.mem_of_getElem? (i := 638) (by decide +kernel)), by decide +kernel⟩
theorem wm_X6_125 : Cond.methodLink RX6 125 yX6_times ∈ ltb := List.mem_filter.mpr ⟨List.mem_append_right _ (List.mem_of_getElem? (i := 637) (by decide +kernel)), by decide +kernel⟩
theorem wf_X6_45 : Cond.fieldLink RX6 45 (TX6 13).1 (TX6 13).2.1 (TX6 13).2.2.1 ∈ ltb := List.mem_filter.mpr ⟨List.mem_append_right _ (List.mem_of_getElem? (i := 480) (by decide +kernel)), by decide +kernel⟩
theorem wf_X6_13 : Cond.fieldLink RX6 13 (TX6 3).1 (TX6 3).2.1 (TX6 3).2.2.1 ∈ ltb := List.mem_filter.mpr ⟨List.mem_append_right _ (List.mem_of_getElem? (i := 470) (by decide +kernel)), by decide +kernel⟩
theorem wf_X6_21 : Cond.fieldLink RX6 21 (TX6 5).1 (TX6 5).2.1 (TX6 5).2.2.1 ∈ ltb := List.mem_filter.mpr ⟨List.mem_append_right _ (List.mem_of_getElem? (i := 472) (by decide +kernel)), by decide +kernel⟩
theorem wf_X6_42 : Cond.fieldLink RX6 42 (TX6 12).1 (TX6 12).2.1 (TX6 12).2.2.1 ∈ ltb := List.mem_filter.mpr ⟨List.mem_append_right _ (List.mem_of_getElem? (i := 479) (by decide +kernel)), by decide +kernel⟩
theorem wf_X6_33 : Cond.fieldLink RX6 33 (TX6 9).1 (TX6 9).2.1 (TX6 9).2.2.1 ∈ ltb := List.mem_filter.mpr ⟨List.mem_append_right _ (List.mem_of_getElem? (i := 476) (by decide +kernel)), by decide +kernel⟩
theorem wf_X6_36 : Cond.fieldLink RX6 36 (TX6 10).1 (TX6 10).2.1 (TX6 10).2.2.1 ∈ ltb := List.mem_filter.mpr ⟨List.mem_append_right _ (List.mem_of_getElem? (i := 477) (by decide +kernel)), by decide +kernel⟩
theorem wc_X6_loads : Cond.code yX6_loads cX6_loads 3 none ∈ ltb := List.mem_filter.mpr ⟨List.mem_append_right _ (List.mem_of_getElem? (i := 659) (by decide +kernel)), by decide +kernel⟩
theorem mi_X6_loads : Mi yX6_loads RX6 1 cX6_loads 3 none := ⟨by decide +kernel, wc_X6_loads, wi_X6, by decide⟩
theorem wv_X6_loads : Cond.instanceMethod yX6_loads ∈ ltb := List.mem_filter.mpr ⟨List.mem_append_right _ (List.mem_of_getElem? (i := 658) (by decide +kernel)), by decide +kernel⟩
theorem we_X6_loads : Cond.selects RX6 yX6_loads yX6_loads ∈ ltb := List.mem_filter.mpr ⟨List.mem_append_left _ (List.mem_of_getElem? (i := 17) (by decide +kernel)), by decide +kernel⟩
theorem wm_X6_143 : Cond.methodLink RX6 143 yX6_loads ∈ ltb := List.mem_filter.mpr ⟨List.mem_append_right _ (List.mem_of_getElem? (i := 656) (by decide +kernel)), by decide +kernel⟩
noncomputable def pr_X6_carry : Prg := [(0, z_aload 0 1), (1, z_get 5 2), (4, z_iload 1 1), (5, z_iaload), (6, z_istore 2 1), (7, z_aload 0 1), (8, z_get 5 24), (11, z_ic (nI 0) 1), (12, z_aload 0 1), (13, z_get 5 4), (16, z_ic (nI 16) 2), (18, z_iload 1 1), (19, z_imul), (20, z_ic (nI 3) 1), (21, z_iadd), (22, z_laload), (23, z_call 3 sp_X6_rotation), (26, z_aload 0 1), (27, z_get 5 23), (30, z_ic (nI 0) 1), (31, z_aload 0 1), (32, z_get 5 11), (35, z_ic (nI 9) 2), (37, z_iload 2 1), (38, z_imul), (39, z_aload 0 1), (40, z_get 5 24), (43, z_ic (nI 0) 1), (44, z_call 6 sp_X6_times), (47, z_ic (nI 0) 1), (48, z_istore 3 1), (49, z_iload 3 1), (50, z_ic (nI 3) 1), (51, z_if2 (fun x y => y ≤ x) 80), (54, z_aload 0 1), (55, z_get 5 13), (58, z_ic (nI 3) 1), (59, z_iload 1 1), (60, z_imul), (61, z_iload 3 1), (62, z_iadd), (63, z_aload 0 1), (64, z_get 5 23), (67, z_ic (nI 3) 1), (68, z_iload 3 1), (69, z_imul), (70, z_ic (nI 2) 1), (71, z_iadd), (72, z_laload), (73, z_lastore), (74, z_iinc 3 (nI 1)), (77, z_goto 49), (80, z_aload 0 1), (81, z_get 5 20), (84, z_ic (nI 0) 1), (85, z_aload 0 1), (86, z_get 5 11), (89, z_ic (nI 9) 2), (91, z_iload 2 1), (92, z_imul), (93, z_aload 0 1), (94, z_get 5 4), (97, z_ic (nI 16) 2), (99, z_iload 1 1), (100, z_imul), (101, z_call 6 sp_X6_turned), (104, z_aload 0 1), (105, z_get 5 3), (108, z_iload 1 1), (109, z_baload), (110, z_if1 (fun x => x = 0) 134), (113, z_aload 0 1), (114, z_get 5 20), (117, z_ic (nI 0) 1), (118, z_aload 0 1), (119, z_get 5 13), (122, z_ic (nI 3) 1), (123, z_iload 1 1), (124, z_imul), (125, z_aload 0 1), (126, z_get 5 5), (129, z_iload 1 1), (130, z_laload), (131, z_call 5 sp_X6_add), (134, z_ic (nI 0) 1), (135, z_istore 3 1), (136, z_iload 3 1), (137, z_ic (nI 3) 1), (138, z_if2 (fun x y => y ≤ x) 238), (141, z_aload 0 1), (142, z_get 5 12), (145, z_ic (nI 3) 1), (146, z_iload 1 1), (147, z_imul), (148, z_iload 3 1), (149, z_iadd), (150, z_aload 0 1), (151, z_get 5 12), (154, z_ic (nI 3) 1), (155, z_iload 2 1), (156, z_imul), (157, z_iload 3 1), (158, z_iadd), (159, z_laload), (160, z_aload 0 1), (161, z_get 5 20), (164, z_iload 3 1), (165, z_laload), (166, z_ladd), (167, z_lc (.inl 2147483647) 3), (170, z_lrem), (171, z_lastore), (172, z_aload 0 1), (173, z_get 5 14), (176, z_ic (nI 3) 1), (177, z_iload 1 1), (178, z_imul), (179, z_iload 3 1), (180, z_iadd), (181, z_aload 0 1), (182, z_get 5 14), (185, z_ic (nI 3) 1), (186, z_iload 2 1), (187, z_imul), (188, z_iload 3 1), (189, z_iadd), (190, z_laload), (191, z_lastore), (192, z_aload 0 1), (193, z_get 5 15), (196, z_ic (nI 3) 1), (197, z_iload 1 1), (198, z_imul), (199, z_iload 3 1), (200, z_iadd), (201, z_aload 0 1), (202, z_get 5 15), (205, z_ic (nI 3) 1), (206, z_iload 2 1), (207, z_imul), (208, z_iload 3 1), (209, z_iadd), (210, z_laload), (211, z_lastore), (212, z_aload 0 1), (213, z_get 5 16), (216, z_ic (nI 3) 1), (217, z_iload 1 1), (218, z_imul), (219, z_iload 3 1), (220, z_iadd), (221, z_aload 0 1), (222, z_get 5 16), (225, z_ic (nI 3) 1), (226, z_iload 2 1), (227, z_imul), (228, z_iload 3 1), (229, z_iadd), (230, z_laload), (231, z_lastore), (232, z_iinc 3 (nI 1)), (235, z_goto 136), (238, z_ic (nI 0) 1), (239, z_istore 3 1), (240, z_iload 3 1), (241, z_ic (nI 3) 1), (242, z_if2 (fun x y => y ≤ x) 278), (245, z_aload 0 1), (246, z_get 5 21), (249, z_iload 3 1), (250, z_aload 0 1), (251, z_get 5 13), (254, z_ic (nI 3) 1), (255, z_iload 1 1), (256, z_imul), (257, z_iload 3 1), (258, z_iadd), (259, z_laload), (260, z_aload 0 1), (261, z_get 5 9), (264, z_iload 1 1), (265, z_laload), (266, z_lmul), (267, z_lc (.inl 2147483647) 3), (270, z_lrem), (271, z_lastore), (272, z_iinc 3 (nI 1)), (275, z_goto 240), (278, z_aload 0 1), (279, z_get 5 21), (282, z_ic (nI 0) 1), (283, z_aload 0 1), (284, z_get 5 14), (287, z_ic (nI 3) 1), (288, z_iload 2 1), (289, z_imul), (290, z_aload 0 1), (291, z_get 5 21), (294, z_ic (nI 0) 1), (295, z_call 6 sp_X6_cross), (298, z_aload 0 1), (299, z_get 5 3), (302, z_iload 1 1), (303, z_baload), (304, z_if1 (fun x => x = 0) 382), (307, z_ic (nI 0) 1), (308, z_istore 3 1), (309, z_iload 3 1), (310, z_ic (nI 9) 2), (312, z_if2 (fun x y => y ≤ x) 338), (315, z_aload 0 1), (316, z_get 5 11), (319, z_ic (nI 9) 2), (321, z_iload 1 1), (322, z_imul), (323, z_iload 3 1), (324, z_iadd), (325, z_aload 0 1), (326, z_get 5 23), (329, z_iload 3 1), (330, z_laload), (331, z_lastore), (332, z_iinc 3 (nI 1)), (335, z_goto 309), (338, z_aload 0 1), (339, z_get 5 16), (342, z_ic (nI 3) 1), (343, z_iload 1 1), (344, z_imul), (345, z_aload 0 1), (346, z_get 5 21), (349, z_ic (nI 0) 1), (350, z_lc (.inr 2) 3), (353, z_call 5 sp_X6_add), (356, z_aload 0 1), (357, z_get 5 16), (360, z_ic (nI 3) 1), (361, z_iload 1 1), (362, z_imul), (363, z_aload 0 1), (364, z_get 5 13), (367, z_ic (nI 3) 1), (368, z_iload 1 1), (369, z_imul), (370, z_aload 0 1), (371, z_get 5 10), (374, z_iload 1 1), (375, z_laload), (376, z_call 5 sp_X6_add), (379, z_goto 479), (382, z_aload 0 1), (383, z_get 5 24), (386, z_ic (nI 2) 1), (387, z_aload 0 1), (388, z_get 5 5), (391, z_iload 1 1), (392, z_laload), (393, z_call 3 sp_X6_rotation), (396, z_aload 0 1), (397, z_get 5 11), (400, z_ic (nI 9) 2), (402, z_iload 1 1), (403, z_imul), (404, z_aload 0 1), (405, z_get 5 23), (408, z_ic (nI 0) 1), (409, z_aload 0 1), (410, z_get 5 24), (413, z_ic (nI 0) 1), (414, z_call 6 sp_X6_times), (417, z_aload 0 1), (418, z_get 5 14), (421, z_ic (nI 3) 1), (422, z_iload 1 1), (423, z_imul), (424, z_aload 0 1), (425, z_get 5 13), (428, z_ic (nI 3) 1), (429, z_iload 1 1), (430, z_imul), (431, z_aload 0 1), (432, z_get 5 9), (435, z_iload 1 1), (436, z_laload), (437, z_call 5 sp_X6_add), (440, z_aload 0 1), (441, z_get 5 15), (444, z_ic (nI 3) 1), (445, z_iload 1 1), (446, z_imul), (447, z_aload 0 1), (448, z_get 5 13), (451, z_ic (nI 3) 1), (452, z_iload 1 1), (453, z_imul), (454, z_aload 0 1), (455, z_get 5 10), (458, z_iload 1 1), (459, z_laload), (460, z_call 5 sp_X6_add), (463, z_aload 0 1), (464, z_get 5 15), (467, z_ic (nI 3) 1), (468, z_iload 1 1), (469, z_imul), (470, z_aload 0 1), (471, z_get 5 21), (474, z_ic (nI 0) 1), (475, z_lc (.inr 1) 1), (476, z_call 5 sp_X6_add), (479, z_aload 0 1), (480, z_aload 0 1), (481, z_get 5 16), (484, z_ic (nI 3) 1), (485, z_iload 1 1), (486, z_imul), (487, z_iload 2 1), (488, z_aload 0 1), (489, z_get 5 20), (492, z_callv 4 5 sp_X6_swing), (495, z_aload 0 1), (496, z_iload 1 1), (497, z_callv 1 5 sp_X6_loads), (500, z_vret)]
set_option maxRecDepth 100000 in
set_option maxHeartbeats 4000000 in
theorem sn_X6_carry {G : Geo} (hG : GeoOK G) (l : Launch) : ∀ q ∈ pr_X6_carry, Sn G l yX6_carry.cls cX6_carry 4 4 none q.1 q.2 :=
  fcs (zs_aload_n dX6_carry_0 rfl) <| fcs (zs_get cls5 (by decide) (by decide) wf_X6_7 dX6_carry_1) <| fcs (zs_iload_n dX6_carry_4 rfl) <| fcs (zs_iaload dX6_carry_5) <| fcs (zs_istore_n dX6_carry_6 rfl (by decide)) <| fcs (zs_aload_n dX6_carry_7 rfl) <| fcs (zs_get cls5 (by decide) (by decide) wf_X6_78 dX6_carry_8) <| fcs (zs_iconst dX6_carry_11 rfl) <| fcs (zs_aload_n dX6_carry_12 rfl) <| fcs (zs_get cls5 (by decide) (by decide) wf_X6_17 dX6_carry_13) <| fcs (zs_bipush dX6_carry_16 rfl) <| fcs (zs_iload_n dX6_carry_18 rfl) <| fcs (zs_imul dX6_carry_19) <| fcs (zs_iconst dX6_carry_20 rfl) <| fcs (zs_iadd dX6_carry_21) <| fcs (zs_laload dX6_carry_22) <| fcs (zs_calls (ct_X6_rotation hG l) mi_X6_rotation ws_X6_rotation (by decide) wm_X6_121 dX6_carry_23) <| fcs (zs_aload_n dX6_carry_26 rfl) <| fcs (zs_get cls5 (by decide) (by decide) wf_X6_75 dX6_carry_27) <| fcs (zs_iconst dX6_carry_30 rfl) <| fcs (zs_aload_n dX6_carry_31 rfl) <| fcs (zs_get cls5 (by decide) (by decide) wf_X6_39 dX6_carry_32) <| fcs (zs_bipush dX6_carry_35 rfl) <| fcs (zs_iload_n dX6_carry_37 rfl) <| fcs (zs_imul dX6_carry_38) <| fcs (zs_aload_n dX6_carry_39 rfl) <| fcs (zs_get cls5 (by decide) (by decide) wf_X6_78 dX6_carry_40) <| fcs (zs_iconst dX6_carry_43 rfl) <| fcs (zs_calls (ct_X6_times hG l) mi_X6_times ws_X6_times (by decide) wm_X6_125 dX6_carry_44) <| fcs (zs_iconst dX6_carry_47 rfl) <| fcs (zs_istore_n dX6_carry_48 rfl (by decide)) <| fcs (zs_iload_n dX6_carry_49 rfl) <| fcs (zs_iconst dX6_carry_50 rfl) <| fcs (zs_icmp_ge dX6_carry_51 rfl) <| fcs (zs_aload_n dX6_carry_54 rfl) <| fcs (zs_get cls5 (by decide) (by decide) wf_X6_45 dX6_carry_55) <| fcs (zs_iconst dX6_carry_58 rfl) <| fcs (zs_iload_n dX6_carry_59 rfl) <| fcs (zs_imul dX6_carry_60) <| fcs (zs_iload_n dX6_carry_61 rfl) <| fcs (zs_iadd dX6_carry_62) <| fcs (zs_aload_n dX6_carry_63 rfl) <| fcs (zs_get cls5 (by decide) (by decide) wf_X6_75 dX6_carry_64) <| fcs (zs_iconst dX6_carry_67 rfl) <| fcs (zs_iload_n dX6_carry_68 rfl) <| fcs (zs_imul dX6_carry_69) <| fcs (zs_iconst dX6_carry_70 rfl) <| fcs (zs_iadd dX6_carry_71) <| fcs (zs_laload dX6_carry_72) <| fcs (zs_lastore dX6_carry_73) <| fcs (zs_iinc dX6_carry_74 rfl (by decide)) <| fcs (zs_goto dX6_carry_77 rfl) <| fcs (zs_aload_n dX6_carry_80 rfl) <| fcs (zs_get cls5 (by decide) (by decide) wf_X6_66 dX6_carry_81) <| fcs (zs_iconst dX6_carry_84 rfl) <| fcs (zs_aload_n dX6_carry_85 rfl) <| fcs (zs_get cls5 (by decide) (by decide) wf_X6_39 dX6_carry_86) <| fcs (zs_bipush dX6_carry_89 rfl) <| fcs (zs_iload_n dX6_carry_91 rfl) <| fcs (zs_imul dX6_carry_92) <| fcs (zs_aload_n dX6_carry_93 rfl) <| fcs (zs_get cls5 (by decide) (by decide) wf_X6_17 dX6_carry_94) <| fcs (zs_bipush dX6_carry_97 rfl) <| fcs (zs_iload_n dX6_carry_99 rfl) <| fcs (zs_imul dX6_carry_100) <| fcs (zs_calls (ct_X6_turned hG l) mi_X6_turned ws_X6_turned (by decide) wm_X6_129 dX6_carry_101) <| fcs (zs_aload_n dX6_carry_104 rfl) <| fcs (zs_get cls5 (by decide) (by decide) wf_X6_13 dX6_carry_105) <| fcs (zs_iload_n dX6_carry_108 rfl) <| fcs (zs_baload dX6_carry_109) <| fcs (zs_if_eq dX6_carry_110 rfl) <| fcs (zs_aload_n dX6_carry_113 rfl) <| fcs (zs_get cls5 (by decide) (by decide) wf_X6_66 dX6_carry_114) <| fcs (zs_iconst dX6_carry_117 rfl) <| fcs (zs_aload_n dX6_carry_118 rfl) <| fcs (zs_get cls5 (by decide) (by decide) wf_X6_45 dX6_carry_119) <| fcs (zs_iconst dX6_carry_122 rfl) <| fcs (zs_iload_n dX6_carry_123 rfl) <| fcs (zs_imul dX6_carry_124) <| fcs (zs_aload_n dX6_carry_125 rfl) <| fcs (zs_get cls5 (by decide) (by decide) wf_X6_21 dX6_carry_126) <| fcs (zs_iload_n dX6_carry_129 rfl) <| fcs (zs_laload dX6_carry_130) <| fcs (zs_calls (ct_X6_add hG l) mi_X6_add ws_X6_add (by decide) wm_X6_132 dX6_carry_131) <| fcs (zs_iconst dX6_carry_134 rfl) <| fcs (zs_istore_n dX6_carry_135 rfl (by decide)) <| fcs (zs_iload_n dX6_carry_136 rfl) <| fcs (zs_iconst dX6_carry_137 rfl) <| fcs (zs_icmp_ge dX6_carry_138 rfl) <| fcs (zs_aload_n dX6_carry_141 rfl) <| fcs (zs_get cls5 (by decide) (by decide) wf_X6_42 dX6_carry_142) <| fcs (zs_iconst dX6_carry_145 rfl) <| fcs (zs_iload_n dX6_carry_146 rfl) <| fcs (zs_imul dX6_carry_147) <| fcs (zs_iload_n dX6_carry_148 rfl) <| fcs (zs_iadd dX6_carry_149) <| fcs (zs_aload_n dX6_carry_150 rfl) <| fcs (zs_get cls5 (by decide) (by decide) wf_X6_42 dX6_carry_151) <| fcs (zs_iconst dX6_carry_154 rfl) <| fcs (zs_iload_n dX6_carry_155 rfl) <| fcs (zs_imul dX6_carry_156) <| fcs (zs_iload_n dX6_carry_157 rfl) <| fcs (zs_iadd dX6_carry_158) <| fcs (zs_laload dX6_carry_159) <| fcs (zs_aload_n dX6_carry_160 rfl) <| fcs (zs_get cls5 (by decide) (by decide) wf_X6_66 dX6_carry_161) <| fcs (zs_iload_n dX6_carry_164 rfl) <| fcs (zs_laload dX6_carry_165) <| fcs (zs_ladd dX6_carry_166) <| fcs (zs_ldc2 dX6_carry_167 wl_X6_91) <| fcs (zs_lrem dX6_carry_170) <| fcs (zs_lastore dX6_carry_171) <| fcs (zs_aload_n dX6_carry_172 rfl) <| fcs (zs_get cls5 (by decide) (by decide) wf_X6_48 dX6_carry_173) <| fcs (zs_iconst dX6_carry_176 rfl) <| fcs (zs_iload_n dX6_carry_177 rfl) <| fcs (zs_imul dX6_carry_178) <| fcs (zs_iload_n dX6_carry_179 rfl) <| fcs (zs_iadd dX6_carry_180) <| fcs (zs_aload_n dX6_carry_181 rfl) <| fcs (zs_get cls5 (by decide) (by decide) wf_X6_48 dX6_carry_182) <| fcs (zs_iconst dX6_carry_185 rfl) <| fcs (zs_iload_n dX6_carry_186 rfl) <| fcs (zs_imul dX6_carry_187) <| fcs (zs_iload_n dX6_carry_188 rfl) <| fcs (zs_iadd dX6_carry_189) <| fcs (zs_laload dX6_carry_190) <| fcs (zs_lastore dX6_carry_191) <| fcs (zs_aload_n dX6_carry_192 rfl) <| fcs (zs_get cls5 (by decide) (by decide) wf_X6_51 dX6_carry_193) <| fcs (zs_iconst dX6_carry_196 rfl) <| fcs (zs_iload_n dX6_carry_197 rfl) <| fcs (zs_imul dX6_carry_198) <| fcs (zs_iload_n dX6_carry_199 rfl) <| fcs (zs_iadd dX6_carry_200) <| fcs (zs_aload_n dX6_carry_201 rfl) <| fcs (zs_get cls5 (by decide) (by decide) wf_X6_51 dX6_carry_202) <| fcs (zs_iconst dX6_carry_205 rfl) <| fcs (zs_iload_n dX6_carry_206 rfl) <| fcs (zs_imul dX6_carry_207) <| fcs (zs_iload_n dX6_carry_208 rfl) <| fcs (zs_iadd dX6_carry_209) <| fcs (zs_laload dX6_carry_210) <| fcs (zs_lastore dX6_carry_211) <| fcs (zs_aload_n dX6_carry_212 rfl) <| fcs (zs_get cls5 (by decide) (by decide) wf_X6_54 dX6_carry_213) <| fcs (zs_iconst dX6_carry_216 rfl) <| fcs (zs_iload_n dX6_carry_217 rfl) <| fcs (zs_imul dX6_carry_218) <| fcs (zs_iload_n dX6_carry_219 rfl) <| fcs (zs_iadd dX6_carry_220) <| fcs (zs_aload_n dX6_carry_221 rfl) <| fcs (zs_get cls5 (by decide) (by decide) wf_X6_54 dX6_carry_222) <| fcs (zs_iconst dX6_carry_225 rfl) <| fcs (zs_iload_n dX6_carry_226 rfl) <| fcs (zs_imul dX6_carry_227) <| fcs (zs_iload_n dX6_carry_228 rfl) <| fcs (zs_iadd dX6_carry_229) <| fcs (zs_laload dX6_carry_230) <| fcs (zs_lastore dX6_carry_231) <| fcs (zs_iinc dX6_carry_232 rfl (by decide)) <| fcs (zs_goto dX6_carry_235 rfl) <| fcs (zs_iconst dX6_carry_238 rfl) <| fcs (zs_istore_n dX6_carry_239 rfl (by decide)) <| fcs (zs_iload_n dX6_carry_240 rfl) <| fcs (zs_iconst dX6_carry_241 rfl) <| fcs (zs_icmp_ge dX6_carry_242 rfl) <| fcs (zs_aload_n dX6_carry_245 rfl) <| fcs (zs_get cls5 (by decide) (by decide) wf_X6_69 dX6_carry_246) <| fcs (zs_iload_n dX6_carry_249 rfl) <| fcs (zs_aload_n dX6_carry_250 rfl) <| fcs (zs_get cls5 (by decide) (by decide) wf_X6_45 dX6_carry_251) <| fcs (zs_iconst dX6_carry_254 rfl) <| fcs (zs_iload_n dX6_carry_255 rfl) <| fcs (zs_imul dX6_carry_256) <| fcs (zs_iload_n dX6_carry_257 rfl) <| fcs (zs_iadd dX6_carry_258) <| fcs (zs_laload dX6_carry_259) <| fcs (zs_aload_n dX6_carry_260 rfl) <| fcs (zs_get cls5 (by decide) (by decide) wf_X6_33 dX6_carry_261) <| fcs (zs_iload_n dX6_carry_264 rfl) <| fcs (zs_laload dX6_carry_265) <| fcs (zs_lmul dX6_carry_266) <| fcs (zs_ldc2 dX6_carry_267 wl_X6_91) <| fcs (zs_lrem dX6_carry_270) <| fcs (zs_lastore dX6_carry_271) <| fcs (zs_iinc dX6_carry_272 rfl (by decide)) <| fcs (zs_goto dX6_carry_275 rfl) <| fcs (zs_aload_n dX6_carry_278 rfl) <| fcs (zs_get cls5 (by decide) (by decide) wf_X6_69 dX6_carry_279) <| fcs (zs_iconst dX6_carry_282 rfl) <| fcs (zs_aload_n dX6_carry_283 rfl) <| fcs (zs_get cls5 (by decide) (by decide) wf_X6_48 dX6_carry_284) <| fcs (zs_iconst dX6_carry_287 rfl) <| fcs (zs_iload_n dX6_carry_288 rfl) <| fcs (zs_imul dX6_carry_289) <| fcs (zs_aload_n dX6_carry_290 rfl) <| fcs (zs_get cls5 (by decide) (by decide) wf_X6_69 dX6_carry_291) <| fcs (zs_iconst dX6_carry_294 rfl) <| fcs (zs_calls (ct_X6_cross hG l) mi_X6_cross ws_X6_cross (by decide) wm_X6_136 dX6_carry_295) <| fcs (zs_aload_n dX6_carry_298 rfl) <| fcs (zs_get cls5 (by decide) (by decide) wf_X6_13 dX6_carry_299) <| fcs (zs_iload_n dX6_carry_302 rfl) <| fcs (zs_baload dX6_carry_303) <| fcs (zs_if_eq dX6_carry_304 rfl) <| fcs (zs_iconst dX6_carry_307 rfl) <| fcs (zs_istore_n dX6_carry_308 rfl (by decide)) <| fcs (zs_iload_n dX6_carry_309 rfl) <| fcs (zs_bipush dX6_carry_310 rfl) <| fcs (zs_icmp_ge dX6_carry_312 rfl) <| fcs (zs_aload_n dX6_carry_315 rfl) <| fcs (zs_get cls5 (by decide) (by decide) wf_X6_39 dX6_carry_316) <| fcs (zs_bipush dX6_carry_319 rfl) <| fcs (zs_iload_n dX6_carry_321 rfl) <| fcs (zs_imul dX6_carry_322) <| fcs (zs_iload_n dX6_carry_323 rfl) <| fcs (zs_iadd dX6_carry_324) <| fcs (zs_aload_n dX6_carry_325 rfl) <| fcs (zs_get cls5 (by decide) (by decide) wf_X6_75 dX6_carry_326) <| fcs (zs_iload_n dX6_carry_329 rfl) <| fcs (zs_laload dX6_carry_330) <| fcs (zs_lastore dX6_carry_331) <| fcs (zs_iinc dX6_carry_332 rfl (by decide)) <| fcs (zs_goto dX6_carry_335 rfl) <| fcs (zs_aload_n dX6_carry_338 rfl) <| fcs (zs_get cls5 (by decide) (by decide) wf_X6_54 dX6_carry_339) <| fcs (zs_iconst dX6_carry_342 rfl) <| fcs (zs_iload_n dX6_carry_343 rfl) <| fcs (zs_imul dX6_carry_344) <| fcs (zs_aload_n dX6_carry_345 rfl) <| fcs (zs_get cls5 (by decide) (by decide) wf_X6_69 dX6_carry_346) <| fcs (zs_iconst dX6_carry_349 rfl) <| fcs (zs_ldc2 dX6_carry_350 wl_X6_95) <| fcs (zs_calls (ct_X6_add hG l) mi_X6_add ws_X6_add (by decide) wm_X6_132 dX6_carry_353) <| fcs (zs_aload_n dX6_carry_356 rfl) <| fcs (zs_get cls5 (by decide) (by decide) wf_X6_54 dX6_carry_357) <| fcs (zs_iconst dX6_carry_360 rfl) <| fcs (zs_iload_n dX6_carry_361 rfl) <| fcs (zs_imul dX6_carry_362) <| fcs (zs_aload_n dX6_carry_363 rfl) <| fcs (zs_get cls5 (by decide) (by decide) wf_X6_45 dX6_carry_364) <| fcs (zs_iconst dX6_carry_367 rfl) <| fcs (zs_iload_n dX6_carry_368 rfl) <| fcs (zs_imul dX6_carry_369) <| fcs (zs_aload_n dX6_carry_370 rfl) <| fcs (zs_get cls5 (by decide) (by decide) wf_X6_36 dX6_carry_371) <| fcs (zs_iload_n dX6_carry_374 rfl) <| fcs (zs_laload dX6_carry_375) <| fcs (zs_calls (ct_X6_add hG l) mi_X6_add ws_X6_add (by decide) wm_X6_132 dX6_carry_376) <| fcs (zs_goto dX6_carry_379 rfl) <| fcs (zs_aload_n dX6_carry_382 rfl) <| fcs (zs_get cls5 (by decide) (by decide) wf_X6_78 dX6_carry_383) <| fcs (zs_iconst dX6_carry_386 rfl) <| fcs (zs_aload_n dX6_carry_387 rfl) <| fcs (zs_get cls5 (by decide) (by decide) wf_X6_21 dX6_carry_388) <| fcs (zs_iload_n dX6_carry_391 rfl) <| fcs (zs_laload dX6_carry_392) <| fcs (zs_calls (ct_X6_rotation hG l) mi_X6_rotation ws_X6_rotation (by decide) wm_X6_121 dX6_carry_393) <| fcs (zs_aload_n dX6_carry_396 rfl) <| fcs (zs_get cls5 (by decide) (by decide) wf_X6_39 dX6_carry_397) <| fcs (zs_bipush dX6_carry_400 rfl) <| fcs (zs_iload_n dX6_carry_402 rfl) <| fcs (zs_imul dX6_carry_403) <| fcs (zs_aload_n dX6_carry_404 rfl) <| fcs (zs_get cls5 (by decide) (by decide) wf_X6_75 dX6_carry_405) <| fcs (zs_iconst dX6_carry_408 rfl) <| fcs (zs_aload_n dX6_carry_409 rfl) <| fcs (zs_get cls5 (by decide) (by decide) wf_X6_78 dX6_carry_410) <| fcs (zs_iconst dX6_carry_413 rfl) <| fcs (zs_calls (ct_X6_times hG l) mi_X6_times ws_X6_times (by decide) wm_X6_125 dX6_carry_414) <| fcs (zs_aload_n dX6_carry_417 rfl) <| fcs (zs_get cls5 (by decide) (by decide) wf_X6_48 dX6_carry_418) <| fcs (zs_iconst dX6_carry_421 rfl) <| fcs (zs_iload_n dX6_carry_422 rfl) <| fcs (zs_imul dX6_carry_423) <| fcs (zs_aload_n dX6_carry_424 rfl) <| fcs (zs_get cls5 (by decide) (by decide) wf_X6_45 dX6_carry_425) <| fcs (zs_iconst dX6_carry_428 rfl) <| fcs (zs_iload_n dX6_carry_429 rfl) <| fcs (zs_imul dX6_carry_430) <| fcs (zs_aload_n dX6_carry_431 rfl) <| fcs (zs_get cls5 (by decide) (by decide) wf_X6_33 dX6_carry_432) <| fcs (zs_iload_n dX6_carry_435 rfl) <| fcs (zs_laload dX6_carry_436) <| fcs (zs_calls (ct_X6_add hG l) mi_X6_add ws_X6_add (by decide) wm_X6_132 dX6_carry_437) <| fcs (zs_aload_n dX6_carry_440 rfl) <| fcs (zs_get cls5 (by decide) (by decide) wf_X6_51 dX6_carry_441) <| fcs (zs_iconst dX6_carry_444 rfl) <| fcs (zs_iload_n dX6_carry_445 rfl) <| fcs (zs_imul dX6_carry_446) <| fcs (zs_aload_n dX6_carry_447 rfl) <| fcs (zs_get cls5 (by decide) (by decide) wf_X6_45 dX6_carry_448) <| fcs (zs_iconst dX6_carry_451 rfl) <| fcs (zs_iload_n dX6_carry_452 rfl) <| fcs (zs_imul dX6_carry_453) <| fcs (zs_aload_n dX6_carry_454 rfl) <| fcs (zs_get cls5 (by decide) (by decide) wf_X6_36 dX6_carry_455) <| fcs (zs_iload_n dX6_carry_458 rfl) <| fcs (zs_laload dX6_carry_459) <| fcs (zs_calls (ct_X6_add hG l) mi_X6_add ws_X6_add (by decide) wm_X6_132 dX6_carry_460) <| fcs (zs_aload_n dX6_carry_463 rfl) <| fcs (zs_get cls5 (by decide) (by decide) wf_X6_51 dX6_carry_464) <| fcs (zs_iconst dX6_carry_467 rfl) <| fcs (zs_iload_n dX6_carry_468 rfl) <| fcs (zs_imul dX6_carry_469) <| fcs (zs_aload_n dX6_carry_470 rfl) <| fcs (zs_get cls5 (by decide) (by decide) wf_X6_69 dX6_carry_471) <| fcs (zs_iconst dX6_carry_474 rfl) <| fcs (zs_lconst dX6_carry_475 rfl) <| fcs (zs_calls (ct_X6_add hG l) mi_X6_add ws_X6_add (by decide) wm_X6_132 dX6_carry_476) <| fcs (zs_aload_n dX6_carry_479 rfl) <| fcs (zs_aload_n dX6_carry_480 rfl) <| fcs (zs_get cls5 (by decide) (by decide) wf_X6_54 dX6_carry_481) <| fcs (zs_iconst dX6_carry_484 rfl) <| fcs (zs_iload_n dX6_carry_485 rfl) <| fcs (zs_imul dX6_carry_486) <| fcs (zs_iload_n dX6_carry_487 rfl) <| fcs (zs_aload_n dX6_carry_488 rfl) <| fcs (zs_get cls5 (by decide) (by decide) wf_X6_66 dX6_carry_489) <| fcs (zs_callv cls5 (by decide) (ct_X6_swing hG l) mi_X6_swing wv_X6_swing we_X6_swing (by decide) wm_X6_139 dX6_carry_492) <| fcs (zs_aload_n dX6_carry_495 rfl) <| fcs (zs_iload_n dX6_carry_496 rfl) <| fcs (zs_callv cls5 (by decide) (ct_X6_loads hG l) mi_X6_loads wv_X6_loads we_X6_loads (by decide) wm_X6_143 dX6_carry_497) <| fcs (zs_vret dX6_carry_500) <| fnl
theorem sL_fl (s : SS) (t : Nat × Nat) (b n : Nat) (f : Nat → ZF) {kd : Nat} (k i : Nat) (x : ZF) (h : kd ≠ t.1) : sL (fl s t b n f) kd k i x = fl (sL s kd k i x) t b n f := by
  unfold sL fl
  refine Prod.ext rfl (Prod.ext ?_ rfl)
  funext a b' j
  dsimp only
  by_cases h1 : a = kd ∧ b' = k ∧ j = i
  · rw [if_pos h1, if_neg (fun q => h (h1.1.symm.trans q.1)), if_pos h1]
  · rw [if_neg h1, if_neg h1]
theorem q4_s (s : SS) (k p c : Nat) : sL (sL (sL (sL (m_q4 s k p c) 28 0 (3 * k + c) (vco c (v_add (g3 s (28, 0) (3 * p)) (g3 s (36, 0) 0)))) 30 0 (3 * k + c) (vco c (g3 s (30, 0) (3 * p)))) 31 0 (3 * k + c) (vco c (g3 s (31, 0) (3 * p)))) 32 0 (3 * k + c) (vco c (g3 s (32, 0) (3 * p))) = m_q4 s k p (c + 1) := by
  unfold m_q4
  rw [sL_fl (kd := 28) _ (32, 0) _ _ _ _ _ _ (by decide), sL_fl (kd := 28) _ (31, 0) _ _ _ _ _ _ (by decide), sL_fl (kd := 28) _ (30, 0) _ _ _ _ _ _ (by decide)]
  have e1 := fl_s s (28, 0) (3 * k) c (fun c => vco c (v_add (g3 s (28, 0) (3 * p)) (g3 s (36, 0) 0))) (i := 3 * k + c) rfl rfl
  dsimp only at e1
  rw [e1]
  rw [sL_fl (kd := 30) _ (32, 0) _ _ _ _ _ _ (by decide), sL_fl (kd := 30) _ (31, 0) _ _ _ _ _ _ (by decide)]
  have e2 := fl_s (fl s (28, 0) (3 * k) (c + 1) (fun c => vco c (v_add (g3 s (28, 0) (3 * p)) (g3 s (36, 0) 0)))) (30, 0) (3 * k) c (fun c => vco c (g3 s (30, 0) (3 * p))) (i := 3 * k + c) rfl rfl
  dsimp only at e2
  rw [e2]
  rw [sL_fl (kd := 31) _ (32, 0) _ _ _ _ _ _ (by decide)]
  have e3 := fl_s (fl (fl s (28, 0) (3 * k) (c + 1) (fun c => vco c (v_add (g3 s (28, 0) (3 * p)) (g3 s (36, 0) 0)))) (30, 0) (3 * k) (c + 1) (fun c => vco c (g3 s (30, 0) (3 * p)))) (31, 0) (3 * k) c (fun c => vco c (g3 s (31, 0) (3 * p))) (i := 3 * k + c) rfl rfl
  dsimp only at e3
  rw [e3]
  exact fl_s _ (32, 0) (3 * k) c (fun c => vco c (g3 s (32, 0) (3 * p))) (i := 3 * k + c) rfl rfl
section CA
variable {X : Kx} {post : Option AV → SS → Prop}
set_option maxRecDepth 100000 in
set_option maxHeartbeats 4000000 in
theorem ca_end (hX : Closed pr_X6_carry post X) {s : SS} {k p : Nat} (hk : k < 8) (hp : p < k) (h : post none (m_end s k p)) : X 479 [(0, ar 6 0), (1, .inl (nI k)), (2, .inl (nI p))] [] s := by
  refine go hX [] 60 ?_
  refine ⟨3 * k, p, ⟨by rw [pk_mul], rfl⟩, ⟨by omega, by omega⟩, ?_⟩
  refine ⟨k, rfl, hk, ?_⟩
  exact h
set_option maxRecDepth 100000 in
set_option maxHeartbeats 4000000 in
theorem ca_ct (hX : Closed pr_X6_carry post X) {s : SS} {k p : Nat} (hk : k < 8) (hp : p < k) (h : post none (m_end (m_ct s k) k p)) : X 382 [(0, ar 6 0), (1, .inl (nI k)), (2, .inl (nI p))] [] s := by
  refine go hX [479] 100 ?_
  refine ⟨⟨nle rfl, nle rfl⟩, k, rfl, hk, ?_⟩
  refine ⟨nle rfl, ⟨fun q => absurd q (by decide), fun _ => ?_⟩, Or.inr rfl⟩
  refine ⟨9 * k, 0, 0, ⟨by rw [pk_mul], rfl, rfl⟩, ⟨by show 9 * k + 8 < 72; omega, nle rfl, nle rfl⟩, ?_⟩
  refine ⟨⟨nle rfl, nle rfl⟩, k, rfl, hk, ?_⟩
  refine ⟨3 * k, 3 * k, ⟨by rw [pk_mul], by rw [pk_mul]⟩, ⟨by show 3 * k + 2 < 24; omega, by show 3 * k + 2 < 24; omega⟩, ?_⟩
  refine ⟨⟨nle rfl, nle rfl⟩, k, rfl, hk, ?_⟩
  refine ⟨3 * k, 3 * k, ⟨by rw [pk_mul], by rw [pk_mul]⟩, ⟨by show 3 * k + 2 < 24; omega, by show 3 * k + 2 < 24; omega⟩, ?_⟩
  refine ⟨3 * k, 0, ⟨by rw [pk_mul], rfl⟩, ⟨by show 3 * k + 2 < 24; omega, nle rfl⟩, ?_⟩
  exact ca_end hX hk hp h
set_option maxRecDepth 100000 in
set_option maxHeartbeats 4000000 in
theorem ca_c9b (hX : Closed pr_X6_carry post X) {s : SS} {k p : Nat} (hk : k < 8) (hp : p < k) (h : post none (m_end (p3 (p3 s (32, 0) (3 * k) (v_adt (g3 s (32, 0) (3 * k)) (g3 s (37, 0) 0) 2)) (32, 0) (3 * k) (v_adt (g3 (p3 s (32, 0) (3 * k) (v_adt (g3 s (32, 0) (3 * k)) (g3 s (37, 0) 0) 2)) (32, 0) (3 * k)) (g3 (p3 s (32, 0) (3 * k) (v_adt (g3 s (32, 0) (3 * k)) (g3 s (37, 0) 0) 2)) (29, 0) (3 * k)) ((p3 s (32, 0) (3 * k) (v_adt (g3 s (32, 0) (3 * k)) (g3 s (37, 0) 0) 2)).2.1 26 0 k))) k p)) : X 338 [(0, ar 6 0), (1, .inl (nI k)), (2, .inl (nI p))] [] s := by
  refine go hX [479] 100 ?_
  refine ⟨3 * k, 0, ⟨by rw [pk_mul], rfl⟩, ⟨by show 3 * k + 2 < 24; omega, nle rfl⟩, ?_⟩
  refine ⟨⟨nle rfl, nle rfl⟩, k, rfl, hk, ?_⟩
  refine ⟨3 * k, 3 * k, ⟨by rw [pk_mul], by rw [pk_mul]⟩, ⟨by show 3 * k + 2 < 24; omega, by show 3 * k + 2 < 24; omega⟩, ?_⟩
  exact ca_end hX hk hp h
set_option maxRecDepth 100000 in
set_option maxHeartbeats 4000000 in
theorem ca_c9 (hX : Closed pr_X6_carry post X) {s : SS} {k p : Nat} (hk : k < 8) (hp : p < k) (h : post none (m_end (m_c9 s k) k p)) : X 309 [(3, .inl (nI 0)), (0, ar 6 0), (1, .inl (nI k)), (2, .inl (nI p))] [] s := by
  have lp : ∀ (m c : Nat) (cc : Int32), c + m = 9 → cc = nI c → X 309 [(3, .inl cc), (0, ar 6 0), (1, .inl (nI k)), (2, .inl (nI p))] [] (fl s (27, 0) (9 * k) c (fun c => s.2.1 39 0 c)) := by
    intro m
    induction m with
    | zero =>
      intro c cc hc e
      subst e
      refine go hX [309, 338] 100 ?_
      refine ⟨fun g => ?_, fun g => absurd ((nI_leI (by decide) (by omega)).mpr (by omega)) g⟩
      have e : c = 9 := by omega
      subst e
      exact wk hX (ca_c9b hX hk hp h) ⟨⟨_, rfl, Or.inl rfl⟩, ⟨_, rfl, Or.inl rfl⟩, ⟨_, rfl, Or.inl rfl⟩, trivial⟩
    | succ m ih =>
      intro c cc hc e
      subst e
      have ih2 := ih (c + 1) _ (by omega) (nI_add c 1)
      refine go hX [309, 338] 100 ?_
      refine ⟨fun g => absurd ((nI_leI (by decide) (by omega)).mp g) (by omega), fun g => ?_⟩
      refine ⟨⟨nle rfl, nle rfl⟩, c, rfl, by show c < 9; omega, ?_⟩
      refine ⟨⟨nle rfl, nle rfl⟩, (9 * k) + c, ((fun c => s.2.1 39 0 c)) c, by rw [pk_mul, nI_add], by show 9 * k + c < 72; omega, ?_, ?_⟩
      · show em _ = em _
        dsimp only
        rw [fl_n _ _ _ _ _ _ _ (by decide)]
      · exact (fl_s s (27, 0) ((9 * k)) c (fun c => s.2.1 39 0 c) (i := (9 * k) + c) rfl rfl).symm ▸ ih2
  have l0 := lp 9 0 _ rfl rfl
  rw [fl_0] at l0
  exact l0
set_option maxRecDepth 100000 in
set_option maxHeartbeats 4000000 in
theorem ca_c8 (hX : Closed pr_X6_carry post X) {s : SS} {k p : Nat} (hk : k < 8) (hp : p < k) (h : post none (m_end (m_c10 (m_c8 s p) k) k p)) : X 278 [(0, ar 6 0), (1, .inl (nI k)), (2, .inl (nI p))] [] s := by
  refine go hX [382, 309] 60 ?_
  refine ⟨0, 3 * p, 0, ⟨rfl, by rw [pk_mul], rfl⟩, ⟨nle rfl, by show 3 * p + 2 < 24; omega, nle rfl⟩, ?_⟩
  refine ⟨rfl, k, rfl, hk, ?_⟩
  unfold m_c10 at h
  refine ⟨fun g => ?_, fun g => ?_⟩
  · rw [if_pos (show (m_c8 s p).2.2 8 k = 0 from g)] at h
    exact ca_ct hX hk hp h
  · rw [if_neg (show ¬ (m_c8 s p).2.2 8 k = 0 from g)] at h
    exact ca_c9 hX hk hp h
set_option maxRecDepth 100000 in
set_option maxHeartbeats 4000000 in
theorem ca_c7 (hX : Closed pr_X6_carry post X) {s : SS} {k p : Nat} (hk : k < 8) (hp : p < k) (h : post none (m_end (m_c10 (m_c8 (m_c7 s k) p) k) k p)) : X 240 [(3, .inl (nI 0)), (0, ar 6 0), (1, .inl (nI k)), (2, .inl (nI p))] [] s := by
  have lp : ∀ (m c : Nat) (cc : Int32), c + m = 3 → cc = nI c → X 240 [(3, .inl cc), (0, ar 6 0), (1, .inl (nI k)), (2, .inl (nI p))] [] (fl s (37, 0) 0 c (fun c => vco c (v_sca (g3 s (29, 0) (3 * k)) (s.2.1 25 0 k)))) := by
    intro m
    induction m with
    | zero =>
      intro c cc hc e
      subst e
      refine go hX [240, 278] 100 ?_
      refine ⟨fun g => ?_, fun g => absurd ((nI_leI (by decide) (by omega)).mpr (by omega)) g⟩
      have e : c = 3 := by omega
      subst e
      exact wk hX (ca_c8 hX hk hp h) ⟨⟨_, rfl, Or.inl rfl⟩, ⟨_, rfl, Or.inl rfl⟩, ⟨_, rfl, Or.inl rfl⟩, trivial⟩
    | succ m ih =>
      intro c cc hc e
      subst e
      have ih2 := ih (c + 1) _ (by omega) (nI_add c 1)
      refine go hX [240, 278] 100 ?_
      refine ⟨fun g => absurd ((nI_leI (by decide) (by omega)).mp g) (by omega), fun g => ?_⟩
      refine ⟨⟨nle rfl, nle rfl⟩, 3 * k + c, by rw [pk_mul, nI_add], by show 3 * k + c < 24; omega, ?_⟩
      refine ⟨⟨nle rfl, nle rfl⟩, k, rfl, hk, ne_P, ?_⟩
      refine ⟨⟨nle rfl, nle rfl⟩, 0 + c, ((fun c => vco c (v_sca (g3 s (29, 0) (3 * k)) (s.2.1 25 0 k)))) c, by rw [Nat.zero_add], by show 0 + c < 3; omega, ?_, ?_⟩
      · refine (n_times _ _).trans ?_
        dsimp only
        rw [fl_n _ _ _ _ _ _ _ (by decide), fl_n _ _ _ _ _ _ _ (by decide), vco_sca, g3_c _ _ _ (show c < 3 by omega)]
      · exact (fl_s s (37, 0) (0) c (fun c => vco c (v_sca (g3 s (29, 0) (3 * k)) (s.2.1 25 0 k))) (i := 0 + c) rfl rfl).symm ▸ ih2
  have l0 := lp 3 0 _ rfl rfl
  rw [fl_0] at l0
  exact l0
set_option maxRecDepth 100000 in
set_option maxHeartbeats 4000000 in
theorem ca_c6 (hX : Closed pr_X6_carry post X) {s : SS} {k p : Nat} (hk : k < 8) (hp : p < k) (h : post none (m_end (m_c10 (m_c8 (m_c7 (m_c6 s k p) k) p) k) k p)) : X 136 [(3, .inl (nI 0)), (0, ar 6 0), (1, .inl (nI k)), (2, .inl (nI p))] [] s := by
  have lp : ∀ (m c : Nat) (cc : Int32), c + m = 3 → cc = nI c → X 136 [(3, .inl cc), (0, ar 6 0), (1, .inl (nI k)), (2, .inl (nI p))] [] (m_q4 s k p c) := by
    intro m
    induction m with
    | zero =>
      intro c cc hc e
      subst e
      refine go hX [136, 240] 60 ?_
      refine ⟨fun g => ?_, fun g => absurd ((nI_leI (by decide) (by omega)).mpr (by omega)) g⟩
      have e : c = 3 := by omega
      subst e
      exact ca_c7 hX hk hp h
    | succ m ih =>
      intro c cc hc e
      subst e
      have ih2 := ih (c + 1) _ (by omega) (nI_add c 1)
      have hq : ∀ {a : Nat} (j : Nat), a ≠ 28 → a ≠ 30 → a ≠ 31 → a ≠ 32 → (m_q4 s k p c).2.1 a 0 j = s.2.1 a 0 j := fun {a} j h1 h2 h3 h4 => by
        unfold m_q4
        rw [fl_n _ _ _ _ _ _ _ h4, fl_n _ _ _ _ _ _ _ h3, fl_n _ _ _ _ _ _ _ h2, fl_n _ _ _ _ _ _ _ h1]
      have hr : ∀ (a : Nat), (m_q4 s k p c).2.1 a 0 (3 * p + c) = s.2.1 a 0 (3 * p + c) := fun a => by
        unfold m_q4
        rw [fl_o _ _ _ _ _ _ _ (by omega), fl_o _ _ _ _ _ _ _ (by omega), fl_o _ _ _ _ _ _ _ (by omega), fl_o _ _ _ _ _ _ _ (by omega)]
      have g4 : X 232 [(3, .inl (nI c)), (0, ar 6 0), (1, .inl (nI k)), (2, .inl (nI p))] [] (m_q4 s k p (c + 1)) := by
        refine go hX [136, 240] 60 ?_
        exact ih2
      have g3' : ∀ u, u = sL (sL (sL (m_q4 s k p c) 28 0 (3 * k + c) (vco c (v_add (g3 s (28, 0) (3 * p)) (g3 s (36, 0) 0)))) 30 0 (3 * k + c) (vco c (g3 s (30, 0) (3 * p)))) 31 0 (3 * k + c) (vco c (g3 s (31, 0) (3 * p))) → X 212 [(3, .inl (nI c)), (0, ar 6 0), (1, .inl (nI k)), (2, .inl (nI p))] [] u := by
        intro u hu
        refine go hX [232] 60 ?_
        refine ⟨⟨nle rfl, nle rfl⟩, 3 * p + c, by rw [pk_mul, nI_add], by show 3 * p + c < 24; omega, ?_⟩
        refine ⟨⟨nle rfl, nle rfl⟩, 3 * k + c, vco c (g3 s (32, 0) (3 * p)), by rw [pk_mul, nI_add], by show 3 * k + c < 24; omega, ?_, ?_⟩
        · show em _ = em _
          rw [hu, sL_n1 _ _ _ _ _ (by decide), sL_n1 _ _ _ _ _ (by decide), sL_n1 _ _ _ _ _ (by decide), hr, g3_c _ _ _ (show c < 3 by omega)]
        · rw [hu, q4_s]
          exact g4
      have g2 : ∀ u, u = sL (sL (m_q4 s k p c) 28 0 (3 * k + c) (vco c (v_add (g3 s (28, 0) (3 * p)) (g3 s (36, 0) 0)))) 30 0 (3 * k + c) (vco c (g3 s (30, 0) (3 * p))) → X 192 [(3, .inl (nI c)), (0, ar 6 0), (1, .inl (nI k)), (2, .inl (nI p))] [] u := by
        intro u hu
        refine go hX [212] 60 ?_
        refine ⟨⟨nle rfl, nle rfl⟩, 3 * p + c, by rw [pk_mul, nI_add], by show 3 * p + c < 24; omega, ?_⟩
        refine ⟨⟨nle rfl, nle rfl⟩, 3 * k + c, vco c (g3 s (31, 0) (3 * p)), by rw [pk_mul, nI_add], by show 3 * k + c < 24; omega, ?_, ?_⟩
        · show em _ = em _
          rw [hu, sL_n1 _ _ _ _ _ (by decide), sL_n1 _ _ _ _ _ (by decide), hr, g3_c _ _ _ (show c < 3 by omega)]
        · exact g3' _ (by rw [hu])
      have g1 : ∀ u, u = sL (m_q4 s k p c) 28 0 (3 * k + c) (vco c (v_add (g3 s (28, 0) (3 * p)) (g3 s (36, 0) 0))) → X 172 [(3, .inl (nI c)), (0, ar 6 0), (1, .inl (nI k)), (2, .inl (nI p))] [] u := by
        intro u hu
        refine go hX [192] 60 ?_
        refine ⟨⟨nle rfl, nle rfl⟩, 3 * p + c, by rw [pk_mul, nI_add], by show 3 * p + c < 24; omega, ?_⟩
        refine ⟨⟨nle rfl, nle rfl⟩, 3 * k + c, vco c (g3 s (30, 0) (3 * p)), by rw [pk_mul, nI_add], by show 3 * k + c < 24; omega, ?_, ?_⟩
        · show em _ = em _
          rw [hu, sL_n1 _ _ _ _ _ (by decide), hr, g3_c _ _ _ (show c < 3 by omega)]
        · exact g2 _ (by rw [hu])
      refine go hX [172, 240] 60 ?_
      refine ⟨fun g => absurd ((nI_leI (by decide) (by omega)).mp g) (by omega), fun g => ?_⟩
      refine ⟨⟨nle rfl, nle rfl⟩, 3 * p + c, by rw [pk_mul, nI_add], by show 3 * p + c < 24; omega, ?_⟩
      refine ⟨⟨nle rfl, nle rfl⟩, c, rfl, by show c < 3; omega, ne_P, ?_⟩
      refine ⟨⟨nle rfl, nle rfl⟩, 3 * k + c, vco c (v_add (g3 s (28, 0) (3 * p)) (g3 s (36, 0) 0)), by rw [pk_mul, nI_add], by show 3 * k + c < 24; omega, ?_, ?_⟩
      · refine (n_plus _ _).trans ?_
        rw [hr, hq _ (by decide) (by decide) (by decide) (by decide), vco_add, g3_c _ _ _ (show c < 3 by omega), g3_c _ _ _ (show c < 3 by omega), Nat.zero_add]
      · exact g1 _ rfl
  have l0 := lp 3 0 _ rfl rfl
  have e0 : m_q4 s k p 0 = s := by unfold m_q4; rw [fl_0, fl_0, fl_0, fl_0]
  rw [e0] at l0
  exact l0
set_option maxRecDepth 100000 in
set_option maxHeartbeats 4000000 in
theorem ca_c4 (hX : Closed pr_X6_carry post X) {s : SS} {k p : Nat} (hk : k < 8) (hp : p < k) (h : post none (m_end (m_c10 (m_c8 (m_c7 (m_c6 (m_c5 (m_c4 s k p) k) k p) k) p) k) k p)) : X 80 [(0, ar 6 0), (1, .inl (nI k)), (2, .inl (nI p))] [] s := by
  refine go hX [136] 60 ?_
  refine ⟨0, 9 * p, 16 * k, ⟨rfl, by rw [pk_mul], by rw [pk_mul]⟩, ⟨nle rfl, by show 9 * p + 8 < 72; omega, by show 16 * k + 2 < 128; omega⟩, ?_⟩
  refine ⟨rfl, k, rfl, hk, ?_⟩
  have e5 : m_c5 (m_c4 s k p) k = if (m_c4 s k p).2.2 8 k = 0 then m_c4 s k p else p3 (m_c4 s k p) (36, 0) 0 (v_adt (g3 (m_c4 s k p) (36, 0) 0) (g3 (m_c4 s k p) (29, 0) (3 * k)) ((m_c4 s k p).2.1 21 0 k)) := rfl
  refine ⟨fun g => ?_, fun g => ?_⟩
  · rw [e5, if_pos (show (m_c4 s k p).2.2 8 k = 0 from g)] at h
    exact ca_c6 hX hk hp h
  · rw [e5, if_neg (show ¬ (m_c4 s k p).2.2 8 k = 0 from g)] at h
    refine ⟨⟨nle rfl, nle rfl⟩, k, rfl, hk, ?_⟩
    refine ⟨0, 3 * k, ⟨rfl, by rw [pk_mul]⟩, ⟨nle rfl, by show 3 * k + 2 < 24; omega⟩, ?_⟩
    exact ca_c6 hX hk hp h
set_option maxRecDepth 100000 in
set_option maxHeartbeats 4000000 in
theorem ca_c3 (hX : Closed pr_X6_carry post X) {s : SS} {k p : Nat} (hk : k < 8) (hp : p < k) (h : post none (m_end (m_c10 (m_c8 (m_c7 (m_c6 (m_c5 (m_c4 (m_c3 s k) k p) k) k p) k) p) k) k p)) : X 49 [(3, .inl (nI 0)), (2, .inl (nI p)), (0, ar 6 0), (1, .inl (nI k))] [] s := by
  have lp : ∀ (m c : Nat) (cc : Int32), c + m = 3 → cc = nI c → X 49 [(3, .inl cc), (2, .inl (nI p)), (0, ar 6 0), (1, .inl (nI k))] [] (fl s (29, 0) (3 * k) c (fun c => vco c (s.2.1 39 0 2, s.2.1 39 0 5, s.2.1 39 0 8))) := by
    intro m
    induction m with
    | zero =>
      intro c cc hc e
      subst e
      refine go hX [49, 80] 100 ?_
      refine ⟨fun g => ?_, fun g => absurd ((nI_leI (by decide) (by omega)).mpr (by omega)) g⟩
      have e : c = 3 := by omega
      subst e
      exact wk hX (ca_c4 hX hk hp h) ⟨⟨_, rfl, Or.inl rfl⟩, ⟨_, rfl, Or.inl rfl⟩, ⟨_, rfl, Or.inl rfl⟩, trivial⟩
    | succ m ih =>
      intro c cc hc e
      subst e
      have ih2 := ih (c + 1) _ (by omega) (nI_add c 1)
      refine go hX [49, 80] 100 ?_
      refine ⟨fun g => absurd ((nI_leI (by decide) (by omega)).mp g) (by omega), fun g => ?_⟩
      refine ⟨⟨nle rfl, nle rfl⟩, 3 * c + 2, by rw [pk_mul, nI_add], by show 3 * c + 2 < 9; omega, ?_⟩
      refine ⟨⟨nle rfl, nle rfl⟩, (3 * k) + c, ((fun c => vco c (s.2.1 39 0 2, s.2.1 39 0 5, s.2.1 39 0 8))) c, by rw [pk_mul, nI_add], by show 3 * k + c < 24; omega, ?_, ?_⟩
      · show em _ = em _
        dsimp only
        rw [fl_n _ _ _ _ _ _ _ (by decide)]
        rcases (show c = 0 ∨ c = 1 ∨ c = 2 by omega) with rfl | rfl | rfl <;> rfl
      · exact (fl_s s (29, 0) ((3 * k)) c (fun c => vco c (s.2.1 39 0 2, s.2.1 39 0 5, s.2.1 39 0 8)) (i := (3 * k) + c) rfl rfl).symm ▸ ih2
  have l0 := lp 3 0 _ rfl rfl
  rw [fl_0] at l0
  exact l0
end CA
set_option maxRecDepth 100000 in
set_option maxHeartbeats 4000000 in
theorem ct_X6_carry {G : Geo} (hG : GeoOK G) (l : Launch) : Ct G l yX6_carry cX6_carry 4 none 4 sp_X6_carry := by
  refine Ct.of pr_X6_carry hG (by decide +kernel) (sn_X6_carry hG l) ?_
  intro av σ post hok h
  unfold sp_X6_carry at h
  split at h
  · rename_i b k
    obtain ⟨hb, k, p, ⟨rfl, hpar⟩, ⟨hk, hp⟩, h9⟩ := bif_t h
    clear h
    obtain rfl := is6_t hb
    refine ⟨Nat.le_of_ble_eq_true rfl, fun X hX => ?_⟩
    have c1 : X 7 [(2, .inl (nI p)), (0, ar 6 0), (1, .inl (nI k))] [] σ := by
      refine go hX [49] 60 ?_
      refine ⟨⟨nle rfl, nle rfl⟩, 16 * k + 3, by rw [pk_mul, nI_add], by show 16 * k + 3 < 128; omega, ?_⟩
      refine ⟨nle rfl, ⟨fun _ => ?_, fun q => absurd q (by decide)⟩, Or.inl rfl⟩
      refine ⟨0, 9 * p, 0, ⟨rfl, by rw [pk_mul], rfl⟩, ⟨nle rfl, by show 9 * p + 8 < 72; omega, nle rfl⟩, ?_⟩
      exact ca_c3 hX hk hp h9
    refine go hX [7] 60 ?_
    refine ⟨rfl, k, rfl, hk, ?_⟩
    rw [hpar]
    exact c1
  · exact h.elim
