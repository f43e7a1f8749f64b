/-! The reference: isCleared, forward -/
def R41 (σ : SS) (A : Nat → ZF) (s : SS) : Prop := s.1 = σ.1 ∧ s.2.2 = σ.2.2 ∧ (∀ a b j, a ≠ 41 → s.2.1 a b j = σ.2.1 a b j) ∧ ∀ j, j < 64 → s.2.1 41 0 j = A j
theorem R41_s {σ s : SS} {A A' : Nat → ZF} {i : Nat} {x : ZF} (h : R41 σ A s) (hA : ∀ j, j < 64 → A' j = if j = i then x else A j) : R41 σ A' (sL s 41 0 i x) := by
  refine ⟨h.1, h.2.1, fun a b j ha => (sL_n1 _ _ _ _ _ ha).trans (h.2.2.1 a b j ha), fun j hj => ?_⟩
  rw [hA j hj]
  by_cases e : j = i
  · rw [if_pos e, e]
    exact sL_at _ _ _ _ _
  · rw [if_neg e, sL_n3 _ _ _ _ _ e]
    exact h.2.2.2 j hj
theorem R41_c {σ s : SS} {A A' : Nat → ZF} (h : R41 σ A s) (hA : ∀ j, j < 64 → A' j = A j) : R41 σ A' s := ⟨h.1, h.2.1, h.2.2.1, fun j hj => (h.2.2.2 j hj).trans (hA j hj).symm⟩
/-- the first row from r on (m are left) that isn't 0 in column c -/
def fnd (A : Nat → ZF) (c : Nat) : Nat → Nat → Nat
  | 0, r => r
  | m + 1, r => if A (8 * r + c) = 0 then fnd A c m (r + 1) else r
theorem fnd_le (A : Nat → ZF) (c : Nat) : ∀ m r, r ≤ fnd A c m r ∧ fnd A c m r ≤ r + m
  | 0, r => ⟨Nat.le_refl _, Nat.le_refl _⟩
  | m + 1, r => by
    unfold fnd
    split
    · have := fnd_le A c m (r + 1)
      omega
    · omega
/-- rows r and c exchanged, in the first k columns -/
def swk (A : Nat → ZF) (r c k j : Nat) : ZF := if j % 8 < k then (if j / 8 = r then A (8 * c + j % 8) else if j / 8 = c then A (8 * r + j % 8) else A j) else A j
/-- f times row c taken from row r, in the first k columns -/
def elk (A : Nat → ZF) (c r : Nat) (f : ZF) (k j : Nat) : ZF := if j / 8 = r ∧ j % 8 < k then A j - f * A (8 * c + j % 8) else A j
/-- row c taken from the rows fr .. fr + m - 1, but for itself -/
def elm (A : Nat → ZF) (c : Nat) (b : ZF) (fr : Nat) : Nat → Nat → ZF
  | 0 => A
  | m + 1 => if fr + m = c then elm A c b fr m else elk (elm A c b fr m) c (fr + m) (elm A c b fr m (8 * (fr + m) + c) * b) 8
/-- from column c on, m columns are left -/
noncomputable def icl (fr : Nat) : Nat → Nat → (Nat → ZF) → Bool × (Nat → ZF)
  | 0, _, A => (true, A)
  | m + 1, c, A => if fnd A c (m + 1) c = c + (m + 1) then (false, A) else icl fr m (c + 1) (elm (swk A (fnd A c (m + 1) c) c 8) c (zinv (swk A (fnd A c (m + 1) c) c 8 (8 * c + c))) fr (c + (m + 1) - fr))
noncomputable def sp_X6_isCleared : Spc := fun av σ post => match av with
  | [.inr (.inr q), .inl x] => bif is6 q then (MI σ ∧ ∃ fr, x = nI fr ∧ fr < mn σ ∧ ∀ s, R41 σ (icl fr (mn σ - fr) fr (σ.2.1 42 0)).2 s → post (some (ai (bz (icl fr (mn σ - fr) fr (σ.2.1 42 0)).1))) s) else False
  | _ => False
theorem dX6_isCleared_0 : decode cX6_isCleared 0 = .ok (.iconst 0, 1) := by decide +kernel
theorem dX6_isCleared_1 : decode cX6_isCleared 1 = .ok (.istore_n 2, 1) := by decide +kernel
theorem dX6_isCleared_2 : decode cX6_isCleared 2 = .ok (.iload_n 2, 1) := by decide +kernel
theorem dX6_isCleared_3 : decode cX6_isCleared 3 = .ok (.bipush 64, 2) := by decide +kernel
theorem dX6_isCleared_5 : decode cX6_isCleared 5 = .ok (.if_icmp .ge 21, 3) := by decide +kernel
theorem dX6_isCleared_8 : decode cX6_isCleared 8 = .ok (.aload_n 0, 1) := by decide +kernel
theorem dX6_isCleared_9 : decode cX6_isCleared 9 = .ok (.getfield 81, 3) := by decide +kernel
theorem dX6_isCleared_12 : decode cX6_isCleared 12 = .ok (.iload_n 2, 1) := by decide +kernel
theorem dX6_isCleared_13 : decode cX6_isCleared 13 = .ok (.aload_n 0, 1) := by decide +kernel
theorem dX6_isCleared_14 : decode cX6_isCleared 14 = .ok (.getfield 84, 3) := by decide +kernel
theorem dX6_isCleared_17 : decode cX6_isCleared 17 = .ok (.iload_n 2, 1) := by decide +kernel
theorem dX6_isCleared_18 : decode cX6_isCleared 18 = .ok (.laload, 1) := by decide +kernel
theorem dX6_isCleared_19 : decode cX6_isCleared 19 = .ok (.lastore, 1) := by decide +kernel
theorem dX6_isCleared_20 : decode cX6_isCleared 20 = .ok (.iinc 2 1, 3) := by decide +kernel
theorem dX6_isCleared_23 : decode cX6_isCleared 23 = .ok (.goto (-21), 3) := by decide +kernel
theorem dX6_isCleared_26 : decode cX6_isCleared 26 = .ok (.iload_n 1, 1) := by decide +kernel
theorem dX6_isCleared_27 : decode cX6_isCleared 27 = .ok (.istore_n 2, 1) := by decide +kernel
theorem dX6_isCleared_28 : decode cX6_isCleared 28 = .ok (.iload_n 2, 1) := by decide +kernel
theorem dX6_isCleared_29 : decode cX6_isCleared 29 = .ok (.aload_n 0, 1) := by decide +kernel
theorem dX6_isCleared_30 : decode cX6_isCleared 30 = .ok (.getfield 114, 3) := by decide +kernel
theorem dX6_isCleared_33 : decode cX6_isCleared 33 = .ok (.if_icmp .ge 245, 3) := by decide +kernel
theorem dX6_isCleared_36 : decode cX6_isCleared 36 = .ok (.iload_n 2, 1) := by decide +kernel
theorem dX6_isCleared_37 : decode cX6_isCleared 37 = .ok (.istore_n 3, 1) := by decide +kernel
theorem dX6_isCleared_38 : decode cX6_isCleared 38 = .ok (.iload_n 3, 1) := by decide +kernel
theorem dX6_isCleared_39 : decode cX6_isCleared 39 = .ok (.aload_n 0, 1) := by decide +kernel
theorem dX6_isCleared_40 : decode cX6_isCleared 40 = .ok (.getfield 114, 3) := by decide +kernel
theorem dX6_isCleared_43 : decode cX6_isCleared 43 = .ok (.if_icmp .ge 25, 3) := by decide +kernel
theorem dX6_isCleared_46 : decode cX6_isCleared 46 = .ok (.aload_n 0, 1) := by decide +kernel
theorem dX6_isCleared_47 : decode cX6_isCleared 47 = .ok (.getfield 81, 3) := by decide +kernel
theorem dX6_isCleared_50 : decode cX6_isCleared 50 = .ok (.bipush 8, 2) := by decide +kernel
theorem dX6_isCleared_52 : decode cX6_isCleared 52 = .ok (.iload_n 3, 1) := by decide +kernel
theorem dX6_isCleared_53 : decode cX6_isCleared 53 = .ok (.imul, 1) := by decide +kernel
theorem dX6_isCleared_54 : decode cX6_isCleared 54 = .ok (.iload_n 2, 1) := by decide +kernel
theorem dX6_isCleared_55 : decode cX6_isCleared 55 = .ok (.iadd, 1) := by decide +kernel
theorem dX6_isCleared_56 : decode cX6_isCleared 56 = .ok (.laload, 1) := by decide +kernel
theorem dX6_isCleared_57 : decode cX6_isCleared 57 = .ok (.lconst 0, 1) := by decide +kernel
theorem dX6_isCleared_58 : decode cX6_isCleared 58 = .ok (.lcmp, 1) := by decide +kernel
theorem dX6_isCleared_59 : decode cX6_isCleared 59 = .ok (.ifCond .ne 9, 3) := by decide +kernel
theorem dX6_isCleared_62 : decode cX6_isCleared 62 = .ok (.iinc 3 1, 3) := by decide +kernel
theorem dX6_isCleared_65 : decode cX6_isCleared 65 = .ok (.goto (-27), 3) := by decide +kernel
theorem dX6_isCleared_68 : decode cX6_isCleared 68 = .ok (.iload_n 3, 1) := by decide +kernel
theorem dX6_isCleared_69 : decode cX6_isCleared 69 = .ok (.aload_n 0, 1) := by decide +kernel
theorem dX6_isCleared_70 : decode cX6_isCleared 70 = .ok (.getfield 114, 3) := by decide +kernel
theorem dX6_isCleared_73 : decode cX6_isCleared 73 = .ok (.if_icmp .ne 5, 3) := by decide +kernel
theorem dX6_isCleared_76 : decode cX6_isCleared 76 = .ok (.iconst 0, 1) := by decide +kernel
theorem dX6_isCleared_77 : decode cX6_isCleared 77 = .ok (.ireturn, 1) := by decide +kernel
theorem dX6_isCleared_78 : decode cX6_isCleared 78 = .ok (.iconst 0, 1) := by decide +kernel
theorem dX6_isCleared_79 : decode cX6_isCleared 79 = .ok (.istore 4, 2) := by decide +kernel
theorem dX6_isCleared_81 : decode cX6_isCleared 81 = .ok (.iload 4, 2) := by decide +kernel
theorem dX6_isCleared_83 : decode cX6_isCleared 83 = .ok (.bipush 8, 2) := by decide +kernel
theorem dX6_isCleared_85 : decode cX6_isCleared 85 = .ok (.if_icmp .ge 61, 3) := by decide +kernel
theorem dX6_isCleared_88 : decode cX6_isCleared 88 = .ok (.aload_n 0, 1) := by decide +kernel
theorem dX6_isCleared_89 : decode cX6_isCleared 89 = .ok (.getfield 81, 3) := by decide +kernel
theorem dX6_isCleared_92 : decode cX6_isCleared 92 = .ok (.bipush 8, 2) := by decide +kernel
theorem dX6_isCleared_94 : decode cX6_isCleared 94 = .ok (.iload_n 3, 1) := by decide +kernel
theorem dX6_isCleared_95 : decode cX6_isCleared 95 = .ok (.imul, 1) := by decide +kernel
theorem dX6_isCleared_96 : decode cX6_isCleared 96 = .ok (.iload 4, 2) := by decide +kernel
theorem dX6_isCleared_98 : decode cX6_isCleared 98 = .ok (.iadd, 1) := by decide +kernel
theorem dX6_isCleared_99 : decode cX6_isCleared 99 = .ok (.laload, 1) := by decide +kernel
theorem dX6_isCleared_100 : decode cX6_isCleared 100 = .ok (.lstore 5, 2) := by decide +kernel
theorem dX6_isCleared_102 : decode cX6_isCleared 102 = .ok (.aload_n 0, 1) := by decide +kernel
theorem dX6_isCleared_103 : decode cX6_isCleared 103 = .ok (.getfield 81, 3) := by decide +kernel
theorem dX6_isCleared_106 : decode cX6_isCleared 106 = .ok (.bipush 8, 2) := by decide +kernel
theorem dX6_isCleared_108 : decode cX6_isCleared 108 = .ok (.iload_n 3, 1) := by decide +kernel
theorem dX6_isCleared_109 : decode cX6_isCleared 109 = .ok (.imul, 1) := by decide +kernel
theorem dX6_isCleared_110 : decode cX6_isCleared 110 = .ok (.iload 4, 2) := by decide +kernel
theorem dX6_isCleared_112 : decode cX6_isCleared 112 = .ok (.iadd, 1) := by decide +kernel
theorem dX6_isCleared_113 : decode cX6_isCleared 113 = .ok (.aload_n 0, 1) := by decide +kernel
theorem dX6_isCleared_114 : decode cX6_isCleared 114 = .ok (.getfield 81, 3) := by decide +kernel
theorem dX6_isCleared_117 : decode cX6_isCleared 117 = .ok (.bipush 8, 2) := by decide +kernel
theorem dX6_isCleared_119 : decode cX6_isCleared 119 = .ok (.iload_n 2, 1) := by decide +kernel
theorem dX6_isCleared_120 : decode cX6_isCleared 120 = .ok (.imul, 1) := by decide +kernel
theorem dX6_isCleared_121 : decode cX6_isCleared 121 = .ok (.iload 4, 2) := by decide +kernel
theorem dX6_isCleared_123 : decode cX6_isCleared 123 = .ok (.iadd, 1) := by decide +kernel
theorem dX6_isCleared_124 : decode cX6_isCleared 124 = .ok (.laload, 1) := by decide +kernel
theorem dX6_isCleared_125 : decode cX6_isCleared 125 = .ok (.lastore, 1) := by decide +kernel
theorem dX6_isCleared_126 : decode cX6_isCleared 126 = .ok (.aload_n 0, 1) := by decide +kernel
theorem dX6_isCleared_127 : decode cX6_isCleared 127 = .ok (.getfield 81, 3) := by decide +kernel
theorem dX6_isCleared_130 : decode cX6_isCleared 130 = .ok (.bipush 8, 2) := by decide +kernel
theorem dX6_isCleared_132 : decode cX6_isCleared 132 = .ok (.iload_n 2, 1) := by decide +kernel
theorem dX6_isCleared_133 : decode cX6_isCleared 133 = .ok (.imul, 1) := by decide +kernel
theorem dX6_isCleared_134 : decode cX6_isCleared 134 = .ok (.iload 4, 2) := by decide +kernel
theorem dX6_isCleared_136 : decode cX6_isCleared 136 = .ok (.iadd, 1) := by decide +kernel
theorem dX6_isCleared_137 : decode cX6_isCleared 137 = .ok (.lload 5, 2) := by decide +kernel
theorem dX6_isCleared_139 : decode cX6_isCleared 139 = .ok (.lastore, 1) := by decide +kernel
theorem dX6_isCleared_140 : decode cX6_isCleared 140 = .ok (.iinc 4 1, 3) := by decide +kernel
theorem dX6_isCleared_143 : decode cX6_isCleared 143 = .ok (.goto (-62), 3) := by decide +kernel
theorem dX6_isCleared_146 : decode cX6_isCleared 146 = .ok (.aload_n 0, 1) := by decide +kernel
theorem dX6_isCleared_147 : decode cX6_isCleared 147 = .ok (.getfield 81, 3) := by decide +kernel
theorem dX6_isCleared_150 : decode cX6_isCleared 150 = .ok (.bipush 8, 2) := by decide +kernel
theorem dX6_isCleared_152 : decode cX6_isCleared 152 = .ok (.iload_n 2, 1) := by decide +kernel
theorem dX6_isCleared_153 : decode cX6_isCleared 153 = .ok (.imul, 1) := by decide +kernel
theorem dX6_isCleared_154 : decode cX6_isCleared 154 = .ok (.iload_n 2, 1) := by decide +kernel
theorem dX6_isCleared_155 : decode cX6_isCleared 155 = .ok (.iadd, 1) := by decide +kernel
theorem dX6_isCleared_156 : decode cX6_isCleared 156 = .ok (.laload, 1) := by decide +kernel
theorem dX6_isCleared_157 : decode cX6_isCleared 157 = .ok (.invokestatic 101, 3) := by decide +kernel
theorem dX6_isCleared_160 : decode cX6_isCleared 160 = .ok (.lstore 4, 2) := by decide +kernel
theorem dX6_isCleared_162 : decode cX6_isCleared 162 = .ok (.iload_n 1, 1) := by decide +kernel
theorem dX6_isCleared_163 : decode cX6_isCleared 163 = .ok (.istore 6, 2) := by decide +kernel
theorem dX6_isCleared_165 : decode cX6_isCleared 165 = .ok (.iload 6, 2) := by decide +kernel
theorem dX6_isCleared_167 : decode cX6_isCleared 167 = .ok (.aload_n 0, 1) := by decide +kernel
theorem dX6_isCleared_168 : decode cX6_isCleared 168 = .ok (.getfield 114, 3) := by decide +kernel
theorem dX6_isCleared_171 : decode cX6_isCleared 171 = .ok (.if_icmp .ge 101, 3) := by decide +kernel
theorem dX6_isCleared_174 : decode cX6_isCleared 174 = .ok (.aload_n 0, 1) := by decide +kernel
theorem dX6_isCleared_175 : decode cX6_isCleared 175 = .ok (.getfield 81, 3) := by decide +kernel
theorem dX6_isCleared_178 : decode cX6_isCleared 178 = .ok (.bipush 8, 2) := by decide +kernel
theorem dX6_isCleared_180 : decode cX6_isCleared 180 = .ok (.iload 6, 2) := by decide +kernel
theorem dX6_isCleared_182 : decode cX6_isCleared 182 = .ok (.imul, 1) := by decide +kernel
theorem dX6_isCleared_183 : decode cX6_isCleared 183 = .ok (.iload_n 2, 1) := by decide +kernel
theorem dX6_isCleared_184 : decode cX6_isCleared 184 = .ok (.iadd, 1) := by decide +kernel
theorem dX6_isCleared_185 : decode cX6_isCleared 185 = .ok (.laload, 1) := by decide +kernel
theorem dX6_isCleared_186 : decode cX6_isCleared 186 = .ok (.lload 4, 2) := by decide +kernel
theorem dX6_isCleared_188 : decode cX6_isCleared 188 = .ok (.lmul, 1) := by decide +kernel
theorem dX6_isCleared_189 : decode cX6_isCleared 189 = .ok (.ldc2_w 91, 3) := by decide +kernel
theorem dX6_isCleared_192 : decode cX6_isCleared 192 = .ok (.lrem, 1) := by decide +kernel
theorem dX6_isCleared_193 : decode cX6_isCleared 193 = .ok (.lstore 7, 2) := by decide +kernel
theorem dX6_isCleared_195 : decode cX6_isCleared 195 = .ok (.iconst 0, 1) := by decide +kernel
theorem dX6_isCleared_196 : decode cX6_isCleared 196 = .ok (.istore 9, 2) := by decide +kernel
theorem dX6_isCleared_198 : decode cX6_isCleared 198 = .ok (.iload 9, 2) := by decide +kernel
theorem dX6_isCleared_200 : decode cX6_isCleared 200 = .ok (.bipush 8, 2) := by decide +kernel
theorem dX6_isCleared_202 : decode cX6_isCleared 202 = .ok (.if_icmp .ge 64, 3) := by decide +kernel
theorem dX6_isCleared_205 : decode cX6_isCleared 205 = .ok (.iload 6, 2) := by decide +kernel
theorem dX6_isCleared_207 : decode cX6_isCleared 207 = .ok (.iload_n 2, 1) := by decide +kernel
theorem dX6_isCleared_208 : decode cX6_isCleared 208 = .ok (.if_icmp .eq 58, 3) := by decide +kernel
theorem dX6_isCleared_211 : decode cX6_isCleared 211 = .ok (.aload_n 0, 1) := by decide +kernel
theorem dX6_isCleared_212 : decode cX6_isCleared 212 = .ok (.getfield 81, 3) := by decide +kernel
theorem dX6_isCleared_215 : decode cX6_isCleared 215 = .ok (.bipush 8, 2) := by decide +kernel
theorem dX6_isCleared_217 : decode cX6_isCleared 217 = .ok (.iload 6, 2) := by decide +kernel
theorem dX6_isCleared_219 : decode cX6_isCleared 219 = .ok (.imul, 1) := by decide +kernel
theorem dX6_isCleared_220 : decode cX6_isCleared 220 = .ok (.iload 9, 2) := by decide +kernel
theorem dX6_isCleared_222 : decode cX6_isCleared 222 = .ok (.iadd, 1) := by decide +kernel
theorem dX6_isCleared_223 : decode cX6_isCleared 223 = .ok (.aload_n 0, 1) := by decide +kernel
theorem dX6_isCleared_224 : decode cX6_isCleared 224 = .ok (.getfield 81, 3) := by decide +kernel
theorem dX6_isCleared_227 : decode cX6_isCleared 227 = .ok (.bipush 8, 2) := by decide +kernel
theorem dX6_isCleared_229 : decode cX6_isCleared 229 = .ok (.iload 6, 2) := by decide +kernel
theorem dX6_isCleared_231 : decode cX6_isCleared 231 = .ok (.imul, 1) := by decide +kernel
theorem dX6_isCleared_232 : decode cX6_isCleared 232 = .ok (.iload 9, 2) := by decide +kernel
theorem dX6_isCleared_234 : decode cX6_isCleared 234 = .ok (.iadd, 1) := by decide +kernel
theorem dX6_isCleared_235 : decode cX6_isCleared 235 = .ok (.laload, 1) := by decide +kernel
theorem dX6_isCleared_236 : decode cX6_isCleared 236 = .ok (.lload 7, 2) := by decide +kernel
theorem dX6_isCleared_238 : decode cX6_isCleared 238 = .ok (.aload_n 0, 1) := by decide +kernel
theorem dX6_isCleared_239 : decode cX6_isCleared 239 = .ok (.getfield 81, 3) := by decide +kernel
theorem dX6_isCleared_242 : decode cX6_isCleared 242 = .ok (.bipush 8, 2) := by decide +kernel
theorem dX6_isCleared_244 : decode cX6_isCleared 244 = .ok (.iload_n 2, 1) := by decide +kernel
theorem dX6_isCleared_245 : decode cX6_isCleared 245 = .ok (.imul, 1) := by decide +kernel
theorem dX6_isCleared_246 : decode cX6_isCleared 246 = .ok (.iload 9, 2) := by decide +kernel
theorem dX6_isCleared_248 : decode cX6_isCleared 248 = .ok (.iadd, 1) := by decide +kernel
theorem dX6_isCleared_249 : decode cX6_isCleared 249 = .ok (.laload, 1) := by decide +kernel
theorem dX6_isCleared_250 : decode cX6_isCleared 250 = .ok (.lmul, 1) := by decide +kernel
theorem dX6_isCleared_251 : decode cX6_isCleared 251 = .ok (.ldc2_w 91, 3) := by decide +kernel
theorem dX6_isCleared_254 : decode cX6_isCleared 254 = .ok (.lrem, 1) := by decide +kernel
theorem dX6_isCleared_255 : decode cX6_isCleared 255 = .ok (.lsub, 1) := by decide +kernel
theorem dX6_isCleared_256 : decode cX6_isCleared 256 = .ok (.invokestatic 97, 3) := by decide +kernel
theorem dX6_isCleared_259 : decode cX6_isCleared 259 = .ok (.lastore, 1) := by decide +kernel
theorem dX6_isCleared_260 : decode cX6_isCleared 260 = .ok (.iinc 9 1, 3) := by decide +kernel
theorem dX6_isCleared_263 : decode cX6_isCleared 263 = .ok (.goto (-65), 3) := by decide +kernel
theorem dX6_isCleared_266 : decode cX6_isCleared 266 = .ok (.iinc 6 1, 3) := by decide +kernel
theorem dX6_isCleared_269 : decode cX6_isCleared 269 = .ok (.goto (-104), 3) := by decide +kernel
theorem dX6_isCleared_272 : decode cX6_isCleared 272 = .ok (.iinc 2 1, 3) := by decide +kernel
theorem dX6_isCleared_275 : decode cX6_isCleared 275 = .ok (.goto (-247), 3) := by decide +kernel
theorem dX6_isCleared_278 : decode cX6_isCleared 278 = .ok (.iconst 1, 1) := by decide +kernel
theorem dX6_isCleared_279 : decode cX6_isCleared 279 = .ok (.ireturn, 1) := by decide +kernel
theorem wf_X6_81 : Cond.fieldLink RX6 81 (TX6 25).1 (TX6 25).2.1 (TX6 25).2.2.1 ∈ ltb := List.mem_filter.mpr ⟨List.mem_append_right _ (List.mem_of_getElem? (i := 492) (by decide +kernel)), by decide +kernel⟩
noncomputable def pr_X6_isCleared : Prg := [(0, z_ic (nI 0) 1), (1, z_istore 2 1), (2, z_iload 2 1), (3, z_ic (nI 64) 2), (5, z_if2 (fun x y => y ≤ x) 26), (8, z_aload 0 1), (9, z_get 5 25), (12, z_iload 2 1), (13, z_aload 0 1), (14, z_get 5 26), (17, z_iload 2 1), (18, z_laload), (19, z_lastore), (20, z_iinc 2 (nI 1)), (23, z_goto 2), (26, z_iload 1 1), (27, z_istore 2 1), (28, z_iload 2 1), (29, z_aload 0 1), (30, z_get 5 1), (33, z_if2 (fun x y => y ≤ x) 278), (36, z_iload 2 1), (37, z_istore 3 1), (38, z_iload 3 1), (39, z_aload 0 1), (40, z_get 5 1), (43, z_if2 (fun x y => y ≤ x) 68), (46, z_aload 0 1), (47, z_get 5 25), (50, z_ic (nI 8) 2), (52, z_iload 3 1), (53, z_imul), (54, z_iload 2 1), (55, z_iadd), (56, z_laload), (57, z_lc (.inr 0) 1), (58, z_lcmp), (59, z_nf1 68), (62, z_iinc 3 (nI 1)), (65, z_goto 38), (68, z_iload 3 1), (69, z_aload 0 1), (70, z_get 5 1), (73, z_nf2 78), (76, z_ic (nI 0) 1), (77, z_zret), (78, z_ic (nI 0) 1), (79, z_istore 4 2), (81, z_iload 4 2), (83, z_ic (nI 8) 2), (85, z_if2 (fun x y => y ≤ x) 146), (88, z_aload 0 1), (89, z_get 5 25), (92, z_ic (nI 8) 2), (94, z_iload 3 1), (95, z_imul), (96, z_iload 4 2), (98, z_iadd), (99, z_laload), (100, z_lstore 5 2), (102, z_aload 0 1), (103, z_get 5 25), (106, z_ic (nI 8) 2), (108, z_iload 3 1), (109, z_imul), (110, z_iload 4 2), (112, z_iadd), (113, z_aload 0 1), (114, z_get 5 25), (117, z_ic (nI 8) 2), (119, z_iload 2 1), (120, z_imul), (121, z_iload 4 2), (123, z_iadd), (124, z_laload), (125, z_lastore), (126, z_aload 0 1), (127, z_get 5 25), (130, z_ic (nI 8) 2), (132, z_iload 2 1), (133, z_imul), (134, z_iload 4 2), (136, z_iadd), (137, z_lload 5 2), (139, z_lastore), (140, z_iinc 4 (nI 1)), (143, z_goto 81), (146, z_aload 0 1), (147, z_get 5 25), (150, z_ic (nI 8) 2), (152, z_iload 2 1), (153, z_imul), (154, z_iload 2 1), (155, z_iadd), (156, z_laload), (157, z_call 1 sp_X6_inverse), (160, z_lstore 4 2), (162, z_iload 1 1), (163, z_istore 6 2), (165, z_iload 6 2), (167, z_aload 0 1), (168, z_get 5 1), (171, z_if2 (fun x y => y ≤ x) 272), (174, z_aload 0 1), (175, z_get 5 25), (178, z_ic (nI 8) 2), (180, z_iload 6 2), (182, z_imul), (183, z_iload 2 1), (184, z_iadd), (185, z_laload), (186, z_lload 4 2), (188, z_lmul), (189, z_lc (.inl 2147483647) 3), (192, z_lrem), (193, z_lstore 7 2), (195, z_ic (nI 0) 1), (196, z_istore 9 2), (198, z_iload 9 2), (200, z_ic (nI 8) 2), (202, z_if2 (fun x y => y ≤ x) 266), (205, z_iload 6 2), (207, z_iload 2 1), (208, z_if2 (fun x y => x = y) 266), (211, z_aload 0 1), (212, z_get 5 25), (215, z_ic (nI 8) 2), (217, z_iload 6 2), (219, z_imul), (220, z_iload 9 2), (222, z_iadd), (223, z_aload 0 1), (224, z_get 5 25), (227, z_ic (nI 8) 2), (229, z_iload 6 2), (231, z_imul), (232, z_iload 9 2), (234, z_iadd), (235, z_laload), (236, z_lload 7 2), (238, z_aload 0 1), (239, z_get 5 25), (242, z_ic (nI 8) 2), (244, z_iload 2 1), (245, z_imul), (246, z_iload 9 2), (248, z_iadd), (249, z_laload), (250, z_lmul), (251, z_lc (.inl 2147483647) 3), (254, z_lrem), (255, z_lsub), (256, z_call 1 sp_X6_of), (259, z_lastore), (260, z_iinc 9 (nI 1)), (263, z_goto 198), (266, z_iinc 6 (nI 1)), (269, z_goto 165), (272, z_iinc 2 (nI 1)), (275, z_goto 28), (278, z_ic (nI 1) 1), (279, z_zret)]
set_option maxRecDepth 100000 in
set_option maxHeartbeats 4000000 in
theorem sn_X6_isCleared {G : Geo} (hG : GeoOK G) (l : Launch) : ∀ q ∈ pr_X6_isCleared, Sn G l yX6_isCleared.cls cX6_isCleared 10 1 (some .boolean) q.1 q.2 :=
  fcs (zs_iconst dX6_isCleared_0 rfl) <| fcs (zs_istore_n dX6_isCleared_1 rfl (by decide)) <| fcs (zs_iload_n dX6_isCleared_2 rfl) <| fcs (zs_bipush dX6_isCleared_3 rfl) <| fcs (zs_icmp_ge dX6_isCleared_5 rfl) <| fcs (zs_aload_n dX6_isCleared_8 rfl) <| fcs (zs_get cls5 (by decide) (by decide) wf_X6_81 dX6_isCleared_9) <| fcs (zs_iload_n dX6_isCleared_12 rfl) <| fcs (zs_aload_n dX6_isCleared_13 rfl) <| fcs (zs_get cls5 (by decide) (by decide) wf_X6_84 dX6_isCleared_14) <| fcs (zs_iload_n dX6_isCleared_17 rfl) <| fcs (zs_laload dX6_isCleared_18) <| fcs (zs_lastore dX6_isCleared_19) <| fcs (zs_iinc dX6_isCleared_20 rfl (by decide)) <| fcs (zs_goto dX6_isCleared_23 rfl) <| fcs (zs_iload_n dX6_isCleared_26 rfl) <| fcs (zs_istore_n dX6_isCleared_27 rfl (by decide)) <| fcs (zs_iload_n dX6_isCleared_28 rfl) <| fcs (zs_aload_n dX6_isCleared_29 rfl) <| fcs (zs_get cls5 (by decide) (by decide) wf_X6_114 dX6_isCleared_30) <| fcs (zs_icmp_ge dX6_isCleared_33 rfl) <| fcs (zs_iload_n dX6_isCleared_36 rfl) <| fcs (zs_istore_n dX6_isCleared_37 rfl (by decide)) <| fcs (zs_iload_n dX6_isCleared_38 rfl) <| fcs (zs_aload_n dX6_isCleared_39 rfl) <| fcs (zs_get cls5 (by decide) (by decide) wf_X6_114 dX6_isCleared_40) <| fcs (zs_icmp_ge dX6_isCleared_43 rfl) <| fcs (zs_aload_n dX6_isCleared_46 rfl) <| fcs (zs_get cls5 (by decide) (by decide) wf_X6_81 dX6_isCleared_47) <| fcs (zs_bipush dX6_isCleared_50 rfl) <| fcs (zs_iload_n dX6_isCleared_52 rfl) <| fcs (zs_imul dX6_isCleared_53) <| fcs (zs_iload_n dX6_isCleared_54 rfl) <| fcs (zs_iadd dX6_isCleared_55) <| fcs (zs_laload dX6_isCleared_56) <| fcs (zs_lconst dX6_isCleared_57 rfl) <| fcs (zs_lcmp dX6_isCleared_58) <| fcs (zs_if_ne dX6_isCleared_59 rfl) <| fcs (zs_iinc dX6_isCleared_62 rfl (by decide)) <| fcs (zs_goto dX6_isCleared_65 rfl) <| fcs (zs_iload_n dX6_isCleared_68 rfl) <| fcs (zs_aload_n dX6_isCleared_69 rfl) <| fcs (zs_get cls5 (by decide) (by decide) wf_X6_114 dX6_isCleared_70) <| fcs (zs_icmp_ne dX6_isCleared_73 rfl) <| fcs (zs_iconst dX6_isCleared_76 rfl) <| fcs (zs_zret dX6_isCleared_77) <| fcs (zs_iconst dX6_isCleared_78 rfl) <| fcs (zs_istore dX6_isCleared_79 (by decide)) <| fcs (zs_iload dX6_isCleared_81) <| fcs (zs_bipush dX6_isCleared_83 rfl) <| fcs (zs_icmp_ge dX6_isCleared_85 rfl) <| fcs (zs_aload_n dX6_isCleared_88 rfl) <| fcs (zs_get cls5 (by decide) (by decide) wf_X6_81 dX6_isCleared_89) <| fcs (zs_bipush dX6_isCleared_92 rfl) <| fcs (zs_iload_n dX6_isCleared_94 rfl) <| fcs (zs_imul dX6_isCleared_95) <| fcs (zs_iload dX6_isCleared_96) <| fcs (zs_iadd dX6_isCleared_98) <| fcs (zs_laload dX6_isCleared_99) <| fcs (zs_lstore dX6_isCleared_100 (by decide)) <| fcs (zs_aload_n dX6_isCleared_102 rfl) <| fcs (zs_get cls5 (by decide) (by decide) wf_X6_81 dX6_isCleared_103) <| fcs (zs_bipush dX6_isCleared_106 rfl) <| fcs (zs_iload_n dX6_isCleared_108 rfl) <| fcs (zs_imul dX6_isCleared_109) <| fcs (zs_iload dX6_isCleared_110) <| fcs (zs_iadd dX6_isCleared_112) <| fcs (zs_aload_n dX6_isCleared_113 rfl) <| fcs (zs_get cls5 (by decide) (by decide) wf_X6_81 dX6_isCleared_114) <| fcs (zs_bipush dX6_isCleared_117 rfl) <| fcs (zs_iload_n dX6_isCleared_119 rfl) <| fcs (zs_imul dX6_isCleared_120) <| fcs (zs_iload dX6_isCleared_121) <| fcs (zs_iadd dX6_isCleared_123) <| fcs (zs_laload dX6_isCleared_124) <| fcs (zs_lastore dX6_isCleared_125) <| fcs (zs_aload_n dX6_isCleared_126 rfl) <| fcs (zs_get cls5 (by decide) (by decide) wf_X6_81 dX6_isCleared_127) <| fcs (zs_bipush dX6_isCleared_130 rfl) <| fcs (zs_iload_n dX6_isCleared_132 rfl) <| fcs (zs_imul dX6_isCleared_133) <| fcs (zs_iload dX6_isCleared_134) <| fcs (zs_iadd dX6_isCleared_136) <| fcs (zs_lload dX6_isCleared_137) <| fcs (zs_lastore dX6_isCleared_139) <| fcs (zs_iinc dX6_isCleared_140 rfl (by decide)) <| fcs (zs_goto dX6_isCleared_143 rfl) <| fcs (zs_aload_n dX6_isCleared_146 rfl) <| fcs (zs_get cls5 (by decide) (by decide) wf_X6_81 dX6_isCleared_147) <| fcs (zs_bipush dX6_isCleared_150 rfl) <| fcs (zs_iload_n dX6_isCleared_152 rfl) <| fcs (zs_imul dX6_isCleared_153) <| fcs (zs_iload_n dX6_isCleared_154 rfl) <| fcs (zs_iadd dX6_isCleared_155) <| fcs (zs_laload dX6_isCleared_156) <| fcs (zs_calls (ct_X6_inverse hG l) mi_X6_inverse ws_X6_inverse (by decide) wm_X6_101 dX6_isCleared_157) <| fcs (zs_lstore dX6_isCleared_160 (by decide)) <| fcs (zs_iload_n dX6_isCleared_162 rfl) <| fcs (zs_istore dX6_isCleared_163 (by decide)) <| fcs (zs_iload dX6_isCleared_165) <| fcs (zs_aload_n dX6_isCleared_167 rfl) <| fcs (zs_get cls5 (by decide) (by decide) wf_X6_114 dX6_isCleared_168) <| fcs (zs_icmp_ge dX6_isCleared_171 rfl) <| fcs (zs_aload_n dX6_isCleared_174 rfl) <| fcs (zs_get cls5 (by decide) (by decide) wf_X6_81 dX6_isCleared_175) <| fcs (zs_bipush dX6_isCleared_178 rfl) <| fcs (zs_iload dX6_isCleared_180) <| fcs (zs_imul dX6_isCleared_182) <| fcs (zs_iload_n dX6_isCleared_183 rfl) <| fcs (zs_iadd dX6_isCleared_184) <| fcs (zs_laload dX6_isCleared_185) <| fcs (zs_lload dX6_isCleared_186) <| fcs (zs_lmul dX6_isCleared_188) <| fcs (zs_ldc2 dX6_isCleared_189 wl_X6_91) <| fcs (zs_lrem dX6_isCleared_192) <| fcs (zs_lstore dX6_isCleared_193 (by decide)) <| fcs (zs_iconst dX6_isCleared_195 rfl) <| fcs (zs_istore dX6_isCleared_196 (by decide)) <| fcs (zs_iload dX6_isCleared_198) <| fcs (zs_bipush dX6_isCleared_200 rfl) <| fcs (zs_icmp_ge dX6_isCleared_202 rfl) <| fcs (zs_iload dX6_isCleared_205) <| fcs (zs_iload_n dX6_isCleared_207 rfl) <| fcs (zs_icmp_eq dX6_isCleared_208 rfl) <| fcs (zs_aload_n dX6_isCleared_211 rfl) <| fcs (zs_get cls5 (by decide) (by decide) wf_X6_81 dX6_isCleared_212) <| fcs (zs_bipush dX6_isCleared_215 rfl) <| fcs (zs_iload dX6_isCleared_217) <| fcs (zs_imul dX6_isCleared_219) <| fcs (zs_iload dX6_isCleared_220) <| fcs (zs_iadd dX6_isCleared_222) <| fcs (zs_aload_n dX6_isCleared_223 rfl) <| fcs (zs_get cls5 (by decide) (by decide) wf_X6_81 dX6_isCleared_224) <| fcs (zs_bipush dX6_isCleared_227 rfl) <| fcs (zs_iload dX6_isCleared_229) <| fcs (zs_imul dX6_isCleared_231) <| fcs (zs_iload dX6_isCleared_232) <| fcs (zs_iadd dX6_isCleared_234) <| fcs (zs_laload dX6_isCleared_235) <| fcs (zs_lload dX6_isCleared_236) <| fcs (zs_aload_n dX6_isCleared_238 rfl) <| fcs (zs_get cls5 (by decide) (by decide) wf_X6_81 dX6_isCleared_239) <| fcs (zs_bipush dX6_isCleared_242 rfl) <| fcs (zs_iload_n dX6_isCleared_244 rfl) <| fcs (zs_imul dX6_isCleared_245) <| fcs (zs_iload dX6_isCleared_246) <| fcs (zs_iadd dX6_isCleared_248) <| fcs (zs_laload dX6_isCleared_249) <| fcs (zs_lmul dX6_isCleared_250) <| fcs (zs_ldc2 dX6_isCleared_251 wl_X6_91) <| fcs (zs_lrem dX6_isCleared_254) <| fcs (zs_lsub dX6_isCleared_255) <| fcs (zs_calls (ct_X6_of hG l) mi_X6_of ws_X6_of (by decide) wm_X6_97 dX6_isCleared_256) <| fcs (zs_lastore dX6_isCleared_259) <| fcs (zs_iinc dX6_isCleared_260 rfl (by decide)) <| fcs (zs_goto dX6_isCleared_263 rfl) <| fcs (zs_iinc dX6_isCleared_266 rfl (by decide)) <| fcs (zs_goto dX6_isCleared_269 rfl) <| fcs (zs_iinc dX6_isCleared_272 rfl (by decide)) <| fcs (zs_goto dX6_isCleared_275 rfl) <| fcs (zs_iconst dX6_isCleared_278 rfl) <| fcs (zs_zret dX6_isCleared_279) <| fnl
section IC
variable {X : Kx} {post : Option AV → SS → Prop}
set_option maxRecDepth 100000 in
set_option maxHeartbeats 4000000 in
/-- the first row that isn't 0 -/
theorem ic_fnd (hX : Closed pr_X6_isCleared post X) {σ s : SS} {A : Nat → ZF} {fr c : Nat} (hI : MI σ) (hs : R41 σ A s) (hc : c < mn σ) : ∀ (m r : Nat) (i : Int32), r + m = mn σ → i = nI r → X 68 [(3, .inl (nI (fnd A c m r))), (2, .inl (nI c)), (0, ar 6 0), (1, .inl (nI fr))] [] s → X 38 [(3, .inl i), (2, .inl (nI c)), (0, ar 6 0), (1, .inl (nI fr))] [] s := by
  have h7 := hI.2.1
  have hIs := MI_of hs.2.1 hI
  have hn := mn_of hs.2.1
  intro m
  induction m with
  | zero =>
    intro r i hr hi nx
    subst hi
    refine go hX [38, 68] 60 ?_
    refine ⟨fun g1 => nx, fun g1 => absurd (show s.2.2 6 1 ≤ nI r from ?_) g1⟩
    rw [hIs.1, nI_leI (by omega) (by omega)]
    omega
  | succ m ih =>
    intro r i hr hi nx
    subst hi
    unfold fnd at nx
    refine go hX [38, 68] 60 ?_
    refine ⟨fun g1 => absurd (show s.2.2 6 1 ≤ nI r from g1) ?_, fun g1 => ?_⟩
    · rw [hIs.1, nI_leI (by omega) (by omega)]
      omega
    refine ⟨⟨nle rfl, nle rfl⟩, 8 * r + c, by rw [pk_mul, nI_add], by show 8 * r + c < 64; omega, ?_⟩
    refine ⟨fun g2 => ?_, fun g2 => ?_⟩
    · have g2 : ¬ lg_cmp (em (s.2.1 41 0 (8 * r + c))) (em 0) = 0 := g2
      rw [em0, hs.2.2.2 _ (by omega)] at g2
      rw [if_neg g2] at nx
      exact nx
    · have g2 : lg_cmp (em (s.2.1 41 0 (8 * r + c))) (em 0) = 0 := g2
      rw [em0, hs.2.2.2 _ (by omega)] at g2
      rw [if_pos g2] at nx
      exact ih (r + 1) _ (by omega) (nI_add _ _) nx
set_option maxRecDepth 100000 in
set_option maxHeartbeats 4000000 in
/-- two rows exchanged -/
theorem ic_swp (hX : Closed pr_X6_isCleared post X) {σ : SS} {A : Nat → ZF} {fr c r : Nat} (hc : c < 8) (hr : r < 8) (nx : ∀ s, R41 σ (swk A r c 8) s → X 146 [(2, .inl (nI c)), (0, ar 6 0), (1, .inl (nI fr))] [] s) : ∀ (m k : Nat) (i : Int32) (s : SS) (loc : Loc'), k + m = 8 → i = nI k → R41 σ (swk A r c k) s → subL [(4, .inl i), (3, .inl (nI r)), (2, .inl (nI c)), (0, ar 6 0), (1, .inl (nI fr))] loc → X 81 loc [] s := by
  intro m
  induction m with
  | zero =>
    intro k i s loc hk hi hs hloc
    subst hi
    refine wk hX ?_ hloc
    refine go hX [81, 146] 60 ?_
    refine ⟨fun g1 => ?_, fun g1 => absurd ((nI_leI (by decide) (by omega)).mpr (by omega)) g1⟩
    have e : k = 8 := by omega
    subst e
    exact wk hX (nx s hs) ⟨⟨_, rfl, Or.inl rfl⟩, ⟨_, rfl, Or.inl rfl⟩, ⟨_, rfl, Or.inl rfl⟩, trivial⟩
  | succ m ih =>
    intro k i s loc hk hi hs hloc
    subst hi
    refine wk hX ?_ hloc
    refine go hX [81, 146] 60 ?_
    refine ⟨fun g1 => absurd ((nI_leI (by decide) (by omega)).mp g1) (by omega), fun g1 => ?_⟩
    have er : nI 8 * nI r + nI k = nI (8 * r + k) := by rw [pk_mul, nI_add]
    have ec : nI 8 * nI c + nI k = nI (8 * c + k) := by rw [pk_mul, nI_add]
    refine ⟨⟨nle rfl, nle rfl⟩, 8 * r + k, er, by show 8 * r + k < 64; omega, ?_⟩
    refine ⟨⟨nle rfl, nle rfl⟩, 8 * c + k, ec, by show 8 * c + k < 64; omega, ?_⟩
    refine ⟨⟨nle rfl, nle rfl⟩, 8 * r + k, _, er, by show 8 * r + k < 64; omega, rfl, ?_⟩
    refine ⟨⟨nle rfl, nle rfl⟩, 8 * c + k, _, ec, by show 8 * c + k < 64; omega, rfl, ?_⟩
    refine ih (k + 1) _ _ _ (by omega) (nI_add _ _) (R41_s (A := fun j => if j = 8 * r + k then A (8 * c + k) else swk A r c k j) (R41_s hs (fun j hj => ?_)) (fun j hj => ?_)) ⟨⟨_, rfl, Or.inl rfl⟩, ⟨_, rfl, Or.inl rfl⟩, ⟨_, rfl, Or.inl rfl⟩, ⟨_, rfl, Or.inl rfl⟩, ⟨_, rfl, Or.inl rfl⟩, trivial⟩
    · dsimp only
      rw [hs.2.2.2 _ (by omega)]
      have e : swk A r c k (8 * c + k) = A (8 * c + k) := if_neg (by omega)
      rw [e]
    · dsimp only
      rw [hs.2.2.2 _ (by omega)]
      have e : swk A r c k (8 * r + k) = A (8 * r + k) := if_neg (by omega)
      rw [e]
      by_cases h1 : j = 8 * c + k
      · subst h1
        rw [if_pos rfl]
        unfold swk
        rw [if_pos (by omega)]
        by_cases h2 : (8 * c + k) / 8 = r
        · have h3 : c = r := by omega
          subst h3
          rw [if_pos h2, show (8 * c + k) % 8 = k by omega]
        · rw [if_neg h2, if_pos (by omega), show (8 * c + k) % 8 = k by omega]
      · rw [if_neg h1]
        by_cases h2 : j = 8 * r + k
        · subst h2
          rw [if_pos rfl]
          unfold swk
          rw [if_pos (by omega), if_pos (by omega), show (8 * r + k) % 8 = k by omega]
        · rw [if_neg h2]
          unfold swk
          by_cases h3 : j % 8 < k
          · rw [if_pos h3, if_pos (by omega)]
          · rw [if_neg h3]
            by_cases h4 : j % 8 < k + 1
            · rw [if_pos h4, if_neg (by omega), if_neg (by omega)]
            · rw [if_neg h4]
theorem elk_0 (A : Nat → ZF) (c r : Nat) (f : ZF) (j : Nat) : elk A c r f 0 j = A j := if_neg (by omega)
set_option maxRecDepth 100000 in
set_option maxHeartbeats 4000000 in
/-- a row taken from another -/
theorem ic_elk (hX : Closed pr_X6_isCleared post X) {σ : SS} {A : Nat → ZF} {fr c r : Nat} {b f : ZF} {y : LV} (hy : lv y = em f) (hc : c < 8) (hr : r < 8) (hcr : r ≠ c) (nx : ∀ s, R41 σ (elk A c r f 8) s → X 266 [(6, .inl (nI r)), (4, af b), (2, .inl (nI c)), (0, ar 6 0), (1, .inl (nI fr))] [] s) : ∀ (m k : Nat) (i : Int32) (s : SS) (loc : Loc'), k + m = 8 → i = nI k → R41 σ (elk A c r f k) s → subL [(9, .inl i), (7, .inr (.inl y)), (6, .inl (nI r)), (4, af b), (2, .inl (nI c)), (0, ar 6 0), (1, .inl (nI fr))] loc → X 198 loc [] s := by
  intro m
  induction m with
  | zero =>
    intro k i s loc hk hi hs hloc
    subst hi
    refine wk hX ?_ hloc
    refine go hX [198, 266] 60 ?_
    refine ⟨fun g1 => ?_, fun g1 => absurd ((nI_leI (by decide) (by omega)).mpr (by omega)) g1⟩
    have e : k = 8 := by omega
    subst e
    exact wk hX (nx s hs) ⟨⟨_, rfl, Or.inl rfl⟩, ⟨_, rfl, Or.inl rfl⟩, ⟨_, rfl, Or.inl rfl⟩, ⟨_, rfl, Or.inl rfl⟩, ⟨_, rfl, Or.inl rfl⟩, trivial⟩
  | succ m ih =>
    intro k i s loc hk hi hs hloc
    subst hi
    refine wk hX ?_ hloc
    refine go hX [198, 266] 60 ?_
    refine ⟨fun g1 => absurd ((nI_leI (by decide) (by omega)).mp g1) (by omega), fun g1 => ⟨fun g2 => absurd ((nI_eq (by omega) (by omega)).mp g2) hcr, fun g2 => ?_⟩⟩
    have er : nI 8 * nI r + nI k = nI (8 * r + k) := by rw [pk_mul, nI_add]
    have ec : nI 8 * nI c + nI k = nI (8 * c + k) := by rw [pk_mul, nI_add]
    refine ⟨⟨nle rfl, nle rfl⟩, 8 * r + k, er, by show 8 * r + k < 64; omega, ?_⟩
    refine ⟨⟨nle rfl, nle rfl⟩, 8 * c + k, ec, by show 8 * c + k < 64; omega, ne_P, ?_⟩
    have e1 : elk A c r f k (8 * r + k) = A (8 * r + k) := if_neg (by omega)
    have e2 : elk A c r f k (8 * c + k) = A (8 * c + k) := if_neg (by omega)
    refine ⟨⟨nle rfl, nle rfl⟩, 8 * r + k, A (8 * r + k) - f * A (8 * c + k), er, by show 8 * r + k < 64; omega, ?_, ?_⟩
    · refine congrArg em (of_m ?_)
      show em _ - rP (lv y * em _) = em _ - em _
      rw [hy, n_times, hs.2.2.2 _ (by omega), hs.2.2.2 _ (by omega), e1, e2]
    · refine ih (k + 1) _ _ _ (by omega) (nI_add _ _) (R41_s hs (fun j hj => ?_)) ⟨⟨_, rfl, Or.inl rfl⟩, ⟨_, rfl, Or.inl rfl⟩, ⟨_, rfl, Or.inl rfl⟩, ⟨_, rfl, Or.inl rfl⟩, ⟨_, rfl, Or.inl rfl⟩, ⟨_, rfl, Or.inl rfl⟩, ⟨_, rfl, Or.inl rfl⟩, trivial⟩
      by_cases h1 : j = 8 * r + k
      · subst h1
        rw [if_pos rfl]
        unfold elk
        rw [if_pos (by omega), show (8 * r + k) % 8 = k by omega]
      · rw [if_neg h1]
        unfold elk
        by_cases h2 : j / 8 = r ∧ j % 8 < k
        · rw [if_pos h2, if_pos (by omega)]
        · rw [if_neg h2, if_neg (by omega)]
set_option maxRecDepth 100000 in
set_option maxHeartbeats 4000000 in
/-- row c taken from all others -/
theorem ic_elm (hX : Closed pr_X6_isCleared post X) {σ : SS} {A : Nat → ZF} {fr c : Nat} {b : ZF} (hI : MI σ) (hc : c < mn σ) (hf : fr ≤ c) (nx : ∀ s, R41 σ (elm A c b fr (mn σ - fr)) s → X 272 [(2, .inl (nI c)), (0, ar 6 0), (1, .inl (nI fr))] [] s) : ∀ (m r : Nat) (i : Int32) (s : SS) (loc : Loc'), r + m = mn σ - fr → i = nI (fr + r) → R41 σ (elm A c b fr r) s → subL [(6, .inl i), (4, af b), (2, .inl (nI c)), (0, ar 6 0), (1, .inl (nI fr))] loc → X 165 loc [] s := by
  have h7 := hI.2.1
  intro m
  induction m with
  | zero =>
    intro r i s loc hr hi hs hloc
    subst hi
    have hIs := MI_of hs.2.1 hI
    have hn := mn_of hs.2.1
    refine wk hX ?_ hloc
    refine go hX [165, 198, 272] 60 ?_
    refine ⟨fun g1 => ?_, fun g1 => absurd (show s.2.2 6 1 ≤ nI (fr + r) from ?_) g1⟩
    · have e : r = mn σ - fr := by omega
      subst e
      exact wk hX (nx s hs) ⟨⟨_, rfl, Or.inl rfl⟩, ⟨_, rfl, Or.inl rfl⟩, ⟨_, rfl, Or.inl rfl⟩, trivial⟩
    · rw [hIs.1, nI_leI (by omega) (by omega)]
      omega
  | succ m ih =>
    intro r i s loc hr hi hs hloc
    subst hi
    have hIs := MI_of hs.2.1 hI
    have hn := mn_of hs.2.1
    refine wk hX ?_ hloc
    refine go hX [165, 198, 272] 60 ?_
    refine ⟨fun g1 => absurd (show s.2.2 6 1 ≤ nI (fr + r) from g1) ?_, fun g1 => ?_⟩
    · rw [hIs.1, nI_leI (by omega) (by omega)]
      omega
    refine ⟨⟨nle rfl, nle rfl⟩, 8 * (fr + r) + c, by rw [pk_mul, nI_add], by show 8 * (fr + r) + c < 64; omega, ne_P, ?_⟩
    by_cases hrc : fr + r = c
    · refine go hX [165, 266] 60 ?_
      refine ⟨fun g2 => absurd ((nI_leI (by decide) (by decide)).mp g2) (by decide), fun g2 => ⟨fun g3 => ?_, fun g3 => absurd (show nI (fr + r) = nI c by rw [hrc]) g3⟩⟩
      refine go hX [165] 60 ?_
      refine ih (r + 1) _ s _ (by omega) (by rw [nI_add, Nat.add_assoc]) (R41_c hs (fun j hj => ?_)) ⟨⟨_, rfl, Or.inl rfl⟩, ⟨_, rfl, Or.inl rfl⟩, ⟨_, rfl, Or.inl rfl⟩, ⟨_, rfl, Or.inl rfl⟩, ⟨_, rfl, Or.inl rfl⟩, trivial⟩
      show (if fr + r = c then elm A c b fr r else _) j = _
      rw [if_pos hrc]
    · refine ic_elk hX (A := elm A c b fr r) (f := elm A c b fr r (8 * (fr + r) + c) * b) (b := b) (y := .inl _) ?_ (by omega) (by omega) hrc (fun s' hs' => ?_) 8 0 _ s _ rfl rfl (R41_c hs (fun j hj => elk_0 _ _ _ _ _)) ⟨⟨_, rfl, Or.inl rfl⟩, ⟨_, rfl, Or.inl rfl⟩, ⟨_, rfl, Or.inl rfl⟩, ⟨_, rfl, Or.inl rfl⟩, ⟨_, rfl, Or.inl rfl⟩, ⟨_, rfl, Or.inl rfl⟩, ⟨_, rfl, Or.inl rfl⟩, trivial⟩
      · show rP (em _ * em b) = em _
        rw [n_times, hs.2.2.2 _ (by omega)]
      · refine go hX [165] 60 ?_
        refine ih (r + 1) _ s' _ (by omega) (by rw [nI_add, Nat.add_assoc]) (R41_c hs' (fun j hj => ?_)) ⟨⟨_, rfl, Or.inl rfl⟩, ⟨_, rfl, Or.inl rfl⟩, ⟨_, rfl, Or.inl rfl⟩, ⟨_, rfl, Or.inl rfl⟩, ⟨_, rfl, Or.inl rfl⟩, trivial⟩
        show (if fr + r = c then elm A c b fr r else _) j = _
        rw [if_neg hrc]
end IC
set_option maxRecDepth 100000 in
set_option maxHeartbeats 4000000 in
theorem ct_X6_isCleared {G : Geo} (hG : GeoOK G) (l : Launch) : Ct G l yX6_isCleared cX6_isCleared 10 (some .boolean) 1 sp_X6_isCleared := by
  refine Ct.of pr_X6_isCleared hG (by decide +kernel) (sn_X6_isCleared hG l) ?_
  intro av σ post hok h
  unfold sp_X6_isCleared at h
  split at h
  · rename_i b x
    obtain ⟨hb, hI, fr, rfl, hf, h9⟩ := bif_t h
    clear h
    obtain rfl := is6_t hb
    refine ⟨Nat.le_of_ble_eq_true rfl, fun X hX => ?_⟩
    have h7 := hI.2.1
    have outer : ∀ (m c : Nat) (i : Int32) (s : SS) (A : Nat → ZF) (loc : Loc'), c + m = mn σ → fr ≤ c → i = nI c → R41 σ A s → (∀ s, R41 σ (icl fr m c A).2 s → post (some (ai (bz (icl fr m c A).1))) s) → subL [(2, .inl i), (0, ar 6 0), (1, .inl (nI fr))] loc → X 28 loc [] s := by
      intro m
      induction m with
      | zero =>
        intro c i s A loc hc hfc hi hs hp hloc
        subst hi
        have hIs := MI_of hs.2.1 hI
        have hn := mn_of hs.2.1
        refine wk hX ?_ hloc
        refine go hX [28, 38] 60 ?_
        refine ⟨fun g1 => ⟨Or.inr rfl, hp s hs⟩, fun g1 => absurd (show s.2.2 6 1 ≤ nI c from ?_) g1⟩
        rw [hIs.1, nI_leI (by omega) (by omega)]
        omega
      | succ m ih =>
        intro c i s A loc hc hfc hi hs hp hloc
        subst hi
        have hIs := MI_of hs.2.1 hI
        have hn := mn_of hs.2.1
        obtain ⟨hr1, hr2⟩ := fnd_le A c (m + 1) c
        unfold icl at hp
        refine wk hX ?_ hloc
        refine go hX [28, 38] 60 ?_
        refine ⟨fun g1 => absurd (show s.2.2 6 1 ≤ nI c from g1) ?_, fun g1 => ?_⟩
        · rw [hIs.1, nI_leI (by omega) (by omega)]
          omega
        refine wk hX (ic_fnd hX hI hs (by omega) (m + 1) c _ (by omega) rfl ?_) ⟨⟨_, rfl, Or.inl rfl⟩, ⟨_, rfl, Or.inl rfl⟩, ⟨_, rfl, Or.inl rfl⟩, ⟨_, rfl, Or.inl rfl⟩, trivial⟩
        refine go hX [81] 60 ?_
        refine ⟨fun g2 => ?_, fun g2 => ?_⟩
        · have g2 : ¬ nI (fnd A c (m + 1) c) = s.2.2 6 1 := g2
          rw [hIs.1, nI_eq (by omega) (by omega), hn] at g2
          rw [if_neg (by omega)] at hp
          refine ic_swp hX (A := A) (r := fnd A c (m + 1) c) (by omega) (by omega) (fun s1 hs1 => ?_) 8 0 _ s _ rfl rfl (R41_c hs (fun j hj => if_neg (by omega))) ⟨⟨_, rfl, Or.inl rfl⟩, ⟨_, rfl, Or.inl rfl⟩, ⟨_, rfl, Or.inl rfl⟩, ⟨_, rfl, Or.inl rfl⟩, ⟨_, rfl, Or.inl rfl⟩, trivial⟩
          refine go hX [165] 60 ?_
          refine ⟨⟨nle rfl, nle rfl⟩, 8 * c + c, by rw [pk_mul, nI_add], by show 8 * c + c < 64; omega, ?_⟩
          refine ic_elm hX (A := swk A (fnd A c (m + 1) c) c 8) (b := zinv (swk A (fnd A c (m + 1) c) c 8 (8 * c + c))) hI (by omega) hfc (fun s2 hs2 => ?_) (mn σ - fr) 0 _ s1 _ (by omega) rfl hs1 ?_
          · refine go hX [28] 60 ?_
            refine ih (c + 1) _ s2 _ _ (by omega) (by omega) (nI_add _ _) hs2 ?_ ⟨⟨_, rfl, Or.inl rfl⟩, ⟨_, rfl, Or.inl rfl⟩, ⟨_, rfl, Or.inl rfl⟩, trivial⟩
            rw [hc] at hp
            exact hp
          · rw [hs1.2.2.2 _ (by omega)]
            exact ⟨⟨_, rfl, Or.inl rfl⟩, ⟨_, rfl, Or.inl rfl⟩, ⟨_, rfl, Or.inl rfl⟩, ⟨_, rfl, Or.inl rfl⟩, ⟨_, rfl, Or.inl rfl⟩, trivial⟩
        · have g2 : nI (fnd A c (m + 1) c) = s.2.2 6 1 := g2
          rw [hIs.1, nI_eq (by omega) (by omega), hn] at g2
          rw [if_pos (by omega)] at hp
          exact ⟨Or.inl rfl, hp s hs⟩
    have copy : ∀ (m k : Nat) (i : Int32) (s : SS), k + m = 64 → i = nI k → R41 σ (fun j => if j < k then σ.2.1 42 0 j else s.2.1 41 0 j) s → X 2 [(2, .inl i), (0, ar 6 0), (1, .inl (nI fr))] [] s := by
      intro m
      induction m with
      | zero =>
        intro k i s hk hi hs
        subst hi
        refine go hX [2, 28] 60 ?_
        refine ⟨fun g1 => ?_, fun g1 => absurd ((nI_leI (by decide) (by omega)).mpr (by omega)) g1⟩
        exact outer (mn σ - fr) fr _ s (σ.2.1 42 0) _ (by omega) (Nat.le_refl _) rfl (R41_c hs (fun j hj => (if_pos (by omega)).symm)) h9 ⟨⟨_, rfl, Or.inl rfl⟩, ⟨_, rfl, Or.inl rfl⟩, ⟨_, rfl, Or.inl rfl⟩, trivial⟩
      | succ m ih =>
        intro k i s hk hi hs
        subst hi
        refine go hX [2, 28] 60 ?_
        refine ⟨fun g1 => absurd ((nI_leI (by decide) (by omega)).mp g1) (by omega), fun g1 => ?_⟩
        refine ⟨⟨nle rfl, nle rfl⟩, k, rfl, by show k < 64; omega, ?_⟩
        refine ⟨⟨nle rfl, nle rfl⟩, k, _, rfl, by show k < 64; omega, rfl, ?_⟩
        refine ih (k + 1) _ _ (by omega) (nI_add _ _) (R41_s hs (fun j hj => ?_))
        dsimp only
        by_cases h1 : j = k
        · subst h1
          rw [if_pos (by omega), if_pos rfl, hs.2.2.1 42 0 _ (by decide)]
        · rw [if_neg h1, sL_n3 _ _ _ _ _ h1]
          by_cases h2 : j < k
          · rw [if_pos h2, if_pos (by omega)]
          · rw [if_neg h2, if_neg (by omega)]
    refine go hX [2] 60 ?_
    refine copy 64 0 _ σ rfl rfl ⟨rfl, rfl, fun _ _ _ _ => rfl, fun j hj => (if_neg (by omega)).symm⟩
  · exact h.elim
