/-! Constructor of the reference -/
theorem vk_X6_init : Cond.code yX6_init cX6_init 1 none ∈ ltb := List.mem_filter.mpr ⟨List.mem_append_right _ (List.mem_of_getElem? (i := 465) (by decide +kernel)), by decide +kernel⟩
theorem vn_X6 : Cond.initialized RX6 ∈ ltb := List.mem_filter.mpr ⟨List.mem_append_right _ (List.mem_of_getElem? (i := 6) (by decide +kernel)), by decide +kernel⟩
theorem mi_X6_init : Mi yX6_init yX6_init.cls 0 cX6_init 1 none := ⟨by decide +kernel, vk_X6_init, vn_X6, by decide⟩
theorem vv_X6_init : Cond.instanceMethod yX6_init ∈ ltb := List.mem_filter.mpr ⟨List.mem_append_right _ (List.mem_of_getElem? (i := 464) (by decide +kernel)), by decide +kernel⟩
theorem dX6_init_0 : decode cX6_init 0 = .ok (.aload_n 0, 1) := by decide +kernel
theorem dX6_init_1 : decode cX6_init 1 = .ok (.invokespecial 1, 3) := by decide +kernel
theorem dX6_init_4 : decode cX6_init 4 = .ok (.aload_n 0, 1) := by decide +kernel
theorem dX6_init_5 : decode cX6_init 5 = .ok (.bipush 8, 2) := by decide +kernel
theorem dX6_init_7 : decode cX6_init 7 = .ok (.newarray .int, 2) := by decide +kernel
theorem dX6_init_9 : decode cX6_init 9 = .ok (.putfield 7, 3) := by decide +kernel
theorem dX6_init_12 : decode cX6_init 12 = .ok (.aload_n 0, 1) := by decide +kernel
theorem dX6_init_13 : decode cX6_init 13 = .ok (.bipush 8, 2) := by decide +kernel
theorem dX6_init_15 : decode cX6_init 15 = .ok (.newarray .boolean, 2) := by decide +kernel
theorem dX6_init_17 : decode cX6_init 17 = .ok (.putfield 13, 3) := by decide +kernel
theorem dX6_init_20 : decode cX6_init 20 = .ok (.aload_n 0, 1) := by decide +kernel
theorem dX6_init_21 : decode cX6_init 21 = .ok (.sipush 128, 3) := by decide +kernel
theorem dX6_init_24 : decode cX6_init 24 = .ok (.newarray .long, 2) := by decide +kernel
theorem dX6_init_26 : decode cX6_init 26 = .ok (.putfield 17, 3) := by decide +kernel
theorem dX6_init_29 : decode cX6_init 29 = .ok (.aload_n 0, 1) := by decide +kernel
theorem dX6_init_30 : decode cX6_init 30 = .ok (.bipush 8, 2) := by decide +kernel
theorem dX6_init_32 : decode cX6_init 32 = .ok (.newarray .long, 2) := by decide +kernel
theorem dX6_init_34 : decode cX6_init 34 = .ok (.putfield 21, 3) := by decide +kernel
theorem dX6_init_37 : decode cX6_init 37 = .ok (.aload_n 0, 1) := by decide +kernel
theorem dX6_init_38 : decode cX6_init 38 = .ok (.bipush 8, 2) := by decide +kernel
theorem dX6_init_40 : decode cX6_init 40 = .ok (.newarray .long, 2) := by decide +kernel
theorem dX6_init_42 : decode cX6_init 42 = .ok (.putfield 24, 3) := by decide +kernel
theorem dX6_init_45 : decode cX6_init 45 = .ok (.aload_n 0, 1) := by decide +kernel
theorem dX6_init_46 : decode cX6_init 46 = .ok (.bipush 8, 2) := by decide +kernel
theorem dX6_init_48 : decode cX6_init 48 = .ok (.newarray .long, 2) := by decide +kernel
theorem dX6_init_50 : decode cX6_init 50 = .ok (.putfield 27, 3) := by decide +kernel
theorem dX6_init_53 : decode cX6_init 53 = .ok (.aload_n 0, 1) := by decide +kernel
theorem dX6_init_54 : decode cX6_init 54 = .ok (.iconst 3, 1) := by decide +kernel
theorem dX6_init_55 : decode cX6_init 55 = .ok (.newarray .long, 2) := by decide +kernel
theorem dX6_init_57 : decode cX6_init 57 = .ok (.putfield 30, 3) := by decide +kernel
theorem dX6_init_60 : decode cX6_init 60 = .ok (.aload_n 0, 1) := by decide +kernel
theorem dX6_init_61 : decode cX6_init 61 = .ok (.bipush 8, 2) := by decide +kernel
theorem dX6_init_63 : decode cX6_init 63 = .ok (.newarray .long, 2) := by decide +kernel
theorem dX6_init_65 : decode cX6_init 65 = .ok (.putfield 33, 3) := by decide +kernel
theorem dX6_init_68 : decode cX6_init 68 = .ok (.aload_n 0, 1) := by decide +kernel
theorem dX6_init_69 : decode cX6_init 69 = .ok (.bipush 8, 2) := by decide +kernel
theorem dX6_init_71 : decode cX6_init 71 = .ok (.newarray .long, 2) := by decide +kernel
theorem dX6_init_73 : decode cX6_init 73 = .ok (.putfield 36, 3) := by decide +kernel
theorem dX6_init_76 : decode cX6_init 76 = .ok (.aload_n 0, 1) := by decide +kernel
theorem dX6_init_77 : decode cX6_init 77 = .ok (.bipush 72, 2) := by decide +kernel
theorem dX6_init_79 : decode cX6_init 79 = .ok (.newarray .long, 2) := by decide +kernel
theorem dX6_init_81 : decode cX6_init 81 = .ok (.putfield 39, 3) := by decide +kernel
theorem dX6_init_84 : decode cX6_init 84 = .ok (.aload_n 0, 1) := by decide +kernel
theorem dX6_init_85 : decode cX6_init 85 = .ok (.bipush 24, 2) := by decide +kernel
theorem dX6_init_87 : decode cX6_init 87 = .ok (.newarray .long, 2) := by decide +kernel
theorem dX6_init_89 : decode cX6_init 89 = .ok (.putfield 42, 3) := by decide +kernel
theorem dX6_init_92 : decode cX6_init 92 = .ok (.aload_n 0, 1) := by decide +kernel
theorem dX6_init_93 : decode cX6_init 93 = .ok (.bipush 24, 2) := by decide +kernel
theorem dX6_init_95 : decode cX6_init 95 = .ok (.newarray .long, 2) := by decide +kernel
theorem dX6_init_97 : decode cX6_init 97 = .ok (.putfield 45, 3) := by decide +kernel
theorem dX6_init_100 : decode cX6_init 100 = .ok (.aload_n 0, 1) := by decide +kernel
theorem dX6_init_101 : decode cX6_init 101 = .ok (.bipush 24, 2) := by decide +kernel
theorem dX6_init_103 : decode cX6_init 103 = .ok (.newarray .long, 2) := by decide +kernel
theorem dX6_init_105 : decode cX6_init 105 = .ok (.putfield 48, 3) := by decide +kernel
theorem dX6_init_108 : decode cX6_init 108 = .ok (.aload_n 0, 1) := by decide +kernel
theorem dX6_init_109 : decode cX6_init 109 = .ok (.bipush 24, 2) := by decide +kernel
theorem dX6_init_111 : decode cX6_init 111 = .ok (.newarray .long, 2) := by decide +kernel
theorem dX6_init_113 : decode cX6_init 113 = .ok (.putfield 51, 3) := by decide +kernel
theorem dX6_init_116 : decode cX6_init 116 = .ok (.aload_n 0, 1) := by decide +kernel
theorem dX6_init_117 : decode cX6_init 117 = .ok (.bipush 24, 2) := by decide +kernel
theorem dX6_init_119 : decode cX6_init 119 = .ok (.newarray .long, 2) := by decide +kernel
theorem dX6_init_121 : decode cX6_init 121 = .ok (.putfield 54, 3) := by decide +kernel
theorem dX6_init_124 : decode cX6_init 124 = .ok (.aload_n 0, 1) := by decide +kernel
theorem dX6_init_125 : decode cX6_init 125 = .ok (.bipush 24, 2) := by decide +kernel
theorem dX6_init_127 : decode cX6_init 127 = .ok (.newarray .long, 2) := by decide +kernel
theorem dX6_init_129 : decode cX6_init 129 = .ok (.putfield 57, 3) := by decide +kernel
theorem dX6_init_132 : decode cX6_init 132 = .ok (.aload_n 0, 1) := by decide +kernel
theorem dX6_init_133 : decode cX6_init 133 = .ok (.bipush 24, 2) := by decide +kernel
theorem dX6_init_135 : decode cX6_init 135 = .ok (.newarray .long, 2) := by decide +kernel
theorem dX6_init_137 : decode cX6_init 137 = .ok (.putfield 60, 3) := by decide +kernel
theorem dX6_init_140 : decode cX6_init 140 = .ok (.aload_n 0, 1) := by decide +kernel
theorem dX6_init_141 : decode cX6_init 141 = .ok (.bipush 24, 2) := by decide +kernel
theorem dX6_init_143 : decode cX6_init 143 = .ok (.newarray .long, 2) := by decide +kernel
theorem dX6_init_145 : decode cX6_init 145 = .ok (.putfield 63, 3) := by decide +kernel
theorem dX6_init_148 : decode cX6_init 148 = .ok (.aload_n 0, 1) := by decide +kernel
theorem dX6_init_149 : decode cX6_init 149 = .ok (.iconst 3, 1) := by decide +kernel
theorem dX6_init_150 : decode cX6_init 150 = .ok (.newarray .long, 2) := by decide +kernel
theorem dX6_init_152 : decode cX6_init 152 = .ok (.putfield 66, 3) := by decide +kernel
theorem dX6_init_155 : decode cX6_init 155 = .ok (.aload_n 0, 1) := by decide +kernel
theorem dX6_init_156 : decode cX6_init 156 = .ok (.iconst 3, 1) := by decide +kernel
theorem dX6_init_157 : decode cX6_init 157 = .ok (.newarray .long, 2) := by decide +kernel
theorem dX6_init_159 : decode cX6_init 159 = .ok (.putfield 69, 3) := by decide +kernel
theorem dX6_init_162 : decode cX6_init 162 = .ok (.aload_n 0, 1) := by decide +kernel
theorem dX6_init_163 : decode cX6_init 163 = .ok (.iconst 3, 1) := by decide +kernel
theorem dX6_init_164 : decode cX6_init 164 = .ok (.newarray .long, 2) := by decide +kernel
theorem dX6_init_166 : decode cX6_init 166 = .ok (.putfield 72, 3) := by decide +kernel
theorem dX6_init_169 : decode cX6_init 169 = .ok (.aload_n 0, 1) := by decide +kernel
theorem dX6_init_170 : decode cX6_init 170 = .ok (.bipush 9, 2) := by decide +kernel
theorem dX6_init_172 : decode cX6_init 172 = .ok (.newarray .long, 2) := by decide +kernel
theorem dX6_init_174 : decode cX6_init 174 = .ok (.putfield 75, 3) := by decide +kernel
theorem dX6_init_177 : decode cX6_init 177 = .ok (.aload_n 0, 1) := by decide +kernel
theorem dX6_init_178 : decode cX6_init 178 = .ok (.bipush 9, 2) := by decide +kernel
theorem dX6_init_180 : decode cX6_init 180 = .ok (.newarray .long, 2) := by decide +kernel
theorem dX6_init_182 : decode cX6_init 182 = .ok (.putfield 78, 3) := by decide +kernel
theorem dX6_init_185 : decode cX6_init 185 = .ok (.aload_n 0, 1) := by decide +kernel
theorem dX6_init_186 : decode cX6_init 186 = .ok (.bipush 64, 2) := by decide +kernel
theorem dX6_init_188 : decode cX6_init 188 = .ok (.newarray .long, 2) := by decide +kernel
theorem dX6_init_190 : decode cX6_init 190 = .ok (.putfield 81, 3) := by decide +kernel
theorem dX6_init_193 : decode cX6_init 193 = .ok (.aload_n 0, 1) := by decide +kernel
theorem dX6_init_194 : decode cX6_init 194 = .ok (.bipush 64, 2) := by decide +kernel
theorem dX6_init_196 : decode cX6_init 196 = .ok (.newarray .long, 2) := by decide +kernel
theorem dX6_init_198 : decode cX6_init 198 = .ok (.putfield 84, 3) := by decide +kernel
theorem dX6_init_201 : decode cX6_init 201 = .ok (.return_, 1) := by decide +kernel
theorem vi_X6 : Cond.instantiable RX6 27 ∈ ltb := List.mem_filter.mpr ⟨List.mem_append_right _ (List.mem_of_getElem? (i := 462) (by decide +kernel)), by decide +kernel⟩
theorem vm_X6_1 : Cond.methodLink RX6 1 objectInit ∈ ltb := List.mem_filter.mpr ⟨List.mem_append_right _ (List.mem_of_getElem? (i := 466) (by decide +kernel)), by decide +kernel⟩
theorem va_c_long : Cond.arrayClass .long ∈ ltb := List.mem_filter.mpr ⟨List.mem_append_right _ (List.mem_of_getElem? (i := 195) (by decide +kernel)), by decide +kernel⟩
theorem va_c_int : Cond.arrayClass .int ∈ ltb := List.mem_filter.mpr ⟨List.mem_append_right _ (List.mem_of_getElem? (i := 549) (by decide +kernel)), by decide +kernel⟩
theorem va_c_boolean : Cond.arrayClass .boolean ∈ ltb := List.mem_filter.mpr ⟨List.mem_append_right _ (List.mem_of_getElem? (i := 550) (by decide +kernel)), by decide +kernel⟩
theorem em_0 : em 0 = 0 := by decide
section BD
variable {p : Program} {l : Launch} {e : Env} {R : Room} {s : State} {m : MethodId} {args : Array Value} {below : List Frame} {meth : Method} {c : Code} {Q : State → Prop} {H H0 : Heap} {locs : List Loc} {cells slots pc : Nat} {ls : Array Slot} {rest : List Value} {D : va_G} {c5 : C5} {A : Nat → Prop} {ws : va_W} {own : String} {cc : ByteArray} {nL h0 : Nat}
theorem bd_fldA (C : CB D c5 own cc nL p s m args c) (hin2 : meth.name = "<init>") (hA : ∀ x, H0.size ≤ x → A x) {ci N k i3 : Nat} {Cs : String} {T : u_T} {ty0 : Nat → FieldType} (hC : Cls ci Cs T N ty0) (hk : k < N) {at' : ArrayType} {ty : FieldType} (hat : newarray.typeOf at' = ty) (wa : Cond.arrayClass ty ∈ ltb) {cA0 : ClassId} (hcA : ∀ cA : ClassId, va_RA s cA ty → cA = cA0) (wf : Cond.fieldLink own i3 (T k).1 (T k).2.1 (T k).2.2.1 ∈ ltb) (hfin : (T k).2.2.2 = true) (hdecl : (T k).1 = own) (hty : ty0 k = .array ty) {fs : List Value} (hfl : k < fs.length) {n : Nat} {x : Int32} (hxn : x = nI n) (hn : n ≤ 128) (hcb : componentBytes ty ≤ 8) {a0 : vp_A} (ha : ∀ cA : ClassId, vp_cell cA a0 = arrV cA n (fun _ => defaultValue ty))
    (d0 : decode cc pc = .ok (.newarray at', 2)) (d2 : decode cc (pc + 2) = .ok (.putfield i3, 3)) (hcells : cells + 1 ≤ R.cells) (hslots : slots + n ≤ R.slots) (hP : va_P D vwCl ((h0, .inr (ci, fs)) :: ws) H) (hD : va_D A ((h0, .inr (ci, fs)) :: ws)) (hS : va_S A H0 H locs)
    (kk : ∀ (q : Nat) (H1 : Heap) (locs1 : List Loc), va_P D vwCl ((h0, .inr (ci, fs.set k (.ref q))) :: (ws ++ [(q, .inl (cA0, a0))])) H1 → va_D A ((h0, .inr (ci, fs.set k (.ref q))) :: (ws ++ [(q, .inl (cA0, a0))])) → va_S A H0 H1 locs1 → W p l e R s m args below meth c H1 locs1 (cells + 1) (slots + n) Q (F0 m (pc + 5) ls rest)) :
    W p l e R s m args below meth c H locs cells slots Q (F0 m pc ls (.int x :: .ref h0 :: rest)) := by
  have C' := C
  obtain ⟨hx, hb, hml, hown, hts, hK, hN, hXA⟩ := C'
  subst hat hxn
  have hby : n * componentBytes (newarray.typeOf at') ≤ 128 * 8 := Nat.mul_le_mul hn hcb
  refine va_newa hx hb (hts _ wa) rfl hK hP hD hS hA ha (nI_pos (by omega)) (nI_clamp (by omega)) (by omega) hcells hslots d0 (fun q cA H1 hK1 hP1 hD1 hS1 => ?_)
  have hc : cA = cA0 := hcA cA (hK1.2 5 _ rfl).2
  subst hc
  exact bd_putF C hin2 hC hk wf hfin hdecl (v := .ref q) (by rw [hty]; rfl) (by rw [hty]; rfl) hfl hP1 hD1 hS1 d2 (fun H3 locs3 hP3 hD3 hS3 => kk q H3 locs3 hP3 hD3 hS3)
theorem ra_J (C : CB D c5 own cc nL p s m args c) (cA : ClassId) (h : va_RA s cA .long) : cA = c5.1 := Option.some.inj ((show s.vm.findClass _ = some cA from h).symm.trans (C.2.2.2.2.2.1.2 0 (c5.1, .long) rfl).2)
theorem ra_I (C : CB D c5 own cc nL p s m args c) (cA : ClassId) (h : va_RA s cA .int) : cA = c5.2.1 := Option.some.inj ((show s.vm.findClass _ = some cA from h).symm.trans (C.2.2.2.2.2.1.2 1 (c5.2.1, .int) rfl).2)
theorem ra_Z (C : CB D c5 own cc nL p s m args c) (cA : ClassId) (h : va_RA s cA .boolean) : cA = c5.2.2.1 := Option.some.inj ((show s.vm.findClass _ = some cA from h).symm.trans (C.2.2.2.2.2.1.2 2 (c5.2.2.1, .boolean) rfl).2)
theorem bd_fldJ (C : CB D c5 own cc nL p s m args c) (hin2 : meth.name = "<init>") (hA : ∀ x, H0.size ≤ x → A x) {ci N0 k i3 : Nat} {Cs : String} {T : u_T} {ty0 : Nat → FieldType} (hC : Cls ci Cs T N0 ty0) (hk : k < N0) (wa : Cond.arrayClass .long ∈ ltb) (wf : Cond.fieldLink own i3 (T k).1 (T k).2.1 (T k).2.2.1 ∈ ltb) (hfin : (T k).2.2.2 = true) (hdecl : (T k).1 = own) (hty : ty0 k = .array .long) {fs : List Value} (hfl : k < fs.length) {N : Nat} {x : Int32} (hxn : x = nI N) (hn : N ≤ 128) (hcb : componentBytes .long ≤ 8)
    (d0 : decode cc pc = .ok (.newarray .long, 2)) (d2 : decode cc (pc + 2) = .ok (.putfield i3, 3)) (hcells : cells + 1 ≤ R.cells) (hslots : slots + N ≤ R.slots) (hP : va_P D vwCl ((h0, .inr (ci, fs)) :: ws) H) (hD : va_D A ((h0, .inr (ci, fs)) :: ws)) (hS : va_S A H0 H locs)
    (kk : ∀ (q : Nat) (H1 : Heap) (locs1 : List Loc), va_P D vwCl ((h0, .inr (ci, fs.set k (.ref q))) :: (ws ++ [(q, .inl (c5.1, N, .inr (.inl (fun _ => em 0))))])) H1 → va_D A ((h0, .inr (ci, fs.set k (.ref q))) :: (ws ++ [(q, .inl (c5.1, N, .inr (.inl (fun _ => em 0))))])) → va_S A H0 H1 locs1 → W p l e R s m args below meth c H1 locs1 (cells + 1) (slots + N) Q (F0 m (pc + 5) ls rest)) :
    W p l e R s m args below meth c H locs cells slots Q (F0 m pc ls (.int x :: .ref h0 :: rest)) :=
  bd_fldA C hin2 hA hC hk (at' := .long) (ty := .long) rfl wa (ra_J C) wf hfin hdecl hty hfl hxn hn hcb (a0 := (N, .inr (.inl (fun _ => em 0)))) (fun cA => by rw [em_0]; rfl) d0 d2 hcells hslots hP hD hS kk
theorem bd_fldI (C : CB D c5 own cc nL p s m args c) (hin2 : meth.name = "<init>") (hA : ∀ x, H0.size ≤ x → A x) {ci N0 k i3 : Nat} {Cs : String} {T : u_T} {ty0 : Nat → FieldType} (hC : Cls ci Cs T N0 ty0) (hk : k < N0) (wa : Cond.arrayClass .int ∈ ltb) (wf : Cond.fieldLink own i3 (T k).1 (T k).2.1 (T k).2.2.1 ∈ ltb) (hfin : (T k).2.2.2 = true) (hdecl : (T k).1 = own) (hty : ty0 k = .array .int) {fs : List Value} (hfl : k < fs.length) {N : Nat} {x : Int32} (hxn : x = nI N) (hn : N ≤ 128) (hcb : componentBytes .int ≤ 8)
    (d0 : decode cc pc = .ok (.newarray .int, 2)) (d2 : decode cc (pc + 2) = .ok (.putfield i3, 3)) (hcells : cells + 1 ≤ R.cells) (hslots : slots + N ≤ R.slots) (hP : va_P D vwCl ((h0, .inr (ci, fs)) :: ws) H) (hD : va_D A ((h0, .inr (ci, fs)) :: ws)) (hS : va_S A H0 H locs)
    (kk : ∀ (q : Nat) (H1 : Heap) (locs1 : List Loc), va_P D vwCl ((h0, .inr (ci, fs.set k (.ref q))) :: (ws ++ [(q, .inl (c5.2.1, N, .inl (fun _ => 0)))])) H1 → va_D A ((h0, .inr (ci, fs.set k (.ref q))) :: (ws ++ [(q, .inl (c5.2.1, N, .inl (fun _ => 0)))])) → va_S A H0 H1 locs1 → W p l e R s m args below meth c H1 locs1 (cells + 1) (slots + N) Q (F0 m (pc + 5) ls rest)) :
    W p l e R s m args below meth c H locs cells slots Q (F0 m pc ls (.int x :: .ref h0 :: rest)) :=
  bd_fldA C hin2 hA hC hk (at' := .int) (ty := .int) rfl wa (ra_I C) wf hfin hdecl hty hfl hxn hn hcb (a0 := (N, .inl (fun _ => 0))) (fun cA => rfl) d0 d2 hcells hslots hP hD hS kk
theorem bd_fldZ (C : CB D c5 own cc nL p s m args c) (hin2 : meth.name = "<init>") (hA : ∀ x, H0.size ≤ x → A x) {ci N0 k i3 : Nat} {Cs : String} {T : u_T} {ty0 : Nat → FieldType} (hC : Cls ci Cs T N0 ty0) (hk : k < N0) (wa : Cond.arrayClass .boolean ∈ ltb) (wf : Cond.fieldLink own i3 (T k).1 (T k).2.1 (T k).2.2.1 ∈ ltb) (hfin : (T k).2.2.2 = true) (hdecl : (T k).1 = own) (hty : ty0 k = .array .boolean) {fs : List Value} (hfl : k < fs.length) {N : Nat} {x : Int32} (hxn : x = nI N) (hn : N ≤ 128) (hcb : componentBytes .boolean ≤ 8)
    (d0 : decode cc pc = .ok (.newarray .boolean, 2)) (d2 : decode cc (pc + 2) = .ok (.putfield i3, 3)) (hcells : cells + 1 ≤ R.cells) (hslots : slots + N ≤ R.slots) (hP : va_P D vwCl ((h0, .inr (ci, fs)) :: ws) H) (hD : va_D A ((h0, .inr (ci, fs)) :: ws)) (hS : va_S A H0 H locs)
    (kk : ∀ (q : Nat) (H1 : Heap) (locs1 : List Loc), va_P D vwCl ((h0, .inr (ci, fs.set k (.ref q))) :: (ws ++ [(q, .inl (c5.2.2.1, N, .inl (fun _ => 0)))])) H1 → va_D A ((h0, .inr (ci, fs.set k (.ref q))) :: (ws ++ [(q, .inl (c5.2.2.1, N, .inl (fun _ => 0)))])) → va_S A H0 H1 locs1 → W p l e R s m args below meth c H1 locs1 (cells + 1) (slots + N) Q (F0 m (pc + 5) ls rest)) :
    W p l e R s m args below meth c H locs cells slots Q (F0 m pc ls (.int x :: .ref h0 :: rest)) :=
  bd_fldA C hin2 hA hC hk (at' := .boolean) (ty := .boolean) rfl wa (ra_Z C) wf hfin hdecl hty hfl hxn hn hcb (a0 := (N, .inl (fun _ => 0))) (fun cA => rfl) d0 d2 hcells hslots hP hD hS kk
end BD

theorem vf_X6_7 : Cond.fieldLink RX6 7 (TX6 2).1 (TX6 2).2.1 (TX6 2).2.2.1 ∈ ltb := List.mem_filter.mpr ⟨List.mem_append_right _ (List.mem_of_getElem? (i := 469) (by decide +kernel)), by decide +kernel⟩
theorem vf_X6_13 : Cond.fieldLink RX6 13 (TX6 3).1 (TX6 3).2.1 (TX6 3).2.2.1 ∈ ltb := List.mem_filter.mpr ⟨List.mem_append_right _ (List.mem_of_getElem? (i := 470) (by decide +kernel)), by decide +kernel⟩
theorem vf_X6_17 : Cond.fieldLink RX6 17 (TX6 4).1 (TX6 4).2.1 (TX6 4).2.2.1 ∈ ltb := List.mem_filter.mpr ⟨List.mem_append_right _ (List.mem_of_getElem? (i := 471) (by decide +kernel)), by decide +kernel⟩
theorem vf_X6_21 : Cond.fieldLink RX6 21 (TX6 5).1 (TX6 5).2.1 (TX6 5).2.2.1 ∈ ltb := List.mem_filter.mpr ⟨List.mem_append_right _ (List.mem_of_getElem? (i := 472) (by decide +kernel)), by decide +kernel⟩
theorem vf_X6_24 : Cond.fieldLink RX6 24 (TX6 6).1 (TX6 6).2.1 (TX6 6).2.2.1 ∈ ltb := List.mem_filter.mpr ⟨List.mem_append_right _ (List.mem_of_getElem? (i := 473) (by decide +kernel)), by decide +kernel⟩
theorem vf_X6_27 : Cond.fieldLink RX6 27 (TX6 7).1 (TX6 7).2.1 (TX6 7).2.2.1 ∈ ltb := List.mem_filter.mpr ⟨List.mem_append_right _ (List.mem_of_getElem? (i := 474) (by decide +kernel)), by decide +kernel⟩
theorem vf_X6_30 : Cond.fieldLink RX6 30 (TX6 8).1 (TX6 8).2.1 (TX6 8).2.2.1 ∈ ltb := List.mem_filter.mpr ⟨List.mem_append_right _ (List.mem_of_getElem? (i := 475) (by decide +kernel)), by decide +kernel⟩
theorem vf_X6_33 : Cond.fieldLink RX6 33 (TX6 9).1 (TX6 9).2.1 (TX6 9).2.2.1 ∈ ltb := List.mem_filter.mpr ⟨List.mem_append_right _ (List.mem_of_getElem? (i := 476) (by decide +kernel)), by decide +kernel⟩
theorem vf_X6_36 : Cond.fieldLink RX6 36 (TX6 10).1 (TX6 10).2.1 (TX6 10).2.2.1 ∈ ltb := List.mem_filter.mpr ⟨List.mem_append_right _ (List.mem_of_getElem? (i := 477) (by decide +kernel)), by decide +kernel⟩
theorem vf_X6_39 : Cond.fieldLink RX6 39 (TX6 11).1 (TX6 11).2.1 (TX6 11).2.2.1 ∈ ltb := List.mem_filter.mpr ⟨List.mem_append_right _ (List.mem_of_getElem? (i := 478) (by decide +kernel)), by decide +kernel⟩
theorem vf_X6_42 : Cond.fieldLink RX6 42 (TX6 12).1 (TX6 12).2.1 (TX6 12).2.2.1 ∈ ltb := List.mem_filter.mpr ⟨List.mem_append_right _ (List.mem_of_getElem? (i := 479) (by decide +kernel)), by decide +kernel⟩
theorem vf_X6_45 : Cond.fieldLink RX6 45 (TX6 13).1 (TX6 13).2.1 (TX6 13).2.2.1 ∈ ltb := List.mem_filter.mpr ⟨List.mem_append_right _ (List.mem_of_getElem? (i := 480) (by decide +kernel)), by decide +kernel⟩
theorem vf_X6_48 : Cond.fieldLink RX6 48 (TX6 14).1 (TX6 14).2.1 (TX6 14).2.2.1 ∈ ltb := List.mem_filter.mpr ⟨List.mem_append_right _ (List.mem_of_getElem? (i := 481) (by decide +kernel)), by decide +kernel⟩
theorem vf_X6_51 : Cond.fieldLink RX6 51 (TX6 15).1 (TX6 15).2.1 (TX6 15).2.2.1 ∈ ltb := List.mem_filter.mpr ⟨List.mem_append_right _ (List.mem_of_getElem? (i := 482) (by decide +kernel)), by decide +kernel⟩
theorem vf_X6_54 : Cond.fieldLink RX6 54 (TX6 16).1 (TX6 16).2.1 (TX6 16).2.2.1 ∈ ltb := List.mem_filter.mpr ⟨List.mem_append_right _ (List.mem_of_getElem? (i := 483) (by decide +kernel)), by decide +kernel⟩
theorem vf_X6_57 : Cond.fieldLink RX6 57 (TX6 17).1 (TX6 17).2.1 (TX6 17).2.2.1 ∈ ltb := List.mem_filter.mpr ⟨List.mem_append_right _ (List.mem_of_getElem? (i := 484) (by decide +kernel)), by decide +kernel⟩
theorem vf_X6_60 : Cond.fieldLink RX6 60 (TX6 18).1 (TX6 18).2.1 (TX6 18).2.2.1 ∈ ltb := List.mem_filter.mpr ⟨List.mem_append_right _ (List.mem_of_getElem? (i := 485) (by decide +kernel)), by decide +kernel⟩
theorem vf_X6_63 : Cond.fieldLink RX6 63 (TX6 19).1 (TX6 19).2.1 (TX6 19).2.2.1 ∈ ltb := List.mem_filter.mpr ⟨List.mem_append_right _ (List.mem_of_getElem? (i := 486) (by decide +kernel)), by decide +kernel⟩
theorem vf_X6_66 : Cond.fieldLink RX6 66 (TX6 20).1 (TX6 20).2.1 (TX6 20).2.2.1 ∈ ltb := List.mem_filter.mpr ⟨List.mem_append_right _ (List.mem_of_getElem? (i := 487) (by decide +kernel)), by decide +kernel⟩
theorem vf_X6_69 : Cond.fieldLink RX6 69 (TX6 21).1 (TX6 21).2.1 (TX6 21).2.2.1 ∈ ltb := List.mem_filter.mpr ⟨List.mem_append_right _ (List.mem_of_getElem? (i := 488) (by decide +kernel)), by decide +kernel⟩
theorem vf_X6_72 : Cond.fieldLink RX6 72 (TX6 22).1 (TX6 22).2.1 (TX6 22).2.2.1 ∈ ltb := List.mem_filter.mpr ⟨List.mem_append_right _ (List.mem_of_getElem? (i := 489) (by decide +kernel)), by decide +kernel⟩
theorem vf_X6_75 : Cond.fieldLink RX6 75 (TX6 23).1 (TX6 23).2.1 (TX6 23).2.2.1 ∈ ltb := List.mem_filter.mpr ⟨List.mem_append_right _ (List.mem_of_getElem? (i := 490) (by decide +kernel)), by decide +kernel⟩
theorem vf_X6_78 : Cond.fieldLink RX6 78 (TX6 24).1 (TX6 24).2.1 (TX6 24).2.2.1 ∈ ltb := List.mem_filter.mpr ⟨List.mem_append_right _ (List.mem_of_getElem? (i := 491) (by decide +kernel)), by decide +kernel⟩
theorem vf_X6_81 : Cond.fieldLink RX6 81 (TX6 25).1 (TX6 25).2.1 (TX6 25).2.2.1 ∈ ltb := List.mem_filter.mpr ⟨List.mem_append_right _ (List.mem_of_getElem? (i := 492) (by decide +kernel)), by decide +kernel⟩
theorem vf_X6_84 : Cond.fieldLink RX6 84 (TX6 26).1 (TX6 26).2.1 (TX6 26).2.2.1 ∈ ltb := List.mem_filter.mpr ⟨List.mem_append_right _ (List.mem_of_getElem? (i := 493) (by decide +kernel)), by decide +kernel⟩
def mks : List Nat := [6, 7, 8, 20, 21, 22, 23, 24, 25, 26, 27, 28, 29, 30, 31, 32, 33, 34, 35, 36, 37, 38, 39, 40, 41, 42]
def mad (l : List Nat) (a : Nat) : Nat := l.getD (if a < 9 then a - 6 else a - 17) 0
set_option maxRecDepth 100000 in
set_option maxHeartbeats 16000000 in
theorem mi_end (c5 : C5) (h0 q1 q2 q3 q4 q5 q6 q7 q8 q9 q10 q11 q12 q13 q14 q15 q16 q17 q18 q19 q20 q21 q22 q23 q24 q25 : Nat) : (((h0, .inr (5, [.int 0, .int 0, .ref q1, .ref q2, .ref q3, .ref q4, .ref q5, .ref q6, .ref q7, .ref q8, .ref q9, .ref q10, .ref q11, .ref q12, .ref q13, .ref q14, .ref q15, .ref q16, .ref q17, .ref q18, .ref q19, .ref q20, .ref q21, .ref q22, .ref q23, .ref q24, .ref q25])) :: ((((((((((((((((((((((((([] ++ [(q1, .inl (c5.2.1, 8, .inl (fun _ => 0)))]) ++ [(q2, .inl (c5.2.2.1, 8, .inl (fun _ => 0)))]) ++ [(q3, .inl (c5.1, 128, .inr (.inl (fun _ => em 0))))]) ++ [(q4, .inl (c5.1, 8, .inr (.inl (fun _ => em 0))))]) ++ [(q5, .inl (c5.1, 8, .inr (.inl (fun _ => em 0))))]) ++ [(q6, .inl (c5.1, 8, .inr (.inl (fun _ => em 0))))]) ++ [(q7, .inl (c5.1, 3, .inr (.inl (fun _ => em 0))))]) ++ [(q8, .inl (c5.1, 8, .inr (.inl (fun _ => em 0))))]) ++ [(q9, .inl (c5.1, 8, .inr (.inl (fun _ => em 0))))]) ++ [(q10, .inl (c5.1, 72, .inr (.inl (fun _ => em 0))))]) ++ [(q11, .inl (c5.1, 24, .inr (.inl (fun _ => em 0))))]) ++ [(q12, .inl (c5.1, 24, .inr (.inl (fun _ => em 0))))]) ++ [(q13, .inl (c5.1, 24, .inr (.inl (fun _ => em 0))))]) ++ [(q14, .inl (c5.1, 24, .inr (.inl (fun _ => em 0))))]) ++ [(q15, .inl (c5.1, 24, .inr (.inl (fun _ => em 0))))]) ++ [(q16, .inl (c5.1, 24, .inr (.inl (fun _ => em 0))))]) ++ [(q17, .inl (c5.1, 24, .inr (.inl (fun _ => em 0))))]) ++ [(q18, .inl (c5.1, 24, .inr (.inl (fun _ => em 0))))]) ++ [(q19, .inl (c5.1, 3, .inr (.inl (fun _ => em 0))))]) ++ [(q20, .inl (c5.1, 3, .inr (.inl (fun _ => em 0))))]) ++ [(q21, .inl (c5.1, 3, .inr (.inl (fun _ => em 0))))]) ++ [(q22, .inl (c5.1, 9, .inr (.inl (fun _ => em 0))))]) ++ [(q23, .inl (c5.1, 9, .inr (.inl (fun _ => em 0))))]) ++ [(q24, .inl (c5.1, 64, .inr (.inl (fun _ => em 0))))]) ++ [(q25, .inl (c5.1, 64, .inr (.inl (fun _ => em 0))))]) : va_W)) = mks.map (fun kd => (mad [h0, q1, q2, q3, q4, q5, q6, q7, q8, q9, q10, q11, q12, q13, q14, q15, q16, q17, q18, q19, q20, q21, q22, q23, q24, q25] kd, cellOf (G0 c5 (fun a _ => mad [h0, q1, q2, q3, q4, q5, q6, q7, q8, q9, q10, q11, q12, q13, q14, q15, q16, q17, q18, q19, q20, q21, q22, q23, q24, q25] a)) s0 kd 0)) := by
  simp only [mks, List.map_cons, List.map_nil, List.cons_append, List.nil_append]
  rfl
def shM (c5 : C5) (h0 : Nat) (ws : va_W) : Prop := ∃ ad : Nat → Nat, ad 6 = h0 ∧ ws = mks.map (fun kd => (ad kd, cellOf (G0 c5 (fun a _ => ad a)) s0 kd 0))
def mfs0 : List Value := [.int 0, .int 0, .null, .null, .null, .null, .null, .null, .null, .null, .null, .null, .null, .null, .null, .null, .null, .null, .null, .null, .null, .null, .null, .null, .null, .null, .null]
set_option maxRecDepth 100000 in
set_option maxHeartbeats 16000000 in
theorem cn_X6 (l : Launch) : Cn l yX6_init cX6_init 1 (rmb 1 25 606) 5 mfs0 [] 25 606 shM := by
  refine Cn.of (by decide) (fun _ => Nat.le_of_ble_eq_true rfl) ?_
  intro D c5 h0 p e s m below meth c A Q C hin hA ls hl hP hD hS ret
  have hl : lv_has ls 1 [(0, .ref h0)] := hl
  have hx := C.1
  have hb := C.2.1
  refine bd_obj C (lv_at hl 0 rfl) hl.1 vm_X6_1 dX6_init_0 dX6_init_1 (Nat.le_of_ble_eq_true rfl) (Nat.le_of_ble_eq_true rfl) ?_
  refine lv_aload_n hx hb dX6_init_4 rfl (lv_at hl 0 rfl) ?_
  refine lv_bipush hx hb dX6_init_5 (v := nI 8) rfl ?_
  refine bd_fldI C hin hA cls5 (k := 2) (by decide) va_c_int vf_X6_7 rfl rfl rfl (Nat.le_of_ble_eq_true rfl) (N := 8) rfl (by decide) (by decide) dX6_init_7 dX6_init_9 (Nat.le_of_ble_eq_true rfl) (Nat.le_of_ble_eq_true rfl) hP hD hS (fun q1 H locs hP hD hS => ?_)
  have hP : va_P D vwCl ((h0, .inr (5, [.int 0, .int 0, .ref q1, .null, .null, .null, .null, .null, .null, .null, .null, .null, .null, .null, .null, .null, .null, .null, .null, .null, .null, .null, .null, .null, .null, .null, .null])) :: _) H := hP
  have hD : va_D A ((h0, .inr (5, [.int 0, .int 0, .ref q1, .null, .null, .null, .null, .null, .null, .null, .null, .null, .null, .null, .null, .null, .null, .null, .null, .null, .null, .null, .null, .null, .null, .null, .null])) :: _) := hD
  refine lv_aload_n hx hb dX6_init_12 rfl (lv_at hl 0 rfl) ?_
  refine lv_bipush hx hb dX6_init_13 (v := nI 8) rfl ?_
  refine bd_fldZ C hin hA cls5 (k := 3) (by decide) va_c_boolean vf_X6_13 rfl rfl rfl (Nat.le_of_ble_eq_true rfl) (N := 8) rfl (by decide) (by decide) dX6_init_15 dX6_init_17 (Nat.le_of_ble_eq_true rfl) (Nat.le_of_ble_eq_true rfl) hP hD hS (fun q2 H locs hP hD hS => ?_)
  have hP : va_P D vwCl ((h0, .inr (5, [.int 0, .int 0, .ref q1, .ref q2, .null, .null, .null, .null, .null, .null, .null, .null, .null, .null, .null, .null, .null, .null, .null, .null, .null, .null, .null, .null, .null, .null, .null])) :: _) H := hP
  have hD : va_D A ((h0, .inr (5, [.int 0, .int 0, .ref q1, .ref q2, .null, .null, .null, .null, .null, .null, .null, .null, .null, .null, .null, .null, .null, .null, .null, .null, .null, .null, .null, .null, .null, .null, .null])) :: _) := hD
  refine lv_aload_n hx hb dX6_init_20 rfl (lv_at hl 0 rfl) ?_
  refine lv_sipush hx hb dX6_init_21 (v := nI 128) rfl ?_
  refine bd_fldJ C hin hA cls5 (k := 4) (by decide) va_c_long vf_X6_17 rfl rfl rfl (Nat.le_of_ble_eq_true rfl) (N := 128) rfl (by decide) (by decide) dX6_init_24 dX6_init_26 (Nat.le_of_ble_eq_true rfl) (Nat.le_of_ble_eq_true rfl) hP hD hS (fun q3 H locs hP hD hS => ?_)
  have hP : va_P D vwCl ((h0, .inr (5, [.int 0, .int 0, .ref q1, .ref q2, .ref q3, .null, .null, .null, .null, .null, .null, .null, .null, .null, .null, .null, .null, .null, .null, .null, .null, .null, .null, .null, .null, .null, .null])) :: _) H := hP
  have hD : va_D A ((h0, .inr (5, [.int 0, .int 0, .ref q1, .ref q2, .ref q3, .null, .null, .null, .null, .null, .null, .null, .null, .null, .null, .null, .null, .null, .null, .null, .null, .null, .null, .null, .null, .null, .null])) :: _) := hD
  refine lv_aload_n hx hb dX6_init_29 rfl (lv_at hl 0 rfl) ?_
  refine lv_bipush hx hb dX6_init_30 (v := nI 8) rfl ?_
  refine bd_fldJ C hin hA cls5 (k := 5) (by decide) va_c_long vf_X6_21 rfl rfl rfl (Nat.le_of_ble_eq_true rfl) (N := 8) rfl (by decide) (by decide) dX6_init_32 dX6_init_34 (Nat.le_of_ble_eq_true rfl) (Nat.le_of_ble_eq_true rfl) hP hD hS (fun q4 H locs hP hD hS => ?_)
  have hP : va_P D vwCl ((h0, .inr (5, [.int 0, .int 0, .ref q1, .ref q2, .ref q3, .ref q4, .null, .null, .null, .null, .null, .null, .null, .null, .null, .null, .null, .null, .null, .null, .null, .null, .null, .null, .null, .null, .null])) :: _) H := hP
  have hD : va_D A ((h0, .inr (5, [.int 0, .int 0, .ref q1, .ref q2, .ref q3, .ref q4, .null, .null, .null, .null, .null, .null, .null, .null, .null, .null, .null, .null, .null, .null, .null, .null, .null, .null, .null, .null, .null])) :: _) := hD
  refine lv_aload_n hx hb dX6_init_37 rfl (lv_at hl 0 rfl) ?_
  refine lv_bipush hx hb dX6_init_38 (v := nI 8) rfl ?_
  refine bd_fldJ C hin hA cls5 (k := 6) (by decide) va_c_long vf_X6_24 rfl rfl rfl (Nat.le_of_ble_eq_true rfl) (N := 8) rfl (by decide) (by decide) dX6_init_40 dX6_init_42 (Nat.le_of_ble_eq_true rfl) (Nat.le_of_ble_eq_true rfl) hP hD hS (fun q5 H locs hP hD hS => ?_)
  have hP : va_P D vwCl ((h0, .inr (5, [.int 0, .int 0, .ref q1, .ref q2, .ref q3, .ref q4, .ref q5, .null, .null, .null, .null, .null, .null, .null, .null, .null, .null, .null, .null, .null, .null, .null, .null, .null, .null, .null, .null])) :: _) H := hP
  have hD : va_D A ((h0, .inr (5, [.int 0, .int 0, .ref q1, .ref q2, .ref q3, .ref q4, .ref q5, .null, .null, .null, .null, .null, .null, .null, .null, .null, .null, .null, .null, .null, .null, .null, .null, .null, .null, .null, .null])) :: _) := hD
  refine lv_aload_n hx hb dX6_init_45 rfl (lv_at hl 0 rfl) ?_
  refine lv_bipush hx hb dX6_init_46 (v := nI 8) rfl ?_
  refine bd_fldJ C hin hA cls5 (k := 7) (by decide) va_c_long vf_X6_27 rfl rfl rfl (Nat.le_of_ble_eq_true rfl) (N := 8) rfl (by decide) (by decide) dX6_init_48 dX6_init_50 (Nat.le_of_ble_eq_true rfl) (Nat.le_of_ble_eq_true rfl) hP hD hS (fun q6 H locs hP hD hS => ?_)
  have hP : va_P D vwCl ((h0, .inr (5, [.int 0, .int 0, .ref q1, .ref q2, .ref q3, .ref q4, .ref q5, .ref q6, .null, .null, .null, .null, .null, .null, .null, .null, .null, .null, .null, .null, .null, .null, .null, .null, .null, .null, .null])) :: _) H := hP
  have hD : va_D A ((h0, .inr (5, [.int 0, .int 0, .ref q1, .ref q2, .ref q3, .ref q4, .ref q5, .ref q6, .null, .null, .null, .null, .null, .null, .null, .null, .null, .null, .null, .null, .null, .null, .null, .null, .null, .null, .null])) :: _) := hD
  refine lv_aload_n hx hb dX6_init_53 rfl (lv_at hl 0 rfl) ?_
  refine lv_iconst hx hb dX6_init_54 (v := nI 3) rfl ?_
  refine bd_fldJ C hin hA cls5 (k := 8) (by decide) va_c_long vf_X6_30 rfl rfl rfl (Nat.le_of_ble_eq_true rfl) (N := 3) rfl (by decide) (by decide) dX6_init_55 dX6_init_57 (Nat.le_of_ble_eq_true rfl) (Nat.le_of_ble_eq_true rfl) hP hD hS (fun q7 H locs hP hD hS => ?_)
  have hP : va_P D vwCl ((h0, .inr (5, [.int 0, .int 0, .ref q1, .ref q2, .ref q3, .ref q4, .ref q5, .ref q6, .ref q7, .null, .null, .null, .null, .null, .null, .null, .null, .null, .null, .null, .null, .null, .null, .null, .null, .null, .null])) :: _) H := hP
  have hD : va_D A ((h0, .inr (5, [.int 0, .int 0, .ref q1, .ref q2, .ref q3, .ref q4, .ref q5, .ref q6, .ref q7, .null, .null, .null, .null, .null, .null, .null, .null, .null, .null, .null, .null, .null, .null, .null, .null, .null, .null])) :: _) := hD
  refine lv_aload_n hx hb dX6_init_60 rfl (lv_at hl 0 rfl) ?_
  refine lv_bipush hx hb dX6_init_61 (v := nI 8) rfl ?_
  refine bd_fldJ C hin hA cls5 (k := 9) (by decide) va_c_long vf_X6_33 rfl rfl rfl (Nat.le_of_ble_eq_true rfl) (N := 8) rfl (by decide) (by decide) dX6_init_63 dX6_init_65 (Nat.le_of_ble_eq_true rfl) (Nat.le_of_ble_eq_true rfl) hP hD hS (fun q8 H locs hP hD hS => ?_)
  have hP : va_P D vwCl ((h0, .inr (5, [.int 0, .int 0, .ref q1, .ref q2, .ref q3, .ref q4, .ref q5, .ref q6, .ref q7, .ref q8, .null, .null, .null, .null, .null, .null, .null, .null, .null, .null, .null, .null, .null, .null, .null, .null, .null])) :: _) H := hP
  have hD : va_D A ((h0, .inr (5, [.int 0, .int 0, .ref q1, .ref q2, .ref q3, .ref q4, .ref q5, .ref q6, .ref q7, .ref q8, .null, .null, .null, .null, .null, .null, .null, .null, .null, .null, .null, .null, .null, .null, .null, .null, .null])) :: _) := hD
  refine lv_aload_n hx hb dX6_init_68 rfl (lv_at hl 0 rfl) ?_
  refine lv_bipush hx hb dX6_init_69 (v := nI 8) rfl ?_
  refine bd_fldJ C hin hA cls5 (k := 10) (by decide) va_c_long vf_X6_36 rfl rfl rfl (Nat.le_of_ble_eq_true rfl) (N := 8) rfl (by decide) (by decide) dX6_init_71 dX6_init_73 (Nat.le_of_ble_eq_true rfl) (Nat.le_of_ble_eq_true rfl) hP hD hS (fun q9 H locs hP hD hS => ?_)
  have hP : va_P D vwCl ((h0, .inr (5, [.int 0, .int 0, .ref q1, .ref q2, .ref q3, .ref q4, .ref q5, .ref q6, .ref q7, .ref q8, .ref q9, .null, .null, .null, .null, .null, .null, .null, .null, .null, .null, .null, .null, .null, .null, .null, .null])) :: _) H := hP
  have hD : va_D A ((h0, .inr (5, [.int 0, .int 0, .ref q1, .ref q2, .ref q3, .ref q4, .ref q5, .ref q6, .ref q7, .ref q8, .ref q9, .null, .null, .null, .null, .null, .null, .null, .null, .null, .null, .null, .null, .null, .null, .null, .null])) :: _) := hD
  refine lv_aload_n hx hb dX6_init_76 rfl (lv_at hl 0 rfl) ?_
  refine lv_bipush hx hb dX6_init_77 (v := nI 72) rfl ?_
  refine bd_fldJ C hin hA cls5 (k := 11) (by decide) va_c_long vf_X6_39 rfl rfl rfl (Nat.le_of_ble_eq_true rfl) (N := 72) rfl (by decide) (by decide) dX6_init_79 dX6_init_81 (Nat.le_of_ble_eq_true rfl) (Nat.le_of_ble_eq_true rfl) hP hD hS (fun q10 H locs hP hD hS => ?_)
  have hP : va_P D vwCl ((h0, .inr (5, [.int 0, .int 0, .ref q1, .ref q2, .ref q3, .ref q4, .ref q5, .ref q6, .ref q7, .ref q8, .ref q9, .ref q10, .null, .null, .null, .null, .null, .null, .null, .null, .null, .null, .null, .null, .null, .null, .null])) :: _) H := hP
  have hD : va_D A ((h0, .inr (5, [.int 0, .int 0, .ref q1, .ref q2, .ref q3, .ref q4, .ref q5, .ref q6, .ref q7, .ref q8, .ref q9, .ref q10, .null, .null, .null, .null, .null, .null, .null, .null, .null, .null, .null, .null, .null, .null, .null])) :: _) := hD
  refine lv_aload_n hx hb dX6_init_84 rfl (lv_at hl 0 rfl) ?_
  refine lv_bipush hx hb dX6_init_85 (v := nI 24) rfl ?_
  refine bd_fldJ C hin hA cls5 (k := 12) (by decide) va_c_long vf_X6_42 rfl rfl rfl (Nat.le_of_ble_eq_true rfl) (N := 24) rfl (by decide) (by decide) dX6_init_87 dX6_init_89 (Nat.le_of_ble_eq_true rfl) (Nat.le_of_ble_eq_true rfl) hP hD hS (fun q11 H locs hP hD hS => ?_)
  have hP : va_P D vwCl ((h0, .inr (5, [.int 0, .int 0, .ref q1, .ref q2, .ref q3, .ref q4, .ref q5, .ref q6, .ref q7, .ref q8, .ref q9, .ref q10, .ref q11, .null, .null, .null, .null, .null, .null, .null, .null, .null, .null, .null, .null, .null, .null])) :: _) H := hP
  have hD : va_D A ((h0, .inr (5, [.int 0, .int 0, .ref q1, .ref q2, .ref q3, .ref q4, .ref q5, .ref q6, .ref q7, .ref q8, .ref q9, .ref q10, .ref q11, .null, .null, .null, .null, .null, .null, .null, .null, .null, .null, .null, .null, .null, .null])) :: _) := hD
  refine lv_aload_n hx hb dX6_init_92 rfl (lv_at hl 0 rfl) ?_
  refine lv_bipush hx hb dX6_init_93 (v := nI 24) rfl ?_
  refine bd_fldJ C hin hA cls5 (k := 13) (by decide) va_c_long vf_X6_45 rfl rfl rfl (Nat.le_of_ble_eq_true rfl) (N := 24) rfl (by decide) (by decide) dX6_init_95 dX6_init_97 (Nat.le_of_ble_eq_true rfl) (Nat.le_of_ble_eq_true rfl) hP hD hS (fun q12 H locs hP hD hS => ?_)
  have hP : va_P D vwCl ((h0, .inr (5, [.int 0, .int 0, .ref q1, .ref q2, .ref q3, .ref q4, .ref q5, .ref q6, .ref q7, .ref q8, .ref q9, .ref q10, .ref q11, .ref q12, .null, .null, .null, .null, .null, .null, .null, .null, .null, .null, .null, .null, .null])) :: _) H := hP
  have hD : va_D A ((h0, .inr (5, [.int 0, .int 0, .ref q1, .ref q2, .ref q3, .ref q4, .ref q5, .ref q6, .ref q7, .ref q8, .ref q9, .ref q10, .ref q11, .ref q12, .null, .null, .null, .null, .null, .null, .null, .null, .null, .null, .null, .null, .null])) :: _) := hD
  refine lv_aload_n hx hb dX6_init_100 rfl (lv_at hl 0 rfl) ?_
  refine lv_bipush hx hb dX6_init_101 (v := nI 24) rfl ?_
  refine bd_fldJ C hin hA cls5 (k := 14) (by decide) va_c_long vf_X6_48 rfl rfl rfl (Nat.le_of_ble_eq_true rfl) (N := 24) rfl (by decide) (by decide) dX6_init_103 dX6_init_105 (Nat.le_of_ble_eq_true rfl) (Nat.le_of_ble_eq_true rfl) hP hD hS (fun q13 H locs hP hD hS => ?_)
  have hP : va_P D vwCl ((h0, .inr (5, [.int 0, .int 0, .ref q1, .ref q2, .ref q3, .ref q4, .ref q5, .ref q6, .ref q7, .ref q8, .ref q9, .ref q10, .ref q11, .ref q12, .ref q13, .null, .null, .null, .null, .null, .null, .null, .null, .null, .null, .null, .null])) :: _) H := hP
  have hD : va_D A ((h0, .inr (5, [.int 0, .int 0, .ref q1, .ref q2, .ref q3, .ref q4, .ref q5, .ref q6, .ref q7, .ref q8, .ref q9, .ref q10, .ref q11, .ref q12, .ref q13, .null, .null, .null, .null, .null, .null, .null, .null, .null, .null, .null, .null])) :: _) := hD
  refine lv_aload_n hx hb dX6_init_108 rfl (lv_at hl 0 rfl) ?_
  refine lv_bipush hx hb dX6_init_109 (v := nI 24) rfl ?_
  refine bd_fldJ C hin hA cls5 (k := 15) (by decide) va_c_long vf_X6_51 rfl rfl rfl (Nat.le_of_ble_eq_true rfl) (N := 24) rfl (by decide) (by decide) dX6_init_111 dX6_init_113 (Nat.le_of_ble_eq_true rfl) (Nat.le_of_ble_eq_true rfl) hP hD hS (fun q14 H locs hP hD hS => ?_)
  have hP : va_P D vwCl ((h0, .inr (5, [.int 0, .int 0, .ref q1, .ref q2, .ref q3, .ref q4, .ref q5, .ref q6, .ref q7, .ref q8, .ref q9, .ref q10, .ref q11, .ref q12, .ref q13, .ref q14, .null, .null, .null, .null, .null, .null, .null, .null, .null, .null, .null])) :: _) H := hP
  have hD : va_D A ((h0, .inr (5, [.int 0, .int 0, .ref q1, .ref q2, .ref q3, .ref q4, .ref q5, .ref q6, .ref q7, .ref q8, .ref q9, .ref q10, .ref q11, .ref q12, .ref q13, .ref q14, .null, .null, .null, .null, .null, .null, .null, .null, .null, .null, .null])) :: _) := hD
  refine lv_aload_n hx hb dX6_init_116 rfl (lv_at hl 0 rfl) ?_
  refine lv_bipush hx hb dX6_init_117 (v := nI 24) rfl ?_
  refine bd_fldJ C hin hA cls5 (k := 16) (by decide) va_c_long vf_X6_54 rfl rfl rfl (Nat.le_of_ble_eq_true rfl) (N := 24) rfl (by decide) (by decide) dX6_init_119 dX6_init_121 (Nat.le_of_ble_eq_true rfl) (Nat.le_of_ble_eq_true rfl) hP hD hS (fun q15 H locs hP hD hS => ?_)
  have hP : va_P D vwCl ((h0, .inr (5, [.int 0, .int 0, .ref q1, .ref q2, .ref q3, .ref q4, .ref q5, .ref q6, .ref q7, .ref q8, .ref q9, .ref q10, .ref q11, .ref q12, .ref q13, .ref q14, .ref q15, .null, .null, .null, .null, .null, .null, .null, .null, .null, .null])) :: _) H := hP
  have hD : va_D A ((h0, .inr (5, [.int 0, .int 0, .ref q1, .ref q2, .ref q3, .ref q4, .ref q5, .ref q6, .ref q7, .ref q8, .ref q9, .ref q10, .ref q11, .ref q12, .ref q13, .ref q14, .ref q15, .null, .null, .null, .null, .null, .null, .null, .null, .null, .null])) :: _) := hD
  refine lv_aload_n hx hb dX6_init_124 rfl (lv_at hl 0 rfl) ?_
  refine lv_bipush hx hb dX6_init_125 (v := nI 24) rfl ?_
  refine bd_fldJ C hin hA cls5 (k := 17) (by decide) va_c_long vf_X6_57 rfl rfl rfl (Nat.le_of_ble_eq_true rfl) (N := 24) rfl (by decide) (by decide) dX6_init_127 dX6_init_129 (Nat.le_of_ble_eq_true rfl) (Nat.le_of_ble_eq_true rfl) hP hD hS (fun q16 H locs hP hD hS => ?_)
  have hP : va_P D vwCl ((h0, .inr (5, [.int 0, .int 0, .ref q1, .ref q2, .ref q3, .ref q4, .ref q5, .ref q6, .ref q7, .ref q8, .ref q9, .ref q10, .ref q11, .ref q12, .ref q13, .ref q14, .ref q15, .ref q16, .null, .null, .null, .null, .null, .null, .null, .null, .null])) :: _) H := hP
  have hD : va_D A ((h0, .inr (5, [.int 0, .int 0, .ref q1, .ref q2, .ref q3, .ref q4, .ref q5, .ref q6, .ref q7, .ref q8, .ref q9, .ref q10, .ref q11, .ref q12, .ref q13, .ref q14, .ref q15, .ref q16, .null, .null, .null, .null, .null, .null, .null, .null, .null])) :: _) := hD
  refine lv_aload_n hx hb dX6_init_132 rfl (lv_at hl 0 rfl) ?_
  refine lv_bipush hx hb dX6_init_133 (v := nI 24) rfl ?_
  refine bd_fldJ C hin hA cls5 (k := 18) (by decide) va_c_long vf_X6_60 rfl rfl rfl (Nat.le_of_ble_eq_true rfl) (N := 24) rfl (by decide) (by decide) dX6_init_135 dX6_init_137 (Nat.le_of_ble_eq_true rfl) (Nat.le_of_ble_eq_true rfl) hP hD hS (fun q17 H locs hP hD hS => ?_)
  have hP : va_P D vwCl ((h0, .inr (5, [.int 0, .int 0, .ref q1, .ref q2, .ref q3, .ref q4, .ref q5, .ref q6, .ref q7, .ref q8, .ref q9, .ref q10, .ref q11, .ref q12, .ref q13, .ref q14, .ref q15, .ref q16, .ref q17, .null, .null, .null, .null, .null, .null, .null, .null])) :: _) H := hP
  have hD : va_D A ((h0, .inr (5, [.int 0, .int 0, .ref q1, .ref q2, .ref q3, .ref q4, .ref q5, .ref q6, .ref q7, .ref q8, .ref q9, .ref q10, .ref q11, .ref q12, .ref q13, .ref q14, .ref q15, .ref q16, .ref q17, .null, .null, .null, .null, .null, .null, .null, .null])) :: _) := hD
  refine lv_aload_n hx hb dX6_init_140 rfl (lv_at hl 0 rfl) ?_
  refine lv_bipush hx hb dX6_init_141 (v := nI 24) rfl ?_
  refine bd_fldJ C hin hA cls5 (k := 19) (by decide) va_c_long vf_X6_63 rfl rfl rfl (Nat.le_of_ble_eq_true rfl) (N := 24) rfl (by decide) (by decide) dX6_init_143 dX6_init_145 (Nat.le_of_ble_eq_true rfl) (Nat.le_of_ble_eq_true rfl) hP hD hS (fun q18 H locs hP hD hS => ?_)
  have hP : va_P D vwCl ((h0, .inr (5, [.int 0, .int 0, .ref q1, .ref q2, .ref q3, .ref q4, .ref q5, .ref q6, .ref q7, .ref q8, .ref q9, .ref q10, .ref q11, .ref q12, .ref q13, .ref q14, .ref q15, .ref q16, .ref q17, .ref q18, .null, .null, .null, .null, .null, .null, .null])) :: _) H := hP
  have hD : va_D A ((h0, .inr (5, [.int 0, .int 0, .ref q1, .ref q2, .ref q3, .ref q4, .ref q5, .ref q6, .ref q7, .ref q8, .ref q9, .ref q10, .ref q11, .ref q12, .ref q13, .ref q14, .ref q15, .ref q16, .ref q17, .ref q18, .null, .null, .null, .null, .null, .null, .null])) :: _) := hD
  refine lv_aload_n hx hb dX6_init_148 rfl (lv_at hl 0 rfl) ?_
  refine lv_iconst hx hb dX6_init_149 (v := nI 3) rfl ?_
  refine bd_fldJ C hin hA cls5 (k := 20) (by decide) va_c_long vf_X6_66 rfl rfl rfl (Nat.le_of_ble_eq_true rfl) (N := 3) rfl (by decide) (by decide) dX6_init_150 dX6_init_152 (Nat.le_of_ble_eq_true rfl) (Nat.le_of_ble_eq_true rfl) hP hD hS (fun q19 H locs hP hD hS => ?_)
  have hP : va_P D vwCl ((h0, .inr (5, [.int 0, .int 0, .ref q1, .ref q2, .ref q3, .ref q4, .ref q5, .ref q6, .ref q7, .ref q8, .ref q9, .ref q10, .ref q11, .ref q12, .ref q13, .ref q14, .ref q15, .ref q16, .ref q17, .ref q18, .ref q19, .null, .null, .null, .null, .null, .null])) :: _) H := hP
  have hD : va_D A ((h0, .inr (5, [.int 0, .int 0, .ref q1, .ref q2, .ref q3, .ref q4, .ref q5, .ref q6, .ref q7, .ref q8, .ref q9, .ref q10, .ref q11, .ref q12, .ref q13, .ref q14, .ref q15, .ref q16, .ref q17, .ref q18, .ref q19, .null, .null, .null, .null, .null, .null])) :: _) := hD
  refine lv_aload_n hx hb dX6_init_155 rfl (lv_at hl 0 rfl) ?_
  refine lv_iconst hx hb dX6_init_156 (v := nI 3) rfl ?_
  refine bd_fldJ C hin hA cls5 (k := 21) (by decide) va_c_long vf_X6_69 rfl rfl rfl (Nat.le_of_ble_eq_true rfl) (N := 3) rfl (by decide) (by decide) dX6_init_157 dX6_init_159 (Nat.le_of_ble_eq_true rfl) (Nat.le_of_ble_eq_true rfl) hP hD hS (fun q20 H locs hP hD hS => ?_)
  have hP : va_P D vwCl ((h0, .inr (5, [.int 0, .int 0, .ref q1, .ref q2, .ref q3, .ref q4, .ref q5, .ref q6, .ref q7, .ref q8, .ref q9, .ref q10, .ref q11, .ref q12, .ref q13, .ref q14, .ref q15, .ref q16, .ref q17, .ref q18, .ref q19, .ref q20, .null, .null, .null, .null, .null])) :: _) H := hP
  have hD : va_D A ((h0, .inr (5, [.int 0, .int 0, .ref q1, .ref q2, .ref q3, .ref q4, .ref q5, .ref q6, .ref q7, .ref q8, .ref q9, .ref q10, .ref q11, .ref q12, .ref q13, .ref q14, .ref q15, .ref q16, .ref q17, .ref q18, .ref q19, .ref q20, .null, .null, .null, .null, .null])) :: _) := hD
  refine lv_aload_n hx hb dX6_init_162 rfl (lv_at hl 0 rfl) ?_
  refine lv_iconst hx hb dX6_init_163 (v := nI 3) rfl ?_
  refine bd_fldJ C hin hA cls5 (k := 22) (by decide) va_c_long vf_X6_72 rfl rfl rfl (Nat.le_of_ble_eq_true rfl) (N := 3) rfl (by decide) (by decide) dX6_init_164 dX6_init_166 (Nat.le_of_ble_eq_true rfl) (Nat.le_of_ble_eq_true rfl) hP hD hS (fun q21 H locs hP hD hS => ?_)
  have hP : va_P D vwCl ((h0, .inr (5, [.int 0, .int 0, .ref q1, .ref q2, .ref q3, .ref q4, .ref q5, .ref q6, .ref q7, .ref q8, .ref q9, .ref q10, .ref q11, .ref q12, .ref q13, .ref q14, .ref q15, .ref q16, .ref q17, .ref q18, .ref q19, .ref q20, .ref q21, .null, .null, .null, .null])) :: _) H := hP
  have hD : va_D A ((h0, .inr (5, [.int 0, .int 0, .ref q1, .ref q2, .ref q3, .ref q4, .ref q5, .ref q6, .ref q7, .ref q8, .ref q9, .ref q10, .ref q11, .ref q12, .ref q13, .ref q14, .ref q15, .ref q16, .ref q17, .ref q18, .ref q19, .ref q20, .ref q21, .null, .null, .null, .null])) :: _) := hD
  refine lv_aload_n hx hb dX6_init_169 rfl (lv_at hl 0 rfl) ?_
  refine lv_bipush hx hb dX6_init_170 (v := nI 9) rfl ?_
  refine bd_fldJ C hin hA cls5 (k := 23) (by decide) va_c_long vf_X6_75 rfl rfl rfl (Nat.le_of_ble_eq_true rfl) (N := 9) rfl (by decide) (by decide) dX6_init_172 dX6_init_174 (Nat.le_of_ble_eq_true rfl) (Nat.le_of_ble_eq_true rfl) hP hD hS (fun q22 H locs hP hD hS => ?_)
  have hP : va_P D vwCl ((h0, .inr (5, [.int 0, .int 0, .ref q1, .ref q2, .ref q3, .ref q4, .ref q5, .ref q6, .ref q7, .ref q8, .ref q9, .ref q10, .ref q11, .ref q12, .ref q13, .ref q14, .ref q15, .ref q16, .ref q17, .ref q18, .ref q19, .ref q20, .ref q21, .ref q22, .null, .null, .null])) :: _) H := hP
  have hD : va_D A ((h0, .inr (5, [.int 0, .int 0, .ref q1, .ref q2, .ref q3, .ref q4, .ref q5, .ref q6, .ref q7, .ref q8, .ref q9, .ref q10, .ref q11, .ref q12, .ref q13, .ref q14, .ref q15, .ref q16, .ref q17, .ref q18, .ref q19, .ref q20, .ref q21, .ref q22, .null, .null, .null])) :: _) := hD
  refine lv_aload_n hx hb dX6_init_177 rfl (lv_at hl 0 rfl) ?_
  refine lv_bipush hx hb dX6_init_178 (v := nI 9) rfl ?_
  refine bd_fldJ C hin hA cls5 (k := 24) (by decide) va_c_long vf_X6_78 rfl rfl rfl (Nat.le_of_ble_eq_true rfl) (N := 9) rfl (by decide) (by decide) dX6_init_180 dX6_init_182 (Nat.le_of_ble_eq_true rfl) (Nat.le_of_ble_eq_true rfl) hP hD hS (fun q23 H locs hP hD hS => ?_)
  have hP : va_P D vwCl ((h0, .inr (5, [.int 0, .int 0, .ref q1, .ref q2, .ref q3, .ref q4, .ref q5, .ref q6, .ref q7, .ref q8, .ref q9, .ref q10, .ref q11, .ref q12, .ref q13, .ref q14, .ref q15, .ref q16, .ref q17, .ref q18, .ref q19, .ref q20, .ref q21, .ref q22, .ref q23, .null, .null])) :: _) H := hP
  have hD : va_D A ((h0, .inr (5, [.int 0, .int 0, .ref q1, .ref q2, .ref q3, .ref q4, .ref q5, .ref q6, .ref q7, .ref q8, .ref q9, .ref q10, .ref q11, .ref q12, .ref q13, .ref q14, .ref q15, .ref q16, .ref q17, .ref q18, .ref q19, .ref q20, .ref q21, .ref q22, .ref q23, .null, .null])) :: _) := hD
  refine lv_aload_n hx hb dX6_init_185 rfl (lv_at hl 0 rfl) ?_
  refine lv_bipush hx hb dX6_init_186 (v := nI 64) rfl ?_
  refine bd_fldJ C hin hA cls5 (k := 25) (by decide) va_c_long vf_X6_81 rfl rfl rfl (Nat.le_of_ble_eq_true rfl) (N := 64) rfl (by decide) (by decide) dX6_init_188 dX6_init_190 (Nat.le_of_ble_eq_true rfl) (Nat.le_of_ble_eq_true rfl) hP hD hS (fun q24 H locs hP hD hS => ?_)
  have hP : va_P D vwCl ((h0, .inr (5, [.int 0, .int 0, .ref q1, .ref q2, .ref q3, .ref q4, .ref q5, .ref q6, .ref q7, .ref q8, .ref q9, .ref q10, .ref q11, .ref q12, .ref q13, .ref q14, .ref q15, .ref q16, .ref q17, .ref q18, .ref q19, .ref q20, .ref q21, .ref q22, .ref q23, .ref q24, .null])) :: _) H := hP
  have hD : va_D A ((h0, .inr (5, [.int 0, .int 0, .ref q1, .ref q2, .ref q3, .ref q4, .ref q5, .ref q6, .ref q7, .ref q8, .ref q9, .ref q10, .ref q11, .ref q12, .ref q13, .ref q14, .ref q15, .ref q16, .ref q17, .ref q18, .ref q19, .ref q20, .ref q21, .ref q22, .ref q23, .ref q24, .null])) :: _) := hD
  refine lv_aload_n hx hb dX6_init_193 rfl (lv_at hl 0 rfl) ?_
  refine lv_bipush hx hb dX6_init_194 (v := nI 64) rfl ?_
  refine bd_fldJ C hin hA cls5 (k := 26) (by decide) va_c_long vf_X6_84 rfl rfl rfl (Nat.le_of_ble_eq_true rfl) (N := 64) rfl (by decide) (by decide) dX6_init_196 dX6_init_198 (Nat.le_of_ble_eq_true rfl) (Nat.le_of_ble_eq_true rfl) hP hD hS (fun q25 H locs hP hD hS => ?_)
  have hP : va_P D vwCl ((h0, .inr (5, [.int 0, .int 0, .ref q1, .ref q2, .ref q3, .ref q4, .ref q5, .ref q6, .ref q7, .ref q8, .ref q9, .ref q10, .ref q11, .ref q12, .ref q13, .ref q14, .ref q15, .ref q16, .ref q17, .ref q18, .ref q19, .ref q20, .ref q21, .ref q22, .ref q23, .ref q24, .ref q25])) :: _) H := hP
  have hD : va_D A ((h0, .inr (5, [.int 0, .int 0, .ref q1, .ref q2, .ref q3, .ref q4, .ref q5, .ref q6, .ref q7, .ref q8, .ref q9, .ref q10, .ref q11, .ref q12, .ref q13, .ref q14, .ref q15, .ref q16, .ref q17, .ref q18, .ref q19, .ref q20, .ref q21, .ref q22, .ref q23, .ref q24, .ref q25])) :: _) := hD
  exact ret _ H locs ls _ _ _ dX6_init_201 ⟨mad [h0, q1, q2, q3, q4, q5, q6, q7, q8, q9, q10, q11, q12, q13, q14, q15, q16, q17, q18, q19, q20, q21, q22, q23, q24, q25], rfl, mi_end c5 h0 q1 q2 q3 q4 q5 q6 q7 q8 q9 q10 q11 q12 q13 q14 q15 q16 q17 q18 q19 q20 q21 q22 q23 q24 q25⟩ hP hD hS (Nat.le_of_ble_eq_true rfl) (Nat.le_of_ble_eq_true rfl)
