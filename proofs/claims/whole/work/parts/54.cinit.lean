/-! Constructor of LimbWorks -/
theorem vk_X5_init : Cond.code yX5_init cX5_init 3 none ∈ ltb := List.mem_filter.mpr ⟨List.mem_append_right _ (List.mem_of_getElem? (i := 13) (by decide +kernel)), by decide +kernel⟩
theorem vn_X5 : Cond.initialized RX5 ∈ ltb := List.mem_filter.mpr ⟨List.mem_append_right _ (List.mem_of_getElem? (i := 1) (by decide +kernel)), by decide +kernel⟩
theorem mi_X5_init : Mi yX5_init yX5_init.cls 0 cX5_init 3 none := ⟨by decide +kernel, vk_X5_init, vn_X5, by decide⟩
theorem vv_X5_init : Cond.instanceMethod yX5_init ∈ ltb := List.mem_filter.mpr ⟨List.mem_append_right _ (List.mem_of_getElem? (i := 12) (by decide +kernel)), by decide +kernel⟩
theorem dX5_init_0 : decode cX5_init 0 = .ok (.aload_n 0, 1) := by decide +kernel
theorem dX5_init_1 : decode cX5_init 1 = .ok (.invokespecial 1, 3) := by decide +kernel
theorem dX5_init_4 : decode cX5_init 4 = .ok (.bipush 8, 2) := by decide +kernel
theorem dX5_init_6 : decode cX5_init 6 = .ok (.istore_n 1, 1) := by decide +kernel
theorem dX5_init_7 : decode cX5_init 7 = .ok (.aload_n 0, 1) := by decide +kernel
theorem dX5_init_8 : decode cX5_init 8 = .ok (.iload_n 1, 1) := by decide +kernel
theorem dX5_init_9 : decode cX5_init 9 = .ok (.anewarray 9, 3) := by decide +kernel
theorem dX5_init_12 : decode cX5_init 12 = .ok (.putfield 11, 3) := by decide +kernel
theorem dX5_init_15 : decode cX5_init 15 = .ok (.iconst 0, 1) := by decide +kernel
theorem dX5_init_16 : decode cX5_init 16 = .ok (.istore_n 2, 1) := by decide +kernel
theorem dX5_init_17 : decode cX5_init 17 = .ok (.iload_n 2, 1) := by decide +kernel
theorem dX5_init_18 : decode cX5_init 18 = .ok (.iload_n 1, 1) := by decide +kernel
theorem dX5_init_19 : decode cX5_init 19 = .ok (.if_icmp .ge 22, 3) := by decide +kernel
theorem dX5_init_22 : decode cX5_init 22 = .ok (.aload_n 0, 1) := by decide +kernel
theorem dX5_init_23 : decode cX5_init 23 = .ok (.getfield 11, 3) := by decide +kernel
theorem dX5_init_26 : decode cX5_init 26 = .ok (.iload_n 2, 1) := by decide +kernel
theorem dX5_init_27 : decode cX5_init 27 = .ok (.new 9, 3) := by decide +kernel
theorem dX5_init_30 : decode cX5_init 30 = .ok (.dup, 1) := by decide +kernel
theorem dX5_init_31 : decode cX5_init 31 = .ok (.invokespecial 15, 3) := by decide +kernel
theorem dX5_init_34 : decode cX5_init 34 = .ok (.aastore, 1) := by decide +kernel
theorem dX5_init_35 : decode cX5_init 35 = .ok (.iinc 2 1, 3) := by decide +kernel
theorem dX5_init_38 : decode cX5_init 38 = .ok (.goto (-21), 3) := by decide +kernel
theorem dX5_init_41 : decode cX5_init 41 = .ok (.aload_n 0, 1) := by decide +kernel
theorem dX5_init_42 : decode cX5_init 42 = .ok (.iconst 0, 1) := by decide +kernel
theorem dX5_init_43 : decode cX5_init 43 = .ok (.putfield 16, 3) := by decide +kernel
theorem dX5_init_46 : decode cX5_init 46 = .ok (.aload_n 0, 1) := by decide +kernel
theorem dX5_init_47 : decode cX5_init 47 = .ok (.new 20, 3) := by decide +kernel
theorem dX5_init_50 : decode cX5_init 50 = .ok (.dup, 1) := by decide +kernel
theorem dX5_init_51 : decode cX5_init 51 = .ok (.lconst 0, 1) := by decide +kernel
theorem dX5_init_52 : decode cX5_init 52 = .ok (.lconst 0, 1) := by decide +kernel
theorem dX5_init_53 : decode cX5_init 53 = .ok (.lconst 0, 1) := by decide +kernel
theorem dX5_init_54 : decode cX5_init 54 = .ok (.invokespecial 22, 3) := by decide +kernel
theorem dX5_init_57 : decode cX5_init 57 = .ok (.putfield 25, 3) := by decide +kernel
theorem dX5_init_60 : decode cX5_init 60 = .ok (.aload_n 0, 1) := by decide +kernel
theorem dX5_init_61 : decode cX5_init 61 = .ok (.new 20, 3) := by decide +kernel
theorem dX5_init_64 : decode cX5_init 64 = .ok (.dup, 1) := by decide +kernel
theorem dX5_init_65 : decode cX5_init 65 = .ok (.lconst 0, 1) := by decide +kernel
theorem dX5_init_66 : decode cX5_init 66 = .ok (.lconst 0, 1) := by decide +kernel
theorem dX5_init_67 : decode cX5_init 67 = .ok (.lconst 0, 1) := by decide +kernel
theorem dX5_init_68 : decode cX5_init 68 = .ok (.invokespecial 22, 3) := by decide +kernel
theorem dX5_init_71 : decode cX5_init 71 = .ok (.putfield 29, 3) := by decide +kernel
theorem dX5_init_74 : decode cX5_init 74 = .ok (.aload_n 0, 1) := by decide +kernel
theorem dX5_init_75 : decode cX5_init 75 = .ok (.iload_n 1, 1) := by decide +kernel
theorem dX5_init_76 : decode cX5_init 76 = .ok (.newarray .long, 2) := by decide +kernel
theorem dX5_init_78 : decode cX5_init 78 = .ok (.putfield 32, 3) := by decide +kernel
theorem dX5_init_81 : decode cX5_init 81 = .ok (.aload_n 0, 1) := by decide +kernel
theorem dX5_init_82 : decode cX5_init 82 = .ok (.iload_n 1, 1) := by decide +kernel
theorem dX5_init_83 : decode cX5_init 83 = .ok (.newarray .long, 2) := by decide +kernel
theorem dX5_init_85 : decode cX5_init 85 = .ok (.putfield 36, 3) := by decide +kernel
theorem dX5_init_88 : decode cX5_init 88 = .ok (.aload_n 0, 1) := by decide +kernel
theorem dX5_init_89 : decode cX5_init 89 = .ok (.iload_n 1, 1) := by decide +kernel
theorem dX5_init_90 : decode cX5_init 90 = .ok (.newarray .long, 2) := by decide +kernel
theorem dX5_init_92 : decode cX5_init 92 = .ok (.putfield 39, 3) := by decide +kernel
theorem dX5_init_95 : decode cX5_init 95 = .ok (.aload_n 0, 1) := by decide +kernel
theorem dX5_init_96 : decode cX5_init 96 = .ok (.iload_n 1, 1) := by decide +kernel
theorem dX5_init_97 : decode cX5_init 97 = .ok (.newarray .long, 2) := by decide +kernel
theorem dX5_init_99 : decode cX5_init 99 = .ok (.putfield 42, 3) := by decide +kernel
theorem dX5_init_102 : decode cX5_init 102 = .ok (.aload_n 0, 1) := by decide +kernel
theorem dX5_init_103 : decode cX5_init 103 = .ok (.iload_n 1, 1) := by decide +kernel
theorem dX5_init_104 : decode cX5_init 104 = .ok (.newarray .long, 2) := by decide +kernel
theorem dX5_init_106 : decode cX5_init 106 = .ok (.putfield 45, 3) := by decide +kernel
theorem dX5_init_109 : decode cX5_init 109 = .ok (.aload_n 0, 1) := by decide +kernel
theorem dX5_init_110 : decode cX5_init 110 = .ok (.iload_n 1, 1) := by decide +kernel
theorem dX5_init_111 : decode cX5_init 111 = .ok (.newarray .long, 2) := by decide +kernel
theorem dX5_init_113 : decode cX5_init 113 = .ok (.putfield 48, 3) := by decide +kernel
theorem dX5_init_116 : decode cX5_init 116 = .ok (.aload_n 0, 1) := by decide +kernel
theorem dX5_init_117 : decode cX5_init 117 = .ok (.iload_n 1, 1) := by decide +kernel
theorem dX5_init_118 : decode cX5_init 118 = .ok (.newarray .long, 2) := by decide +kernel
theorem dX5_init_120 : decode cX5_init 120 = .ok (.putfield 51, 3) := by decide +kernel
theorem dX5_init_123 : decode cX5_init 123 = .ok (.aload_n 0, 1) := by decide +kernel
theorem dX5_init_124 : decode cX5_init 124 = .ok (.iload_n 1, 1) := by decide +kernel
theorem dX5_init_125 : decode cX5_init 125 = .ok (.iload_n 1, 1) := by decide +kernel
theorem dX5_init_126 : decode cX5_init 126 = .ok (.multianewarray 54 2, 4) := by decide +kernel
theorem dX5_init_130 : decode cX5_init 130 = .ok (.putfield 56, 3) := by decide +kernel
theorem dX5_init_133 : decode cX5_init 133 = .ok (.aload_n 0, 1) := by decide +kernel
theorem dX5_init_134 : decode cX5_init 134 = .ok (.iload_n 1, 1) := by decide +kernel
theorem dX5_init_135 : decode cX5_init 135 = .ok (.newarray .long, 2) := by decide +kernel
theorem dX5_init_137 : decode cX5_init 137 = .ok (.putfield 59, 3) := by decide +kernel
theorem dX5_init_140 : decode cX5_init 140 = .ok (.aload_n 0, 1) := by decide +kernel
theorem dX5_init_141 : decode cX5_init 141 = .ok (.iload_n 1, 1) := by decide +kernel
theorem dX5_init_142 : decode cX5_init 142 = .ok (.newarray .long, 2) := by decide +kernel
theorem dX5_init_144 : decode cX5_init 144 = .ok (.putfield 62, 3) := by decide +kernel
theorem dX5_init_147 : decode cX5_init 147 = .ok (.return_, 1) := by decide +kernel
theorem vi_X5 : Cond.instantiable RX5 14 ∈ ltb := List.mem_filter.mpr ⟨List.mem_append_right _ (List.mem_of_getElem? (i := 10) (by decide +kernel)), by decide +kernel⟩
theorem vm_X5_1 : Cond.methodLink RX5 1 objectInit ∈ ltb := List.mem_filter.mpr ⟨List.mem_append_right _ (List.mem_of_getElem? (i := 14) (by decide +kernel)), by decide +kernel⟩
theorem vc_X5_9 : Cond.classLink RX5 9 RX0 ∈ ltb := List.mem_filter.mpr ⟨List.mem_append_right _ (List.mem_of_getElem? (i := 17) (by decide +kernel)), by decide +kernel⟩
theorem vc_X5_20 : Cond.classLink RX5 20 RX4 ∈ ltb := List.mem_filter.mpr ⟨List.mem_append_right _ (List.mem_of_getElem? (i := 148) (by decide +kernel)), by decide +kernel⟩
theorem vm_X5_22 : Cond.methodLink RX5 22 yX4_init ∈ ltb := List.mem_filter.mpr ⟨List.mem_append_right _ (List.mem_of_getElem? (i := 149) (by decide +kernel)), by decide +kernel⟩
theorem vc_X5_54 : Cond.classLink RX5 54 "[[J" ∈ ltb := List.mem_filter.mpr ⟨List.mem_append_right _ (List.mem_of_getElem? (i := 150) (by decide +kernel)), by decide +kernel⟩
theorem vf_X5_11 : Cond.fieldLink RX5 11 (TX5 0).1 (TX5 0).2.1 (TX5 0).2.2.1 ∈ ltb := List.mem_filter.mpr ⟨List.mem_append_right _ (List.mem_of_getElem? (i := 152) (by decide +kernel)), by decide +kernel⟩
theorem vf_X5_16 : Cond.fieldLink RX5 16 (TX5 1).1 (TX5 1).2.1 (TX5 1).2.2.1 ∈ ltb := List.mem_filter.mpr ⟨List.mem_append_right _ (List.mem_of_getElem? (i := 153) (by decide +kernel)), by decide +kernel⟩
theorem vf_X5_25 : Cond.fieldLink RX5 25 (TX5 2).1 (TX5 2).2.1 (TX5 2).2.2.1 ∈ ltb := List.mem_filter.mpr ⟨List.mem_append_right _ (List.mem_of_getElem? (i := 154) (by decide +kernel)), by decide +kernel⟩
theorem vf_X5_29 : Cond.fieldLink RX5 29 (TX5 3).1 (TX5 3).2.1 (TX5 3).2.2.1 ∈ ltb := List.mem_filter.mpr ⟨List.mem_append_right _ (List.mem_of_getElem? (i := 155) (by decide +kernel)), by decide +kernel⟩
theorem vf_X5_32 : Cond.fieldLink RX5 32 (TX5 4).1 (TX5 4).2.1 (TX5 4).2.2.1 ∈ ltb := List.mem_filter.mpr ⟨List.mem_append_right _ (List.mem_of_getElem? (i := 156) (by decide +kernel)), by decide +kernel⟩
theorem vf_X5_36 : Cond.fieldLink RX5 36 (TX5 5).1 (TX5 5).2.1 (TX5 5).2.2.1 ∈ ltb := List.mem_filter.mpr ⟨List.mem_append_right _ (List.mem_of_getElem? (i := 157) (by decide +kernel)), by decide +kernel⟩
theorem vf_X5_39 : Cond.fieldLink RX5 39 (TX5 6).1 (TX5 6).2.1 (TX5 6).2.2.1 ∈ ltb := List.mem_filter.mpr ⟨List.mem_append_right _ (List.mem_of_getElem? (i := 158) (by decide +kernel)), by decide +kernel⟩
theorem vf_X5_42 : Cond.fieldLink RX5 42 (TX5 7).1 (TX5 7).2.1 (TX5 7).2.2.1 ∈ ltb := List.mem_filter.mpr ⟨List.mem_append_right _ (List.mem_of_getElem? (i := 159) (by decide +kernel)), by decide +kernel⟩
theorem vf_X5_45 : Cond.fieldLink RX5 45 (TX5 8).1 (TX5 8).2.1 (TX5 8).2.2.1 ∈ ltb := List.mem_filter.mpr ⟨List.mem_append_right _ (List.mem_of_getElem? (i := 160) (by decide +kernel)), by decide +kernel⟩
theorem vf_X5_48 : Cond.fieldLink RX5 48 (TX5 9).1 (TX5 9).2.1 (TX5 9).2.2.1 ∈ ltb := List.mem_filter.mpr ⟨List.mem_append_right _ (List.mem_of_getElem? (i := 161) (by decide +kernel)), by decide +kernel⟩
theorem vf_X5_51 : Cond.fieldLink RX5 51 (TX5 10).1 (TX5 10).2.1 (TX5 10).2.2.1 ∈ ltb := List.mem_filter.mpr ⟨List.mem_append_right _ (List.mem_of_getElem? (i := 162) (by decide +kernel)), by decide +kernel⟩
theorem vf_X5_56 : Cond.fieldLink RX5 56 (TX5 11).1 (TX5 11).2.1 (TX5 11).2.2.1 ∈ ltb := List.mem_filter.mpr ⟨List.mem_append_right _ (List.mem_of_getElem? (i := 163) (by decide +kernel)), by decide +kernel⟩
theorem vf_X5_59 : Cond.fieldLink RX5 59 (TX5 12).1 (TX5 12).2.1 (TX5 12).2.2.1 ∈ ltb := List.mem_filter.mpr ⟨List.mem_append_right _ (List.mem_of_getElem? (i := 164) (by decide +kernel)), by decide +kernel⟩
theorem vf_X5_62 : Cond.fieldLink RX5 62 (TX5 13).1 (TX5 13).2.1 (TX5 13).2.2.1 ∈ ltb := List.mem_filter.mpr ⟨List.mem_append_right _ (List.mem_of_getElem? (i := 165) (by decide +kernel)), by decide +kernel⟩
def cfs0 : List Value := [.null, .int 0, .null, .null, .null, .null, .null, .null, .null, .null, .null, .null, .null, .null]
/-- the class's places, as they are made -/
def ckb : List (Nat × Nat) := (List.range 8).flatMap (fun j => bks.map (fun kd => (kd, j)))
def cks : List (Nat × Nat) := (0, 0) :: (((((((((((((([(1, 0)] ++ ckb) ++ [(69, 0)]) ++ [(70, 0)]) ++ [(10, 0)]) ++ [(11, 0)]) ++ [(12, 0)]) ++ [(13, 0)]) ++ [(14, 0)]) ++ [(15, 0)]) ++ [(16, 0)]) ++ [(5, 0)]) ++ (List.range 8).map (fun j => (19, j))) ++ [(17, 0)]) ++ [(18, 0)])
def shC (c5 : C5) (h0 : Nat) (ws : va_W) : Prop := ∃ ad : Nat → Nat → Nat, ad 0 0 = h0 ∧ ws = cks.map (fun q => (ad q.1 q.2, cellOf (G0 c5 ad) s0 q.1 q.2))
def Bk (c5 : C5) (ads : Nat → Nat → Nat) (k : Nat) : va_W := (List.range k).flatMap (fun j => bwl c5 (ads j))
def arB (c5 : C5) (ads : Nat → Nat → Nat) (k : Nat) : va_E := .inl (c5.2.2.2.1, 8, .inr (.inr (.inr (.inr (fun i => if i < k then some (ads i 2) else none)))))
theorem Bk_s (c5 : C5) (ads : Nat → Nat → Nat) (k : Nat) (ad : Nat → Nat) : Bk c5 (fun j => if j = k then ad else ads j) (k + 1) = Bk c5 ads k ++ bwl c5 ad := by
  unfold Bk
  rw [List.range_succ, List.flatMap_append]
  have e1 : (List.range k).flatMap (fun j => bwl c5 (if j = k then ad else ads j)) = (List.range k).flatMap (fun j => bwl c5 (ads j)) := by
    rw [List.flatMap_def, List.flatMap_def]
    refine congrArg List.flatten (List.map_congr_left fun j hj => ?_)
    have := List.mem_range.mp hj
    rw [if_neg (by omega)]
  rw [e1]
  simp
theorem arB_s (c5 : C5) (ads : Nat → Nat → Nat) (k : Nat) (ad : Nat → Nat) : (.inl (c5.2.2.2.1, 8, .inr (.inr (.inr (.inr (va_up (fun i => if i < k then some (ads i 2) else none) k (some (ad 2)))))))  : va_E) = arB c5 (fun j => if j = k then ad else ads j) (k + 1) := by
  unfold arB
  refine congrArg (fun f => (.inl (c5.2.2.2.1, 8, .inr (.inr (.inr (.inr f)))) : va_E)) (funext fun i => ?_)
  unfold va_up
  by_cases h : i = k
  · subst h
    rw [if_pos rfl, if_pos (by omega)]
    dsimp only
    rw [if_pos rfl]
  · rw [if_neg h]
    dsimp only
    by_cases h2 : i < k
    · rw [if_pos h2, if_pos (by omega), if_neg h]
    · rw [if_neg h2, if_neg (by omega)]
section BD
variable {p : Program} {l : Launch} {e : Env} {R : Room} {s : State} {m : MethodId} {args : Array Value} {below : List Frame} {meth : Method} {c : Code} {Q : State → Prop} {H H0 : Heap} {locs : List Loc} {cells slots pc : Nat} {ls : Array Slot} {rest : List Value} {D : va_G} {c5 : C5} {A : Nat → Prop} {ws : va_W} {own : String} {cc : ByteArray} {nL h0 : Nat}
theorem ra_B (C : CB D c5 own cc nL p s m args c) (cA : ClassId) (h : va_RA s cA (.object "LimbWorks$Body")) : cA = c5.2.2.2.1 := by
  obtain ⟨-, -, -, -, -, h4⟩ := h
  obtain ⟨-, -, -, -, -, g4⟩ := (C.2.2.2.2.2.1.2 3 (c5.2.2.2.1, .object "LimbWorks$Body") rfl).2
  exact Option.some.inj (h4.symm.trans g4)
theorem ra_JJ (C : CB D c5 own cc nL p s m args c) (cA : ClassId) (h : va_RA s cA (.array .long)) : cA = c5.2.2.2.2 := Option.some.inj ((show s.vm.findClass _ = some cA from h).symm.trans (C.2.2.2.2.2.1.2 4 (c5.2.2.2.2, .array .long) rfl).2)
/-- the entries -/
theorem bd_mna (C : CB D c5 RX5 cX5_init nL p s m args c) (hA : ∀ x, H0.size ≤ x → A x) (hcells : cells + (1 + 8) ≤ R.cells) (hslots : slots + (8 + 8 * 8) ≤ R.slots) (hP : va_P D vwCl ws H) (hD : va_D A ws) (hS : va_S A H0 H locs) (hd : decode cX5_init pc = .ok (.multianewarray 54 2, 4))
    (kk : ∀ (q : Nat) (r : Nat → Nat) (H1 : Heap), va_P D vwCl ((ws ++ [(q, .inl (c5.2.2.2.2, 8, .inr (.inr (.inr (.inr (fun i => if i < 8 then some (r i) else none))))))]) ++ (List.range 8).map (fun j => (r j, .inl (c5.1, 8, .inr (.inl (fun _ => em 0)))))) H1 → va_D A ((ws ++ [(q, .inl (c5.2.2.2.2, 8, .inr (.inr (.inr (.inr (fun i => if i < 8 then some (r i) else none))))))]) ++ (List.range 8).map (fun j => (r j, .inl (c5.1, 8, .inr (.inl (fun _ => em 0)))))) → va_S A H0 H1 locs → W p l e R s m args below meth c H1 locs (cells + 9) (slots + 72) Q (F0 m (pc + 4) ls (.ref q :: rest))) :
    W p l e R s m args below meth c H locs cells slots Q (F0 m pc ls (.int (nI 8) :: .int (nI 8) :: rest)) := by
  have C' := C
  obtain ⟨hx, hb, hml, hown, hts, hK, hN, hXA⟩ := C'
  have hcl : (Cond.classLink RX5 54 ("[" ++ (FieldType.array .long).toString)).before args s = true := by
    rw [show ("[" ++ (FieldType.array .long).toString : String) = "[[J" by decide +kernel]
    exact hts _ vc_X5_54
  refine mn_row hx hb hown hcl hXA.2 (hts _ va_c_long) (cy := c5.1) (hK.2 0 (c5.1, .long) rfl).2 hP hD hS hA (N := 8) (K := 8) (z := (8, .inr (.inl (fun _ => em 0)))) (nI_pos (by decide)) (nI_pos (by decide)) (nI_clamp (by decide)) (nI_clamp (by decide)) (by decide) (by decide) (by decide) (by decide) (by decide) hcells hslots (fun c => ?_) hd (fun q r cA H1 h1 hP1 hD1 hS1 => ?_)
  · rw [em_0]
    rfl
  · have hcA : cA = c5.2.2.2.2 := ra_JJ C cA h1
    subst hcA
    exact kk q r H1 hP1 hD1 hS1
set_option maxRecDepth 100000 in
set_option maxHeartbeats 16000000 in
/-- the bodies -/
theorem ci_loop (C : CB D c5 RX5 cX5_init 3 p s m args c) (hin : meth.name = "<init>") (hA : ∀ x, H0.size ≤ x → A x) {q1 : Nat}
    (nx : ∀ (ads : Nat → Nat → Nat) (H : Heap) (locs : List Loc) (ls : Array Slot), va_P D vwCl ((h0, .inr (4, cfs0.set 0 (.ref q1))) :: ([(q1, arB c5 ads 8)] ++ Bk c5 ads 8)) H → va_D A ((h0, .inr (4, cfs0.set 0 (.ref q1))) :: ([(q1, arB c5 ads 8)] ++ Bk c5 ads 8)) → va_S A H0 H locs → lv_has ls 3 [(2, .int (nI 8)), (1, .int (nI 8)), (0, .ref h0)] → W p l e (rmb 4 197 814) s m args below meth c H locs (1 + 22 * 8) (8 + 82 * 8) Q (F0 m 41 ls [])) :
    ∀ (n k : Nat) (ads : Nat → Nat → Nat) (H : Heap) (locs : List Loc) (ls : Array Slot), k + n = 8 → va_P D vwCl ((h0, .inr (4, cfs0.set 0 (.ref q1))) :: ([(q1, arB c5 ads k)] ++ Bk c5 ads k)) H → va_D A ((h0, .inr (4, cfs0.set 0 (.ref q1))) :: ([(q1, arB c5 ads k)] ++ Bk c5 ads k)) → va_S A H0 H locs → lv_has ls 3 [(2, .int (nI k)), (1, .int (nI 8)), (0, .ref h0)] → W p l e (rmb 4 197 814) s m args below meth c H locs (1 + 22 * k) (8 + 82 * k) Q (F0 m 17 ls []) := by
  have hx := C.1
  have hb := C.2.1
  intro n
  induction n with
  | zero =>
    intro k ads H locs ls hk hP hD hS hl
    have e9 : k = 8 := by omega
    subst e9
    refine lv_iload_n hx hb dX5_init_17 rfl (lv_at hl 0 rfl) ?_
    refine lv_iload_n hx hb dX5_init_18 rfl (lv_at hl 1 rfl) ?_
    refine lv_icmp_ge hx hb dX5_init_19 rfl (fun h => ?_) (fun h => absurd ((nI_leI (by decide) (by decide)).mpr (by decide)) h)
    exact nx ads H locs ls hP hD hS hl
  | succ n ih =>
    intro k ads H locs ls hk hP hD hS hl
    refine lv_iload_n hx hb dX5_init_17 rfl (lv_at hl 0 rfl) ?_
    refine lv_iload_n hx hb dX5_init_18 rfl (lv_at hl 1 rfl) ?_
    refine lv_icmp_ge hx hb dX5_init_19 rfl (fun h => absurd ((nI_leI (by omega) (by omega)).mp h) (by omega)) (fun h => ?_)
    refine lv_aload_n hx hb dX5_init_22 rfl (lv_at hl 2 rfl) ?_
    refine va_get hx hb C.2.2.2.2.1 cls4.2.1 C.2.2.2.1 C.2.2.2.2.2.1 hP 0 rfl cls4.1 0 (by decide) (C.2.2.2.2.1 _ vf_X5_11) (fun _ h9 => h9) (v := .ref q1) rfl dX5_init_23 ?_
    refine lv_iload_n hx hb dX5_init_26 rfl (lv_at hl 0 rfl) ?_
    refine bd_new C cls0 vc_X5_9 vi_X0 vn_X0 (fs0 := bfs0) (by decide +kernel) hP hD hS hA (by show 1 + 22 * k + 1 ≤ 197; omega) (by show 8 + 82 * k + 18 ≤ 814; omega) dX5_init_27 (fun q H1 hP1 hD1 hS1 => ?_)
    refine lv_dup hx hb dX5_init_30 rfl ?_
    refine bd_initN (rest := [.ref q, .int (nI k), .ref q1]) C (cn_X0 l) mi_X0_init vv_X0_init C.2.2.2.2.2.2.1.1 rfl rfl ⟨Nat.le_of_ble_eq_true rfl, Nat.le_of_ble_eq_true rfl⟩ (Nat.le_of_ble_eq_true rfl) hP1 hD1 hS1 hA hl.1 (by show 1 + 22 * k + 1 + 21 ≤ 197; omega) (by show 8 + 82 * k + 18 + 64 ≤ 814; omega) rfl dX5_init_31 (fun ws' H2 locs2 hSh hP2 hD2 hS2 => ?_)
    obtain ⟨ad, rfl, rfl⟩ := hSh
    obtain ⟨qk, hqk⟩ : ∃ qk : Nat, (((h0, .inr (4, cfs0.set 0 (.ref q1))) :: ([(q1, arB c5 ads k)] ++ Bk c5 ads k)) ++ bwl c5 ad)[qk]? = some (ad 2, .inr (0, (flds 2 0 s0).map (conc (G0 c5 (fun a _ => ad a))))) := List.getElem?_of_mem (List.mem_append_right _ List.mem_cons_self)
    refine va_astq hx hb C.2.2.2.2.2.1 hP2 hD2 hS2 1 3 qk 0 rfl rfl hqk cls0.1 (vp_in_nI (by omega) (by decide)) dX5_init_34 (fun H3 locs3 hP3 hD3 hS3 => ?_)
    refine lv_iinc hx hb dX5_init_35 hl (k := 0) rfl (v := nI (k + 1)) (nI_add k 1) (by decide) rfl (fun ls hl => ?_)
    refine lv_goto hx hb dX5_init_38 rfl ?_
    refine W.widen (k := 1 + 22 * (k + 1)) (n := 8 + 82 * (k + 1)) (by omega) (by omega) ?_
    have ec : (nI k).toNatClampNeg = k := nI_clamp (by omega)
    rw [ec] at hP3 hD3
    have ew : ((((h0, .inr (4, cfs0.set 0 (.ref q1))) :: ([(q1, arB c5 ads k)] ++ Bk c5 ads k)) ++ bwl c5 ad).set 1 (q1, .inl (c5.2.2.2.1, 8, .inr (.inr (.inr (.inr (va_up (fun i => if i < k then some (ads i 2) else none) k (some (ad 2)))))))) : va_W) = (h0, .inr (4, cfs0.set 0 (.ref q1))) :: ([(q1, arB c5 (fun j => if j = k then ad else ads j) (k + 1))] ++ Bk c5 (fun j => if j = k then ad else ads j) (k + 1)) := by
      rw [Bk_s, ← arB_s]
      rfl
    rw [ew] at hP3 hD3
    exact ih (k + 1) _ H3 locs3 ls (by omega) hP3 hD3 hS3 hl
end BD
/-- the class's addresses -/
def cad (L : List Nat) (r : Nat → Nat) (ads : Nat → Nat → Nat) (a j : Nat) : Nat := if a = 19 then r j else if a < 2 then L.getD a 0 else if a = 5 then L.getD 2 0 else if 10 ≤ a ∧ a ≤ 18 then L.getD (a - 7) 0 else if 69 ≤ a then L.getD (a - 57) 0 else ads j a
theorem bks_n : ∀ kd ∈ bks, (2 ≤ kd ∧ kd ≤ 4) ∨ (50 ≤ kd ∧ kd ≤ 68) := by decide
theorem cad_b (L : List Nat) (r : Nat → Nat) (ads : Nat → Nat → Nat) (j : Nat) {kd : Nat} (h : kd ∈ bks) : cad L r ads kd j = ads j kd := by
  have := bks_n kd h
  unfold cad
  rw [if_neg (by omega), if_neg (by omega), if_neg (by omega), if_neg (by omega), if_neg (by omega)]
theorem bk_cell (c5 : C5) (AD : Nat → Nat → Nat) (ad : Nat → Nat) (j : Nat) (h : ∀ kd ∈ bks, AD kd j = ad kd) {kd : Nat} (hk : kd ∈ bks) : cellOf (G0 c5 AD) s0 kd j = cellOf (G0 c5 (fun a _ => ad a)) s0 kd 0 := by
  by_cases h50 : 50 ≤ kd
  · rw [cell_v _ _ _ h50, cell_v _ _ _ h50]
    rfl
  · have := bks_n kd hk
    rcases (show kd = 2 ∨ kd = 3 ∨ kd = 4 by omega) with rfl | rfl | rfl
    · rw [cell_o _ _ _ (by decide) (by decide), cell_o _ _ _ (by decide) (by decide)]
      show (.inr (0, [.int 0, .int 0, .ref (AD 50 j), .long (em 0), .long (em 0), .ref (AD 51 j), .ref (AD 3 j), .ref (AD 4 j), .ref (AD 59 j), .ref (AD 60 j), .ref (AD 61 j), .ref (AD 62 j), .ref (AD 63 j), .ref (AD 64 j), .ref (AD 65 j), .ref (AD 66 j), .ref (AD 67 j), .ref (AD 68 j)]) : va_E) = _
      rw [h 50 (by decide), h 51 (by decide), h 3 (by decide), h 4 (by decide), h 59 (by decide), h 60 (by decide), h 61 (by decide), h 62 (by decide), h 63 (by decide), h 64 (by decide), h 65 (by decide), h 66 (by decide), h 67 (by decide), h 68 (by decide)]
      rfl
    · rw [cell_o _ _ _ (by decide) (by decide), cell_o _ _ _ (by decide) (by decide)]
      show (.inr (2, [.ref (AD 52 j), .ref (AD 53 j), .ref (AD 54 j)]) : va_E) = _
      rw [h 52 (by decide), h 53 (by decide), h 54 (by decide)]
      rfl
    · rw [cell_o _ _ _ (by decide) (by decide), cell_o _ _ _ (by decide) (by decide)]
      show (.inr (1, [.ref (AD 55 j), .ref (AD 56 j), .ref (AD 57 j), .ref (AD 58 j)]) : va_E) = _
      rw [h 55 (by decide), h 56 (by decide), h 57 (by decide), h 58 (by decide)]
      rfl
set_option maxRecDepth 100000 in
set_option maxHeartbeats 16000000 in
theorem ci_end (c5 : C5) (h0 q1 q69 q70 q10 q11 q12 q13 q14 q15 q16 q5 q17 q18 : Nat) (r : Nat → Nat) (ads : Nat → Nat → Nat) :
    ((h0, .inr (4, [.ref q1, .int 0, .ref q69, .ref q70, .ref q10, .ref q11, .ref q12, .ref q13, .ref q14, .ref q15, .ref q16, .ref q5, .ref q17, .ref q18])) :: (((((((((((((([(q1, arB c5 ads 8)] ++ Bk c5 ads 8) ++ [(q69, .inr (3, vfs (0, 0, 0)))]) ++ [(q70, .inr (3, vfs (0, 0, 0)))]) ++ [(q10, .inl (c5.1, 8, .inr (.inl (fun _ => em 0))))]) ++ [(q11, .inl (c5.1, 8, .inr (.inl (fun _ => em 0))))]) ++ [(q12, .inl (c5.1, 8, .inr (.inl (fun _ => em 0))))]) ++ [(q13, .inl (c5.1, 8, .inr (.inl (fun _ => em 0))))]) ++ [(q14, .inl (c5.1, 8, .inr (.inl (fun _ => em 0))))]) ++ [(q15, .inl (c5.1, 8, .inr (.inl (fun _ => em 0))))]) ++ [(q16, .inl (c5.1, 8, .inr (.inl (fun _ => em 0))))]) ++ [(q5, .inl (c5.2.2.2.2, 8, .inr (.inr (.inr (.inr (fun i => if i < 8 then some (r i) else none))))))]) ++ (List.range 8).map (fun j => (r j, .inl (c5.1, 8, .inr (.inl (fun _ => em 0)))))) ++ [(q17, .inl (c5.1, 8, .inr (.inl (fun _ => em 0))))]) ++ [(q18, .inl (c5.1, 8, .inr (.inl (fun _ => em 0))))]) : va_W)
    = cks.map (fun q => ((cad [h0, q1, q5, q10, q11, q12, q13, q14, q15, q16, q17, q18, q69, q70] r ads) q.1 q.2, cellOf (G0 c5 (cad [h0, q1, q5, q10, q11, q12, q13, q14, q15, q16, q17, q18, q69, q70] r ads)) s0 q.1 q.2)) := by
  unfold cks
  simp only [List.map_cons, List.map_append, List.map_nil]
  have eB : ckb.map (fun q => ((cad [h0, q1, q5, q10, q11, q12, q13, q14, q15, q16, q17, q18, q69, q70] r ads) q.1 q.2, cellOf (G0 c5 (cad [h0, q1, q5, q10, q11, q12, q13, q14, q15, q16, q17, q18, q69, q70] r ads)) s0 q.1 q.2)) = Bk c5 ads 8 := by
    unfold ckb Bk
    rw [List.map_flatMap]
    refine congrArg (fun f => (List.range 8).flatMap f) (funext fun j => ?_)
    unfold bwl
    rw [List.map_map]
    refine List.map_congr_left (fun kd hk => ?_)
    show (cad [h0, q1, q5, q10, q11, q12, q13, q14, q15, q16, q17, q18, q69, q70] r ads kd j, cellOf (G0 c5 (cad [h0, q1, q5, q10, q11, q12, q13, q14, q15, q16, q17, q18, q69, q70] r ads)) s0 kd j) = (ads j kd, cellOf (G0 c5 (fun a _ => ads j a)) s0 kd 0)
    rw [cad_b _ _ _ _ hk, bk_cell c5 _ (ads j) j (fun x h => cad_b _ _ _ _ h) hk]
  rw [eB, List.map_map]
  rfl


set_option maxRecDepth 100000 in
set_option maxHeartbeats 16000000 in
theorem cn_X5 (l : Launch) : Cn l yX5_init cX5_init 3 (rmb 4 197 814) 4 cfs0 [] 197 814 shC := by
  refine Cn.of (by decide) (fun _ => Nat.le_of_ble_eq_true rfl) ?_
  intro D c5 h0 p e s m below meth c A Q C hin hA ls hl hP hD hS ret
  have hl : lv_has ls 3 [(0, .ref h0)] := hl
  have hx := C.1
  have hb := C.2.1
  refine bd_obj C (lv_at hl 0 rfl) hl.1 vm_X5_1 dX5_init_0 dX5_init_1 (Nat.le_of_ble_eq_true rfl) (Nat.le_of_ble_eq_true rfl) ?_
  refine lv_bipush hx hb dX5_init_4 (v := nI 8) rfl ?_
  refine lv_istore_n hx hb dX5_init_6 rfl hl (by decide) rfl (fun ls hl => ?_)
  have hl : lv_has ls 3 [(1, .int (nI 8)), (0, .ref h0)] := hl
  refine lv_aload_n hx hb dX5_init_7 rfl (lv_at hl 1 rfl) ?_
  refine lv_iload_n hx hb dX5_init_8 rfl (lv_at hl 0 rfl) ?_
  refine va_newq hx hb C.2.2.2.1 (C.2.2.2.2.1 _ vc_X5_9) C.2.2.2.2.2.2.2.1 C.2.2.2.2.2.1 hP hD hS hA (n := nI 8) (N' := 8) (nI_pos (by decide)) (nI_clamp (by decide)) (by decide) (Nat.le_of_ble_eq_true rfl) (Nat.le_of_ble_eq_true rfl) dX5_init_9 (fun q1 cA H hK1 hP hD hS => ?_)
  have hcA : cA = c5.2.2.2.1 := ra_B C cA (hK1.2 5 _ rfl).2
  subst hcA
  refine bd_putF C hin cls4 (k := 0) (by decide) vf_X5_11 rfl rfl (v := .ref q1) rfl rfl (Nat.le_of_ble_eq_true rfl) hP hD hS dX5_init_12 (fun H locs hP hD hS => ?_)
  refine lv_iconst hx hb dX5_init_15 (v := nI 0) rfl ?_
  refine lv_istore_n hx hb dX5_init_16 rfl hl (by decide) rfl (fun ls hl => ?_)
  refine ci_loop C hin hA (fun ads H locs ls hP hD hS hl => ?_) 8 0 (fun _ _ => 0) H locs ls rfl hP hD hS hl
  refine lv_aload_n hx hb dX5_init_41 rfl (lv_at hl 2 rfl) ?_
  refine lv_iconst hx hb dX5_init_42 (v := 0) rfl ?_
  refine bd_put C cls4 (k := 1) (by decide) vf_X5_16 rfl rfl rfl (Nat.le_of_ble_eq_true rfl) hP hD hS dX5_init_43 (fun H locs hP hD hS => ?_)
  have hP : va_P D vwCl ((h0, .inr (4, [.ref q1, .int 0, .null, .null, .null, .null, .null, .null, .null, .null, .null, .null, .null, .null])) :: _) H := hP
  have hD : va_D A ((h0, .inr (4, [.ref q1, .int 0, .null, .null, .null, .null, .null, .null, .null, .null, .null, .null, .null, .null])) :: _) := hD
  refine bd_fldV C hin hA (lv_at hl 2 rfl) hl.1 cls4 (k := 2) (by decide) vc_X5_20 vm_X5_22 vf_X5_25 rfl rfl rfl (Nat.le_of_ble_eq_true rfl) (v := (0, 0, 0)) dX5_init_46 dX5_init_47 dX5_init_50 dX5_init_51 dX5_init_52 dX5_init_53 dX5_init_54 dX5_init_57 (Nat.le_of_ble_eq_true rfl) (Nat.le_of_ble_eq_true rfl) (Nat.le_of_ble_eq_true rfl) (Nat.le_of_ble_eq_true rfl) hP hD hS rfl (fun q69 H locs hP hD hS => ?_)
  have hP : va_P D vwCl ((h0, .inr (4, [.ref q1, .int 0, .ref q69, .null, .null, .null, .null, .null, .null, .null, .null, .null, .null, .null])) :: _) H := hP
  have hD : va_D A ((h0, .inr (4, [.ref q1, .int 0, .ref q69, .null, .null, .null, .null, .null, .null, .null, .null, .null, .null, .null])) :: _) := hD
  refine bd_fldV C hin hA (lv_at hl 2 rfl) hl.1 cls4 (k := 3) (by decide) vc_X5_20 vm_X5_22 vf_X5_29 rfl rfl rfl (Nat.le_of_ble_eq_true rfl) (v := (0, 0, 0)) dX5_init_60 dX5_init_61 dX5_init_64 dX5_init_65 dX5_init_66 dX5_init_67 dX5_init_68 dX5_init_71 (Nat.le_of_ble_eq_true rfl) (Nat.le_of_ble_eq_true rfl) (Nat.le_of_ble_eq_true rfl) (Nat.le_of_ble_eq_true rfl) hP hD hS rfl (fun q70 H locs hP hD hS => ?_)
  have hP : va_P D vwCl ((h0, .inr (4, [.ref q1, .int 0, .ref q69, .ref q70, .null, .null, .null, .null, .null, .null, .null, .null, .null, .null])) :: _) H := hP
  have hD : va_D A ((h0, .inr (4, [.ref q1, .int 0, .ref q69, .ref q70, .null, .null, .null, .null, .null, .null, .null, .null, .null, .null])) :: _) := hD
  refine lv_aload_n hx hb dX5_init_74 rfl (lv_at hl 2 rfl) ?_
  refine lv_iload_n hx hb dX5_init_75 rfl (lv_at hl 1 rfl) ?_
  refine bd_fldJ C hin hA cls4 (k := 4) (by decide) va_c_long vf_X5_32 rfl rfl rfl (Nat.le_of_ble_eq_true rfl) (N := 8) rfl (by decide) (by decide) dX5_init_76 dX5_init_78 (Nat.le_of_ble_eq_true rfl) (Nat.le_of_ble_eq_true rfl) hP hD hS (fun q10 H locs hP hD hS => ?_)
  have hP : va_P D vwCl ((h0, .inr (4, [.ref q1, .int 0, .ref q69, .ref q70, .ref q10, .null, .null, .null, .null, .null, .null, .null, .null, .null])) :: _) H := hP
  have hD : va_D A ((h0, .inr (4, [.ref q1, .int 0, .ref q69, .ref q70, .ref q10, .null, .null, .null, .null, .null, .null, .null, .null, .null])) :: _) := hD
  refine lv_aload_n hx hb dX5_init_81 rfl (lv_at hl 2 rfl) ?_
  refine lv_iload_n hx hb dX5_init_82 rfl (lv_at hl 1 rfl) ?_
  refine bd_fldJ C hin hA cls4 (k := 5) (by decide) va_c_long vf_X5_36 rfl rfl rfl (Nat.le_of_ble_eq_true rfl) (N := 8) rfl (by decide) (by decide) dX5_init_83 dX5_init_85 (Nat.le_of_ble_eq_true rfl) (Nat.le_of_ble_eq_true rfl) hP hD hS (fun q11 H locs hP hD hS => ?_)
  have hP : va_P D vwCl ((h0, .inr (4, [.ref q1, .int 0, .ref q69, .ref q70, .ref q10, .ref q11, .null, .null, .null, .null, .null, .null, .null, .null])) :: _) H := hP
  have hD : va_D A ((h0, .inr (4, [.ref q1, .int 0, .ref q69, .ref q70, .ref q10, .ref q11, .null, .null, .null, .null, .null, .null, .null, .null])) :: _) := hD
  refine lv_aload_n hx hb dX5_init_88 rfl (lv_at hl 2 rfl) ?_
  refine lv_iload_n hx hb dX5_init_89 rfl (lv_at hl 1 rfl) ?_
  refine bd_fldJ C hin hA cls4 (k := 6) (by decide) va_c_long vf_X5_39 rfl rfl rfl (Nat.le_of_ble_eq_true rfl) (N := 8) rfl (by decide) (by decide) dX5_init_90 dX5_init_92 (Nat.le_of_ble_eq_true rfl) (Nat.le_of_ble_eq_true rfl) hP hD hS (fun q12 H locs hP hD hS => ?_)
  have hP : va_P D vwCl ((h0, .inr (4, [.ref q1, .int 0, .ref q69, .ref q70, .ref q10, .ref q11, .ref q12, .null, .null, .null, .null, .null, .null, .null])) :: _) H := hP
  have hD : va_D A ((h0, .inr (4, [.ref q1, .int 0, .ref q69, .ref q70, .ref q10, .ref q11, .ref q12, .null, .null, .null, .null, .null, .null, .null])) :: _) := hD
  refine lv_aload_n hx hb dX5_init_95 rfl (lv_at hl 2 rfl) ?_
  refine lv_iload_n hx hb dX5_init_96 rfl (lv_at hl 1 rfl) ?_
  refine bd_fldJ C hin hA cls4 (k := 7) (by decide) va_c_long vf_X5_42 rfl rfl rfl (Nat.le_of_ble_eq_true rfl) (N := 8) rfl (by decide) (by decide) dX5_init_97 dX5_init_99 (Nat.le_of_ble_eq_true rfl) (Nat.le_of_ble_eq_true rfl) hP hD hS (fun q13 H locs hP hD hS => ?_)
  have hP : va_P D vwCl ((h0, .inr (4, [.ref q1, .int 0, .ref q69, .ref q70, .ref q10, .ref q11, .ref q12, .ref q13, .null, .null, .null, .null, .null, .null])) :: _) H := hP
  have hD : va_D A ((h0, .inr (4, [.ref q1, .int 0, .ref q69, .ref q70, .ref q10, .ref q11, .ref q12, .ref q13, .null, .null, .null, .null, .null, .null])) :: _) := hD
  refine lv_aload_n hx hb dX5_init_102 rfl (lv_at hl 2 rfl) ?_
  refine lv_iload_n hx hb dX5_init_103 rfl (lv_at hl 1 rfl) ?_
  refine bd_fldJ C hin hA cls4 (k := 8) (by decide) va_c_long vf_X5_45 rfl rfl rfl (Nat.le_of_ble_eq_true rfl) (N := 8) rfl (by decide) (by decide) dX5_init_104 dX5_init_106 (Nat.le_of_ble_eq_true rfl) (Nat.le_of_ble_eq_true rfl) hP hD hS (fun q14 H locs hP hD hS => ?_)
  have hP : va_P D vwCl ((h0, .inr (4, [.ref q1, .int 0, .ref q69, .ref q70, .ref q10, .ref q11, .ref q12, .ref q13, .ref q14, .null, .null, .null, .null, .null])) :: _) H := hP
  have hD : va_D A ((h0, .inr (4, [.ref q1, .int 0, .ref q69, .ref q70, .ref q10, .ref q11, .ref q12, .ref q13, .ref q14, .null, .null, .null, .null, .null])) :: _) := hD
  refine lv_aload_n hx hb dX5_init_109 rfl (lv_at hl 2 rfl) ?_
  refine lv_iload_n hx hb dX5_init_110 rfl (lv_at hl 1 rfl) ?_
  refine bd_fldJ C hin hA cls4 (k := 9) (by decide) va_c_long vf_X5_48 rfl rfl rfl (Nat.le_of_ble_eq_true rfl) (N := 8) rfl (by decide) (by decide) dX5_init_111 dX5_init_113 (Nat.le_of_ble_eq_true rfl) (Nat.le_of_ble_eq_true rfl) hP hD hS (fun q15 H locs hP hD hS => ?_)
  have hP : va_P D vwCl ((h0, .inr (4, [.ref q1, .int 0, .ref q69, .ref q70, .ref q10, .ref q11, .ref q12, .ref q13, .ref q14, .ref q15, .null, .null, .null, .null])) :: _) H := hP
  have hD : va_D A ((h0, .inr (4, [.ref q1, .int 0, .ref q69, .ref q70, .ref q10, .ref q11, .ref q12, .ref q13, .ref q14, .ref q15, .null, .null, .null, .null])) :: _) := hD
  refine lv_aload_n hx hb dX5_init_116 rfl (lv_at hl 2 rfl) ?_
  refine lv_iload_n hx hb dX5_init_117 rfl (lv_at hl 1 rfl) ?_
  refine bd_fldJ C hin hA cls4 (k := 10) (by decide) va_c_long vf_X5_51 rfl rfl rfl (Nat.le_of_ble_eq_true rfl) (N := 8) rfl (by decide) (by decide) dX5_init_118 dX5_init_120 (Nat.le_of_ble_eq_true rfl) (Nat.le_of_ble_eq_true rfl) hP hD hS (fun q16 H locs hP hD hS => ?_)
  have hP : va_P D vwCl ((h0, .inr (4, [.ref q1, .int 0, .ref q69, .ref q70, .ref q10, .ref q11, .ref q12, .ref q13, .ref q14, .ref q15, .ref q16, .null, .null, .null])) :: _) H := hP
  have hD : va_D A ((h0, .inr (4, [.ref q1, .int 0, .ref q69, .ref q70, .ref q10, .ref q11, .ref q12, .ref q13, .ref q14, .ref q15, .ref q16, .null, .null, .null])) :: _) := hD
  refine lv_aload_n hx hb dX5_init_123 rfl (lv_at hl 2 rfl) ?_
  refine lv_iload_n hx hb dX5_init_124 rfl (lv_at hl 1 rfl) ?_
  refine lv_iload_n hx hb dX5_init_125 rfl (lv_at hl 1 rfl) ?_
  refine bd_mna C hA (Nat.le_of_ble_eq_true rfl) (Nat.le_of_ble_eq_true rfl) hP hD hS dX5_init_126 (fun q5 r H hP hD hS => ?_)
  refine bd_putF C hin cls4 (k := 11) (by decide) vf_X5_56 rfl rfl (v := .ref q5) rfl rfl (Nat.le_of_ble_eq_true rfl) hP hD hS dX5_init_130 (fun H locs hP hD hS => ?_)
  have hP : va_P D vwCl ((h0, .inr (4, [.ref q1, .int 0, .ref q69, .ref q70, .ref q10, .ref q11, .ref q12, .ref q13, .ref q14, .ref q15, .ref q16, .ref q5, .null, .null])) :: _) H := hP
  have hD : va_D A ((h0, .inr (4, [.ref q1, .int 0, .ref q69, .ref q70, .ref q10, .ref q11, .ref q12, .ref q13, .ref q14, .ref q15, .ref q16, .ref q5, .null, .null])) :: _) := hD
  refine lv_aload_n hx hb dX5_init_133 rfl (lv_at hl 2 rfl) ?_
  refine lv_iload_n hx hb dX5_init_134 rfl (lv_at hl 1 rfl) ?_
  refine bd_fldJ C hin hA cls4 (k := 12) (by decide) va_c_long vf_X5_59 rfl rfl rfl (Nat.le_of_ble_eq_true rfl) (N := 8) rfl (by decide) (by decide) dX5_init_135 dX5_init_137 (Nat.le_of_ble_eq_true rfl) (Nat.le_of_ble_eq_true rfl) hP hD hS (fun q17 H locs hP hD hS => ?_)
  have hP : va_P D vwCl ((h0, .inr (4, [.ref q1, .int 0, .ref q69, .ref q70, .ref q10, .ref q11, .ref q12, .ref q13, .ref q14, .ref q15, .ref q16, .ref q5, .ref q17, .null])) :: _) H := hP
  have hD : va_D A ((h0, .inr (4, [.ref q1, .int 0, .ref q69, .ref q70, .ref q10, .ref q11, .ref q12, .ref q13, .ref q14, .ref q15, .ref q16, .ref q5, .ref q17, .null])) :: _) := hD
  refine lv_aload_n hx hb dX5_init_140 rfl (lv_at hl 2 rfl) ?_
  refine lv_iload_n hx hb dX5_init_141 rfl (lv_at hl 1 rfl) ?_
  refine bd_fldJ C hin hA cls4 (k := 13) (by decide) va_c_long vf_X5_62 rfl rfl rfl (Nat.le_of_ble_eq_true rfl) (N := 8) rfl (by decide) (by decide) dX5_init_142 dX5_init_144 (Nat.le_of_ble_eq_true rfl) (Nat.le_of_ble_eq_true rfl) hP hD hS (fun q18 H locs hP hD hS => ?_)
  have hP : va_P D vwCl ((h0, .inr (4, [.ref q1, .int 0, .ref q69, .ref q70, .ref q10, .ref q11, .ref q12, .ref q13, .ref q14, .ref q15, .ref q16, .ref q5, .ref q17, .ref q18])) :: _) H := hP
  have hD : va_D A ((h0, .inr (4, [.ref q1, .int 0, .ref q69, .ref q70, .ref q10, .ref q11, .ref q12, .ref q13, .ref q14, .ref q15, .ref q16, .ref q5, .ref q17, .ref q18])) :: _) := hD
  refine ret _ H locs ls _ _ _ dX5_init_147 ?_ hP hD hS (Nat.le_of_ble_eq_true rfl) (Nat.le_of_ble_eq_true rfl)
  refine ⟨cad [h0, q1, q5, q10, q11, q12, q13, q14, q15, q16, q17, q18, q69, q70] r ads, rfl, ?_⟩
  exact ci_end c5 h0 q1 q69 q70 q10 q11 q12 q13 q14 q15 q16 q5 q17 q18 r ads
