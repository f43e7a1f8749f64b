/-! The class's Body -/
noncomputable def sp_X0_hangOn : Spc := fun av σ post => match av with
  | [.inr (.inr b), .inl p, .inl s] => bif Nat.beq b.1 2 then ((s = 0 ∨ s = 1) ∧ post none (sI (sI σ 1 b.2 p) 2 b.2 s)) else False
  | _ => False
theorem dX0_hangOn_0 : decode cX0_hangOn 0 = .ok (.aload_n 0, 1) := by decide +kernel
theorem dX0_hangOn_1 : decode cX0_hangOn 1 = .ok (.iload_n 1, 1) := by decide +kernel
theorem dX0_hangOn_2 : decode cX0_hangOn 2 = .ok (.putfield 65, 3) := by decide +kernel
theorem dX0_hangOn_5 : decode cX0_hangOn 5 = .ok (.aload_n 0, 1) := by decide +kernel
theorem dX0_hangOn_6 : decode cX0_hangOn 6 = .ok (.iload_n 2, 1) := by decide +kernel
theorem dX0_hangOn_7 : decode cX0_hangOn 7 = .ok (.putfield 69, 3) := by decide +kernel
theorem dX0_hangOn_10 : decode cX0_hangOn 10 = .ok (.return_, 1) := by decide +kernel
theorem wf_X0_65 : Cond.fieldLink RX0 65 (TX0 0).1 (TX0 0).2.1 (TX0 0).2.2.1 ∈ ltb := List.mem_filter.mpr ⟨List.mem_append_right _ (List.mem_of_getElem? (i := 86) (by decide +kernel)), by decide +kernel⟩
theorem wf_X0_69 : Cond.fieldLink RX0 69 (TX0 1).1 (TX0 1).2.1 (TX0 1).2.2.1 ∈ ltb := List.mem_filter.mpr ⟨List.mem_append_right _ (List.mem_of_getElem? (i := 88) (by decide +kernel)), by decide +kernel⟩
noncomputable def pr_X0_hangOn : Prg := [(0, z_aload 0 1), (1, z_iload 1 1), (2, z_bpar), (5, z_aload 0 1), (6, z_iload 2 1), (7, z_bsli), (10, z_vret)]
set_option maxRecDepth 100000 in
set_option maxHeartbeats 4000000 in
theorem sn_X0_hangOn {G : Geo} (hG : GeoOK G) (l : Launch) : ∀ q ∈ pr_X0_hangOn, Sn G l yX0_hangOn.cls cX0_hangOn 3 0 none q.1 q.2 :=
  fcs (zs_aload_n dX0_hangOn_0 rfl) <| fcs (zs_iload_n dX0_hangOn_1 rfl) <| fcs (zs_bpar wf_X0_65 dX0_hangOn_2) <| fcs (zs_aload_n dX0_hangOn_5 rfl) <| fcs (zs_iload_n dX0_hangOn_6 rfl) <| fcs (zs_bsli wf_X0_69 dX0_hangOn_7) <| fcs (zs_vret dX0_hangOn_10) <| fnl
set_option maxRecDepth 100000 in
set_option maxHeartbeats 4000000 in
theorem ct_X0_hangOn {G : Geo} (hG : GeoOK G) (l : Launch) : Ct G l yX0_hangOn cX0_hangOn 3 none 0 sp_X0_hangOn := by
  refine Ct.of pr_X0_hangOn hG (by decide +kernel) (sn_X0_hangOn hG l) ?_
  intro av σ post hok h
  unfold sp_X0_hangOn at h
  split at h
  · rename_i b p s
    obtain ⟨b, k⟩ := b
    obtain ⟨hb, hs, h⟩ := bif_t h
    obtain rfl : b = 2 := beq1 hb
    refine ⟨Nat.le_of_ble_eq_true rfl, fun X hX => ?_⟩
    refine go hX [] 60 ?_
    exact ⟨rfl, rfl, hs, h⟩
  · exact h.elim
noncomputable def sp_X0_axisVector : Spc := fun av σ post => match av with
  | [.inr (.inr b)] => bif Nat.beq b.1 2 then post (some (ar 57 b.2)) σ else False
  | _ => False
theorem dX0_axisVector_0 : decode cX0_axisVector 0 = .ok (.aload_n 0, 1) := by decide +kernel
theorem dX0_axisVector_1 : decode cX0_axisVector 1 = .ok (.getfield 31, 3) := by decide +kernel
theorem dX0_axisVector_4 : decode cX0_axisVector 4 = .ok (.getfield 73, 3) := by decide +kernel
theorem dX0_axisVector_7 : decode cX0_axisVector 7 = .ok (.areturn, 1) := by decide +kernel
theorem wf_X0_31 : Cond.fieldLink RX0 31 (TX0 7).1 (TX0 7).2.1 (TX0 7).2.2.1 ∈ ltb := List.mem_filter.mpr ⟨List.mem_append_right _ (List.mem_of_getElem? (i := 99) (by decide +kernel)), by decide +kernel⟩
theorem wf_X0_73 : Cond.fieldLink RX0 73 (TX2 2).1 (TX2 2).2.1 (TX2 2).2.2.1 ∈ ltb := List.mem_filter.mpr ⟨List.mem_append_right _ (List.mem_of_getElem? (i := 75) (by decide +kernel)), by decide +kernel⟩
noncomputable def pr_X0_axisVector : Prg := [(0, z_aload 0 1), (1, z_get 0 7), (4, z_get 1 2), (7, z_aret)]
set_option maxRecDepth 100000 in
set_option maxHeartbeats 4000000 in
theorem sn_X0_axisVector {G : Geo} (hG : GeoOK G) (l : Launch) : ∀ q ∈ pr_X0_axisVector, Sn G l yX0_axisVector.cls cX0_axisVector 1 0 (some (.object "LimbWorks$Vector")) q.1 q.2 :=
  fcs (zs_aload_n dX0_axisVector_0 rfl) <| fcs (zs_get cls0 (by decide) (by decide) wf_X0_31 dX0_axisVector_1) <| fcs (zs_get cls1 (by decide) (by decide) wf_X0_73 dX0_axisVector_4) <| fcs (zs_aret dX0_axisVector_7) <| fnl
set_option maxRecDepth 100000 in
set_option maxHeartbeats 4000000 in
theorem ct_X0_axisVector {G : Geo} (hG : GeoOK G) (l : Launch) : Ct G l yX0_axisVector cX0_axisVector 1 (some (.object "LimbWorks$Vector")) 0 sp_X0_axisVector := by
  refine Ct.of pr_X0_axisVector hG (by decide +kernel) (sn_X0_axisVector hG l) ?_
  intro av σ post hok h
  unfold sp_X0_axisVector at h
  split at h
  · rename_i b
    obtain ⟨b, k⟩ := b
    obtain ⟨hb, h⟩ := bif_t h
    obtain rfl : b = 2 := beq1 hb
    refine ⟨Nat.le_of_ble_eq_true rfl, fun X hX => ?_⟩
    refine go hX [] 60 ?_
    exact h
  · exact h.elim
noncomputable def sp_X0_answerVector : Spc := fun av σ post => match av with
  | [.inr (.inr b), .inl x] => bif Nat.beq b.1 2 then ((x = 0 → post (some (ar 59 b.2)) σ) ∧ (¬ x = 0 → x = nI 1 → post (some (ar 62 b.2)) σ) ∧ (¬ x = 0 → ¬ x = nI 1 → post (some (ar 57 b.2)) σ)) else False
  | _ => False
theorem dX0_answerVector_0 : decode cX0_answerVector 0 = .ok (.iload_n 1, 1) := by decide +kernel
theorem dX0_answerVector_1 : decode cX0_answerVector 1 = .ok (.ifCond .ne 10, 3) := by decide +kernel
theorem dX0_answerVector_4 : decode cX0_answerVector 4 = .ok (.aload_n 0, 1) := by decide +kernel
theorem dX0_answerVector_5 : decode cX0_answerVector 5 = .ok (.getfield 35, 3) := by decide +kernel
theorem dX0_answerVector_8 : decode cX0_answerVector 8 = .ok (.goto 19, 3) := by decide +kernel
theorem dX0_answerVector_11 : decode cX0_answerVector 11 = .ok (.iload_n 1, 1) := by decide +kernel
theorem dX0_answerVector_12 : decode cX0_answerVector 12 = .ok (.iconst 1, 1) := by decide +kernel
theorem dX0_answerVector_13 : decode cX0_answerVector 13 = .ok (.if_icmp .ne 10, 3) := by decide +kernel
theorem dX0_answerVector_16 : decode cX0_answerVector 16 = .ok (.aload_n 0, 1) := by decide +kernel
theorem dX0_answerVector_17 : decode cX0_answerVector 17 = .ok (.getfield 44, 3) := by decide +kernel
theorem dX0_answerVector_20 : decode cX0_answerVector 20 = .ok (.goto 7, 3) := by decide +kernel
theorem dX0_answerVector_23 : decode cX0_answerVector 23 = .ok (.aload_n 0, 1) := by decide +kernel
theorem dX0_answerVector_24 : decode cX0_answerVector 24 = .ok (.invokevirtual 76, 3) := by decide +kernel
theorem dX0_answerVector_27 : decode cX0_answerVector 27 = .ok (.areturn, 1) := by decide +kernel
theorem wf_X0_35 : Cond.fieldLink RX0 35 (TX0 8).1 (TX0 8).2.1 (TX0 8).2.2.1 ∈ ltb := List.mem_filter.mpr ⟨List.mem_append_right _ (List.mem_of_getElem? (i := 100) (by decide +kernel)), by decide +kernel⟩
theorem wf_X0_44 : Cond.fieldLink RX0 44 (TX0 11).1 (TX0 11).2.1 (TX0 11).2.2.1 ∈ ltb := List.mem_filter.mpr ⟨List.mem_append_right _ (List.mem_of_getElem? (i := 103) (by decide +kernel)), by decide +kernel⟩
theorem wc_X0_axisVector : Cond.code yX0_axisVector cX0_axisVector 1 (some (.object "LimbWorks$Vector")) ∈ ltb := List.mem_filter.mpr ⟨List.mem_append_right _ (List.mem_of_getElem? (i := 327) (by decide +kernel)), by decide +kernel⟩
theorem wi_X0 : Cond.initialized RX0 ∈ ltb := List.mem_filter.mpr ⟨List.mem_append_right _ (List.mem_of_getElem? (i := 2) (by decide +kernel)), by decide +kernel⟩
theorem mi_X0_axisVector : Mi yX0_axisVector RX0 0 cX0_axisVector 1 (some (.object "LimbWorks$Vector")) := ⟨by decide +kernel, wc_X0_axisVector, wi_X0, by decide⟩
theorem wv_X0_axisVector : Cond.instanceMethod yX0_axisVector ∈ ltb := List.mem_filter.mpr ⟨List.mem_append_right _ (List.mem_of_getElem? (i := 325) (by decide +kernel)), by decide +kernel⟩
theorem we_X0_axisVector : Cond.selects RX0 yX0_axisVector yX0_axisVector ∈ ltb := List.mem_filter.mpr ⟨List.mem_append_right _ (List.mem_of_getElem? (i := 326) (by decide +kernel)), by decide +kernel⟩
theorem wm_X0_76 : Cond.methodLink RX0 76 yX0_axisVector ∈ ltb := List.mem_filter.mpr ⟨List.mem_append_right _ (List.mem_of_getElem? (i := 324) (by decide +kernel)), by decide +kernel⟩
noncomputable def pr_X0_answerVector : Prg := [(0, z_iload 1 1), (1, z_nf1 11), (4, z_aload 0 1), (5, z_get 0 8), (8, z_goto 27), (11, z_iload 1 1), (12, z_ic (nI 1) 1), (13, z_nf2 23), (16, z_aload 0 1), (17, z_get 0 11), (20, z_goto 27), (23, z_aload 0 1), (24, z_callv 0 0 sp_X0_axisVector), (27, z_aret)]
set_option maxRecDepth 100000 in
set_option maxHeartbeats 4000000 in
theorem sn_X0_answerVector {G : Geo} (hG : GeoOK G) (l : Launch) : ∀ q ∈ pr_X0_answerVector, Sn G l yX0_answerVector.cls cX0_answerVector 2 1 (some (.object "LimbWorks$Vector")) q.1 q.2 :=
  fcs (zs_iload_n dX0_answerVector_0 rfl) <| fcs (zs_if_ne dX0_answerVector_1 rfl) <| fcs (zs_aload_n dX0_answerVector_4 rfl) <| fcs (zs_get cls0 (by decide) (by decide) wf_X0_35 dX0_answerVector_5) <| fcs (zs_goto dX0_answerVector_8 rfl) <| fcs (zs_iload_n dX0_answerVector_11 rfl) <| fcs (zs_iconst dX0_answerVector_12 rfl) <| fcs (zs_icmp_ne dX0_answerVector_13 rfl) <| fcs (zs_aload_n dX0_answerVector_16 rfl) <| fcs (zs_get cls0 (by decide) (by decide) wf_X0_44 dX0_answerVector_17) <| fcs (zs_goto dX0_answerVector_20 rfl) <| fcs (zs_aload_n dX0_answerVector_23 rfl) <| fcs (zs_callv cls0 (by decide) (ct_X0_axisVector hG l) mi_X0_axisVector wv_X0_axisVector we_X0_axisVector (by decide) wm_X0_76 dX0_answerVector_24) <| fcs (zs_aret dX0_answerVector_27) <| fnl
set_option maxRecDepth 100000 in
set_option maxHeartbeats 4000000 in
theorem ct_X0_answerVector {G : Geo} (hG : GeoOK G) (l : Launch) : Ct G l yX0_answerVector cX0_answerVector 2 (some (.object "LimbWorks$Vector")) 1 sp_X0_answerVector := by
  refine Ct.of pr_X0_answerVector hG (by decide +kernel) (sn_X0_answerVector hG l) ?_
  intro av σ post hok h
  unfold sp_X0_answerVector at h
  split at h
  · rename_i b x
    obtain ⟨b, k⟩ := b
    obtain ⟨hb, h1, h2, h3⟩ := bif_t h
    obtain rfl : b = 2 := beq1 hb
    refine ⟨Nat.le_of_ble_eq_true rfl, fun X hX => ?_⟩
    refine go hX [] 60 ?_
    refine ⟨fun g1 => ⟨fun g2 => ?_, fun g2 => ?_⟩, fun g1 => ?_⟩
    · exact h3 g1 g2
    · exact h2 g1 g2
    · exact h1 g1
  · exact h.elim
/-- stand: a body is brought to where its position puts it -/
noncomputable def b_std (σ : SS) (k p : Nat) (q : ZF) : SS :=
  let σ := f_cpy σ k p
  let σ := f_pair σ k (56, k) (57, k) (σ.2.1 2 k 0)
  let σ := f_out σ p (50, k) (60, k)
  let σ := if σ.2.2 2 k = 0 then f_pair σ k (55, k) (56, k) q else o_adt σ (60, k) (57, k) q
  let σ := o_cpy σ (59, k) (59, p)
  let σ := o_add σ (59, k) (60, k)
  let σ := f_out σ k (51, k) (61, k)
  let σ := o_cpy σ (62, k) (59, k)
  o_add σ (62, k) (61, k)
def bdy2 (b w : Nat × Nat) : Bool := Nat.beq b.1 2 && Nat.beq w.1 2
noncomputable def sp_X0_stand : Spc := fun av σ post => match av with
  | [.inr (.inr b), .inr (.inr w), .inr (.inl (.inr q))] => bif bdy2 b w then post none (b_std σ b.2 w.2 q) else False
  | _ => False
theorem dX0_stand_0 : decode cX0_stand 0 = .ok (.aload_n 0, 1) := by decide +kernel
theorem dX0_stand_1 : decode cX0_stand 1 = .ok (.getfield 31, 3) := by decide +kernel
theorem dX0_stand_4 : decode cX0_stand 4 = .ok (.aload_n 1, 1) := by decide +kernel
theorem dX0_stand_5 : decode cX0_stand 5 = .ok (.getfield 31, 3) := by decide +kernel
theorem dX0_stand_8 : decode cX0_stand 8 = .ok (.invokevirtual 80, 3) := by decide +kernel
theorem dX0_stand_11 : decode cX0_stand 11 = .ok (.aload_n 0, 1) := by decide +kernel
theorem dX0_stand_12 : decode cX0_stand 12 = .ok (.getfield 31, 3) := by decide +kernel
theorem dX0_stand_15 : decode cX0_stand 15 = .ok (.aload_n 0, 1) := by decide +kernel
theorem dX0_stand_16 : decode cX0_stand 16 = .ok (.getfield 84, 3) := by decide +kernel
theorem dX0_stand_19 : decode cX0_stand 19 = .ok (.invokevirtual 88, 3) := by decide +kernel
theorem dX0_stand_22 : decode cX0_stand 22 = .ok (.aload_n 1, 1) := by decide +kernel
theorem dX0_stand_23 : decode cX0_stand 23 = .ok (.getfield 31, 3) := by decide +kernel
theorem dX0_stand_26 : decode cX0_stand 26 = .ok (.aload_n 0, 1) := by decide +kernel
theorem dX0_stand_27 : decode cX0_stand 27 = .ok (.getfield 12, 3) := by decide +kernel
theorem dX0_stand_30 : decode cX0_stand 30 = .ok (.aload_n 0, 1) := by decide +kernel
theorem dX0_stand_31 : decode cX0_stand 31 = .ok (.getfield 38, 3) := by decide +kernel
theorem dX0_stand_34 : decode cX0_stand 34 = .ok (.invokevirtual 92, 3) := by decide +kernel
theorem dX0_stand_37 : decode cX0_stand 37 = .ok (.aload_n 0, 1) := by decide +kernel
theorem dX0_stand_38 : decode cX0_stand 38 = .ok (.getfield 69, 3) := by decide +kernel
theorem dX0_stand_41 : decode cX0_stand 41 = .ok (.ifCond .eq 18, 3) := by decide +kernel
theorem dX0_stand_44 : decode cX0_stand 44 = .ok (.aload_n 0, 1) := by decide +kernel
theorem dX0_stand_45 : decode cX0_stand 45 = .ok (.getfield 38, 3) := by decide +kernel
theorem dX0_stand_48 : decode cX0_stand 48 = .ok (.aload_n 0, 1) := by decide +kernel
theorem dX0_stand_49 : decode cX0_stand 49 = .ok (.invokevirtual 76, 3) := by decide +kernel
theorem dX0_stand_52 : decode cX0_stand 52 = .ok (.lload_n 2, 1) := by decide +kernel
theorem dX0_stand_53 : decode cX0_stand 53 = .ok (.invokevirtual 96, 3) := by decide +kernel
theorem dX0_stand_56 : decode cX0_stand 56 = .ok (.goto 11, 3) := by decide +kernel
theorem dX0_stand_59 : decode cX0_stand 59 = .ok (.aload_n 0, 1) := by decide +kernel
theorem dX0_stand_60 : decode cX0_stand 60 = .ok (.getfield 31, 3) := by decide +kernel
theorem dX0_stand_63 : decode cX0_stand 63 = .ok (.lload_n 2, 1) := by decide +kernel
theorem dX0_stand_64 : decode cX0_stand 64 = .ok (.invokevirtual 100, 3) := by decide +kernel
theorem dX0_stand_67 : decode cX0_stand 67 = .ok (.aload_n 0, 1) := by decide +kernel
theorem dX0_stand_68 : decode cX0_stand 68 = .ok (.getfield 35, 3) := by decide +kernel
theorem dX0_stand_71 : decode cX0_stand 71 = .ok (.aload_n 1, 1) := by decide +kernel
theorem dX0_stand_72 : decode cX0_stand 72 = .ok (.getfield 35, 3) := by decide +kernel
theorem dX0_stand_75 : decode cX0_stand 75 = .ok (.invokevirtual 103, 3) := by decide +kernel
theorem dX0_stand_78 : decode cX0_stand 78 = .ok (.aload_n 0, 1) := by decide +kernel
theorem dX0_stand_79 : decode cX0_stand 79 = .ok (.getfield 35, 3) := by decide +kernel
theorem dX0_stand_82 : decode cX0_stand 82 = .ok (.aload_n 0, 1) := by decide +kernel
theorem dX0_stand_83 : decode cX0_stand 83 = .ok (.getfield 38, 3) := by decide +kernel
theorem dX0_stand_86 : decode cX0_stand 86 = .ok (.invokevirtual 106, 3) := by decide +kernel
theorem dX0_stand_89 : decode cX0_stand 89 = .ok (.aload_n 0, 1) := by decide +kernel
theorem dX0_stand_90 : decode cX0_stand 90 = .ok (.getfield 31, 3) := by decide +kernel
theorem dX0_stand_93 : decode cX0_stand 93 = .ok (.aload_n 0, 1) := by decide +kernel
theorem dX0_stand_94 : decode cX0_stand 94 = .ok (.getfield 18, 3) := by decide +kernel
theorem dX0_stand_97 : decode cX0_stand 97 = .ok (.aload_n 0, 1) := by decide +kernel
theorem dX0_stand_98 : decode cX0_stand 98 = .ok (.getfield 41, 3) := by decide +kernel
theorem dX0_stand_101 : decode cX0_stand 101 = .ok (.invokevirtual 92, 3) := by decide +kernel
theorem dX0_stand_104 : decode cX0_stand 104 = .ok (.aload_n 0, 1) := by decide +kernel
theorem dX0_stand_105 : decode cX0_stand 105 = .ok (.getfield 44, 3) := by decide +kernel
theorem dX0_stand_108 : decode cX0_stand 108 = .ok (.aload_n 0, 1) := by decide +kernel
theorem dX0_stand_109 : decode cX0_stand 109 = .ok (.getfield 35, 3) := by decide +kernel
theorem dX0_stand_112 : decode cX0_stand 112 = .ok (.invokevirtual 103, 3) := by decide +kernel
theorem dX0_stand_115 : decode cX0_stand 115 = .ok (.aload_n 0, 1) := by decide +kernel
theorem dX0_stand_116 : decode cX0_stand 116 = .ok (.getfield 44, 3) := by decide +kernel
theorem dX0_stand_119 : decode cX0_stand 119 = .ok (.aload_n 0, 1) := by decide +kernel
theorem dX0_stand_120 : decode cX0_stand 120 = .ok (.getfield 41, 3) := by decide +kernel
theorem dX0_stand_123 : decode cX0_stand 123 = .ok (.invokevirtual 106, 3) := by decide +kernel
theorem dX0_stand_126 : decode cX0_stand 126 = .ok (.return_, 1) := by decide +kernel
theorem wc_X2_copy : Cond.code yX2_copy cX2_copy 2 none ∈ ltb := List.mem_filter.mpr ⟨List.mem_append_right _ (List.mem_of_getElem? (i := 280) (by decide +kernel)), by decide +kernel⟩
theorem mi_X2_copy : Mi yX2_copy RX2 1 cX2_copy 2 none := ⟨by decide +kernel, wc_X2_copy, wi_X2, by decide⟩
theorem wv_X2_copy : Cond.instanceMethod yX2_copy ∈ ltb := List.mem_filter.mpr ⟨List.mem_append_right _ (List.mem_of_getElem? (i := 278) (by decide +kernel)), by decide +kernel⟩
theorem we_X2_copy : Cond.selects RX2 yX2_copy yX2_copy ∈ ltb := List.mem_filter.mpr ⟨List.mem_append_right _ (List.mem_of_getElem? (i := 279) (by decide +kernel)), by decide +kernel⟩
theorem wm_X0_80 : Cond.methodLink RX0 80 yX2_copy ∈ ltb := List.mem_filter.mpr ⟨List.mem_append_right _ (List.mem_of_getElem? (i := 277) (by decide +kernel)), by decide +kernel⟩
theorem wf_X0_84 : Cond.fieldLink RX0 84 (TX0 3).1 (TX0 3).2.1 (TX0 3).2.2.1 ∈ ltb := List.mem_filter.mpr ⟨List.mem_append_right _ (List.mem_of_getElem? (i := 92) (by decide +kernel)), by decide +kernel⟩
theorem wc_X2_turnAboutX : Cond.code yX2_turnAboutX cX2_turnAboutX 3 none ∈ ltb := List.mem_filter.mpr ⟨List.mem_append_right _ (List.mem_of_getElem? (i := 288) (by decide +kernel)), by decide +kernel⟩
theorem mi_X2_turnAboutX : Mi yX2_turnAboutX RX2 1 cX2_turnAboutX 3 none := ⟨by decide +kernel, wc_X2_turnAboutX, wi_X2, by decide⟩
theorem wv_X2_turnAboutX : Cond.instanceMethod yX2_turnAboutX ∈ ltb := List.mem_filter.mpr ⟨List.mem_append_right _ (List.mem_of_getElem? (i := 286) (by decide +kernel)), by decide +kernel⟩
theorem we_X2_turnAboutX : Cond.selects RX2 yX2_turnAboutX yX2_turnAboutX ∈ ltb := List.mem_filter.mpr ⟨List.mem_append_right _ (List.mem_of_getElem? (i := 287) (by decide +kernel)), by decide +kernel⟩
theorem wm_X0_88 : Cond.methodLink RX0 88 yX2_turnAboutX ∈ ltb := List.mem_filter.mpr ⟨List.mem_append_right _ (List.mem_of_getElem? (i := 285) (by decide +kernel)), by decide +kernel⟩
theorem wf_X0_12 : Cond.fieldLink RX0 12 (TX0 2).1 (TX0 2).2.1 (TX0 2).2.2.1 ∈ ltb := List.mem_filter.mpr ⟨List.mem_append_right _ (List.mem_of_getElem? (i := 89) (by decide +kernel)), by decide +kernel⟩
theorem wf_X0_38 : Cond.fieldLink RX0 38 (TX0 9).1 (TX0 9).2.1 (TX0 9).2.2.1 ∈ ltb := List.mem_filter.mpr ⟨List.mem_append_right _ (List.mem_of_getElem? (i := 101) (by decide +kernel)), by decide +kernel⟩
theorem wc_X2_outward : Cond.code yX2_outward cX2_outward 9 none ∈ ltb := List.mem_filter.mpr ⟨List.mem_append_right _ (List.mem_of_getElem? (i := 319) (by decide +kernel)), by decide +kernel⟩
theorem mi_X2_outward : Mi yX2_outward RX2 2 cX2_outward 9 none := ⟨by decide +kernel, wc_X2_outward, wi_X2, by decide⟩
theorem wv_X2_outward : Cond.instanceMethod yX2_outward ∈ ltb := List.mem_filter.mpr ⟨List.mem_append_right _ (List.mem_of_getElem? (i := 317) (by decide +kernel)), by decide +kernel⟩
theorem we_X2_outward : Cond.selects RX2 yX2_outward yX2_outward ∈ ltb := List.mem_filter.mpr ⟨List.mem_append_right _ (List.mem_of_getElem? (i := 318) (by decide +kernel)), by decide +kernel⟩
theorem wm_X0_92 : Cond.methodLink RX0 92 yX2_outward ∈ ltb := List.mem_filter.mpr ⟨List.mem_append_right _ (List.mem_of_getElem? (i := 316) (by decide +kernel)), by decide +kernel⟩
theorem wm_X0_96 : Cond.methodLink RX0 96 yX4_addTimes ∈ ltb := List.mem_filter.mpr ⟨List.mem_append_right _ (List.mem_of_getElem? (i := 328) (by decide +kernel)), by decide +kernel⟩
theorem wc_X2_turnAboutZ : Cond.code yX2_turnAboutZ cX2_turnAboutZ 3 none ∈ ltb := List.mem_filter.mpr ⟨List.mem_append_right _ (List.mem_of_getElem? (i := 332) (by decide +kernel)), by decide +kernel⟩
theorem mi_X2_turnAboutZ : Mi yX2_turnAboutZ RX2 1 cX2_turnAboutZ 3 none := ⟨by decide +kernel, wc_X2_turnAboutZ, wi_X2, by decide⟩
theorem wv_X2_turnAboutZ : Cond.instanceMethod yX2_turnAboutZ ∈ ltb := List.mem_filter.mpr ⟨List.mem_append_right _ (List.mem_of_getElem? (i := 330) (by decide +kernel)), by decide +kernel⟩
theorem we_X2_turnAboutZ : Cond.selects RX2 yX2_turnAboutZ yX2_turnAboutZ ∈ ltb := List.mem_filter.mpr ⟨List.mem_append_right _ (List.mem_of_getElem? (i := 331) (by decide +kernel)), by decide +kernel⟩
theorem wm_X0_100 : Cond.methodLink RX0 100 yX2_turnAboutZ ∈ ltb := List.mem_filter.mpr ⟨List.mem_append_right _ (List.mem_of_getElem? (i := 329) (by decide +kernel)), by decide +kernel⟩
theorem wm_X0_103 : Cond.methodLink RX0 103 yX4_copy ∈ ltb := List.mem_filter.mpr ⟨List.mem_append_right _ (List.mem_of_getElem? (i := 333) (by decide +kernel)), by decide +kernel⟩
theorem wc_X4_add : Cond.code yX4_add cX4_add 2 none ∈ ltb := List.mem_filter.mpr ⟨List.mem_append_right _ (List.mem_of_getElem? (i := 337) (by decide +kernel)), by decide +kernel⟩
theorem mi_X4_add : Mi yX4_add RX4 1 cX4_add 2 none := ⟨by decide +kernel, wc_X4_add, wi_X4, by decide⟩
theorem wv_X4_add : Cond.instanceMethod yX4_add ∈ ltb := List.mem_filter.mpr ⟨List.mem_append_right _ (List.mem_of_getElem? (i := 335) (by decide +kernel)), by decide +kernel⟩
theorem we_X4_add : Cond.selects RX4 yX4_add yX4_add ∈ ltb := List.mem_filter.mpr ⟨List.mem_append_right _ (List.mem_of_getElem? (i := 336) (by decide +kernel)), by decide +kernel⟩
theorem wm_X0_106 : Cond.methodLink RX0 106 yX4_add ∈ ltb := List.mem_filter.mpr ⟨List.mem_append_right _ (List.mem_of_getElem? (i := 334) (by decide +kernel)), by decide +kernel⟩
theorem wf_X0_18 : Cond.fieldLink RX0 18 (TX0 5).1 (TX0 5).2.1 (TX0 5).2.2.1 ∈ ltb := List.mem_filter.mpr ⟨List.mem_append_right _ (List.mem_of_getElem? (i := 95) (by decide +kernel)), by decide +kernel⟩
theorem wf_X0_41 : Cond.fieldLink RX0 41 (TX0 10).1 (TX0 10).2.1 (TX0 10).2.2.1 ∈ ltb := List.mem_filter.mpr ⟨List.mem_append_right _ (List.mem_of_getElem? (i := 102) (by decide +kernel)), by decide +kernel⟩
noncomputable def pr_X0_stand : Prg := [(0, z_aload 0 1), (1, z_get 0 7), (4, z_aload 1 1), (5, z_get 0 7), (8, z_callv 1 1 sp_X2_copy), (11, z_aload 0 1), (12, z_get 0 7), (15, z_aload 0 1), (16, z_get 0 3), (19, z_callv 1 1 sp_X2_turnAboutX), (22, z_aload 1 1), (23, z_get 0 7), (26, z_aload 0 1), (27, z_get 0 2), (30, z_aload 0 1), (31, z_get 0 9), (34, z_callv 2 1 sp_X2_outward), (37, z_aload 0 1), (38, z_get 0 1), (41, z_if1 (fun x => x = 0) 59), (44, z_aload 0 1), (45, z_get 0 9), (48, z_aload 0 1), (49, z_callv 0 0 sp_X0_axisVector), (52, z_lload 2 1), (53, z_callv 2 3 sp_X4_addTimes), (56, z_goto 67), (59, z_aload 0 1), (60, z_get 0 7), (63, z_lload 2 1), (64, z_callv 1 1 sp_X2_turnAboutZ), (67, z_aload 0 1), (68, z_get 0 8), (71, z_aload 1 1), (72, z_get 0 8), (75, z_callv 1 3 sp_X4_copy), (78, z_aload 0 1), (79, z_get 0 8), (82, z_aload 0 1), (83, z_get 0 9), (86, z_callv 1 3 sp_X4_add), (89, z_aload 0 1), (90, z_get 0 7), (93, z_aload 0 1), (94, z_get 0 5), (97, z_aload 0 1), (98, z_get 0 10), (101, z_callv 2 1 sp_X2_outward), (104, z_aload 0 1), (105, z_get 0 11), (108, z_aload 0 1), (109, z_get 0 8), (112, z_callv 1 3 sp_X4_copy), (115, z_aload 0 1), (116, z_get 0 11), (119, z_aload 0 1), (120, z_get 0 10), (123, z_callv 1 3 sp_X4_add), (126, z_vret)]
set_option maxRecDepth 100000 in
set_option maxHeartbeats 4000000 in
theorem sn_X0_stand {G : Geo} (hG : GeoOK G) (l : Launch) : ∀ q ∈ pr_X0_stand, Sn G l yX0_stand.cls cX0_stand 4 4 none q.1 q.2 :=
  fcs (zs_aload_n dX0_stand_0 rfl) <| fcs (zs_get cls0 (by decide) (by decide) wf_X0_31 dX0_stand_1) <| fcs (zs_aload_n dX0_stand_4 rfl) <| fcs (zs_get cls0 (by decide) (by decide) wf_X0_31 dX0_stand_5) <| fcs (zs_callv cls1 (by decide) (ct_X2_copy hG l) mi_X2_copy wv_X2_copy we_X2_copy (by decide) wm_X0_80 dX0_stand_8) <| fcs (zs_aload_n dX0_stand_11 rfl) <| fcs (zs_get cls0 (by decide) (by decide) wf_X0_31 dX0_stand_12) <| fcs (zs_aload_n dX0_stand_15 rfl) <| fcs (zs_get cls0 (by decide) (by decide) wf_X0_84 dX0_stand_16) <| fcs (zs_callv cls1 (by decide) (ct_X2_turnAboutX hG l) mi_X2_turnAboutX wv_X2_turnAboutX we_X2_turnAboutX (by decide) wm_X0_88 dX0_stand_19) <| fcs (zs_aload_n dX0_stand_22 rfl) <| fcs (zs_get cls0 (by decide) (by decide) wf_X0_31 dX0_stand_23) <| fcs (zs_aload_n dX0_stand_26 rfl) <| fcs (zs_get cls0 (by decide) (by decide) wf_X0_12 dX0_stand_27) <| fcs (zs_aload_n dX0_stand_30 rfl) <| fcs (zs_get cls0 (by decide) (by decide) wf_X0_38 dX0_stand_31) <| fcs (zs_callv cls1 (by decide) (ct_X2_outward hG l) mi_X2_outward wv_X2_outward we_X2_outward (by decide) wm_X0_92 dX0_stand_34) <| fcs (zs_aload_n dX0_stand_37 rfl) <| fcs (zs_get cls0 (by decide) (by decide) wf_X0_69 dX0_stand_38) <| fcs (zs_if_eq dX0_stand_41 rfl) <| fcs (zs_aload_n dX0_stand_44 rfl) <| fcs (zs_get cls0 (by decide) (by decide) wf_X0_38 dX0_stand_45) <| fcs (zs_aload_n dX0_stand_48 rfl) <| fcs (zs_callv cls0 (by decide) (ct_X0_axisVector hG l) mi_X0_axisVector wv_X0_axisVector we_X0_axisVector (by decide) wm_X0_76 dX0_stand_49) <| fcs (zs_lload_n dX0_stand_52 rfl) <| fcs (zs_callv cls3 (by decide) (ct_X4_addTimes hG l) mi_X4_addTimes wv_X4_addTimes we_X4_addTimes (by decide) wm_X0_96 dX0_stand_53) <| fcs (zs_goto dX0_stand_56 rfl) <| fcs (zs_aload_n dX0_stand_59 rfl) <| fcs (zs_get cls0 (by decide) (by decide) wf_X0_31 dX0_stand_60) <| fcs (zs_lload_n dX0_stand_63 rfl) <| fcs (zs_callv cls1 (by decide) (ct_X2_turnAboutZ hG l) mi_X2_turnAboutZ wv_X2_turnAboutZ we_X2_turnAboutZ (by decide) wm_X0_100 dX0_stand_64) <| fcs (zs_aload_n dX0_stand_67 rfl) <| fcs (zs_get cls0 (by decide) (by decide) wf_X0_35 dX0_stand_68) <| fcs (zs_aload_n dX0_stand_71 rfl) <| fcs (zs_get cls0 (by decide) (by decide) wf_X0_35 dX0_stand_72) <| fcs (zs_callv cls3 (by decide) (ct_X4_copy hG l) mi_X4_copy wv_X4_copy we_X4_copy (by decide) wm_X0_103 dX0_stand_75) <| fcs (zs_aload_n dX0_stand_78 rfl) <| fcs (zs_get cls0 (by decide) (by decide) wf_X0_35 dX0_stand_79) <| fcs (zs_aload_n dX0_stand_82 rfl) <| fcs (zs_get cls0 (by decide) (by decide) wf_X0_38 dX0_stand_83) <| fcs (zs_callv cls3 (by decide) (ct_X4_add hG l) mi_X4_add wv_X4_add we_X4_add (by decide) wm_X0_106 dX0_stand_86) <| fcs (zs_aload_n dX0_stand_89 rfl) <| fcs (zs_get cls0 (by decide) (by decide) wf_X0_31 dX0_stand_90) <| fcs (zs_aload_n dX0_stand_93 rfl) <| fcs (zs_get cls0 (by decide) (by decide) wf_X0_18 dX0_stand_94) <| fcs (zs_aload_n dX0_stand_97 rfl) <| fcs (zs_get cls0 (by decide) (by decide) wf_X0_41 dX0_stand_98) <| fcs (zs_callv cls1 (by decide) (ct_X2_outward hG l) mi_X2_outward wv_X2_outward we_X2_outward (by decide) wm_X0_92 dX0_stand_101) <| fcs (zs_aload_n dX0_stand_104 rfl) <| fcs (zs_get cls0 (by decide) (by decide) wf_X0_44 dX0_stand_105) <| fcs (zs_aload_n dX0_stand_108 rfl) <| fcs (zs_get cls0 (by decide) (by decide) wf_X0_35 dX0_stand_109) <| fcs (zs_callv cls3 (by decide) (ct_X4_copy hG l) mi_X4_copy wv_X4_copy we_X4_copy (by decide) wm_X0_103 dX0_stand_112) <| fcs (zs_aload_n dX0_stand_115 rfl) <| fcs (zs_get cls0 (by decide) (by decide) wf_X0_44 dX0_stand_116) <| fcs (zs_aload_n dX0_stand_119 rfl) <| fcs (zs_get cls0 (by decide) (by decide) wf_X0_41 dX0_stand_120) <| fcs (zs_callv cls3 (by decide) (ct_X4_add hG l) mi_X4_add wv_X4_add we_X4_add (by decide) wm_X0_106 dX0_stand_123) <| fcs (zs_vret dX0_stand_126) <| fnl
set_option maxRecDepth 100000 in
set_option maxHeartbeats 4000000 in
theorem ct_X0_stand {G : Geo} (hG : GeoOK G) (l : Launch) : Ct G l yX0_stand cX0_stand 4 none 4 sp_X0_stand := by
  refine Ct.of pr_X0_stand hG (by decide +kernel) (sn_X0_stand hG l) ?_
  intro av σ post hok h
  unfold sp_X0_stand at h
  split at h
  · rename_i b w q
    obtain ⟨b, k⟩ := b
    obtain ⟨w, p⟩ := w
    obtain ⟨hb, h⟩ := bif_t h
    obtain ⟨rfl, rfl⟩ : b = 2 ∧ w = 2 := beq2 hb
    refine ⟨Nat.le_of_ble_eq_true rfl, fun X hX => ?_⟩
    refine go hX [] 90 ?_
    unfold b_std at h
    dsimp only at h
    refine ⟨fun g1 => ?_, fun g1 => ?_⟩
    · have g2 : (f_out (f_pair (f_cpy σ k p) k (56, k) (57, k) ((f_cpy σ k p).2.1 2 k 0)) p (50, k) (60, k)).2.2 2 k = 0 := g1
      rw [if_pos g2] at h
      exact h
    · have g2 : ¬ (f_out (f_pair (f_cpy σ k p) k (56, k) (57, k) ((f_cpy σ k p).2.1 2 k 0)) p (50, k) (60, k)).2.2 2 k = 0 := g1
      rw [if_neg g2] at h
      exact h
  · exact h.elim
def b_agn (σ : SS) (k : Nat) (q : Nat × Nat) : SS :=
  o_clr (o_clr (o_sub (o_clr σ (65, k)) (65, k) q) (66, k)) (67, k)
noncomputable def sp_X0_standAgainst : Spc := fun av σ post => match av with
  | [.inr (.inr b), .inr (.inr q)] => bif Nat.beq b.1 2 && is5 q then post none (b_agn σ b.2 q) else False
  | _ => False
theorem dX0_standAgainst_0 : decode cX0_standAgainst 0 = .ok (.aload_n 0, 1) := by decide +kernel
theorem dX0_standAgainst_1 : decode cX0_standAgainst 1 = .ok (.getfield 53, 3) := by decide +kernel
theorem dX0_standAgainst_4 : decode cX0_standAgainst 4 = .ok (.invokevirtual 109, 3) := by decide +kernel
theorem dX0_standAgainst_7 : decode cX0_standAgainst 7 = .ok (.aload_n 0, 1) := by decide +kernel
theorem dX0_standAgainst_8 : decode cX0_standAgainst 8 = .ok (.getfield 53, 3) := by decide +kernel
theorem dX0_standAgainst_11 : decode cX0_standAgainst 11 = .ok (.aload_n 1, 1) := by decide +kernel
theorem dX0_standAgainst_12 : decode cX0_standAgainst 12 = .ok (.invokevirtual 112, 3) := by decide +kernel
theorem dX0_standAgainst_15 : decode cX0_standAgainst 15 = .ok (.aload_n 0, 1) := by decide +kernel
theorem dX0_standAgainst_16 : decode cX0_standAgainst 16 = .ok (.getfield 56, 3) := by decide +kernel
theorem dX0_standAgainst_19 : decode cX0_standAgainst 19 = .ok (.invokevirtual 109, 3) := by decide +kernel
theorem dX0_standAgainst_22 : decode cX0_standAgainst 22 = .ok (.aload_n 0, 1) := by decide +kernel
theorem dX0_standAgainst_23 : decode cX0_standAgainst 23 = .ok (.getfield 59, 3) := by decide +kernel
theorem dX0_standAgainst_26 : decode cX0_standAgainst 26 = .ok (.invokevirtual 109, 3) := by decide +kernel
theorem dX0_standAgainst_29 : decode cX0_standAgainst 29 = .ok (.return_, 1) := by decide +kernel
theorem wf_X0_53 : Cond.fieldLink RX0 53 (TX0 14).1 (TX0 14).2.1 (TX0 14).2.2.1 ∈ ltb := List.mem_filter.mpr ⟨List.mem_append_right _ (List.mem_of_getElem? (i := 107) (by decide +kernel)), by decide +kernel⟩
theorem wm_X0_109 : Cond.methodLink RX0 109 yX4_clear ∈ ltb := List.mem_filter.mpr ⟨List.mem_append_right _ (List.mem_of_getElem? (i := 346) (by decide +kernel)), by decide +kernel⟩
theorem wc_X4_subtract : Cond.code yX4_subtract cX4_subtract 2 none ∈ ltb := List.mem_filter.mpr ⟨List.mem_append_right _ (List.mem_of_getElem? (i := 350) (by decide +kernel)), by decide +kernel⟩
theorem mi_X4_subtract : Mi yX4_subtract RX4 1 cX4_subtract 2 none := ⟨by decide +kernel, wc_X4_subtract, wi_X4, by decide⟩
theorem wv_X4_subtract : Cond.instanceMethod yX4_subtract ∈ ltb := List.mem_filter.mpr ⟨List.mem_append_right _ (List.mem_of_getElem? (i := 348) (by decide +kernel)), by decide +kernel⟩
theorem we_X4_subtract : Cond.selects RX4 yX4_subtract yX4_subtract ∈ ltb := List.mem_filter.mpr ⟨List.mem_append_right _ (List.mem_of_getElem? (i := 349) (by decide +kernel)), by decide +kernel⟩
theorem wm_X0_112 : Cond.methodLink RX0 112 yX4_subtract ∈ ltb := List.mem_filter.mpr ⟨List.mem_append_right _ (List.mem_of_getElem? (i := 347) (by decide +kernel)), by decide +kernel⟩
theorem wf_X0_56 : Cond.fieldLink RX0 56 (TX0 15).1 (TX0 15).2.1 (TX0 15).2.2.1 ∈ ltb := List.mem_filter.mpr ⟨List.mem_append_right _ (List.mem_of_getElem? (i := 108) (by decide +kernel)), by decide +kernel⟩
theorem wf_X0_59 : Cond.fieldLink RX0 59 (TX0 16).1 (TX0 16).2.1 (TX0 16).2.2.1 ∈ ltb := List.mem_filter.mpr ⟨List.mem_append_right _ (List.mem_of_getElem? (i := 109) (by decide +kernel)), by decide +kernel⟩
noncomputable def pr_X0_standAgainst : Prg := [(0, z_aload 0 1), (1, z_get 0 14), (4, z_callv 0 3 sp_X4_clear), (7, z_aload 0 1), (8, z_get 0 14), (11, z_aload 1 1), (12, z_callv 1 3 sp_X4_subtract), (15, z_aload 0 1), (16, z_get 0 15), (19, z_callv 0 3 sp_X4_clear), (22, z_aload 0 1), (23, z_get 0 16), (26, z_callv 0 3 sp_X4_clear), (29, z_vret)]
set_option maxRecDepth 100000 in
set_option maxHeartbeats 4000000 in
theorem sn_X0_standAgainst {G : Geo} (hG : GeoOK G) (l : Launch) : ∀ q ∈ pr_X0_standAgainst, Sn G l yX0_standAgainst.cls cX0_standAgainst 2 1 none q.1 q.2 :=
  fcs (zs_aload_n dX0_standAgainst_0 rfl) <| fcs (zs_get cls0 (by decide) (by decide) wf_X0_53 dX0_standAgainst_1) <| fcs (zs_callv cls3 (by decide) (ct_X4_clear hG l) mi_X4_clear wv_X4_clear we_X4_clear (by decide) wm_X0_109 dX0_standAgainst_4) <| fcs (zs_aload_n dX0_standAgainst_7 rfl) <| fcs (zs_get cls0 (by decide) (by decide) wf_X0_53 dX0_standAgainst_8) <| fcs (zs_aload_n dX0_standAgainst_11 rfl) <| fcs (zs_callv cls3 (by decide) (ct_X4_subtract hG l) mi_X4_subtract wv_X4_subtract we_X4_subtract (by decide) wm_X0_112 dX0_standAgainst_12) <| fcs (zs_aload_n dX0_standAgainst_15 rfl) <| fcs (zs_get cls0 (by decide) (by decide) wf_X0_56 dX0_standAgainst_16) <| fcs (zs_callv cls3 (by decide) (ct_X4_clear hG l) mi_X4_clear wv_X4_clear we_X4_clear (by decide) wm_X0_109 dX0_standAgainst_19) <| fcs (zs_aload_n dX0_standAgainst_22 rfl) <| fcs (zs_get cls0 (by decide) (by decide) wf_X0_59 dX0_standAgainst_23) <| fcs (zs_callv cls3 (by decide) (ct_X4_clear hG l) mi_X4_clear wv_X4_clear we_X4_clear (by decide) wm_X0_109 dX0_standAgainst_26) <| fcs (zs_vret dX0_standAgainst_29) <| fnl
set_option maxRecDepth 100000 in
set_option maxHeartbeats 4000000 in
theorem ct_X0_standAgainst {G : Geo} (hG : GeoOK G) (l : Launch) : Ct G l yX0_standAgainst cX0_standAgainst 2 none 1 sp_X0_standAgainst := by
  refine Ct.of pr_X0_standAgainst hG (by decide +kernel) (sn_X0_standAgainst hG l) ?_
  intro av σ post hok h
  unfold sp_X0_standAgainst at h
  split at h
  · rename_i b q
    obtain ⟨b, k⟩ := b
    obtain ⟨hb, h⟩ := bif_t h
    rw [Bool.and_eq_true] at hb
    obtain ⟨hb, hq⟩ := hb
    obtain rfl : b = 2 := beq1 hb
    refine ⟨Nat.le_of_ble_eq_true rfl, fun X hX => ?_⟩
    refine go hX [] 60 ?_
    refine bif5 (is5_and rfl hq) ?_
    exact h
  · exact h.elim
/-- the acceleration of a body's point at an arm -/
def b_acc (σ : SS) (k : Nat) (a r : Nat × Nat) : SS :=
  let σ := o_cpy σ r (65, k)
  let σ := o_crs σ (68, k) (64, k) a
  let σ := o_add σ r (68, k)
  let σ := o_crs σ (68, k) (63, k) a
  let σ := o_crs σ (68, k) (63, k) (68, k)
  o_add σ r (68, k)
noncomputable def sp_X0_accelerationAt : Spc := fun av σ post => match av with
  | [.inr (.inr b), .inr (.inr a), .inr (.inr r)] => bif Nat.beq b.1 2 && (is5 a && is5 r) then post none (b_acc σ b.2 a r) else False
  | _ => False
theorem dX0_accelerationAt_0 : decode cX0_accelerationAt 0 = .ok (.aload_n 2, 1) := by decide +kernel
theorem dX0_accelerationAt_1 : decode cX0_accelerationAt 1 = .ok (.aload_n 0, 1) := by decide +kernel
theorem dX0_accelerationAt_2 : decode cX0_accelerationAt 2 = .ok (.getfield 53, 3) := by decide +kernel
theorem dX0_accelerationAt_5 : decode cX0_accelerationAt 5 = .ok (.invokevirtual 103, 3) := by decide +kernel
theorem dX0_accelerationAt_8 : decode cX0_accelerationAt 8 = .ok (.aload_n 0, 1) := by decide +kernel
theorem dX0_accelerationAt_9 : decode cX0_accelerationAt 9 = .ok (.getfield 62, 3) := by decide +kernel
theorem dX0_accelerationAt_12 : decode cX0_accelerationAt 12 = .ok (.aload_n 0, 1) := by decide +kernel
theorem dX0_accelerationAt_13 : decode cX0_accelerationAt 13 = .ok (.getfield 50, 3) := by decide +kernel
theorem dX0_accelerationAt_16 : decode cX0_accelerationAt 16 = .ok (.aload_n 1, 1) := by decide +kernel
theorem dX0_accelerationAt_17 : decode cX0_accelerationAt 17 = .ok (.invokevirtual 118, 3) := by decide +kernel
theorem dX0_accelerationAt_20 : decode cX0_accelerationAt 20 = .ok (.aload_n 2, 1) := by decide +kernel
theorem dX0_accelerationAt_21 : decode cX0_accelerationAt 21 = .ok (.aload_n 0, 1) := by decide +kernel
theorem dX0_accelerationAt_22 : decode cX0_accelerationAt 22 = .ok (.getfield 62, 3) := by decide +kernel
theorem dX0_accelerationAt_25 : decode cX0_accelerationAt 25 = .ok (.invokevirtual 106, 3) := by decide +kernel
theorem dX0_accelerationAt_28 : decode cX0_accelerationAt 28 = .ok (.aload_n 0, 1) := by decide +kernel
theorem dX0_accelerationAt_29 : decode cX0_accelerationAt 29 = .ok (.getfield 62, 3) := by decide +kernel
theorem dX0_accelerationAt_32 : decode cX0_accelerationAt 32 = .ok (.aload_n 0, 1) := by decide +kernel
theorem dX0_accelerationAt_33 : decode cX0_accelerationAt 33 = .ok (.getfield 47, 3) := by decide +kernel
theorem dX0_accelerationAt_36 : decode cX0_accelerationAt 36 = .ok (.aload_n 1, 1) := by decide +kernel
theorem dX0_accelerationAt_37 : decode cX0_accelerationAt 37 = .ok (.invokevirtual 118, 3) := by decide +kernel
theorem dX0_accelerationAt_40 : decode cX0_accelerationAt 40 = .ok (.aload_n 0, 1) := by decide +kernel
theorem dX0_accelerationAt_41 : decode cX0_accelerationAt 41 = .ok (.getfield 62, 3) := by decide +kernel
theorem dX0_accelerationAt_44 : decode cX0_accelerationAt 44 = .ok (.aload_n 0, 1) := by decide +kernel
theorem dX0_accelerationAt_45 : decode cX0_accelerationAt 45 = .ok (.getfield 47, 3) := by decide +kernel
theorem dX0_accelerationAt_48 : decode cX0_accelerationAt 48 = .ok (.aload_n 0, 1) := by decide +kernel
theorem dX0_accelerationAt_49 : decode cX0_accelerationAt 49 = .ok (.getfield 62, 3) := by decide +kernel
theorem dX0_accelerationAt_52 : decode cX0_accelerationAt 52 = .ok (.invokevirtual 118, 3) := by decide +kernel
theorem dX0_accelerationAt_55 : decode cX0_accelerationAt 55 = .ok (.aload_n 2, 1) := by decide +kernel
theorem dX0_accelerationAt_56 : decode cX0_accelerationAt 56 = .ok (.aload_n 0, 1) := by decide +kernel
theorem dX0_accelerationAt_57 : decode cX0_accelerationAt 57 = .ok (.getfield 62, 3) := by decide +kernel
theorem dX0_accelerationAt_60 : decode cX0_accelerationAt 60 = .ok (.invokevirtual 106, 3) := by decide +kernel
theorem dX0_accelerationAt_63 : decode cX0_accelerationAt 63 = .ok (.return_, 1) := by decide +kernel
theorem wf_X0_62 : Cond.fieldLink RX0 62 (TX0 17).1 (TX0 17).2.1 (TX0 17).2.2.1 ∈ ltb := List.mem_filter.mpr ⟨List.mem_append_right _ (List.mem_of_getElem? (i := 110) (by decide +kernel)), by decide +kernel⟩
theorem wf_X0_50 : Cond.fieldLink RX0 50 (TX0 13).1 (TX0 13).2.1 (TX0 13).2.2.1 ∈ ltb := List.mem_filter.mpr ⟨List.mem_append_right _ (List.mem_of_getElem? (i := 106) (by decide +kernel)), by decide +kernel⟩
theorem wc_X4_becomeCross : Cond.code yX4_becomeCross cX4_becomeCross 9 none ∈ ltb := List.mem_filter.mpr ⟨List.mem_append_right _ (List.mem_of_getElem? (i := 362) (by decide +kernel)), by decide +kernel⟩
theorem mi_X4_becomeCross : Mi yX4_becomeCross RX4 2 cX4_becomeCross 9 none := ⟨by decide +kernel, wc_X4_becomeCross, wi_X4, by decide⟩
theorem wv_X4_becomeCross : Cond.instanceMethod yX4_becomeCross ∈ ltb := List.mem_filter.mpr ⟨List.mem_append_right _ (List.mem_of_getElem? (i := 360) (by decide +kernel)), by decide +kernel⟩
theorem we_X4_becomeCross : Cond.selects RX4 yX4_becomeCross yX4_becomeCross ∈ ltb := List.mem_filter.mpr ⟨List.mem_append_right _ (List.mem_of_getElem? (i := 361) (by decide +kernel)), by decide +kernel⟩
theorem wm_X0_118 : Cond.methodLink RX0 118 yX4_becomeCross ∈ ltb := List.mem_filter.mpr ⟨List.mem_append_right _ (List.mem_of_getElem? (i := 359) (by decide +kernel)), by decide +kernel⟩
theorem wf_X0_47 : Cond.fieldLink RX0 47 (TX0 12).1 (TX0 12).2.1 (TX0 12).2.2.1 ∈ ltb := List.mem_filter.mpr ⟨List.mem_append_right _ (List.mem_of_getElem? (i := 105) (by decide +kernel)), by decide +kernel⟩
noncomputable def pr_X0_accelerationAt : Prg := [(0, z_aload 2 1), (1, z_aload 0 1), (2, z_get 0 14), (5, z_callv 1 3 sp_X4_copy), (8, z_aload 0 1), (9, z_get 0 17), (12, z_aload 0 1), (13, z_get 0 13), (16, z_aload 1 1), (17, z_callv 2 3 sp_X4_becomeCross), (20, z_aload 2 1), (21, z_aload 0 1), (22, z_get 0 17), (25, z_callv 1 3 sp_X4_add), (28, z_aload 0 1), (29, z_get 0 17), (32, z_aload 0 1), (33, z_get 0 12), (36, z_aload 1 1), (37, z_callv 2 3 sp_X4_becomeCross), (40, z_aload 0 1), (41, z_get 0 17), (44, z_aload 0 1), (45, z_get 0 12), (48, z_aload 0 1), (49, z_get 0 17), (52, z_callv 2 3 sp_X4_becomeCross), (55, z_aload 2 1), (56, z_aload 0 1), (57, z_get 0 17), (60, z_callv 1 3 sp_X4_add), (63, z_vret)]
set_option maxRecDepth 100000 in
set_option maxHeartbeats 4000000 in
theorem sn_X0_accelerationAt {G : Geo} (hG : GeoOK G) (l : Launch) : ∀ q ∈ pr_X0_accelerationAt, Sn G l yX0_accelerationAt.cls cX0_accelerationAt 3 2 none q.1 q.2 :=
  fcs (zs_aload_n dX0_accelerationAt_0 rfl) <| fcs (zs_aload_n dX0_accelerationAt_1 rfl) <| fcs (zs_get cls0 (by decide) (by decide) wf_X0_53 dX0_accelerationAt_2) <| fcs (zs_callv cls3 (by decide) (ct_X4_copy hG l) mi_X4_copy wv_X4_copy we_X4_copy (by decide) wm_X0_103 dX0_accelerationAt_5) <| fcs (zs_aload_n dX0_accelerationAt_8 rfl) <| fcs (zs_get cls0 (by decide) (by decide) wf_X0_62 dX0_accelerationAt_9) <| fcs (zs_aload_n dX0_accelerationAt_12 rfl) <| fcs (zs_get cls0 (by decide) (by decide) wf_X0_50 dX0_accelerationAt_13) <| fcs (zs_aload_n dX0_accelerationAt_16 rfl) <| fcs (zs_callv cls3 (by decide) (ct_X4_becomeCross hG l) mi_X4_becomeCross wv_X4_becomeCross we_X4_becomeCross (by decide) wm_X0_118 dX0_accelerationAt_17) <| fcs (zs_aload_n dX0_accelerationAt_20 rfl) <| fcs (zs_aload_n dX0_accelerationAt_21 rfl) <| fcs (zs_get cls0 (by decide) (by decide) wf_X0_62 dX0_accelerationAt_22) <| fcs (zs_callv cls3 (by decide) (ct_X4_add hG l) mi_X4_add wv_X4_add we_X4_add (by decide) wm_X0_106 dX0_accelerationAt_25) <| fcs (zs_aload_n dX0_accelerationAt_28 rfl) <| fcs (zs_get cls0 (by decide) (by decide) wf_X0_62 dX0_accelerationAt_29) <| fcs (zs_aload_n dX0_accelerationAt_32 rfl) <| fcs (zs_get cls0 (by decide) (by decide) wf_X0_47 dX0_accelerationAt_33) <| fcs (zs_aload_n dX0_accelerationAt_36 rfl) <| fcs (zs_callv cls3 (by decide) (ct_X4_becomeCross hG l) mi_X4_becomeCross wv_X4_becomeCross we_X4_becomeCross (by decide) wm_X0_118 dX0_accelerationAt_37) <| fcs (zs_aload_n dX0_accelerationAt_40 rfl) <| fcs (zs_get cls0 (by decide) (by decide) wf_X0_62 dX0_accelerationAt_41) <| fcs (zs_aload_n dX0_accelerationAt_44 rfl) <| fcs (zs_get cls0 (by decide) (by decide) wf_X0_47 dX0_accelerationAt_45) <| fcs (zs_aload_n dX0_accelerationAt_48 rfl) <| fcs (zs_get cls0 (by decide) (by decide) wf_X0_62 dX0_accelerationAt_49) <| fcs (zs_callv cls3 (by decide) (ct_X4_becomeCross hG l) mi_X4_becomeCross wv_X4_becomeCross we_X4_becomeCross (by decide) wm_X0_118 dX0_accelerationAt_52) <| fcs (zs_aload_n dX0_accelerationAt_55 rfl) <| fcs (zs_aload_n dX0_accelerationAt_56 rfl) <| fcs (zs_get cls0 (by decide) (by decide) wf_X0_62 dX0_accelerationAt_57) <| fcs (zs_callv cls3 (by decide) (ct_X4_add hG l) mi_X4_add wv_X4_add we_X4_add (by decide) wm_X0_106 dX0_accelerationAt_60) <| fcs (zs_vret dX0_accelerationAt_63) <| fnl
theorem is5_and3 {q w u : Nat × Nat} (hq : is5 q = true) (hw : is5 w = true) (hu : is5 u = true) : (is5 q && is5 w && is5 u) = true := by rw [hq, hw, hu]; rfl
set_option maxRecDepth 100000 in
set_option maxHeartbeats 4000000 in
theorem ct_X0_accelerationAt {G : Geo} (hG : GeoOK G) (l : Launch) : Ct G l yX0_accelerationAt cX0_accelerationAt 3 none 2 sp_X0_accelerationAt := by
  refine Ct.of pr_X0_accelerationAt hG (by decide +kernel) (sn_X0_accelerationAt hG l) ?_
  intro av σ post hok h
  unfold sp_X0_accelerationAt at h
  split at h
  · rename_i b a r
    obtain ⟨b, k⟩ := b
    obtain ⟨hb, h⟩ := bif_t h
    rw [Bool.and_eq_true, Bool.and_eq_true] at hb
    obtain ⟨hb, ha, hr⟩ := hb
    obtain rfl : b = 2 := beq1 hb
    refine ⟨Nat.le_of_ble_eq_true rfl, fun X hX => ?_⟩
    refine go hX [] 60 ?_
    refine callv5 (n := 1) ?_ ?_
    · exact rcv5 hr _
    refine bif5 rfl ?_
    refine bif5 (is5_and hr rfl) ?_
    refine bif5 (is5_and3 rfl rfl ha) ?_
    refine callv5 (n := 1) ?_ ?_
    · exact rcv5 hr _
    refine bif5 rfl ?_
    refine bif5 (is5_and hr rfl) ?_
    refine bif5 (is5_and3 rfl rfl ha) ?_
    refine callv5 (n := 1) ?_ ?_
    · exact rcv5 hr _
    refine bif5 rfl ?_
    refine bif5 (is5_and hr rfl) ?_
    exact h
  · exact h.elim
def b_mov (σ : SS) (k p : Nat) (v a : ZF) : SS :=
  let σ := o_cpy σ (63, k) (63, p)
  let σ := o_cpy σ (64, k) (64, p)
  let σ := b_acc σ p (60, k) (65, k)
  let σ := o_crs σ (68, k) (63, p) (57, k)
  let σ := o_sca σ (68, k) v
  if σ.2.2 2 k = 0 then o_add (o_adt (o_adt σ (63, k) (57, k) v) (64, k) (57, k) a) (64, k) (68, k) else o_adt (o_adt σ (65, k) (68, k) 2) (65, k) (57, k) a
noncomputable def sp_X0_move : Spc := fun av σ post => match av with
  | [.inr (.inr b), .inr (.inr w), .inr (.inl (.inr v)), .inr (.inl (.inr a))] => bif bdy2 b w then post none (b_mov σ b.2 w.2 v a) else False
  | _ => False
theorem dX0_move_0 : decode cX0_move 0 = .ok (.aload_n 0, 1) := by decide +kernel
theorem dX0_move_1 : decode cX0_move 1 = .ok (.getfield 47, 3) := by decide +kernel
theorem dX0_move_4 : decode cX0_move 4 = .ok (.aload_n 1, 1) := by decide +kernel
theorem dX0_move_5 : decode cX0_move 5 = .ok (.getfield 47, 3) := by decide +kernel
theorem dX0_move_8 : decode cX0_move 8 = .ok (.invokevirtual 103, 3) := by decide +kernel
theorem dX0_move_11 : decode cX0_move 11 = .ok (.aload_n 0, 1) := by decide +kernel
theorem dX0_move_12 : decode cX0_move 12 = .ok (.getfield 50, 3) := by decide +kernel
theorem dX0_move_15 : decode cX0_move 15 = .ok (.aload_n 1, 1) := by decide +kernel
theorem dX0_move_16 : decode cX0_move 16 = .ok (.getfield 50, 3) := by decide +kernel
theorem dX0_move_19 : decode cX0_move 19 = .ok (.invokevirtual 103, 3) := by decide +kernel
theorem dX0_move_22 : decode cX0_move 22 = .ok (.aload_n 1, 1) := by decide +kernel
theorem dX0_move_23 : decode cX0_move 23 = .ok (.aload_n 0, 1) := by decide +kernel
theorem dX0_move_24 : decode cX0_move 24 = .ok (.getfield 38, 3) := by decide +kernel
theorem dX0_move_27 : decode cX0_move 27 = .ok (.aload_n 0, 1) := by decide +kernel
theorem dX0_move_28 : decode cX0_move 28 = .ok (.getfield 53, 3) := by decide +kernel
theorem dX0_move_31 : decode cX0_move 31 = .ok (.invokevirtual 115, 3) := by decide +kernel
theorem dX0_move_34 : decode cX0_move 34 = .ok (.aload_n 0, 1) := by decide +kernel
theorem dX0_move_35 : decode cX0_move 35 = .ok (.getfield 62, 3) := by decide +kernel
theorem dX0_move_38 : decode cX0_move 38 = .ok (.aload_n 1, 1) := by decide +kernel
theorem dX0_move_39 : decode cX0_move 39 = .ok (.getfield 47, 3) := by decide +kernel
theorem dX0_move_42 : decode cX0_move 42 = .ok (.aload_n 0, 1) := by decide +kernel
theorem dX0_move_43 : decode cX0_move 43 = .ok (.invokevirtual 76, 3) := by decide +kernel
theorem dX0_move_46 : decode cX0_move 46 = .ok (.invokevirtual 118, 3) := by decide +kernel
theorem dX0_move_49 : decode cX0_move 49 = .ok (.aload_n 0, 1) := by decide +kernel
theorem dX0_move_50 : decode cX0_move 50 = .ok (.getfield 62, 3) := by decide +kernel
theorem dX0_move_53 : decode cX0_move 53 = .ok (.lload_n 2, 1) := by decide +kernel
theorem dX0_move_54 : decode cX0_move 54 = .ok (.invokevirtual 121, 3) := by decide +kernel
theorem dX0_move_57 : decode cX0_move 57 = .ok (.aload_n 0, 1) := by decide +kernel
theorem dX0_move_58 : decode cX0_move 58 = .ok (.getfield 69, 3) := by decide +kernel
theorem dX0_move_61 : decode cX0_move 61 = .ok (.ifCond .eq 33, 3) := by decide +kernel
theorem dX0_move_64 : decode cX0_move 64 = .ok (.aload_n 0, 1) := by decide +kernel
theorem dX0_move_65 : decode cX0_move 65 = .ok (.getfield 53, 3) := by decide +kernel
theorem dX0_move_68 : decode cX0_move 68 = .ok (.aload_n 0, 1) := by decide +kernel
theorem dX0_move_69 : decode cX0_move 69 = .ok (.getfield 62, 3) := by decide +kernel
theorem dX0_move_72 : decode cX0_move 72 = .ok (.ldc2_w 124, 3) := by decide +kernel
theorem dX0_move_75 : decode cX0_move 75 = .ok (.invokevirtual 96, 3) := by decide +kernel
theorem dX0_move_78 : decode cX0_move 78 = .ok (.aload_n 0, 1) := by decide +kernel
theorem dX0_move_79 : decode cX0_move 79 = .ok (.getfield 53, 3) := by decide +kernel
theorem dX0_move_82 : decode cX0_move 82 = .ok (.aload_n 0, 1) := by decide +kernel
theorem dX0_move_83 : decode cX0_move 83 = .ok (.invokevirtual 76, 3) := by decide +kernel
theorem dX0_move_86 : decode cX0_move 86 = .ok (.lload 4, 2) := by decide +kernel
theorem dX0_move_88 : decode cX0_move 88 = .ok (.invokevirtual 96, 3) := by decide +kernel
theorem dX0_move_91 : decode cX0_move 91 = .ok (.goto 39, 3) := by decide +kernel
theorem dX0_move_94 : decode cX0_move 94 = .ok (.aload_n 0, 1) := by decide +kernel
theorem dX0_move_95 : decode cX0_move 95 = .ok (.getfield 47, 3) := by decide +kernel
theorem dX0_move_98 : decode cX0_move 98 = .ok (.aload_n 0, 1) := by decide +kernel
theorem dX0_move_99 : decode cX0_move 99 = .ok (.invokevirtual 76, 3) := by decide +kernel
theorem dX0_move_102 : decode cX0_move 102 = .ok (.lload_n 2, 1) := by decide +kernel
theorem dX0_move_103 : decode cX0_move 103 = .ok (.invokevirtual 96, 3) := by decide +kernel
theorem dX0_move_106 : decode cX0_move 106 = .ok (.aload_n 0, 1) := by decide +kernel
theorem dX0_move_107 : decode cX0_move 107 = .ok (.getfield 50, 3) := by decide +kernel
theorem dX0_move_110 : decode cX0_move 110 = .ok (.aload_n 0, 1) := by decide +kernel
theorem dX0_move_111 : decode cX0_move 111 = .ok (.invokevirtual 76, 3) := by decide +kernel
theorem dX0_move_114 : decode cX0_move 114 = .ok (.lload 4, 2) := by decide +kernel
theorem dX0_move_116 : decode cX0_move 116 = .ok (.invokevirtual 96, 3) := by decide +kernel
theorem dX0_move_119 : decode cX0_move 119 = .ok (.aload_n 0, 1) := by decide +kernel
theorem dX0_move_120 : decode cX0_move 120 = .ok (.getfield 50, 3) := by decide +kernel
theorem dX0_move_123 : decode cX0_move 123 = .ok (.aload_n 0, 1) := by decide +kernel
theorem dX0_move_124 : decode cX0_move 124 = .ok (.getfield 62, 3) := by decide +kernel
theorem dX0_move_127 : decode cX0_move 127 = .ok (.invokevirtual 106, 3) := by decide +kernel
theorem dX0_move_130 : decode cX0_move 130 = .ok (.return_, 1) := by decide +kernel
theorem wc_X0_accelerationAt : Cond.code yX0_accelerationAt cX0_accelerationAt 3 none ∈ ltb := List.mem_filter.mpr ⟨List.mem_append_right _ (List.mem_of_getElem? (i := 358) (by decide +kernel)), by decide +kernel⟩
theorem mi_X0_accelerationAt : Mi yX0_accelerationAt RX0 2 cX0_accelerationAt 3 none := ⟨by decide +kernel, wc_X0_accelerationAt, wi_X0, by decide⟩
theorem wv_X0_accelerationAt : Cond.instanceMethod yX0_accelerationAt ∈ ltb := List.mem_filter.mpr ⟨List.mem_append_right _ (List.mem_of_getElem? (i := 356) (by decide +kernel)), by decide +kernel⟩
theorem we_X0_accelerationAt : Cond.selects RX0 yX0_accelerationAt yX0_accelerationAt ∈ ltb := List.mem_filter.mpr ⟨List.mem_append_right _ (List.mem_of_getElem? (i := 357) (by decide +kernel)), by decide +kernel⟩
theorem wm_X0_115 : Cond.methodLink RX0 115 yX0_accelerationAt ∈ ltb := List.mem_filter.mpr ⟨List.mem_append_right _ (List.mem_of_getElem? (i := 355) (by decide +kernel)), by decide +kernel⟩
theorem wm_X0_121 : Cond.methodLink RX0 121 yX4_scale ∈ ltb := List.mem_filter.mpr ⟨List.mem_append_right _ (List.mem_of_getElem? (i := 364) (by decide +kernel)), by decide +kernel⟩
theorem wl_X0_124 : Cond.constantLong RX0 124 (lv (.inr 2)) ∈ ltb := List.mem_filter.mpr ⟨List.mem_append_right _ (List.mem_of_getElem? (i := 365) (by decide +kernel)), by decide +kernel⟩
noncomputable def pr_X0_move : Prg := [(0, z_aload 0 1), (1, z_get 0 12), (4, z_aload 1 1), (5, z_get 0 12), (8, z_callv 1 3 sp_X4_copy), (11, z_aload 0 1), (12, z_get 0 13), (15, z_aload 1 1), (16, z_get 0 13), (19, z_callv 1 3 sp_X4_copy), (22, z_aload 1 1), (23, z_aload 0 1), (24, z_get 0 9), (27, z_aload 0 1), (28, z_get 0 14), (31, z_callv 2 0 sp_X0_accelerationAt), (34, z_aload 0 1), (35, z_get 0 17), (38, z_aload 1 1), (39, z_get 0 12), (42, z_aload 0 1), (43, z_callv 0 0 sp_X0_axisVector), (46, z_callv 2 3 sp_X4_becomeCross), (49, z_aload 0 1), (50, z_get 0 17), (53, z_lload 2 1), (54, z_callv 1 3 sp_X4_scale), (57, z_aload 0 1), (58, z_get 0 1), (61, z_if1 (fun x => x = 0) 94), (64, z_aload 0 1), (65, z_get 0 14), (68, z_aload 0 1), (69, z_get 0 17), (72, z_lc (.inr 2) 3), (75, z_callv 2 3 sp_X4_addTimes), (78, z_aload 0 1), (79, z_get 0 14), (82, z_aload 0 1), (83, z_callv 0 0 sp_X0_axisVector), (86, z_lload 4 2), (88, z_callv 2 3 sp_X4_addTimes), (91, z_goto 130), (94, z_aload 0 1), (95, z_get 0 12), (98, z_aload 0 1), (99, z_callv 0 0 sp_X0_axisVector), (102, z_lload 2 1), (103, z_callv 2 3 sp_X4_addTimes), (106, z_aload 0 1), (107, z_get 0 13), (110, z_aload 0 1), (111, z_callv 0 0 sp_X0_axisVector), (114, z_lload 4 2), (116, z_callv 2 3 sp_X4_addTimes), (119, z_aload 0 1), (120, z_get 0 13), (123, z_aload 0 1), (124, z_get 0 17), (127, z_callv 1 3 sp_X4_add), (130, z_vret)]
set_option maxRecDepth 100000 in
set_option maxHeartbeats 4000000 in
theorem sn_X0_move {G : Geo} (hG : GeoOK G) (l : Launch) : ∀ q ∈ pr_X0_move, Sn G l yX0_move.cls cX0_move 6 3 none q.1 q.2 :=
  fcs (zs_aload_n dX0_move_0 rfl) <| fcs (zs_get cls0 (by decide) (by decide) wf_X0_47 dX0_move_1) <| fcs (zs_aload_n dX0_move_4 rfl) <| fcs (zs_get cls0 (by decide) (by decide) wf_X0_47 dX0_move_5) <| fcs (zs_callv cls3 (by decide) (ct_X4_copy hG l) mi_X4_copy wv_X4_copy we_X4_copy (by decide) wm_X0_103 dX0_move_8) <| fcs (zs_aload_n dX0_move_11 rfl) <| fcs (zs_get cls0 (by decide) (by decide) wf_X0_50 dX0_move_12) <| fcs (zs_aload_n dX0_move_15 rfl) <| fcs (zs_get cls0 (by decide) (by decide) wf_X0_50 dX0_move_16) <| fcs (zs_callv cls3 (by decide) (ct_X4_copy hG l) mi_X4_copy wv_X4_copy we_X4_copy (by decide) wm_X0_103 dX0_move_19) <| fcs (zs_aload_n dX0_move_22 rfl) <| fcs (zs_aload_n dX0_move_23 rfl) <| fcs (zs_get cls0 (by decide) (by decide) wf_X0_38 dX0_move_24) <| fcs (zs_aload_n dX0_move_27 rfl) <| fcs (zs_get cls0 (by decide) (by decide) wf_X0_53 dX0_move_28) <| fcs (zs_callv cls0 (by decide) (ct_X0_accelerationAt hG l) mi_X0_accelerationAt wv_X0_accelerationAt we_X0_accelerationAt (by decide) wm_X0_115 dX0_move_31) <| fcs (zs_aload_n dX0_move_34 rfl) <| fcs (zs_get cls0 (by decide) (by decide) wf_X0_62 dX0_move_35) <| fcs (zs_aload_n dX0_move_38 rfl) <| fcs (zs_get cls0 (by decide) (by decide) wf_X0_47 dX0_move_39) <| fcs (zs_aload_n dX0_move_42 rfl) <| fcs (zs_callv cls0 (by decide) (ct_X0_axisVector hG l) mi_X0_axisVector wv_X0_axisVector we_X0_axisVector (by decide) wm_X0_76 dX0_move_43) <| fcs (zs_callv cls3 (by decide) (ct_X4_becomeCross hG l) mi_X4_becomeCross wv_X4_becomeCross we_X4_becomeCross (by decide) wm_X0_118 dX0_move_46) <| fcs (zs_aload_n dX0_move_49 rfl) <| fcs (zs_get cls0 (by decide) (by decide) wf_X0_62 dX0_move_50) <| fcs (zs_lload_n dX0_move_53 rfl) <| fcs (zs_callv cls3 (by decide) (ct_X4_scale hG l) mi_X4_scale wv_X4_scale we_X4_scale (by decide) wm_X0_121 dX0_move_54) <| fcs (zs_aload_n dX0_move_57 rfl) <| fcs (zs_get cls0 (by decide) (by decide) wf_X0_69 dX0_move_58) <| fcs (zs_if_eq dX0_move_61 rfl) <| fcs (zs_aload_n dX0_move_64 rfl) <| fcs (zs_get cls0 (by decide) (by decide) wf_X0_53 dX0_move_65) <| fcs (zs_aload_n dX0_move_68 rfl) <| fcs (zs_get cls0 (by decide) (by decide) wf_X0_62 dX0_move_69) <| fcs (zs_ldc2 dX0_move_72 wl_X0_124) <| fcs (zs_callv cls3 (by decide) (ct_X4_addTimes hG l) mi_X4_addTimes wv_X4_addTimes we_X4_addTimes (by decide) wm_X0_96 dX0_move_75) <| fcs (zs_aload_n dX0_move_78 rfl) <| fcs (zs_get cls0 (by decide) (by decide) wf_X0_53 dX0_move_79) <| fcs (zs_aload_n dX0_move_82 rfl) <| fcs (zs_callv cls0 (by decide) (ct_X0_axisVector hG l) mi_X0_axisVector wv_X0_axisVector we_X0_axisVector (by decide) wm_X0_76 dX0_move_83) <| fcs (zs_lload dX0_move_86) <| fcs (zs_callv cls3 (by decide) (ct_X4_addTimes hG l) mi_X4_addTimes wv_X4_addTimes we_X4_addTimes (by decide) wm_X0_96 dX0_move_88) <| fcs (zs_goto dX0_move_91 rfl) <| fcs (zs_aload_n dX0_move_94 rfl) <| fcs (zs_get cls0 (by decide) (by decide) wf_X0_47 dX0_move_95) <| fcs (zs_aload_n dX0_move_98 rfl) <| fcs (zs_callv cls0 (by decide) (ct_X0_axisVector hG l) mi_X0_axisVector wv_X0_axisVector we_X0_axisVector (by decide) wm_X0_76 dX0_move_99) <| fcs (zs_lload_n dX0_move_102 rfl) <| fcs (zs_callv cls3 (by decide) (ct_X4_addTimes hG l) mi_X4_addTimes wv_X4_addTimes we_X4_addTimes (by decide) wm_X0_96 dX0_move_103) <| fcs (zs_aload_n dX0_move_106 rfl) <| fcs (zs_get cls0 (by decide) (by decide) wf_X0_50 dX0_move_107) <| fcs (zs_aload_n dX0_move_110 rfl) <| fcs (zs_callv cls0 (by decide) (ct_X0_axisVector hG l) mi_X0_axisVector wv_X0_axisVector we_X0_axisVector (by decide) wm_X0_76 dX0_move_111) <| fcs (zs_lload dX0_move_114) <| fcs (zs_callv cls3 (by decide) (ct_X4_addTimes hG l) mi_X4_addTimes wv_X4_addTimes we_X4_addTimes (by decide) wm_X0_96 dX0_move_116) <| fcs (zs_aload_n dX0_move_119 rfl) <| fcs (zs_get cls0 (by decide) (by decide) wf_X0_50 dX0_move_120) <| fcs (zs_aload_n dX0_move_123 rfl) <| fcs (zs_get cls0 (by decide) (by decide) wf_X0_62 dX0_move_124) <| fcs (zs_callv cls3 (by decide) (ct_X4_add hG l) mi_X4_add wv_X4_add we_X4_add (by decide) wm_X0_106 dX0_move_127) <| fcs (zs_vret dX0_move_130) <| fnl
set_option maxRecDepth 100000 in
set_option maxHeartbeats 4000000 in
theorem ct_X0_move {G : Geo} (hG : GeoOK G) (l : Launch) : Ct G l yX0_move cX0_move 6 none 3 sp_X0_move := by
  refine Ct.of pr_X0_move hG (by decide +kernel) (sn_X0_move hG l) ?_
  intro av σ post hok h
  unfold sp_X0_move at h
  split at h
  · rename_i b w v a
    obtain ⟨b, k⟩ := b
    obtain ⟨w, p⟩ := w
    obtain ⟨hb, h⟩ := bif_t h
    obtain ⟨rfl, rfl⟩ : b = 2 ∧ w = 2 := beq2 hb
    refine ⟨Nat.le_of_ble_eq_true rfl, fun X hX => ?_⟩
    refine go hX [] 90 ?_
    have g0 : (o_sca (o_crs (b_acc (o_cpy (o_cpy σ (63, k) (63, p)) (64, k) (64, p)) p (60, k) (65, k)) (68, k) (63, p) (57, k)) (68, k) v).2.2 2 k = σ.2.2 2 k := rfl
    unfold b_mov at h
    dsimp only at h
    rw [g0] at h
    refine ⟨fun g1 => ?_, fun g1 => ?_⟩
    · rw [if_pos (show σ.2.2 2 k = 0 from g1)] at h
      exact h
    · rw [if_neg (show ¬ σ.2.2 2 k = 0 from g1)] at h
      exact h
  · exact h.elim
def b_ine (σ : SS) (k : Nat) (a r : Nat × Nat) : SS := f_out (i_app (f_inw σ k a r) k r) k r r
noncomputable def sp_X0_applyInertia : Spc := fun av σ post => match av with
  | [.inr (.inr b), .inr (.inr a), .inr (.inr r)] => bif Nat.beq b.1 2 && (is5 a && is5 r) then post none (b_ine σ b.2 a r) else False
  | _ => False
theorem dX0_applyInertia_0 : decode cX0_applyInertia 0 = .ok (.aload_n 0, 1) := by decide +kernel
theorem dX0_applyInertia_1 : decode cX0_applyInertia 1 = .ok (.getfield 31, 3) := by decide +kernel
theorem dX0_applyInertia_4 : decode cX0_applyInertia 4 = .ok (.aload_n 1, 1) := by decide +kernel
theorem dX0_applyInertia_5 : decode cX0_applyInertia 5 = .ok (.aload_n 2, 1) := by decide +kernel
theorem dX0_applyInertia_6 : decode cX0_applyInertia 6 = .ok (.invokevirtual 132, 3) := by decide +kernel
theorem dX0_applyInertia_9 : decode cX0_applyInertia 9 = .ok (.aload_n 0, 1) := by decide +kernel
theorem dX0_applyInertia_10 : decode cX0_applyInertia 10 = .ok (.getfield 24, 3) := by decide +kernel
theorem dX0_applyInertia_13 : decode cX0_applyInertia 13 = .ok (.aload_n 2, 1) := by decide +kernel
theorem dX0_applyInertia_14 : decode cX0_applyInertia 14 = .ok (.invokevirtual 135, 3) := by decide +kernel
theorem dX0_applyInertia_17 : decode cX0_applyInertia 17 = .ok (.aload_n 0, 1) := by decide +kernel
theorem dX0_applyInertia_18 : decode cX0_applyInertia 18 = .ok (.getfield 31, 3) := by decide +kernel
theorem dX0_applyInertia_21 : decode cX0_applyInertia 21 = .ok (.aload_n 2, 1) := by decide +kernel
theorem dX0_applyInertia_22 : decode cX0_applyInertia 22 = .ok (.aload_n 2, 1) := by decide +kernel
theorem dX0_applyInertia_23 : decode cX0_applyInertia 23 = .ok (.invokevirtual 92, 3) := by decide +kernel
theorem dX0_applyInertia_26 : decode cX0_applyInertia 26 = .ok (.return_, 1) := by decide +kernel
theorem wc_X2_inward : Cond.code yX2_inward cX2_inward 9 none ∈ ltb := List.mem_filter.mpr ⟨List.mem_append_right _ (List.mem_of_getElem? (i := 377) (by decide +kernel)), by decide +kernel⟩
theorem mi_X2_inward : Mi yX2_inward RX2 2 cX2_inward 9 none := ⟨by decide +kernel, wc_X2_inward, wi_X2, by decide⟩
theorem wv_X2_inward : Cond.instanceMethod yX2_inward ∈ ltb := List.mem_filter.mpr ⟨List.mem_append_right _ (List.mem_of_getElem? (i := 375) (by decide +kernel)), by decide +kernel⟩
theorem we_X2_inward : Cond.selects RX2 yX2_inward yX2_inward ∈ ltb := List.mem_filter.mpr ⟨List.mem_append_right _ (List.mem_of_getElem? (i := 376) (by decide +kernel)), by decide +kernel⟩
theorem wm_X0_132 : Cond.methodLink RX0 132 yX2_inward ∈ ltb := List.mem_filter.mpr ⟨List.mem_append_right _ (List.mem_of_getElem? (i := 374) (by decide +kernel)), by decide +kernel⟩
theorem wf_X0_24 : Cond.fieldLink RX0 24 (TX0 6).1 (TX0 6).2.1 (TX0 6).2.2.1 ∈ ltb := List.mem_filter.mpr ⟨List.mem_append_right _ (List.mem_of_getElem? (i := 97) (by decide +kernel)), by decide +kernel⟩
theorem wc_X3_applyTo : Cond.code yX3_applyTo cX3_applyTo 8 none ∈ ltb := List.mem_filter.mpr ⟨List.mem_append_right _ (List.mem_of_getElem? (i := 385) (by decide +kernel)), by decide +kernel⟩
theorem wi_X3 : Cond.initialized RX3 ∈ ltb := List.mem_filter.mpr ⟨List.mem_append_right _ (List.mem_of_getElem? (i := 4) (by decide +kernel)), by decide +kernel⟩
theorem mi_X3_applyTo : Mi yX3_applyTo RX3 1 cX3_applyTo 8 none := ⟨by decide +kernel, wc_X3_applyTo, wi_X3, by decide⟩
theorem wv_X3_applyTo : Cond.instanceMethod yX3_applyTo ∈ ltb := List.mem_filter.mpr ⟨List.mem_append_right _ (List.mem_of_getElem? (i := 383) (by decide +kernel)), by decide +kernel⟩
theorem we_X3_applyTo : Cond.selects RX3 yX3_applyTo yX3_applyTo ∈ ltb := List.mem_filter.mpr ⟨List.mem_append_right _ (List.mem_of_getElem? (i := 384) (by decide +kernel)), by decide +kernel⟩
theorem wm_X0_135 : Cond.methodLink RX0 135 yX3_applyTo ∈ ltb := List.mem_filter.mpr ⟨List.mem_append_right _ (List.mem_of_getElem? (i := 382) (by decide +kernel)), by decide +kernel⟩
noncomputable def pr_X0_applyInertia : Prg := [(0, z_aload 0 1), (1, z_get 0 7), (4, z_aload 1 1), (5, z_aload 2 1), (6, z_callv 2 1 sp_X2_inward), (9, z_aload 0 1), (10, z_get 0 6), (13, z_aload 2 1), (14, z_callv 1 2 sp_X3_applyTo), (17, z_aload 0 1), (18, z_get 0 7), (21, z_aload 2 1), (22, z_aload 2 1), (23, z_callv 2 1 sp_X2_outward), (26, z_vret)]
set_option maxRecDepth 100000 in
set_option maxHeartbeats 4000000 in
theorem sn_X0_applyInertia {G : Geo} (hG : GeoOK G) (l : Launch) : ∀ q ∈ pr_X0_applyInertia, Sn G l yX0_applyInertia.cls cX0_applyInertia 3 2 none q.1 q.2 :=
  fcs (zs_aload_n dX0_applyInertia_0 rfl) <| fcs (zs_get cls0 (by decide) (by decide) wf_X0_31 dX0_applyInertia_1) <| fcs (zs_aload_n dX0_applyInertia_4 rfl) <| fcs (zs_aload_n dX0_applyInertia_5 rfl) <| fcs (zs_callv cls1 (by decide) (ct_X2_inward hG l) mi_X2_inward wv_X2_inward we_X2_inward (by decide) wm_X0_132 dX0_applyInertia_6) <| fcs (zs_aload_n dX0_applyInertia_9 rfl) <| fcs (zs_get cls0 (by decide) (by decide) wf_X0_24 dX0_applyInertia_10) <| fcs (zs_aload_n dX0_applyInertia_13 rfl) <| fcs (zs_callv cls2 (by decide) (ct_X3_applyTo hG l) mi_X3_applyTo wv_X3_applyTo we_X3_applyTo (by decide) wm_X0_135 dX0_applyInertia_14) <| fcs (zs_aload_n dX0_applyInertia_17 rfl) <| fcs (zs_get cls0 (by decide) (by decide) wf_X0_31 dX0_applyInertia_18) <| fcs (zs_aload_n dX0_applyInertia_21 rfl) <| fcs (zs_aload_n dX0_applyInertia_22 rfl) <| fcs (zs_callv cls1 (by decide) (ct_X2_outward hG l) mi_X2_outward wv_X2_outward we_X2_outward (by decide) wm_X0_92 dX0_applyInertia_23) <| fcs (zs_vret dX0_applyInertia_26) <| fnl
set_option maxRecDepth 100000 in
set_option maxHeartbeats 4000000 in
theorem ct_X0_applyInertia {G : Geo} (hG : GeoOK G) (l : Launch) : Ct G l yX0_applyInertia cX0_applyInertia 3 none 2 sp_X0_applyInertia := by
  refine Ct.of pr_X0_applyInertia hG (by decide +kernel) (sn_X0_applyInertia hG l) ?_
  intro av σ post hok h
  unfold sp_X0_applyInertia at h
  split at h
  · rename_i b a r
    obtain ⟨b, k⟩ := b
    obtain ⟨hb, h⟩ := bif_t h
    rw [Bool.and_eq_true, Bool.and_eq_true] at hb
    obtain ⟨hb, ha, hr⟩ := hb
    obtain rfl : b = 2 := beq1 hb
    refine ⟨Nat.le_of_ble_eq_true rfl, fun X hX => ?_⟩
    refine go hX [] 60 ?_
    refine bif5 (by rw [ha, hr]; rfl) ?_
    refine bif5 (by rw [hr]; rfl) ?_
    refine bif5 (by rw [hr]; rfl) ?_
    exact h
  · exact h.elim
def b_lod (σ : SS) (k : Nat) : SS :=
  let σ := b_acc σ k (61, k) (66, k)
  let σ := o_sca σ (66, k) (σ.2.1 2 k 1)
  let σ := b_ine σ k (64, k) (67, k)
  let σ := b_ine σ k (63, k) (68, k)
  let σ := o_crs σ (68, k) (63, k) (68, k)
  let σ := o_add σ (67, k) (68, k)
  let σ := o_crs σ (68, k) (62, k) (66, k)
  o_add σ (67, k) (68, k)
noncomputable def sp_X0_load : Spc := fun av σ post => match av with
  | [.inr (.inr b)] => bif Nat.beq b.1 2 then post none (b_lod σ b.2) else False
  | _ => False
theorem dX0_load_0 : decode cX0_load 0 = .ok (.aload_n 0, 1) := by decide +kernel
theorem dX0_load_1 : decode cX0_load 1 = .ok (.aload_n 0, 1) := by decide +kernel
theorem dX0_load_2 : decode cX0_load 2 = .ok (.getfield 41, 3) := by decide +kernel
theorem dX0_load_5 : decode cX0_load 5 = .ok (.aload_n 0, 1) := by decide +kernel
theorem dX0_load_6 : decode cX0_load 6 = .ok (.getfield 56, 3) := by decide +kernel
theorem dX0_load_9 : decode cX0_load 9 = .ok (.invokevirtual 115, 3) := by decide +kernel
theorem dX0_load_12 : decode cX0_load 12 = .ok (.aload_n 0, 1) := by decide +kernel
theorem dX0_load_13 : decode cX0_load 13 = .ok (.getfield 56, 3) := by decide +kernel
theorem dX0_load_16 : decode cX0_load 16 = .ok (.aload_n 0, 1) := by decide +kernel
theorem dX0_load_17 : decode cX0_load 17 = .ok (.getfield 126, 3) := by decide +kernel
theorem dX0_load_20 : decode cX0_load 20 = .ok (.invokevirtual 121, 3) := by decide +kernel
theorem dX0_load_23 : decode cX0_load 23 = .ok (.aload_n 0, 1) := by decide +kernel
theorem dX0_load_24 : decode cX0_load 24 = .ok (.aload_n 0, 1) := by decide +kernel
theorem dX0_load_25 : decode cX0_load 25 = .ok (.getfield 50, 3) := by decide +kernel
theorem dX0_load_28 : decode cX0_load 28 = .ok (.aload_n 0, 1) := by decide +kernel
theorem dX0_load_29 : decode cX0_load 29 = .ok (.getfield 59, 3) := by decide +kernel
theorem dX0_load_32 : decode cX0_load 32 = .ok (.invokevirtual 129, 3) := by decide +kernel
theorem dX0_load_35 : decode cX0_load 35 = .ok (.aload_n 0, 1) := by decide +kernel
theorem dX0_load_36 : decode cX0_load 36 = .ok (.aload_n 0, 1) := by decide +kernel
theorem dX0_load_37 : decode cX0_load 37 = .ok (.getfield 47, 3) := by decide +kernel
theorem dX0_load_40 : decode cX0_load 40 = .ok (.aload_n 0, 1) := by decide +kernel
theorem dX0_load_41 : decode cX0_load 41 = .ok (.getfield 62, 3) := by decide +kernel
theorem dX0_load_44 : decode cX0_load 44 = .ok (.invokevirtual 129, 3) := by decide +kernel
theorem dX0_load_47 : decode cX0_load 47 = .ok (.aload_n 0, 1) := by decide +kernel
theorem dX0_load_48 : decode cX0_load 48 = .ok (.getfield 62, 3) := by decide +kernel
theorem dX0_load_51 : decode cX0_load 51 = .ok (.aload_n 0, 1) := by decide +kernel
theorem dX0_load_52 : decode cX0_load 52 = .ok (.getfield 47, 3) := by decide +kernel
theorem dX0_load_55 : decode cX0_load 55 = .ok (.aload_n 0, 1) := by decide +kernel
theorem dX0_load_56 : decode cX0_load 56 = .ok (.getfield 62, 3) := by decide +kernel
theorem dX0_load_59 : decode cX0_load 59 = .ok (.invokevirtual 118, 3) := by decide +kernel
theorem dX0_load_62 : decode cX0_load 62 = .ok (.aload_n 0, 1) := by decide +kernel
theorem dX0_load_63 : decode cX0_load 63 = .ok (.getfield 59, 3) := by decide +kernel
theorem dX0_load_66 : decode cX0_load 66 = .ok (.aload_n 0, 1) := by decide +kernel
theorem dX0_load_67 : decode cX0_load 67 = .ok (.getfield 62, 3) := by decide +kernel
theorem dX0_load_70 : decode cX0_load 70 = .ok (.invokevirtual 106, 3) := by decide +kernel
theorem dX0_load_73 : decode cX0_load 73 = .ok (.aload_n 0, 1) := by decide +kernel
theorem dX0_load_74 : decode cX0_load 74 = .ok (.getfield 62, 3) := by decide +kernel
theorem dX0_load_77 : decode cX0_load 77 = .ok (.aload_n 0, 1) := by decide +kernel
theorem dX0_load_78 : decode cX0_load 78 = .ok (.getfield 44, 3) := by decide +kernel
theorem dX0_load_81 : decode cX0_load 81 = .ok (.aload_n 0, 1) := by decide +kernel
theorem dX0_load_82 : decode cX0_load 82 = .ok (.getfield 56, 3) := by decide +kernel
theorem dX0_load_85 : decode cX0_load 85 = .ok (.invokevirtual 118, 3) := by decide +kernel
theorem dX0_load_88 : decode cX0_load 88 = .ok (.aload_n 0, 1) := by decide +kernel
theorem dX0_load_89 : decode cX0_load 89 = .ok (.getfield 59, 3) := by decide +kernel
theorem dX0_load_92 : decode cX0_load 92 = .ok (.aload_n 0, 1) := by decide +kernel
theorem dX0_load_93 : decode cX0_load 93 = .ok (.getfield 62, 3) := by decide +kernel
theorem dX0_load_96 : decode cX0_load 96 = .ok (.invokevirtual 106, 3) := by decide +kernel
theorem dX0_load_99 : decode cX0_load 99 = .ok (.return_, 1) := by decide +kernel
theorem wf_X0_126 : Cond.fieldLink RX0 126 (TX0 4).1 (TX0 4).2.1 (TX0 4).2.2.1 ∈ ltb := List.mem_filter.mpr ⟨List.mem_append_right _ (List.mem_of_getElem? (i := 94) (by decide +kernel)), by decide +kernel⟩
theorem wc_X0_applyInertia : Cond.code yX0_applyInertia cX0_applyInertia 3 none ∈ ltb := List.mem_filter.mpr ⟨List.mem_append_right _ (List.mem_of_getElem? (i := 373) (by decide +kernel)), by decide +kernel⟩
theorem mi_X0_applyInertia : Mi yX0_applyInertia RX0 2 cX0_applyInertia 3 none := ⟨by decide +kernel, wc_X0_applyInertia, wi_X0, by decide⟩
theorem wv_X0_applyInertia : Cond.instanceMethod yX0_applyInertia ∈ ltb := List.mem_filter.mpr ⟨List.mem_append_right _ (List.mem_of_getElem? (i := 372) (by decide +kernel)), by decide +kernel⟩
theorem we_X0_applyInertia : Cond.selects RX0 yX0_applyInertia yX0_applyInertia ∈ ltb := List.mem_filter.mpr ⟨List.mem_append_left _ (List.mem_of_getElem? (i := 4) (by decide +kernel)), by decide +kernel⟩
theorem wm_X0_129 : Cond.methodLink RX0 129 yX0_applyInertia ∈ ltb := List.mem_filter.mpr ⟨List.mem_append_right _ (List.mem_of_getElem? (i := 370) (by decide +kernel)), by decide +kernel⟩
noncomputable def pr_X0_load : Prg := [(0, z_aload 0 1), (1, z_aload 0 1), (2, z_get 0 10), (5, z_aload 0 1), (6, z_get 0 15), (9, z_callv 2 0 sp_X0_accelerationAt), (12, z_aload 0 1), (13, z_get 0 15), (16, z_aload 0 1), (17, z_get 0 4), (20, z_callv 1 3 sp_X4_scale), (23, z_aload 0 1), (24, z_aload 0 1), (25, z_get 0 13), (28, z_aload 0 1), (29, z_get 0 16), (32, z_callv 2 0 sp_X0_applyInertia), (35, z_aload 0 1), (36, z_aload 0 1), (37, z_get 0 12), (40, z_aload 0 1), (41, z_get 0 17), (44, z_callv 2 0 sp_X0_applyInertia), (47, z_aload 0 1), (48, z_get 0 17), (51, z_aload 0 1), (52, z_get 0 12), (55, z_aload 0 1), (56, z_get 0 17), (59, z_callv 2 3 sp_X4_becomeCross), (62, z_aload 0 1), (63, z_get 0 16), (66, z_aload 0 1), (67, z_get 0 17), (70, z_callv 1 3 sp_X4_add), (73, z_aload 0 1), (74, z_get 0 17), (77, z_aload 0 1), (78, z_get 0 11), (81, z_aload 0 1), (82, z_get 0 15), (85, z_callv 2 3 sp_X4_becomeCross), (88, z_aload 0 1), (89, z_get 0 16), (92, z_aload 0 1), (93, z_get 0 17), (96, z_callv 1 3 sp_X4_add), (99, z_vret)]
set_option maxRecDepth 100000 in
set_option maxHeartbeats 4000000 in
theorem sn_X0_load {G : Geo} (hG : GeoOK G) (l : Launch) : ∀ q ∈ pr_X0_load, Sn G l yX0_load.cls cX0_load 1 3 none q.1 q.2 :=
  fcs (zs_aload_n dX0_load_0 rfl) <| fcs (zs_aload_n dX0_load_1 rfl) <| fcs (zs_get cls0 (by decide) (by decide) wf_X0_41 dX0_load_2) <| fcs (zs_aload_n dX0_load_5 rfl) <| fcs (zs_get cls0 (by decide) (by decide) wf_X0_56 dX0_load_6) <| fcs (zs_callv cls0 (by decide) (ct_X0_accelerationAt hG l) mi_X0_accelerationAt wv_X0_accelerationAt we_X0_accelerationAt (by decide) wm_X0_115 dX0_load_9) <| fcs (zs_aload_n dX0_load_12 rfl) <| fcs (zs_get cls0 (by decide) (by decide) wf_X0_56 dX0_load_13) <| fcs (zs_aload_n dX0_load_16 rfl) <| fcs (zs_get cls0 (by decide) (by decide) wf_X0_126 dX0_load_17) <| fcs (zs_callv cls3 (by decide) (ct_X4_scale hG l) mi_X4_scale wv_X4_scale we_X4_scale (by decide) wm_X0_121 dX0_load_20) <| fcs (zs_aload_n dX0_load_23 rfl) <| fcs (zs_aload_n dX0_load_24 rfl) <| fcs (zs_get cls0 (by decide) (by decide) wf_X0_50 dX0_load_25) <| fcs (zs_aload_n dX0_load_28 rfl) <| fcs (zs_get cls0 (by decide) (by decide) wf_X0_59 dX0_load_29) <| fcs (zs_callv cls0 (by decide) (ct_X0_applyInertia hG l) mi_X0_applyInertia wv_X0_applyInertia we_X0_applyInertia (by decide) wm_X0_129 dX0_load_32) <| fcs (zs_aload_n dX0_load_35 rfl) <| fcs (zs_aload_n dX0_load_36 rfl) <| fcs (zs_get cls0 (by decide) (by decide) wf_X0_47 dX0_load_37) <| fcs (zs_aload_n dX0_load_40 rfl) <| fcs (zs_get cls0 (by decide) (by decide) wf_X0_62 dX0_load_41) <| fcs (zs_callv cls0 (by decide) (ct_X0_applyInertia hG l) mi_X0_applyInertia wv_X0_applyInertia we_X0_applyInertia (by decide) wm_X0_129 dX0_load_44) <| fcs (zs_aload_n dX0_load_47 rfl) <| fcs (zs_get cls0 (by decide) (by decide) wf_X0_62 dX0_load_48) <| fcs (zs_aload_n dX0_load_51 rfl) <| fcs (zs_get cls0 (by decide) (by decide) wf_X0_47 dX0_load_52) <| fcs (zs_aload_n dX0_load_55 rfl) <| fcs (zs_get cls0 (by decide) (by decide) wf_X0_62 dX0_load_56) <| fcs (zs_callv cls3 (by decide) (ct_X4_becomeCross hG l) mi_X4_becomeCross wv_X4_becomeCross we_X4_becomeCross (by decide) wm_X0_118 dX0_load_59) <| fcs (zs_aload_n dX0_load_62 rfl) <| fcs (zs_get cls0 (by decide) (by decide) wf_X0_59 dX0_load_63) <| fcs (zs_aload_n dX0_load_66 rfl) <| fcs (zs_get cls0 (by decide) (by decide) wf_X0_62 dX0_load_67) <| fcs (zs_callv cls3 (by decide) (ct_X4_add hG l) mi_X4_add wv_X4_add we_X4_add (by decide) wm_X0_106 dX0_load_70) <| fcs (zs_aload_n dX0_load_73 rfl) <| fcs (zs_get cls0 (by decide) (by decide) wf_X0_62 dX0_load_74) <| fcs (zs_aload_n dX0_load_77 rfl) <| fcs (zs_get cls0 (by decide) (by decide) wf_X0_44 dX0_load_78) <| fcs (zs_aload_n dX0_load_81 rfl) <| fcs (zs_get cls0 (by decide) (by decide) wf_X0_56 dX0_load_82) <| fcs (zs_callv cls3 (by decide) (ct_X4_becomeCross hG l) mi_X4_becomeCross wv_X4_becomeCross we_X4_becomeCross (by decide) wm_X0_118 dX0_load_85) <| fcs (zs_aload_n dX0_load_88 rfl) <| fcs (zs_get cls0 (by decide) (by decide) wf_X0_59 dX0_load_89) <| fcs (zs_aload_n dX0_load_92 rfl) <| fcs (zs_get cls0 (by decide) (by decide) wf_X0_62 dX0_load_93) <| fcs (zs_callv cls3 (by decide) (ct_X4_add hG l) mi_X4_add wv_X4_add we_X4_add (by decide) wm_X0_106 dX0_load_96) <| fcs (zs_vret dX0_load_99) <| fnl
set_option maxRecDepth 100000 in
set_option maxHeartbeats 4000000 in
theorem ct_X0_load {G : Geo} (hG : GeoOK G) (l : Launch) : Ct G l yX0_load cX0_load 1 none 3 sp_X0_load := by
  refine Ct.of pr_X0_load hG (by decide +kernel) (sn_X0_load hG l) ?_
  intro av σ post hok h
  unfold sp_X0_load at h
  split at h
  · rename_i b
    obtain ⟨b, k⟩ := b
    obtain ⟨hb, h⟩ := bif_t h
    obtain rfl : b = 2 := beq1 hb
    refine ⟨Nat.le_of_ble_eq_true rfl, fun X hX => ?_⟩
    refine go hX [] 60 ?_
    exact h
  · exact h.elim
def b_ntq (σ : SS) (k : Nat) : ZF := if σ.2.2 2 k = 0 then v_dot (σ.1 57 k) (σ.1 67 k) - v_dot (σ.1 57 k) (v_crs (σ.1 59 k) (σ.1 66 k)) else v_dot (σ.1 57 k) (σ.1 66 k)
def b_nst (σ : SS) (k : Nat) : SS := if σ.2.2 2 k = 0 then o_crs σ (68, k) (59, k) (66, k) else σ
noncomputable def sp_X0_neededTorque : Spc := fun av σ post => match av with
  | [.inr (.inr b)] => bif Nat.beq b.1 2 then post (some (af (b_ntq σ b.2))) (b_nst σ b.2) else False
  | _ => False
theorem dX0_neededTorque_0 : decode cX0_neededTorque 0 = .ok (.aload_n 0, 1) := by decide +kernel
theorem dX0_neededTorque_1 : decode cX0_neededTorque 1 = .ok (.getfield 69, 3) := by decide +kernel
theorem dX0_neededTorque_4 : decode cX0_neededTorque 4 = .ok (.ifCond .eq 15, 3) := by decide +kernel
theorem dX0_neededTorque_7 : decode cX0_neededTorque 7 = .ok (.aload_n 0, 1) := by decide +kernel
theorem dX0_neededTorque_8 : decode cX0_neededTorque 8 = .ok (.invokevirtual 76, 3) := by decide +kernel
theorem dX0_neededTorque_11 : decode cX0_neededTorque 11 = .ok (.aload_n 0, 1) := by decide +kernel
theorem dX0_neededTorque_12 : decode cX0_neededTorque 12 = .ok (.getfield 56, 3) := by decide +kernel
theorem dX0_neededTorque_15 : decode cX0_neededTorque 15 = .ok (.invokevirtual 138, 3) := by decide +kernel
theorem dX0_neededTorque_18 : decode cX0_neededTorque 18 = .ok (.lreturn, 1) := by decide +kernel
theorem dX0_neededTorque_19 : decode cX0_neededTorque 19 = .ok (.aload_n 0, 1) := by decide +kernel
theorem dX0_neededTorque_20 : decode cX0_neededTorque 20 = .ok (.getfield 62, 3) := by decide +kernel
theorem dX0_neededTorque_23 : decode cX0_neededTorque 23 = .ok (.aload_n 0, 1) := by decide +kernel
theorem dX0_neededTorque_24 : decode cX0_neededTorque 24 = .ok (.getfield 35, 3) := by decide +kernel
theorem dX0_neededTorque_27 : decode cX0_neededTorque 27 = .ok (.aload_n 0, 1) := by decide +kernel
theorem dX0_neededTorque_28 : decode cX0_neededTorque 28 = .ok (.getfield 56, 3) := by decide +kernel
theorem dX0_neededTorque_31 : decode cX0_neededTorque 31 = .ok (.invokevirtual 118, 3) := by decide +kernel
theorem dX0_neededTorque_34 : decode cX0_neededTorque 34 = .ok (.aload_n 0, 1) := by decide +kernel
theorem dX0_neededTorque_35 : decode cX0_neededTorque 35 = .ok (.invokevirtual 76, 3) := by decide +kernel
theorem dX0_neededTorque_38 : decode cX0_neededTorque 38 = .ok (.aload_n 0, 1) := by decide +kernel
theorem dX0_neededTorque_39 : decode cX0_neededTorque 39 = .ok (.getfield 59, 3) := by decide +kernel
theorem dX0_neededTorque_42 : decode cX0_neededTorque 42 = .ok (.invokevirtual 138, 3) := by decide +kernel
theorem dX0_neededTorque_45 : decode cX0_neededTorque 45 = .ok (.aload_n 0, 1) := by decide +kernel
theorem dX0_neededTorque_46 : decode cX0_neededTorque 46 = .ok (.invokevirtual 76, 3) := by decide +kernel
theorem dX0_neededTorque_49 : decode cX0_neededTorque 49 = .ok (.aload_n 0, 1) := by decide +kernel
theorem dX0_neededTorque_50 : decode cX0_neededTorque 50 = .ok (.getfield 62, 3) := by decide +kernel
theorem dX0_neededTorque_53 : decode cX0_neededTorque 53 = .ok (.invokevirtual 138, 3) := by decide +kernel
theorem dX0_neededTorque_56 : decode cX0_neededTorque 56 = .ok (.invokestatic 142, 3) := by decide +kernel
theorem dX0_neededTorque_59 : decode cX0_neededTorque 59 = .ok (.lreturn, 1) := by decide +kernel
theorem wm_X0_138 : Cond.methodLink RX0 138 yX4_dot ∈ ltb := List.mem_filter.mpr ⟨List.mem_append_right _ (List.mem_of_getElem? (i := 391) (by decide +kernel)), by decide +kernel⟩
theorem wm_X0_142 : Cond.methodLink RX0 142 yX1_minus ∈ ltb := List.mem_filter.mpr ⟨List.mem_append_right _ (List.mem_of_getElem? (i := 392) (by decide +kernel)), by decide +kernel⟩
noncomputable def pr_X0_neededTorque : Prg := [(0, z_aload 0 1), (1, z_get 0 1), (4, z_if1 (fun x => x = 0) 19), (7, z_aload 0 1), (8, z_callv 0 0 sp_X0_axisVector), (11, z_aload 0 1), (12, z_get 0 15), (15, z_callv 1 3 sp_X4_dot), (18, z_lret), (19, z_aload 0 1), (20, z_get 0 17), (23, z_aload 0 1), (24, z_get 0 8), (27, z_aload 0 1), (28, z_get 0 15), (31, z_callv 2 3 sp_X4_becomeCross), (34, z_aload 0 1), (35, z_callv 0 0 sp_X0_axisVector), (38, z_aload 0 1), (39, z_get 0 16), (42, z_callv 1 3 sp_X4_dot), (45, z_aload 0 1), (46, z_callv 0 0 sp_X0_axisVector), (49, z_aload 0 1), (50, z_get 0 17), (53, z_callv 1 3 sp_X4_dot), (56, z_call 2 sp_X1_minus), (59, z_lret)]
set_option maxRecDepth 100000 in
set_option maxHeartbeats 4000000 in
theorem sn_X0_neededTorque {G : Geo} (hG : GeoOK G) (l : Launch) : ∀ q ∈ pr_X0_neededTorque, Sn G l yX0_neededTorque.cls cX0_neededTorque 1 2 (some .long) q.1 q.2 :=
  fcs (zs_aload_n dX0_neededTorque_0 rfl) <| fcs (zs_get cls0 (by decide) (by decide) wf_X0_69 dX0_neededTorque_1) <| fcs (zs_if_eq dX0_neededTorque_4 rfl) <| fcs (zs_aload_n dX0_neededTorque_7 rfl) <| fcs (zs_callv cls0 (by decide) (ct_X0_axisVector hG l) mi_X0_axisVector wv_X0_axisVector we_X0_axisVector (by decide) wm_X0_76 dX0_neededTorque_8) <| fcs (zs_aload_n dX0_neededTorque_11 rfl) <| fcs (zs_get cls0 (by decide) (by decide) wf_X0_56 dX0_neededTorque_12) <| fcs (zs_callv cls3 (by decide) (ct_X4_dot hG l) mi_X4_dot wv_X4_dot we_X4_dot (by decide) wm_X0_138 dX0_neededTorque_15) <| fcs (zs_lret dX0_neededTorque_18) <| fcs (zs_aload_n dX0_neededTorque_19 rfl) <| fcs (zs_get cls0 (by decide) (by decide) wf_X0_62 dX0_neededTorque_20) <| fcs (zs_aload_n dX0_neededTorque_23 rfl) <| fcs (zs_get cls0 (by decide) (by decide) wf_X0_35 dX0_neededTorque_24) <| fcs (zs_aload_n dX0_neededTorque_27 rfl) <| fcs (zs_get cls0 (by decide) (by decide) wf_X0_56 dX0_neededTorque_28) <| fcs (zs_callv cls3 (by decide) (ct_X4_becomeCross hG l) mi_X4_becomeCross wv_X4_becomeCross we_X4_becomeCross (by decide) wm_X0_118 dX0_neededTorque_31) <| fcs (zs_aload_n dX0_neededTorque_34 rfl) <| fcs (zs_callv cls0 (by decide) (ct_X0_axisVector hG l) mi_X0_axisVector wv_X0_axisVector we_X0_axisVector (by decide) wm_X0_76 dX0_neededTorque_35) <| fcs (zs_aload_n dX0_neededTorque_38 rfl) <| fcs (zs_get cls0 (by decide) (by decide) wf_X0_59 dX0_neededTorque_39) <| fcs (zs_callv cls3 (by decide) (ct_X4_dot hG l) mi_X4_dot wv_X4_dot we_X4_dot (by decide) wm_X0_138 dX0_neededTorque_42) <| fcs (zs_aload_n dX0_neededTorque_45 rfl) <| fcs (zs_callv cls0 (by decide) (ct_X0_axisVector hG l) mi_X0_axisVector wv_X0_axisVector we_X0_axisVector (by decide) wm_X0_76 dX0_neededTorque_46) <| fcs (zs_aload_n dX0_neededTorque_49 rfl) <| fcs (zs_get cls0 (by decide) (by decide) wf_X0_62 dX0_neededTorque_50) <| fcs (zs_callv cls3 (by decide) (ct_X4_dot hG l) mi_X4_dot wv_X4_dot we_X4_dot (by decide) wm_X0_138 dX0_neededTorque_53) <| fcs (zs_calls (ct_X1_minus hG l) mi_X1_minus ws_X1_minus (by decide) wm_X0_142 dX0_neededTorque_56) <| fcs (zs_lret dX0_neededTorque_59) <| fnl
set_option maxRecDepth 100000 in
set_option maxHeartbeats 4000000 in
theorem ct_X0_neededTorque {G : Geo} (hG : GeoOK G) (l : Launch) : Ct G l yX0_neededTorque cX0_neededTorque 1 (some .long) 2 sp_X0_neededTorque := by
  refine Ct.of pr_X0_neededTorque hG (by decide +kernel) (sn_X0_neededTorque hG l) ?_
  intro av σ post hok h
  unfold sp_X0_neededTorque at h
  split at h
  · rename_i b
    obtain ⟨b, k⟩ := b
    obtain ⟨hb, h⟩ := bif_t h
    obtain rfl : b = 2 := beq1 hb
    refine ⟨Nat.le_of_ble_eq_true rfl, fun X hX => ?_⟩
    refine go hX [] 60 ?_
    unfold b_ntq b_nst at h
    dsimp only at h
    refine ⟨fun g1 => ?_, fun g1 => ?_⟩
    · rw [if_pos (show σ.2.2 2 k = 0 from g1), if_pos (show σ.2.2 2 k = 0 from g1)] at h
      have e : (o_crs σ (68, k) (59, k) (66, k)).1 68 k = v_crs (σ.1 59 k) (σ.1 66 k) := sV_at _ _ _ _
      rw [← e] at h
      exact ⟨.inr _, rfl, h⟩
    · rw [if_neg (show ¬ σ.2.2 2 k = 0 from g1), if_neg (show ¬ σ.2.2 2 k = 0 from g1)] at h
      exact ⟨.inr _, rfl, h⟩
  · exact h.elim
def b_pas (σ : SS) (k p : Nat) : SS := o_add (o_add σ (66, p) (66, k)) (67, p) (67, k)
noncomputable def sp_X0_passLoad : Spc := fun av σ post => match av with
  | [.inr (.inr b), .inr (.inr w)] => bif bdy2 b w then post none (b_pas σ b.2 w.2) else False
  | _ => False
theorem dX0_passLoad_0 : decode cX0_passLoad 0 = .ok (.aload_n 1, 1) := by decide +kernel
theorem dX0_passLoad_1 : decode cX0_passLoad 1 = .ok (.getfield 56, 3) := by decide +kernel
theorem dX0_passLoad_4 : decode cX0_passLoad 4 = .ok (.aload_n 0, 1) := by decide +kernel
theorem dX0_passLoad_5 : decode cX0_passLoad 5 = .ok (.getfield 56, 3) := by decide +kernel
theorem dX0_passLoad_8 : decode cX0_passLoad 8 = .ok (.invokevirtual 106, 3) := by decide +kernel
theorem dX0_passLoad_11 : decode cX0_passLoad 11 = .ok (.aload_n 1, 1) := by decide +kernel
theorem dX0_passLoad_12 : decode cX0_passLoad 12 = .ok (.getfield 59, 3) := by decide +kernel
theorem dX0_passLoad_15 : decode cX0_passLoad 15 = .ok (.aload_n 0, 1) := by decide +kernel
theorem dX0_passLoad_16 : decode cX0_passLoad 16 = .ok (.getfield 59, 3) := by decide +kernel
theorem dX0_passLoad_19 : decode cX0_passLoad 19 = .ok (.invokevirtual 106, 3) := by decide +kernel
theorem dX0_passLoad_22 : decode cX0_passLoad 22 = .ok (.return_, 1) := by decide +kernel
noncomputable def pr_X0_passLoad : Prg := [(0, z_aload 1 1), (1, z_get 0 15), (4, z_aload 0 1), (5, z_get 0 15), (8, z_callv 1 3 sp_X4_add), (11, z_aload 1 1), (12, z_get 0 16), (15, z_aload 0 1), (16, z_get 0 16), (19, z_callv 1 3 sp_X4_add), (22, z_vret)]
set_option maxRecDepth 100000 in
set_option maxHeartbeats 4000000 in
theorem sn_X0_passLoad {G : Geo} (hG : GeoOK G) (l : Launch) : ∀ q ∈ pr_X0_passLoad, Sn G l yX0_passLoad.cls cX0_passLoad 2 1 none q.1 q.2 :=
  fcs (zs_aload_n dX0_passLoad_0 rfl) <| fcs (zs_get cls0 (by decide) (by decide) wf_X0_56 dX0_passLoad_1) <| fcs (zs_aload_n dX0_passLoad_4 rfl) <| fcs (zs_get cls0 (by decide) (by decide) wf_X0_56 dX0_passLoad_5) <| fcs (zs_callv cls3 (by decide) (ct_X4_add hG l) mi_X4_add wv_X4_add we_X4_add (by decide) wm_X0_106 dX0_passLoad_8) <| fcs (zs_aload_n dX0_passLoad_11 rfl) <| fcs (zs_get cls0 (by decide) (by decide) wf_X0_59 dX0_passLoad_12) <| fcs (zs_aload_n dX0_passLoad_15 rfl) <| fcs (zs_get cls0 (by decide) (by decide) wf_X0_59 dX0_passLoad_16) <| fcs (zs_callv cls3 (by decide) (ct_X4_add hG l) mi_X4_add wv_X4_add we_X4_add (by decide) wm_X0_106 dX0_passLoad_19) <| fcs (zs_vret dX0_passLoad_22) <| fnl
set_option maxRecDepth 100000 in
set_option maxHeartbeats 4000000 in
theorem ct_X0_passLoad {G : Geo} (hG : GeoOK G) (l : Launch) : Ct G l yX0_passLoad cX0_passLoad 2 none 1 sp_X0_passLoad := by
  refine Ct.of pr_X0_passLoad hG (by decide +kernel) (sn_X0_passLoad hG l) ?_
  intro av σ post hok h
  unfold sp_X0_passLoad at h
  split at h
  · rename_i b w
    obtain ⟨b, k⟩ := b
    obtain ⟨w, p⟩ := w
    obtain ⟨hb, h⟩ := bif_t h
    obtain ⟨rfl, rfl⟩ : b = 2 ∧ w = 2 := beq2 hb
    refine ⟨Nat.le_of_ble_eq_true rfl, fun X hX => ?_⟩
    refine go hX [] 60 ?_
    exact h
  · exact h.elim
