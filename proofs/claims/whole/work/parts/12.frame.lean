/-! The class's Frame and Inertia -/
def o_cpy (σ : SS) (q w : Nat × Nat) : SS := sV σ q.1 q.2 (σ.1 w.1 w.2)
def o_add (σ : SS) (q w : Nat × Nat) : SS := sV σ q.1 q.2 (v_add (σ.1 q.1 q.2) (σ.1 w.1 w.2))
def o_sub (σ : SS) (q w : Nat × Nat) : SS := sV σ q.1 q.2 (v_sub (σ.1 q.1 q.2) (σ.1 w.1 w.2))
def o_sca (σ : SS) (q : Nat × Nat) (f : ZF) : SS := sV σ q.1 q.2 (v_sca (σ.1 q.1 q.2) f)
def o_adt (σ : SS) (q w : Nat × Nat) (f : ZF) : SS := sV σ q.1 q.2 (v_adt (σ.1 q.1 q.2) (σ.1 w.1 w.2) f)
def o_crs (σ : SS) (q w u : Nat × Nat) : SS := sV σ q.1 q.2 (v_crs (σ.1 w.1 w.2) (σ.1 u.1 u.2))
def o_clr (σ : SS) (q : Nat × Nat) : SS := sV σ q.1 q.2 (0, 0, 0)
def f_cpy (σ : SS) (k p : Nat) : SS := o_cpy (o_cpy (o_cpy σ (55, k) (55, p)) (56, k) (56, p)) (57, k) (57, p)
noncomputable def sp_X2_copy : Spc := fun av σ post => match av with
  | [.inr (.inr q), .inr (.inr w)] => bif Nat.beq q.1 4 && Nat.beq w.1 4 then post none (f_cpy σ q.2 w.2) else False
  | _ => False
theorem beq1 {a b : Nat} (h : Nat.beq a b = true) : a = b := Nat.eq_of_beq_eq_true h
theorem beq2 {a b c d : Nat} (h : (Nat.beq a b && Nat.beq c d) = true) : a = b ∧ c = d := by
  rw [Bool.and_eq_true] at h
  exact ⟨beq1 h.1, beq1 h.2⟩
theorem dX2_copy_0 : decode cX2_copy 0 = .ok (.aload_n 0, 1) := by decide +kernel
theorem dX2_copy_1 : decode cX2_copy 1 = .ok (.getfield 12, 3) := by decide +kernel
theorem dX2_copy_4 : decode cX2_copy 4 = .ok (.aload_n 1, 1) := by decide +kernel
theorem dX2_copy_5 : decode cX2_copy 5 = .ok (.getfield 12, 3) := by decide +kernel
theorem dX2_copy_8 : decode cX2_copy 8 = .ok (.invokevirtual 27, 3) := by decide +kernel
theorem dX2_copy_11 : decode cX2_copy 11 = .ok (.aload_n 0, 1) := by decide +kernel
theorem dX2_copy_12 : decode cX2_copy 12 = .ok (.getfield 18, 3) := by decide +kernel
theorem dX2_copy_15 : decode cX2_copy 15 = .ok (.aload_n 1, 1) := by decide +kernel
theorem dX2_copy_16 : decode cX2_copy 16 = .ok (.getfield 18, 3) := by decide +kernel
theorem dX2_copy_19 : decode cX2_copy 19 = .ok (.invokevirtual 27, 3) := by decide +kernel
theorem dX2_copy_22 : decode cX2_copy 22 = .ok (.aload_n 0, 1) := by decide +kernel
theorem dX2_copy_23 : decode cX2_copy 23 = .ok (.getfield 21, 3) := by decide +kernel
theorem dX2_copy_26 : decode cX2_copy 26 = .ok (.aload_n 1, 1) := by decide +kernel
theorem dX2_copy_27 : decode cX2_copy 27 = .ok (.getfield 21, 3) := by decide +kernel
theorem dX2_copy_30 : decode cX2_copy 30 = .ok (.invokevirtual 27, 3) := by decide +kernel
theorem dX2_copy_33 : decode cX2_copy 33 = .ok (.return_, 1) := by decide +kernel
theorem wf_X2_12 : Cond.fieldLink RX2 12 (TX2 0).1 (TX2 0).2.1 (TX2 0).2.2.1 ∈ ltb := List.mem_filter.mpr ⟨List.mem_append_right _ (List.mem_of_getElem? (i := 72) (by decide +kernel)), by decide +kernel⟩
theorem wc_X4_copy : Cond.code yX4_copy cX4_copy 2 none ∈ ltb := List.mem_filter.mpr ⟨List.mem_append_right _ (List.mem_of_getElem? (i := 284) (by decide +kernel)), by decide +kernel⟩
theorem wi_X4 : Cond.initialized RX4 ∈ ltb := List.mem_filter.mpr ⟨List.mem_append_right _ (List.mem_of_getElem? (i := 3) (by decide +kernel)), by decide +kernel⟩
theorem mi_X4_copy : Mi yX4_copy RX4 1 cX4_copy 2 none := ⟨by decide +kernel, wc_X4_copy, wi_X4, by decide⟩
theorem wv_X4_copy : Cond.instanceMethod yX4_copy ∈ ltb := List.mem_filter.mpr ⟨List.mem_append_right _ (List.mem_of_getElem? (i := 282) (by decide +kernel)), by decide +kernel⟩
theorem we_X4_copy : Cond.selects RX4 yX4_copy yX4_copy ∈ ltb := List.mem_filter.mpr ⟨List.mem_append_right _ (List.mem_of_getElem? (i := 283) (by decide +kernel)), by decide +kernel⟩
theorem wm_X2_27 : Cond.methodLink RX2 27 yX4_copy ∈ ltb := List.mem_filter.mpr ⟨List.mem_append_right _ (List.mem_of_getElem? (i := 281) (by decide +kernel)), by decide +kernel⟩
theorem wf_X2_18 : Cond.fieldLink RX2 18 (TX2 1).1 (TX2 1).2.1 (TX2 1).2.2.1 ∈ ltb := List.mem_filter.mpr ⟨List.mem_append_right _ (List.mem_of_getElem? (i := 73) (by decide +kernel)), by decide +kernel⟩
theorem wf_X2_21 : Cond.fieldLink RX2 21 (TX2 2).1 (TX2 2).2.1 (TX2 2).2.2.1 ∈ ltb := List.mem_filter.mpr ⟨List.mem_append_right _ (List.mem_of_getElem? (i := 74) (by decide +kernel)), by decide +kernel⟩
noncomputable def pr_X2_copy : Prg := [(0, z_aload 0 1), (1, z_get 1 0), (4, z_aload 1 1), (5, z_get 1 0), (8, z_callv 1 3 sp_X4_copy), (11, z_aload 0 1), (12, z_get 1 1), (15, z_aload 1 1), (16, z_get 1 1), (19, z_callv 1 3 sp_X4_copy), (22, z_aload 0 1), (23, z_get 1 2), (26, z_aload 1 1), (27, z_get 1 2), (30, z_callv 1 3 sp_X4_copy), (33, z_vret)]
set_option maxRecDepth 100000 in
set_option maxHeartbeats 4000000 in
theorem sn_X2_copy {G : Geo} (hG : GeoOK G) (l : Launch) : ∀ q ∈ pr_X2_copy, Sn G l yX2_copy.cls cX2_copy 2 1 none q.1 q.2 :=
  fcs (zs_aload_n dX2_copy_0 rfl) <| fcs (zs_get cls1 (by decide) (by decide) wf_X2_12 dX2_copy_1) <| fcs (zs_aload_n dX2_copy_4 rfl) <| fcs (zs_get cls1 (by decide) (by decide) wf_X2_12 dX2_copy_5) <| fcs (zs_callv cls3 (by decide) (ct_X4_copy hG l) mi_X4_copy wv_X4_copy we_X4_copy (by decide) wm_X2_27 dX2_copy_8) <| fcs (zs_aload_n dX2_copy_11 rfl) <| fcs (zs_get cls1 (by decide) (by decide) wf_X2_18 dX2_copy_12) <| fcs (zs_aload_n dX2_copy_15 rfl) <| fcs (zs_get cls1 (by decide) (by decide) wf_X2_18 dX2_copy_16) <| fcs (zs_callv cls3 (by decide) (ct_X4_copy hG l) mi_X4_copy wv_X4_copy we_X4_copy (by decide) wm_X2_27 dX2_copy_19) <| fcs (zs_aload_n dX2_copy_22 rfl) <| fcs (zs_get cls1 (by decide) (by decide) wf_X2_21 dX2_copy_23) <| fcs (zs_aload_n dX2_copy_26 rfl) <| fcs (zs_get cls1 (by decide) (by decide) wf_X2_21 dX2_copy_27) <| fcs (zs_callv cls3 (by decide) (ct_X4_copy hG l) mi_X4_copy wv_X4_copy we_X4_copy (by decide) wm_X2_27 dX2_copy_30) <| fcs (zs_vret dX2_copy_33) <| fnl
set_option maxRecDepth 100000 in
set_option maxHeartbeats 4000000 in
theorem ct_X2_copy {G : Geo} (hG : GeoOK G) (l : Launch) : Ct G l yX2_copy cX2_copy 2 none 1 sp_X2_copy := by
  refine Ct.of pr_X2_copy hG (by decide +kernel) (sn_X2_copy hG l) ?_
  intro av σ post hok h
  unfold sp_X2_copy at h
  split at h
  · rename_i q w
    obtain ⟨q, k⟩ := q
    obtain ⟨w, p⟩ := w
    obtain ⟨hq, h⟩ := bif_t h
    obtain ⟨rfl, rfl⟩ : q = 4 ∧ w = 4 := beq2 hq
    refine ⟨Nat.le_of_ble_eq_true rfl, fun X hX => ?_⟩
    refine go hX [] 60 ?_
    exact h
  · exact h.elim
noncomputable def cosz (t : ZF) : ZF := (1 - t * t) * zinv (1 + t * t)
noncomputable def sinz (t : ZF) : ZF := (t + t) * zinv (1 + t * t)
noncomputable def f_pair (σ : SS) (k : Nat) (q w : Nat × Nat) (t : ZF) : SS :=
  o_adt (o_sca (o_adt (o_sca (o_cpy σ (58, k) q) q (cosz t)) q w (sinz t)) w (cosz t)) w (58, k) (0 - sinz t)
noncomputable def sp_X2_turnPair : Spc := fun av σ post => match av with
  | [.inr (.inr f), .inr (.inr q), .inr (.inr w), .inr (.inl (.inr t))] => bif Nat.beq f.1 4 && ((Nat.beq q.1 56 && Nat.beq w.1 57) || (Nat.beq q.1 55 && Nat.beq w.1 56)) then post none (f_pair σ f.2 q w t) else False
  | _ => False
theorem dX2_turnPair_0 : decode cX2_turnPair 0 = .ok (.lload_n 3, 1) := by decide +kernel
theorem dX2_turnPair_1 : decode cX2_turnPair 1 = .ok (.lload_n 3, 1) := by decide +kernel
theorem dX2_turnPair_2 : decode cX2_turnPair 2 = .ok (.invokestatic 35, 3) := by decide +kernel
theorem dX2_turnPair_5 : decode cX2_turnPair 5 = .ok (.lstore 5, 2) := by decide +kernel
theorem dX2_turnPair_7 : decode cX2_turnPair 7 = .ok (.lconst 1, 1) := by decide +kernel
theorem dX2_turnPair_8 : decode cX2_turnPair 8 = .ok (.lload 5, 2) := by decide +kernel
theorem dX2_turnPair_10 : decode cX2_turnPair 10 = .ok (.invokestatic 41, 3) := by decide +kernel
theorem dX2_turnPair_13 : decode cX2_turnPair 13 = .ok (.invokestatic 44, 3) := by decide +kernel
theorem dX2_turnPair_16 : decode cX2_turnPair 16 = .ok (.lstore 7, 2) := by decide +kernel
theorem dX2_turnPair_18 : decode cX2_turnPair 18 = .ok (.lconst 1, 1) := by decide +kernel
theorem dX2_turnPair_19 : decode cX2_turnPair 19 = .ok (.lload 5, 2) := by decide +kernel
theorem dX2_turnPair_21 : decode cX2_turnPair 21 = .ok (.invokestatic 48, 3) := by decide +kernel
theorem dX2_turnPair_24 : decode cX2_turnPair 24 = .ok (.lload 7, 2) := by decide +kernel
theorem dX2_turnPair_26 : decode cX2_turnPair 26 = .ok (.invokestatic 35, 3) := by decide +kernel
theorem dX2_turnPair_29 : decode cX2_turnPair 29 = .ok (.lstore 9, 2) := by decide +kernel
theorem dX2_turnPair_31 : decode cX2_turnPair 31 = .ok (.lload_n 3, 1) := by decide +kernel
theorem dX2_turnPair_32 : decode cX2_turnPair 32 = .ok (.lload_n 3, 1) := by decide +kernel
theorem dX2_turnPair_33 : decode cX2_turnPair 33 = .ok (.invokestatic 41, 3) := by decide +kernel
theorem dX2_turnPair_36 : decode cX2_turnPair 36 = .ok (.lload 7, 2) := by decide +kernel
theorem dX2_turnPair_38 : decode cX2_turnPair 38 = .ok (.invokestatic 35, 3) := by decide +kernel
theorem dX2_turnPair_41 : decode cX2_turnPair 41 = .ok (.lstore 11, 2) := by decide +kernel
theorem dX2_turnPair_43 : decode cX2_turnPair 43 = .ok (.aload_n 0, 1) := by decide +kernel
theorem dX2_turnPair_44 : decode cX2_turnPair 44 = .ok (.getfield 24, 3) := by decide +kernel
theorem dX2_turnPair_47 : decode cX2_turnPair 47 = .ok (.aload_n 1, 1) := by decide +kernel
theorem dX2_turnPair_48 : decode cX2_turnPair 48 = .ok (.invokevirtual 27, 3) := by decide +kernel
theorem dX2_turnPair_51 : decode cX2_turnPair 51 = .ok (.aload_n 1, 1) := by decide +kernel
theorem dX2_turnPair_52 : decode cX2_turnPair 52 = .ok (.lload 9, 2) := by decide +kernel
theorem dX2_turnPair_54 : decode cX2_turnPair 54 = .ok (.invokevirtual 51, 3) := by decide +kernel
theorem dX2_turnPair_57 : decode cX2_turnPair 57 = .ok (.aload_n 1, 1) := by decide +kernel
theorem dX2_turnPair_58 : decode cX2_turnPair 58 = .ok (.aload_n 2, 1) := by decide +kernel
theorem dX2_turnPair_59 : decode cX2_turnPair 59 = .ok (.lload 11, 2) := by decide +kernel
theorem dX2_turnPair_61 : decode cX2_turnPair 61 = .ok (.invokevirtual 55, 3) := by decide +kernel
theorem dX2_turnPair_64 : decode cX2_turnPair 64 = .ok (.aload_n 2, 1) := by decide +kernel
theorem dX2_turnPair_65 : decode cX2_turnPair 65 = .ok (.lload 9, 2) := by decide +kernel
theorem dX2_turnPair_67 : decode cX2_turnPair 67 = .ok (.invokevirtual 51, 3) := by decide +kernel
theorem dX2_turnPair_70 : decode cX2_turnPair 70 = .ok (.aload_n 2, 1) := by decide +kernel
theorem dX2_turnPair_71 : decode cX2_turnPair 71 = .ok (.aload_n 0, 1) := by decide +kernel
theorem dX2_turnPair_72 : decode cX2_turnPair 72 = .ok (.getfield 24, 3) := by decide +kernel
theorem dX2_turnPair_75 : decode cX2_turnPair 75 = .ok (.lconst 0, 1) := by decide +kernel
theorem dX2_turnPair_76 : decode cX2_turnPair 76 = .ok (.lload 11, 2) := by decide +kernel
theorem dX2_turnPair_78 : decode cX2_turnPair 78 = .ok (.invokestatic 48, 3) := by decide +kernel
theorem dX2_turnPair_81 : decode cX2_turnPair 81 = .ok (.invokevirtual 55, 3) := by decide +kernel
theorem dX2_turnPair_84 : decode cX2_turnPair 84 = .ok (.return_, 1) := by decide +kernel
theorem wm_X2_35 : Cond.methodLink RX2 35 yX1_times ∈ ltb := List.mem_filter.mpr ⟨List.mem_append_right _ (List.mem_of_getElem? (i := 293) (by decide +kernel)), by decide +kernel⟩
theorem wc_X1_plus : Cond.code yX1_plus cX1_plus 4 (some .long) ∈ ltb := List.mem_filter.mpr ⟨List.mem_append_right _ (List.mem_of_getElem? (i := 298) (by decide +kernel)), by decide +kernel⟩
theorem mi_X1_plus : Mi yX1_plus RX1 2 cX1_plus 4 (some .long) := ⟨by decide +kernel, wc_X1_plus, wi_X1, by decide⟩
theorem ws_X1_plus : Cond.static yX1_plus ∈ ltb := List.mem_filter.mpr ⟨List.mem_append_right _ (List.mem_of_getElem? (i := 297) (by decide +kernel)), by decide +kernel⟩
theorem wm_X2_41 : Cond.methodLink RX2 41 yX1_plus ∈ ltb := List.mem_filter.mpr ⟨List.mem_append_right _ (List.mem_of_getElem? (i := 296) (by decide +kernel)), by decide +kernel⟩
theorem wc_X1_inverse : Cond.code yX1_inverse cX1_inverse 7 (some .long) ∈ ltb := List.mem_filter.mpr ⟨List.mem_append_right _ (List.mem_of_getElem? (i := 301) (by decide +kernel)), by decide +kernel⟩
theorem mi_X1_inverse : Mi yX1_inverse RX1 1 cX1_inverse 7 (some .long) := ⟨by decide +kernel, wc_X1_inverse, wi_X1, by decide⟩
theorem ws_X1_inverse : Cond.static yX1_inverse ∈ ltb := List.mem_filter.mpr ⟨List.mem_append_right _ (List.mem_of_getElem? (i := 300) (by decide +kernel)), by decide +kernel⟩
theorem wm_X2_44 : Cond.methodLink RX2 44 yX1_inverse ∈ ltb := List.mem_filter.mpr ⟨List.mem_append_right _ (List.mem_of_getElem? (i := 299) (by decide +kernel)), by decide +kernel⟩
theorem wc_X1_minus : Cond.code yX1_minus cX1_minus 4 (some .long) ∈ ltb := List.mem_filter.mpr ⟨List.mem_append_right _ (List.mem_of_getElem? (i := 306) (by decide +kernel)), by decide +kernel⟩
theorem mi_X1_minus : Mi yX1_minus RX1 2 cX1_minus 4 (some .long) := ⟨by decide +kernel, wc_X1_minus, wi_X1, by decide⟩
theorem ws_X1_minus : Cond.static yX1_minus ∈ ltb := List.mem_filter.mpr ⟨List.mem_append_right _ (List.mem_of_getElem? (i := 305) (by decide +kernel)), by decide +kernel⟩
theorem wm_X2_48 : Cond.methodLink RX2 48 yX1_minus ∈ ltb := List.mem_filter.mpr ⟨List.mem_append_right _ (List.mem_of_getElem? (i := 304) (by decide +kernel)), by decide +kernel⟩
theorem wf_X2_24 : Cond.fieldLink RX2 24 (TX2 3).1 (TX2 3).2.1 (TX2 3).2.2.1 ∈ ltb := List.mem_filter.mpr ⟨List.mem_append_right _ (List.mem_of_getElem? (i := 76) (by decide +kernel)), by decide +kernel⟩
theorem wc_X4_scale : Cond.code yX4_scale cX4_scale 3 none ∈ ltb := List.mem_filter.mpr ⟨List.mem_append_right _ (List.mem_of_getElem? (i := 310) (by decide +kernel)), by decide +kernel⟩
theorem mi_X4_scale : Mi yX4_scale RX4 1 cX4_scale 3 none := ⟨by decide +kernel, wc_X4_scale, wi_X4, by decide⟩
theorem wv_X4_scale : Cond.instanceMethod yX4_scale ∈ ltb := List.mem_filter.mpr ⟨List.mem_append_right _ (List.mem_of_getElem? (i := 308) (by decide +kernel)), by decide +kernel⟩
theorem we_X4_scale : Cond.selects RX4 yX4_scale yX4_scale ∈ ltb := List.mem_filter.mpr ⟨List.mem_append_right _ (List.mem_of_getElem? (i := 309) (by decide +kernel)), by decide +kernel⟩
theorem wm_X2_51 : Cond.methodLink RX2 51 yX4_scale ∈ ltb := List.mem_filter.mpr ⟨List.mem_append_right _ (List.mem_of_getElem? (i := 307) (by decide +kernel)), by decide +kernel⟩
theorem wc_X4_addTimes : Cond.code yX4_addTimes cX4_addTimes 4 none ∈ ltb := List.mem_filter.mpr ⟨List.mem_append_right _ (List.mem_of_getElem? (i := 315) (by decide +kernel)), by decide +kernel⟩
theorem mi_X4_addTimes : Mi yX4_addTimes RX4 2 cX4_addTimes 4 none := ⟨by decide +kernel, wc_X4_addTimes, wi_X4, by decide⟩
theorem wv_X4_addTimes : Cond.instanceMethod yX4_addTimes ∈ ltb := List.mem_filter.mpr ⟨List.mem_append_right _ (List.mem_of_getElem? (i := 313) (by decide +kernel)), by decide +kernel⟩
theorem we_X4_addTimes : Cond.selects RX4 yX4_addTimes yX4_addTimes ∈ ltb := List.mem_filter.mpr ⟨List.mem_append_right _ (List.mem_of_getElem? (i := 314) (by decide +kernel)), by decide +kernel⟩
theorem wm_X2_55 : Cond.methodLink RX2 55 yX4_addTimes ∈ ltb := List.mem_filter.mpr ⟨List.mem_append_right _ (List.mem_of_getElem? (i := 312) (by decide +kernel)), by decide +kernel⟩
noncomputable def pr_X2_turnPair : Prg := [(0, z_lload 3 1), (1, z_lload 3 1), (2, z_call 2 sp_X1_times), (5, z_lstore 5 2), (7, z_lc (.inr 1) 1), (8, z_lload 5 2), (10, z_call 2 sp_X1_plus), (13, z_call 1 sp_X1_inverse), (16, z_lstore 7 2), (18, z_lc (.inr 1) 1), (19, z_lload 5 2), (21, z_call 2 sp_X1_minus), (24, z_lload 7 2), (26, z_call 2 sp_X1_times), (29, z_lstore 9 2), (31, z_lload 3 1), (32, z_lload 3 1), (33, z_call 2 sp_X1_plus), (36, z_lload 7 2), (38, z_call 2 sp_X1_times), (41, z_lstore 11 2), (43, z_aload 0 1), (44, z_get 1 3), (47, z_aload 1 1), (48, z_callv 1 3 sp_X4_copy), (51, z_aload 1 1), (52, z_lload 9 2), (54, z_callv 1 3 sp_X4_scale), (57, z_aload 1 1), (58, z_aload 2 1), (59, z_lload 11 2), (61, z_callv 2 3 sp_X4_addTimes), (64, z_aload 2 1), (65, z_lload 9 2), (67, z_callv 1 3 sp_X4_scale), (70, z_aload 2 1), (71, z_aload 0 1), (72, z_get 1 3), (75, z_lc (.inr 0) 1), (76, z_lload 11 2), (78, z_call 2 sp_X1_minus), (81, z_callv 2 3 sp_X4_addTimes), (84, z_vret)]
set_option maxRecDepth 100000 in
set_option maxHeartbeats 4000000 in
theorem sn_X2_turnPair {G : Geo} (hG : GeoOK G) (l : Launch) : ∀ q ∈ pr_X2_turnPair, Sn G l yX2_turnPair.cls cX2_turnPair 13 2 none q.1 q.2 :=
  fcs (zs_lload_n dX2_turnPair_0 rfl) <| fcs (zs_lload_n dX2_turnPair_1 rfl) <| fcs (zs_calls (ct_X1_times hG l) mi_X1_times ws_X1_times (by decide) wm_X2_35 dX2_turnPair_2) <| fcs (zs_lstore dX2_turnPair_5 (by decide)) <| fcs (zs_lconst dX2_turnPair_7 rfl) <| fcs (zs_lload dX2_turnPair_8) <| fcs (zs_calls (ct_X1_plus hG l) mi_X1_plus ws_X1_plus (by decide) wm_X2_41 dX2_turnPair_10) <| fcs (zs_calls (ct_X1_inverse hG l) mi_X1_inverse ws_X1_inverse (by decide) wm_X2_44 dX2_turnPair_13) <| fcs (zs_lstore dX2_turnPair_16 (by decide)) <| fcs (zs_lconst dX2_turnPair_18 rfl) <| fcs (zs_lload dX2_turnPair_19) <| fcs (zs_calls (ct_X1_minus hG l) mi_X1_minus ws_X1_minus (by decide) wm_X2_48 dX2_turnPair_21) <| fcs (zs_lload dX2_turnPair_24) <| fcs (zs_calls (ct_X1_times hG l) mi_X1_times ws_X1_times (by decide) wm_X2_35 dX2_turnPair_26) <| fcs (zs_lstore dX2_turnPair_29 (by decide)) <| fcs (zs_lload_n dX2_turnPair_31 rfl) <| fcs (zs_lload_n dX2_turnPair_32 rfl) <| fcs (zs_calls (ct_X1_plus hG l) mi_X1_plus ws_X1_plus (by decide) wm_X2_41 dX2_turnPair_33) <| fcs (zs_lload dX2_turnPair_36) <| fcs (zs_calls (ct_X1_times hG l) mi_X1_times ws_X1_times (by decide) wm_X2_35 dX2_turnPair_38) <| fcs (zs_lstore dX2_turnPair_41 (by decide)) <| fcs (zs_aload_n dX2_turnPair_43 rfl) <| fcs (zs_get cls1 (by decide) (by decide) wf_X2_24 dX2_turnPair_44) <| fcs (zs_aload_n dX2_turnPair_47 rfl) <| fcs (zs_callv cls3 (by decide) (ct_X4_copy hG l) mi_X4_copy wv_X4_copy we_X4_copy (by decide) wm_X2_27 dX2_turnPair_48) <| fcs (zs_aload_n dX2_turnPair_51 rfl) <| fcs (zs_lload dX2_turnPair_52) <| fcs (zs_callv cls3 (by decide) (ct_X4_scale hG l) mi_X4_scale wv_X4_scale we_X4_scale (by decide) wm_X2_51 dX2_turnPair_54) <| fcs (zs_aload_n dX2_turnPair_57 rfl) <| fcs (zs_aload_n dX2_turnPair_58 rfl) <| fcs (zs_lload dX2_turnPair_59) <| fcs (zs_callv cls3 (by decide) (ct_X4_addTimes hG l) mi_X4_addTimes wv_X4_addTimes we_X4_addTimes (by decide) wm_X2_55 dX2_turnPair_61) <| fcs (zs_aload_n dX2_turnPair_64 rfl) <| fcs (zs_lload dX2_turnPair_65) <| fcs (zs_callv cls3 (by decide) (ct_X4_scale hG l) mi_X4_scale wv_X4_scale we_X4_scale (by decide) wm_X2_51 dX2_turnPair_67) <| fcs (zs_aload_n dX2_turnPair_70 rfl) <| fcs (zs_aload_n dX2_turnPair_71 rfl) <| fcs (zs_get cls1 (by decide) (by decide) wf_X2_24 dX2_turnPair_72) <| fcs (zs_lconst dX2_turnPair_75 rfl) <| fcs (zs_lload dX2_turnPair_76) <| fcs (zs_calls (ct_X1_minus hG l) mi_X1_minus ws_X1_minus (by decide) wm_X2_48 dX2_turnPair_78) <| fcs (zs_callv cls3 (by decide) (ct_X4_addTimes hG l) mi_X4_addTimes wv_X4_addTimes we_X4_addTimes (by decide) wm_X2_55 dX2_turnPair_81) <| fcs (zs_vret dX2_turnPair_84) <| fnl
noncomputable def sp_X2_turnAboutX : Spc := fun av σ post => match av with
  | [.inr (.inr f), .inr (.inl (.inr t))] => bif Nat.beq f.1 4 then post none (f_pair σ f.2 (56, f.2) (57, f.2) t) else False
  | _ => False
noncomputable def sp_X2_turnAboutZ : Spc := fun av σ post => match av with
  | [.inr (.inr f), .inr (.inl (.inr t))] => bif Nat.beq f.1 4 then post none (f_pair σ f.2 (55, f.2) (56, f.2) t) else False
  | _ => False
set_option maxRecDepth 100000 in
set_option maxHeartbeats 4000000 in
theorem ct_X2_turnPair {G : Geo} (hG : GeoOK G) (l : Launch) : Ct G l yX2_turnPair cX2_turnPair 13 none 2 sp_X2_turnPair := by
  refine Ct.of pr_X2_turnPair hG (by decide +kernel) (sn_X2_turnPair hG l) ?_
  intro av σ post hok h
  unfold sp_X2_turnPair at h
  split at h
  · rename_i f q w t
    obtain ⟨f, k⟩ := f
    obtain ⟨hf, h⟩ := bif_t h
    rw [Bool.and_eq_true, Bool.or_eq_true] at hf
    obtain ⟨hf, h5⟩ := hf
    obtain rfl : f = 4 := beq1 hf
    obtain ⟨q, k1⟩ := q
    obtain ⟨w, k2⟩ := w
    refine ⟨Nat.le_of_ble_eq_true rfl, fun X hX => ?_⟩
    refine go hX [] 60 ?_
    rcases h5 with h5 | h5
    · obtain ⟨rfl, rfl⟩ : q = 56 ∧ w = 57 := beq2 h5
      exact h
    · obtain ⟨rfl, rfl⟩ : q = 55 ∧ w = 56 := beq2 h5
      exact h
  · exact h.elim
theorem dX2_turnAboutX_0 : decode cX2_turnAboutX 0 = .ok (.aload_n 0, 1) := by decide +kernel
theorem dX2_turnAboutX_1 : decode cX2_turnAboutX 1 = .ok (.aload_n 0, 1) := by decide +kernel
theorem dX2_turnAboutX_2 : decode cX2_turnAboutX 2 = .ok (.getfield 18, 3) := by decide +kernel
theorem dX2_turnAboutX_5 : decode cX2_turnAboutX 5 = .ok (.aload_n 0, 1) := by decide +kernel
theorem dX2_turnAboutX_6 : decode cX2_turnAboutX 6 = .ok (.getfield 21, 3) := by decide +kernel
theorem dX2_turnAboutX_9 : decode cX2_turnAboutX 9 = .ok (.lload_n 1, 1) := by decide +kernel
theorem dX2_turnAboutX_10 : decode cX2_turnAboutX 10 = .ok (.invokevirtual 31, 3) := by decide +kernel
theorem dX2_turnAboutX_13 : decode cX2_turnAboutX 13 = .ok (.return_, 1) := by decide +kernel
theorem wc_X2_turnPair : Cond.code yX2_turnPair cX2_turnPair 13 none ∈ ltb := List.mem_filter.mpr ⟨List.mem_append_right _ (List.mem_of_getElem? (i := 292) (by decide +kernel)), by decide +kernel⟩
theorem wi_X2 : Cond.initialized RX2 ∈ ltb := List.mem_filter.mpr ⟨List.mem_append_right _ (List.mem_of_getElem? (i := 5) (by decide +kernel)), by decide +kernel⟩
theorem mi_X2_turnPair : Mi yX2_turnPair RX2 3 cX2_turnPair 13 none := ⟨by decide +kernel, wc_X2_turnPair, wi_X2, by decide⟩
theorem wv_X2_turnPair : Cond.instanceMethod yX2_turnPair ∈ ltb := List.mem_filter.mpr ⟨List.mem_append_right _ (List.mem_of_getElem? (i := 291) (by decide +kernel)), by decide +kernel⟩
theorem we_X2_turnPair : Cond.selects RX2 yX2_turnPair yX2_turnPair ∈ ltb := List.mem_filter.mpr ⟨List.mem_append_left _ (List.mem_of_getElem? (i := 2) (by decide +kernel)), by decide +kernel⟩
theorem wm_X2_31 : Cond.methodLink RX2 31 yX2_turnPair ∈ ltb := List.mem_filter.mpr ⟨List.mem_append_right _ (List.mem_of_getElem? (i := 289) (by decide +kernel)), by decide +kernel⟩
noncomputable def pr_X2_turnAboutX : Prg := [(0, z_aload 0 1), (1, z_aload 0 1), (2, z_get 1 1), (5, z_aload 0 1), (6, z_get 1 2), (9, z_lload 1 1), (10, z_callv 3 1 sp_X2_turnPair), (13, z_vret)]
set_option maxRecDepth 100000 in
set_option maxHeartbeats 4000000 in
theorem sn_X2_turnAboutX {G : Geo} (hG : GeoOK G) (l : Launch) : ∀ q ∈ pr_X2_turnAboutX, Sn G l yX2_turnAboutX.cls cX2_turnAboutX 3 3 none q.1 q.2 :=
  fcs (zs_aload_n dX2_turnAboutX_0 rfl) <| fcs (zs_aload_n dX2_turnAboutX_1 rfl) <| fcs (zs_get cls1 (by decide) (by decide) wf_X2_18 dX2_turnAboutX_2) <| fcs (zs_aload_n dX2_turnAboutX_5 rfl) <| fcs (zs_get cls1 (by decide) (by decide) wf_X2_21 dX2_turnAboutX_6) <| fcs (zs_lload_n dX2_turnAboutX_9 rfl) <| fcs (zs_callv cls1 (by decide) (ct_X2_turnPair hG l) mi_X2_turnPair wv_X2_turnPair we_X2_turnPair (by decide) wm_X2_31 dX2_turnAboutX_10) <| fcs (zs_vret dX2_turnAboutX_13) <| fnl
set_option maxRecDepth 100000 in
set_option maxHeartbeats 4000000 in
theorem ct_X2_turnAboutX {G : Geo} (hG : GeoOK G) (l : Launch) : Ct G l yX2_turnAboutX cX2_turnAboutX 3 none 3 sp_X2_turnAboutX := by
  refine Ct.of pr_X2_turnAboutX hG (by decide +kernel) (sn_X2_turnAboutX hG l) ?_
  intro av σ post hok h
  unfold sp_X2_turnAboutX at h
  split at h
  · rename_i f t
    obtain ⟨f, k⟩ := f
    obtain ⟨hf, h⟩ := bif_t h
    obtain rfl : f = 4 := beq1 hf
    refine ⟨Nat.le_of_ble_eq_true rfl, fun X hX => ?_⟩
    refine go hX [] 60 ?_
    exact h
  · exact h.elim
theorem dX2_turnAboutZ_0 : decode cX2_turnAboutZ 0 = .ok (.aload_n 0, 1) := by decide +kernel
theorem dX2_turnAboutZ_1 : decode cX2_turnAboutZ 1 = .ok (.aload_n 0, 1) := by decide +kernel
theorem dX2_turnAboutZ_2 : decode cX2_turnAboutZ 2 = .ok (.getfield 12, 3) := by decide +kernel
theorem dX2_turnAboutZ_5 : decode cX2_turnAboutZ 5 = .ok (.aload_n 0, 1) := by decide +kernel
theorem dX2_turnAboutZ_6 : decode cX2_turnAboutZ 6 = .ok (.getfield 18, 3) := by decide +kernel
theorem dX2_turnAboutZ_9 : decode cX2_turnAboutZ 9 = .ok (.lload_n 1, 1) := by decide +kernel
theorem dX2_turnAboutZ_10 : decode cX2_turnAboutZ 10 = .ok (.invokevirtual 31, 3) := by decide +kernel
theorem dX2_turnAboutZ_13 : decode cX2_turnAboutZ 13 = .ok (.return_, 1) := by decide +kernel
noncomputable def pr_X2_turnAboutZ : Prg := [(0, z_aload 0 1), (1, z_aload 0 1), (2, z_get 1 0), (5, z_aload 0 1), (6, z_get 1 1), (9, z_lload 1 1), (10, z_callv 3 1 sp_X2_turnPair), (13, z_vret)]
set_option maxRecDepth 100000 in
set_option maxHeartbeats 4000000 in
theorem sn_X2_turnAboutZ {G : Geo} (hG : GeoOK G) (l : Launch) : ∀ q ∈ pr_X2_turnAboutZ, Sn G l yX2_turnAboutZ.cls cX2_turnAboutZ 3 3 none q.1 q.2 :=
  fcs (zs_aload_n dX2_turnAboutZ_0 rfl) <| fcs (zs_aload_n dX2_turnAboutZ_1 rfl) <| fcs (zs_get cls1 (by decide) (by decide) wf_X2_12 dX2_turnAboutZ_2) <| fcs (zs_aload_n dX2_turnAboutZ_5 rfl) <| fcs (zs_get cls1 (by decide) (by decide) wf_X2_18 dX2_turnAboutZ_6) <| fcs (zs_lload_n dX2_turnAboutZ_9 rfl) <| fcs (zs_callv cls1 (by decide) (ct_X2_turnPair hG l) mi_X2_turnPair wv_X2_turnPair we_X2_turnPair (by decide) wm_X2_31 dX2_turnAboutZ_10) <| fcs (zs_vret dX2_turnAboutZ_13) <| fnl
set_option maxRecDepth 100000 in
set_option maxHeartbeats 4000000 in
theorem ct_X2_turnAboutZ {G : Geo} (hG : GeoOK G) (l : Launch) : Ct G l yX2_turnAboutZ cX2_turnAboutZ 3 none 3 sp_X2_turnAboutZ := by
  refine Ct.of pr_X2_turnAboutZ hG (by decide +kernel) (sn_X2_turnAboutZ hG l) ?_
  intro av σ post hok h
  unfold sp_X2_turnAboutZ at h
  split at h
  · rename_i f t
    obtain ⟨f, k⟩ := f
    obtain ⟨hf, h⟩ := bif_t h
    obtain rfl : f = 4 := beq1 hf
    refine ⟨Nat.le_of_ble_eq_true rfl, fun X hX => ?_⟩
    refine go hX [] 60 ?_
    exact h
  · exact h.elim
/-- outward: from the frame's own numbers to the ground's -/
def f_out (σ : SS) (k : Nat) (q r : Nat × Nat) : SS :=
  o_adt (o_adt (o_adt (o_clr σ r) r (55, k) (σ.1 q.1 q.2).1) r (56, k) (σ.1 q.1 q.2).2.1) r (57, k) (σ.1 q.1 q.2).2.2
def f_inw (σ : SS) (k : Nat) (q r : Nat × Nat) : SS :=
  sV σ r.1 r.2 (v_dot (σ.1 55 k) (σ.1 q.1 q.2), v_dot (σ.1 56 k) (σ.1 q.1 q.2), v_dot (σ.1 57 k) (σ.1 q.1 q.2))
theorem rcv5 {q : Nat × Nat} (h : is5 q = true) (r : List AV) : rcv 3 (.inr (.inr q) :: r) = true := by
  show Nat.beq (clk q.1) 3 = true
  unfold clk
  unfold is5 at h
  rw [h]
  rfl
/-- calls of a vector that isn't known by its kind -/
theorem callv5 {n : Nat} {sp : Spc} {post : Option AV → SS → Prop} {X : Kx} {pc : Nat} {loc : Loc'} {stk : List AV} {σ : SS} (h0 : rcv 3 (stk.drop n) = true) (h : z_call (n + 1) sp post X pc loc stk σ) : z_callv n 3 sp post X pc loc stk σ := by
  unfold z_callv
  rw [h0]
  exact h
theorem bif5 {b : Bool} {P : Prop} (hb : b = true) (h : P) : bif b then P else False := by
  rw [hb]
  exact h
theorem is5_and {q w : Nat × Nat} (hq : is5 q = true) (hw : is5 w = true) : (is5 q && is5 w) = true := by rw [hq, hw]; rfl
noncomputable def sp_X2_outward : Spc := fun av σ post => match av with
  | [.inr (.inr f), .inr (.inr q), .inr (.inr r)] => bif Nat.beq f.1 4 && (is5 q && is5 r) then post none (f_out σ f.2 q r) else False
  | _ => False
theorem dX2_outward_0 : decode cX2_outward 0 = .ok (.aload_n 1, 1) := by decide +kernel
theorem dX2_outward_1 : decode cX2_outward 1 = .ok (.getfield 59, 3) := by decide +kernel
theorem dX2_outward_4 : decode cX2_outward 4 = .ok (.lstore_n 3, 1) := by decide +kernel
theorem dX2_outward_5 : decode cX2_outward 5 = .ok (.aload_n 1, 1) := by decide +kernel
theorem dX2_outward_6 : decode cX2_outward 6 = .ok (.getfield 62, 3) := by decide +kernel
theorem dX2_outward_9 : decode cX2_outward 9 = .ok (.lstore 5, 2) := by decide +kernel
theorem dX2_outward_11 : decode cX2_outward 11 = .ok (.aload_n 1, 1) := by decide +kernel
theorem dX2_outward_12 : decode cX2_outward 12 = .ok (.getfield 64, 3) := by decide +kernel
theorem dX2_outward_15 : decode cX2_outward 15 = .ok (.lstore 7, 2) := by decide +kernel
theorem dX2_outward_17 : decode cX2_outward 17 = .ok (.aload_n 2, 1) := by decide +kernel
theorem dX2_outward_18 : decode cX2_outward 18 = .ok (.invokevirtual 66, 3) := by decide +kernel
theorem dX2_outward_21 : decode cX2_outward 21 = .ok (.aload_n 2, 1) := by decide +kernel
theorem dX2_outward_22 : decode cX2_outward 22 = .ok (.aload_n 0, 1) := by decide +kernel
theorem dX2_outward_23 : decode cX2_outward 23 = .ok (.getfield 12, 3) := by decide +kernel
theorem dX2_outward_26 : decode cX2_outward 26 = .ok (.lload_n 3, 1) := by decide +kernel
theorem dX2_outward_27 : decode cX2_outward 27 = .ok (.invokevirtual 55, 3) := by decide +kernel
theorem dX2_outward_30 : decode cX2_outward 30 = .ok (.aload_n 2, 1) := by decide +kernel
theorem dX2_outward_31 : decode cX2_outward 31 = .ok (.aload_n 0, 1) := by decide +kernel
theorem dX2_outward_32 : decode cX2_outward 32 = .ok (.getfield 18, 3) := by decide +kernel
theorem dX2_outward_35 : decode cX2_outward 35 = .ok (.lload 5, 2) := by decide +kernel
theorem dX2_outward_37 : decode cX2_outward 37 = .ok (.invokevirtual 55, 3) := by decide +kernel
theorem dX2_outward_40 : decode cX2_outward 40 = .ok (.aload_n 2, 1) := by decide +kernel
theorem dX2_outward_41 : decode cX2_outward 41 = .ok (.aload_n 0, 1) := by decide +kernel
theorem dX2_outward_42 : decode cX2_outward 42 = .ok (.getfield 21, 3) := by decide +kernel
theorem dX2_outward_45 : decode cX2_outward 45 = .ok (.lload 7, 2) := by decide +kernel
theorem dX2_outward_47 : decode cX2_outward 47 = .ok (.invokevirtual 55, 3) := by decide +kernel
theorem dX2_outward_50 : decode cX2_outward 50 = .ok (.return_, 1) := by decide +kernel
theorem wf_X2_59 : Cond.fieldLink RX2 59 (TX4 0).1 (TX4 0).2.1 (TX4 0).2.2.1 ∈ ltb := List.mem_filter.mpr ⟨List.mem_append_right _ (List.mem_of_getElem? (i := 32) (by decide +kernel)), by decide +kernel⟩
theorem wf_X2_62 : Cond.fieldLink RX2 62 (TX4 1).1 (TX4 1).2.1 (TX4 1).2.2.1 ∈ ltb := List.mem_filter.mpr ⟨List.mem_append_right _ (List.mem_of_getElem? (i := 35) (by decide +kernel)), by decide +kernel⟩
theorem wf_X2_64 : Cond.fieldLink RX2 64 (TX4 2).1 (TX4 2).2.1 (TX4 2).2.2.1 ∈ ltb := List.mem_filter.mpr ⟨List.mem_append_right _ (List.mem_of_getElem? (i := 38) (by decide +kernel)), by decide +kernel⟩
theorem wc_X4_clear : Cond.code yX4_clear cX4_clear 1 none ∈ ltb := List.mem_filter.mpr ⟨List.mem_append_right _ (List.mem_of_getElem? (i := 323) (by decide +kernel)), by decide +kernel⟩
theorem mi_X4_clear : Mi yX4_clear RX4 0 cX4_clear 1 none := ⟨by decide +kernel, wc_X4_clear, wi_X4, by decide⟩
theorem wv_X4_clear : Cond.instanceMethod yX4_clear ∈ ltb := List.mem_filter.mpr ⟨List.mem_append_right _ (List.mem_of_getElem? (i := 321) (by decide +kernel)), by decide +kernel⟩
theorem we_X4_clear : Cond.selects RX4 yX4_clear yX4_clear ∈ ltb := List.mem_filter.mpr ⟨List.mem_append_right _ (List.mem_of_getElem? (i := 322) (by decide +kernel)), by decide +kernel⟩
theorem wm_X2_66 : Cond.methodLink RX2 66 yX4_clear ∈ ltb := List.mem_filter.mpr ⟨List.mem_append_right _ (List.mem_of_getElem? (i := 320) (by decide +kernel)), by decide +kernel⟩
noncomputable def pr_X2_outward : Prg := [(0, z_aload 1 1), (1, z_vget 0), (4, z_lstore 3 1), (5, z_aload 1 1), (6, z_vget 1), (9, z_lstore 5 2), (11, z_aload 1 1), (12, z_vget 2), (15, z_lstore 7 2), (17, z_aload 2 1), (18, z_callv 0 3 sp_X4_clear), (21, z_aload 2 1), (22, z_aload 0 1), (23, z_get 1 0), (26, z_lload 3 1), (27, z_callv 2 3 sp_X4_addTimes), (30, z_aload 2 1), (31, z_aload 0 1), (32, z_get 1 1), (35, z_lload 5 2), (37, z_callv 2 3 sp_X4_addTimes), (40, z_aload 2 1), (41, z_aload 0 1), (42, z_get 1 2), (45, z_lload 7 2), (47, z_callv 2 3 sp_X4_addTimes), (50, z_vret)]
set_option maxRecDepth 100000 in
set_option maxHeartbeats 4000000 in
theorem sn_X2_outward {G : Geo} (hG : GeoOK G) (l : Launch) : ∀ q ∈ pr_X2_outward, Sn G l yX2_outward.cls cX2_outward 9 1 none q.1 q.2 :=
  fcs (zs_aload_n dX2_outward_0 rfl) <| fcs (zs_vget (by decide) wf_X2_59 dX2_outward_1) <| fcs (zs_lstore_n dX2_outward_4 rfl (by decide)) <| fcs (zs_aload_n dX2_outward_5 rfl) <| fcs (zs_vget (by decide) wf_X2_62 dX2_outward_6) <| fcs (zs_lstore dX2_outward_9 (by decide)) <| fcs (zs_aload_n dX2_outward_11 rfl) <| fcs (zs_vget (by decide) wf_X2_64 dX2_outward_12) <| fcs (zs_lstore dX2_outward_15 (by decide)) <| fcs (zs_aload_n dX2_outward_17 rfl) <| fcs (zs_callv cls3 (by decide) (ct_X4_clear hG l) mi_X4_clear wv_X4_clear we_X4_clear (by decide) wm_X2_66 dX2_outward_18) <| fcs (zs_aload_n dX2_outward_21 rfl) <| fcs (zs_aload_n dX2_outward_22 rfl) <| fcs (zs_get cls1 (by decide) (by decide) wf_X2_12 dX2_outward_23) <| fcs (zs_lload_n dX2_outward_26 rfl) <| fcs (zs_callv cls3 (by decide) (ct_X4_addTimes hG l) mi_X4_addTimes wv_X4_addTimes we_X4_addTimes (by decide) wm_X2_55 dX2_outward_27) <| fcs (zs_aload_n dX2_outward_30 rfl) <| fcs (zs_aload_n dX2_outward_31 rfl) <| fcs (zs_get cls1 (by decide) (by decide) wf_X2_18 dX2_outward_32) <| fcs (zs_lload dX2_outward_35) <| fcs (zs_callv cls3 (by decide) (ct_X4_addTimes hG l) mi_X4_addTimes wv_X4_addTimes we_X4_addTimes (by decide) wm_X2_55 dX2_outward_37) <| fcs (zs_aload_n dX2_outward_40 rfl) <| fcs (zs_aload_n dX2_outward_41 rfl) <| fcs (zs_get cls1 (by decide) (by decide) wf_X2_21 dX2_outward_42) <| fcs (zs_lload dX2_outward_45) <| fcs (zs_callv cls3 (by decide) (ct_X4_addTimes hG l) mi_X4_addTimes wv_X4_addTimes we_X4_addTimes (by decide) wm_X2_55 dX2_outward_47) <| fcs (zs_vret dX2_outward_50) <| fnl
set_option maxRecDepth 100000 in
set_option maxHeartbeats 4000000 in
theorem ct_X2_outward {G : Geo} (hG : GeoOK G) (l : Launch) : Ct G l yX2_outward cX2_outward 9 none 1 sp_X2_outward := by
  refine Ct.of pr_X2_outward hG (by decide +kernel) (sn_X2_outward hG l) ?_
  intro av σ post hok h
  unfold sp_X2_outward at h
  split at h
  · rename_i f q r
    obtain ⟨f, k⟩ := f
    obtain ⟨hf, h⟩ := bif_t h
    rw [Bool.and_eq_true, Bool.and_eq_true] at hf
    obtain ⟨hf, hq, hr⟩ := hf
    obtain rfl : f = 4 := beq1 hf
    refine ⟨Nat.le_of_ble_eq_true rfl, fun X hX => ?_⟩
    refine go hX [] 60 ?_
    refine ⟨is5_t hq, is5_t hq, is5_t hq, ?_⟩
    refine callv5 (n := 0) ?_ ?_
    · exact rcv5 hr _
    refine bif5 rfl ?_
    refine bif5 hr ?_
    refine callv5 (n := 2) ?_ ?_
    · exact rcv5 hr _
    refine bif5 rfl ?_
    refine bif5 (is5_and hr rfl) ?_
    refine callv5 (n := 2) ?_ ?_
    · exact rcv5 hr _
    refine bif5 rfl ?_
    refine bif5 (is5_and hr rfl) ?_
    refine callv5 (n := 2) ?_ ?_
    · exact rcv5 hr _
    refine bif5 rfl ?_
    refine bif5 (is5_and hr rfl) ?_
    exact h
  · exact h.elim
noncomputable def sp_X2_inward : Spc := fun av σ post => match av with
  | [.inr (.inr f), .inr (.inr q), .inr (.inr r)] => bif Nat.beq f.1 4 && (is5 q && is5 r) then post none (f_inw σ f.2 q r) else False
  | _ => False
theorem dX2_inward_0 : decode cX2_inward 0 = .ok (.aload_n 0, 1) := by decide +kernel
theorem dX2_inward_1 : decode cX2_inward 1 = .ok (.getfield 12, 3) := by decide +kernel
theorem dX2_inward_4 : decode cX2_inward 4 = .ok (.aload_n 1, 1) := by decide +kernel
theorem dX2_inward_5 : decode cX2_inward 5 = .ok (.invokevirtual 69, 3) := by decide +kernel
theorem dX2_inward_8 : decode cX2_inward 8 = .ok (.lstore_n 3, 1) := by decide +kernel
theorem dX2_inward_9 : decode cX2_inward 9 = .ok (.aload_n 0, 1) := by decide +kernel
theorem dX2_inward_10 : decode cX2_inward 10 = .ok (.getfield 18, 3) := by decide +kernel
theorem dX2_inward_13 : decode cX2_inward 13 = .ok (.aload_n 1, 1) := by decide +kernel
theorem dX2_inward_14 : decode cX2_inward 14 = .ok (.invokevirtual 69, 3) := by decide +kernel
theorem dX2_inward_17 : decode cX2_inward 17 = .ok (.lstore 5, 2) := by decide +kernel
theorem dX2_inward_19 : decode cX2_inward 19 = .ok (.aload_n 0, 1) := by decide +kernel
theorem dX2_inward_20 : decode cX2_inward 20 = .ok (.getfield 21, 3) := by decide +kernel
theorem dX2_inward_23 : decode cX2_inward 23 = .ok (.aload_n 1, 1) := by decide +kernel
theorem dX2_inward_24 : decode cX2_inward 24 = .ok (.invokevirtual 69, 3) := by decide +kernel
theorem dX2_inward_27 : decode cX2_inward 27 = .ok (.lstore 7, 2) := by decide +kernel
theorem dX2_inward_29 : decode cX2_inward 29 = .ok (.aload_n 2, 1) := by decide +kernel
theorem dX2_inward_30 : decode cX2_inward 30 = .ok (.lload_n 3, 1) := by decide +kernel
theorem dX2_inward_31 : decode cX2_inward 31 = .ok (.putfield 59, 3) := by decide +kernel
theorem dX2_inward_34 : decode cX2_inward 34 = .ok (.aload_n 2, 1) := by decide +kernel
theorem dX2_inward_35 : decode cX2_inward 35 = .ok (.lload 5, 2) := by decide +kernel
theorem dX2_inward_37 : decode cX2_inward 37 = .ok (.putfield 62, 3) := by decide +kernel
theorem dX2_inward_40 : decode cX2_inward 40 = .ok (.aload_n 2, 1) := by decide +kernel
theorem dX2_inward_41 : decode cX2_inward 41 = .ok (.lload 7, 2) := by decide +kernel
theorem dX2_inward_43 : decode cX2_inward 43 = .ok (.putfield 64, 3) := by decide +kernel
theorem dX2_inward_46 : decode cX2_inward 46 = .ok (.return_, 1) := by decide +kernel
theorem wc_X4_dot : Cond.code yX4_dot cX4_dot 2 (some .long) ∈ ltb := List.mem_filter.mpr ⟨List.mem_append_right _ (List.mem_of_getElem? (i := 381) (by decide +kernel)), by decide +kernel⟩
theorem mi_X4_dot : Mi yX4_dot RX4 1 cX4_dot 2 (some .long) := ⟨by decide +kernel, wc_X4_dot, wi_X4, by decide⟩
theorem wv_X4_dot : Cond.instanceMethod yX4_dot ∈ ltb := List.mem_filter.mpr ⟨List.mem_append_right _ (List.mem_of_getElem? (i := 379) (by decide +kernel)), by decide +kernel⟩
theorem we_X4_dot : Cond.selects RX4 yX4_dot yX4_dot ∈ ltb := List.mem_filter.mpr ⟨List.mem_append_right _ (List.mem_of_getElem? (i := 380) (by decide +kernel)), by decide +kernel⟩
theorem wm_X2_69 : Cond.methodLink RX2 69 yX4_dot ∈ ltb := List.mem_filter.mpr ⟨List.mem_append_right _ (List.mem_of_getElem? (i := 378) (by decide +kernel)), by decide +kernel⟩
noncomputable def pr_X2_inward : Prg := [(0, z_aload 0 1), (1, z_get 1 0), (4, z_aload 1 1), (5, z_callv 1 3 sp_X4_dot), (8, z_lstore 3 1), (9, z_aload 0 1), (10, z_get 1 1), (13, z_aload 1 1), (14, z_callv 1 3 sp_X4_dot), (17, z_lstore 5 2), (19, z_aload 0 1), (20, z_get 1 2), (23, z_aload 1 1), (24, z_callv 1 3 sp_X4_dot), (27, z_lstore 7 2), (29, z_aload 2 1), (30, z_lload 3 1), (31, z_vput 0), (34, z_aload 2 1), (35, z_lload 5 2), (37, z_vput 1), (40, z_aload 2 1), (41, z_lload 7 2), (43, z_vput 2), (46, z_vret)]
set_option maxRecDepth 100000 in
set_option maxHeartbeats 4000000 in
theorem sn_X2_inward {G : Geo} (hG : GeoOK G) (l : Launch) : ∀ q ∈ pr_X2_inward, Sn G l yX2_inward.cls cX2_inward 9 1 none q.1 q.2 :=
  fcs (zs_aload_n dX2_inward_0 rfl) <| fcs (zs_get cls1 (by decide) (by decide) wf_X2_12 dX2_inward_1) <| fcs (zs_aload_n dX2_inward_4 rfl) <| fcs (zs_callv cls3 (by decide) (ct_X4_dot hG l) mi_X4_dot wv_X4_dot we_X4_dot (by decide) wm_X2_69 dX2_inward_5) <| fcs (zs_lstore_n dX2_inward_8 rfl (by decide)) <| fcs (zs_aload_n dX2_inward_9 rfl) <| fcs (zs_get cls1 (by decide) (by decide) wf_X2_18 dX2_inward_10) <| fcs (zs_aload_n dX2_inward_13 rfl) <| fcs (zs_callv cls3 (by decide) (ct_X4_dot hG l) mi_X4_dot wv_X4_dot we_X4_dot (by decide) wm_X2_69 dX2_inward_14) <| fcs (zs_lstore dX2_inward_17 (by decide)) <| fcs (zs_aload_n dX2_inward_19 rfl) <| fcs (zs_get cls1 (by decide) (by decide) wf_X2_21 dX2_inward_20) <| fcs (zs_aload_n dX2_inward_23 rfl) <| fcs (zs_callv cls3 (by decide) (ct_X4_dot hG l) mi_X4_dot wv_X4_dot we_X4_dot (by decide) wm_X2_69 dX2_inward_24) <| fcs (zs_lstore dX2_inward_27 (by decide)) <| fcs (zs_aload_n dX2_inward_29 rfl) <| fcs (zs_lload_n dX2_inward_30 rfl) <| fcs (zs_vput (by decide) wf_X2_59 dX2_inward_31) <| fcs (zs_aload_n dX2_inward_34 rfl) <| fcs (zs_lload dX2_inward_35) <| fcs (zs_vput (by decide) wf_X2_62 dX2_inward_37) <| fcs (zs_aload_n dX2_inward_40 rfl) <| fcs (zs_lload dX2_inward_41) <| fcs (zs_vput (by decide) wf_X2_64 dX2_inward_43) <| fcs (zs_vret dX2_inward_46) <| fnl
set_option maxRecDepth 100000 in
set_option maxHeartbeats 4000000 in
theorem ct_X2_inward {G : Geo} (hG : GeoOK G) (l : Launch) : Ct G l yX2_inward cX2_inward 9 none 1 sp_X2_inward := by
  refine Ct.of pr_X2_inward hG (by decide +kernel) (sn_X2_inward hG l) ?_
  intro av σ post hok h
  unfold sp_X2_inward at h
  split at h
  · rename_i f q r
    obtain ⟨f, k⟩ := f
    obtain ⟨hf, h⟩ := bif_t h
    rw [Bool.and_eq_true, Bool.and_eq_true] at hf
    obtain ⟨hf, hq, hr⟩ := hf
    obtain rfl : f = 4 := beq1 hf
    refine ⟨Nat.le_of_ble_eq_true rfl, fun X hX => ?_⟩
    refine go hX [] 60 ?_
    refine bif5 (is5_and rfl hq) ?_
    refine bif5 (is5_and rfl hq) ?_
    refine bif5 (is5_and rfl hq) ?_
    refine ⟨is5_t hr, _, rfl, ?_⟩
    refine ⟨is5_t hr, _, rfl, ?_⟩
    refine ⟨is5_t hr, _, rfl, ?_⟩
    show post none _
    exact cpost (fin3 rfl rfl rfl) h
  · exact h.elim
