/-! The reference's vectors and matrices in arrays -/
theorem of_p {x : Int64} {a b : ZF} (h : x = em a + em b) : zi x.toInt = a + b := by
  have e : (em a + em b).toInt = (a.val : Int) + b.val := by rw [l_add] <;> rw [em_i, em_i] <;> omega
  rw [h, e, zi_add, zi_val, zi_val]
theorem of_m {x : Int64} {a b : ZF} (h : x = em a - em b) : zi x.toInt = a - b := by
  have e : (em a - em b).toInt = (a.val : Int) - b.val := by rw [l_sub] <;> rw [em_i, em_i] <;> omega
  rw [h, e, zi_sub, zi_val, zi_val]
theorem of_n {x : Int64} {a : ZF} (h : x = -(em a)) : zi x.toInt = -a := by
  have e : (-(em a)).toInt = -(a.val : Int) := by
    rw [Int64.toInt_neg, em_i]
    exact bm (by omega) (by omega)
  rw [h, e, zi_neg, zi_val]
noncomputable def sp_X6_cosine : Spc := fun av σ post => match av with
  | [.inr (.inl (.inr t))] => post (some (af (cosz t))) σ
  | _ => False
theorem dX6_cosine_0 : decode cX6_cosine 0 = .ok (.lconst 1, 1) := by decide +kernel
theorem dX6_cosine_1 : decode cX6_cosine 1 = .ok (.lload_n 0, 1) := by decide +kernel
theorem dX6_cosine_2 : decode cX6_cosine 2 = .ok (.lload_n 0, 1) := by decide +kernel
theorem dX6_cosine_3 : decode cX6_cosine 3 = .ok (.lmul, 1) := by decide +kernel
theorem dX6_cosine_4 : decode cX6_cosine 4 = .ok (.ldc2_w 91, 3) := by decide +kernel
theorem dX6_cosine_7 : decode cX6_cosine 7 = .ok (.lrem, 1) := by decide +kernel
theorem dX6_cosine_8 : decode cX6_cosine 8 = .ok (.lsub, 1) := by decide +kernel
theorem dX6_cosine_9 : decode cX6_cosine 9 = .ok (.invokestatic 97, 3) := by decide +kernel
theorem dX6_cosine_12 : decode cX6_cosine 12 = .ok (.lconst 1, 1) := by decide +kernel
theorem dX6_cosine_13 : decode cX6_cosine 13 = .ok (.lload_n 0, 1) := by decide +kernel
theorem dX6_cosine_14 : decode cX6_cosine 14 = .ok (.lload_n 0, 1) := by decide +kernel
theorem dX6_cosine_15 : decode cX6_cosine 15 = .ok (.lmul, 1) := by decide +kernel
theorem dX6_cosine_16 : decode cX6_cosine 16 = .ok (.ldc2_w 91, 3) := by decide +kernel
theorem dX6_cosine_19 : decode cX6_cosine 19 = .ok (.lrem, 1) := by decide +kernel
theorem dX6_cosine_20 : decode cX6_cosine 20 = .ok (.ladd, 1) := by decide +kernel
theorem dX6_cosine_21 : decode cX6_cosine 21 = .ok (.invokestatic 97, 3) := by decide +kernel
theorem dX6_cosine_24 : decode cX6_cosine 24 = .ok (.invokestatic 101, 3) := by decide +kernel
theorem dX6_cosine_27 : decode cX6_cosine 27 = .ok (.lmul, 1) := by decide +kernel
theorem dX6_cosine_28 : decode cX6_cosine 28 = .ok (.ldc2_w 91, 3) := by decide +kernel
theorem dX6_cosine_31 : decode cX6_cosine 31 = .ok (.lrem, 1) := by decide +kernel
theorem dX6_cosine_32 : decode cX6_cosine 32 = .ok (.lreturn, 1) := by decide +kernel
theorem wc_X6_of : Cond.code yX6_of cX6_of 4 (some .long) ∈ ltb := List.mem_filter.mpr ⟨List.mem_append_right _ (List.mem_of_getElem? (i := 569) (by decide +kernel)), by decide +kernel⟩
theorem wi_X6 : Cond.initialized RX6 ∈ ltb := List.mem_filter.mpr ⟨List.mem_append_right _ (List.mem_of_getElem? (i := 6) (by decide +kernel)), by decide +kernel⟩
theorem mi_X6_of : Mi yX6_of RX6 1 cX6_of 4 (some .long) := ⟨by decide +kernel, wc_X6_of, wi_X6, by decide⟩
theorem ws_X6_of : Cond.static yX6_of ∈ ltb := List.mem_filter.mpr ⟨List.mem_append_right _ (List.mem_of_getElem? (i := 568) (by decide +kernel)), by decide +kernel⟩
theorem wm_X6_97 : Cond.methodLink RX6 97 yX6_of ∈ ltb := List.mem_filter.mpr ⟨List.mem_append_right _ (List.mem_of_getElem? (i := 567) (by decide +kernel)), by decide +kernel⟩
theorem wc_X6_inverse : Cond.code yX6_inverse cX6_inverse 8 (some .long) ∈ ltb := List.mem_filter.mpr ⟨List.mem_append_right _ (List.mem_of_getElem? (i := 631) (by decide +kernel)), by decide +kernel⟩
theorem mi_X6_inverse : Mi yX6_inverse RX6 1 cX6_inverse 8 (some .long) := ⟨by decide +kernel, wc_X6_inverse, wi_X6, by decide⟩
theorem ws_X6_inverse : Cond.static yX6_inverse ∈ ltb := List.mem_filter.mpr ⟨List.mem_append_right _ (List.mem_of_getElem? (i := 630) (by decide +kernel)), by decide +kernel⟩
theorem wm_X6_101 : Cond.methodLink RX6 101 yX6_inverse ∈ ltb := List.mem_filter.mpr ⟨List.mem_append_right _ (List.mem_of_getElem? (i := 629) (by decide +kernel)), by decide +kernel⟩
noncomputable def pr_X6_cosine : Prg := [(0, z_lc (.inr 1) 1), (1, z_lload 0 1), (2, z_lload 0 1), (3, z_lmul), (4, z_lc (.inl 2147483647) 3), (7, z_lrem), (8, z_lsub), (9, z_call 1 sp_X6_of), (12, z_lc (.inr 1) 1), (13, z_lload 0 1), (14, z_lload 0 1), (15, z_lmul), (16, z_lc (.inl 2147483647) 3), (19, z_lrem), (20, z_ladd), (21, z_call 1 sp_X6_of), (24, z_call 1 sp_X6_inverse), (27, z_lmul), (28, z_lc (.inl 2147483647) 3), (31, z_lrem), (32, z_lret)]
set_option maxRecDepth 100000 in
set_option maxHeartbeats 4000000 in
theorem sn_X6_cosine {G : Geo} (hG : GeoOK G) (l : Launch) : ∀ q ∈ pr_X6_cosine, Sn G l yX6_cosine.cls cX6_cosine 2 1 (some .long) q.1 q.2 :=
  fcs (zs_lconst dX6_cosine_0 rfl) <| fcs (zs_lload_n dX6_cosine_1 rfl) <| fcs (zs_lload_n dX6_cosine_2 rfl) <| fcs (zs_lmul dX6_cosine_3) <| fcs (zs_ldc2 dX6_cosine_4 wl_X6_91) <| fcs (zs_lrem dX6_cosine_7) <| fcs (zs_lsub dX6_cosine_8) <| fcs (zs_calls (ct_X6_of hG l) mi_X6_of ws_X6_of (by decide) wm_X6_97 dX6_cosine_9) <| fcs (zs_lconst dX6_cosine_12 rfl) <| fcs (zs_lload_n dX6_cosine_13 rfl) <| fcs (zs_lload_n dX6_cosine_14 rfl) <| fcs (zs_lmul dX6_cosine_15) <| fcs (zs_ldc2 dX6_cosine_16 wl_X6_91) <| fcs (zs_lrem dX6_cosine_19) <| fcs (zs_ladd dX6_cosine_20) <| fcs (zs_calls (ct_X6_of hG l) mi_X6_of ws_X6_of (by decide) wm_X6_97 dX6_cosine_21) <| fcs (zs_calls (ct_X6_inverse hG l) mi_X6_inverse ws_X6_inverse (by decide) wm_X6_101 dX6_cosine_24) <| fcs (zs_lmul dX6_cosine_27) <| fcs (zs_ldc2 dX6_cosine_28 wl_X6_91) <| fcs (zs_lrem dX6_cosine_31) <| fcs (zs_lret dX6_cosine_32) <| fnl
set_option maxRecDepth 100000 in
set_option maxHeartbeats 4000000 in
theorem ct_X6_cosine {G : Geo} (hG : GeoOK G) (l : Launch) : Ct G l yX6_cosine cX6_cosine 2 (some .long) 1 sp_X6_cosine := by
  refine Ct.of pr_X6_cosine hG (by decide +kernel) (sn_X6_cosine hG l) ?_
  intro av σ post hok h
  unfold sp_X6_cosine at h
  split at h
  · rename_i t
    refine ⟨Nat.le_of_ble_eq_true rfl, fun X hX => ?_⟩
    refine go hX [] 60 ?_
    refine ⟨ne_P, ne_P, ne_P, .inr _, ?_, h⟩
    have e1 : zi (lv (.inl (lv (.inr 1) - lv (.inl (rP (em t * em t)))))).toInt = 1 - t * t := of_m (by show em 1 - rP (em t * em t) = _; rw [n_times])
    have e2 : zi (lv (.inl (lv (.inr 1) + lv (.inl (rP (em t * em t)))))).toInt = 1 + t * t := of_p (by show em 1 + rP (em t * em t) = _; rw [n_times])
    show rP (em (zi (lv (.inl (lv (.inr 1) - lv (.inl (rP (em t * em t)))))).toInt) * em (zinv (zi (lv (.inl (lv (.inr 1) + lv (.inl (rP (em t * em t)))))).toInt))) = em (cosz t)
    rw [e1, e2, n_times]
    rfl
  · exact h.elim
noncomputable def sp_X6_sine : Spc := fun av σ post => match av with
  | [.inr (.inl (.inr t))] => post (some (af (sinz t))) σ
  | _ => False
theorem dX6_sine_0 : decode cX6_sine 0 = .ok (.ldc2_w 95, 3) := by decide +kernel
theorem dX6_sine_3 : decode cX6_sine 3 = .ok (.lload_n 0, 1) := by decide +kernel
theorem dX6_sine_4 : decode cX6_sine 4 = .ok (.lmul, 1) := by decide +kernel
theorem dX6_sine_5 : decode cX6_sine 5 = .ok (.ldc2_w 91, 3) := by decide +kernel
theorem dX6_sine_8 : decode cX6_sine 8 = .ok (.lrem, 1) := by decide +kernel
theorem dX6_sine_9 : decode cX6_sine 9 = .ok (.lconst 1, 1) := by decide +kernel
theorem dX6_sine_10 : decode cX6_sine 10 = .ok (.lload_n 0, 1) := by decide +kernel
theorem dX6_sine_11 : decode cX6_sine 11 = .ok (.lload_n 0, 1) := by decide +kernel
theorem dX6_sine_12 : decode cX6_sine 12 = .ok (.lmul, 1) := by decide +kernel
theorem dX6_sine_13 : decode cX6_sine 13 = .ok (.ldc2_w 91, 3) := by decide +kernel
theorem dX6_sine_16 : decode cX6_sine 16 = .ok (.lrem, 1) := by decide +kernel
theorem dX6_sine_17 : decode cX6_sine 17 = .ok (.ladd, 1) := by decide +kernel
theorem dX6_sine_18 : decode cX6_sine 18 = .ok (.invokestatic 97, 3) := by decide +kernel
theorem dX6_sine_21 : decode cX6_sine 21 = .ok (.invokestatic 101, 3) := by decide +kernel
theorem dX6_sine_24 : decode cX6_sine 24 = .ok (.lmul, 1) := by decide +kernel
theorem dX6_sine_25 : decode cX6_sine 25 = .ok (.ldc2_w 91, 3) := by decide +kernel
theorem dX6_sine_28 : decode cX6_sine 28 = .ok (.lrem, 1) := by decide +kernel
theorem dX6_sine_29 : decode cX6_sine 29 = .ok (.lreturn, 1) := by decide +kernel
noncomputable def pr_X6_sine : Prg := [(0, z_lc (.inr 2) 3), (3, z_lload 0 1), (4, z_lmul), (5, z_lc (.inl 2147483647) 3), (8, z_lrem), (9, z_lc (.inr 1) 1), (10, z_lload 0 1), (11, z_lload 0 1), (12, z_lmul), (13, z_lc (.inl 2147483647) 3), (16, z_lrem), (17, z_ladd), (18, z_call 1 sp_X6_of), (21, z_call 1 sp_X6_inverse), (24, z_lmul), (25, z_lc (.inl 2147483647) 3), (28, z_lrem), (29, z_lret)]
set_option maxRecDepth 100000 in
set_option maxHeartbeats 4000000 in
theorem sn_X6_sine {G : Geo} (hG : GeoOK G) (l : Launch) : ∀ q ∈ pr_X6_sine, Sn G l yX6_sine.cls cX6_sine 2 1 (some .long) q.1 q.2 :=
  fcs (zs_ldc2 dX6_sine_0 wl_X6_95) <| fcs (zs_lload_n dX6_sine_3 rfl) <| fcs (zs_lmul dX6_sine_4) <| fcs (zs_ldc2 dX6_sine_5 wl_X6_91) <| fcs (zs_lrem dX6_sine_8) <| fcs (zs_lconst dX6_sine_9 rfl) <| fcs (zs_lload_n dX6_sine_10 rfl) <| fcs (zs_lload_n dX6_sine_11 rfl) <| fcs (zs_lmul dX6_sine_12) <| fcs (zs_ldc2 dX6_sine_13 wl_X6_91) <| fcs (zs_lrem dX6_sine_16) <| fcs (zs_ladd dX6_sine_17) <| fcs (zs_calls (ct_X6_of hG l) mi_X6_of ws_X6_of (by decide) wm_X6_97 dX6_sine_18) <| fcs (zs_calls (ct_X6_inverse hG l) mi_X6_inverse ws_X6_inverse (by decide) wm_X6_101 dX6_sine_21) <| fcs (zs_lmul dX6_sine_24) <| fcs (zs_ldc2 dX6_sine_25 wl_X6_91) <| fcs (zs_lrem dX6_sine_28) <| fcs (zs_lret dX6_sine_29) <| fnl
set_option maxRecDepth 100000 in
set_option maxHeartbeats 4000000 in
theorem ct_X6_sine {G : Geo} (hG : GeoOK G) (l : Launch) : Ct G l yX6_sine cX6_sine 2 (some .long) 1 sp_X6_sine := by
  refine Ct.of pr_X6_sine hG (by decide +kernel) (sn_X6_sine hG l) ?_
  intro av σ post hok h
  unfold sp_X6_sine at h
  split at h
  · rename_i t
    refine ⟨Nat.le_of_ble_eq_true rfl, fun X hX => ?_⟩
    refine go hX [] 60 ?_
    refine ⟨ne_P, ne_P, ne_P, .inr _, ?_, h⟩
    have e2 : zi (lv (.inl (lv (.inr 1) + lv (.inl (rP (em t * em t)))))).toInt = 1 + t * t := of_p (by show em 1 + rP (em t * em t) = _; rw [n_times])
    show rP (rP (em 2 * em t) * em (zinv (zi (lv (.inl (lv (.inr 1) + lv (.inl (rP (em t * em t)))))).toInt))) = em (sinz t)
    rw [e2, n_times, n_times]
    have e3 : (2 : ZF) * t = t + t := by grind
    rw [e3]
    rfl
  · exact h.elim
noncomputable def sp_X6_cross : Spc := fun av σ post => match av with
  | [.inr (.inr t), .inl k, .inr (.inr l), .inl i, .inr (.inr r), .inl j] => bif isM t && (isM l && isM r) then (∃ k' i' j', (k = nI k' ∧ i = nI i' ∧ j = nI j') ∧ (k' + 2 < alen t.1 ∧ i' + 2 < alen l.1 ∧ j' + 2 < alen r.1) ∧ post none (p3 σ t k' (v_crs (g3 σ l i') (g3 σ r j')))) else False
  | _ => False
theorem dX6_cross_0 : decode cX6_cross 0 = .ok (.aload_n 2, 1) := by decide +kernel
theorem dX6_cross_1 : decode cX6_cross 1 = .ok (.iload_n 3, 1) := by decide +kernel
theorem dX6_cross_2 : decode cX6_cross 2 = .ok (.iconst 1, 1) := by decide +kernel
theorem dX6_cross_3 : decode cX6_cross 3 = .ok (.iadd, 1) := by decide +kernel
theorem dX6_cross_4 : decode cX6_cross 4 = .ok (.laload, 1) := by decide +kernel
theorem dX6_cross_5 : decode cX6_cross 5 = .ok (.aload 4, 2) := by decide +kernel
theorem dX6_cross_7 : decode cX6_cross 7 = .ok (.iload 5, 2) := by decide +kernel
theorem dX6_cross_9 : decode cX6_cross 9 = .ok (.iconst 2, 1) := by decide +kernel
theorem dX6_cross_10 : decode cX6_cross 10 = .ok (.iadd, 1) := by decide +kernel
theorem dX6_cross_11 : decode cX6_cross 11 = .ok (.laload, 1) := by decide +kernel
theorem dX6_cross_12 : decode cX6_cross 12 = .ok (.lmul, 1) := by decide +kernel
theorem dX6_cross_13 : decode cX6_cross 13 = .ok (.ldc2_w 91, 3) := by decide +kernel
theorem dX6_cross_16 : decode cX6_cross 16 = .ok (.lrem, 1) := by decide +kernel
theorem dX6_cross_17 : decode cX6_cross 17 = .ok (.aload_n 2, 1) := by decide +kernel
theorem dX6_cross_18 : decode cX6_cross 18 = .ok (.iload_n 3, 1) := by decide +kernel
theorem dX6_cross_19 : decode cX6_cross 19 = .ok (.iconst 2, 1) := by decide +kernel
theorem dX6_cross_20 : decode cX6_cross 20 = .ok (.iadd, 1) := by decide +kernel
theorem dX6_cross_21 : decode cX6_cross 21 = .ok (.laload, 1) := by decide +kernel
theorem dX6_cross_22 : decode cX6_cross 22 = .ok (.aload 4, 2) := by decide +kernel
theorem dX6_cross_24 : decode cX6_cross 24 = .ok (.iload 5, 2) := by decide +kernel
theorem dX6_cross_26 : decode cX6_cross 26 = .ok (.iconst 1, 1) := by decide +kernel
theorem dX6_cross_27 : decode cX6_cross 27 = .ok (.iadd, 1) := by decide +kernel
theorem dX6_cross_28 : decode cX6_cross 28 = .ok (.laload, 1) := by decide +kernel
theorem dX6_cross_29 : decode cX6_cross 29 = .ok (.lmul, 1) := by decide +kernel
theorem dX6_cross_30 : decode cX6_cross 30 = .ok (.ldc2_w 91, 3) := by decide +kernel
theorem dX6_cross_33 : decode cX6_cross 33 = .ok (.lrem, 1) := by decide +kernel
theorem dX6_cross_34 : decode cX6_cross 34 = .ok (.lsub, 1) := by decide +kernel
theorem dX6_cross_35 : decode cX6_cross 35 = .ok (.invokestatic 97, 3) := by decide +kernel
theorem dX6_cross_38 : decode cX6_cross 38 = .ok (.lstore 6, 2) := by decide +kernel
theorem dX6_cross_40 : decode cX6_cross 40 = .ok (.aload_n 2, 1) := by decide +kernel
theorem dX6_cross_41 : decode cX6_cross 41 = .ok (.iload_n 3, 1) := by decide +kernel
theorem dX6_cross_42 : decode cX6_cross 42 = .ok (.iconst 2, 1) := by decide +kernel
theorem dX6_cross_43 : decode cX6_cross 43 = .ok (.iadd, 1) := by decide +kernel
theorem dX6_cross_44 : decode cX6_cross 44 = .ok (.laload, 1) := by decide +kernel
theorem dX6_cross_45 : decode cX6_cross 45 = .ok (.aload 4, 2) := by decide +kernel
theorem dX6_cross_47 : decode cX6_cross 47 = .ok (.iload 5, 2) := by decide +kernel
theorem dX6_cross_49 : decode cX6_cross 49 = .ok (.laload, 1) := by decide +kernel
theorem dX6_cross_50 : decode cX6_cross 50 = .ok (.lmul, 1) := by decide +kernel
theorem dX6_cross_51 : decode cX6_cross 51 = .ok (.ldc2_w 91, 3) := by decide +kernel
theorem dX6_cross_54 : decode cX6_cross 54 = .ok (.lrem, 1) := by decide +kernel
theorem dX6_cross_55 : decode cX6_cross 55 = .ok (.aload_n 2, 1) := by decide +kernel
theorem dX6_cross_56 : decode cX6_cross 56 = .ok (.iload_n 3, 1) := by decide +kernel
theorem dX6_cross_57 : decode cX6_cross 57 = .ok (.laload, 1) := by decide +kernel
theorem dX6_cross_58 : decode cX6_cross 58 = .ok (.aload 4, 2) := by decide +kernel
theorem dX6_cross_60 : decode cX6_cross 60 = .ok (.iload 5, 2) := by decide +kernel
theorem dX6_cross_62 : decode cX6_cross 62 = .ok (.iconst 2, 1) := by decide +kernel
theorem dX6_cross_63 : decode cX6_cross 63 = .ok (.iadd, 1) := by decide +kernel
theorem dX6_cross_64 : decode cX6_cross 64 = .ok (.laload, 1) := by decide +kernel
theorem dX6_cross_65 : decode cX6_cross 65 = .ok (.lmul, 1) := by decide +kernel
theorem dX6_cross_66 : decode cX6_cross 66 = .ok (.ldc2_w 91, 3) := by decide +kernel
theorem dX6_cross_69 : decode cX6_cross 69 = .ok (.lrem, 1) := by decide +kernel
theorem dX6_cross_70 : decode cX6_cross 70 = .ok (.lsub, 1) := by decide +kernel
theorem dX6_cross_71 : decode cX6_cross 71 = .ok (.invokestatic 97, 3) := by decide +kernel
theorem dX6_cross_74 : decode cX6_cross 74 = .ok (.lstore 8, 2) := by decide +kernel
theorem dX6_cross_76 : decode cX6_cross 76 = .ok (.aload_n 2, 1) := by decide +kernel
theorem dX6_cross_77 : decode cX6_cross 77 = .ok (.iload_n 3, 1) := by decide +kernel
theorem dX6_cross_78 : decode cX6_cross 78 = .ok (.laload, 1) := by decide +kernel
theorem dX6_cross_79 : decode cX6_cross 79 = .ok (.aload 4, 2) := by decide +kernel
theorem dX6_cross_81 : decode cX6_cross 81 = .ok (.iload 5, 2) := by decide +kernel
theorem dX6_cross_83 : decode cX6_cross 83 = .ok (.iconst 1, 1) := by decide +kernel
theorem dX6_cross_84 : decode cX6_cross 84 = .ok (.iadd, 1) := by decide +kernel
theorem dX6_cross_85 : decode cX6_cross 85 = .ok (.laload, 1) := by decide +kernel
theorem dX6_cross_86 : decode cX6_cross 86 = .ok (.lmul, 1) := by decide +kernel
theorem dX6_cross_87 : decode cX6_cross 87 = .ok (.ldc2_w 91, 3) := by decide +kernel
theorem dX6_cross_90 : decode cX6_cross 90 = .ok (.lrem, 1) := by decide +kernel
theorem dX6_cross_91 : decode cX6_cross 91 = .ok (.aload_n 2, 1) := by decide +kernel
theorem dX6_cross_92 : decode cX6_cross 92 = .ok (.iload_n 3, 1) := by decide +kernel
theorem dX6_cross_93 : decode cX6_cross 93 = .ok (.iconst 1, 1) := by decide +kernel
theorem dX6_cross_94 : decode cX6_cross 94 = .ok (.iadd, 1) := by decide +kernel
theorem dX6_cross_95 : decode cX6_cross 95 = .ok (.laload, 1) := by decide +kernel
theorem dX6_cross_96 : decode cX6_cross 96 = .ok (.aload 4, 2) := by decide +kernel
theorem dX6_cross_98 : decode cX6_cross 98 = .ok (.iload 5, 2) := by decide +kernel
theorem dX6_cross_100 : decode cX6_cross 100 = .ok (.laload, 1) := by decide +kernel
theorem dX6_cross_101 : decode cX6_cross 101 = .ok (.lmul, 1) := by decide +kernel
theorem dX6_cross_102 : decode cX6_cross 102 = .ok (.ldc2_w 91, 3) := by decide +kernel
theorem dX6_cross_105 : decode cX6_cross 105 = .ok (.lrem, 1) := by decide +kernel
theorem dX6_cross_106 : decode cX6_cross 106 = .ok (.lsub, 1) := by decide +kernel
theorem dX6_cross_107 : decode cX6_cross 107 = .ok (.invokestatic 97, 3) := by decide +kernel
theorem dX6_cross_110 : decode cX6_cross 110 = .ok (.lstore 10, 2) := by decide +kernel
theorem dX6_cross_112 : decode cX6_cross 112 = .ok (.aload_n 0, 1) := by decide +kernel
theorem dX6_cross_113 : decode cX6_cross 113 = .ok (.iload_n 1, 1) := by decide +kernel
theorem dX6_cross_114 : decode cX6_cross 114 = .ok (.lload 6, 2) := by decide +kernel
theorem dX6_cross_116 : decode cX6_cross 116 = .ok (.lastore, 1) := by decide +kernel
theorem dX6_cross_117 : decode cX6_cross 117 = .ok (.aload_n 0, 1) := by decide +kernel
theorem dX6_cross_118 : decode cX6_cross 118 = .ok (.iload_n 1, 1) := by decide +kernel
theorem dX6_cross_119 : decode cX6_cross 119 = .ok (.iconst 1, 1) := by decide +kernel
theorem dX6_cross_120 : decode cX6_cross 120 = .ok (.iadd, 1) := by decide +kernel
theorem dX6_cross_121 : decode cX6_cross 121 = .ok (.lload 8, 2) := by decide +kernel
theorem dX6_cross_123 : decode cX6_cross 123 = .ok (.lastore, 1) := by decide +kernel
theorem dX6_cross_124 : decode cX6_cross 124 = .ok (.aload_n 0, 1) := by decide +kernel
theorem dX6_cross_125 : decode cX6_cross 125 = .ok (.iload_n 1, 1) := by decide +kernel
theorem dX6_cross_126 : decode cX6_cross 126 = .ok (.iconst 2, 1) := by decide +kernel
theorem dX6_cross_127 : decode cX6_cross 127 = .ok (.iadd, 1) := by decide +kernel
theorem dX6_cross_128 : decode cX6_cross 128 = .ok (.lload 10, 2) := by decide +kernel
theorem dX6_cross_130 : decode cX6_cross 130 = .ok (.lastore, 1) := by decide +kernel
theorem dX6_cross_131 : decode cX6_cross 131 = .ok (.return_, 1) := by decide +kernel
noncomputable def pr_X6_cross : Prg := [(0, z_aload 2 1), (1, z_iload 3 1), (2, z_ic (nI 1) 1), (3, z_iadd), (4, z_laload), (5, z_aload 4 2), (7, z_iload 5 2), (9, z_ic (nI 2) 1), (10, z_iadd), (11, z_laload), (12, z_lmul), (13, z_lc (.inl 2147483647) 3), (16, z_lrem), (17, z_aload 2 1), (18, z_iload 3 1), (19, z_ic (nI 2) 1), (20, z_iadd), (21, z_laload), (22, z_aload 4 2), (24, z_iload 5 2), (26, z_ic (nI 1) 1), (27, z_iadd), (28, z_laload), (29, z_lmul), (30, z_lc (.inl 2147483647) 3), (33, z_lrem), (34, z_lsub), (35, z_call 1 sp_X6_of), (38, z_lstore 6 2), (40, z_aload 2 1), (41, z_iload 3 1), (42, z_ic (nI 2) 1), (43, z_iadd), (44, z_laload), (45, z_aload 4 2), (47, z_iload 5 2), (49, z_laload), (50, z_lmul), (51, z_lc (.inl 2147483647) 3), (54, z_lrem), (55, z_aload 2 1), (56, z_iload 3 1), (57, z_laload), (58, z_aload 4 2), (60, z_iload 5 2), (62, z_ic (nI 2) 1), (63, z_iadd), (64, z_laload), (65, z_lmul), (66, z_lc (.inl 2147483647) 3), (69, z_lrem), (70, z_lsub), (71, z_call 1 sp_X6_of), (74, z_lstore 8 2), (76, z_aload 2 1), (77, z_iload 3 1), (78, z_laload), (79, z_aload 4 2), (81, z_iload 5 2), (83, z_ic (nI 1) 1), (84, z_iadd), (85, z_laload), (86, z_lmul), (87, z_lc (.inl 2147483647) 3), (90, z_lrem), (91, z_aload 2 1), (92, z_iload 3 1), (93, z_ic (nI 1) 1), (94, z_iadd), (95, z_laload), (96, z_aload 4 2), (98, z_iload 5 2), (100, z_laload), (101, z_lmul), (102, z_lc (.inl 2147483647) 3), (105, z_lrem), (106, z_lsub), (107, z_call 1 sp_X6_of), (110, z_lstore 10 2), (112, z_aload 0 1), (113, z_iload 1 1), (114, z_lload 6 2), (116, z_lastore), (117, z_aload 0 1), (118, z_iload 1 1), (119, z_ic (nI 1) 1), (120, z_iadd), (121, z_lload 8 2), (123, z_lastore), (124, z_aload 0 1), (125, z_iload 1 1), (126, z_ic (nI 2) 1), (127, z_iadd), (128, z_lload 10 2), (130, z_lastore), (131, z_vret)]
set_option maxRecDepth 100000 in
set_option maxHeartbeats 4000000 in
theorem sn_X6_cross {G : Geo} (hG : GeoOK G) (l : Launch) : ∀ q ∈ pr_X6_cross, Sn G l yX6_cross.cls cX6_cross 12 1 none q.1 q.2 :=
  fcs (zs_aload_n dX6_cross_0 rfl) <| fcs (zs_iload_n dX6_cross_1 rfl) <| fcs (zs_iconst dX6_cross_2 rfl) <| fcs (zs_iadd dX6_cross_3) <| fcs (zs_laload dX6_cross_4) <| fcs (zs_aload dX6_cross_5) <| fcs (zs_iload dX6_cross_7) <| fcs (zs_iconst dX6_cross_9 rfl) <| fcs (zs_iadd dX6_cross_10) <| fcs (zs_laload dX6_cross_11) <| fcs (zs_lmul dX6_cross_12) <| fcs (zs_ldc2 dX6_cross_13 wl_X6_91) <| fcs (zs_lrem dX6_cross_16) <| fcs (zs_aload_n dX6_cross_17 rfl) <| fcs (zs_iload_n dX6_cross_18 rfl) <| fcs (zs_iconst dX6_cross_19 rfl) <| fcs (zs_iadd dX6_cross_20) <| fcs (zs_laload dX6_cross_21) <| fcs (zs_aload dX6_cross_22) <| fcs (zs_iload dX6_cross_24) <| fcs (zs_iconst dX6_cross_26 rfl) <| fcs (zs_iadd dX6_cross_27) <| fcs (zs_laload dX6_cross_28) <| fcs (zs_lmul dX6_cross_29) <| fcs (zs_ldc2 dX6_cross_30 wl_X6_91) <| fcs (zs_lrem dX6_cross_33) <| fcs (zs_lsub dX6_cross_34) <| fcs (zs_calls (ct_X6_of hG l) mi_X6_of ws_X6_of (by decide) wm_X6_97 dX6_cross_35) <| fcs (zs_lstore dX6_cross_38 (by decide)) <| fcs (zs_aload_n dX6_cross_40 rfl) <| fcs (zs_iload_n dX6_cross_41 rfl) <| fcs (zs_iconst dX6_cross_42 rfl) <| fcs (zs_iadd dX6_cross_43) <| fcs (zs_laload dX6_cross_44) <| fcs (zs_aload dX6_cross_45) <| fcs (zs_iload dX6_cross_47) <| fcs (zs_laload dX6_cross_49) <| fcs (zs_lmul dX6_cross_50) <| fcs (zs_ldc2 dX6_cross_51 wl_X6_91) <| fcs (zs_lrem dX6_cross_54) <| fcs (zs_aload_n dX6_cross_55 rfl) <| fcs (zs_iload_n dX6_cross_56 rfl) <| fcs (zs_laload dX6_cross_57) <| fcs (zs_aload dX6_cross_58) <| fcs (zs_iload dX6_cross_60) <| fcs (zs_iconst dX6_cross_62 rfl) <| fcs (zs_iadd dX6_cross_63) <| fcs (zs_laload dX6_cross_64) <| fcs (zs_lmul dX6_cross_65) <| fcs (zs_ldc2 dX6_cross_66 wl_X6_91) <| fcs (zs_lrem dX6_cross_69) <| fcs (zs_lsub dX6_cross_70) <| fcs (zs_calls (ct_X6_of hG l) mi_X6_of ws_X6_of (by decide) wm_X6_97 dX6_cross_71) <| fcs (zs_lstore dX6_cross_74 (by decide)) <| fcs (zs_aload_n dX6_cross_76 rfl) <| fcs (zs_iload_n dX6_cross_77 rfl) <| fcs (zs_laload dX6_cross_78) <| fcs (zs_aload dX6_cross_79) <| fcs (zs_iload dX6_cross_81) <| fcs (zs_iconst dX6_cross_83 rfl) <| fcs (zs_iadd dX6_cross_84) <| fcs (zs_laload dX6_cross_85) <| fcs (zs_lmul dX6_cross_86) <| fcs (zs_ldc2 dX6_cross_87 wl_X6_91) <| fcs (zs_lrem dX6_cross_90) <| fcs (zs_aload_n dX6_cross_91 rfl) <| fcs (zs_iload_n dX6_cross_92 rfl) <| fcs (zs_iconst dX6_cross_93 rfl) <| fcs (zs_iadd dX6_cross_94) <| fcs (zs_laload dX6_cross_95) <| fcs (zs_aload dX6_cross_96) <| fcs (zs_iload dX6_cross_98) <| fcs (zs_laload dX6_cross_100) <| fcs (zs_lmul dX6_cross_101) <| fcs (zs_ldc2 dX6_cross_102 wl_X6_91) <| fcs (zs_lrem dX6_cross_105) <| fcs (zs_lsub dX6_cross_106) <| fcs (zs_calls (ct_X6_of hG l) mi_X6_of ws_X6_of (by decide) wm_X6_97 dX6_cross_107) <| fcs (zs_lstore dX6_cross_110 (by decide)) <| fcs (zs_aload_n dX6_cross_112 rfl) <| fcs (zs_iload_n dX6_cross_113 rfl) <| fcs (zs_lload dX6_cross_114) <| fcs (zs_lastore dX6_cross_116) <| fcs (zs_aload_n dX6_cross_117 rfl) <| fcs (zs_iload_n dX6_cross_118 rfl) <| fcs (zs_iconst dX6_cross_119 rfl) <| fcs (zs_iadd dX6_cross_120) <| fcs (zs_lload dX6_cross_121) <| fcs (zs_lastore dX6_cross_123) <| fcs (zs_aload_n dX6_cross_124 rfl) <| fcs (zs_iload_n dX6_cross_125 rfl) <| fcs (zs_iconst dX6_cross_126 rfl) <| fcs (zs_iadd dX6_cross_127) <| fcs (zs_lload dX6_cross_128) <| fcs (zs_lastore dX6_cross_130) <| fcs (zs_vret dX6_cross_131) <| fnl
theorem crm_e (a b c d : ZF) : zi (lv (.inl (lv (.inl (lv (.inl (lv (.inr a) * lv (.inr b))) - lv (.inl (lv (.inr a) * lv (.inr b))) / lv (.inl 2147483647) * lv (.inl 2147483647))) - lv (.inl (lv (.inl (lv (.inr c) * lv (.inr d))) - lv (.inl (lv (.inr c) * lv (.inr d))) / lv (.inl 2147483647) * lv (.inl 2147483647)))))).toInt = a * b - c * d :=
  of_m (by show rP (em a * em b) - rP (em c * em d) = _; rw [n_times, n_times])
set_option maxRecDepth 100000 in
set_option maxHeartbeats 4000000 in
theorem ct_X6_cross {G : Geo} (hG : GeoOK G) (l : Launch) : Ct G l yX6_cross cX6_cross 12 none 1 sp_X6_cross := by
  refine Ct.of pr_X6_cross hG (by decide +kernel) (sn_X6_cross hG l) ?_
  intro av σ post hok h
  unfold sp_X6_cross at h
  split at h
  · rename_i t k l i r j
    obtain ⟨hb, k, i, j, ⟨rfl, rfl, rfl⟩, ⟨hk, hi, hj⟩, h⟩ := bif_t h
    rw [Bool.and_eq_true, Bool.and_eq_true] at hb
    have ht := isM_t hb.1
    have hl := isM_t hb.2.1
    have hr := isM_t hb.2.2
    refine ⟨Nat.le_of_ble_eq_true rfl, fun X hX => ?_⟩
    have s4 : ∀ a b c : ZF, a = (v_crs (g3 σ l i) (g3 σ r j)).1 → b = (v_crs (g3 σ l i) (g3 σ r j)).2.1 → c = (v_crs (g3 σ l i) (g3 σ r j)).2.2 → X 112 [(10, af c), (8, af b), (6, af a), (0, .inr (.inr t)), (1, .inl (nI k)), (2, .inr (.inr l)), (3, .inl (nI i)), (4, .inr (.inr r)), (5, .inl (nI j))] [] σ := by
      intro a b c ha hb hc
      refine go hX [] 60 ?_
      refine ⟨ht, k, _, rfl, by omega, rfl, ?_⟩
      refine ⟨ht, k + 1, _, nI_add _ _, by omega, rfl, ?_⟩
      refine ⟨ht, k + 2, _, nI_add _ _, by omega, rfl, ?_⟩
      show post none _
      exact cpost (p3_e ha hb hc) h
    have s3 : ∀ a b : ZF, a = (v_crs (g3 σ l i) (g3 σ r j)).1 → b = (v_crs (g3 σ l i) (g3 σ r j)).2.1 → X 76 [(8, af b), (6, af a), (0, .inr (.inr t)), (1, .inl (nI k)), (2, .inr (.inr l)), (3, .inl (nI i)), (4, .inr (.inr r)), (5, .inl (nI j))] [] σ := by
      intro a b ha hb
      refine go hX [112] 60 ?_
      refine ⟨hl, i, rfl, by omega, hr, j + 1, nI_add _ _, by omega, ne_P, ?_⟩
      refine ⟨hl, i + 1, nI_add _ _, by omega, hr, j, rfl, by omega, ne_P, ?_⟩
      exact s4 a b _ ha hb (crm_e _ _ _ _)
    have s2 : ∀ a : ZF, a = (v_crs (g3 σ l i) (g3 σ r j)).1 → X 40 [(6, af a), (0, .inr (.inr t)), (1, .inl (nI k)), (2, .inr (.inr l)), (3, .inl (nI i)), (4, .inr (.inr r)), (5, .inl (nI j))] [] σ := by
      intro a ha
      refine go hX [76] 60 ?_
      refine ⟨hl, i + 2, nI_add _ _, by omega, hr, j, rfl, by omega, ne_P, ?_⟩
      refine ⟨hl, i, rfl, by omega, hr, j + 2, nI_add _ _, by omega, ne_P, ?_⟩
      exact s3 a _ ha (crm_e _ _ _ _)
    refine go hX [40] 60 ?_
    refine ⟨hl, i + 1, nI_add _ _, by omega, hr, j + 2, nI_add _ _, by omega, ne_P, ?_⟩
    refine ⟨hl, i + 2, nI_add _ _, by omega, hr, j + 1, nI_add _ _, by omega, ne_P, ?_⟩
    exact s2 _ (crm_e _ _ _ _)
  · exact h.elim
