/-! The class's Inertia -/
noncomputable def sp_X3_tellDiagonal : Spc := fun av σ post => match av with
  | [.inr (.inr f), .inl x, .inl y, .inl z] => bif Nat.beq f.1 3 then post none (sV (sV (sV σ 52 f.2 (vse 0 (fi x) (σ.1 52 f.2))) 53 f.2 (vse 1 (fi y) (σ.1 53 f.2))) 54 f.2 (vse 2 (fi z) (σ.1 54 f.2))) else False
  | _ => False
theorem dX3_tellDiagonal_0 : decode cX3_tellDiagonal 0 = .ok (.aload_n 0, 1) := by decide +kernel
theorem dX3_tellDiagonal_1 : decode cX3_tellDiagonal 1 = .ok (.getfield 12, 3) := by decide +kernel
theorem dX3_tellDiagonal_4 : decode cX3_tellDiagonal 4 = .ok (.iload_n 1, 1) := by decide +kernel
theorem dX3_tellDiagonal_5 : decode cX3_tellDiagonal 5 = .ok (.invokestatic 24, 3) := by decide +kernel
theorem dX3_tellDiagonal_8 : decode cX3_tellDiagonal 8 = .ok (.putfield 30, 3) := by decide +kernel
theorem dX3_tellDiagonal_11 : decode cX3_tellDiagonal 11 = .ok (.aload_n 0, 1) := by decide +kernel
theorem dX3_tellDiagonal_12 : decode cX3_tellDiagonal 12 = .ok (.getfield 18, 3) := by decide +kernel
theorem dX3_tellDiagonal_15 : decode cX3_tellDiagonal 15 = .ok (.iload_n 2, 1) := by decide +kernel
theorem dX3_tellDiagonal_16 : decode cX3_tellDiagonal 16 = .ok (.invokestatic 24, 3) := by decide +kernel
theorem dX3_tellDiagonal_19 : decode cX3_tellDiagonal 19 = .ok (.putfield 34, 3) := by decide +kernel
theorem dX3_tellDiagonal_22 : decode cX3_tellDiagonal 22 = .ok (.aload_n 0, 1) := by decide +kernel
theorem dX3_tellDiagonal_23 : decode cX3_tellDiagonal 23 = .ok (.getfield 21, 3) := by decide +kernel
theorem dX3_tellDiagonal_26 : decode cX3_tellDiagonal 26 = .ok (.iload_n 3, 1) := by decide +kernel
theorem dX3_tellDiagonal_27 : decode cX3_tellDiagonal 27 = .ok (.invokestatic 24, 3) := by decide +kernel
theorem dX3_tellDiagonal_30 : decode cX3_tellDiagonal 30 = .ok (.putfield 37, 3) := by decide +kernel
theorem dX3_tellDiagonal_33 : decode cX3_tellDiagonal 33 = .ok (.return_, 1) := by decide +kernel
theorem wf_X3_12 : Cond.fieldLink RX3 12 (TX3 0).1 (TX3 0).2.1 (TX3 0).2.2.1 ∈ ltb := List.mem_filter.mpr ⟨List.mem_append_right _ (List.mem_of_getElem? (i := 54) (by decide +kernel)), by decide +kernel⟩
theorem wm_X3_24 : Cond.methodLink RX3 24 yX1_of ∈ ltb := List.mem_filter.mpr ⟨List.mem_append_right _ (List.mem_of_getElem? (i := 244) (by decide +kernel)), by decide +kernel⟩
theorem wf_X3_30 : Cond.fieldLink RX3 30 (TX4 0).1 (TX4 0).2.1 (TX4 0).2.2.1 ∈ ltb := List.mem_filter.mpr ⟨List.mem_append_right _ (List.mem_of_getElem? (i := 31) (by decide +kernel)), by decide +kernel⟩
theorem wf_X3_18 : Cond.fieldLink RX3 18 (TX3 1).1 (TX3 1).2.1 (TX3 1).2.2.1 ∈ ltb := List.mem_filter.mpr ⟨List.mem_append_right _ (List.mem_of_getElem? (i := 55) (by decide +kernel)), by decide +kernel⟩
theorem wf_X3_34 : Cond.fieldLink RX3 34 (TX4 1).1 (TX4 1).2.1 (TX4 1).2.2.1 ∈ ltb := List.mem_filter.mpr ⟨List.mem_append_right _ (List.mem_of_getElem? (i := 34) (by decide +kernel)), by decide +kernel⟩
theorem wf_X3_21 : Cond.fieldLink RX3 21 (TX3 2).1 (TX3 2).2.1 (TX3 2).2.2.1 ∈ ltb := List.mem_filter.mpr ⟨List.mem_append_right _ (List.mem_of_getElem? (i := 56) (by decide +kernel)), by decide +kernel⟩
theorem wf_X3_37 : Cond.fieldLink RX3 37 (TX4 2).1 (TX4 2).2.1 (TX4 2).2.2.1 ∈ ltb := List.mem_filter.mpr ⟨List.mem_append_right _ (List.mem_of_getElem? (i := 37) (by decide +kernel)), by decide +kernel⟩
noncomputable def pr_X3_tellDiagonal : Prg := [(0, z_aload 0 1), (1, z_get 2 0), (4, z_iload 1 1), (5, z_call 1 sp_X1_of), (8, z_vput 0), (11, z_aload 0 1), (12, z_get 2 1), (15, z_iload 2 1), (16, z_call 1 sp_X1_of), (19, z_vput 1), (22, z_aload 0 1), (23, z_get 2 2), (26, z_iload 3 1), (27, z_call 1 sp_X1_of), (30, z_vput 2), (33, z_vret)]
set_option maxRecDepth 100000 in
set_option maxHeartbeats 4000000 in
theorem sn_X3_tellDiagonal {G : Geo} (hG : GeoOK G) (l : Launch) : ∀ q ∈ pr_X3_tellDiagonal, Sn G l yX3_tellDiagonal.cls cX3_tellDiagonal 4 2 none q.1 q.2 :=
  fcs (zs_aload_n dX3_tellDiagonal_0 rfl) <| fcs (zs_get cls2 (by decide) (by decide) wf_X3_12 dX3_tellDiagonal_1) <| fcs (zs_iload_n dX3_tellDiagonal_4 rfl) <| fcs (zs_calls (ct_X1_of hG l) mi_X1_of ws_X1_of (by decide) wm_X3_24 dX3_tellDiagonal_5) <| fcs (zs_vput (by decide) wf_X3_30 dX3_tellDiagonal_8) <| fcs (zs_aload_n dX3_tellDiagonal_11 rfl) <| fcs (zs_get cls2 (by decide) (by decide) wf_X3_18 dX3_tellDiagonal_12) <| fcs (zs_iload_n dX3_tellDiagonal_15 rfl) <| fcs (zs_calls (ct_X1_of hG l) mi_X1_of ws_X1_of (by decide) wm_X3_24 dX3_tellDiagonal_16) <| fcs (zs_vput (by decide) wf_X3_34 dX3_tellDiagonal_19) <| fcs (zs_aload_n dX3_tellDiagonal_22 rfl) <| fcs (zs_get cls2 (by decide) (by decide) wf_X3_21 dX3_tellDiagonal_23) <| fcs (zs_iload_n dX3_tellDiagonal_26 rfl) <| fcs (zs_calls (ct_X1_of hG l) mi_X1_of ws_X1_of (by decide) wm_X3_24 dX3_tellDiagonal_27) <| fcs (zs_vput (by decide) wf_X3_37 dX3_tellDiagonal_30) <| fcs (zs_vret dX3_tellDiagonal_33) <| fnl
set_option maxRecDepth 100000 in
set_option maxHeartbeats 4000000 in
theorem ct_X3_tellDiagonal {G : Geo} (hG : GeoOK G) (l : Launch) : Ct G l yX3_tellDiagonal cX3_tellDiagonal 4 none 2 sp_X3_tellDiagonal := by
  refine Ct.of pr_X3_tellDiagonal hG (by decide +kernel) (sn_X3_tellDiagonal hG l) ?_
  intro av σ post hok h
  unfold sp_X3_tellDiagonal at h
  split at h
  · rename_i f x y z
    obtain ⟨f, k⟩ := f
    obtain ⟨hf, h⟩ := bif_t h
    obtain rfl : f = 3 := beq1 hf
    refine ⟨Nat.le_of_ble_eq_true rfl, fun X hX => ?_⟩
    refine go hX [] 60 ?_
    refine ⟨Nat.le_of_ble_eq_true rfl, _, rfl, ?_⟩
    refine ⟨Nat.le_of_ble_eq_true rfl, _, rfl, ?_⟩
    refine ⟨Nat.le_of_ble_eq_true rfl, _, rfl, ?_⟩
    exact h
  · exact h.elim
def i_oth (σ : SS) (k : Nat) (x y z : ZF) : SS :=
  let σ := sV σ 52 k (vse 1 x (σ.1 52 k))
  let σ := sV σ 53 k (vse 0 x (σ.1 53 k))
  let σ := sV σ 52 k (vse 2 y (σ.1 52 k))
  let σ := sV σ 54 k (vse 0 y (σ.1 54 k))
  let σ := sV σ 53 k (vse 2 z (σ.1 53 k))
  sV σ 54 k (vse 1 z (σ.1 54 k))
noncomputable def sp_X3_tellOthers : Spc := fun av σ post => match av with
  | [.inr (.inr f), .inl x, .inl y, .inl z] => bif Nat.beq f.1 3 then post none (i_oth σ f.2 (fi x) (fi y) (fi z)) else False
  | _ => False
theorem dX3_tellOthers_0 : decode cX3_tellOthers 0 = .ok (.aload_n 0, 1) := by decide +kernel
theorem dX3_tellOthers_1 : decode cX3_tellOthers 1 = .ok (.getfield 12, 3) := by decide +kernel
theorem dX3_tellOthers_4 : decode cX3_tellOthers 4 = .ok (.iload_n 1, 1) := by decide +kernel
theorem dX3_tellOthers_5 : decode cX3_tellOthers 5 = .ok (.invokestatic 24, 3) := by decide +kernel
theorem dX3_tellOthers_8 : decode cX3_tellOthers 8 = .ok (.putfield 34, 3) := by decide +kernel
theorem dX3_tellOthers_11 : decode cX3_tellOthers 11 = .ok (.aload_n 0, 1) := by decide +kernel
theorem dX3_tellOthers_12 : decode cX3_tellOthers 12 = .ok (.getfield 18, 3) := by decide +kernel
theorem dX3_tellOthers_15 : decode cX3_tellOthers 15 = .ok (.iload_n 1, 1) := by decide +kernel
theorem dX3_tellOthers_16 : decode cX3_tellOthers 16 = .ok (.invokestatic 24, 3) := by decide +kernel
theorem dX3_tellOthers_19 : decode cX3_tellOthers 19 = .ok (.putfield 30, 3) := by decide +kernel
theorem dX3_tellOthers_22 : decode cX3_tellOthers 22 = .ok (.aload_n 0, 1) := by decide +kernel
theorem dX3_tellOthers_23 : decode cX3_tellOthers 23 = .ok (.getfield 12, 3) := by decide +kernel
theorem dX3_tellOthers_26 : decode cX3_tellOthers 26 = .ok (.iload_n 2, 1) := by decide +kernel
theorem dX3_tellOthers_27 : decode cX3_tellOthers 27 = .ok (.invokestatic 24, 3) := by decide +kernel
theorem dX3_tellOthers_30 : decode cX3_tellOthers 30 = .ok (.putfield 37, 3) := by decide +kernel
theorem dX3_tellOthers_33 : decode cX3_tellOthers 33 = .ok (.aload_n 0, 1) := by decide +kernel
theorem dX3_tellOthers_34 : decode cX3_tellOthers 34 = .ok (.getfield 21, 3) := by decide +kernel
theorem dX3_tellOthers_37 : decode cX3_tellOthers 37 = .ok (.iload_n 2, 1) := by decide +kernel
theorem dX3_tellOthers_38 : decode cX3_tellOthers 38 = .ok (.invokestatic 24, 3) := by decide +kernel
theorem dX3_tellOthers_41 : decode cX3_tellOthers 41 = .ok (.putfield 30, 3) := by decide +kernel
theorem dX3_tellOthers_44 : decode cX3_tellOthers 44 = .ok (.aload_n 0, 1) := by decide +kernel
theorem dX3_tellOthers_45 : decode cX3_tellOthers 45 = .ok (.getfield 18, 3) := by decide +kernel
theorem dX3_tellOthers_48 : decode cX3_tellOthers 48 = .ok (.iload_n 3, 1) := by decide +kernel
theorem dX3_tellOthers_49 : decode cX3_tellOthers 49 = .ok (.invokestatic 24, 3) := by decide +kernel
theorem dX3_tellOthers_52 : decode cX3_tellOthers 52 = .ok (.putfield 37, 3) := by decide +kernel
theorem dX3_tellOthers_55 : decode cX3_tellOthers 55 = .ok (.aload_n 0, 1) := by decide +kernel
theorem dX3_tellOthers_56 : decode cX3_tellOthers 56 = .ok (.getfield 21, 3) := by decide +kernel
theorem dX3_tellOthers_59 : decode cX3_tellOthers 59 = .ok (.iload_n 3, 1) := by decide +kernel
theorem dX3_tellOthers_60 : decode cX3_tellOthers 60 = .ok (.invokestatic 24, 3) := by decide +kernel
theorem dX3_tellOthers_63 : decode cX3_tellOthers 63 = .ok (.putfield 34, 3) := by decide +kernel
theorem dX3_tellOthers_66 : decode cX3_tellOthers 66 = .ok (.return_, 1) := by decide +kernel
noncomputable def pr_X3_tellOthers : Prg := [(0, z_aload 0 1), (1, z_get 2 0), (4, z_iload 1 1), (5, z_call 1 sp_X1_of), (8, z_vput 1), (11, z_aload 0 1), (12, z_get 2 1), (15, z_iload 1 1), (16, z_call 1 sp_X1_of), (19, z_vput 0), (22, z_aload 0 1), (23, z_get 2 0), (26, z_iload 2 1), (27, z_call 1 sp_X1_of), (30, z_vput 2), (33, z_aload 0 1), (34, z_get 2 2), (37, z_iload 2 1), (38, z_call 1 sp_X1_of), (41, z_vput 0), (44, z_aload 0 1), (45, z_get 2 1), (48, z_iload 3 1), (49, z_call 1 sp_X1_of), (52, z_vput 2), (55, z_aload 0 1), (56, z_get 2 2), (59, z_iload 3 1), (60, z_call 1 sp_X1_of), (63, z_vput 1), (66, z_vret)]
set_option maxRecDepth 100000 in
set_option maxHeartbeats 4000000 in
theorem sn_X3_tellOthers {G : Geo} (hG : GeoOK G) (l : Launch) : ∀ q ∈ pr_X3_tellOthers, Sn G l yX3_tellOthers.cls cX3_tellOthers 4 2 none q.1 q.2 :=
  fcs (zs_aload_n dX3_tellOthers_0 rfl) <| fcs (zs_get cls2 (by decide) (by decide) wf_X3_12 dX3_tellOthers_1) <| fcs (zs_iload_n dX3_tellOthers_4 rfl) <| fcs (zs_calls (ct_X1_of hG l) mi_X1_of ws_X1_of (by decide) wm_X3_24 dX3_tellOthers_5) <| fcs (zs_vput (by decide) wf_X3_34 dX3_tellOthers_8) <| fcs (zs_aload_n dX3_tellOthers_11 rfl) <| fcs (zs_get cls2 (by decide) (by decide) wf_X3_18 dX3_tellOthers_12) <| fcs (zs_iload_n dX3_tellOthers_15 rfl) <| fcs (zs_calls (ct_X1_of hG l) mi_X1_of ws_X1_of (by decide) wm_X3_24 dX3_tellOthers_16) <| fcs (zs_vput (by decide) wf_X3_30 dX3_tellOthers_19) <| fcs (zs_aload_n dX3_tellOthers_22 rfl) <| fcs (zs_get cls2 (by decide) (by decide) wf_X3_12 dX3_tellOthers_23) <| fcs (zs_iload_n dX3_tellOthers_26 rfl) <| fcs (zs_calls (ct_X1_of hG l) mi_X1_of ws_X1_of (by decide) wm_X3_24 dX3_tellOthers_27) <| fcs (zs_vput (by decide) wf_X3_37 dX3_tellOthers_30) <| fcs (zs_aload_n dX3_tellOthers_33 rfl) <| fcs (zs_get cls2 (by decide) (by decide) wf_X3_21 dX3_tellOthers_34) <| fcs (zs_iload_n dX3_tellOthers_37 rfl) <| fcs (zs_calls (ct_X1_of hG l) mi_X1_of ws_X1_of (by decide) wm_X3_24 dX3_tellOthers_38) <| fcs (zs_vput (by decide) wf_X3_30 dX3_tellOthers_41) <| fcs (zs_aload_n dX3_tellOthers_44 rfl) <| fcs (zs_get cls2 (by decide) (by decide) wf_X3_18 dX3_tellOthers_45) <| fcs (zs_iload_n dX3_tellOthers_48 rfl) <| fcs (zs_calls (ct_X1_of hG l) mi_X1_of ws_X1_of (by decide) wm_X3_24 dX3_tellOthers_49) <| fcs (zs_vput (by decide) wf_X3_37 dX3_tellOthers_52) <| fcs (zs_aload_n dX3_tellOthers_55 rfl) <| fcs (zs_get cls2 (by decide) (by decide) wf_X3_21 dX3_tellOthers_56) <| fcs (zs_iload_n dX3_tellOthers_59 rfl) <| fcs (zs_calls (ct_X1_of hG l) mi_X1_of ws_X1_of (by decide) wm_X3_24 dX3_tellOthers_60) <| fcs (zs_vput (by decide) wf_X3_34 dX3_tellOthers_63) <| fcs (zs_vret dX3_tellOthers_66) <| fnl
set_option maxRecDepth 100000 in
set_option maxHeartbeats 4000000 in
theorem ct_X3_tellOthers {G : Geo} (hG : GeoOK G) (l : Launch) : Ct G l yX3_tellOthers cX3_tellOthers 4 none 2 sp_X3_tellOthers := by
  refine Ct.of pr_X3_tellOthers hG (by decide +kernel) (sn_X3_tellOthers hG l) ?_
  intro av σ post hok h
  unfold sp_X3_tellOthers at h
  split at h
  · rename_i f x y z
    obtain ⟨f, k⟩ := f
    obtain ⟨hf, h⟩ := bif_t h
    obtain rfl : f = 3 := beq1 hf
    refine ⟨Nat.le_of_ble_eq_true rfl, fun X hX => ?_⟩
    refine go hX [] 60 ?_
    refine ⟨Nat.le_of_ble_eq_true rfl, _, rfl, ?_⟩
    refine ⟨Nat.le_of_ble_eq_true rfl, _, rfl, ?_⟩
    refine ⟨Nat.le_of_ble_eq_true rfl, _, rfl, ?_⟩
    refine ⟨Nat.le_of_ble_eq_true rfl, _, rfl, ?_⟩
    refine ⟨Nat.le_of_ble_eq_true rfl, _, rfl, ?_⟩
    refine ⟨Nat.le_of_ble_eq_true rfl, _, rfl, ?_⟩
    exact h
  · exact h.elim
def i_app (σ : SS) (k : Nat) (q : Nat × Nat) : SS :=
  sV σ q.1 q.2 (v_dot (σ.1 52 k) (σ.1 q.1 q.2), v_dot (σ.1 53 k) (σ.1 q.1 q.2), v_dot (σ.1 54 k) (σ.1 q.1 q.2))
noncomputable def sp_X3_applyTo : Spc := fun av σ post => match av with
  | [.inr (.inr f), .inr (.inr q)] => bif Nat.beq f.1 3 && is5 q then post none (i_app σ f.2 q) else False
  | _ => False
theorem dX3_applyTo_0 : decode cX3_applyTo 0 = .ok (.aload_n 0, 1) := by decide +kernel
theorem dX3_applyTo_1 : decode cX3_applyTo 1 = .ok (.getfield 12, 3) := by decide +kernel
theorem dX3_applyTo_4 : decode cX3_applyTo 4 = .ok (.aload_n 1, 1) := by decide +kernel
theorem dX3_applyTo_5 : decode cX3_applyTo 5 = .ok (.invokevirtual 40, 3) := by decide +kernel
theorem dX3_applyTo_8 : decode cX3_applyTo 8 = .ok (.lstore_n 2, 1) := by decide +kernel
theorem dX3_applyTo_9 : decode cX3_applyTo 9 = .ok (.aload_n 0, 1) := by decide +kernel
theorem dX3_applyTo_10 : decode cX3_applyTo 10 = .ok (.getfield 18, 3) := by decide +kernel
theorem dX3_applyTo_13 : decode cX3_applyTo 13 = .ok (.aload_n 1, 1) := by decide +kernel
theorem dX3_applyTo_14 : decode cX3_applyTo 14 = .ok (.invokevirtual 40, 3) := by decide +kernel
theorem dX3_applyTo_17 : decode cX3_applyTo 17 = .ok (.lstore 4, 2) := by decide +kernel
theorem dX3_applyTo_19 : decode cX3_applyTo 19 = .ok (.aload_n 0, 1) := by decide +kernel
theorem dX3_applyTo_20 : decode cX3_applyTo 20 = .ok (.getfield 21, 3) := by decide +kernel
theorem dX3_applyTo_23 : decode cX3_applyTo 23 = .ok (.aload_n 1, 1) := by decide +kernel
theorem dX3_applyTo_24 : decode cX3_applyTo 24 = .ok (.invokevirtual 40, 3) := by decide +kernel
theorem dX3_applyTo_27 : decode cX3_applyTo 27 = .ok (.lstore 6, 2) := by decide +kernel
theorem dX3_applyTo_29 : decode cX3_applyTo 29 = .ok (.aload_n 1, 1) := by decide +kernel
theorem dX3_applyTo_30 : decode cX3_applyTo 30 = .ok (.lload_n 2, 1) := by decide +kernel
theorem dX3_applyTo_31 : decode cX3_applyTo 31 = .ok (.putfield 30, 3) := by decide +kernel
theorem dX3_applyTo_34 : decode cX3_applyTo 34 = .ok (.aload_n 1, 1) := by decide +kernel
theorem dX3_applyTo_35 : decode cX3_applyTo 35 = .ok (.lload 4, 2) := by decide +kernel
theorem dX3_applyTo_37 : decode cX3_applyTo 37 = .ok (.putfield 34, 3) := by decide +kernel
theorem dX3_applyTo_40 : decode cX3_applyTo 40 = .ok (.aload_n 1, 1) := by decide +kernel
theorem dX3_applyTo_41 : decode cX3_applyTo 41 = .ok (.lload 6, 2) := by decide +kernel
theorem dX3_applyTo_43 : decode cX3_applyTo 43 = .ok (.putfield 37, 3) := by decide +kernel
theorem dX3_applyTo_46 : decode cX3_applyTo 46 = .ok (.return_, 1) := by decide +kernel
theorem wm_X3_40 : Cond.methodLink RX3 40 yX4_dot ∈ ltb := List.mem_filter.mpr ⟨List.mem_append_right _ (List.mem_of_getElem? (i := 386) (by decide +kernel)), by decide +kernel⟩
noncomputable def pr_X3_applyTo : Prg := [(0, z_aload 0 1), (1, z_get 2 0), (4, z_aload 1 1), (5, z_callv 1 3 sp_X4_dot), (8, z_lstore 2 1), (9, z_aload 0 1), (10, z_get 2 1), (13, z_aload 1 1), (14, z_callv 1 3 sp_X4_dot), (17, z_lstore 4 2), (19, z_aload 0 1), (20, z_get 2 2), (23, z_aload 1 1), (24, z_callv 1 3 sp_X4_dot), (27, z_lstore 6 2), (29, z_aload 1 1), (30, z_lload 2 1), (31, z_vput 0), (34, z_aload 1 1), (35, z_lload 4 2), (37, z_vput 1), (40, z_aload 1 1), (41, z_lload 6 2), (43, z_vput 2), (46, z_vret)]
set_option maxRecDepth 100000 in
set_option maxHeartbeats 4000000 in
theorem sn_X3_applyTo {G : Geo} (hG : GeoOK G) (l : Launch) : ∀ q ∈ pr_X3_applyTo, Sn G l yX3_applyTo.cls cX3_applyTo 8 1 none q.1 q.2 :=
  fcs (zs_aload_n dX3_applyTo_0 rfl) <| fcs (zs_get cls2 (by decide) (by decide) wf_X3_12 dX3_applyTo_1) <| fcs (zs_aload_n dX3_applyTo_4 rfl) <| fcs (zs_callv cls3 (by decide) (ct_X4_dot hG l) mi_X4_dot wv_X4_dot we_X4_dot (by decide) wm_X3_40 dX3_applyTo_5) <| fcs (zs_lstore_n dX3_applyTo_8 rfl (by decide)) <| fcs (zs_aload_n dX3_applyTo_9 rfl) <| fcs (zs_get cls2 (by decide) (by decide) wf_X3_18 dX3_applyTo_10) <| fcs (zs_aload_n dX3_applyTo_13 rfl) <| fcs (zs_callv cls3 (by decide) (ct_X4_dot hG l) mi_X4_dot wv_X4_dot we_X4_dot (by decide) wm_X3_40 dX3_applyTo_14) <| fcs (zs_lstore dX3_applyTo_17 (by decide)) <| fcs (zs_aload_n dX3_applyTo_19 rfl) <| fcs (zs_get cls2 (by decide) (by decide) wf_X3_21 dX3_applyTo_20) <| fcs (zs_aload_n dX3_applyTo_23 rfl) <| fcs (zs_callv cls3 (by decide) (ct_X4_dot hG l) mi_X4_dot wv_X4_dot we_X4_dot (by decide) wm_X3_40 dX3_applyTo_24) <| fcs (zs_lstore dX3_applyTo_27 (by decide)) <| fcs (zs_aload_n dX3_applyTo_29 rfl) <| fcs (zs_lload_n dX3_applyTo_30 rfl) <| fcs (zs_vput (by decide) wf_X3_30 dX3_applyTo_31) <| fcs (zs_aload_n dX3_applyTo_34 rfl) <| fcs (zs_lload dX3_applyTo_35) <| fcs (zs_vput (by decide) wf_X3_34 dX3_applyTo_37) <| fcs (zs_aload_n dX3_applyTo_40 rfl) <| fcs (zs_lload dX3_applyTo_41) <| fcs (zs_vput (by decide) wf_X3_37 dX3_applyTo_43) <| fcs (zs_vret dX3_applyTo_46) <| fnl
set_option maxRecDepth 100000 in
set_option maxHeartbeats 4000000 in
theorem ct_X3_applyTo {G : Geo} (hG : GeoOK G) (l : Launch) : Ct G l yX3_applyTo cX3_applyTo 8 none 1 sp_X3_applyTo := by
  refine Ct.of pr_X3_applyTo hG (by decide +kernel) (sn_X3_applyTo hG l) ?_
  intro av σ post hok h
  unfold sp_X3_applyTo at h
  split at h
  · rename_i f q
    obtain ⟨f, k⟩ := f
    obtain ⟨hf, h⟩ := bif_t h
    rw [Bool.and_eq_true] at hf
    obtain ⟨hf, hq⟩ := hf
    obtain rfl : f = 3 := beq1 hf
    refine ⟨Nat.le_of_ble_eq_true rfl, fun X hX => ?_⟩
    refine go hX [] 60 ?_
    refine bif5 (is5_and rfl hq) ?_
    refine bif5 (is5_and rfl hq) ?_
    refine bif5 (is5_and rfl hq) ?_
    refine ⟨is5_t hq, _, rfl, ?_⟩
    refine ⟨is5_t hq, _, rfl, ?_⟩
    refine ⟨is5_t hq, _, rfl, ?_⟩
    show post none _
    exact cpost (fin3 rfl rfl rfl) h
  · exact h.elim
