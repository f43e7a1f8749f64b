/-! LimbWorks: what is asked of the state as it is -/
theorem nle {a b : Nat} (h : Nat.ble a b = true) : a ≤ b := Nat.le_of_ble_eq_true h
def col1 (c : Nat) (s : SS) (j : Nat) : SS := sL s 19 j c (s.2.1 16 0 j)
def c_col (σ : SS) (c : Nat) : SS := upf (col1 c) (sL (c_ned (sL σ 15 0 c 1) (70, 0) (14, 0) (15, 0)) 15 0 c 0) (nn σ)
theorem c_col_I (σ : SS) (c : Nat) : (c_col σ c).2.2 = σ.2.2 :=
  (upf_I (f := col1 c) (fun _ _ => rfl) _ _).trans (c_ned_I (sL σ 15 0 c 1) (70, 0) (14, 0) (15, 0))
noncomputable def sp_X5_fillColumn : Spc := fun av σ post => match av with
  | [.inr (.inr b), .inl x] => bif is0 b then (CI σ ∧ ∃ c, x = nI c ∧ c < 8 ∧ post none (c_col σ c)) else False
  | _ => False
theorem dX5_fillColumn_0 : decode cX5_fillColumn 0 = .ok (.aload_n 0, 1) := by decide +kernel
theorem dX5_fillColumn_1 : decode cX5_fillColumn 1 = .ok (.getfield 48, 3) := by decide +kernel
theorem dX5_fillColumn_4 : decode cX5_fillColumn 4 = .ok (.iload_n 1, 1) := by decide +kernel
theorem dX5_fillColumn_5 : decode cX5_fillColumn 5 = .ok (.lconst 1, 1) := by decide +kernel
theorem dX5_fillColumn_6 : decode cX5_fillColumn 6 = .ok (.lastore, 1) := by decide +kernel
theorem dX5_fillColumn_7 : decode cX5_fillColumn 7 = .ok (.aload_n 0, 1) := by decide +kernel
theorem dX5_fillColumn_8 : decode cX5_fillColumn 8 = .ok (.aload_n 0, 1) := by decide +kernel
theorem dX5_fillColumn_9 : decode cX5_fillColumn 9 = .ok (.getfield 29, 3) := by decide +kernel
theorem dX5_fillColumn_12 : decode cX5_fillColumn 12 = .ok (.aload_n 0, 1) := by decide +kernel
theorem dX5_fillColumn_13 : decode cX5_fillColumn 13 = .ok (.getfield 45, 3) := by decide +kernel
theorem dX5_fillColumn_16 : decode cX5_fillColumn 16 = .ok (.aload_n 0, 1) := by decide +kernel
theorem dX5_fillColumn_17 : decode cX5_fillColumn 17 = .ok (.getfield 48, 3) := by decide +kernel
theorem dX5_fillColumn_20 : decode cX5_fillColumn 20 = .ok (.invokevirtual 111, 3) := by decide +kernel
theorem dX5_fillColumn_23 : decode cX5_fillColumn 23 = .ok (.aload_n 0, 1) := by decide +kernel
theorem dX5_fillColumn_24 : decode cX5_fillColumn 24 = .ok (.getfield 48, 3) := by decide +kernel
theorem dX5_fillColumn_27 : decode cX5_fillColumn 27 = .ok (.iload_n 1, 1) := by decide +kernel
theorem dX5_fillColumn_28 : decode cX5_fillColumn 28 = .ok (.lconst 0, 1) := by decide +kernel
theorem dX5_fillColumn_29 : decode cX5_fillColumn 29 = .ok (.lastore, 1) := by decide +kernel
theorem dX5_fillColumn_30 : decode cX5_fillColumn 30 = .ok (.iconst 1, 1) := by decide +kernel
theorem dX5_fillColumn_31 : decode cX5_fillColumn 31 = .ok (.istore_n 2, 1) := by decide +kernel
theorem dX5_fillColumn_32 : decode cX5_fillColumn 32 = .ok (.iload_n 2, 1) := by decide +kernel
theorem dX5_fillColumn_33 : decode cX5_fillColumn 33 = .ok (.aload_n 0, 1) := by decide +kernel
theorem dX5_fillColumn_34 : decode cX5_fillColumn 34 = .ok (.getfield 16, 3) := by decide +kernel
theorem dX5_fillColumn_37 : decode cX5_fillColumn 37 = .ok (.if_icmp .gt 23, 3) := by decide +kernel
theorem dX5_fillColumn_40 : decode cX5_fillColumn 40 = .ok (.aload_n 0, 1) := by decide +kernel
theorem dX5_fillColumn_41 : decode cX5_fillColumn 41 = .ok (.getfield 56, 3) := by decide +kernel
theorem dX5_fillColumn_44 : decode cX5_fillColumn 44 = .ok (.iload_n 2, 1) := by decide +kernel
theorem dX5_fillColumn_45 : decode cX5_fillColumn 45 = .ok (.aaload, 1) := by decide +kernel
theorem dX5_fillColumn_46 : decode cX5_fillColumn 46 = .ok (.iload_n 1, 1) := by decide +kernel
theorem dX5_fillColumn_47 : decode cX5_fillColumn 47 = .ok (.aload_n 0, 1) := by decide +kernel
theorem dX5_fillColumn_48 : decode cX5_fillColumn 48 = .ok (.getfield 51, 3) := by decide +kernel
theorem dX5_fillColumn_51 : decode cX5_fillColumn 51 = .ok (.iload_n 2, 1) := by decide +kernel
theorem dX5_fillColumn_52 : decode cX5_fillColumn 52 = .ok (.laload, 1) := by decide +kernel
theorem dX5_fillColumn_53 : decode cX5_fillColumn 53 = .ok (.lastore, 1) := by decide +kernel
theorem dX5_fillColumn_54 : decode cX5_fillColumn 54 = .ok (.iinc 2 1, 3) := by decide +kernel
theorem dX5_fillColumn_57 : decode cX5_fillColumn 57 = .ok (.goto (-25), 3) := by decide +kernel
theorem dX5_fillColumn_60 : decode cX5_fillColumn 60 = .ok (.return_, 1) := by decide +kernel
theorem wf_X5_48 : Cond.fieldLink RX5 48 (TX5 9).1 (TX5 9).2.1 (TX5 9).2.2.1 ∈ ltb := List.mem_filter.mpr ⟨List.mem_append_right _ (List.mem_of_getElem? (i := 161) (by decide +kernel)), by decide +kernel⟩
theorem wf_X5_29 : Cond.fieldLink RX5 29 (TX5 3).1 (TX5 3).2.1 (TX5 3).2.2.1 ∈ ltb := List.mem_filter.mpr ⟨List.mem_append_right _ (List.mem_of_getElem? (i := 155) (by decide +kernel)), by decide +kernel⟩
theorem wf_X5_45 : Cond.fieldLink RX5 45 (TX5 8).1 (TX5 8).2.1 (TX5 8).2.2.1 ∈ ltb := List.mem_filter.mpr ⟨List.mem_append_right _ (List.mem_of_getElem? (i := 160) (by decide +kernel)), by decide +kernel⟩
theorem wc_X5_findNeeded : Cond.code yX5_findNeeded cX5_findNeeded 5 none ∈ ltb := List.mem_filter.mpr ⟨List.mem_append_right _ (List.mem_of_getElem? (i := 341) (by decide +kernel)), by decide +kernel⟩
theorem mi_X5_findNeeded : Mi yX5_findNeeded RX5 3 cX5_findNeeded 5 none := ⟨by decide +kernel, wc_X5_findNeeded, wi_X5, by decide⟩
theorem wv_X5_findNeeded : Cond.instanceMethod yX5_findNeeded ∈ ltb := List.mem_filter.mpr ⟨List.mem_append_right _ (List.mem_of_getElem? (i := 340) (by decide +kernel)), by decide +kernel⟩
theorem we_X5_findNeeded : Cond.selects RX5 yX5_findNeeded yX5_findNeeded ∈ ltb := List.mem_filter.mpr ⟨List.mem_append_left _ (List.mem_of_getElem? (i := 3) (by decide +kernel)), by decide +kernel⟩
theorem wm_X5_111 : Cond.methodLink RX5 111 yX5_findNeeded ∈ ltb := List.mem_filter.mpr ⟨List.mem_append_right _ (List.mem_of_getElem? (i := 338) (by decide +kernel)), by decide +kernel⟩
theorem wf_X5_56 : Cond.fieldLink RX5 56 (TX5 11).1 (TX5 11).2.1 (TX5 11).2.2.1 ∈ ltb := List.mem_filter.mpr ⟨List.mem_append_right _ (List.mem_of_getElem? (i := 163) (by decide +kernel)), by decide +kernel⟩
noncomputable def pr_X5_fillColumn : Prg := [(0, z_aload 0 1), (1, z_get 4 9), (4, z_iload 1 1), (5, z_lc (.inr 1) 1), (6, z_lastore), (7, z_aload 0 1), (8, z_aload 0 1), (9, z_get 4 3), (12, z_aload 0 1), (13, z_get 4 8), (16, z_aload 0 1), (17, z_get 4 9), (20, z_callv 3 4 sp_X5_findNeeded), (23, z_aload 0 1), (24, z_get 4 9), (27, z_iload 1 1), (28, z_lc (.inr 0) 1), (29, z_lastore), (30, z_ic (nI 1) 1), (31, z_istore 2 1), (32, z_iload 2 1), (33, z_aload 0 1), (34, z_get 4 1), (37, z_if2 (fun x y => y < x) 60), (40, z_aload 0 1), (41, z_get 4 11), (44, z_iload 2 1), (45, z_aaload), (46, z_iload 1 1), (47, z_aload 0 1), (48, z_get 4 10), (51, z_iload 2 1), (52, z_laload), (53, z_lastore), (54, z_iinc 2 (nI 1)), (57, z_goto 32), (60, z_vret)]
set_option maxRecDepth 100000 in
set_option maxHeartbeats 4000000 in
theorem sn_X5_fillColumn {G : Geo} (hG : GeoOK G) (l : Launch) : ∀ q ∈ pr_X5_fillColumn, Sn G l yX5_fillColumn.cls cX5_fillColumn 3 5 none q.1 q.2 :=
  fcs (zs_aload_n dX5_fillColumn_0 rfl) <| fcs (zs_get cls4 (by decide) (by decide) wf_X5_48 dX5_fillColumn_1) <| fcs (zs_iload_n dX5_fillColumn_4 rfl) <| fcs (zs_lconst dX5_fillColumn_5 rfl) <| fcs (zs_lastore dX5_fillColumn_6) <| fcs (zs_aload_n dX5_fillColumn_7 rfl) <| fcs (zs_aload_n dX5_fillColumn_8 rfl) <| fcs (zs_get cls4 (by decide) (by decide) wf_X5_29 dX5_fillColumn_9) <| fcs (zs_aload_n dX5_fillColumn_12 rfl) <| fcs (zs_get cls4 (by decide) (by decide) wf_X5_45 dX5_fillColumn_13) <| fcs (zs_aload_n dX5_fillColumn_16 rfl) <| fcs (zs_get cls4 (by decide) (by decide) wf_X5_48 dX5_fillColumn_17) <| fcs (zs_callv cls4 (by decide) (ct_X5_findNeeded hG l) mi_X5_findNeeded wv_X5_findNeeded we_X5_findNeeded (by decide) wm_X5_111 dX5_fillColumn_20) <| fcs (zs_aload_n dX5_fillColumn_23 rfl) <| fcs (zs_get cls4 (by decide) (by decide) wf_X5_48 dX5_fillColumn_24) <| fcs (zs_iload_n dX5_fillColumn_27 rfl) <| fcs (zs_lconst dX5_fillColumn_28 rfl) <| fcs (zs_lastore dX5_fillColumn_29) <| fcs (zs_iconst dX5_fillColumn_30 rfl) <| fcs (zs_istore_n dX5_fillColumn_31 rfl (by decide)) <| fcs (zs_iload_n dX5_fillColumn_32 rfl) <| fcs (zs_aload_n dX5_fillColumn_33 rfl) <| fcs (zs_get cls4 (by decide) (by decide) wf_X5_16 dX5_fillColumn_34) <| fcs (zs_icmp_gt dX5_fillColumn_37 rfl) <| fcs (zs_aload_n dX5_fillColumn_40 rfl) <| fcs (zs_get cls4 (by decide) (by decide) wf_X5_56 dX5_fillColumn_41) <| fcs (zs_iload_n dX5_fillColumn_44 rfl) <| fcs (zs_aaload dX5_fillColumn_45) <| fcs (zs_iload_n dX5_fillColumn_46 rfl) <| fcs (zs_aload_n dX5_fillColumn_47 rfl) <| fcs (zs_get cls4 (by decide) (by decide) wf_X5_51 dX5_fillColumn_48) <| fcs (zs_iload_n dX5_fillColumn_51 rfl) <| fcs (zs_laload dX5_fillColumn_52) <| fcs (zs_lastore dX5_fillColumn_53) <| fcs (zs_iinc dX5_fillColumn_54 rfl (by decide)) <| fcs (zs_goto dX5_fillColumn_57 rfl) <| fcs (zs_vret dX5_fillColumn_60) <| fnl
set_option maxRecDepth 100000 in
set_option maxHeartbeats 4000000 in
theorem ct_X5_fillColumn {G : Geo} (hG : GeoOK G) (l : Launch) : Ct G l yX5_fillColumn cX5_fillColumn 3 none 5 sp_X5_fillColumn := by
  refine Ct.of pr_X5_fillColumn hG (by decide +kernel) (sn_X5_fillColumn hG l) ?_
  intro av σ post hok h
  unfold sp_X5_fillColumn at h
  split at h
  · rename_i b x
    obtain ⟨hb, hI, c, rfl, hc, h9⟩ := bif_t h
    clear h
    obtain rfl := is0_t hb
    refine ⟨Nat.le_of_ble_eq_true rfl, fun X hX => ?_⟩
    have h7 := hI.2.1
    have h0I : ∀ k, (upf (col1 c) (sL (c_ned (sL σ 15 0 c 1) (70, 0) (14, 0) (15, 0)) 15 0 c 0) k).2.2 = σ.2.2 := fun k =>
      (upf_I (f := col1 c) (fun _ _ => rfl) _ _).trans (c_ned_I (sL σ 15 0 c 1) (70, 0) (14, 0) (15, 0))
    have loop : ∀ (m k : Nat) (i : Int32), k + m = nn σ → i = nI (k + 1) → X 32 [(2, .inl i), (0, ar 0 0), (1, .inl (nI c))] [] (upf (col1 c) (sL (c_ned (sL σ 15 0 c 1) (70, 0) (14, 0) (15, 0)) 15 0 c 0) k) := by
      intro m
      induction m with
      | zero =>
        intro k i hk hi
        subst hi
        have hI' := CI_of (h0I k) hI
        have hn := nn_of (h0I k)
        refine go hX [32] 60 ?_
        refine ⟨fun g1 => ?_, fun g1 => absurd (lp_t hI' (by omega) (by omega)) g1⟩
        have e : k = nn σ := by omega
        subst e
        exact h9
      | succ m ih =>
        intro k i hk hi
        subst hi
        have hI' := CI_of (h0I k) hI
        have hn := nn_of (h0I k)
        refine go hX [32] 60 ?_
        refine ⟨fun g1 => absurd g1 (lp_f hI' (by omega)), fun g1 => ?_⟩
        refine ⟨k + 1, rfl, by omega, ?_⟩
        refine ⟨⟨nle rfl, nle rfl⟩, k + 1, rfl, by show k + 1 < 8; omega, ?_⟩
        refine ⟨⟨nle rfl, nle rfl⟩, c, _, rfl, hc, rfl, ?_⟩
        exact ih (k + 1) _ (by omega) (nI_add _ _)
    refine go hX [32] 60 ?_
    refine ⟨⟨nle rfl, nle rfl⟩, c, 1, rfl, hc, rfl, ?_⟩
    refine ⟨CI_of rfl hI, ?_⟩
    refine ⟨⟨nle rfl, nle rfl⟩, c, 0, rfl, hc, rfl, ?_⟩
    exact loop (nn σ) 0 _ (by omega) rfl
  · exact h.elim
def gap1 (s : SS) (k : Nat) : SS := sL s 17 0 k (s.2.1 13 0 k - s.2.1 16 0 k)
def c_gap (σ : SS) : SS := upf gap1 (c_ned σ (69, 0) (11, 0) (14, 0)) (nn σ)
theorem c_gap_I (σ : SS) : (c_gap σ).2.2 = σ.2.2 := (upf_I (f := gap1) (fun _ _ => rfl) _ _).trans (c_ned_I σ (69, 0) (11, 0) (14, 0))
noncomputable def sp_X5_fillGaps : Spc := fun av σ post => match av with
  | [.inr (.inr b)] => bif is0 b then (CI σ ∧ post none (c_gap σ)) else False
  | _ => False
theorem dX5_fillGaps_0 : decode cX5_fillGaps 0 = .ok (.aload_n 0, 1) := by decide +kernel
theorem dX5_fillGaps_1 : decode cX5_fillGaps 1 = .ok (.aload_n 0, 1) := by decide +kernel
theorem dX5_fillGaps_2 : decode cX5_fillGaps 2 = .ok (.getfield 25, 3) := by decide +kernel
theorem dX5_fillGaps_5 : decode cX5_fillGaps 5 = .ok (.aload_n 0, 1) := by decide +kernel
theorem dX5_fillGaps_6 : decode cX5_fillGaps 6 = .ok (.getfield 36, 3) := by decide +kernel
theorem dX5_fillGaps_9 : decode cX5_fillGaps 9 = .ok (.aload_n 0, 1) := by decide +kernel
theorem dX5_fillGaps_10 : decode cX5_fillGaps 10 = .ok (.getfield 45, 3) := by decide +kernel
theorem dX5_fillGaps_13 : decode cX5_fillGaps 13 = .ok (.invokevirtual 111, 3) := by decide +kernel
theorem dX5_fillGaps_16 : decode cX5_fillGaps 16 = .ok (.iconst 1, 1) := by decide +kernel
theorem dX5_fillGaps_17 : decode cX5_fillGaps 17 = .ok (.istore_n 1, 1) := by decide +kernel
theorem dX5_fillGaps_18 : decode cX5_fillGaps 18 = .ok (.iload_n 1, 1) := by decide +kernel
theorem dX5_fillGaps_19 : decode cX5_fillGaps 19 = .ok (.aload_n 0, 1) := by decide +kernel
theorem dX5_fillGaps_20 : decode cX5_fillGaps 20 = .ok (.getfield 16, 3) := by decide +kernel
theorem dX5_fillGaps_23 : decode cX5_fillGaps 23 = .ok (.if_icmp .gt 30, 3) := by decide +kernel
theorem dX5_fillGaps_26 : decode cX5_fillGaps 26 = .ok (.aload_n 0, 1) := by decide +kernel
theorem dX5_fillGaps_27 : decode cX5_fillGaps 27 = .ok (.getfield 59, 3) := by decide +kernel
theorem dX5_fillGaps_30 : decode cX5_fillGaps 30 = .ok (.iload_n 1, 1) := by decide +kernel
theorem dX5_fillGaps_31 : decode cX5_fillGaps 31 = .ok (.aload_n 0, 1) := by decide +kernel
theorem dX5_fillGaps_32 : decode cX5_fillGaps 32 = .ok (.getfield 42, 3) := by decide +kernel
theorem dX5_fillGaps_35 : decode cX5_fillGaps 35 = .ok (.iload_n 1, 1) := by decide +kernel
theorem dX5_fillGaps_36 : decode cX5_fillGaps 36 = .ok (.laload, 1) := by decide +kernel
theorem dX5_fillGaps_37 : decode cX5_fillGaps 37 = .ok (.aload_n 0, 1) := by decide +kernel
theorem dX5_fillGaps_38 : decode cX5_fillGaps 38 = .ok (.getfield 51, 3) := by decide +kernel
theorem dX5_fillGaps_41 : decode cX5_fillGaps 41 = .ok (.iload_n 1, 1) := by decide +kernel
theorem dX5_fillGaps_42 : decode cX5_fillGaps 42 = .ok (.laload, 1) := by decide +kernel
theorem dX5_fillGaps_43 : decode cX5_fillGaps 43 = .ok (.invokestatic 172, 3) := by decide +kernel
theorem dX5_fillGaps_46 : decode cX5_fillGaps 46 = .ok (.lastore, 1) := by decide +kernel
theorem dX5_fillGaps_47 : decode cX5_fillGaps 47 = .ok (.iinc 1 1, 3) := by decide +kernel
theorem dX5_fillGaps_50 : decode cX5_fillGaps 50 = .ok (.goto (-32), 3) := by decide +kernel
theorem dX5_fillGaps_53 : decode cX5_fillGaps 53 = .ok (.return_, 1) := by decide +kernel
theorem wf_X5_59 : Cond.fieldLink RX5 59 (TX5 12).1 (TX5 12).2.1 (TX5 12).2.2.1 ∈ ltb := List.mem_filter.mpr ⟨List.mem_append_right _ (List.mem_of_getElem? (i := 164) (by decide +kernel)), by decide +kernel⟩
theorem wm_X5_172 : Cond.methodLink RX5 172 yX1_minus ∈ ltb := List.mem_filter.mpr ⟨List.mem_append_right _ (List.mem_of_getElem? (i := 417) (by decide +kernel)), by decide +kernel⟩
noncomputable def pr_X5_fillGaps : Prg := [(0, z_aload 0 1), (1, z_aload 0 1), (2, z_get 4 2), (5, z_aload 0 1), (6, z_get 4 5), (9, z_aload 0 1), (10, z_get 4 8), (13, z_callv 3 4 sp_X5_findNeeded), (16, z_ic (nI 1) 1), (17, z_istore 1 1), (18, z_iload 1 1), (19, z_aload 0 1), (20, z_get 4 1), (23, z_if2 (fun x y => y < x) 53), (26, z_aload 0 1), (27, z_get 4 12), (30, z_iload 1 1), (31, z_aload 0 1), (32, z_get 4 7), (35, z_iload 1 1), (36, z_laload), (37, z_aload 0 1), (38, z_get 4 10), (41, z_iload 1 1), (42, z_laload), (43, z_call 2 sp_X1_minus), (46, z_lastore), (47, z_iinc 1 (nI 1)), (50, z_goto 18), (53, z_vret)]
set_option maxRecDepth 100000 in
set_option maxHeartbeats 4000000 in
theorem sn_X5_fillGaps {G : Geo} (hG : GeoOK G) (l : Launch) : ∀ q ∈ pr_X5_fillGaps, Sn G l yX5_fillGaps.cls cX5_fillGaps 2 5 none q.1 q.2 :=
  fcs (zs_aload_n dX5_fillGaps_0 rfl) <| fcs (zs_aload_n dX5_fillGaps_1 rfl) <| fcs (zs_get cls4 (by decide) (by decide) wf_X5_25 dX5_fillGaps_2) <| fcs (zs_aload_n dX5_fillGaps_5 rfl) <| fcs (zs_get cls4 (by decide) (by decide) wf_X5_36 dX5_fillGaps_6) <| fcs (zs_aload_n dX5_fillGaps_9 rfl) <| fcs (zs_get cls4 (by decide) (by decide) wf_X5_45 dX5_fillGaps_10) <| fcs (zs_callv cls4 (by decide) (ct_X5_findNeeded hG l) mi_X5_findNeeded wv_X5_findNeeded we_X5_findNeeded (by decide) wm_X5_111 dX5_fillGaps_13) <| fcs (zs_iconst dX5_fillGaps_16 rfl) <| fcs (zs_istore_n dX5_fillGaps_17 rfl (by decide)) <| fcs (zs_iload_n dX5_fillGaps_18 rfl) <| fcs (zs_aload_n dX5_fillGaps_19 rfl) <| fcs (zs_get cls4 (by decide) (by decide) wf_X5_16 dX5_fillGaps_20) <| fcs (zs_icmp_gt dX5_fillGaps_23 rfl) <| fcs (zs_aload_n dX5_fillGaps_26 rfl) <| fcs (zs_get cls4 (by decide) (by decide) wf_X5_59 dX5_fillGaps_27) <| fcs (zs_iload_n dX5_fillGaps_30 rfl) <| fcs (zs_aload_n dX5_fillGaps_31 rfl) <| fcs (zs_get cls4 (by decide) (by decide) wf_X5_42 dX5_fillGaps_32) <| fcs (zs_iload_n dX5_fillGaps_35 rfl) <| fcs (zs_laload dX5_fillGaps_36) <| fcs (zs_aload_n dX5_fillGaps_37 rfl) <| fcs (zs_get cls4 (by decide) (by decide) wf_X5_51 dX5_fillGaps_38) <| fcs (zs_iload_n dX5_fillGaps_41 rfl) <| fcs (zs_laload dX5_fillGaps_42) <| fcs (zs_calls (ct_X1_minus hG l) mi_X1_minus ws_X1_minus (by decide) wm_X5_172 dX5_fillGaps_43) <| fcs (zs_lastore dX5_fillGaps_46) <| fcs (zs_iinc dX5_fillGaps_47 rfl (by decide)) <| fcs (zs_goto dX5_fillGaps_50 rfl) <| fcs (zs_vret dX5_fillGaps_53) <| fnl
set_option maxRecDepth 100000 in
set_option maxHeartbeats 4000000 in
theorem ct_X5_fillGaps {G : Geo} (hG : GeoOK G) (l : Launch) : Ct G l yX5_fillGaps cX5_fillGaps 2 none 5 sp_X5_fillGaps := by
  refine Ct.of pr_X5_fillGaps hG (by decide +kernel) (sn_X5_fillGaps hG l) ?_
  intro av σ post hok h
  unfold sp_X5_fillGaps at h
  split at h
  · rename_i b
    obtain ⟨hb, hI, h9⟩ := bif_t h
    clear h
    obtain rfl := is0_t hb
    refine ⟨Nat.le_of_ble_eq_true rfl, fun X hX => ?_⟩
    have h7 := hI.2.1
    have h0I : ∀ k, (upf gap1 (c_ned σ (69, 0) (11, 0) (14, 0)) k).2.2 = σ.2.2 := fun k =>
      (upf_I (f := gap1) (fun _ _ => rfl) _ _).trans (c_ned_I σ (69, 0) (11, 0) (14, 0))
    have loop : ∀ (m k : Nat) (i : Int32), k + m = nn σ → i = nI (k + 1) → X 18 [(1, .inl i), (0, ar 0 0)] [] (upf gap1 (c_ned σ (69, 0) (11, 0) (14, 0)) k) := by
      intro m
      induction m with
      | zero =>
        intro k i hk hi
        subst hi
        have hI' := CI_of (h0I k) hI
        have hn := nn_of (h0I k)
        refine go hX [18] 60 ?_
        refine ⟨fun g1 => ?_, fun g1 => absurd (lp_t hI' (by omega) (by omega)) g1⟩
        have e : k = nn σ := by omega
        subst e
        exact h9
      | succ m ih =>
        intro k i hk hi
        subst hi
        have hI' := CI_of (h0I k) hI
        have hn := nn_of (h0I k)
        refine go hX [18] 60 ?_
        refine ⟨fun g1 => absurd g1 (lp_f hI' (by omega)), fun g1 => ?_⟩
        refine ⟨⟨nle rfl, nle rfl⟩, k + 1, rfl, by show k + 1 < 8; omega, ?_⟩
        refine ⟨⟨nle rfl, nle rfl⟩, k + 1, rfl, by show k + 1 < 8; omega, ?_⟩
        refine ⟨⟨nle rfl, nle rfl⟩, k + 1, _, rfl, by show k + 1 < 8; omega, rfl, ?_⟩
        exact ih (k + 1) _ (by omega) (nI_add _ _)
    refine go hX [18] 60 ?_
    refine ⟨hI, ?_⟩
    exact loop (nn σ) 0 _ (by omega) rfl
  · exact h.elim
noncomputable def c_nds (σ : SS) : SS := c_ned (c_std σ) (69, 0) (11, 0) (12, 0)
noncomputable def c_bia (σ : SS) : SS := c_ned (c_std σ) (69, 0) (11, 0) (14, 0)
theorem c_std_I (σ : SS) : (c_std σ).2.2 = σ.2.2 := congrArg Prod.snd (c_std_2 σ)
noncomputable def sp_X5_needs : Spc := fun av σ post => match av with
  | [.inr (.inr b), .inl x] => bif is0 b then (CI σ ∧ post (some (ai (bif bt σ x then nI ((c_nds σ).2.1 16 0 (ix x)).val else (-1)))) (bif bt σ x then c_nds σ else σ)) else False
  | _ => False
theorem dX5_needs_0 : decode cX5_needs 0 = .ok (.aload_n 0, 1) := by decide +kernel
theorem dX5_needs_1 : decode cX5_needs 1 = .ok (.iload_n 1, 1) := by decide +kernel
theorem dX5_needs_2 : decode cX5_needs 2 = .ok (.invokevirtual 69, 3) := by decide +kernel
theorem dX5_needs_5 : decode cX5_needs 5 = .ok (.ifCond .ne 5, 3) := by decide +kernel
theorem dX5_needs_8 : decode cX5_needs 8 = .ok (.iconst (-1), 1) := by decide +kernel
theorem dX5_needs_9 : decode cX5_needs 9 = .ok (.ireturn, 1) := by decide +kernel
theorem dX5_needs_10 : decode cX5_needs 10 = .ok (.aload_n 0, 1) := by decide +kernel
theorem dX5_needs_11 : decode cX5_needs 11 = .ok (.invokevirtual 108, 3) := by decide +kernel
theorem dX5_needs_14 : decode cX5_needs 14 = .ok (.aload_n 0, 1) := by decide +kernel
theorem dX5_needs_15 : decode cX5_needs 15 = .ok (.aload_n 0, 1) := by decide +kernel
theorem dX5_needs_16 : decode cX5_needs 16 = .ok (.getfield 25, 3) := by decide +kernel
theorem dX5_needs_19 : decode cX5_needs 19 = .ok (.aload_n 0, 1) := by decide +kernel
theorem dX5_needs_20 : decode cX5_needs 20 = .ok (.getfield 36, 3) := by decide +kernel
theorem dX5_needs_23 : decode cX5_needs 23 = .ok (.aload_n 0, 1) := by decide +kernel
theorem dX5_needs_24 : decode cX5_needs 24 = .ok (.getfield 39, 3) := by decide +kernel
theorem dX5_needs_27 : decode cX5_needs 27 = .ok (.invokevirtual 111, 3) := by decide +kernel
theorem dX5_needs_30 : decode cX5_needs 30 = .ok (.aload_n 0, 1) := by decide +kernel
theorem dX5_needs_31 : decode cX5_needs 31 = .ok (.getfield 51, 3) := by decide +kernel
theorem dX5_needs_34 : decode cX5_needs 34 = .ok (.iload_n 1, 1) := by decide +kernel
theorem dX5_needs_35 : decode cX5_needs 35 = .ok (.laload, 1) := by decide +kernel
theorem dX5_needs_36 : decode cX5_needs 36 = .ok (.l2i, 1) := by decide +kernel
theorem dX5_needs_37 : decode cX5_needs 37 = .ok (.ireturn, 1) := by decide +kernel
theorem wc_X5_standAll : Cond.code yX5_standAll cX5_standAll 2 none ∈ ltb := List.mem_filter.mpr ⟨List.mem_append_right _ (List.mem_of_getElem? (i := 272) (by decide +kernel)), by decide +kernel⟩
theorem mi_X5_standAll : Mi yX5_standAll RX5 0 cX5_standAll 2 none := ⟨by decide +kernel, wc_X5_standAll, wi_X5, by decide⟩
theorem wv_X5_standAll : Cond.instanceMethod yX5_standAll ∈ ltb := List.mem_filter.mpr ⟨List.mem_append_right _ (List.mem_of_getElem? (i := 271) (by decide +kernel)), by decide +kernel⟩
theorem we_X5_standAll : Cond.selects RX5 yX5_standAll yX5_standAll ∈ ltb := List.mem_filter.mpr ⟨List.mem_append_left _ (List.mem_of_getElem? (i := 1) (by decide +kernel)), by decide +kernel⟩
theorem wm_X5_108 : Cond.methodLink RX5 108 yX5_standAll ∈ ltb := List.mem_filter.mpr ⟨List.mem_append_right _ (List.mem_of_getElem? (i := 269) (by decide +kernel)), by decide +kernel⟩
noncomputable def pr_X5_needs : Prg := [(0, z_aload 0 1), (1, z_iload 1 1), (2, z_callv 1 4 sp_X5_isThere), (5, z_nf1 10), (8, z_ic (-1) 1), (9, z_iret), (10, z_aload 0 1), (11, z_callv 0 4 sp_X5_standAll), (14, z_aload 0 1), (15, z_aload 0 1), (16, z_get 4 2), (19, z_aload 0 1), (20, z_get 4 5), (23, z_aload 0 1), (24, z_get 4 6), (27, z_callv 3 4 sp_X5_findNeeded), (30, z_aload 0 1), (31, z_get 4 10), (34, z_iload 1 1), (35, z_laload), (36, z_l2i), (37, z_iret)]
set_option maxRecDepth 100000 in
set_option maxHeartbeats 4000000 in
theorem sn_X5_needs {G : Geo} (hG : GeoOK G) (l : Launch) : ∀ q ∈ pr_X5_needs, Sn G l yX5_needs.cls cX5_needs 2 6 (some .int) q.1 q.2 :=
  fcs (zs_aload_n dX5_needs_0 rfl) <| fcs (zs_iload_n dX5_needs_1 rfl) <| fcs (zs_callv cls4 (by decide) (ct_X5_isThere hG l) mi_X5_isThere wv_X5_isThere we_X5_isThere (by decide) wm_X5_69 dX5_needs_2) <| fcs (zs_if_ne dX5_needs_5 rfl) <| fcs (zs_iconst dX5_needs_8 rfl) <| fcs (zs_iret dX5_needs_9) <| fcs (zs_aload_n dX5_needs_10 rfl) <| fcs (zs_callv cls4 (by decide) (ct_X5_standAll hG l) mi_X5_standAll wv_X5_standAll we_X5_standAll (by decide) wm_X5_108 dX5_needs_11) <| fcs (zs_aload_n dX5_needs_14 rfl) <| fcs (zs_aload_n dX5_needs_15 rfl) <| fcs (zs_get cls4 (by decide) (by decide) wf_X5_25 dX5_needs_16) <| fcs (zs_aload_n dX5_needs_19 rfl) <| fcs (zs_get cls4 (by decide) (by decide) wf_X5_36 dX5_needs_20) <| fcs (zs_aload_n dX5_needs_23 rfl) <| fcs (zs_get cls4 (by decide) (by decide) wf_X5_39 dX5_needs_24) <| fcs (zs_callv cls4 (by decide) (ct_X5_findNeeded hG l) mi_X5_findNeeded wv_X5_findNeeded we_X5_findNeeded (by decide) wm_X5_111 dX5_needs_27) <| fcs (zs_aload_n dX5_needs_30 rfl) <| fcs (zs_get cls4 (by decide) (by decide) wf_X5_51 dX5_needs_31) <| fcs (zs_iload_n dX5_needs_34 rfl) <| fcs (zs_laload dX5_needs_35) <| fcs (zs_l2i dX5_needs_36) <| fcs (zs_iret dX5_needs_37) <| fnl
set_option maxRecDepth 100000 in
set_option maxHeartbeats 4000000 in
theorem ct_X5_needs {G : Geo} (hG : GeoOK G) (l : Launch) : Ct G l yX5_needs cX5_needs 2 (some .int) 6 sp_X5_needs := by
  refine Ct.of pr_X5_needs hG (by decide +kernel) (sn_X5_needs hG l) ?_
  intro av σ post hok h
  unfold sp_X5_needs at h
  split at h
  · rename_i b x
    obtain ⟨hb, hI, h9⟩ := bif_t h
    clear h
    obtain rfl := is0_t hb
    have h := h9
    refine ⟨Nat.le_of_ble_eq_true rfl, fun X hX => ?_⟩
    refine go hX [] 60 ?_
    cases hB : bt σ x with
    | false =>
      rw [hB] at h
      refine ⟨fun g => absurd (bz_f hB) g, fun g => ?_⟩
      exact h
    | true =>
      rw [hB] at h
      obtain ⟨k, h1, h2, rfl⟩ := bt_k hI hB
      have h7 := hI.2.1
      dsimp only [cond] at h
      rw [ix_k (by omega), ← l2i_em] at h
      refine ⟨fun g => ?_, fun g => absurd g (bz_t hB)⟩
      refine ⟨hI, ?_⟩
      refine ⟨CI_of (c_std_I σ) hI, ?_⟩
      refine ⟨⟨nle rfl, nle rfl⟩, k, rfl, by show k < 8; omega, ?_⟩
      exact h
  · exact h.elim
noncomputable def sp_X5_bias : Spc := fun av σ post => match av with
  | [.inr (.inr b), .inl x] => bif is0 b then (CI σ ∧ post (some (ai (bif bt σ x then nI ((c_bia σ).2.1 16 0 (ix x)).val else (-1)))) (bif bt σ x then c_bia σ else σ)) else False
  | _ => False
theorem dX5_bias_0 : decode cX5_bias 0 = .ok (.aload_n 0, 1) := by decide +kernel
theorem dX5_bias_1 : decode cX5_bias 1 = .ok (.iload_n 1, 1) := by decide +kernel
theorem dX5_bias_2 : decode cX5_bias 2 = .ok (.invokevirtual 69, 3) := by decide +kernel
theorem dX5_bias_5 : decode cX5_bias 5 = .ok (.ifCond .ne 5, 3) := by decide +kernel
theorem dX5_bias_8 : decode cX5_bias 8 = .ok (.iconst (-1), 1) := by decide +kernel
theorem dX5_bias_9 : decode cX5_bias 9 = .ok (.ireturn, 1) := by decide +kernel
theorem dX5_bias_10 : decode cX5_bias 10 = .ok (.aload_n 0, 1) := by decide +kernel
theorem dX5_bias_11 : decode cX5_bias 11 = .ok (.invokevirtual 108, 3) := by decide +kernel
theorem dX5_bias_14 : decode cX5_bias 14 = .ok (.aload_n 0, 1) := by decide +kernel
theorem dX5_bias_15 : decode cX5_bias 15 = .ok (.aload_n 0, 1) := by decide +kernel
theorem dX5_bias_16 : decode cX5_bias 16 = .ok (.getfield 25, 3) := by decide +kernel
theorem dX5_bias_19 : decode cX5_bias 19 = .ok (.aload_n 0, 1) := by decide +kernel
theorem dX5_bias_20 : decode cX5_bias 20 = .ok (.getfield 36, 3) := by decide +kernel
theorem dX5_bias_23 : decode cX5_bias 23 = .ok (.aload_n 0, 1) := by decide +kernel
theorem dX5_bias_24 : decode cX5_bias 24 = .ok (.getfield 45, 3) := by decide +kernel
theorem dX5_bias_27 : decode cX5_bias 27 = .ok (.invokevirtual 111, 3) := by decide +kernel
theorem dX5_bias_30 : decode cX5_bias 30 = .ok (.aload_n 0, 1) := by decide +kernel
theorem dX5_bias_31 : decode cX5_bias 31 = .ok (.getfield 51, 3) := by decide +kernel
theorem dX5_bias_34 : decode cX5_bias 34 = .ok (.iload_n 1, 1) := by decide +kernel
theorem dX5_bias_35 : decode cX5_bias 35 = .ok (.laload, 1) := by decide +kernel
theorem dX5_bias_36 : decode cX5_bias 36 = .ok (.l2i, 1) := by decide +kernel
theorem dX5_bias_37 : decode cX5_bias 37 = .ok (.ireturn, 1) := by decide +kernel
noncomputable def pr_X5_bias : Prg := [(0, z_aload 0 1), (1, z_iload 1 1), (2, z_callv 1 4 sp_X5_isThere), (5, z_nf1 10), (8, z_ic (-1) 1), (9, z_iret), (10, z_aload 0 1), (11, z_callv 0 4 sp_X5_standAll), (14, z_aload 0 1), (15, z_aload 0 1), (16, z_get 4 2), (19, z_aload 0 1), (20, z_get 4 5), (23, z_aload 0 1), (24, z_get 4 8), (27, z_callv 3 4 sp_X5_findNeeded), (30, z_aload 0 1), (31, z_get 4 10), (34, z_iload 1 1), (35, z_laload), (36, z_l2i), (37, z_iret)]
set_option maxRecDepth 100000 in
set_option maxHeartbeats 4000000 in
theorem sn_X5_bias {G : Geo} (hG : GeoOK G) (l : Launch) : ∀ q ∈ pr_X5_bias, Sn G l yX5_bias.cls cX5_bias 2 6 (some .int) q.1 q.2 :=
  fcs (zs_aload_n dX5_bias_0 rfl) <| fcs (zs_iload_n dX5_bias_1 rfl) <| fcs (zs_callv cls4 (by decide) (ct_X5_isThere hG l) mi_X5_isThere wv_X5_isThere we_X5_isThere (by decide) wm_X5_69 dX5_bias_2) <| fcs (zs_if_ne dX5_bias_5 rfl) <| fcs (zs_iconst dX5_bias_8 rfl) <| fcs (zs_iret dX5_bias_9) <| fcs (zs_aload_n dX5_bias_10 rfl) <| fcs (zs_callv cls4 (by decide) (ct_X5_standAll hG l) mi_X5_standAll wv_X5_standAll we_X5_standAll (by decide) wm_X5_108 dX5_bias_11) <| fcs (zs_aload_n dX5_bias_14 rfl) <| fcs (zs_aload_n dX5_bias_15 rfl) <| fcs (zs_get cls4 (by decide) (by decide) wf_X5_25 dX5_bias_16) <| fcs (zs_aload_n dX5_bias_19 rfl) <| fcs (zs_get cls4 (by decide) (by decide) wf_X5_36 dX5_bias_20) <| fcs (zs_aload_n dX5_bias_23 rfl) <| fcs (zs_get cls4 (by decide) (by decide) wf_X5_45 dX5_bias_24) <| fcs (zs_callv cls4 (by decide) (ct_X5_findNeeded hG l) mi_X5_findNeeded wv_X5_findNeeded we_X5_findNeeded (by decide) wm_X5_111 dX5_bias_27) <| fcs (zs_aload_n dX5_bias_30 rfl) <| fcs (zs_get cls4 (by decide) (by decide) wf_X5_51 dX5_bias_31) <| fcs (zs_iload_n dX5_bias_34 rfl) <| fcs (zs_laload dX5_bias_35) <| fcs (zs_l2i dX5_bias_36) <| fcs (zs_iret dX5_bias_37) <| fnl
set_option maxRecDepth 100000 in
set_option maxHeartbeats 4000000 in
theorem ct_X5_bias {G : Geo} (hG : GeoOK G) (l : Launch) : Ct G l yX5_bias cX5_bias 2 (some .int) 6 sp_X5_bias := by
  refine Ct.of pr_X5_bias hG (by decide +kernel) (sn_X5_bias hG l) ?_
  intro av σ post hok h
  unfold sp_X5_bias at h
  split at h
  · rename_i b x
    obtain ⟨hb, hI, h9⟩ := bif_t h
    clear h
    obtain rfl := is0_t hb
    have h := h9
    refine ⟨Nat.le_of_ble_eq_true rfl, fun X hX => ?_⟩
    refine go hX [] 60 ?_
    cases hB : bt σ x with
    | false =>
      rw [hB] at h
      refine ⟨fun g => absurd (bz_f hB) g, fun g => ?_⟩
      exact h
    | true =>
      rw [hB] at h
      obtain ⟨k, h1, h2, rfl⟩ := bt_k hI hB
      have h7 := hI.2.1
      dsimp only [cond] at h
      rw [ix_k (by omega), ← l2i_em] at h
      refine ⟨fun g => ?_, fun g => absurd g (bz_t hB)⟩
      refine ⟨hI, ?_⟩
      refine ⟨CI_of (c_std_I σ) hI, ?_⟩
      refine ⟨⟨nle rfl, nle rfl⟩, k, rfl, by show k < 8; omega, ?_⟩
      exact h
  · exact h.elim
noncomputable def sp_X5_matrix : Spc := fun av σ post => match av with
  | [.inr (.inr b), .inl x, .inl y] => bif is0 b then (CI σ ∧ post (some (ai (bif bt σ x && bt σ y then nI ((c_col (c_std σ) (ix y)).2.1 19 (ix x) (ix y)).val else (-1)))) (bif bt σ x && bt σ y then c_col (c_std σ) (ix y) else σ)) else False
  | _ => False
theorem dX5_matrix_0 : decode cX5_matrix 0 = .ok (.aload_n 0, 1) := by decide +kernel
theorem dX5_matrix_1 : decode cX5_matrix 1 = .ok (.iload_n 1, 1) := by decide +kernel
theorem dX5_matrix_2 : decode cX5_matrix 2 = .ok (.invokevirtual 69, 3) := by decide +kernel
theorem dX5_matrix_5 : decode cX5_matrix 5 = .ok (.ifCond .eq 11, 3) := by decide +kernel
theorem dX5_matrix_8 : decode cX5_matrix 8 = .ok (.aload_n 0, 1) := by decide +kernel
theorem dX5_matrix_9 : decode cX5_matrix 9 = .ok (.iload_n 2, 1) := by decide +kernel
theorem dX5_matrix_10 : decode cX5_matrix 10 = .ok (.invokevirtual 69, 3) := by decide +kernel
theorem dX5_matrix_13 : decode cX5_matrix 13 = .ok (.ifCond .ne 5, 3) := by decide +kernel
theorem dX5_matrix_16 : decode cX5_matrix 16 = .ok (.iconst (-1), 1) := by decide +kernel
theorem dX5_matrix_17 : decode cX5_matrix 17 = .ok (.ireturn, 1) := by decide +kernel
theorem dX5_matrix_18 : decode cX5_matrix 18 = .ok (.aload_n 0, 1) := by decide +kernel
theorem dX5_matrix_19 : decode cX5_matrix 19 = .ok (.invokevirtual 108, 3) := by decide +kernel
theorem dX5_matrix_22 : decode cX5_matrix 22 = .ok (.aload_n 0, 1) := by decide +kernel
theorem dX5_matrix_23 : decode cX5_matrix 23 = .ok (.iload_n 2, 1) := by decide +kernel
theorem dX5_matrix_24 : decode cX5_matrix 24 = .ok (.invokevirtual 115, 3) := by decide +kernel
theorem dX5_matrix_27 : decode cX5_matrix 27 = .ok (.aload_n 0, 1) := by decide +kernel
theorem dX5_matrix_28 : decode cX5_matrix 28 = .ok (.getfield 56, 3) := by decide +kernel
theorem dX5_matrix_31 : decode cX5_matrix 31 = .ok (.iload_n 1, 1) := by decide +kernel
theorem dX5_matrix_32 : decode cX5_matrix 32 = .ok (.aaload, 1) := by decide +kernel
theorem dX5_matrix_33 : decode cX5_matrix 33 = .ok (.iload_n 2, 1) := by decide +kernel
theorem dX5_matrix_34 : decode cX5_matrix 34 = .ok (.laload, 1) := by decide +kernel
theorem dX5_matrix_35 : decode cX5_matrix 35 = .ok (.l2i, 1) := by decide +kernel
theorem dX5_matrix_36 : decode cX5_matrix 36 = .ok (.ireturn, 1) := by decide +kernel
theorem wc_X5_fillColumn : Cond.code yX5_fillColumn cX5_fillColumn 3 none ∈ ltb := List.mem_filter.mpr ⟨List.mem_append_right _ (List.mem_of_getElem? (i := 404) (by decide +kernel)), by decide +kernel⟩
theorem mi_X5_fillColumn : Mi yX5_fillColumn RX5 1 cX5_fillColumn 3 none := ⟨by decide +kernel, wc_X5_fillColumn, wi_X5, by decide⟩
theorem wv_X5_fillColumn : Cond.instanceMethod yX5_fillColumn ∈ ltb := List.mem_filter.mpr ⟨List.mem_append_right _ (List.mem_of_getElem? (i := 403) (by decide +kernel)), by decide +kernel⟩
theorem we_X5_fillColumn : Cond.selects RX5 yX5_fillColumn yX5_fillColumn ∈ ltb := List.mem_filter.mpr ⟨List.mem_append_left _ (List.mem_of_getElem? (i := 5) (by decide +kernel)), by decide +kernel⟩
theorem wm_X5_115 : Cond.methodLink RX5 115 yX5_fillColumn ∈ ltb := List.mem_filter.mpr ⟨List.mem_append_right _ (List.mem_of_getElem? (i := 401) (by decide +kernel)), by decide +kernel⟩
noncomputable def pr_X5_matrix : Prg := [(0, z_aload 0 1), (1, z_iload 1 1), (2, z_callv 1 4 sp_X5_isThere), (5, z_if1 (fun x => x = 0) 16), (8, z_aload 0 1), (9, z_iload 2 1), (10, z_callv 1 4 sp_X5_isThere), (13, z_nf1 18), (16, z_ic (-1) 1), (17, z_iret), (18, z_aload 0 1), (19, z_callv 0 4 sp_X5_standAll), (22, z_aload 0 1), (23, z_iload 2 1), (24, z_callv 1 4 sp_X5_fillColumn), (27, z_aload 0 1), (28, z_get 4 11), (31, z_iload 1 1), (32, z_aaload), (33, z_iload 2 1), (34, z_laload), (35, z_l2i), (36, z_iret)]
set_option maxRecDepth 100000 in
set_option maxHeartbeats 4000000 in
theorem sn_X5_matrix {G : Geo} (hG : GeoOK G) (l : Launch) : ∀ q ∈ pr_X5_matrix, Sn G l yX5_matrix.cls cX5_matrix 3 6 (some .int) q.1 q.2 :=
  fcs (zs_aload_n dX5_matrix_0 rfl) <| fcs (zs_iload_n dX5_matrix_1 rfl) <| fcs (zs_callv cls4 (by decide) (ct_X5_isThere hG l) mi_X5_isThere wv_X5_isThere we_X5_isThere (by decide) wm_X5_69 dX5_matrix_2) <| fcs (zs_if_eq dX5_matrix_5 rfl) <| fcs (zs_aload_n dX5_matrix_8 rfl) <| fcs (zs_iload_n dX5_matrix_9 rfl) <| fcs (zs_callv cls4 (by decide) (ct_X5_isThere hG l) mi_X5_isThere wv_X5_isThere we_X5_isThere (by decide) wm_X5_69 dX5_matrix_10) <| fcs (zs_if_ne dX5_matrix_13 rfl) <| fcs (zs_iconst dX5_matrix_16 rfl) <| fcs (zs_iret dX5_matrix_17) <| fcs (zs_aload_n dX5_matrix_18 rfl) <| fcs (zs_callv cls4 (by decide) (ct_X5_standAll hG l) mi_X5_standAll wv_X5_standAll we_X5_standAll (by decide) wm_X5_108 dX5_matrix_19) <| fcs (zs_aload_n dX5_matrix_22 rfl) <| fcs (zs_iload_n dX5_matrix_23 rfl) <| fcs (zs_callv cls4 (by decide) (ct_X5_fillColumn hG l) mi_X5_fillColumn wv_X5_fillColumn we_X5_fillColumn (by decide) wm_X5_115 dX5_matrix_24) <| fcs (zs_aload_n dX5_matrix_27 rfl) <| fcs (zs_get cls4 (by decide) (by decide) wf_X5_56 dX5_matrix_28) <| fcs (zs_iload_n dX5_matrix_31 rfl) <| fcs (zs_aaload dX5_matrix_32) <| fcs (zs_iload_n dX5_matrix_33 rfl) <| fcs (zs_laload dX5_matrix_34) <| fcs (zs_l2i dX5_matrix_35) <| fcs (zs_iret dX5_matrix_36) <| fnl
set_option maxRecDepth 100000 in
set_option maxHeartbeats 4000000 in
theorem ct_X5_matrix {G : Geo} (hG : GeoOK G) (l : Launch) : Ct G l yX5_matrix cX5_matrix 3 (some .int) 6 sp_X5_matrix := by
  refine Ct.of pr_X5_matrix hG (by decide +kernel) (sn_X5_matrix hG l) ?_
  intro av σ post hok h
  unfold sp_X5_matrix at h
  split at h
  · rename_i b x y
    obtain ⟨hb, hI, h9⟩ := bif_t h
    clear h
    obtain rfl := is0_t hb
    have h := h9
    refine ⟨Nat.le_of_ble_eq_true rfl, fun X hX => ?_⟩
    refine go hX [] 60 ?_
    cases hB : bt σ x with
    | false =>
      rw [hB, Bool.false_and] at h
      refine ⟨fun g => ?_, fun g => absurd g (show ¬ ¬ bz (bt σ x) = 0 from fun q => q (bz_f hB))⟩
      exact h
    | true =>
      rw [hB, Bool.true_and] at h
      obtain ⟨k, h1, h2, rfl⟩ := bt_k hI hB
      have h7 := hI.2.1
      refine ⟨fun g => absurd g (bz_t hB), fun g => ?_⟩
      cases hB2 : bt σ y with
      | false =>
        rw [hB2] at h
        refine ⟨fun g => absurd (bz_f hB2) g, fun g => ?_⟩
        exact h
      | true =>
        rw [hB2] at h
        obtain ⟨c, h3, h4, rfl⟩ := bt_k hI hB2
        dsimp only [cond] at h
        rw [ix_k (show k < 8 by omega), ix_k (show c < 8 by omega), ← l2i_em] at h
        refine ⟨fun g => ?_, fun g => absurd g (bz_t hB2)⟩
        refine ⟨hI, ?_⟩
        refine ⟨CI_of (c_std_I σ) hI, c, rfl, by omega, ?_⟩
        refine ⟨k, rfl, by omega, ?_⟩
        refine ⟨⟨nle rfl, nle rfl⟩, c, rfl, by show c < 8; omega, ?_⟩
        exact h
  · exact h.elim
