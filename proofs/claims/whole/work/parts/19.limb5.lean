/-! LimbWorks: forward -/
def tak1 (row piv : Nat) (f : ZF) (s : SS) (i : Nat) : SS := sL s 19 row i (s.2.1 19 row i - f * s.2.1 19 piv i)
def c_tak (s : SS) (row piv : Nat) (f : ZF) : SS :=
  let s := upf (tak1 row piv f) s piv
  sL s 17 0 row (s.2.1 17 0 row - f * s.2.1 17 0 piv)
theorem c_tak_I (s : SS) (row piv : Nat) (f : ZF) : (c_tak s row piv f).2.2 = s.2.2 := upf_I (f := tak1 row piv f) (fun _ _ => rfl) _ _
noncomputable def sp_X5_takeFromRow : Spc := fun av σ post => match av with
  | [.inr (.inr b), .inl x, .inl y, .inr (.inl (.inr f))] => bif is0 b then (∃ row piv, x = nI row ∧ y = nI piv ∧ row < 8 ∧ piv < 8 ∧ post none (c_tak σ row piv f)) else False
  | _ => False
theorem dX5_takeFromRow_0 : decode cX5_takeFromRow 0 = .ok (.iconst 1, 1) := by decide +kernel
theorem dX5_takeFromRow_1 : decode cX5_takeFromRow 1 = .ok (.istore 5, 2) := by decide +kernel
theorem dX5_takeFromRow_3 : decode cX5_takeFromRow 3 = .ok (.iload 5, 2) := by decide +kernel
theorem dX5_takeFromRow_5 : decode cX5_takeFromRow 5 = .ok (.iload_n 2, 1) := by decide +kernel
theorem dX5_takeFromRow_6 : decode cX5_takeFromRow 6 = .ok (.if_icmp .gt 43, 3) := by decide +kernel
theorem dX5_takeFromRow_9 : decode cX5_takeFromRow 9 = .ok (.aload_n 0, 1) := by decide +kernel
theorem dX5_takeFromRow_10 : decode cX5_takeFromRow 10 = .ok (.getfield 56, 3) := by decide +kernel
theorem dX5_takeFromRow_13 : decode cX5_takeFromRow 13 = .ok (.iload_n 1, 1) := by decide +kernel
theorem dX5_takeFromRow_14 : decode cX5_takeFromRow 14 = .ok (.aaload, 1) := by decide +kernel
theorem dX5_takeFromRow_15 : decode cX5_takeFromRow 15 = .ok (.iload 5, 2) := by decide +kernel
theorem dX5_takeFromRow_17 : decode cX5_takeFromRow 17 = .ok (.aload_n 0, 1) := by decide +kernel
theorem dX5_takeFromRow_18 : decode cX5_takeFromRow 18 = .ok (.getfield 56, 3) := by decide +kernel
theorem dX5_takeFromRow_21 : decode cX5_takeFromRow 21 = .ok (.iload_n 1, 1) := by decide +kernel
theorem dX5_takeFromRow_22 : decode cX5_takeFromRow 22 = .ok (.aaload, 1) := by decide +kernel
theorem dX5_takeFromRow_23 : decode cX5_takeFromRow 23 = .ok (.iload 5, 2) := by decide +kernel
theorem dX5_takeFromRow_25 : decode cX5_takeFromRow 25 = .ok (.laload, 1) := by decide +kernel
theorem dX5_takeFromRow_26 : decode cX5_takeFromRow 26 = .ok (.lload_n 3, 1) := by decide +kernel
theorem dX5_takeFromRow_27 : decode cX5_takeFromRow 27 = .ok (.aload_n 0, 1) := by decide +kernel
theorem dX5_takeFromRow_28 : decode cX5_takeFromRow 28 = .ok (.getfield 56, 3) := by decide +kernel
theorem dX5_takeFromRow_31 : decode cX5_takeFromRow 31 = .ok (.iload_n 2, 1) := by decide +kernel
theorem dX5_takeFromRow_32 : decode cX5_takeFromRow 32 = .ok (.aaload, 1) := by decide +kernel
theorem dX5_takeFromRow_33 : decode cX5_takeFromRow 33 = .ok (.iload 5, 2) := by decide +kernel
theorem dX5_takeFromRow_35 : decode cX5_takeFromRow 35 = .ok (.laload, 1) := by decide +kernel
theorem dX5_takeFromRow_36 : decode cX5_takeFromRow 36 = .ok (.invokestatic 129, 3) := by decide +kernel
theorem dX5_takeFromRow_39 : decode cX5_takeFromRow 39 = .ok (.invokestatic 172, 3) := by decide +kernel
theorem dX5_takeFromRow_42 : decode cX5_takeFromRow 42 = .ok (.lastore, 1) := by decide +kernel
theorem dX5_takeFromRow_43 : decode cX5_takeFromRow 43 = .ok (.iinc 5 1, 3) := by decide +kernel
theorem dX5_takeFromRow_46 : decode cX5_takeFromRow 46 = .ok (.goto (-43), 3) := by decide +kernel
theorem dX5_takeFromRow_49 : decode cX5_takeFromRow 49 = .ok (.aload_n 0, 1) := by decide +kernel
theorem dX5_takeFromRow_50 : decode cX5_takeFromRow 50 = .ok (.getfield 59, 3) := by decide +kernel
theorem dX5_takeFromRow_53 : decode cX5_takeFromRow 53 = .ok (.iload_n 1, 1) := by decide +kernel
theorem dX5_takeFromRow_54 : decode cX5_takeFromRow 54 = .ok (.aload_n 0, 1) := by decide +kernel
theorem dX5_takeFromRow_55 : decode cX5_takeFromRow 55 = .ok (.getfield 59, 3) := by decide +kernel
theorem dX5_takeFromRow_58 : decode cX5_takeFromRow 58 = .ok (.iload_n 1, 1) := by decide +kernel
theorem dX5_takeFromRow_59 : decode cX5_takeFromRow 59 = .ok (.laload, 1) := by decide +kernel
theorem dX5_takeFromRow_60 : decode cX5_takeFromRow 60 = .ok (.lload_n 3, 1) := by decide +kernel
theorem dX5_takeFromRow_61 : decode cX5_takeFromRow 61 = .ok (.aload_n 0, 1) := by decide +kernel
theorem dX5_takeFromRow_62 : decode cX5_takeFromRow 62 = .ok (.getfield 59, 3) := by decide +kernel
theorem dX5_takeFromRow_65 : decode cX5_takeFromRow 65 = .ok (.iload_n 2, 1) := by decide +kernel
theorem dX5_takeFromRow_66 : decode cX5_takeFromRow 66 = .ok (.laload, 1) := by decide +kernel
theorem dX5_takeFromRow_67 : decode cX5_takeFromRow 67 = .ok (.invokestatic 129, 3) := by decide +kernel
theorem dX5_takeFromRow_70 : decode cX5_takeFromRow 70 = .ok (.invokestatic 172, 3) := by decide +kernel
theorem dX5_takeFromRow_73 : decode cX5_takeFromRow 73 = .ok (.lastore, 1) := by decide +kernel
theorem dX5_takeFromRow_74 : decode cX5_takeFromRow 74 = .ok (.return_, 1) := by decide +kernel
noncomputable def pr_X5_takeFromRow : Prg := [(0, z_ic (nI 1) 1), (1, z_istore 5 2), (3, z_iload 5 2), (5, z_iload 2 1), (6, z_if2 (fun x y => y < x) 49), (9, z_aload 0 1), (10, z_get 4 11), (13, z_iload 1 1), (14, z_aaload), (15, z_iload 5 2), (17, z_aload 0 1), (18, z_get 4 11), (21, z_iload 1 1), (22, z_aaload), (23, z_iload 5 2), (25, z_laload), (26, z_lload 3 1), (27, z_aload 0 1), (28, z_get 4 11), (31, z_iload 2 1), (32, z_aaload), (33, z_iload 5 2), (35, z_laload), (36, z_call 2 sp_X1_times), (39, z_call 2 sp_X1_minus), (42, z_lastore), (43, z_iinc 5 (nI 1)), (46, z_goto 3), (49, z_aload 0 1), (50, z_get 4 12), (53, z_iload 1 1), (54, z_aload 0 1), (55, z_get 4 12), (58, z_iload 1 1), (59, z_laload), (60, z_lload 3 1), (61, z_aload 0 1), (62, z_get 4 12), (65, z_iload 2 1), (66, z_laload), (67, z_call 2 sp_X1_times), (70, z_call 2 sp_X1_minus), (73, z_lastore), (74, z_vret)]
set_option maxRecDepth 100000 in
set_option maxHeartbeats 4000000 in
theorem sn_X5_takeFromRow {G : Geo} (hG : GeoOK G) (l : Launch) : ∀ q ∈ pr_X5_takeFromRow, Sn G l yX5_takeFromRow.cls cX5_takeFromRow 6 1 none q.1 q.2 :=
  fcs (zs_iconst dX5_takeFromRow_0 rfl) <| fcs (zs_istore dX5_takeFromRow_1 (by decide)) <| fcs (zs_iload dX5_takeFromRow_3) <| fcs (zs_iload_n dX5_takeFromRow_5 rfl) <| fcs (zs_icmp_gt dX5_takeFromRow_6 rfl) <| fcs (zs_aload_n dX5_takeFromRow_9 rfl) <| fcs (zs_get cls4 (by decide) (by decide) wf_X5_56 dX5_takeFromRow_10) <| fcs (zs_iload_n dX5_takeFromRow_13 rfl) <| fcs (zs_aaload dX5_takeFromRow_14) <| fcs (zs_iload dX5_takeFromRow_15) <| fcs (zs_aload_n dX5_takeFromRow_17 rfl) <| fcs (zs_get cls4 (by decide) (by decide) wf_X5_56 dX5_takeFromRow_18) <| fcs (zs_iload_n dX5_takeFromRow_21 rfl) <| fcs (zs_aaload dX5_takeFromRow_22) <| fcs (zs_iload dX5_takeFromRow_23) <| fcs (zs_laload dX5_takeFromRow_25) <| fcs (zs_lload_n dX5_takeFromRow_26 rfl) <| fcs (zs_aload_n dX5_takeFromRow_27 rfl) <| fcs (zs_get cls4 (by decide) (by decide) wf_X5_56 dX5_takeFromRow_28) <| fcs (zs_iload_n dX5_takeFromRow_31 rfl) <| fcs (zs_aaload dX5_takeFromRow_32) <| fcs (zs_iload dX5_takeFromRow_33) <| fcs (zs_laload dX5_takeFromRow_35) <| fcs (zs_calls (ct_X1_times hG l) mi_X1_times ws_X1_times (by decide) wm_X5_129 dX5_takeFromRow_36) <| fcs (zs_calls (ct_X1_minus hG l) mi_X1_minus ws_X1_minus (by decide) wm_X5_172 dX5_takeFromRow_39) <| fcs (zs_lastore dX5_takeFromRow_42) <| fcs (zs_iinc dX5_takeFromRow_43 rfl (by decide)) <| fcs (zs_goto dX5_takeFromRow_46 rfl) <| fcs (zs_aload_n dX5_takeFromRow_49 rfl) <| fcs (zs_get cls4 (by decide) (by decide) wf_X5_59 dX5_takeFromRow_50) <| fcs (zs_iload_n dX5_takeFromRow_53 rfl) <| fcs (zs_aload_n dX5_takeFromRow_54 rfl) <| fcs (zs_get cls4 (by decide) (by decide) wf_X5_59 dX5_takeFromRow_55) <| fcs (zs_iload_n dX5_takeFromRow_58 rfl) <| fcs (zs_laload dX5_takeFromRow_59) <| fcs (zs_lload_n dX5_takeFromRow_60 rfl) <| fcs (zs_aload_n dX5_takeFromRow_61 rfl) <| fcs (zs_get cls4 (by decide) (by decide) wf_X5_59 dX5_takeFromRow_62) <| fcs (zs_iload_n dX5_takeFromRow_65 rfl) <| fcs (zs_laload dX5_takeFromRow_66) <| fcs (zs_calls (ct_X1_times hG l) mi_X1_times ws_X1_times (by decide) wm_X5_129 dX5_takeFromRow_67) <| fcs (zs_calls (ct_X1_minus hG l) mi_X1_minus ws_X1_minus (by decide) wm_X5_172 dX5_takeFromRow_70) <| fcs (zs_lastore dX5_takeFromRow_73) <| fcs (zs_vret dX5_takeFromRow_74) <| fnl
set_option maxRecDepth 100000 in
set_option maxHeartbeats 4000000 in
theorem ct_X5_takeFromRow {G : Geo} (hG : GeoOK G) (l : Launch) : Ct G l yX5_takeFromRow cX5_takeFromRow 6 none 1 sp_X5_takeFromRow := by
  refine Ct.of pr_X5_takeFromRow hG (by decide +kernel) (sn_X5_takeFromRow hG l) ?_
  intro av σ post hok h
  unfold sp_X5_takeFromRow at h
  split at h
  · rename_i b x y f
    obtain ⟨hb, row, piv, rfl, rfl, hr, hp, h9⟩ := bif_t h
    clear h
    obtain rfl := is0_t hb
    refine ⟨Nat.le_of_ble_eq_true rfl, fun X hX => ?_⟩
    have loop : ∀ (m k : Nat) (i : Int32), k + m = piv → i = nI (k + 1) → X 3 [(5, .inl i), (0, ar 0 0), (1, .inl (nI row)), (2, .inl (nI piv)), (3, af f)] [] (upf (tak1 row piv f) σ k) := by
      intro m
      induction m with
      | zero =>
        intro k i hk hi
        subst hi
        refine go hX [3] 60 ?_
        refine ⟨fun g1 => ?_, fun g1 => absurd ((nI_ltI (by omega) (by omega)).mpr (by omega)) g1⟩
        have e : k = piv := by omega
        subst e
        refine ⟨⟨nle rfl, nle rfl⟩, row, rfl, hr, ?_⟩
        refine ⟨⟨nle rfl, nle rfl⟩, k, rfl, hp, ?_⟩
        refine ⟨⟨nle rfl, nle rfl⟩, row, _, rfl, hr, rfl, ?_⟩
        exact h9
      | succ m ih =>
        intro k i hk hi
        subst hi
        refine go hX [3] 60 ?_
        refine ⟨fun g1 => absurd ((nI_ltI (by omega) (by omega)).mp g1) (by omega), fun g1 => ?_⟩
        refine ⟨row, rfl, hr, ?_⟩
        refine ⟨row, rfl, hr, ?_⟩
        refine ⟨⟨nle rfl, nle rfl⟩, k + 1, rfl, by show k + 1 < 8; omega, ?_⟩
        refine ⟨piv, rfl, hp, ?_⟩
        refine ⟨⟨nle rfl, nle rfl⟩, k + 1, rfl, by show k + 1 < 8; omega, ?_⟩
        refine ⟨⟨nle rfl, nle rfl⟩, k + 1, _, rfl, by show k + 1 < 8; omega, rfl, ?_⟩
        exact ih (k + 1) _ (by omega) (nI_add _ _)
    refine go hX [3] 60 ?_
    exact loop piv 0 _ (by omega) rfl
  · exact h.elim
def clr1 (piv : Nat) (s : SS) (row : Nat) : SS := c_tak s row piv (s.2.1 19 row piv * s.2.1 18 0 piv)
/-- one pivot: its inverse, and its row taken from those above -/
noncomputable def c_piv (s : SS) (k : Nat) : SS := upf (clr1 k) (sL s 18 0 k (zinv (s.2.1 19 k k))) (k - 1)
noncomputable def c_clr : Nat → SS → Bool × SS
  | 0, s => (true, s)
  | k + 1, s => if s.2.1 19 (k + 1) (k + 1) = 0 then (false, s) else c_clr k (c_piv s (k + 1))
theorem c_piv_I (s : SS) (k : Nat) : (c_piv s k).2.2 = s.2.2 := upf_I (f := clr1 k) (fun s r => c_tak_I s r _ _) _ _
theorem c_clr_I : ∀ (k : Nat) (s : SS), (c_clr k s).2.2.2 = s.2.2
  | 0, _ => rfl
  | k + 1, s => by
    unfold c_clr
    split
    · rfl
    · exact (c_clr_I k _).trans (c_piv_I s (k + 1))
noncomputable def sp_X5_clearUpperEntries : Spc := fun av σ post => match av with
  | [.inr (.inr b)] => bif is0 b then (CI σ ∧ post (some (ai (bz (c_clr (nn σ) σ).1))) (c_clr (nn σ) σ).2) else False
  | _ => False
theorem dX5_clearUpperEntries_0 : decode cX5_clearUpperEntries 0 = .ok (.aload_n 0, 1) := by decide +kernel
theorem dX5_clearUpperEntries_1 : decode cX5_clearUpperEntries 1 = .ok (.getfield 16, 3) := by decide +kernel
theorem dX5_clearUpperEntries_4 : decode cX5_clearUpperEntries 4 = .ok (.istore_n 1, 1) := by decide +kernel
theorem dX5_clearUpperEntries_5 : decode cX5_clearUpperEntries 5 = .ok (.iload_n 1, 1) := by decide +kernel
theorem dX5_clearUpperEntries_6 : decode cX5_clearUpperEntries 6 = .ok (.iconst 1, 1) := by decide +kernel
theorem dX5_clearUpperEntries_7 : decode cX5_clearUpperEntries 7 = .ok (.if_icmp .lt 77, 3) := by decide +kernel
theorem dX5_clearUpperEntries_10 : decode cX5_clearUpperEntries 10 = .ok (.aload_n 0, 1) := by decide +kernel
theorem dX5_clearUpperEntries_11 : decode cX5_clearUpperEntries 11 = .ok (.getfield 56, 3) := by decide +kernel
theorem dX5_clearUpperEntries_14 : decode cX5_clearUpperEntries 14 = .ok (.iload_n 1, 1) := by decide +kernel
theorem dX5_clearUpperEntries_15 : decode cX5_clearUpperEntries 15 = .ok (.aaload, 1) := by decide +kernel
theorem dX5_clearUpperEntries_16 : decode cX5_clearUpperEntries 16 = .ok (.iload_n 1, 1) := by decide +kernel
theorem dX5_clearUpperEntries_17 : decode cX5_clearUpperEntries 17 = .ok (.laload, 1) := by decide +kernel
theorem dX5_clearUpperEntries_18 : decode cX5_clearUpperEntries 18 = .ok (.lconst 0, 1) := by decide +kernel
theorem dX5_clearUpperEntries_19 : decode cX5_clearUpperEntries 19 = .ok (.lcmp, 1) := by decide +kernel
theorem dX5_clearUpperEntries_20 : decode cX5_clearUpperEntries 20 = .ok (.ifCond .ne 5, 3) := by decide +kernel
theorem dX5_clearUpperEntries_23 : decode cX5_clearUpperEntries 23 = .ok (.iconst 0, 1) := by decide +kernel
theorem dX5_clearUpperEntries_24 : decode cX5_clearUpperEntries 24 = .ok (.ireturn, 1) := by decide +kernel
theorem dX5_clearUpperEntries_25 : decode cX5_clearUpperEntries 25 = .ok (.aload_n 0, 1) := by decide +kernel
theorem dX5_clearUpperEntries_26 : decode cX5_clearUpperEntries 26 = .ok (.getfield 62, 3) := by decide +kernel
theorem dX5_clearUpperEntries_29 : decode cX5_clearUpperEntries 29 = .ok (.iload_n 1, 1) := by decide +kernel
theorem dX5_clearUpperEntries_30 : decode cX5_clearUpperEntries 30 = .ok (.aload_n 0, 1) := by decide +kernel
theorem dX5_clearUpperEntries_31 : decode cX5_clearUpperEntries 31 = .ok (.getfield 56, 3) := by decide +kernel
theorem dX5_clearUpperEntries_34 : decode cX5_clearUpperEntries 34 = .ok (.iload_n 1, 1) := by decide +kernel
theorem dX5_clearUpperEntries_35 : decode cX5_clearUpperEntries 35 = .ok (.aaload, 1) := by decide +kernel
theorem dX5_clearUpperEntries_36 : decode cX5_clearUpperEntries 36 = .ok (.iload_n 1, 1) := by decide +kernel
theorem dX5_clearUpperEntries_37 : decode cX5_clearUpperEntries 37 = .ok (.laload, 1) := by decide +kernel
theorem dX5_clearUpperEntries_38 : decode cX5_clearUpperEntries 38 = .ok (.invokestatic 175, 3) := by decide +kernel
theorem dX5_clearUpperEntries_41 : decode cX5_clearUpperEntries 41 = .ok (.lastore, 1) := by decide +kernel
theorem dX5_clearUpperEntries_42 : decode cX5_clearUpperEntries 42 = .ok (.iconst 1, 1) := by decide +kernel
theorem dX5_clearUpperEntries_43 : decode cX5_clearUpperEntries 43 = .ok (.istore_n 2, 1) := by decide +kernel
theorem dX5_clearUpperEntries_44 : decode cX5_clearUpperEntries 44 = .ok (.iload_n 2, 1) := by decide +kernel
theorem dX5_clearUpperEntries_45 : decode cX5_clearUpperEntries 45 = .ok (.iload_n 1, 1) := by decide +kernel
theorem dX5_clearUpperEntries_46 : decode cX5_clearUpperEntries 46 = .ok (.if_icmp .ge 32, 3) := by decide +kernel
theorem dX5_clearUpperEntries_49 : decode cX5_clearUpperEntries 49 = .ok (.aload_n 0, 1) := by decide +kernel
theorem dX5_clearUpperEntries_50 : decode cX5_clearUpperEntries 50 = .ok (.iload_n 2, 1) := by decide +kernel
theorem dX5_clearUpperEntries_51 : decode cX5_clearUpperEntries 51 = .ok (.iload_n 1, 1) := by decide +kernel
theorem dX5_clearUpperEntries_52 : decode cX5_clearUpperEntries 52 = .ok (.aload_n 0, 1) := by decide +kernel
theorem dX5_clearUpperEntries_53 : decode cX5_clearUpperEntries 53 = .ok (.getfield 56, 3) := by decide +kernel
theorem dX5_clearUpperEntries_56 : decode cX5_clearUpperEntries 56 = .ok (.iload_n 2, 1) := by decide +kernel
theorem dX5_clearUpperEntries_57 : decode cX5_clearUpperEntries 57 = .ok (.aaload, 1) := by decide +kernel
theorem dX5_clearUpperEntries_58 : decode cX5_clearUpperEntries 58 = .ok (.iload_n 1, 1) := by decide +kernel
theorem dX5_clearUpperEntries_59 : decode cX5_clearUpperEntries 59 = .ok (.laload, 1) := by decide +kernel
theorem dX5_clearUpperEntries_60 : decode cX5_clearUpperEntries 60 = .ok (.aload_n 0, 1) := by decide +kernel
theorem dX5_clearUpperEntries_61 : decode cX5_clearUpperEntries 61 = .ok (.getfield 62, 3) := by decide +kernel
theorem dX5_clearUpperEntries_64 : decode cX5_clearUpperEntries 64 = .ok (.iload_n 1, 1) := by decide +kernel
theorem dX5_clearUpperEntries_65 : decode cX5_clearUpperEntries 65 = .ok (.laload, 1) := by decide +kernel
theorem dX5_clearUpperEntries_66 : decode cX5_clearUpperEntries 66 = .ok (.invokestatic 129, 3) := by decide +kernel
theorem dX5_clearUpperEntries_69 : decode cX5_clearUpperEntries 69 = .ok (.invokevirtual 179, 3) := by decide +kernel
theorem dX5_clearUpperEntries_72 : decode cX5_clearUpperEntries 72 = .ok (.iinc 2 1, 3) := by decide +kernel
theorem dX5_clearUpperEntries_75 : decode cX5_clearUpperEntries 75 = .ok (.goto (-31), 3) := by decide +kernel
theorem dX5_clearUpperEntries_78 : decode cX5_clearUpperEntries 78 = .ok (.iinc 1 (-1), 3) := by decide +kernel
theorem dX5_clearUpperEntries_81 : decode cX5_clearUpperEntries 81 = .ok (.goto (-76), 3) := by decide +kernel
theorem dX5_clearUpperEntries_84 : decode cX5_clearUpperEntries 84 = .ok (.iconst 1, 1) := by decide +kernel
theorem dX5_clearUpperEntries_85 : decode cX5_clearUpperEntries 85 = .ok (.ireturn, 1) := by decide +kernel
theorem wf_X5_62 : Cond.fieldLink RX5 62 (TX5 13).1 (TX5 13).2.1 (TX5 13).2.2.1 ∈ ltb := List.mem_filter.mpr ⟨List.mem_append_right _ (List.mem_of_getElem? (i := 165) (by decide +kernel)), by decide +kernel⟩
theorem wm_X5_175 : Cond.methodLink RX5 175 yX1_inverse ∈ ltb := List.mem_filter.mpr ⟨List.mem_append_right _ (List.mem_of_getElem? (i := 422) (by decide +kernel)), by decide +kernel⟩
theorem wc_X5_takeFromRow : Cond.code yX5_takeFromRow cX5_takeFromRow 6 none ∈ ltb := List.mem_filter.mpr ⟨List.mem_append_right _ (List.mem_of_getElem? (i := 427) (by decide +kernel)), by decide +kernel⟩
theorem mi_X5_takeFromRow : Mi yX5_takeFromRow RX5 3 cX5_takeFromRow 6 none := ⟨by decide +kernel, wc_X5_takeFromRow, wi_X5, by decide⟩
theorem wv_X5_takeFromRow : Cond.instanceMethod yX5_takeFromRow ∈ ltb := List.mem_filter.mpr ⟨List.mem_append_right _ (List.mem_of_getElem? (i := 426) (by decide +kernel)), by decide +kernel⟩
theorem we_X5_takeFromRow : Cond.selects RX5 yX5_takeFromRow yX5_takeFromRow ∈ ltb := List.mem_filter.mpr ⟨List.mem_append_left _ (List.mem_of_getElem? (i := 8) (by decide +kernel)), by decide +kernel⟩
theorem wm_X5_179 : Cond.methodLink RX5 179 yX5_takeFromRow ∈ ltb := List.mem_filter.mpr ⟨List.mem_append_right _ (List.mem_of_getElem? (i := 424) (by decide +kernel)), by decide +kernel⟩
noncomputable def pr_X5_clearUpperEntries : Prg := [(0, z_aload 0 1), (1, z_get 4 1), (4, z_istore 1 1), (5, z_iload 1 1), (6, z_ic (nI 1) 1), (7, z_if2 (fun x y => x < y) 84), (10, z_aload 0 1), (11, z_get 4 11), (14, z_iload 1 1), (15, z_aaload), (16, z_iload 1 1), (17, z_laload), (18, z_lc (.inr 0) 1), (19, z_lcmp), (20, z_nf1 25), (23, z_ic (nI 0) 1), (24, z_zret), (25, z_aload 0 1), (26, z_get 4 13), (29, z_iload 1 1), (30, z_aload 0 1), (31, z_get 4 11), (34, z_iload 1 1), (35, z_aaload), (36, z_iload 1 1), (37, z_laload), (38, z_call 1 sp_X1_inverse), (41, z_lastore), (42, z_ic (nI 1) 1), (43, z_istore 2 1), (44, z_iload 2 1), (45, z_iload 1 1), (46, z_if2 (fun x y => y ≤ x) 78), (49, z_aload 0 1), (50, z_iload 2 1), (51, z_iload 1 1), (52, z_aload 0 1), (53, z_get 4 11), (56, z_iload 2 1), (57, z_aaload), (58, z_iload 1 1), (59, z_laload), (60, z_aload 0 1), (61, z_get 4 13), (64, z_iload 1 1), (65, z_laload), (66, z_call 2 sp_X1_times), (69, z_callv 3 4 sp_X5_takeFromRow), (72, z_iinc 2 (nI 1)), (75, z_goto 44), (78, z_iinc 1 (-1)), (81, z_goto 5), (84, z_ic (nI 1) 1), (85, z_zret)]
set_option maxRecDepth 100000 in
set_option maxHeartbeats 4000000 in
theorem sn_X5_clearUpperEntries {G : Geo} (hG : GeoOK G) (l : Launch) : ∀ q ∈ pr_X5_clearUpperEntries, Sn G l yX5_clearUpperEntries.cls cX5_clearUpperEntries 3 2 (some .boolean) q.1 q.2 :=
  fcs (zs_aload_n dX5_clearUpperEntries_0 rfl) <| fcs (zs_get cls4 (by decide) (by decide) wf_X5_16 dX5_clearUpperEntries_1) <| fcs (zs_istore_n dX5_clearUpperEntries_4 rfl (by decide)) <| fcs (zs_iload_n dX5_clearUpperEntries_5 rfl) <| fcs (zs_iconst dX5_clearUpperEntries_6 rfl) <| fcs (zs_icmp_lt dX5_clearUpperEntries_7 rfl) <| fcs (zs_aload_n dX5_clearUpperEntries_10 rfl) <| fcs (zs_get cls4 (by decide) (by decide) wf_X5_56 dX5_clearUpperEntries_11) <| fcs (zs_iload_n dX5_clearUpperEntries_14 rfl) <| fcs (zs_aaload dX5_clearUpperEntries_15) <| fcs (zs_iload_n dX5_clearUpperEntries_16 rfl) <| fcs (zs_laload dX5_clearUpperEntries_17) <| fcs (zs_lconst dX5_clearUpperEntries_18 rfl) <| fcs (zs_lcmp dX5_clearUpperEntries_19) <| fcs (zs_if_ne dX5_clearUpperEntries_20 rfl) <| fcs (zs_iconst dX5_clearUpperEntries_23 rfl) <| fcs (zs_zret dX5_clearUpperEntries_24) <| fcs (zs_aload_n dX5_clearUpperEntries_25 rfl) <| fcs (zs_get cls4 (by decide) (by decide) wf_X5_62 dX5_clearUpperEntries_26) <| fcs (zs_iload_n dX5_clearUpperEntries_29 rfl) <| fcs (zs_aload_n dX5_clearUpperEntries_30 rfl) <| fcs (zs_get cls4 (by decide) (by decide) wf_X5_56 dX5_clearUpperEntries_31) <| fcs (zs_iload_n dX5_clearUpperEntries_34 rfl) <| fcs (zs_aaload dX5_clearUpperEntries_35) <| fcs (zs_iload_n dX5_clearUpperEntries_36 rfl) <| fcs (zs_laload dX5_clearUpperEntries_37) <| fcs (zs_calls (ct_X1_inverse hG l) mi_X1_inverse ws_X1_inverse (by decide) wm_X5_175 dX5_clearUpperEntries_38) <| fcs (zs_lastore dX5_clearUpperEntries_41) <| fcs (zs_iconst dX5_clearUpperEntries_42 rfl) <| fcs (zs_istore_n dX5_clearUpperEntries_43 rfl (by decide)) <| fcs (zs_iload_n dX5_clearUpperEntries_44 rfl) <| fcs (zs_iload_n dX5_clearUpperEntries_45 rfl) <| fcs (zs_icmp_ge dX5_clearUpperEntries_46 rfl) <| fcs (zs_aload_n dX5_clearUpperEntries_49 rfl) <| fcs (zs_iload_n dX5_clearUpperEntries_50 rfl) <| fcs (zs_iload_n dX5_clearUpperEntries_51 rfl) <| fcs (zs_aload_n dX5_clearUpperEntries_52 rfl) <| fcs (zs_get cls4 (by decide) (by decide) wf_X5_56 dX5_clearUpperEntries_53) <| fcs (zs_iload_n dX5_clearUpperEntries_56 rfl) <| fcs (zs_aaload dX5_clearUpperEntries_57) <| fcs (zs_iload_n dX5_clearUpperEntries_58 rfl) <| fcs (zs_laload dX5_clearUpperEntries_59) <| fcs (zs_aload_n dX5_clearUpperEntries_60 rfl) <| fcs (zs_get cls4 (by decide) (by decide) wf_X5_62 dX5_clearUpperEntries_61) <| fcs (zs_iload_n dX5_clearUpperEntries_64 rfl) <| fcs (zs_laload dX5_clearUpperEntries_65) <| fcs (zs_calls (ct_X1_times hG l) mi_X1_times ws_X1_times (by decide) wm_X5_129 dX5_clearUpperEntries_66) <| fcs (zs_callv cls4 (by decide) (ct_X5_takeFromRow hG l) mi_X5_takeFromRow wv_X5_takeFromRow we_X5_takeFromRow (by decide) wm_X5_179 dX5_clearUpperEntries_69) <| fcs (zs_iinc dX5_clearUpperEntries_72 rfl (by decide)) <| fcs (zs_goto dX5_clearUpperEntries_75 rfl) <| fcs (zs_iinc dX5_clearUpperEntries_78 rfl (by decide)) <| fcs (zs_goto dX5_clearUpperEntries_81 rfl) <| fcs (zs_iconst dX5_clearUpperEntries_84 rfl) <| fcs (zs_zret dX5_clearUpperEntries_85) <| fnl
theorem em0 {f : ZF} : lg_cmp (em f) (em 0) = 0 ↔ f = 0 := by
  constructor
  · intro h
    exact em_inj (fm_0 h)
  · intro h
    subst h
    decide
set_option maxRecDepth 100000 in
set_option maxHeartbeats 4000000 in
theorem ct_X5_clearUpperEntries {G : Geo} (hG : GeoOK G) (l : Launch) : Ct G l yX5_clearUpperEntries cX5_clearUpperEntries 3 (some .boolean) 2 sp_X5_clearUpperEntries := by
  refine Ct.of pr_X5_clearUpperEntries hG (by decide +kernel) (sn_X5_clearUpperEntries hG l) ?_
  intro av σ post hok h
  unfold sp_X5_clearUpperEntries at h
  split at h
  · rename_i b
    obtain ⟨hb, hI, h9⟩ := bif_t h
    clear h
    obtain rfl := is0_t hb
    refine ⟨Nat.le_of_ble_eq_true rfl, fun X hX => ?_⟩
    have h7 := hI.2.1
    have outer : ∀ (k : Nat) (s : SS) (i : Int32) (loc : Loc'), k ≤ 7 → i = nI k → subL [(1, .inl i), (0, ar 0 0)] loc → post (some (ai (bz (c_clr k s).1))) (c_clr k s).2 → X 5 loc [] s := by
      intro k
      induction k with
      | zero =>
        intro s i loc hk hi hloc hp
        subst hi
        refine wk hX ?_ hloc
        refine go hX [5, 44] 60 ?_
        refine ⟨fun g1 => ?_, fun g1 => absurd ((nI_ltI (by decide) (by decide)).mpr (by decide)) g1⟩
        exact ⟨Or.inr rfl, hp⟩
      | succ k ih =>
        intro s i loc hk hi hloc hp
        subst hi
        refine wk hX ?_ hloc
        refine go hX [5, 44] 60 ?_
        refine ⟨fun g1 => absurd ((nI_ltI (by omega) (by decide)).mp g1) (by omega), fun g1 => ?_⟩
        refine ⟨k + 1, rfl, by omega, ?_⟩
        refine ⟨⟨nle rfl, nle rfl⟩, k + 1, rfl, by show k + 1 < 8; omega, ?_⟩
        refine ⟨fun g2 => ?_, fun g2 => ?_⟩
        · have g2 : ¬ lg_cmp (em (s.2.1 19 (k + 1) (k + 1))) (em 0) = 0 := g2
          rw [em0] at g2
          refine ⟨k + 1, rfl, by omega, ?_⟩
          refine ⟨⟨nle rfl, nle rfl⟩, k + 1, rfl, by show k + 1 < 8; omega, ?_⟩
          refine ⟨⟨nle rfl, nle rfl⟩, k + 1, _, rfl, by show k + 1 < 8; omega, rfl, ?_⟩
          unfold c_clr at hp
          rw [if_neg g2] at hp
          have inner : ∀ (m r : Nat) (j : Int32), r + m = k → j = nI (r + 1) → X 44 [(2, .inl j), (1, .inl (nI (k + 1))), (0, ar 0 0)] [] (upf (clr1 (k + 1)) (sL s 18 0 (k + 1) (zinv (s.2.1 19 (k + 1) (k + 1)))) r) := by
            intro m
            induction m with
            | zero =>
              intro r j hr hj
              subst hj
              refine go hX [5, 44] 60 ?_
              refine ⟨fun q1 => ?_, fun q1 => absurd ((nI_leI (by omega) (by omega)).mpr (by omega)) q1⟩
              have e : r = k := by omega
              subst e
              exact ih _ _ _ (by omega) (pk_m1 r) ⟨⟨_, rfl, Or.inl rfl⟩, ⟨_, rfl, Or.inl rfl⟩, trivial⟩ hp
            | succ m ih2 =>
              intro r j hr hj
              subst hj
              refine go hX [5, 44] 60 ?_
              refine ⟨fun q1 => absurd ((nI_leI (by omega) (by omega)).mp q1) (by omega), fun q1 => ?_⟩
              refine ⟨r + 1, rfl, by omega, ?_⟩
              refine ⟨⟨nle rfl, nle rfl⟩, k + 1, rfl, by show k + 1 < 8; omega, ?_⟩
              refine ⟨⟨nle rfl, nle rfl⟩, k + 1, rfl, by show k + 1 < 8; omega, ?_⟩
              refine ⟨r + 1, k + 1, rfl, rfl, by omega, by omega, ?_⟩
              exact ih2 (r + 1) _ (by omega) (nI_add _ _)
          exact inner k 0 _ (by omega) rfl
        · have g2 : lg_cmp (em (s.2.1 19 (k + 1) (k + 1))) (em 0) = 0 := g2
          rw [em0] at g2
          unfold c_clr at hp
          rw [if_pos g2] at hp
          exact ⟨Or.inl rfl, hp⟩
    refine go hX [5, 44] 60 ?_
    exact outer (nn σ) σ _ _ h7 hI.1 ⟨⟨_, rfl, Or.inl rfl⟩, ⟨_, rfl, Or.inl rfl⟩, trivial⟩ h9
  · exact h.elim
def lft (s : SS) (k : Nat) : Nat → ZF
  | 0 => s.2.1 17 0 k
  | i + 1 => lft s k i - s.2.1 19 k (i + 1) * s.2.1 12 0 (i + 1)
def sol1 (s : SS) (k : Nat) : SS := sL s 12 0 k (lft s k (k - 1) * s.2.1 18 0 k)
def c_sol (σ : SS) : SS := upf sol1 σ (nn σ)
theorem c_sol_I (σ : SS) : (c_sol σ).2.2 = σ.2.2 := upf_I (f := sol1) (fun _ _ => rfl) _ _
noncomputable def sp_X5_solveAccelerations : Spc := fun av σ post => match av with
  | [.inr (.inr b)] => bif is0 b then (CI σ ∧ post none (c_sol σ)) else False
  | _ => False
theorem dX5_solveAccelerations_0 : decode cX5_solveAccelerations 0 = .ok (.iconst 1, 1) := by decide +kernel
theorem dX5_solveAccelerations_1 : decode cX5_solveAccelerations 1 = .ok (.istore_n 1, 1) := by decide +kernel
theorem dX5_solveAccelerations_2 : decode cX5_solveAccelerations 2 = .ok (.iload_n 1, 1) := by decide +kernel
theorem dX5_solveAccelerations_3 : decode cX5_solveAccelerations 3 = .ok (.aload_n 0, 1) := by decide +kernel
theorem dX5_solveAccelerations_4 : decode cX5_solveAccelerations 4 = .ok (.getfield 16, 3) := by decide +kernel
theorem dX5_solveAccelerations_7 : decode cX5_solveAccelerations 7 = .ok (.if_icmp .gt 71, 3) := by decide +kernel
theorem dX5_solveAccelerations_10 : decode cX5_solveAccelerations 10 = .ok (.aload_n 0, 1) := by decide +kernel
theorem dX5_solveAccelerations_11 : decode cX5_solveAccelerations 11 = .ok (.getfield 59, 3) := by decide +kernel
theorem dX5_solveAccelerations_14 : decode cX5_solveAccelerations 14 = .ok (.iload_n 1, 1) := by decide +kernel
theorem dX5_solveAccelerations_15 : decode cX5_solveAccelerations 15 = .ok (.laload, 1) := by decide +kernel
theorem dX5_solveAccelerations_16 : decode cX5_solveAccelerations 16 = .ok (.lstore_n 2, 1) := by decide +kernel
theorem dX5_solveAccelerations_17 : decode cX5_solveAccelerations 17 = .ok (.iconst 1, 1) := by decide +kernel
theorem dX5_solveAccelerations_18 : decode cX5_solveAccelerations 18 = .ok (.istore 4, 2) := by decide +kernel
theorem dX5_solveAccelerations_20 : decode cX5_solveAccelerations 20 = .ok (.iload 4, 2) := by decide +kernel
theorem dX5_solveAccelerations_22 : decode cX5_solveAccelerations 22 = .ok (.iload_n 1, 1) := by decide +kernel
theorem dX5_solveAccelerations_23 : decode cX5_solveAccelerations 23 = .ok (.if_icmp .ge 33, 3) := by decide +kernel
theorem dX5_solveAccelerations_26 : decode cX5_solveAccelerations 26 = .ok (.lload_n 2, 1) := by decide +kernel
theorem dX5_solveAccelerations_27 : decode cX5_solveAccelerations 27 = .ok (.aload_n 0, 1) := by decide +kernel
theorem dX5_solveAccelerations_28 : decode cX5_solveAccelerations 28 = .ok (.getfield 56, 3) := by decide +kernel
theorem dX5_solveAccelerations_31 : decode cX5_solveAccelerations 31 = .ok (.iload_n 1, 1) := by decide +kernel
theorem dX5_solveAccelerations_32 : decode cX5_solveAccelerations 32 = .ok (.aaload, 1) := by decide +kernel
theorem dX5_solveAccelerations_33 : decode cX5_solveAccelerations 33 = .ok (.iload 4, 2) := by decide +kernel
theorem dX5_solveAccelerations_35 : decode cX5_solveAccelerations 35 = .ok (.laload, 1) := by decide +kernel
theorem dX5_solveAccelerations_36 : decode cX5_solveAccelerations 36 = .ok (.aload_n 0, 1) := by decide +kernel
theorem dX5_solveAccelerations_37 : decode cX5_solveAccelerations 37 = .ok (.getfield 39, 3) := by decide +kernel
theorem dX5_solveAccelerations_40 : decode cX5_solveAccelerations 40 = .ok (.iload 4, 2) := by decide +kernel
theorem dX5_solveAccelerations_42 : decode cX5_solveAccelerations 42 = .ok (.laload, 1) := by decide +kernel
theorem dX5_solveAccelerations_43 : decode cX5_solveAccelerations 43 = .ok (.invokestatic 129, 3) := by decide +kernel
theorem dX5_solveAccelerations_46 : decode cX5_solveAccelerations 46 = .ok (.invokestatic 172, 3) := by decide +kernel
theorem dX5_solveAccelerations_49 : decode cX5_solveAccelerations 49 = .ok (.lstore_n 2, 1) := by decide +kernel
theorem dX5_solveAccelerations_50 : decode cX5_solveAccelerations 50 = .ok (.iinc 4 1, 3) := by decide +kernel
theorem dX5_solveAccelerations_53 : decode cX5_solveAccelerations 53 = .ok (.goto (-33), 3) := by decide +kernel
theorem dX5_solveAccelerations_56 : decode cX5_solveAccelerations 56 = .ok (.aload_n 0, 1) := by decide +kernel
theorem dX5_solveAccelerations_57 : decode cX5_solveAccelerations 57 = .ok (.getfield 39, 3) := by decide +kernel
theorem dX5_solveAccelerations_60 : decode cX5_solveAccelerations 60 = .ok (.iload_n 1, 1) := by decide +kernel
theorem dX5_solveAccelerations_61 : decode cX5_solveAccelerations 61 = .ok (.lload_n 2, 1) := by decide +kernel
theorem dX5_solveAccelerations_62 : decode cX5_solveAccelerations 62 = .ok (.aload_n 0, 1) := by decide +kernel
theorem dX5_solveAccelerations_63 : decode cX5_solveAccelerations 63 = .ok (.getfield 62, 3) := by decide +kernel
theorem dX5_solveAccelerations_66 : decode cX5_solveAccelerations 66 = .ok (.iload_n 1, 1) := by decide +kernel
theorem dX5_solveAccelerations_67 : decode cX5_solveAccelerations 67 = .ok (.laload, 1) := by decide +kernel
theorem dX5_solveAccelerations_68 : decode cX5_solveAccelerations 68 = .ok (.invokestatic 129, 3) := by decide +kernel
theorem dX5_solveAccelerations_71 : decode cX5_solveAccelerations 71 = .ok (.lastore, 1) := by decide +kernel
theorem dX5_solveAccelerations_72 : decode cX5_solveAccelerations 72 = .ok (.iinc 1 1, 3) := by decide +kernel
theorem dX5_solveAccelerations_75 : decode cX5_solveAccelerations 75 = .ok (.goto (-73), 3) := by decide +kernel
theorem dX5_solveAccelerations_78 : decode cX5_solveAccelerations 78 = .ok (.return_, 1) := by decide +kernel
noncomputable def pr_X5_solveAccelerations : Prg := [(0, z_ic (nI 1) 1), (1, z_istore 1 1), (2, z_iload 1 1), (3, z_aload 0 1), (4, z_get 4 1), (7, z_if2 (fun x y => y < x) 78), (10, z_aload 0 1), (11, z_get 4 12), (14, z_iload 1 1), (15, z_laload), (16, z_lstore 2 1), (17, z_ic (nI 1) 1), (18, z_istore 4 2), (20, z_iload 4 2), (22, z_iload 1 1), (23, z_if2 (fun x y => y ≤ x) 56), (26, z_lload 2 1), (27, z_aload 0 1), (28, z_get 4 11), (31, z_iload 1 1), (32, z_aaload), (33, z_iload 4 2), (35, z_laload), (36, z_aload 0 1), (37, z_get 4 6), (40, z_iload 4 2), (42, z_laload), (43, z_call 2 sp_X1_times), (46, z_call 2 sp_X1_minus), (49, z_lstore 2 1), (50, z_iinc 4 (nI 1)), (53, z_goto 20), (56, z_aload 0 1), (57, z_get 4 6), (60, z_iload 1 1), (61, z_lload 2 1), (62, z_aload 0 1), (63, z_get 4 13), (66, z_iload 1 1), (67, z_laload), (68, z_call 2 sp_X1_times), (71, z_lastore), (72, z_iinc 1 (nI 1)), (75, z_goto 2), (78, z_vret)]
set_option maxRecDepth 100000 in
set_option maxHeartbeats 4000000 in
theorem sn_X5_solveAccelerations {G : Geo} (hG : GeoOK G) (l : Launch) : ∀ q ∈ pr_X5_solveAccelerations, Sn G l yX5_solveAccelerations.cls cX5_solveAccelerations 5 1 none q.1 q.2 :=
  fcs (zs_iconst dX5_solveAccelerations_0 rfl) <| fcs (zs_istore_n dX5_solveAccelerations_1 rfl (by decide)) <| fcs (zs_iload_n dX5_solveAccelerations_2 rfl) <| fcs (zs_aload_n dX5_solveAccelerations_3 rfl) <| fcs (zs_get cls4 (by decide) (by decide) wf_X5_16 dX5_solveAccelerations_4) <| fcs (zs_icmp_gt dX5_solveAccelerations_7 rfl) <| fcs (zs_aload_n dX5_solveAccelerations_10 rfl) <| fcs (zs_get cls4 (by decide) (by decide) wf_X5_59 dX5_solveAccelerations_11) <| fcs (zs_iload_n dX5_solveAccelerations_14 rfl) <| fcs (zs_laload dX5_solveAccelerations_15) <| fcs (zs_lstore_n dX5_solveAccelerations_16 rfl (by decide)) <| fcs (zs_iconst dX5_solveAccelerations_17 rfl) <| fcs (zs_istore dX5_solveAccelerations_18 (by decide)) <| fcs (zs_iload dX5_solveAccelerations_20) <| fcs (zs_iload_n dX5_solveAccelerations_22 rfl) <| fcs (zs_icmp_ge dX5_solveAccelerations_23 rfl) <| fcs (zs_lload_n dX5_solveAccelerations_26 rfl) <| fcs (zs_aload_n dX5_solveAccelerations_27 rfl) <| fcs (zs_get cls4 (by decide) (by decide) wf_X5_56 dX5_solveAccelerations_28) <| fcs (zs_iload_n dX5_solveAccelerations_31 rfl) <| fcs (zs_aaload dX5_solveAccelerations_32) <| fcs (zs_iload dX5_solveAccelerations_33) <| fcs (zs_laload dX5_solveAccelerations_35) <| fcs (zs_aload_n dX5_solveAccelerations_36 rfl) <| fcs (zs_get cls4 (by decide) (by decide) wf_X5_39 dX5_solveAccelerations_37) <| fcs (zs_iload dX5_solveAccelerations_40) <| fcs (zs_laload dX5_solveAccelerations_42) <| fcs (zs_calls (ct_X1_times hG l) mi_X1_times ws_X1_times (by decide) wm_X5_129 dX5_solveAccelerations_43) <| fcs (zs_calls (ct_X1_minus hG l) mi_X1_minus ws_X1_minus (by decide) wm_X5_172 dX5_solveAccelerations_46) <| fcs (zs_lstore_n dX5_solveAccelerations_49 rfl (by decide)) <| fcs (zs_iinc dX5_solveAccelerations_50 rfl (by decide)) <| fcs (zs_goto dX5_solveAccelerations_53 rfl) <| fcs (zs_aload_n dX5_solveAccelerations_56 rfl) <| fcs (zs_get cls4 (by decide) (by decide) wf_X5_39 dX5_solveAccelerations_57) <| fcs (zs_iload_n dX5_solveAccelerations_60 rfl) <| fcs (zs_lload_n dX5_solveAccelerations_61 rfl) <| fcs (zs_aload_n dX5_solveAccelerations_62 rfl) <| fcs (zs_get cls4 (by decide) (by decide) wf_X5_62 dX5_solveAccelerations_63) <| fcs (zs_iload_n dX5_solveAccelerations_66 rfl) <| fcs (zs_laload dX5_solveAccelerations_67) <| fcs (zs_calls (ct_X1_times hG l) mi_X1_times ws_X1_times (by decide) wm_X5_129 dX5_solveAccelerations_68) <| fcs (zs_lastore dX5_solveAccelerations_71) <| fcs (zs_iinc dX5_solveAccelerations_72 rfl (by decide)) <| fcs (zs_goto dX5_solveAccelerations_75 rfl) <| fcs (zs_vret dX5_solveAccelerations_78) <| fnl
set_option maxRecDepth 100000 in
set_option maxHeartbeats 4000000 in
theorem ct_X5_solveAccelerations {G : Geo} (hG : GeoOK G) (l : Launch) : Ct G l yX5_solveAccelerations cX5_solveAccelerations 5 none 1 sp_X5_solveAccelerations := by
  refine Ct.of pr_X5_solveAccelerations hG (by decide +kernel) (sn_X5_solveAccelerations hG l) ?_
  intro av σ post hok h
  unfold sp_X5_solveAccelerations at h
  split at h
  · rename_i b
    obtain ⟨hb, hI, h9⟩ := bif_t h
    clear h
    obtain rfl := is0_t hb
    refine ⟨Nat.le_of_ble_eq_true rfl, fun X hX => ?_⟩
    have h7 := hI.2.1
    have h0I : ∀ k, (upf sol1 σ k).2.2 = σ.2.2 := fun k => upf_I (f := sol1) (fun _ _ => rfl) _ _
    have loop : ∀ (m k : Nat) (i : Int32) (loc : Loc'), k + m = nn σ → i = nI (k + 1) → subL [(1, .inl i), (0, ar 0 0)] loc → X 2 loc [] (upf sol1 σ k) := by
      intro m
      induction m with
      | zero =>
        intro k i loc hk hi hloc
        subst hi
        have hI' := CI_of (h0I k) hI
        have hn := nn_of (h0I k)
        refine wk hX ?_ hloc
        refine go hX [2, 20] 60 ?_
        refine ⟨fun g1 => ?_, fun g1 => absurd (lp_t hI' (by omega) (by omega)) g1⟩
        have e : k = nn σ := by omega
        subst e
        exact h9
      | succ m ih =>
        intro k i loc hk hi hloc
        subst hi
        have hI' := CI_of (h0I k) hI
        have hn := nn_of (h0I k)
        refine wk hX ?_ hloc
        refine go hX [2, 20] 60 ?_
        refine ⟨fun g1 => absurd g1 (lp_f hI' (by omega)), fun g1 => ?_⟩
        refine ⟨⟨nle rfl, nle rfl⟩, k + 1, rfl, by show k + 1 < 8; omega, ?_⟩
        have inner : ∀ (m2 r : Nat) (j : Int32) (loc : Loc'), r + m2 = k → j = nI (r + 1) → subL [(4, .inl j), (2, af (lft (upf sol1 σ k) (k + 1) r)), (1, .inl (nI (k + 1))), (0, ar 0 0)] loc → X 20 loc [] (upf sol1 σ k) := by
          intro m2
          induction m2 with
          | zero =>
            intro r j loc hr hj hloc
            subst hj
            refine wk hX ?_ hloc
            refine go hX [2, 20] 60 ?_
            refine ⟨fun q1 => ?_, fun q1 => absurd ((nI_leI (by omega) (by omega)).mpr (by omega)) q1⟩
            have e : r = k := by omega
            subst e
            refine ⟨⟨nle rfl, nle rfl⟩, r + 1, rfl, by show r + 1 < 8; omega, ?_⟩
            refine ⟨⟨nle rfl, nle rfl⟩, r + 1, _, rfl, by show r + 1 < 8; omega, rfl, ?_⟩
            exact ih (r + 1) _ _ (by omega) (nI_add _ _) ⟨⟨_, rfl, Or.inl rfl⟩, ⟨_, rfl, Or.inl rfl⟩, trivial⟩
          | succ m2 ih2 =>
            intro r j loc hr hj hloc
            subst hj
            refine wk hX ?_ hloc
            refine go hX [2, 20] 60 ?_
            refine ⟨fun q1 => absurd ((nI_leI (by omega) (by omega)).mp q1) (by omega), fun q1 => ?_⟩
            refine ⟨k + 1, rfl, by omega, ?_⟩
            refine ⟨⟨nle rfl, nle rfl⟩, r + 1, rfl, by show r + 1 < 8; omega, ?_⟩
            refine ⟨⟨nle rfl, nle rfl⟩, r + 1, rfl, by show r + 1 < 8; omega, ?_⟩
            exact ih2 (r + 1) _ _ (by omega) (nI_add _ _) ⟨⟨_, rfl, Or.inl rfl⟩, ⟨_, rfl, Or.inl rfl⟩, ⟨_, rfl, Or.inl rfl⟩, ⟨_, rfl, Or.inl rfl⟩, trivial⟩
        exact inner k 0 _ _ (by omega) rfl ⟨⟨_, rfl, Or.inl rfl⟩, ⟨_, rfl, Or.inl rfl⟩, ⟨_, rfl, Or.inl rfl⟩, ⟨_, rfl, Or.inl rfl⟩, trivial⟩
    refine go hX [2, 20] 60 ?_
    exact loop (nn σ) 0 _ _ (by omega) rfl ⟨⟨_, rfl, Or.inl rfl⟩, ⟨_, rfl, Or.inl rfl⟩, trivial⟩
  · exact h.elim
/-- the system's columns and gaps -/
noncomputable def c_sys (σ : SS) : SS := c_gap (upf c_col (c_std σ) (nn σ))
theorem c_sys_I (σ : SS) : (c_sys σ).2.2 = σ.2.2 := (c_gap_I _).trans ((upf_I c_col_I _ _).trans (c_std_I σ))
noncomputable def c_fwd (σ : SS) : SS := (c_clr (nn σ) (c_sys σ)).2
noncomputable def c_fwb (σ : SS) : Bool := (c_clr (nn σ) (c_sys σ)).1
theorem c_fwd_I (σ : SS) : (c_fwd σ).2.2 = σ.2.2 := (c_clr_I _ _).trans (c_sys_I σ)
noncomputable def sp_X5_forward : Spc := fun av σ post => match av with
  | [.inr (.inr b)] => bif is0 b then (CI σ ∧ post (some (ai (bz (c_fwb σ)))) (bif c_fwb σ then c_sol (c_fwd σ) else c_fwd σ)) else False
  | _ => False
theorem dX5_forward_0 : decode cX5_forward 0 = .ok (.aload_n 0, 1) := by decide +kernel
theorem dX5_forward_1 : decode cX5_forward 1 = .ok (.invokevirtual 108, 3) := by decide +kernel
theorem dX5_forward_4 : decode cX5_forward 4 = .ok (.iconst 1, 1) := by decide +kernel
theorem dX5_forward_5 : decode cX5_forward 5 = .ok (.istore_n 1, 1) := by decide +kernel
theorem dX5_forward_6 : decode cX5_forward 6 = .ok (.iload_n 1, 1) := by decide +kernel
theorem dX5_forward_7 : decode cX5_forward 7 = .ok (.aload_n 0, 1) := by decide +kernel
theorem dX5_forward_8 : decode cX5_forward 8 = .ok (.getfield 16, 3) := by decide +kernel
theorem dX5_forward_11 : decode cX5_forward 11 = .ok (.if_icmp .gt 14, 3) := by decide +kernel
theorem dX5_forward_14 : decode cX5_forward 14 = .ok (.aload_n 0, 1) := by decide +kernel
theorem dX5_forward_15 : decode cX5_forward 15 = .ok (.iload_n 1, 1) := by decide +kernel
theorem dX5_forward_16 : decode cX5_forward 16 = .ok (.invokevirtual 115, 3) := by decide +kernel
theorem dX5_forward_19 : decode cX5_forward 19 = .ok (.iinc 1 1, 3) := by decide +kernel
theorem dX5_forward_22 : decode cX5_forward 22 = .ok (.goto (-16), 3) := by decide +kernel
theorem dX5_forward_25 : decode cX5_forward 25 = .ok (.aload_n 0, 1) := by decide +kernel
theorem dX5_forward_26 : decode cX5_forward 26 = .ok (.invokevirtual 119, 3) := by decide +kernel
theorem dX5_forward_29 : decode cX5_forward 29 = .ok (.aload_n 0, 1) := by decide +kernel
theorem dX5_forward_30 : decode cX5_forward 30 = .ok (.invokevirtual 122, 3) := by decide +kernel
theorem dX5_forward_33 : decode cX5_forward 33 = .ok (.ifCond .ne 5, 3) := by decide +kernel
theorem dX5_forward_36 : decode cX5_forward 36 = .ok (.iconst 0, 1) := by decide +kernel
theorem dX5_forward_37 : decode cX5_forward 37 = .ok (.ireturn, 1) := by decide +kernel
theorem dX5_forward_38 : decode cX5_forward 38 = .ok (.aload_n 0, 1) := by decide +kernel
theorem dX5_forward_39 : decode cX5_forward 39 = .ok (.invokevirtual 126, 3) := by decide +kernel
theorem dX5_forward_42 : decode cX5_forward 42 = .ok (.iconst 1, 1) := by decide +kernel
theorem dX5_forward_43 : decode cX5_forward 43 = .ok (.ireturn, 1) := by decide +kernel
theorem wc_X5_fillGaps : Cond.code yX5_fillGaps cX5_fillGaps 2 none ∈ ltb := List.mem_filter.mpr ⟨List.mem_append_right _ (List.mem_of_getElem? (i := 416) (by decide +kernel)), by decide +kernel⟩
theorem mi_X5_fillGaps : Mi yX5_fillGaps RX5 0 cX5_fillGaps 2 none := ⟨by decide +kernel, wc_X5_fillGaps, wi_X5, by decide⟩
theorem wv_X5_fillGaps : Cond.instanceMethod yX5_fillGaps ∈ ltb := List.mem_filter.mpr ⟨List.mem_append_right _ (List.mem_of_getElem? (i := 415) (by decide +kernel)), by decide +kernel⟩
theorem we_X5_fillGaps : Cond.selects RX5 yX5_fillGaps yX5_fillGaps ∈ ltb := List.mem_filter.mpr ⟨List.mem_append_left _ (List.mem_of_getElem? (i := 6) (by decide +kernel)), by decide +kernel⟩
theorem wm_X5_119 : Cond.methodLink RX5 119 yX5_fillGaps ∈ ltb := List.mem_filter.mpr ⟨List.mem_append_right _ (List.mem_of_getElem? (i := 413) (by decide +kernel)), by decide +kernel⟩
theorem wc_X5_clearUpperEntries : Cond.code yX5_clearUpperEntries cX5_clearUpperEntries 3 (some .boolean) ∈ ltb := List.mem_filter.mpr ⟨List.mem_append_right _ (List.mem_of_getElem? (i := 421) (by decide +kernel)), by decide +kernel⟩
theorem mi_X5_clearUpperEntries : Mi yX5_clearUpperEntries RX5 0 cX5_clearUpperEntries 3 (some .boolean) := ⟨by decide +kernel, wc_X5_clearUpperEntries, wi_X5, by decide⟩
theorem wv_X5_clearUpperEntries : Cond.instanceMethod yX5_clearUpperEntries ∈ ltb := List.mem_filter.mpr ⟨List.mem_append_right _ (List.mem_of_getElem? (i := 420) (by decide +kernel)), by decide +kernel⟩
theorem we_X5_clearUpperEntries : Cond.selects RX5 yX5_clearUpperEntries yX5_clearUpperEntries ∈ ltb := List.mem_filter.mpr ⟨List.mem_append_left _ (List.mem_of_getElem? (i := 7) (by decide +kernel)), by decide +kernel⟩
theorem wm_X5_122 : Cond.methodLink RX5 122 yX5_clearUpperEntries ∈ ltb := List.mem_filter.mpr ⟨List.mem_append_right _ (List.mem_of_getElem? (i := 418) (by decide +kernel)), by decide +kernel⟩
theorem wc_X5_solveAccelerations : Cond.code yX5_solveAccelerations cX5_solveAccelerations 5 none ∈ ltb := List.mem_filter.mpr ⟨List.mem_append_right _ (List.mem_of_getElem? (i := 431) (by decide +kernel)), by decide +kernel⟩
theorem mi_X5_solveAccelerations : Mi yX5_solveAccelerations RX5 0 cX5_solveAccelerations 5 none := ⟨by decide +kernel, wc_X5_solveAccelerations, wi_X5, by decide⟩
theorem wv_X5_solveAccelerations : Cond.instanceMethod yX5_solveAccelerations ∈ ltb := List.mem_filter.mpr ⟨List.mem_append_right _ (List.mem_of_getElem? (i := 430) (by decide +kernel)), by decide +kernel⟩
theorem we_X5_solveAccelerations : Cond.selects RX5 yX5_solveAccelerations yX5_solveAccelerations ∈ ltb := List.mem_filter.mpr ⟨List.mem_append_left _ (List.mem_of_getElem? (i := 9) (by decide +kernel)), by decide +kernel⟩
theorem wm_X5_126 : Cond.methodLink RX5 126 yX5_solveAccelerations ∈ ltb := List.mem_filter.mpr ⟨List.mem_append_right _ (List.mem_of_getElem? (i := 428) (by decide +kernel)), by decide +kernel⟩
noncomputable def pr_X5_forward : Prg := [(0, z_aload 0 1), (1, z_callv 0 4 sp_X5_standAll), (4, z_ic (nI 1) 1), (5, z_istore 1 1), (6, z_iload 1 1), (7, z_aload 0 1), (8, z_get 4 1), (11, z_if2 (fun x y => y < x) 25), (14, z_aload 0 1), (15, z_iload 1 1), (16, z_callv 1 4 sp_X5_fillColumn), (19, z_iinc 1 (nI 1)), (22, z_goto 6), (25, z_aload 0 1), (26, z_callv 0 4 sp_X5_fillGaps), (29, z_aload 0 1), (30, z_callv 0 4 sp_X5_clearUpperEntries), (33, z_nf1 38), (36, z_ic (nI 0) 1), (37, z_iret), (38, z_aload 0 1), (39, z_callv 0 4 sp_X5_solveAccelerations), (42, z_ic (nI 1) 1), (43, z_iret)]
set_option maxRecDepth 100000 in
set_option maxHeartbeats 4000000 in
theorem sn_X5_forward {G : Geo} (hG : GeoOK G) (l : Launch) : ∀ q ∈ pr_X5_forward, Sn G l yX5_forward.cls cX5_forward 2 6 (some .int) q.1 q.2 :=
  fcs (zs_aload_n dX5_forward_0 rfl) <| fcs (zs_callv cls4 (by decide) (ct_X5_standAll hG l) mi_X5_standAll wv_X5_standAll we_X5_standAll (by decide) wm_X5_108 dX5_forward_1) <| fcs (zs_iconst dX5_forward_4 rfl) <| fcs (zs_istore_n dX5_forward_5 rfl (by decide)) <| fcs (zs_iload_n dX5_forward_6 rfl) <| fcs (zs_aload_n dX5_forward_7 rfl) <| fcs (zs_get cls4 (by decide) (by decide) wf_X5_16 dX5_forward_8) <| fcs (zs_icmp_gt dX5_forward_11 rfl) <| fcs (zs_aload_n dX5_forward_14 rfl) <| fcs (zs_iload_n dX5_forward_15 rfl) <| fcs (zs_callv cls4 (by decide) (ct_X5_fillColumn hG l) mi_X5_fillColumn wv_X5_fillColumn we_X5_fillColumn (by decide) wm_X5_115 dX5_forward_16) <| fcs (zs_iinc dX5_forward_19 rfl (by decide)) <| fcs (zs_goto dX5_forward_22 rfl) <| fcs (zs_aload_n dX5_forward_25 rfl) <| fcs (zs_callv cls4 (by decide) (ct_X5_fillGaps hG l) mi_X5_fillGaps wv_X5_fillGaps we_X5_fillGaps (by decide) wm_X5_119 dX5_forward_26) <| fcs (zs_aload_n dX5_forward_29 rfl) <| fcs (zs_callv cls4 (by decide) (ct_X5_clearUpperEntries hG l) mi_X5_clearUpperEntries wv_X5_clearUpperEntries we_X5_clearUpperEntries (by decide) wm_X5_122 dX5_forward_30) <| fcs (zs_if_ne dX5_forward_33 rfl) <| fcs (zs_iconst dX5_forward_36 rfl) <| fcs (zs_iret dX5_forward_37) <| fcs (zs_aload_n dX5_forward_38 rfl) <| fcs (zs_callv cls4 (by decide) (ct_X5_solveAccelerations hG l) mi_X5_solveAccelerations wv_X5_solveAccelerations we_X5_solveAccelerations (by decide) wm_X5_126 dX5_forward_39) <| fcs (zs_iconst dX5_forward_42 rfl) <| fcs (zs_iret dX5_forward_43) <| fnl
set_option maxRecDepth 100000 in
set_option maxHeartbeats 4000000 in
theorem ct_X5_forward {G : Geo} (hG : GeoOK G) (l : Launch) : Ct G l yX5_forward cX5_forward 2 (some .int) 6 sp_X5_forward := by
  refine Ct.of pr_X5_forward hG (by decide +kernel) (sn_X5_forward hG l) ?_
  intro av σ post hok h
  unfold sp_X5_forward at h
  split at h
  · rename_i b
    obtain ⟨hb, hI, h9⟩ := bif_t h
    clear h
    obtain rfl := is0_t hb
    refine ⟨Nat.le_of_ble_eq_true rfl, fun X hX => ?_⟩
    have h7 := hI.2.1
    have h0I : ∀ k, (upf c_col (c_std σ) k).2.2 = σ.2.2 := fun k => (upf_I c_col_I _ _).trans (c_std_I σ)
    have loop : ∀ (m k : Nat) (i : Int32), k + m = nn σ → i = nI (k + 1) → X 6 [(1, .inl i), (0, ar 0 0)] [] (upf c_col (c_std σ) k) := by
      intro m
      induction m with
      | zero =>
        intro k i hk hi
        subst hi
        have hI' := CI_of (h0I k) hI
        have hn := nn_of (h0I k)
        refine go hX [6] 60 ?_
        refine ⟨fun g1 => ?_, fun g1 => absurd (lp_t hI' (by omega) (by omega)) g1⟩
        have e : k = nn σ := by omega
        subst e
        refine ⟨hI', ?_⟩
        refine ⟨CI_of (c_sys_I σ) hI, ?_⟩
        have e1 : nn (c_gap (upf c_col (c_std σ) (nn σ))) = nn σ := nn_of (c_sys_I σ)
        rw [e1]
        have hf : c_fwb σ = (c_clr (nn σ) (c_gap (upf c_col (c_std σ) (nn σ)))).1 := rfl
        cases hB : c_fwb σ with
        | false =>
          rw [hB] at h9
          refine ⟨fun q => absurd (bz_f (hf.symm.trans hB)) q, fun q => ?_⟩
          exact h9
        | true =>
          rw [hB] at h9
          refine ⟨fun q => ?_, fun q => absurd q (bz_t (hf.symm.trans hB))⟩
          refine ⟨CI_of (c_fwd_I σ) hI, ?_⟩
          exact h9
      | succ m ih =>
        intro k i hk hi
        subst hi
        have hI' := CI_of (h0I k) hI
        have hn := nn_of (h0I k)
        refine go hX [6] 60 ?_
        refine ⟨fun g1 => absurd g1 (lp_f hI' (by omega)), fun g1 => ?_⟩
        refine ⟨hI', k + 1, rfl, by omega, ?_⟩
        exact ih (k + 1) _ (by omega) (nI_add _ _)
    refine go hX [6] 60 ?_
    refine ⟨hI, ?_⟩
    exact loop (nn σ) 0 _ (by omega) rfl
  · exact h.elim
