/-! LimbWorks: energy, where, weight, step -/
noncomputable def c_ene (σ : SS) : SS := c_ned (c_std σ) (70, 0) (14, 0) (11, 0)
def esum (s : SS) : Nat → ZF
  | 0 => 0
  | k + 1 => esum s k + s.2.1 11 0 (k + 1) * s.2.1 16 0 (k + 1)
noncomputable def sp_X5_energy : Spc := fun av σ post => match av with
  | [.inr (.inr b)] => bif is0 b then (CI σ ∧ post (some (ai (nI (esum (c_ene σ) (nn σ)).val))) (c_ene σ)) else False
  | _ => False
theorem dX5_energy_0 : decode cX5_energy 0 = .ok (.aload_n 0, 1) := by decide +kernel
theorem dX5_energy_1 : decode cX5_energy 1 = .ok (.invokevirtual 108, 3) := by decide +kernel
theorem dX5_energy_4 : decode cX5_energy 4 = .ok (.aload_n 0, 1) := by decide +kernel
theorem dX5_energy_5 : decode cX5_energy 5 = .ok (.aload_n 0, 1) := by decide +kernel
theorem dX5_energy_6 : decode cX5_energy 6 = .ok (.getfield 29, 3) := by decide +kernel
theorem dX5_energy_9 : decode cX5_energy 9 = .ok (.aload_n 0, 1) := by decide +kernel
theorem dX5_energy_10 : decode cX5_energy 10 = .ok (.getfield 45, 3) := by decide +kernel
theorem dX5_energy_13 : decode cX5_energy 13 = .ok (.aload_n 0, 1) := by decide +kernel
theorem dX5_energy_14 : decode cX5_energy 14 = .ok (.getfield 36, 3) := by decide +kernel
theorem dX5_energy_17 : decode cX5_energy 17 = .ok (.invokevirtual 111, 3) := by decide +kernel
theorem dX5_energy_20 : decode cX5_energy 20 = .ok (.lconst 0, 1) := by decide +kernel
theorem dX5_energy_21 : decode cX5_energy 21 = .ok (.lstore_n 1, 1) := by decide +kernel
theorem dX5_energy_22 : decode cX5_energy 22 = .ok (.iconst 1, 1) := by decide +kernel
theorem dX5_energy_23 : decode cX5_energy 23 = .ok (.istore_n 3, 1) := by decide +kernel
theorem dX5_energy_24 : decode cX5_energy 24 = .ok (.iload_n 3, 1) := by decide +kernel
theorem dX5_energy_25 : decode cX5_energy 25 = .ok (.aload_n 0, 1) := by decide +kernel
theorem dX5_energy_26 : decode cX5_energy 26 = .ok (.getfield 16, 3) := by decide +kernel
theorem dX5_energy_29 : decode cX5_energy 29 = .ok (.if_icmp .gt 29, 3) := by decide +kernel
theorem dX5_energy_32 : decode cX5_energy 32 = .ok (.lload_n 1, 1) := by decide +kernel
theorem dX5_energy_33 : decode cX5_energy 33 = .ok (.aload_n 0, 1) := by decide +kernel
theorem dX5_energy_34 : decode cX5_energy 34 = .ok (.getfield 36, 3) := by decide +kernel
theorem dX5_energy_37 : decode cX5_energy 37 = .ok (.iload_n 3, 1) := by decide +kernel
theorem dX5_energy_38 : decode cX5_energy 38 = .ok (.laload, 1) := by decide +kernel
theorem dX5_energy_39 : decode cX5_energy 39 = .ok (.aload_n 0, 1) := by decide +kernel
theorem dX5_energy_40 : decode cX5_energy 40 = .ok (.getfield 51, 3) := by decide +kernel
theorem dX5_energy_43 : decode cX5_energy 43 = .ok (.iload_n 3, 1) := by decide +kernel
theorem dX5_energy_44 : decode cX5_energy 44 = .ok (.laload, 1) := by decide +kernel
theorem dX5_energy_45 : decode cX5_energy 45 = .ok (.invokestatic 129, 3) := by decide +kernel
theorem dX5_energy_48 : decode cX5_energy 48 = .ok (.invokestatic 133, 3) := by decide +kernel
theorem dX5_energy_51 : decode cX5_energy 51 = .ok (.lstore_n 1, 1) := by decide +kernel
theorem dX5_energy_52 : decode cX5_energy 52 = .ok (.iinc 3 1, 3) := by decide +kernel
theorem dX5_energy_55 : decode cX5_energy 55 = .ok (.goto (-31), 3) := by decide +kernel
theorem dX5_energy_58 : decode cX5_energy 58 = .ok (.lload_n 1, 1) := by decide +kernel
theorem dX5_energy_59 : decode cX5_energy 59 = .ok (.l2i, 1) := by decide +kernel
theorem dX5_energy_60 : decode cX5_energy 60 = .ok (.ireturn, 1) := by decide +kernel
theorem wm_X5_129 : Cond.methodLink RX5 129 yX1_times ∈ ltb := List.mem_filter.mpr ⟨List.mem_append_right _ (List.mem_of_getElem? (i := 423) (by decide +kernel)), by decide +kernel⟩
theorem wm_X5_133 : Cond.methodLink RX5 133 yX1_plus ∈ ltb := List.mem_filter.mpr ⟨List.mem_append_right _ (List.mem_of_getElem? (i := 440) (by decide +kernel)), by decide +kernel⟩
noncomputable def pr_X5_energy : Prg := [(0, z_aload 0 1), (1, z_callv 0 4 sp_X5_standAll), (4, z_aload 0 1), (5, z_aload 0 1), (6, z_get 4 3), (9, z_aload 0 1), (10, z_get 4 8), (13, z_aload 0 1), (14, z_get 4 5), (17, z_callv 3 4 sp_X5_findNeeded), (20, z_lc (.inr 0) 1), (21, z_lstore 1 1), (22, z_ic (nI 1) 1), (23, z_istore 3 1), (24, z_iload 3 1), (25, z_aload 0 1), (26, z_get 4 1), (29, z_if2 (fun x y => y < x) 58), (32, z_lload 1 1), (33, z_aload 0 1), (34, z_get 4 5), (37, z_iload 3 1), (38, z_laload), (39, z_aload 0 1), (40, z_get 4 10), (43, z_iload 3 1), (44, z_laload), (45, z_call 2 sp_X1_times), (48, z_call 2 sp_X1_plus), (51, z_lstore 1 1), (52, z_iinc 3 (nI 1)), (55, z_goto 24), (58, z_lload 1 1), (59, z_l2i), (60, z_iret)]
set_option maxRecDepth 100000 in
set_option maxHeartbeats 4000000 in
theorem sn_X5_energy {G : Geo} (hG : GeoOK G) (l : Launch) : ∀ q ∈ pr_X5_energy, Sn G l yX5_energy.cls cX5_energy 4 6 (some .int) q.1 q.2 :=
  fcs (zs_aload_n dX5_energy_0 rfl) <| fcs (zs_callv cls4 (by decide) (ct_X5_standAll hG l) mi_X5_standAll wv_X5_standAll we_X5_standAll (by decide) wm_X5_108 dX5_energy_1) <| fcs (zs_aload_n dX5_energy_4 rfl) <| fcs (zs_aload_n dX5_energy_5 rfl) <| fcs (zs_get cls4 (by decide) (by decide) wf_X5_29 dX5_energy_6) <| fcs (zs_aload_n dX5_energy_9 rfl) <| fcs (zs_get cls4 (by decide) (by decide) wf_X5_45 dX5_energy_10) <| fcs (zs_aload_n dX5_energy_13 rfl) <| fcs (zs_get cls4 (by decide) (by decide) wf_X5_36 dX5_energy_14) <| fcs (zs_callv cls4 (by decide) (ct_X5_findNeeded hG l) mi_X5_findNeeded wv_X5_findNeeded we_X5_findNeeded (by decide) wm_X5_111 dX5_energy_17) <| fcs (zs_lconst dX5_energy_20 rfl) <| fcs (zs_lstore_n dX5_energy_21 rfl (by decide)) <| fcs (zs_iconst dX5_energy_22 rfl) <| fcs (zs_istore_n dX5_energy_23 rfl (by decide)) <| fcs (zs_iload_n dX5_energy_24 rfl) <| fcs (zs_aload_n dX5_energy_25 rfl) <| fcs (zs_get cls4 (by decide) (by decide) wf_X5_16 dX5_energy_26) <| fcs (zs_icmp_gt dX5_energy_29 rfl) <| fcs (zs_lload_n dX5_energy_32 rfl) <| fcs (zs_aload_n dX5_energy_33 rfl) <| fcs (zs_get cls4 (by decide) (by decide) wf_X5_36 dX5_energy_34) <| fcs (zs_iload_n dX5_energy_37 rfl) <| fcs (zs_laload dX5_energy_38) <| fcs (zs_aload_n dX5_energy_39 rfl) <| fcs (zs_get cls4 (by decide) (by decide) wf_X5_51 dX5_energy_40) <| fcs (zs_iload_n dX5_energy_43 rfl) <| fcs (zs_laload dX5_energy_44) <| fcs (zs_calls (ct_X1_times hG l) mi_X1_times ws_X1_times (by decide) wm_X5_129 dX5_energy_45) <| fcs (zs_calls (ct_X1_plus hG l) mi_X1_plus ws_X1_plus (by decide) wm_X5_133 dX5_energy_48) <| fcs (zs_lstore_n dX5_energy_51 rfl (by decide)) <| fcs (zs_iinc dX5_energy_52 rfl (by decide)) <| fcs (zs_goto dX5_energy_55 rfl) <| fcs (zs_lload_n dX5_energy_58 rfl) <| fcs (zs_l2i dX5_energy_59) <| fcs (zs_iret dX5_energy_60) <| fnl
set_option maxRecDepth 100000 in
set_option maxHeartbeats 4000000 in
theorem ct_X5_energy {G : Geo} (hG : GeoOK G) (l : Launch) : Ct G l yX5_energy cX5_energy 4 (some .int) 6 sp_X5_energy := by
  refine Ct.of pr_X5_energy hG (by decide +kernel) (sn_X5_energy hG l) ?_
  intro av σ post hok h
  unfold sp_X5_energy at h
  split at h
  · rename_i b
    obtain ⟨hb, hI, h9⟩ := bif_t h
    clear h
    obtain rfl := is0_t hb
    refine ⟨Nat.le_of_ble_eq_true rfl, fun X hX => ?_⟩
    have h7 := hI.2.1
    have hE : (c_ene σ).2.2 = σ.2.2 := (c_ned_I _ _ _ _).trans (c_std_I σ)
    have hI' := CI_of hE hI
    have hn := nn_of hE
    rw [← l2i_em] at h9
    have loop : ∀ (m k : Nat) (i : Int32), k + m = nn σ → i = nI (k + 1) → X 24 [(3, .inl i), (1, af (esum (c_ene σ) k)), (0, ar 0 0)] [] (c_ene σ) := by
      intro m
      induction m with
      | zero =>
        intro k i hk hi
        subst hi
        refine go hX [24] 60 ?_
        refine ⟨fun g1 => ?_, fun g1 => absurd (lp_t hI' (by omega) (by omega)) g1⟩
        have e : k = nn σ := by omega
        subst e
        exact h9
      | succ m ih =>
        intro k i hk hi
        subst hi
        refine go hX [24] 60 ?_
        refine ⟨fun g1 => absurd g1 (lp_f hI' (by omega)), fun g1 => ?_⟩
        refine ⟨⟨nle rfl, nle rfl⟩, k + 1, rfl, by show k + 1 < 8; omega, ?_⟩
        refine ⟨⟨nle rfl, nle rfl⟩, k + 1, rfl, by show k + 1 < 8; omega, ?_⟩
        exact ih (k + 1) _ (by omega) (nI_add _ _)
    refine go hX [24] 60 ?_
    refine ⟨hI, ?_⟩
    refine ⟨CI_of (c_std_I σ) hI, ?_⟩
    exact loop (nn σ) 0 _ (by omega) rfl
  · exact h.elim
/-- where: which vector, which part -/
def wvk (w : Nat) : Nat := if w / 3 = 0 then 59 else if w / 3 = 1 then 62 else 57
def wok (w : Int32) : Bool := decide (¬ w < 0) && decide (¬ nI 8 < w)
def wan (s : SS) (k w : Nat) : ZF := v_prt (s.1 (wvk w) k) (nI (w % 3))
theorem wok_k {w : Int32} (h : wok w = true) : ∃ j, j ≤ 8 ∧ w = nI j := by
  unfold wok at h
  rw [Bool.and_eq_true, decide_eq_true_iff, decide_eq_true_iff] at h
  obtain ⟨j, hj, rfl⟩ := nI_of h.1
  have h2 := h.2
  rw [nI_ltI (by decide) hj] at h2
  exact ⟨j, by omega, rfl⟩
noncomputable def sp_X5_where : Spc := fun av σ post => match av with
  | [.inr (.inr b), .inl x, .inl w] => bif is0 b then (CI σ ∧ post (some (ai (bif bt σ x && wok w then nI (wan (c_std σ) (ix x) (ix w)).val else (-1)))) (bif bt σ x && wok w then c_std σ else σ)) else False
  | _ => False
theorem dX5_where_0 : decode cX5_where 0 = .ok (.aload_n 0, 1) := by decide +kernel
theorem dX5_where_1 : decode cX5_where 1 = .ok (.iload_n 1, 1) := by decide +kernel
theorem dX5_where_2 : decode cX5_where 2 = .ok (.invokevirtual 69, 3) := by decide +kernel
theorem dX5_where_5 : decode cX5_where 5 = .ok (.ifCond .eq 13, 3) := by decide +kernel
theorem dX5_where_8 : decode cX5_where 8 = .ok (.iload_n 2, 1) := by decide +kernel
theorem dX5_where_9 : decode cX5_where 9 = .ok (.ifCond .lt 9, 3) := by decide +kernel
theorem dX5_where_12 : decode cX5_where 12 = .ok (.iload_n 2, 1) := by decide +kernel
theorem dX5_where_13 : decode cX5_where 13 = .ok (.bipush 8, 2) := by decide +kernel
theorem dX5_where_15 : decode cX5_where 15 = .ok (.if_icmp .le 5, 3) := by decide +kernel
theorem dX5_where_18 : decode cX5_where 18 = .ok (.iconst (-1), 1) := by decide +kernel
theorem dX5_where_19 : decode cX5_where 19 = .ok (.ireturn, 1) := by decide +kernel
theorem dX5_where_20 : decode cX5_where 20 = .ok (.aload_n 0, 1) := by decide +kernel
theorem dX5_where_21 : decode cX5_where 21 = .ok (.invokevirtual 108, 3) := by decide +kernel
theorem dX5_where_24 : decode cX5_where 24 = .ok (.aload_n 0, 1) := by decide +kernel
theorem dX5_where_25 : decode cX5_where 25 = .ok (.getfield 11, 3) := by decide +kernel
theorem dX5_where_28 : decode cX5_where 28 = .ok (.iload_n 1, 1) := by decide +kernel
theorem dX5_where_29 : decode cX5_where 29 = .ok (.aaload, 1) := by decide +kernel
theorem dX5_where_30 : decode cX5_where 30 = .ok (.iload_n 2, 1) := by decide +kernel
theorem dX5_where_31 : decode cX5_where 31 = .ok (.iconst 3, 1) := by decide +kernel
theorem dX5_where_32 : decode cX5_where 32 = .ok (.idiv, 1) := by decide +kernel
theorem dX5_where_33 : decode cX5_where 33 = .ok (.invokevirtual 136, 3) := by decide +kernel
theorem dX5_where_36 : decode cX5_where 36 = .ok (.iload_n 2, 1) := by decide +kernel
theorem dX5_where_37 : decode cX5_where 37 = .ok (.iconst 3, 1) := by decide +kernel
theorem dX5_where_38 : decode cX5_where 38 = .ok (.irem, 1) := by decide +kernel
theorem dX5_where_39 : decode cX5_where 39 = .ok (.invokevirtual 140, 3) := by decide +kernel
theorem dX5_where_42 : decode cX5_where 42 = .ok (.l2i, 1) := by decide +kernel
theorem dX5_where_43 : decode cX5_where 43 = .ok (.ireturn, 1) := by decide +kernel
theorem wc_X0_answerVector : Cond.code yX0_answerVector cX0_answerVector 2 (some (.object "LimbWorks$Vector")) ∈ ltb := List.mem_filter.mpr ⟨List.mem_append_right _ (List.mem_of_getElem? (i := 448) (by decide +kernel)), by decide +kernel⟩
theorem mi_X0_answerVector : Mi yX0_answerVector RX0 1 cX0_answerVector 2 (some (.object "LimbWorks$Vector")) := ⟨by decide +kernel, wc_X0_answerVector, wi_X0, by decide⟩
theorem wv_X0_answerVector : Cond.instanceMethod yX0_answerVector ∈ ltb := List.mem_filter.mpr ⟨List.mem_append_right _ (List.mem_of_getElem? (i := 446) (by decide +kernel)), by decide +kernel⟩
theorem we_X0_answerVector : Cond.selects RX0 yX0_answerVector yX0_answerVector ∈ ltb := List.mem_filter.mpr ⟨List.mem_append_right _ (List.mem_of_getElem? (i := 447) (by decide +kernel)), by decide +kernel⟩
theorem wm_X5_136 : Cond.methodLink RX5 136 yX0_answerVector ∈ ltb := List.mem_filter.mpr ⟨List.mem_append_right _ (List.mem_of_getElem? (i := 445) (by decide +kernel)), by decide +kernel⟩
theorem wc_X4_part : Cond.code yX4_part cX4_part 2 (some .long) ∈ ltb := List.mem_filter.mpr ⟨List.mem_append_right _ (List.mem_of_getElem? (i := 452) (by decide +kernel)), by decide +kernel⟩
theorem mi_X4_part : Mi yX4_part RX4 1 cX4_part 2 (some .long) := ⟨by decide +kernel, wc_X4_part, wi_X4, by decide⟩
theorem wv_X4_part : Cond.instanceMethod yX4_part ∈ ltb := List.mem_filter.mpr ⟨List.mem_append_right _ (List.mem_of_getElem? (i := 450) (by decide +kernel)), by decide +kernel⟩
theorem we_X4_part : Cond.selects RX4 yX4_part yX4_part ∈ ltb := List.mem_filter.mpr ⟨List.mem_append_right _ (List.mem_of_getElem? (i := 451) (by decide +kernel)), by decide +kernel⟩
theorem wm_X5_140 : Cond.methodLink RX5 140 yX4_part ∈ ltb := List.mem_filter.mpr ⟨List.mem_append_right _ (List.mem_of_getElem? (i := 449) (by decide +kernel)), by decide +kernel⟩
noncomputable def pr_X5_where : Prg := [(0, z_aload 0 1), (1, z_iload 1 1), (2, z_callv 1 4 sp_X5_isThere), (5, z_if1 (fun x => x = 0) 18), (8, z_iload 2 1), (9, z_if1 (fun x => x < 0) 18), (12, z_iload 2 1), (13, z_ic (nI 8) 2), (15, z_if2 (fun x y => x ≤ y) 20), (18, z_ic (-1) 1), (19, z_iret), (20, z_aload 0 1), (21, z_callv 0 4 sp_X5_standAll), (24, z_aload 0 1), (25, z_get 4 0), (28, z_iload 1 1), (29, z_aaload), (30, z_iload 2 1), (31, z_ic (nI 3) 1), (32, z_idiv), (33, z_callv 1 0 sp_X0_answerVector), (36, z_iload 2 1), (37, z_ic (nI 3) 1), (38, z_irem), (39, z_callv 1 3 sp_X4_part), (42, z_l2i), (43, z_iret)]
set_option maxRecDepth 100000 in
set_option maxHeartbeats 4000000 in
theorem sn_X5_where {G : Geo} (hG : GeoOK G) (l : Launch) : ∀ q ∈ pr_X5_where, Sn G l yX5_where.cls cX5_where 3 6 (some .int) q.1 q.2 :=
  fcs (zs_aload_n dX5_where_0 rfl) <| fcs (zs_iload_n dX5_where_1 rfl) <| fcs (zs_callv cls4 (by decide) (ct_X5_isThere hG l) mi_X5_isThere wv_X5_isThere we_X5_isThere (by decide) wm_X5_69 dX5_where_2) <| fcs (zs_if_eq dX5_where_5 rfl) <| fcs (zs_iload_n dX5_where_8 rfl) <| fcs (zs_if_lt dX5_where_9 rfl) <| fcs (zs_iload_n dX5_where_12 rfl) <| fcs (zs_bipush dX5_where_13 rfl) <| fcs (zs_icmp_le dX5_where_15 rfl) <| fcs (zs_iconst dX5_where_18 rfl) <| fcs (zs_iret dX5_where_19) <| fcs (zs_aload_n dX5_where_20 rfl) <| fcs (zs_callv cls4 (by decide) (ct_X5_standAll hG l) mi_X5_standAll wv_X5_standAll we_X5_standAll (by decide) wm_X5_108 dX5_where_21) <| fcs (zs_aload_n dX5_where_24 rfl) <| fcs (zs_get cls4 (by decide) (by decide) wf_X5_11 dX5_where_25) <| fcs (zs_iload_n dX5_where_28 rfl) <| fcs (zs_aaload dX5_where_29) <| fcs (zs_iload_n dX5_where_30 rfl) <| fcs (zs_iconst dX5_where_31 rfl) <| fcs (zs_idiv dX5_where_32) <| fcs (zs_callv cls0 (by decide) (ct_X0_answerVector hG l) mi_X0_answerVector wv_X0_answerVector we_X0_answerVector (by decide) wm_X5_136 dX5_where_33) <| fcs (zs_iload_n dX5_where_36 rfl) <| fcs (zs_iconst dX5_where_37 rfl) <| fcs (zs_irem dX5_where_38) <| fcs (zs_callv cls3 (by decide) (ct_X4_part hG l) mi_X4_part wv_X4_part we_X4_part (by decide) wm_X5_140 dX5_where_39) <| fcs (zs_l2i dX5_where_42) <| fcs (zs_iret dX5_where_43) <| fnl
set_option maxRecDepth 100000 in
set_option maxHeartbeats 4000000 in
theorem ct_X5_where {G : Geo} (hG : GeoOK G) (l : Launch) : Ct G l yX5_where cX5_where 3 (some .int) 6 sp_X5_where := by
  refine Ct.of pr_X5_where hG (by decide +kernel) (sn_X5_where hG l) ?_
  intro av σ post hok h
  unfold sp_X5_where at h
  split at h
  · rename_i b x w
    obtain ⟨hb, hI, h9⟩ := bif_t h
    clear h
    obtain rfl := is0_t hb
    have h := h9
    refine ⟨Nat.le_of_ble_eq_true rfl, fun X hX => ?_⟩
    refine go hX [] 60 ?_
    cases hB : bt σ x with
    | false =>
      rw [hB, Bool.false_and] at h
      refine ⟨fun g => ?_, fun g => absurd (bz_f hB) g⟩
      exact h
    | true =>
      rw [hB, Bool.true_and] at h
      obtain ⟨k, h1, h2, rfl⟩ := bt_k hI hB
      have h7 := hI.2.1
      refine ⟨fun g => absurd g (bz_t hB), fun g => ⟨fun g1 => ?_, fun g1 => ⟨fun g2 => ?_, fun g2 => ?_⟩⟩⟩
      · have e : wok w = false := by unfold wok; rw [decide_eq_false (fun q => q g1)]; rfl
        rw [e] at h
        exact h
      · have hw : wok w = true := by
          unfold wok
          rw [decide_eq_true g1, decide_eq_true]
          · rfl
          · have g2 : w ≤ nI 8 := g2
            exact Int32.not_lt.mpr g2
        rw [hw] at h
        obtain ⟨j, hj, rfl⟩ := wok_k hw
        dsimp only [cond] at h
        rw [ix_k (show k < 8 by omega), show ix (nI j) = j from nI_clamp (by omega), ← l2i_em] at h
        have hd : nI j / nI 3 = nI (j / 3) := pk_div (by omega) (by decide) (by decide)
        have hr : nI j - nI j / nI 3 * nI 3 = nI (j % 3) := pk_rem (by omega) (by decide) (by decide)
        unfold wan wvk at h
        refine ⟨hI, ?_⟩
        refine ⟨k, rfl, by omega, ?_⟩
        refine ⟨by decide, ?_⟩
        refine ⟨fun q1 => ?_, fun q1 q2 => ?_, fun q1 q2 => ?_⟩
        · have q1 : nI j / nI 3 = nI 0 := q1
          rw [hd, nI_eq (by omega) (by decide)] at q1
          rw [if_pos q1] at h
          refine ⟨by decide, ?_⟩
          rw [← hr] at h
          exact h
        · have q1 : ¬ nI j / nI 3 = nI 0 := q1
          have q2 : nI j / nI 3 = nI 1 := q2
          rw [hd, nI_eq (by omega) (by decide)] at q1 q2
          rw [if_neg q1, if_pos q2] at h
          refine ⟨by decide, ?_⟩
          rw [← hr] at h
          exact h
        · have q1 : ¬ nI j / nI 3 = nI 0 := q1
          have q2 : ¬ nI j / nI 3 = nI 1 := q2
          rw [hd, nI_eq (by omega) (by decide)] at q1 q2
          rw [if_neg q1, if_neg q2] at h
          refine ⟨by decide, ?_⟩
          rw [← hr] at h
          exact h
      · have e : wok w = false := by
          unfold wok
          have g2 : ¬ w ≤ nI 8 := g2
          rw [decide_eq_false (show ¬ ¬ nI 8 < w from fun q => q (Int32.not_le.mp g2)), Bool.and_false]
        rw [e] at h
        exact h
  · exact h.elim
def aok (w : Int32) : Bool := decide (¬ w < 0) && decide (¬ nI 3 < w)
def wfa (s : SS) (w : Int32) (k : Nat) : ZF := if w = nI 3 then 1 else v_prt (s.1 62 k) w
def wsum (s : SS) (w : Int32) : Nat → ZF
  | 0 => 0
  | k + 1 => wsum s w k + s.2.1 2 (k + 1) 1 * wfa s w (k + 1)
noncomputable def sp_X5_weight : Spc := fun av σ post => match av with
  | [.inr (.inr b), .inl w] => bif is0 b then (CI σ ∧ post (some (ai (bif aok w then nI (wsum (c_std σ) w (nn σ)).val else (-1)))) (bif aok w then c_std σ else σ)) else False
  | _ => False
theorem dX5_weight_0 : decode cX5_weight 0 = .ok (.iload_n 1, 1) := by decide +kernel
theorem dX5_weight_1 : decode cX5_weight 1 = .ok (.ifCond .lt 8, 3) := by decide +kernel
theorem dX5_weight_4 : decode cX5_weight 4 = .ok (.iload_n 1, 1) := by decide +kernel
theorem dX5_weight_5 : decode cX5_weight 5 = .ok (.iconst 3, 1) := by decide +kernel
theorem dX5_weight_6 : decode cX5_weight 6 = .ok (.if_icmp .le 5, 3) := by decide +kernel
theorem dX5_weight_9 : decode cX5_weight 9 = .ok (.iconst (-1), 1) := by decide +kernel
theorem dX5_weight_10 : decode cX5_weight 10 = .ok (.ireturn, 1) := by decide +kernel
theorem dX5_weight_11 : decode cX5_weight 11 = .ok (.aload_n 0, 1) := by decide +kernel
theorem dX5_weight_12 : decode cX5_weight 12 = .ok (.invokevirtual 108, 3) := by decide +kernel
theorem dX5_weight_15 : decode cX5_weight 15 = .ok (.lconst 0, 1) := by decide +kernel
theorem dX5_weight_16 : decode cX5_weight 16 = .ok (.lstore_n 2, 1) := by decide +kernel
theorem dX5_weight_17 : decode cX5_weight 17 = .ok (.iconst 1, 1) := by decide +kernel
theorem dX5_weight_18 : decode cX5_weight 18 = .ok (.istore 4, 2) := by decide +kernel
theorem dX5_weight_20 : decode cX5_weight 20 = .ok (.iload 4, 2) := by decide +kernel
theorem dX5_weight_22 : decode cX5_weight 22 = .ok (.aload_n 0, 1) := by decide +kernel
theorem dX5_weight_23 : decode cX5_weight 23 = .ok (.getfield 16, 3) := by decide +kernel
theorem dX5_weight_26 : decode cX5_weight 26 = .ok (.if_icmp .gt 54, 3) := by decide +kernel
theorem dX5_weight_29 : decode cX5_weight 29 = .ok (.iload_n 1, 1) := by decide +kernel
theorem dX5_weight_30 : decode cX5_weight 30 = .ok (.iconst 3, 1) := by decide +kernel
theorem dX5_weight_31 : decode cX5_weight 31 = .ok (.if_icmp .ne 7, 3) := by decide +kernel
theorem dX5_weight_34 : decode cX5_weight 34 = .ok (.lconst 1, 1) := by decide +kernel
theorem dX5_weight_35 : decode cX5_weight 35 = .ok (.goto 17, 3) := by decide +kernel
theorem dX5_weight_38 : decode cX5_weight 38 = .ok (.aload_n 0, 1) := by decide +kernel
theorem dX5_weight_39 : decode cX5_weight 39 = .ok (.getfield 11, 3) := by decide +kernel
theorem dX5_weight_42 : decode cX5_weight 42 = .ok (.iload 4, 2) := by decide +kernel
theorem dX5_weight_44 : decode cX5_weight 44 = .ok (.aaload, 1) := by decide +kernel
theorem dX5_weight_45 : decode cX5_weight 45 = .ok (.getfield 143, 3) := by decide +kernel
theorem dX5_weight_48 : decode cX5_weight 48 = .ok (.iload_n 1, 1) := by decide +kernel
theorem dX5_weight_49 : decode cX5_weight 49 = .ok (.invokevirtual 140, 3) := by decide +kernel
theorem dX5_weight_52 : decode cX5_weight 52 = .ok (.lstore 5, 2) := by decide +kernel
theorem dX5_weight_54 : decode cX5_weight 54 = .ok (.lload_n 2, 1) := by decide +kernel
theorem dX5_weight_55 : decode cX5_weight 55 = .ok (.aload_n 0, 1) := by decide +kernel
theorem dX5_weight_56 : decode cX5_weight 56 = .ok (.getfield 11, 3) := by decide +kernel
theorem dX5_weight_59 : decode cX5_weight 59 = .ok (.iload 4, 2) := by decide +kernel
theorem dX5_weight_61 : decode cX5_weight 61 = .ok (.aaload, 1) := by decide +kernel
theorem dX5_weight_62 : decode cX5_weight 62 = .ok (.getfield 90, 3) := by decide +kernel
theorem dX5_weight_65 : decode cX5_weight 65 = .ok (.lload 5, 2) := by decide +kernel
theorem dX5_weight_67 : decode cX5_weight 67 = .ok (.invokestatic 129, 3) := by decide +kernel
theorem dX5_weight_70 : decode cX5_weight 70 = .ok (.invokestatic 133, 3) := by decide +kernel
theorem dX5_weight_73 : decode cX5_weight 73 = .ok (.lstore_n 2, 1) := by decide +kernel
theorem dX5_weight_74 : decode cX5_weight 74 = .ok (.iinc 4 1, 3) := by decide +kernel
theorem dX5_weight_77 : decode cX5_weight 77 = .ok (.goto (-57), 3) := by decide +kernel
theorem dX5_weight_80 : decode cX5_weight 80 = .ok (.lload_n 2, 1) := by decide +kernel
theorem dX5_weight_81 : decode cX5_weight 81 = .ok (.l2i, 1) := by decide +kernel
theorem dX5_weight_82 : decode cX5_weight 82 = .ok (.ireturn, 1) := by decide +kernel
theorem wf_X5_143 : Cond.fieldLink RX5 143 (TX0 11).1 (TX0 11).2.1 (TX0 11).2.2.1 ∈ ltb := List.mem_filter.mpr ⟨List.mem_append_right _ (List.mem_of_getElem? (i := 104) (by decide +kernel)), by decide +kernel⟩
noncomputable def pr_X5_weight : Prg := [(0, z_iload 1 1), (1, z_if1 (fun x => x < 0) 9), (4, z_iload 1 1), (5, z_ic (nI 3) 1), (6, z_if2 (fun x y => x ≤ y) 11), (9, z_ic (-1) 1), (10, z_iret), (11, z_aload 0 1), (12, z_callv 0 4 sp_X5_standAll), (15, z_lc (.inr 0) 1), (16, z_lstore 2 1), (17, z_ic (nI 1) 1), (18, z_istore 4 2), (20, z_iload 4 2), (22, z_aload 0 1), (23, z_get 4 1), (26, z_if2 (fun x y => y < x) 80), (29, z_iload 1 1), (30, z_ic (nI 3) 1), (31, z_nf2 38), (34, z_lc (.inr 1) 1), (35, z_goto 52), (38, z_aload 0 1), (39, z_get 4 0), (42, z_iload 4 2), (44, z_aaload), (45, z_get 0 11), (48, z_iload 1 1), (49, z_callv 1 3 sp_X4_part), (52, z_lstore 5 2), (54, z_lload 2 1), (55, z_aload 0 1), (56, z_get 4 0), (59, z_iload 4 2), (61, z_aaload), (62, z_get 0 4), (65, z_lload 5 2), (67, z_call 2 sp_X1_times), (70, z_call 2 sp_X1_plus), (73, z_lstore 2 1), (74, z_iinc 4 (nI 1)), (77, z_goto 20), (80, z_lload 2 1), (81, z_l2i), (82, z_iret)]
set_option maxRecDepth 100000 in
set_option maxHeartbeats 4000000 in
theorem sn_X5_weight {G : Geo} (hG : GeoOK G) (l : Launch) : ∀ q ∈ pr_X5_weight, Sn G l yX5_weight.cls cX5_weight 7 6 (some .int) q.1 q.2 :=
  fcs (zs_iload_n dX5_weight_0 rfl) <| fcs (zs_if_lt dX5_weight_1 rfl) <| fcs (zs_iload_n dX5_weight_4 rfl) <| fcs (zs_iconst dX5_weight_5 rfl) <| fcs (zs_icmp_le dX5_weight_6 rfl) <| fcs (zs_iconst dX5_weight_9 rfl) <| fcs (zs_iret dX5_weight_10) <| fcs (zs_aload_n dX5_weight_11 rfl) <| fcs (zs_callv cls4 (by decide) (ct_X5_standAll hG l) mi_X5_standAll wv_X5_standAll we_X5_standAll (by decide) wm_X5_108 dX5_weight_12) <| fcs (zs_lconst dX5_weight_15 rfl) <| fcs (zs_lstore_n dX5_weight_16 rfl (by decide)) <| fcs (zs_iconst dX5_weight_17 rfl) <| fcs (zs_istore dX5_weight_18 (by decide)) <| fcs (zs_iload dX5_weight_20) <| fcs (zs_aload_n dX5_weight_22 rfl) <| fcs (zs_get cls4 (by decide) (by decide) wf_X5_16 dX5_weight_23) <| fcs (zs_icmp_gt dX5_weight_26 rfl) <| fcs (zs_iload_n dX5_weight_29 rfl) <| fcs (zs_iconst dX5_weight_30 rfl) <| fcs (zs_icmp_ne dX5_weight_31 rfl) <| fcs (zs_lconst dX5_weight_34 rfl) <| fcs (zs_goto dX5_weight_35 rfl) <| fcs (zs_aload_n dX5_weight_38 rfl) <| fcs (zs_get cls4 (by decide) (by decide) wf_X5_11 dX5_weight_39) <| fcs (zs_iload dX5_weight_42) <| fcs (zs_aaload dX5_weight_44) <| fcs (zs_get cls0 (by decide) (by decide) wf_X5_143 dX5_weight_45) <| fcs (zs_iload_n dX5_weight_48 rfl) <| fcs (zs_callv cls3 (by decide) (ct_X4_part hG l) mi_X4_part wv_X4_part we_X4_part (by decide) wm_X5_140 dX5_weight_49) <| fcs (zs_lstore dX5_weight_52 (by decide)) <| fcs (zs_lload_n dX5_weight_54 rfl) <| fcs (zs_aload_n dX5_weight_55 rfl) <| fcs (zs_get cls4 (by decide) (by decide) wf_X5_11 dX5_weight_56) <| fcs (zs_iload dX5_weight_59) <| fcs (zs_aaload dX5_weight_61) <| fcs (zs_get cls0 (by decide) (by decide) wf_X5_90 dX5_weight_62) <| fcs (zs_lload dX5_weight_65) <| fcs (zs_calls (ct_X1_times hG l) mi_X1_times ws_X1_times (by decide) wm_X5_129 dX5_weight_67) <| fcs (zs_calls (ct_X1_plus hG l) mi_X1_plus ws_X1_plus (by decide) wm_X5_133 dX5_weight_70) <| fcs (zs_lstore_n dX5_weight_73 rfl (by decide)) <| fcs (zs_iinc dX5_weight_74 rfl (by decide)) <| fcs (zs_goto dX5_weight_77 rfl) <| fcs (zs_lload_n dX5_weight_80 rfl) <| fcs (zs_l2i dX5_weight_81) <| fcs (zs_iret dX5_weight_82) <| fnl
set_option maxRecDepth 100000 in
set_option maxHeartbeats 4000000 in
theorem ct_X5_weight {G : Geo} (hG : GeoOK G) (l : Launch) : Ct G l yX5_weight cX5_weight 7 (some .int) 6 sp_X5_weight := by
  refine Ct.of pr_X5_weight hG (by decide +kernel) (sn_X5_weight hG l) ?_
  intro av σ post hok h
  unfold sp_X5_weight at h
  split at h
  · rename_i b w
    obtain ⟨hb, hI, h9⟩ := bif_t h
    clear h
    obtain rfl := is0_t hb
    have h := h9
    refine ⟨Nat.le_of_ble_eq_true rfl, fun X hX => ?_⟩
    have h7 := hI.2.1
    have hI' := CI_of (c_std_I σ) hI
    have hn := nn_of (c_std_I σ)
    refine go hX [20] 60 ?_
    refine ⟨fun g1 => ?_, fun g1 => ⟨fun g2 => ?_, fun g2 => ?_⟩⟩
    · have e : aok w = false := by unfold aok; rw [decide_eq_false (fun q => q g1)]; rfl
      rw [e] at h
      exact h
    · have g2 : w ≤ nI 3 := g2
      have hw : aok w = true := by
        unfold aok
        rw [decide_eq_true g1, decide_eq_true (Int32.not_lt.mpr g2)]
        rfl
      rw [hw] at h
      dsimp only [cond] at h
      rw [← l2i_em] at h
      have loop : ∀ (m k : Nat) (i : Int32), k + m = nn σ → i = nI (k + 1) → X 20 [(4, .inl i), (2, af (wsum (c_std σ) w k)), (0, ar 0 0), (1, .inl w)] [] (c_std σ) := by
        intro m
        induction m with
        | zero =>
          intro k i hk hi
          subst hi
          refine go hX [20] 60 ?_
          refine ⟨fun g1 => ?_, fun g1 => absurd (lp_t hI' (by omega) (by omega)) g1⟩
          have e : k = nn σ := by omega
          subst e
          exact h
        | succ m ih =>
          intro k i hk hi
          subst hi
          refine go hX [20] 60 ?_
          refine ⟨fun g1 => absurd g1 (lp_f hI' (by omega)), fun g1 => ⟨fun q1 => ?_, fun q1 => ?_⟩⟩
          · refine ⟨k + 1, rfl, by omega, ?_⟩
            refine ⟨k + 1, rfl, by omega, ?_⟩
            have ih2 := ih (k + 1) _ (by omega) (nI_add (k + 1) 1)
            unfold wsum wfa at ih2
            rw [if_neg (show ¬ w = nI 3 from q1)] at ih2
            refine wk hX ih2 ?_
            exact ⟨⟨_, rfl, Or.inl rfl⟩, ⟨_, rfl, Or.inl rfl⟩, ⟨_, rfl, Or.inl rfl⟩, ⟨_, rfl, Or.inl rfl⟩, trivial⟩
          · refine ⟨k + 1, rfl, by omega, ?_⟩
            have ih2 := ih (k + 1) _ (by omega) (nI_add (k + 1) 1)
            unfold wsum wfa at ih2
            rw [if_pos (show w = nI 3 from q1)] at ih2
            refine wk hX ih2 ?_
            exact ⟨⟨_, rfl, Or.inl rfl⟩, ⟨_, rfl, Or.inl rfl⟩, ⟨_, rfl, Or.inl rfl⟩, ⟨_, rfl, Or.inl rfl⟩, trivial⟩
      refine ⟨hI, ?_⟩
      exact loop (nn σ) 0 _ (by omega) rfl
    · have g2 : ¬ w ≤ nI 3 := g2
      have e : aok w = false := by
        unfold aok
        rw [decide_eq_false (show ¬ ¬ nI 3 < w from fun q => q (Int32.not_le.mp g2)), Bool.and_false]
      rw [e] at h
      exact h
  · exact h.elim
def stp1 (t : ZF) (s : SS) (k : Nat) : SS :=
  let s := sL s 11 0 k (s.2.1 11 0 k + s.2.1 12 0 k * t)
  sL s 10 0 k (s.2.1 10 0 k + s.2.1 11 0 k * t)
def c_stp (σ : SS) (t : ZF) : SS := upf (stp1 t) σ (nn σ)
noncomputable def sp_X5_step : Spc := fun av σ post => match av with
  | [.inr (.inr b), .inl x] => bif is0 b then (CI σ ∧ post none (c_stp σ (fi x))) else False
  | _ => False
theorem dX5_step_0 : decode cX5_step 0 = .ok (.iload_n 1, 1) := by decide +kernel
theorem dX5_step_1 : decode cX5_step 1 = .ok (.invokestatic 80, 3) := by decide +kernel
theorem dX5_step_4 : decode cX5_step 4 = .ok (.lstore_n 2, 1) := by decide +kernel
theorem dX5_step_5 : decode cX5_step 5 = .ok (.iconst 1, 1) := by decide +kernel
theorem dX5_step_6 : decode cX5_step 6 = .ok (.istore 4, 2) := by decide +kernel
theorem dX5_step_8 : decode cX5_step 8 = .ok (.iload 4, 2) := by decide +kernel
theorem dX5_step_10 : decode cX5_step 10 = .ok (.aload_n 0, 1) := by decide +kernel
theorem dX5_step_11 : decode cX5_step 11 = .ok (.getfield 16, 3) := by decide +kernel
theorem dX5_step_14 : decode cX5_step 14 = .ok (.if_icmp .gt 65, 3) := by decide +kernel
theorem dX5_step_17 : decode cX5_step 17 = .ok (.aload_n 0, 1) := by decide +kernel
theorem dX5_step_18 : decode cX5_step 18 = .ok (.getfield 36, 3) := by decide +kernel
theorem dX5_step_21 : decode cX5_step 21 = .ok (.iload 4, 2) := by decide +kernel
theorem dX5_step_23 : decode cX5_step 23 = .ok (.aload_n 0, 1) := by decide +kernel
theorem dX5_step_24 : decode cX5_step 24 = .ok (.getfield 36, 3) := by decide +kernel
theorem dX5_step_27 : decode cX5_step 27 = .ok (.iload 4, 2) := by decide +kernel
theorem dX5_step_29 : decode cX5_step 29 = .ok (.laload, 1) := by decide +kernel
theorem dX5_step_30 : decode cX5_step 30 = .ok (.aload_n 0, 1) := by decide +kernel
theorem dX5_step_31 : decode cX5_step 31 = .ok (.getfield 39, 3) := by decide +kernel
theorem dX5_step_34 : decode cX5_step 34 = .ok (.iload 4, 2) := by decide +kernel
theorem dX5_step_36 : decode cX5_step 36 = .ok (.laload, 1) := by decide +kernel
theorem dX5_step_37 : decode cX5_step 37 = .ok (.lload_n 2, 1) := by decide +kernel
theorem dX5_step_38 : decode cX5_step 38 = .ok (.invokestatic 129, 3) := by decide +kernel
theorem dX5_step_41 : decode cX5_step 41 = .ok (.invokestatic 133, 3) := by decide +kernel
theorem dX5_step_44 : decode cX5_step 44 = .ok (.lastore, 1) := by decide +kernel
theorem dX5_step_45 : decode cX5_step 45 = .ok (.aload_n 0, 1) := by decide +kernel
theorem dX5_step_46 : decode cX5_step 46 = .ok (.getfield 32, 3) := by decide +kernel
theorem dX5_step_49 : decode cX5_step 49 = .ok (.iload 4, 2) := by decide +kernel
theorem dX5_step_51 : decode cX5_step 51 = .ok (.aload_n 0, 1) := by decide +kernel
theorem dX5_step_52 : decode cX5_step 52 = .ok (.getfield 32, 3) := by decide +kernel
theorem dX5_step_55 : decode cX5_step 55 = .ok (.iload 4, 2) := by decide +kernel
theorem dX5_step_57 : decode cX5_step 57 = .ok (.laload, 1) := by decide +kernel
theorem dX5_step_58 : decode cX5_step 58 = .ok (.aload_n 0, 1) := by decide +kernel
theorem dX5_step_59 : decode cX5_step 59 = .ok (.getfield 36, 3) := by decide +kernel
theorem dX5_step_62 : decode cX5_step 62 = .ok (.iload 4, 2) := by decide +kernel
theorem dX5_step_64 : decode cX5_step 64 = .ok (.laload, 1) := by decide +kernel
theorem dX5_step_65 : decode cX5_step 65 = .ok (.lload_n 2, 1) := by decide +kernel
theorem dX5_step_66 : decode cX5_step 66 = .ok (.invokestatic 129, 3) := by decide +kernel
theorem dX5_step_69 : decode cX5_step 69 = .ok (.invokestatic 133, 3) := by decide +kernel
theorem dX5_step_72 : decode cX5_step 72 = .ok (.lastore, 1) := by decide +kernel
theorem dX5_step_73 : decode cX5_step 73 = .ok (.iinc 4 1, 3) := by decide +kernel
theorem dX5_step_76 : decode cX5_step 76 = .ok (.goto (-68), 3) := by decide +kernel
theorem dX5_step_79 : decode cX5_step 79 = .ok (.return_, 1) := by decide +kernel
noncomputable def pr_X5_step : Prg := [(0, z_iload 1 1), (1, z_call 1 sp_X1_of), (4, z_lstore 2 1), (5, z_ic (nI 1) 1), (6, z_istore 4 2), (8, z_iload 4 2), (10, z_aload 0 1), (11, z_get 4 1), (14, z_if2 (fun x y => y < x) 79), (17, z_aload 0 1), (18, z_get 4 5), (21, z_iload 4 2), (23, z_aload 0 1), (24, z_get 4 5), (27, z_iload 4 2), (29, z_laload), (30, z_aload 0 1), (31, z_get 4 6), (34, z_iload 4 2), (36, z_laload), (37, z_lload 2 1), (38, z_call 2 sp_X1_times), (41, z_call 2 sp_X1_plus), (44, z_lastore), (45, z_aload 0 1), (46, z_get 4 4), (49, z_iload 4 2), (51, z_aload 0 1), (52, z_get 4 4), (55, z_iload 4 2), (57, z_laload), (58, z_aload 0 1), (59, z_get 4 5), (62, z_iload 4 2), (64, z_laload), (65, z_lload 2 1), (66, z_call 2 sp_X1_times), (69, z_call 2 sp_X1_plus), (72, z_lastore), (73, z_iinc 4 (nI 1)), (76, z_goto 8), (79, z_vret)]
set_option maxRecDepth 100000 in
set_option maxHeartbeats 4000000 in
theorem sn_X5_step {G : Geo} (hG : GeoOK G) (l : Launch) : ∀ q ∈ pr_X5_step, Sn G l yX5_step.cls cX5_step 5 2 none q.1 q.2 :=
  fcs (zs_iload_n dX5_step_0 rfl) <| fcs (zs_calls (ct_X1_of hG l) mi_X1_of ws_X1_of (by decide) wm_X5_80 dX5_step_1) <| fcs (zs_lstore_n dX5_step_4 rfl (by decide)) <| fcs (zs_iconst dX5_step_5 rfl) <| fcs (zs_istore dX5_step_6 (by decide)) <| fcs (zs_iload dX5_step_8) <| fcs (zs_aload_n dX5_step_10 rfl) <| fcs (zs_get cls4 (by decide) (by decide) wf_X5_16 dX5_step_11) <| fcs (zs_icmp_gt dX5_step_14 rfl) <| fcs (zs_aload_n dX5_step_17 rfl) <| fcs (zs_get cls4 (by decide) (by decide) wf_X5_36 dX5_step_18) <| fcs (zs_iload dX5_step_21) <| fcs (zs_aload_n dX5_step_23 rfl) <| fcs (zs_get cls4 (by decide) (by decide) wf_X5_36 dX5_step_24) <| fcs (zs_iload dX5_step_27) <| fcs (zs_laload dX5_step_29) <| fcs (zs_aload_n dX5_step_30 rfl) <| fcs (zs_get cls4 (by decide) (by decide) wf_X5_39 dX5_step_31) <| fcs (zs_iload dX5_step_34) <| fcs (zs_laload dX5_step_36) <| fcs (zs_lload_n dX5_step_37 rfl) <| fcs (zs_calls (ct_X1_times hG l) mi_X1_times ws_X1_times (by decide) wm_X5_129 dX5_step_38) <| fcs (zs_calls (ct_X1_plus hG l) mi_X1_plus ws_X1_plus (by decide) wm_X5_133 dX5_step_41) <| fcs (zs_lastore dX5_step_44) <| fcs (zs_aload_n dX5_step_45 rfl) <| fcs (zs_get cls4 (by decide) (by decide) wf_X5_32 dX5_step_46) <| fcs (zs_iload dX5_step_49) <| fcs (zs_aload_n dX5_step_51 rfl) <| fcs (zs_get cls4 (by decide) (by decide) wf_X5_32 dX5_step_52) <| fcs (zs_iload dX5_step_55) <| fcs (zs_laload dX5_step_57) <| fcs (zs_aload_n dX5_step_58 rfl) <| fcs (zs_get cls4 (by decide) (by decide) wf_X5_36 dX5_step_59) <| fcs (zs_iload dX5_step_62) <| fcs (zs_laload dX5_step_64) <| fcs (zs_lload_n dX5_step_65 rfl) <| fcs (zs_calls (ct_X1_times hG l) mi_X1_times ws_X1_times (by decide) wm_X5_129 dX5_step_66) <| fcs (zs_calls (ct_X1_plus hG l) mi_X1_plus ws_X1_plus (by decide) wm_X5_133 dX5_step_69) <| fcs (zs_lastore dX5_step_72) <| fcs (zs_iinc dX5_step_73 rfl (by decide)) <| fcs (zs_goto dX5_step_76 rfl) <| fcs (zs_vret dX5_step_79) <| fnl
set_option maxRecDepth 100000 in
set_option maxHeartbeats 4000000 in
theorem ct_X5_step {G : Geo} (hG : GeoOK G) (l : Launch) : Ct G l yX5_step cX5_step 5 none 2 sp_X5_step := by
  refine Ct.of pr_X5_step hG (by decide +kernel) (sn_X5_step hG l) ?_
  intro av σ post hok h
  unfold sp_X5_step at h
  split at h
  · rename_i b x
    obtain ⟨hb, hI, h9⟩ := bif_t h
    clear h
    obtain rfl := is0_t hb
    refine ⟨Nat.le_of_ble_eq_true rfl, fun X hX => ?_⟩
    have h7 := hI.2.1
    have h0I : ∀ k, (upf (stp1 (fi x)) σ k).2.2 = σ.2.2 := fun k => upf_I (f := stp1 (fi x)) (fun _ _ => rfl) _ _
    have loop : ∀ (m k : Nat) (i : Int32), k + m = nn σ → i = nI (k + 1) → X 8 [(4, .inl i), (2, af (fi x)), (0, ar 0 0), (1, .inl x)] [] (upf (stp1 (fi x)) σ k) := by
      intro m
      induction m with
      | zero =>
        intro k i hk hi
        subst hi
        have hI' := CI_of (h0I k) hI
        have hn := nn_of (h0I k)
        refine go hX [8] 60 ?_
        refine ⟨fun g1 => ?_, fun g1 => absurd (lp_t hI' (by omega) (by omega)) g1⟩
        have e : k = nn σ := by omega
        subst e
        exact h9
      | succ m ih =>
        intro k i hk hi
        subst hi
        have hI' := CI_of (h0I k) hI
        have hn := nn_of (h0I k)
        refine go hX [8] 60 ?_
        refine ⟨fun g1 => absurd g1 (lp_f hI' (by omega)), fun g1 => ?_⟩
        refine ⟨⟨nle rfl, nle rfl⟩, k + 1, rfl, by show k + 1 < 8; omega, ?_⟩
        refine ⟨⟨nle rfl, nle rfl⟩, k + 1, rfl, by show k + 1 < 8; omega, ?_⟩
        refine ⟨⟨nle rfl, nle rfl⟩, k + 1, _, rfl, by show k + 1 < 8; omega, rfl, ?_⟩
        refine ⟨⟨nle rfl, nle rfl⟩, k + 1, rfl, by show k + 1 < 8; omega, ?_⟩
        refine ⟨⟨nle rfl, nle rfl⟩, k + 1, rfl, by show k + 1 < 8; omega, ?_⟩
        refine ⟨⟨nle rfl, nle rfl⟩, k + 1, _, rfl, by show k + 1 < 8; omega, rfl, ?_⟩
        exact ih (k + 1) _ (by omega) (nI_add _ _)
    refine go hX [8] 60 ?_
    exact loop (nn σ) 0 _ (by omega) rfl
  · exact h.elim
