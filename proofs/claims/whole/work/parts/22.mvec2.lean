/-! The reference's vectors in arrays, 2 -/
/-- two long arrays of the reference, not the same -/
def isM2 (t l : Nat × Nat) : Bool := isM t && (isM l && !(Nat.beq l.1 t.1))
theorem isM2_t {t l : Nat × Nat} (h : isM2 t l = true) : (10 ≤ t.1 ∧ t.1 < 50) ∧ (10 ≤ l.1 ∧ l.1 < 50) ∧ l.1 ≠ t.1 := by
  unfold isM2 at h
  rw [Bool.and_eq_true, Bool.and_eq_true] at h
  refine ⟨isM_t h.1, isM_t h.2.1, fun q => ?_⟩
  have h2 := h.2.2
  rw [q, Nat.beq_refl] at h2
  cases h2
noncomputable def sp_X6_add : Spc := fun av σ post => match av with
  | [.inr (.inr t), .inl k, .inr (.inr l), .inl i, .inr (.inl (.inr f))] => bif isM2 t l then (∃ k' i', (k = nI k' ∧ i = nI i') ∧ (k' + 2 < alen t.1 ∧ i' + 2 < alen l.1) ∧ post none (p3 σ t k' (v_adt (g3 σ t k') (g3 σ l i') f))) else False
  | _ => False
theorem dX6_add_0 : decode cX6_add 0 = .ok (.iconst 0, 1) := by decide +kernel
theorem dX6_add_1 : decode cX6_add 1 = .ok (.istore 6, 2) := by decide +kernel
theorem dX6_add_3 : decode cX6_add 3 = .ok (.iload 6, 2) := by decide +kernel
theorem dX6_add_5 : decode cX6_add 5 = .ok (.iconst 3, 1) := by decide +kernel
theorem dX6_add_6 : decode cX6_add 6 = .ok (.if_icmp .ge 35, 3) := by decide +kernel
theorem dX6_add_9 : decode cX6_add 9 = .ok (.aload_n 0, 1) := by decide +kernel
theorem dX6_add_10 : decode cX6_add 10 = .ok (.iload_n 1, 1) := by decide +kernel
theorem dX6_add_11 : decode cX6_add 11 = .ok (.iload 6, 2) := by decide +kernel
theorem dX6_add_13 : decode cX6_add 13 = .ok (.iadd, 1) := by decide +kernel
theorem dX6_add_14 : decode cX6_add 14 = .ok (.aload_n 0, 1) := by decide +kernel
theorem dX6_add_15 : decode cX6_add 15 = .ok (.iload_n 1, 1) := by decide +kernel
theorem dX6_add_16 : decode cX6_add 16 = .ok (.iload 6, 2) := by decide +kernel
theorem dX6_add_18 : decode cX6_add 18 = .ok (.iadd, 1) := by decide +kernel
theorem dX6_add_19 : decode cX6_add 19 = .ok (.laload, 1) := by decide +kernel
theorem dX6_add_20 : decode cX6_add 20 = .ok (.aload_n 2, 1) := by decide +kernel
theorem dX6_add_21 : decode cX6_add 21 = .ok (.iload_n 3, 1) := by decide +kernel
theorem dX6_add_22 : decode cX6_add 22 = .ok (.iload 6, 2) := by decide +kernel
theorem dX6_add_24 : decode cX6_add 24 = .ok (.iadd, 1) := by decide +kernel
theorem dX6_add_25 : decode cX6_add 25 = .ok (.laload, 1) := by decide +kernel
theorem dX6_add_26 : decode cX6_add 26 = .ok (.lload 4, 2) := by decide +kernel
theorem dX6_add_28 : decode cX6_add 28 = .ok (.lmul, 1) := by decide +kernel
theorem dX6_add_29 : decode cX6_add 29 = .ok (.ladd, 1) := by decide +kernel
theorem dX6_add_30 : decode cX6_add 30 = .ok (.ldc2_w 91, 3) := by decide +kernel
theorem dX6_add_33 : decode cX6_add 33 = .ok (.lrem, 1) := by decide +kernel
theorem dX6_add_34 : decode cX6_add 34 = .ok (.lastore, 1) := by decide +kernel
theorem dX6_add_35 : decode cX6_add 35 = .ok (.iinc 6 1, 3) := by decide +kernel
theorem dX6_add_38 : decode cX6_add 38 = .ok (.goto (-35), 3) := by decide +kernel
theorem dX6_add_41 : decode cX6_add 41 = .ok (.return_, 1) := by decide +kernel
noncomputable def pr_X6_add : Prg := [(0, z_ic (nI 0) 1), (1, z_istore 6 2), (3, z_iload 6 2), (5, z_ic (nI 3) 1), (6, z_if2 (fun x y => y ≤ x) 41), (9, z_aload 0 1), (10, z_iload 1 1), (11, z_iload 6 2), (13, z_iadd), (14, z_aload 0 1), (15, z_iload 1 1), (16, z_iload 6 2), (18, z_iadd), (19, z_laload), (20, z_aload 2 1), (21, z_iload 3 1), (22, z_iload 6 2), (24, z_iadd), (25, z_laload), (26, z_lload 4 2), (28, z_lmul), (29, z_ladd), (30, z_lc (.inl 2147483647) 3), (33, z_lrem), (34, z_lastore), (35, z_iinc 6 (nI 1)), (38, z_goto 3), (41, z_vret)]
set_option maxRecDepth 100000 in
set_option maxHeartbeats 4000000 in
theorem sn_X6_add {G : Geo} (hG : GeoOK G) (l : Launch) : ∀ q ∈ pr_X6_add, Sn G l yX6_add.cls cX6_add 7 0 none q.1 q.2 :=
  fcs (zs_iconst dX6_add_0 rfl) <| fcs (zs_istore dX6_add_1 (by decide)) <| fcs (zs_iload dX6_add_3) <| fcs (zs_iconst dX6_add_5 rfl) <| fcs (zs_icmp_ge dX6_add_6 rfl) <| fcs (zs_aload_n dX6_add_9 rfl) <| fcs (zs_iload_n dX6_add_10 rfl) <| fcs (zs_iload dX6_add_11) <| fcs (zs_iadd dX6_add_13) <| fcs (zs_aload_n dX6_add_14 rfl) <| fcs (zs_iload_n dX6_add_15 rfl) <| fcs (zs_iload dX6_add_16) <| fcs (zs_iadd dX6_add_18) <| fcs (zs_laload dX6_add_19) <| fcs (zs_aload_n dX6_add_20 rfl) <| fcs (zs_iload_n dX6_add_21 rfl) <| fcs (zs_iload dX6_add_22) <| fcs (zs_iadd dX6_add_24) <| fcs (zs_laload dX6_add_25) <| fcs (zs_lload dX6_add_26) <| fcs (zs_lmul dX6_add_28) <| fcs (zs_ladd dX6_add_29) <| fcs (zs_ldc2 dX6_add_30 wl_X6_91) <| fcs (zs_lrem dX6_add_33) <| fcs (zs_lastore dX6_add_34) <| fcs (zs_iinc dX6_add_35 rfl (by decide)) <| fcs (zs_goto dX6_add_38 rfl) <| fcs (zs_vret dX6_add_41) <| fnl
set_option maxRecDepth 100000 in
set_option maxHeartbeats 4000000 in
theorem ct_X6_add {G : Geo} (hG : GeoOK G) (l : Launch) : Ct G l yX6_add cX6_add 7 none 0 sp_X6_add := by
  refine Ct.of pr_X6_add hG (by decide +kernel) (sn_X6_add hG l) ?_
  intro av σ post hok h
  unfold sp_X6_add at h
  split at h
  · rename_i t k l i f
    obtain ⟨hb, k, i, ⟨rfl, rfl⟩, ⟨hk, hi⟩, h⟩ := bif_t h
    obtain ⟨ht, hl, hne⟩ := isM2_t hb
    refine ⟨Nat.le_of_ble_eq_true rfl, fun X hX => ?_⟩
    have loop : ∀ (m c : Nat) (cc : Int32), c + m = 3 → cc = nI c → X 3 [(6, .inl cc), (0, .inr (.inr t)), (1, .inl (nI k)), (2, .inr (.inr l)), (3, .inl (nI i)), (4, af f)] [] (fl σ t k c (fun c => vco c (v_adt (g3 σ t k) (g3 σ l i) f))) := by
      intro m
      induction m with
      | zero =>
        intro c cc hc e
        subst e
        refine go hX [3] 60 ?_
        refine ⟨fun g => ?_, fun g => absurd ((nI_leI (by decide) (by omega)).mpr (by omega)) g⟩
        have e : c = 3 := by omega
        subst e
        exact h
      | succ m ih =>
        intro c cc hc e
        subst e
        refine go hX [3] 60 ?_
        refine ⟨fun g => absurd ((nI_leI (by decide) (by omega)).mp g) (by omega), fun g => ?_⟩
        refine ⟨ht, k + c, nI_add _ _, by omega, hl, i + c, nI_add _ _, by omega, ne_P, ?_⟩
        refine ⟨ht, k + c, _, nI_add _ _, by omega, n_addt _ _ _, ?_⟩
        have ih2 := ih (c + 1) _ (by omega) (nI_add c 1)
        refine (fl_s σ t k c (fun c => vco c (v_adt (g3 σ t k) (g3 σ l i) f)) (i := k + c) rfl ?_).symm ▸ ih2
        rw [fl_o _ _ _ _ _ _ _ (by omega), fl_n _ _ _ _ _ _ _ hne]
        rcases (show c = 0 ∨ c = 1 ∨ c = 2 by omega) with rfl | rfl | rfl <;> rfl
    refine go hX [3] 60 ?_
    have l0 := loop 3 0 _ rfl rfl
    rw [fl_0] at l0
    exact l0
  · exact h.elim
theorem n_dot3 (a b c d e f : ZF) : rP (rP (em a * em b) + rP (em c * em d) + rP (em e * em f)) = em (a * b + c * d + e * f) := by
  rw [n_times, n_times, n_times]
  have e1 : (em (a * b) + em (c * d)).toInt = ((a * b).val : Int) + (c * d).val := by rw [l_add] <;> rw [em_i, em_i] <;> omega
  have e2 : (em (a * b) + em (c * d) + em (e * f)).toInt = ((a * b).val : Int) + (c * d).val + (e * f).val := by rw [l_add] <;> rw [e1, em_i] <;> omega
  rw [rP_em (by rw [e2]; omega), e2, zi_add, zi_add, zi_val, zi_val, zi_val]
noncomputable def sp_X6_dot : Spc := fun av σ post => match av with
  | [.inr (.inr l), .inl i, .inr (.inr r), .inl j] => bif isM l && isM r then (∃ i' j', (i = nI i' ∧ j = nI j') ∧ (i' + 2 < alen l.1 ∧ j' + 2 < alen r.1) ∧ post (some (af (v_dot (g3 σ l i') (g3 σ r j')))) σ) else False
  | _ => False
theorem dX6_dot_0 : decode cX6_dot 0 = .ok (.aload_n 0, 1) := by decide +kernel
theorem dX6_dot_1 : decode cX6_dot 1 = .ok (.iload_n 1, 1) := by decide +kernel
theorem dX6_dot_2 : decode cX6_dot 2 = .ok (.laload, 1) := by decide +kernel
theorem dX6_dot_3 : decode cX6_dot 3 = .ok (.aload_n 2, 1) := by decide +kernel
theorem dX6_dot_4 : decode cX6_dot 4 = .ok (.iload_n 3, 1) := by decide +kernel
theorem dX6_dot_5 : decode cX6_dot 5 = .ok (.laload, 1) := by decide +kernel
theorem dX6_dot_6 : decode cX6_dot 6 = .ok (.lmul, 1) := by decide +kernel
theorem dX6_dot_7 : decode cX6_dot 7 = .ok (.ldc2_w 91, 3) := by decide +kernel
theorem dX6_dot_10 : decode cX6_dot 10 = .ok (.lrem, 1) := by decide +kernel
theorem dX6_dot_11 : decode cX6_dot 11 = .ok (.aload_n 0, 1) := by decide +kernel
theorem dX6_dot_12 : decode cX6_dot 12 = .ok (.iload_n 1, 1) := by decide +kernel
theorem dX6_dot_13 : decode cX6_dot 13 = .ok (.iconst 1, 1) := by decide +kernel
theorem dX6_dot_14 : decode cX6_dot 14 = .ok (.iadd, 1) := by decide +kernel
theorem dX6_dot_15 : decode cX6_dot 15 = .ok (.laload, 1) := by decide +kernel
theorem dX6_dot_16 : decode cX6_dot 16 = .ok (.aload_n 2, 1) := by decide +kernel
theorem dX6_dot_17 : decode cX6_dot 17 = .ok (.iload_n 3, 1) := by decide +kernel
theorem dX6_dot_18 : decode cX6_dot 18 = .ok (.iconst 1, 1) := by decide +kernel
theorem dX6_dot_19 : decode cX6_dot 19 = .ok (.iadd, 1) := by decide +kernel
theorem dX6_dot_20 : decode cX6_dot 20 = .ok (.laload, 1) := by decide +kernel
theorem dX6_dot_21 : decode cX6_dot 21 = .ok (.lmul, 1) := by decide +kernel
theorem dX6_dot_22 : decode cX6_dot 22 = .ok (.ldc2_w 91, 3) := by decide +kernel
theorem dX6_dot_25 : decode cX6_dot 25 = .ok (.lrem, 1) := by decide +kernel
theorem dX6_dot_26 : decode cX6_dot 26 = .ok (.ladd, 1) := by decide +kernel
theorem dX6_dot_27 : decode cX6_dot 27 = .ok (.aload_n 0, 1) := by decide +kernel
theorem dX6_dot_28 : decode cX6_dot 28 = .ok (.iload_n 1, 1) := by decide +kernel
theorem dX6_dot_29 : decode cX6_dot 29 = .ok (.iconst 2, 1) := by decide +kernel
theorem dX6_dot_30 : decode cX6_dot 30 = .ok (.iadd, 1) := by decide +kernel
theorem dX6_dot_31 : decode cX6_dot 31 = .ok (.laload, 1) := by decide +kernel
theorem dX6_dot_32 : decode cX6_dot 32 = .ok (.aload_n 2, 1) := by decide +kernel
theorem dX6_dot_33 : decode cX6_dot 33 = .ok (.iload_n 3, 1) := by decide +kernel
theorem dX6_dot_34 : decode cX6_dot 34 = .ok (.iconst 2, 1) := by decide +kernel
theorem dX6_dot_35 : decode cX6_dot 35 = .ok (.iadd, 1) := by decide +kernel
theorem dX6_dot_36 : decode cX6_dot 36 = .ok (.laload, 1) := by decide +kernel
theorem dX6_dot_37 : decode cX6_dot 37 = .ok (.lmul, 1) := by decide +kernel
theorem dX6_dot_38 : decode cX6_dot 38 = .ok (.ldc2_w 91, 3) := by decide +kernel
theorem dX6_dot_41 : decode cX6_dot 41 = .ok (.lrem, 1) := by decide +kernel
theorem dX6_dot_42 : decode cX6_dot 42 = .ok (.ladd, 1) := by decide +kernel
theorem dX6_dot_43 : decode cX6_dot 43 = .ok (.ldc2_w 91, 3) := by decide +kernel
theorem dX6_dot_46 : decode cX6_dot 46 = .ok (.lrem, 1) := by decide +kernel
theorem dX6_dot_47 : decode cX6_dot 47 = .ok (.lreturn, 1) := by decide +kernel
noncomputable def pr_X6_dot : Prg := [(0, z_aload 0 1), (1, z_iload 1 1), (2, z_laload), (3, z_aload 2 1), (4, z_iload 3 1), (5, z_laload), (6, z_lmul), (7, z_lc (.inl 2147483647) 3), (10, z_lrem), (11, z_aload 0 1), (12, z_iload 1 1), (13, z_ic (nI 1) 1), (14, z_iadd), (15, z_laload), (16, z_aload 2 1), (17, z_iload 3 1), (18, z_ic (nI 1) 1), (19, z_iadd), (20, z_laload), (21, z_lmul), (22, z_lc (.inl 2147483647) 3), (25, z_lrem), (26, z_ladd), (27, z_aload 0 1), (28, z_iload 1 1), (29, z_ic (nI 2) 1), (30, z_iadd), (31, z_laload), (32, z_aload 2 1), (33, z_iload 3 1), (34, z_ic (nI 2) 1), (35, z_iadd), (36, z_laload), (37, z_lmul), (38, z_lc (.inl 2147483647) 3), (41, z_lrem), (42, z_ladd), (43, z_lc (.inl 2147483647) 3), (46, z_lrem), (47, z_lret)]
set_option maxRecDepth 100000 in
set_option maxHeartbeats 4000000 in
theorem sn_X6_dot {G : Geo} (hG : GeoOK G) (l : Launch) : ∀ q ∈ pr_X6_dot, Sn G l yX6_dot.cls cX6_dot 4 0 (some .long) q.1 q.2 :=
  fcs (zs_aload_n dX6_dot_0 rfl) <| fcs (zs_iload_n dX6_dot_1 rfl) <| fcs (zs_laload dX6_dot_2) <| fcs (zs_aload_n dX6_dot_3 rfl) <| fcs (zs_iload_n dX6_dot_4 rfl) <| fcs (zs_laload dX6_dot_5) <| fcs (zs_lmul dX6_dot_6) <| fcs (zs_ldc2 dX6_dot_7 wl_X6_91) <| fcs (zs_lrem dX6_dot_10) <| fcs (zs_aload_n dX6_dot_11 rfl) <| fcs (zs_iload_n dX6_dot_12 rfl) <| fcs (zs_iconst dX6_dot_13 rfl) <| fcs (zs_iadd dX6_dot_14) <| fcs (zs_laload dX6_dot_15) <| fcs (zs_aload_n dX6_dot_16 rfl) <| fcs (zs_iload_n dX6_dot_17 rfl) <| fcs (zs_iconst dX6_dot_18 rfl) <| fcs (zs_iadd dX6_dot_19) <| fcs (zs_laload dX6_dot_20) <| fcs (zs_lmul dX6_dot_21) <| fcs (zs_ldc2 dX6_dot_22 wl_X6_91) <| fcs (zs_lrem dX6_dot_25) <| fcs (zs_ladd dX6_dot_26) <| fcs (zs_aload_n dX6_dot_27 rfl) <| fcs (zs_iload_n dX6_dot_28 rfl) <| fcs (zs_iconst dX6_dot_29 rfl) <| fcs (zs_iadd dX6_dot_30) <| fcs (zs_laload dX6_dot_31) <| fcs (zs_aload_n dX6_dot_32 rfl) <| fcs (zs_iload_n dX6_dot_33 rfl) <| fcs (zs_iconst dX6_dot_34 rfl) <| fcs (zs_iadd dX6_dot_35) <| fcs (zs_laload dX6_dot_36) <| fcs (zs_lmul dX6_dot_37) <| fcs (zs_ldc2 dX6_dot_38 wl_X6_91) <| fcs (zs_lrem dX6_dot_41) <| fcs (zs_ladd dX6_dot_42) <| fcs (zs_ldc2 dX6_dot_43 wl_X6_91) <| fcs (zs_lrem dX6_dot_46) <| fcs (zs_lret dX6_dot_47) <| fnl
set_option maxRecDepth 100000 in
set_option maxHeartbeats 4000000 in
theorem ct_X6_dot {G : Geo} (hG : GeoOK G) (l : Launch) : Ct G l yX6_dot cX6_dot 4 (some .long) 0 sp_X6_dot := by
  refine Ct.of pr_X6_dot hG (by decide +kernel) (sn_X6_dot hG l) ?_
  intro av σ post hok h
  unfold sp_X6_dot at h
  split at h
  · rename_i l i r j
    obtain ⟨hb, i, j, ⟨rfl, rfl⟩, ⟨hi, hj⟩, h⟩ := bif_t h
    rw [Bool.and_eq_true] at hb
    have hl := isM_t hb.1
    have hr := isM_t hb.2
    refine ⟨Nat.le_of_ble_eq_true rfl, fun X hX => ?_⟩
    refine go hX [] 60 ?_
    refine ⟨hl, i, rfl, by omega, hr, j, rfl, by omega, ne_P, ?_⟩
    refine ⟨hl, i + 1, nI_add _ _, by omega, hr, j + 1, nI_add _ _, by omega, ne_P, ?_⟩
    refine ⟨hl, i + 2, nI_add _ _, by omega, hr, j + 2, nI_add _ _, by omega, ne_P, ne_P, ?_⟩
    exact ⟨.inr _, n_dot3 _ _ _ _ _ _, h⟩
  · exact h.elim
/-- a matrix's rows times a vector -/
def v_mv (a b c x : V3) : V3 := (v_dot a x, v_dot b x, v_dot c x)
noncomputable def sp_X6_turned : Spc := fun av σ post => match av with
  | [.inr (.inr t), .inl k, .inr (.inr m), .inl a, .inr (.inr l), .inl i] => bif isM2 t m && isM2 t l then (∃ k' a' i', (k = nI k' ∧ a = nI a' ∧ i = nI i') ∧ (k' + 2 < alen t.1 ∧ a' + 8 < alen m.1 ∧ i' + 2 < alen l.1) ∧ post none (p3 σ t k' (v_mv (g3 σ m a') (g3 σ m (a' + 3)) (g3 σ m (a' + 6)) (g3 σ l i')))) else False
  | _ => False
theorem dX6_turned_0 : decode cX6_turned 0 = .ok (.iconst 0, 1) := by decide +kernel
theorem dX6_turned_1 : decode cX6_turned 1 = .ok (.istore 6, 2) := by decide +kernel
theorem dX6_turned_3 : decode cX6_turned 3 = .ok (.iload 6, 2) := by decide +kernel
theorem dX6_turned_5 : decode cX6_turned 5 = .ok (.iconst 3, 1) := by decide +kernel
theorem dX6_turned_6 : decode cX6_turned 6 = .ok (.if_icmp .ge 29, 3) := by decide +kernel
theorem dX6_turned_9 : decode cX6_turned 9 = .ok (.aload_n 0, 1) := by decide +kernel
theorem dX6_turned_10 : decode cX6_turned 10 = .ok (.iload_n 1, 1) := by decide +kernel
theorem dX6_turned_11 : decode cX6_turned 11 = .ok (.iload 6, 2) := by decide +kernel
theorem dX6_turned_13 : decode cX6_turned 13 = .ok (.iadd, 1) := by decide +kernel
theorem dX6_turned_14 : decode cX6_turned 14 = .ok (.aload_n 2, 1) := by decide +kernel
theorem dX6_turned_15 : decode cX6_turned 15 = .ok (.iload_n 3, 1) := by decide +kernel
theorem dX6_turned_16 : decode cX6_turned 16 = .ok (.iconst 3, 1) := by decide +kernel
theorem dX6_turned_17 : decode cX6_turned 17 = .ok (.iload 6, 2) := by decide +kernel
theorem dX6_turned_19 : decode cX6_turned 19 = .ok (.imul, 1) := by decide +kernel
theorem dX6_turned_20 : decode cX6_turned 20 = .ok (.iadd, 1) := by decide +kernel
theorem dX6_turned_21 : decode cX6_turned 21 = .ok (.aload 4, 2) := by decide +kernel
theorem dX6_turned_23 : decode cX6_turned 23 = .ok (.iload 5, 2) := by decide +kernel
theorem dX6_turned_25 : decode cX6_turned 25 = .ok (.invokestatic 104, 3) := by decide +kernel
theorem dX6_turned_28 : decode cX6_turned 28 = .ok (.lastore, 1) := by decide +kernel
theorem dX6_turned_29 : decode cX6_turned 29 = .ok (.iinc 6 1, 3) := by decide +kernel
theorem dX6_turned_32 : decode cX6_turned 32 = .ok (.goto (-29), 3) := by decide +kernel
theorem dX6_turned_35 : decode cX6_turned 35 = .ok (.return_, 1) := by decide +kernel
theorem wc_X6_dot : Cond.code yX6_dot cX6_dot 4 (some .long) ∈ ltb := List.mem_filter.mpr ⟨List.mem_append_right _ (List.mem_of_getElem? (i := 645) (by decide +kernel)), by decide +kernel⟩
theorem mi_X6_dot : Mi yX6_dot RX6 4 cX6_dot 4 (some .long) := ⟨by decide +kernel, wc_X6_dot, wi_X6, by decide⟩
theorem ws_X6_dot : Cond.static yX6_dot ∈ ltb := List.mem_filter.mpr ⟨List.mem_append_right _ (List.mem_of_getElem? (i := 644) (by decide +kernel)), by decide +kernel⟩
theorem wm_X6_104 : Cond.methodLink RX6 104 yX6_dot ∈ ltb := List.mem_filter.mpr ⟨List.mem_append_right _ (List.mem_of_getElem? (i := 643) (by decide +kernel)), by decide +kernel⟩
noncomputable def pr_X6_turned : Prg := [(0, z_ic (nI 0) 1), (1, z_istore 6 2), (3, z_iload 6 2), (5, z_ic (nI 3) 1), (6, z_if2 (fun x y => y ≤ x) 35), (9, z_aload 0 1), (10, z_iload 1 1), (11, z_iload 6 2), (13, z_iadd), (14, z_aload 2 1), (15, z_iload 3 1), (16, z_ic (nI 3) 1), (17, z_iload 6 2), (19, z_imul), (20, z_iadd), (21, z_aload 4 2), (23, z_iload 5 2), (25, z_call 4 sp_X6_dot), (28, z_lastore), (29, z_iinc 6 (nI 1)), (32, z_goto 3), (35, z_vret)]
set_option maxRecDepth 100000 in
set_option maxHeartbeats 4000000 in
theorem sn_X6_turned {G : Geo} (hG : GeoOK G) (l : Launch) : ∀ q ∈ pr_X6_turned, Sn G l yX6_turned.cls cX6_turned 7 1 none q.1 q.2 :=
  fcs (zs_iconst dX6_turned_0 rfl) <| fcs (zs_istore dX6_turned_1 (by decide)) <| fcs (zs_iload dX6_turned_3) <| fcs (zs_iconst dX6_turned_5 rfl) <| fcs (zs_icmp_ge dX6_turned_6 rfl) <| fcs (zs_aload_n dX6_turned_9 rfl) <| fcs (zs_iload_n dX6_turned_10 rfl) <| fcs (zs_iload dX6_turned_11) <| fcs (zs_iadd dX6_turned_13) <| fcs (zs_aload_n dX6_turned_14 rfl) <| fcs (zs_iload_n dX6_turned_15 rfl) <| fcs (zs_iconst dX6_turned_16 rfl) <| fcs (zs_iload dX6_turned_17) <| fcs (zs_imul dX6_turned_19) <| fcs (zs_iadd dX6_turned_20) <| fcs (zs_aload dX6_turned_21) <| fcs (zs_iload dX6_turned_23) <| fcs (zs_calls (ct_X6_dot hG l) mi_X6_dot ws_X6_dot (by decide) wm_X6_104 dX6_turned_25) <| fcs (zs_lastore dX6_turned_28) <| fcs (zs_iinc dX6_turned_29 rfl (by decide)) <| fcs (zs_goto dX6_turned_32 rfl) <| fcs (zs_vret dX6_turned_35) <| fnl
set_option maxRecDepth 100000 in
set_option maxHeartbeats 4000000 in
theorem ct_X6_turned {G : Geo} (hG : GeoOK G) (l : Launch) : Ct G l yX6_turned cX6_turned 7 none 1 sp_X6_turned := by
  refine Ct.of pr_X6_turned hG (by decide +kernel) (sn_X6_turned hG l) ?_
  intro av σ post hok h
  unfold sp_X6_turned at h
  split at h
  · rename_i t k q a l i
    obtain ⟨hb, k, a, i, ⟨rfl, rfl, rfl⟩, ⟨hk, ha, hi⟩, h⟩ := bif_t h
    rw [Bool.and_eq_true] at hb
    have hmq : isM q = true := by have := hb.1; unfold isM2 at this; rw [Bool.and_eq_true, Bool.and_eq_true] at this; exact this.2.1
    have hml : isM l = true := by have := hb.2; unfold isM2 at this; rw [Bool.and_eq_true, Bool.and_eq_true] at this; exact this.2.1
    obtain ⟨ht, hq, hne⟩ := isM2_t hb.1
    obtain ⟨-, hl, hne2⟩ := isM2_t hb.2
    refine ⟨Nat.le_of_ble_eq_true rfl, fun X hX => ?_⟩
    have loop : ∀ (m c : Nat) (cc : Int32), c + m = 3 → cc = nI c → X 3 [(6, .inl cc), (0, .inr (.inr t)), (1, .inl (nI k)), (2, .inr (.inr q)), (3, .inl (nI a)), (4, .inr (.inr l)), (5, .inl (nI i))] [] (fl σ t k c (fun c => vco c (v_mv (g3 σ q a) (g3 σ q (a + 3)) (g3 σ q (a + 6)) (g3 σ l i)))) := by
      intro m
      induction m with
      | zero =>
        intro c cc hc e
        subst e
        refine go hX [3] 60 ?_
        refine ⟨fun g => ?_, fun g => absurd ((nI_leI (by decide) (by omega)).mpr (by omega)) g⟩
        have e : c = 3 := by omega
        subst e
        exact h
      | succ m ih =>
        intro c cc hc e
        subst e
        refine go hX [3] 60 ?_
        refine ⟨fun g => absurd ((nI_leI (by decide) (by omega)).mp g) (by omega), fun g => ?_⟩
        refine bif5 (by rw [hmq, hml]; rfl) ?_
        refine ⟨a + 3 * c, i, ⟨by rw [pk_mul, nI_add], rfl⟩, ⟨by omega, by omega⟩, ?_⟩
        refine ⟨ht, k + c, _, nI_add _ _, by omega, rfl, ?_⟩
        have ih2 := ih (c + 1) _ (by omega) (nI_add c 1)
        refine (fl_s σ t k c (fun c => vco c (v_mv (g3 σ q a) (g3 σ q (a + 3)) (g3 σ q (a + 6)) (g3 σ l i))) (i := k + c) rfl ?_).symm ▸ ih2
        unfold g3
        rw [fl_n _ _ _ _ _ _ _ hne, fl_n _ _ _ _ _ _ _ hne, fl_n _ _ _ _ _ _ _ hne, fl_n _ _ _ _ _ _ _ hne2, fl_n _ _ _ _ _ _ _ hne2, fl_n _ _ _ _ _ _ _ hne2]
        rcases (show c = 0 ∨ c = 1 ∨ c = 2 by omega) with rfl | rfl | rfl <;> rfl
    refine go hX [3] 60 ?_
    have l0 := loop 3 0 _ rfl rfl
    rw [fl_0] at l0
    exact l0
  · exact h.elim
