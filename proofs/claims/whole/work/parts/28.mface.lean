/-! The reference's face: what tells -/
def s60 (σ : SS) : SS := sI σ 6 0 (nI 0)
theorem s60_n (σ : SS) : mn (s60 σ) = mn σ := by unfold mn s60; rw [sI_n2 σ _ _ (by decide)]
theorem s60_p (σ : SS) (k : Nat) : mp (s60 σ) k = mp σ k := by unfold mp s60; rw [sI_n1 σ _ _ (by decide)]
theorem s60_MI {σ : SS} (hI : MI σ) : MI (s60 σ) := by
  refine ⟨?_, ?_, fun k h1 h2 => ?_⟩
  · rw [s60_n]
    show (sI σ 6 0 (nI 0)).2.2 6 1 = _
    rw [sI_n2 σ _ _ (by decide)]
    exact hI.1
  · rw [s60_n]
    exact hI.2.1
  · rw [s60_n] at h2
    rw [s60_p]
    show (sI σ 6 0 (nI 0)).2.2 7 k = _ ∧ _
    rw [sI_n1 σ _ _ (by decide)]
    exact hI.2.2 k h1 h2
def mbt (σ : SS) (x : Int32) : Bool := decide (¬ x < nI 1) && decide (¬ σ.2.2 6 1 < x)
theorem s60_bt (σ : SS) (x : Int32) : mbt (s60 σ) x = mbt σ x := by
  unfold mbt s60
  rw [sI_n2 σ _ _ (by decide)]
theorem mbt_k {σ : SS} {x : Int32} (hI : MI σ) (h : mbt σ x = true) : ∃ k, 1 ≤ k ∧ k ≤ mn σ ∧ x = nI k := by
  unfold mbt at h
  rw [Bool.and_eq_true, decide_eq_true_iff, decide_eq_true_iff, hI.1] at h
  obtain ⟨h1, h2⟩ := h
  have h7 := hI.2.1
  have h0 : ¬ x < 0 := fun q => h1 (by
    rw [Int32.lt_iff_toInt_lt] at q ⊢
    rw [nI_toInt (by decide)]
    have : (0 : Int32).toInt = 0 := by decide
    omega)
  obtain ⟨j, hj, rfl⟩ := nI_of h0
  rw [nI_ltI hj (by decide)] at h1
  rw [nI_ltI (by omega) hj] at h2
  exact ⟨j, by omega, by omega, rfl⟩
noncomputable def sp_X6_isThere : Spc := fun av σ post => match av with
  | [.inr (.inr b), .inl x] => bif is6 b then post (some (ai (bz (mbt σ x)))) (s60 σ) else False
  | _ => False
theorem dX6_isThere_0 : decode cX6_isThere 0 = .ok (.aload_n 0, 1) := by decide +kernel
theorem dX6_isThere_1 : decode cX6_isThere 1 = .ok (.iconst 0, 1) := by decide +kernel
theorem dX6_isThere_2 : decode cX6_isThere 2 = .ok (.putfield 87, 3) := by decide +kernel
theorem dX6_isThere_5 : decode cX6_isThere 5 = .ok (.iload_n 1, 1) := by decide +kernel
theorem dX6_isThere_6 : decode cX6_isThere 6 = .ok (.iconst 1, 1) := by decide +kernel
theorem dX6_isThere_7 : decode cX6_isThere 7 = .ok (.if_icmp .lt 15, 3) := by decide +kernel
theorem dX6_isThere_10 : decode cX6_isThere 10 = .ok (.iload_n 1, 1) := by decide +kernel
theorem dX6_isThere_11 : decode cX6_isThere 11 = .ok (.aload_n 0, 1) := by decide +kernel
theorem dX6_isThere_12 : decode cX6_isThere 12 = .ok (.getfield 114, 3) := by decide +kernel
theorem dX6_isThere_15 : decode cX6_isThere 15 = .ok (.if_icmp .gt 7, 3) := by decide +kernel
theorem dX6_isThere_18 : decode cX6_isThere 18 = .ok (.iconst 1, 1) := by decide +kernel
theorem dX6_isThere_19 : decode cX6_isThere 19 = .ok (.goto 4, 3) := by decide +kernel
theorem dX6_isThere_22 : decode cX6_isThere 22 = .ok (.iconst 0, 1) := by decide +kernel
theorem dX6_isThere_23 : decode cX6_isThere 23 = .ok (.ireturn, 1) := by decide +kernel
theorem wf_X6_87 : Cond.fieldLink RX6 87 (TX6 0).1 (TX6 0).2.1 (TX6 0).2.2.1 ∈ ltb := List.mem_filter.mpr ⟨List.mem_append_right _ (List.mem_of_getElem? (i := 467) (by decide +kernel)), by decide +kernel⟩
noncomputable def pr_X6_isThere : Prg := [(0, z_aload 0 1), (1, z_ic (nI 0) 1), (2, z_mthr), (5, z_iload 1 1), (6, z_ic (nI 1) 1), (7, z_if2 (fun x y => x < y) 22), (10, z_iload 1 1), (11, z_aload 0 1), (12, z_get 5 1), (15, z_if2 (fun x y => y < x) 22), (18, z_ic (nI 1) 1), (19, z_goto 23), (22, z_ic (nI 0) 1), (23, z_zret)]
set_option maxRecDepth 100000 in
set_option maxHeartbeats 4000000 in
theorem sn_X6_isThere {G : Geo} (hG : GeoOK G) (l : Launch) : ∀ q ∈ pr_X6_isThere, Sn G l yX6_isThere.cls cX6_isThere 2 0 (some .boolean) q.1 q.2 :=
  fcs (zs_aload_n dX6_isThere_0 rfl) <| fcs (zs_iconst dX6_isThere_1 rfl) <| fcs (zs_mthr wf_X6_87 dX6_isThere_2) <| fcs (zs_iload_n dX6_isThere_5 rfl) <| fcs (zs_iconst dX6_isThere_6 rfl) <| fcs (zs_icmp_lt dX6_isThere_7 rfl) <| fcs (zs_iload_n dX6_isThere_10 rfl) <| fcs (zs_aload_n dX6_isThere_11 rfl) <| fcs (zs_get cls5 (by decide) (by decide) wf_X6_114 dX6_isThere_12) <| fcs (zs_icmp_gt dX6_isThere_15 rfl) <| fcs (zs_iconst dX6_isThere_18 rfl) <| fcs (zs_goto dX6_isThere_19 rfl) <| fcs (zs_iconst dX6_isThere_22 rfl) <| fcs (zs_zret dX6_isThere_23) <| fnl
set_option maxRecDepth 100000 in
set_option maxHeartbeats 4000000 in
theorem ct_X6_isThere {G : Geo} (hG : GeoOK G) (l : Launch) : Ct G l yX6_isThere cX6_isThere 2 (some .boolean) 0 sp_X6_isThere := by
  refine Ct.of pr_X6_isThere hG (by decide +kernel) (sn_X6_isThere hG l) ?_
  intro av σ post hok h
  unfold sp_X6_isThere at h
  split at h
  · rename_i b x
    obtain ⟨hb, h9⟩ := bif_t h
    clear h
    obtain rfl := is6_t hb
    have h := h9
    refine ⟨Nat.le_of_ble_eq_true rfl, fun X hX => ?_⟩
    have e0 : (s60 σ).2.2 6 1 = σ.2.2 6 1 := sI_n2 σ _ _ (by decide)
    refine go hX [] 60 ?_
    refine ⟨rfl, ?_⟩
    refine ⟨fun g1 => ?_, fun g1 => ⟨fun g2 => ?_, fun g2 => ?_⟩⟩
    · have e : mbt σ x = false := by unfold mbt; rw [decide_eq_false (fun q => q g1)]; rfl
      rw [e] at h
      exact ⟨Or.inl rfl, h⟩
    · have g2 : (s60 σ).2.2 6 1 < x := g2
      rw [e0] at g2
      have e : mbt σ x = false := by unfold mbt; rw [decide_eq_false (show ¬ ¬ σ.2.2 6 1 < x from fun q => q g2), Bool.and_false]
      rw [e] at h
      exact ⟨Or.inl rfl, h⟩
    · have g2 : ¬ (s60 σ).2.2 6 1 < x := g2
      rw [e0] at g2
      have e : mbt σ x = true := by unfold mbt; rw [decide_eq_true g1, decide_eq_true g2]; rfl
      rw [e] at h
      exact ⟨Or.inr rfl, h⟩
  · exact h.elim
theorem fi_l (x : Int32) : zi (lv (.inl x.toInt64)).toInt = fi x := by
  show zi x.toInt64.toInt = zi x.toInt
  rw [i2l_i]
noncomputable def sp_X6_three : Spc := fun av σ post => match av with
  | [.inr (.inr b), .inl x, .inl a, .inl p, .inl q, .inl r] => bif is6 b then (MI σ ∧ ∃ a', a = nI a' ∧ a' ≤ 11 ∧ post (some (ai (bz (mbt σ x)))) (bif mbt σ x then p3 (s60 σ) (20, 0) (16 * ix x + a') (fi p, fi q, fi r) else s60 σ)) else False
  | _ => False
theorem dX6_three_0 : decode cX6_three 0 = .ok (.aload_n 0, 1) := by decide +kernel
theorem dX6_three_1 : decode cX6_three 1 = .ok (.iload_n 1, 1) := by decide +kernel
theorem dX6_three_2 : decode cX6_three 2 = .ok (.invokevirtual 162, 3) := by decide +kernel
theorem dX6_three_5 : decode cX6_three 5 = .ok (.ifCond .ne 5, 3) := by decide +kernel
theorem dX6_three_8 : decode cX6_three 8 = .ok (.iconst 0, 1) := by decide +kernel
theorem dX6_three_9 : decode cX6_three 9 = .ok (.ireturn, 1) := by decide +kernel
theorem dX6_three_10 : decode cX6_three 10 = .ok (.aload_n 0, 1) := by decide +kernel
theorem dX6_three_11 : decode cX6_three 11 = .ok (.getfield 17, 3) := by decide +kernel
theorem dX6_three_14 : decode cX6_three 14 = .ok (.bipush 16, 2) := by decide +kernel
theorem dX6_three_16 : decode cX6_three 16 = .ok (.iload_n 1, 1) := by decide +kernel
theorem dX6_three_17 : decode cX6_three 17 = .ok (.imul, 1) := by decide +kernel
theorem dX6_three_18 : decode cX6_three 18 = .ok (.iload_n 2, 1) := by decide +kernel
theorem dX6_three_19 : decode cX6_three 19 = .ok (.iadd, 1) := by decide +kernel
theorem dX6_three_20 : decode cX6_three 20 = .ok (.iload_n 3, 1) := by decide +kernel
theorem dX6_three_21 : decode cX6_three 21 = .ok (.i2l, 1) := by decide +kernel
theorem dX6_three_22 : decode cX6_three 22 = .ok (.invokestatic 97, 3) := by decide +kernel
theorem dX6_three_25 : decode cX6_three 25 = .ok (.lastore, 1) := by decide +kernel
theorem dX6_three_26 : decode cX6_three 26 = .ok (.aload_n 0, 1) := by decide +kernel
theorem dX6_three_27 : decode cX6_three 27 = .ok (.getfield 17, 3) := by decide +kernel
theorem dX6_three_30 : decode cX6_three 30 = .ok (.bipush 16, 2) := by decide +kernel
theorem dX6_three_32 : decode cX6_three 32 = .ok (.iload_n 1, 1) := by decide +kernel
theorem dX6_three_33 : decode cX6_three 33 = .ok (.imul, 1) := by decide +kernel
theorem dX6_three_34 : decode cX6_three 34 = .ok (.iload_n 2, 1) := by decide +kernel
theorem dX6_three_35 : decode cX6_three 35 = .ok (.iadd, 1) := by decide +kernel
theorem dX6_three_36 : decode cX6_three 36 = .ok (.iconst 1, 1) := by decide +kernel
theorem dX6_three_37 : decode cX6_three 37 = .ok (.iadd, 1) := by decide +kernel
theorem dX6_three_38 : decode cX6_three 38 = .ok (.iload 4, 2) := by decide +kernel
theorem dX6_three_40 : decode cX6_three 40 = .ok (.i2l, 1) := by decide +kernel
theorem dX6_three_41 : decode cX6_three 41 = .ok (.invokestatic 97, 3) := by decide +kernel
theorem dX6_three_44 : decode cX6_three 44 = .ok (.lastore, 1) := by decide +kernel
theorem dX6_three_45 : decode cX6_three 45 = .ok (.aload_n 0, 1) := by decide +kernel
theorem dX6_three_46 : decode cX6_three 46 = .ok (.getfield 17, 3) := by decide +kernel
theorem dX6_three_49 : decode cX6_three 49 = .ok (.bipush 16, 2) := by decide +kernel
theorem dX6_three_51 : decode cX6_three 51 = .ok (.iload_n 1, 1) := by decide +kernel
theorem dX6_three_52 : decode cX6_three 52 = .ok (.imul, 1) := by decide +kernel
theorem dX6_three_53 : decode cX6_three 53 = .ok (.iload_n 2, 1) := by decide +kernel
theorem dX6_three_54 : decode cX6_three 54 = .ok (.iadd, 1) := by decide +kernel
theorem dX6_three_55 : decode cX6_three 55 = .ok (.iconst 2, 1) := by decide +kernel
theorem dX6_three_56 : decode cX6_three 56 = .ok (.iadd, 1) := by decide +kernel
theorem dX6_three_57 : decode cX6_three 57 = .ok (.iload 5, 2) := by decide +kernel
theorem dX6_three_59 : decode cX6_three 59 = .ok (.i2l, 1) := by decide +kernel
theorem dX6_three_60 : decode cX6_three 60 = .ok (.invokestatic 97, 3) := by decide +kernel
theorem dX6_three_63 : decode cX6_three 63 = .ok (.lastore, 1) := by decide +kernel
theorem dX6_three_64 : decode cX6_three 64 = .ok (.iconst 1, 1) := by decide +kernel
theorem dX6_three_65 : decode cX6_three 65 = .ok (.ireturn, 1) := by decide +kernel
theorem wc_X6_isThere : Cond.code yX6_isThere cX6_isThere 2 (some .boolean) ∈ ltb := List.mem_filter.mpr ⟨List.mem_append_right _ (List.mem_of_getElem? (i := 566) (by decide +kernel)), by decide +kernel⟩
theorem mi_X6_isThere : Mi yX6_isThere RX6 1 cX6_isThere 2 (some .boolean) := ⟨by decide +kernel, wc_X6_isThere, wi_X6, by decide⟩
theorem wv_X6_isThere : Cond.instanceMethod yX6_isThere ∈ ltb := List.mem_filter.mpr ⟨List.mem_append_right _ (List.mem_of_getElem? (i := 565) (by decide +kernel)), by decide +kernel⟩
theorem we_X6_isThere : Cond.selects RX6 yX6_isThere yX6_isThere ∈ ltb := List.mem_filter.mpr ⟨List.mem_append_left _ (List.mem_of_getElem? (i := 11) (by decide +kernel)), by decide +kernel⟩
theorem wm_X6_162 : Cond.methodLink RX6 162 yX6_isThere ∈ ltb := List.mem_filter.mpr ⟨List.mem_append_right _ (List.mem_of_getElem? (i := 563) (by decide +kernel)), by decide +kernel⟩
noncomputable def pr_X6_three : Prg := [(0, z_aload 0 1), (1, z_iload 1 1), (2, z_callv 1 5 sp_X6_isThere), (5, z_nf1 10), (8, z_ic (nI 0) 1), (9, z_zret), (10, z_aload 0 1), (11, z_get 5 4), (14, z_ic (nI 16) 2), (16, z_iload 1 1), (17, z_imul), (18, z_iload 2 1), (19, z_iadd), (20, z_iload 3 1), (21, z_i2l), (22, z_call 1 sp_X6_of), (25, z_lastore), (26, z_aload 0 1), (27, z_get 5 4), (30, z_ic (nI 16) 2), (32, z_iload 1 1), (33, z_imul), (34, z_iload 2 1), (35, z_iadd), (36, z_ic (nI 1) 1), (37, z_iadd), (38, z_iload 4 2), (40, z_i2l), (41, z_call 1 sp_X6_of), (44, z_lastore), (45, z_aload 0 1), (46, z_get 5 4), (49, z_ic (nI 16) 2), (51, z_iload 1 1), (52, z_imul), (53, z_iload 2 1), (54, z_iadd), (55, z_ic (nI 2) 1), (56, z_iadd), (57, z_iload 5 2), (59, z_i2l), (60, z_call 1 sp_X6_of), (63, z_lastore), (64, z_ic (nI 1) 1), (65, z_zret)]
set_option maxRecDepth 100000 in
set_option maxHeartbeats 4000000 in
theorem sn_X6_three {G : Geo} (hG : GeoOK G) (l : Launch) : ∀ q ∈ pr_X6_three, Sn G l yX6_three.cls cX6_three 6 1 (some .boolean) q.1 q.2 :=
  fcs (zs_aload_n dX6_three_0 rfl) <| fcs (zs_iload_n dX6_three_1 rfl) <| fcs (zs_callv cls5 (by decide) (ct_X6_isThere hG l) mi_X6_isThere wv_X6_isThere we_X6_isThere (by decide) wm_X6_162 dX6_three_2) <| fcs (zs_if_ne dX6_three_5 rfl) <| fcs (zs_iconst dX6_three_8 rfl) <| fcs (zs_zret dX6_three_9) <| fcs (zs_aload_n dX6_three_10 rfl) <| fcs (zs_get cls5 (by decide) (by decide) wf_X6_17 dX6_three_11) <| fcs (zs_bipush dX6_three_14 rfl) <| fcs (zs_iload_n dX6_three_16 rfl) <| fcs (zs_imul dX6_three_17) <| fcs (zs_iload_n dX6_three_18 rfl) <| fcs (zs_iadd dX6_three_19) <| fcs (zs_iload_n dX6_three_20 rfl) <| fcs (zs_i2l dX6_three_21) <| fcs (zs_calls (ct_X6_of hG l) mi_X6_of ws_X6_of (by decide) wm_X6_97 dX6_three_22) <| fcs (zs_lastore dX6_three_25) <| fcs (zs_aload_n dX6_three_26 rfl) <| fcs (zs_get cls5 (by decide) (by decide) wf_X6_17 dX6_three_27) <| fcs (zs_bipush dX6_three_30 rfl) <| fcs (zs_iload_n dX6_three_32 rfl) <| fcs (zs_imul dX6_three_33) <| fcs (zs_iload_n dX6_three_34 rfl) <| fcs (zs_iadd dX6_three_35) <| fcs (zs_iconst dX6_three_36 rfl) <| fcs (zs_iadd dX6_three_37) <| fcs (zs_iload dX6_three_38) <| fcs (zs_i2l dX6_three_40) <| fcs (zs_calls (ct_X6_of hG l) mi_X6_of ws_X6_of (by decide) wm_X6_97 dX6_three_41) <| fcs (zs_lastore dX6_three_44) <| fcs (zs_aload_n dX6_three_45 rfl) <| fcs (zs_get cls5 (by decide) (by decide) wf_X6_17 dX6_three_46) <| fcs (zs_bipush dX6_three_49 rfl) <| fcs (zs_iload_n dX6_three_51 rfl) <| fcs (zs_imul dX6_three_52) <| fcs (zs_iload_n dX6_three_53 rfl) <| fcs (zs_iadd dX6_three_54) <| fcs (zs_iconst dX6_three_55 rfl) <| fcs (zs_iadd dX6_three_56) <| fcs (zs_iload dX6_three_57) <| fcs (zs_i2l dX6_three_59) <| fcs (zs_calls (ct_X6_of hG l) mi_X6_of ws_X6_of (by decide) wm_X6_97 dX6_three_60) <| fcs (zs_lastore dX6_three_63) <| fcs (zs_iconst dX6_three_64 rfl) <| fcs (zs_zret dX6_three_65) <| fnl
set_option maxRecDepth 100000 in
set_option maxHeartbeats 4000000 in
theorem ct_X6_three {G : Geo} (hG : GeoOK G) (l : Launch) : Ct G l yX6_three cX6_three 6 (some .boolean) 1 sp_X6_three := by
  refine Ct.of pr_X6_three hG (by decide +kernel) (sn_X6_three hG l) ?_
  intro av σ post hok h
  unfold sp_X6_three at h
  split at h
  · rename_i b x a p q r
    obtain ⟨hb, hI, a, rfl, ha, h9⟩ := bif_t h
    clear h
    obtain rfl := is6_t hb
    have h := h9
    refine ⟨Nat.le_of_ble_eq_true rfl, fun X hX => ?_⟩
    refine go hX [] 80 ?_
    cases hB : mbt σ x with
    | false =>
      rw [hB] at h
      refine ⟨fun g => absurd (bz_f hB) g, fun g => ?_⟩
      exact ⟨Or.inl rfl, h⟩
    | true =>
      rw [hB] at h
      obtain ⟨k, h1, h2, rfl⟩ := mbt_k hI hB
      have h7 := hI.2.1
      dsimp only [cond] at h
      rw [ix_k (by omega)] at h
      refine ⟨fun g => ?_, fun g => absurd g (bz_t hB)⟩
      refine ⟨⟨nle rfl, nle rfl⟩, 16 * k + a, _, by rw [pk_mul, nI_add], by show 16 * k + a < 128; omega, rfl, ?_⟩
      refine ⟨⟨nle rfl, nle rfl⟩, 16 * k + a + 1, _, by rw [pk_mul, nI_add, nI_add], by show 16 * k + a + 1 < 128; omega, rfl, ?_⟩
      refine ⟨⟨nle rfl, nle rfl⟩, 16 * k + a + 2, _, by rw [pk_mul, nI_add, nI_add], by show 16 * k + a + 2 < 128; omega, rfl, ?_⟩
      refine ⟨Or.inr rfl, ?_⟩
      exact cpost (p3_e (t := (20, 0)) (fi_l _) (fi_l _) (fi_l _)) h
  · exact h.elim
noncomputable def sp_X6_one : Spc := fun av σ post => match av with
  | [.inr (.inr b), .inl x, .inl a, .inl p] => bif is6 b then (MI σ ∧ ∃ a', a = nI a' ∧ a' ≤ 14 ∧ post (some (ai (bz (mbt σ x)))) (bif mbt σ x then sL (s60 σ) 20 0 (16 * ix x + a') (fi p) else s60 σ)) else False
  | _ => False
theorem dX6_one_0 : decode cX6_one 0 = .ok (.aload_n 0, 1) := by decide +kernel
theorem dX6_one_1 : decode cX6_one 1 = .ok (.iload_n 1, 1) := by decide +kernel
theorem dX6_one_2 : decode cX6_one 2 = .ok (.invokevirtual 162, 3) := by decide +kernel
theorem dX6_one_5 : decode cX6_one 5 = .ok (.ifCond .ne 5, 3) := by decide +kernel
theorem dX6_one_8 : decode cX6_one 8 = .ok (.iconst 0, 1) := by decide +kernel
theorem dX6_one_9 : decode cX6_one 9 = .ok (.ireturn, 1) := by decide +kernel
theorem dX6_one_10 : decode cX6_one 10 = .ok (.aload_n 0, 1) := by decide +kernel
theorem dX6_one_11 : decode cX6_one 11 = .ok (.getfield 17, 3) := by decide +kernel
theorem dX6_one_14 : decode cX6_one 14 = .ok (.bipush 16, 2) := by decide +kernel
theorem dX6_one_16 : decode cX6_one 16 = .ok (.iload_n 1, 1) := by decide +kernel
theorem dX6_one_17 : decode cX6_one 17 = .ok (.imul, 1) := by decide +kernel
theorem dX6_one_18 : decode cX6_one 18 = .ok (.iload_n 2, 1) := by decide +kernel
theorem dX6_one_19 : decode cX6_one 19 = .ok (.iadd, 1) := by decide +kernel
theorem dX6_one_20 : decode cX6_one 20 = .ok (.iload_n 3, 1) := by decide +kernel
theorem dX6_one_21 : decode cX6_one 21 = .ok (.i2l, 1) := by decide +kernel
theorem dX6_one_22 : decode cX6_one 22 = .ok (.invokestatic 97, 3) := by decide +kernel
theorem dX6_one_25 : decode cX6_one 25 = .ok (.lastore, 1) := by decide +kernel
theorem dX6_one_26 : decode cX6_one 26 = .ok (.iconst 1, 1) := by decide +kernel
theorem dX6_one_27 : decode cX6_one 27 = .ok (.ireturn, 1) := by decide +kernel
noncomputable def pr_X6_one : Prg := [(0, z_aload 0 1), (1, z_iload 1 1), (2, z_callv 1 5 sp_X6_isThere), (5, z_nf1 10), (8, z_ic (nI 0) 1), (9, z_zret), (10, z_aload 0 1), (11, z_get 5 4), (14, z_ic (nI 16) 2), (16, z_iload 1 1), (17, z_imul), (18, z_iload 2 1), (19, z_iadd), (20, z_iload 3 1), (21, z_i2l), (22, z_call 1 sp_X6_of), (25, z_lastore), (26, z_ic (nI 1) 1), (27, z_zret)]
set_option maxRecDepth 100000 in
set_option maxHeartbeats 4000000 in
theorem sn_X6_one {G : Geo} (hG : GeoOK G) (l : Launch) : ∀ q ∈ pr_X6_one, Sn G l yX6_one.cls cX6_one 4 1 (some .boolean) q.1 q.2 :=
  fcs (zs_aload_n dX6_one_0 rfl) <| fcs (zs_iload_n dX6_one_1 rfl) <| fcs (zs_callv cls5 (by decide) (ct_X6_isThere hG l) mi_X6_isThere wv_X6_isThere we_X6_isThere (by decide) wm_X6_162 dX6_one_2) <| fcs (zs_if_ne dX6_one_5 rfl) <| fcs (zs_iconst dX6_one_8 rfl) <| fcs (zs_zret dX6_one_9) <| fcs (zs_aload_n dX6_one_10 rfl) <| fcs (zs_get cls5 (by decide) (by decide) wf_X6_17 dX6_one_11) <| fcs (zs_bipush dX6_one_14 rfl) <| fcs (zs_iload_n dX6_one_16 rfl) <| fcs (zs_imul dX6_one_17) <| fcs (zs_iload_n dX6_one_18 rfl) <| fcs (zs_iadd dX6_one_19) <| fcs (zs_iload_n dX6_one_20 rfl) <| fcs (zs_i2l dX6_one_21) <| fcs (zs_calls (ct_X6_of hG l) mi_X6_of ws_X6_of (by decide) wm_X6_97 dX6_one_22) <| fcs (zs_lastore dX6_one_25) <| fcs (zs_iconst dX6_one_26 rfl) <| fcs (zs_zret dX6_one_27) <| fnl
set_option maxRecDepth 100000 in
set_option maxHeartbeats 4000000 in
theorem ct_X6_one {G : Geo} (hG : GeoOK G) (l : Launch) : Ct G l yX6_one cX6_one 4 (some .boolean) 1 sp_X6_one := by
  refine Ct.of pr_X6_one hG (by decide +kernel) (sn_X6_one hG l) ?_
  intro av σ post hok h
  unfold sp_X6_one at h
  split at h
  · rename_i b x a p
    obtain ⟨hb, hI, a, rfl, ha, h9⟩ := bif_t h
    clear h
    obtain rfl := is6_t hb
    have h := h9
    refine ⟨Nat.le_of_ble_eq_true rfl, fun X hX => ?_⟩
    refine go hX [] 60 ?_
    cases hB : mbt σ x with
    | false =>
      rw [hB] at h
      refine ⟨fun g => absurd (bz_f hB) g, fun g => ?_⟩
      exact ⟨Or.inl rfl, h⟩
    | true =>
      rw [hB] at h
      obtain ⟨k, h1, h2, rfl⟩ := mbt_k hI hB
      have h7 := hI.2.1
      dsimp only [cond] at h
      rw [ix_k (by omega), ← fi_l] at h
      refine ⟨fun g => ?_, fun g => absurd g (bz_t hB)⟩
      refine ⟨⟨nle rfl, nle rfl⟩, 16 * k + a, _, by rw [pk_mul, nI_add], by show 16 * k + a < 128; omega, rfl, ?_⟩
      exact ⟨Or.inr rfl, h⟩
  · exact h.elim
noncomputable def sp_X6_place : Spc := fun av σ post => match av with
  | [.inr (.inr b), .inl x, .inl p, .inl q, .inl r] => bif is6 b then (MI σ ∧ post (some (ai (bz (mbt σ x)))) (bif mbt σ x then p3 (s60 σ) (20, 0) (16 * ix x + 0) (fi p, fi q, fi r) else s60 σ)) else False
  | _ => False
theorem dX6_place_0 : decode cX6_place 0 = .ok (.aload_n 0, 1) := by decide +kernel
theorem dX6_place_1 : decode cX6_place 1 = .ok (.iload_n 1, 1) := by decide +kernel
theorem dX6_place_2 : decode cX6_place 2 = .ok (.iconst 0, 1) := by decide +kernel
theorem dX6_place_3 : decode cX6_place 3 = .ok (.iload_n 2, 1) := by decide +kernel
theorem dX6_place_4 : decode cX6_place 4 = .ok (.iload_n 3, 1) := by decide +kernel
theorem dX6_place_5 : decode cX6_place 5 = .ok (.iload 4, 2) := by decide +kernel
theorem dX6_place_7 : decode cX6_place 7 = .ok (.invokevirtual 166, 3) := by decide +kernel
theorem dX6_place_10 : decode cX6_place 10 = .ok (.ireturn, 1) := by decide +kernel
theorem wc_X6_three : Cond.code yX6_three cX6_three 6 (some .boolean) ∈ ltb := List.mem_filter.mpr ⟨List.mem_append_right _ (List.mem_of_getElem? (i := 562) (by decide +kernel)), by decide +kernel⟩
theorem mi_X6_three : Mi yX6_three RX6 5 cX6_three 6 (some .boolean) := ⟨by decide +kernel, wc_X6_three, wi_X6, by decide⟩
theorem wv_X6_three : Cond.instanceMethod yX6_three ∈ ltb := List.mem_filter.mpr ⟨List.mem_append_right _ (List.mem_of_getElem? (i := 561) (by decide +kernel)), by decide +kernel⟩
theorem we_X6_three : Cond.selects RX6 yX6_three yX6_three ∈ ltb := List.mem_filter.mpr ⟨List.mem_append_left _ (List.mem_of_getElem? (i := 10) (by decide +kernel)), by decide +kernel⟩
theorem wm_X6_166 : Cond.methodLink RX6 166 yX6_three ∈ ltb := List.mem_filter.mpr ⟨List.mem_append_right _ (List.mem_of_getElem? (i := 559) (by decide +kernel)), by decide +kernel⟩
noncomputable def pr_X6_place : Prg := [(0, z_aload 0 1), (1, z_iload 1 1), (2, z_ic (nI 0) 1), (3, z_iload 2 1), (4, z_iload 3 1), (5, z_iload 4 2), (7, z_callv 5 5 sp_X6_three), (10, z_zret)]
set_option maxRecDepth 100000 in
set_option maxHeartbeats 4000000 in
theorem sn_X6_place {G : Geo} (hG : GeoOK G) (l : Launch) : ∀ q ∈ pr_X6_place, Sn G l yX6_place.cls cX6_place 5 2 (some .boolean) q.1 q.2 :=
  fcs (zs_aload_n dX6_place_0 rfl) <| fcs (zs_iload_n dX6_place_1 rfl) <| fcs (zs_iconst dX6_place_2 rfl) <| fcs (zs_iload_n dX6_place_3 rfl) <| fcs (zs_iload_n dX6_place_4 rfl) <| fcs (zs_iload dX6_place_5) <| fcs (zs_callv cls5 (by decide) (ct_X6_three hG l) mi_X6_three wv_X6_three we_X6_three (by decide) wm_X6_166 dX6_place_7) <| fcs (zs_zret dX6_place_10) <| fnl
set_option maxRecDepth 100000 in
set_option maxHeartbeats 4000000 in
theorem ct_X6_place {G : Geo} (hG : GeoOK G) (l : Launch) : Ct G l yX6_place cX6_place 5 (some .boolean) 2 sp_X6_place := by
  refine Ct.of pr_X6_place hG (by decide +kernel) (sn_X6_place hG l) ?_
  intro av σ post hok h
  unfold sp_X6_place at h
  split at h
  · rename_i b x p q r
    obtain ⟨hb, hI, h9⟩ := bif_t h
    clear h
    obtain rfl := is6_t hb
    refine ⟨Nat.le_of_ble_eq_true rfl, fun X hX => ?_⟩
    refine go hX [] 60 ?_
    refine ⟨hI, 0, rfl, by decide, ?_⟩
    refine ⟨?_, h9⟩
    cases mbt σ x
    · exact Or.inl rfl
    · exact Or.inr rfl
  · exact h.elim
noncomputable def sp_X6_centre : Spc := fun av σ post => match av with
  | [.inr (.inr b), .inl x, .inl p, .inl q, .inl r] => bif is6 b then (MI σ ∧ post (some (ai (bz (mbt σ x)))) (bif mbt σ x then p3 (s60 σ) (20, 0) (16 * ix x + 5) (fi p, fi q, fi r) else s60 σ)) else False
  | _ => False
theorem dX6_centre_0 : decode cX6_centre 0 = .ok (.aload_n 0, 1) := by decide +kernel
theorem dX6_centre_1 : decode cX6_centre 1 = .ok (.iload_n 1, 1) := by decide +kernel
theorem dX6_centre_2 : decode cX6_centre 2 = .ok (.iconst 5, 1) := by decide +kernel
theorem dX6_centre_3 : decode cX6_centre 3 = .ok (.iload_n 2, 1) := by decide +kernel
theorem dX6_centre_4 : decode cX6_centre 4 = .ok (.iload_n 3, 1) := by decide +kernel
theorem dX6_centre_5 : decode cX6_centre 5 = .ok (.iload 4, 2) := by decide +kernel
theorem dX6_centre_7 : decode cX6_centre 7 = .ok (.invokevirtual 166, 3) := by decide +kernel
theorem dX6_centre_10 : decode cX6_centre 10 = .ok (.ireturn, 1) := by decide +kernel
noncomputable def pr_X6_centre : Prg := [(0, z_aload 0 1), (1, z_iload 1 1), (2, z_ic (nI 5) 1), (3, z_iload 2 1), (4, z_iload 3 1), (5, z_iload 4 2), (7, z_callv 5 5 sp_X6_three), (10, z_zret)]
set_option maxRecDepth 100000 in
set_option maxHeartbeats 4000000 in
theorem sn_X6_centre {G : Geo} (hG : GeoOK G) (l : Launch) : ∀ q ∈ pr_X6_centre, Sn G l yX6_centre.cls cX6_centre 5 2 (some .boolean) q.1 q.2 :=
  fcs (zs_aload_n dX6_centre_0 rfl) <| fcs (zs_iload_n dX6_centre_1 rfl) <| fcs (zs_iconst dX6_centre_2 rfl) <| fcs (zs_iload_n dX6_centre_3 rfl) <| fcs (zs_iload_n dX6_centre_4 rfl) <| fcs (zs_iload dX6_centre_5) <| fcs (zs_callv cls5 (by decide) (ct_X6_three hG l) mi_X6_three wv_X6_three we_X6_three (by decide) wm_X6_166 dX6_centre_7) <| fcs (zs_zret dX6_centre_10) <| fnl
set_option maxRecDepth 100000 in
set_option maxHeartbeats 4000000 in
theorem ct_X6_centre {G : Geo} (hG : GeoOK G) (l : Launch) : Ct G l yX6_centre cX6_centre 5 (some .boolean) 2 sp_X6_centre := by
  refine Ct.of pr_X6_centre hG (by decide +kernel) (sn_X6_centre hG l) ?_
  intro av σ post hok h
  unfold sp_X6_centre at h
  split at h
  · rename_i b x p q r
    obtain ⟨hb, hI, h9⟩ := bif_t h
    clear h
    obtain rfl := is6_t hb
    refine ⟨Nat.le_of_ble_eq_true rfl, fun X hX => ?_⟩
    refine go hX [] 60 ?_
    refine ⟨hI, 5, rfl, by decide, ?_⟩
    refine ⟨?_, h9⟩
    cases mbt σ x
    · exact Or.inl rfl
    · exact Or.inr rfl
  · exact h.elim
noncomputable def sp_X6_inertia : Spc := fun av σ post => match av with
  | [.inr (.inr b), .inl x, .inl p, .inl q, .inl r] => bif is6 b then (MI σ ∧ post (some (ai (bz (mbt σ x)))) (bif mbt σ x then p3 (s60 σ) (20, 0) (16 * ix x + 8) (fi p, fi q, fi r) else s60 σ)) else False
  | _ => False
theorem dX6_inertia_0 : decode cX6_inertia 0 = .ok (.aload_n 0, 1) := by decide +kernel
theorem dX6_inertia_1 : decode cX6_inertia 1 = .ok (.iload_n 1, 1) := by decide +kernel
theorem dX6_inertia_2 : decode cX6_inertia 2 = .ok (.bipush 8, 2) := by decide +kernel
theorem dX6_inertia_4 : decode cX6_inertia 4 = .ok (.iload_n 2, 1) := by decide +kernel
theorem dX6_inertia_5 : decode cX6_inertia 5 = .ok (.iload_n 3, 1) := by decide +kernel
theorem dX6_inertia_6 : decode cX6_inertia 6 = .ok (.iload 4, 2) := by decide +kernel
theorem dX6_inertia_8 : decode cX6_inertia 8 = .ok (.invokevirtual 166, 3) := by decide +kernel
theorem dX6_inertia_11 : decode cX6_inertia 11 = .ok (.ireturn, 1) := by decide +kernel
noncomputable def pr_X6_inertia : Prg := [(0, z_aload 0 1), (1, z_iload 1 1), (2, z_ic (nI 8) 2), (4, z_iload 2 1), (5, z_iload 3 1), (6, z_iload 4 2), (8, z_callv 5 5 sp_X6_three), (11, z_zret)]
set_option maxRecDepth 100000 in
set_option maxHeartbeats 4000000 in
theorem sn_X6_inertia {G : Geo} (hG : GeoOK G) (l : Launch) : ∀ q ∈ pr_X6_inertia, Sn G l yX6_inertia.cls cX6_inertia 5 2 (some .boolean) q.1 q.2 :=
  fcs (zs_aload_n dX6_inertia_0 rfl) <| fcs (zs_iload_n dX6_inertia_1 rfl) <| fcs (zs_bipush dX6_inertia_2 rfl) <| fcs (zs_iload_n dX6_inertia_4 rfl) <| fcs (zs_iload_n dX6_inertia_5 rfl) <| fcs (zs_iload dX6_inertia_6) <| fcs (zs_callv cls5 (by decide) (ct_X6_three hG l) mi_X6_three wv_X6_three we_X6_three (by decide) wm_X6_166 dX6_inertia_8) <| fcs (zs_zret dX6_inertia_11) <| fnl
set_option maxRecDepth 100000 in
set_option maxHeartbeats 4000000 in
theorem ct_X6_inertia {G : Geo} (hG : GeoOK G) (l : Launch) : Ct G l yX6_inertia cX6_inertia 5 (some .boolean) 2 sp_X6_inertia := by
  refine Ct.of pr_X6_inertia hG (by decide +kernel) (sn_X6_inertia hG l) ?_
  intro av σ post hok h
  unfold sp_X6_inertia at h
  split at h
  · rename_i b x p q r
    obtain ⟨hb, hI, h9⟩ := bif_t h
    clear h
    obtain rfl := is6_t hb
    refine ⟨Nat.le_of_ble_eq_true rfl, fun X hX => ?_⟩
    refine go hX [] 60 ?_
    refine ⟨hI, 8, rfl, by decide, ?_⟩
    refine ⟨?_, h9⟩
    cases mbt σ x
    · exact Or.inl rfl
    · exact Or.inr rfl
  · exact h.elim
noncomputable def sp_X6_products : Spc := fun av σ post => match av with
  | [.inr (.inr b), .inl x, .inl p, .inl q, .inl r] => bif is6 b then (MI σ ∧ post (some (ai (bz (mbt σ x)))) (bif mbt σ x then p3 (s60 σ) (20, 0) (16 * ix x + 11) (fi p, fi q, fi r) else s60 σ)) else False
  | _ => False
theorem dX6_products_0 : decode cX6_products 0 = .ok (.aload_n 0, 1) := by decide +kernel
theorem dX6_products_1 : decode cX6_products 1 = .ok (.iload_n 1, 1) := by decide +kernel
theorem dX6_products_2 : decode cX6_products 2 = .ok (.bipush 11, 2) := by decide +kernel
theorem dX6_products_4 : decode cX6_products 4 = .ok (.iload_n 2, 1) := by decide +kernel
theorem dX6_products_5 : decode cX6_products 5 = .ok (.iload_n 3, 1) := by decide +kernel
theorem dX6_products_6 : decode cX6_products 6 = .ok (.iload 4, 2) := by decide +kernel
theorem dX6_products_8 : decode cX6_products 8 = .ok (.invokevirtual 166, 3) := by decide +kernel
theorem dX6_products_11 : decode cX6_products 11 = .ok (.ireturn, 1) := by decide +kernel
noncomputable def pr_X6_products : Prg := [(0, z_aload 0 1), (1, z_iload 1 1), (2, z_ic (nI 11) 2), (4, z_iload 2 1), (5, z_iload 3 1), (6, z_iload 4 2), (8, z_callv 5 5 sp_X6_three), (11, z_zret)]
set_option maxRecDepth 100000 in
set_option maxHeartbeats 4000000 in
theorem sn_X6_products {G : Geo} (hG : GeoOK G) (l : Launch) : ∀ q ∈ pr_X6_products, Sn G l yX6_products.cls cX6_products 5 2 (some .boolean) q.1 q.2 :=
  fcs (zs_aload_n dX6_products_0 rfl) <| fcs (zs_iload_n dX6_products_1 rfl) <| fcs (zs_bipush dX6_products_2 rfl) <| fcs (zs_iload_n dX6_products_4 rfl) <| fcs (zs_iload_n dX6_products_5 rfl) <| fcs (zs_iload dX6_products_6) <| fcs (zs_callv cls5 (by decide) (ct_X6_three hG l) mi_X6_three wv_X6_three we_X6_three (by decide) wm_X6_166 dX6_products_8) <| fcs (zs_zret dX6_products_11) <| fnl
set_option maxRecDepth 100000 in
set_option maxHeartbeats 4000000 in
theorem ct_X6_products {G : Geo} (hG : GeoOK G) (l : Launch) : Ct G l yX6_products cX6_products 5 (some .boolean) 2 sp_X6_products := by
  refine Ct.of pr_X6_products hG (by decide +kernel) (sn_X6_products hG l) ?_
  intro av σ post hok h
  unfold sp_X6_products at h
  split at h
  · rename_i b x p q r
    obtain ⟨hb, hI, h9⟩ := bif_t h
    clear h
    obtain rfl := is6_t hb
    refine ⟨Nat.le_of_ble_eq_true rfl, fun X hX => ?_⟩
    refine go hX [] 60 ?_
    refine ⟨hI, 11, rfl, by decide, ?_⟩
    refine ⟨?_, h9⟩
    cases mbt σ x
    · exact Or.inl rfl
    · exact Or.inr rfl
  · exact h.elim
noncomputable def sp_X6_tilt : Spc := fun av σ post => match av with
  | [.inr (.inr b), .inl x, .inl p] => bif is6 b then (MI σ ∧ post (some (ai (bz (mbt σ x)))) (bif mbt σ x then sL (s60 σ) 20 0 (16 * ix x + 3) (fi p) else s60 σ)) else False
  | _ => False
theorem dX6_tilt_0 : decode cX6_tilt 0 = .ok (.aload_n 0, 1) := by decide +kernel
theorem dX6_tilt_1 : decode cX6_tilt 1 = .ok (.iload_n 1, 1) := by decide +kernel
theorem dX6_tilt_2 : decode cX6_tilt 2 = .ok (.iconst 3, 1) := by decide +kernel
theorem dX6_tilt_3 : decode cX6_tilt 3 = .ok (.iload_n 2, 1) := by decide +kernel
theorem dX6_tilt_4 : decode cX6_tilt 4 = .ok (.invokevirtual 170, 3) := by decide +kernel
theorem dX6_tilt_7 : decode cX6_tilt 7 = .ok (.ireturn, 1) := by decide +kernel
theorem wc_X6_one : Cond.code yX6_one cX6_one 4 (some .boolean) ∈ ltb := List.mem_filter.mpr ⟨List.mem_append_right _ (List.mem_of_getElem? (i := 578) (by decide +kernel)), by decide +kernel⟩
theorem mi_X6_one : Mi yX6_one RX6 3 cX6_one 4 (some .boolean) := ⟨by decide +kernel, wc_X6_one, wi_X6, by decide⟩
theorem wv_X6_one : Cond.instanceMethod yX6_one ∈ ltb := List.mem_filter.mpr ⟨List.mem_append_right _ (List.mem_of_getElem? (i := 577) (by decide +kernel)), by decide +kernel⟩
theorem we_X6_one : Cond.selects RX6 yX6_one yX6_one ∈ ltb := List.mem_filter.mpr ⟨List.mem_append_left _ (List.mem_of_getElem? (i := 12) (by decide +kernel)), by decide +kernel⟩
theorem wm_X6_170 : Cond.methodLink RX6 170 yX6_one ∈ ltb := List.mem_filter.mpr ⟨List.mem_append_right _ (List.mem_of_getElem? (i := 575) (by decide +kernel)), by decide +kernel⟩
noncomputable def pr_X6_tilt : Prg := [(0, z_aload 0 1), (1, z_iload 1 1), (2, z_ic (nI 3) 1), (3, z_iload 2 1), (4, z_callv 3 5 sp_X6_one), (7, z_zret)]
set_option maxRecDepth 100000 in
set_option maxHeartbeats 4000000 in
theorem sn_X6_tilt {G : Geo} (hG : GeoOK G) (l : Launch) : ∀ q ∈ pr_X6_tilt, Sn G l yX6_tilt.cls cX6_tilt 3 2 (some .boolean) q.1 q.2 :=
  fcs (zs_aload_n dX6_tilt_0 rfl) <| fcs (zs_iload_n dX6_tilt_1 rfl) <| fcs (zs_iconst dX6_tilt_2 rfl) <| fcs (zs_iload_n dX6_tilt_3 rfl) <| fcs (zs_callv cls5 (by decide) (ct_X6_one hG l) mi_X6_one wv_X6_one we_X6_one (by decide) wm_X6_170 dX6_tilt_4) <| fcs (zs_zret dX6_tilt_7) <| fnl
set_option maxRecDepth 100000 in
set_option maxHeartbeats 4000000 in
theorem ct_X6_tilt {G : Geo} (hG : GeoOK G) (l : Launch) : Ct G l yX6_tilt cX6_tilt 3 (some .boolean) 2 sp_X6_tilt := by
  refine Ct.of pr_X6_tilt hG (by decide +kernel) (sn_X6_tilt hG l) ?_
  intro av σ post hok h
  unfold sp_X6_tilt at h
  split at h
  · rename_i b x p
    obtain ⟨hb, hI, h9⟩ := bif_t h
    clear h
    obtain rfl := is6_t hb
    refine ⟨Nat.le_of_ble_eq_true rfl, fun X hX => ?_⟩
    refine go hX [] 60 ?_
    refine ⟨hI, 3, rfl, by decide, ?_⟩
    refine ⟨?_, h9⟩
    cases mbt σ x
    · exact Or.inl rfl
    · exact Or.inr rfl
  · exact h.elim
noncomputable def sp_X6_mass : Spc := fun av σ post => match av with
  | [.inr (.inr b), .inl x, .inl p] => bif is6 b then (MI σ ∧ post (some (ai (bz (mbt σ x)))) (bif mbt σ x then sL (s60 σ) 20 0 (16 * ix x + 4) (fi p) else s60 σ)) else False
  | _ => False
theorem dX6_mass_0 : decode cX6_mass 0 = .ok (.aload_n 0, 1) := by decide +kernel
theorem dX6_mass_1 : decode cX6_mass 1 = .ok (.iload_n 1, 1) := by decide +kernel
theorem dX6_mass_2 : decode cX6_mass 2 = .ok (.iconst 4, 1) := by decide +kernel
theorem dX6_mass_3 : decode cX6_mass 3 = .ok (.iload_n 2, 1) := by decide +kernel
theorem dX6_mass_4 : decode cX6_mass 4 = .ok (.invokevirtual 170, 3) := by decide +kernel
theorem dX6_mass_7 : decode cX6_mass 7 = .ok (.ireturn, 1) := by decide +kernel
noncomputable def pr_X6_mass : Prg := [(0, z_aload 0 1), (1, z_iload 1 1), (2, z_ic (nI 4) 1), (3, z_iload 2 1), (4, z_callv 3 5 sp_X6_one), (7, z_zret)]
set_option maxRecDepth 100000 in
set_option maxHeartbeats 4000000 in
theorem sn_X6_mass {G : Geo} (hG : GeoOK G) (l : Launch) : ∀ q ∈ pr_X6_mass, Sn G l yX6_mass.cls cX6_mass 3 2 (some .boolean) q.1 q.2 :=
  fcs (zs_aload_n dX6_mass_0 rfl) <| fcs (zs_iload_n dX6_mass_1 rfl) <| fcs (zs_iconst dX6_mass_2 rfl) <| fcs (zs_iload_n dX6_mass_3 rfl) <| fcs (zs_callv cls5 (by decide) (ct_X6_one hG l) mi_X6_one wv_X6_one we_X6_one (by decide) wm_X6_170 dX6_mass_4) <| fcs (zs_zret dX6_mass_7) <| fnl
set_option maxRecDepth 100000 in
set_option maxHeartbeats 4000000 in
theorem ct_X6_mass {G : Geo} (hG : GeoOK G) (l : Launch) : Ct G l yX6_mass cX6_mass 3 (some .boolean) 2 sp_X6_mass := by
  refine Ct.of pr_X6_mass hG (by decide +kernel) (sn_X6_mass hG l) ?_
  intro av σ post hok h
  unfold sp_X6_mass at h
  split at h
  · rename_i b x p
    obtain ⟨hb, hI, h9⟩ := bif_t h
    clear h
    obtain rfl := is6_t hb
    refine ⟨Nat.le_of_ble_eq_true rfl, fun X hX => ?_⟩
    refine go hX [] 60 ?_
    refine ⟨hI, 4, rfl, by decide, ?_⟩
    refine ⟨?_, h9⟩
    cases mbt σ x
    · exact Or.inl rfl
    · exact Or.inr rfl
  · exact h.elim
noncomputable def sp_X6_torque : Spc := fun av σ post => match av with
  | [.inr (.inr b), .inl x, .inl p] => bif is6 b then (MI σ ∧ post (some (ai (bz (mbt σ x)))) (bif mbt σ x then sL (s60 σ) 20 0 (16 * ix x + 14) (fi p) else s60 σ)) else False
  | _ => False
theorem dX6_torque_0 : decode cX6_torque 0 = .ok (.aload_n 0, 1) := by decide +kernel
theorem dX6_torque_1 : decode cX6_torque 1 = .ok (.iload_n 1, 1) := by decide +kernel
theorem dX6_torque_2 : decode cX6_torque 2 = .ok (.bipush 14, 2) := by decide +kernel
theorem dX6_torque_4 : decode cX6_torque 4 = .ok (.iload_n 2, 1) := by decide +kernel
theorem dX6_torque_5 : decode cX6_torque 5 = .ok (.invokevirtual 170, 3) := by decide +kernel
theorem dX6_torque_8 : decode cX6_torque 8 = .ok (.ireturn, 1) := by decide +kernel
noncomputable def pr_X6_torque : Prg := [(0, z_aload 0 1), (1, z_iload 1 1), (2, z_ic (nI 14) 2), (4, z_iload 2 1), (5, z_callv 3 5 sp_X6_one), (8, z_zret)]
set_option maxRecDepth 100000 in
set_option maxHeartbeats 4000000 in
theorem sn_X6_torque {G : Geo} (hG : GeoOK G) (l : Launch) : ∀ q ∈ pr_X6_torque, Sn G l yX6_torque.cls cX6_torque 3 2 (some .boolean) q.1 q.2 :=
  fcs (zs_aload_n dX6_torque_0 rfl) <| fcs (zs_iload_n dX6_torque_1 rfl) <| fcs (zs_bipush dX6_torque_2 rfl) <| fcs (zs_iload_n dX6_torque_4 rfl) <| fcs (zs_callv cls5 (by decide) (ct_X6_one hG l) mi_X6_one wv_X6_one we_X6_one (by decide) wm_X6_170 dX6_torque_5) <| fcs (zs_zret dX6_torque_8) <| fnl
set_option maxRecDepth 100000 in
set_option maxHeartbeats 4000000 in
theorem ct_X6_torque {G : Geo} (hG : GeoOK G) (l : Launch) : Ct G l yX6_torque cX6_torque 3 (some .boolean) 2 sp_X6_torque := by
  refine Ct.of pr_X6_torque hG (by decide +kernel) (sn_X6_torque hG l) ?_
  intro av σ post hok h
  unfold sp_X6_torque at h
  split at h
  · rename_i b x p
    obtain ⟨hb, hI, h9⟩ := bif_t h
    clear h
    obtain rfl := is6_t hb
    refine ⟨Nat.le_of_ble_eq_true rfl, fun X hX => ?_⟩
    refine go hX [] 60 ?_
    refine ⟨hI, 14, rfl, by decide, ?_⟩
    refine ⟨?_, h9⟩
    cases mbt σ x
    · exact Or.inl rfl
    · exact Or.inr rfl
  · exact h.elim
noncomputable def sp_X6_joint : Spc := fun av σ post => match av with
  | [.inr (.inr b), .inl x, .inl p, .inl q, .inl r] => bif is6 b then (MI σ ∧ post (some (ai (bz (mbt σ x)))) (bif mbt σ x then sL (sL (sL (s60 σ) 21 0 (ix x) (fi p)) 22 0 (ix x) (fi q)) 23 0 (ix x) (fi r) else s60 σ)) else False
  | _ => False
theorem dX6_joint_0 : decode cX6_joint 0 = .ok (.aload_n 0, 1) := by decide +kernel
theorem dX6_joint_1 : decode cX6_joint 1 = .ok (.iload_n 1, 1) := by decide +kernel
theorem dX6_joint_2 : decode cX6_joint 2 = .ok (.invokevirtual 162, 3) := by decide +kernel
theorem dX6_joint_5 : decode cX6_joint 5 = .ok (.ifCond .ne 5, 3) := by decide +kernel
theorem dX6_joint_8 : decode cX6_joint 8 = .ok (.iconst 0, 1) := by decide +kernel
theorem dX6_joint_9 : decode cX6_joint 9 = .ok (.ireturn, 1) := by decide +kernel
theorem dX6_joint_10 : decode cX6_joint 10 = .ok (.aload_n 0, 1) := by decide +kernel
theorem dX6_joint_11 : decode cX6_joint 11 = .ok (.getfield 21, 3) := by decide +kernel
theorem dX6_joint_14 : decode cX6_joint 14 = .ok (.iload_n 1, 1) := by decide +kernel
theorem dX6_joint_15 : decode cX6_joint 15 = .ok (.iload_n 2, 1) := by decide +kernel
theorem dX6_joint_16 : decode cX6_joint 16 = .ok (.i2l, 1) := by decide +kernel
theorem dX6_joint_17 : decode cX6_joint 17 = .ok (.invokestatic 97, 3) := by decide +kernel
theorem dX6_joint_20 : decode cX6_joint 20 = .ok (.lastore, 1) := by decide +kernel
theorem dX6_joint_21 : decode cX6_joint 21 = .ok (.aload_n 0, 1) := by decide +kernel
theorem dX6_joint_22 : decode cX6_joint 22 = .ok (.getfield 24, 3) := by decide +kernel
theorem dX6_joint_25 : decode cX6_joint 25 = .ok (.iload_n 1, 1) := by decide +kernel
theorem dX6_joint_26 : decode cX6_joint 26 = .ok (.iload_n 3, 1) := by decide +kernel
theorem dX6_joint_27 : decode cX6_joint 27 = .ok (.i2l, 1) := by decide +kernel
theorem dX6_joint_28 : decode cX6_joint 28 = .ok (.invokestatic 97, 3) := by decide +kernel
theorem dX6_joint_31 : decode cX6_joint 31 = .ok (.lastore, 1) := by decide +kernel
theorem dX6_joint_32 : decode cX6_joint 32 = .ok (.aload_n 0, 1) := by decide +kernel
theorem dX6_joint_33 : decode cX6_joint 33 = .ok (.getfield 27, 3) := by decide +kernel
theorem dX6_joint_36 : decode cX6_joint 36 = .ok (.iload_n 1, 1) := by decide +kernel
theorem dX6_joint_37 : decode cX6_joint 37 = .ok (.iload 4, 2) := by decide +kernel
theorem dX6_joint_39 : decode cX6_joint 39 = .ok (.i2l, 1) := by decide +kernel
theorem dX6_joint_40 : decode cX6_joint 40 = .ok (.invokestatic 97, 3) := by decide +kernel
theorem dX6_joint_43 : decode cX6_joint 43 = .ok (.lastore, 1) := by decide +kernel
theorem dX6_joint_44 : decode cX6_joint 44 = .ok (.iconst 1, 1) := by decide +kernel
theorem dX6_joint_45 : decode cX6_joint 45 = .ok (.ireturn, 1) := by decide +kernel
noncomputable def pr_X6_joint : Prg := [(0, z_aload 0 1), (1, z_iload 1 1), (2, z_callv 1 5 sp_X6_isThere), (5, z_nf1 10), (8, z_ic (nI 0) 1), (9, z_zret), (10, z_aload 0 1), (11, z_get 5 5), (14, z_iload 1 1), (15, z_iload 2 1), (16, z_i2l), (17, z_call 1 sp_X6_of), (20, z_lastore), (21, z_aload 0 1), (22, z_get 5 6), (25, z_iload 1 1), (26, z_iload 3 1), (27, z_i2l), (28, z_call 1 sp_X6_of), (31, z_lastore), (32, z_aload 0 1), (33, z_get 5 7), (36, z_iload 1 1), (37, z_iload 4 2), (39, z_i2l), (40, z_call 1 sp_X6_of), (43, z_lastore), (44, z_ic (nI 1) 1), (45, z_zret)]
set_option maxRecDepth 100000 in
set_option maxHeartbeats 4000000 in
theorem sn_X6_joint {G : Geo} (hG : GeoOK G) (l : Launch) : ∀ q ∈ pr_X6_joint, Sn G l yX6_joint.cls cX6_joint 5 1 (some .boolean) q.1 q.2 :=
  fcs (zs_aload_n dX6_joint_0 rfl) <| fcs (zs_iload_n dX6_joint_1 rfl) <| fcs (zs_callv cls5 (by decide) (ct_X6_isThere hG l) mi_X6_isThere wv_X6_isThere we_X6_isThere (by decide) wm_X6_162 dX6_joint_2) <| fcs (zs_if_ne dX6_joint_5 rfl) <| fcs (zs_iconst dX6_joint_8 rfl) <| fcs (zs_zret dX6_joint_9) <| fcs (zs_aload_n dX6_joint_10 rfl) <| fcs (zs_get cls5 (by decide) (by decide) wf_X6_21 dX6_joint_11) <| fcs (zs_iload_n dX6_joint_14 rfl) <| fcs (zs_iload_n dX6_joint_15 rfl) <| fcs (zs_i2l dX6_joint_16) <| fcs (zs_calls (ct_X6_of hG l) mi_X6_of ws_X6_of (by decide) wm_X6_97 dX6_joint_17) <| fcs (zs_lastore dX6_joint_20) <| fcs (zs_aload_n dX6_joint_21 rfl) <| fcs (zs_get cls5 (by decide) (by decide) wf_X6_24 dX6_joint_22) <| fcs (zs_iload_n dX6_joint_25 rfl) <| fcs (zs_iload_n dX6_joint_26 rfl) <| fcs (zs_i2l dX6_joint_27) <| fcs (zs_calls (ct_X6_of hG l) mi_X6_of ws_X6_of (by decide) wm_X6_97 dX6_joint_28) <| fcs (zs_lastore dX6_joint_31) <| fcs (zs_aload_n dX6_joint_32 rfl) <| fcs (zs_get cls5 (by decide) (by decide) wf_X6_27 dX6_joint_33) <| fcs (zs_iload_n dX6_joint_36 rfl) <| fcs (zs_iload dX6_joint_37) <| fcs (zs_i2l dX6_joint_39) <| fcs (zs_calls (ct_X6_of hG l) mi_X6_of ws_X6_of (by decide) wm_X6_97 dX6_joint_40) <| fcs (zs_lastore dX6_joint_43) <| fcs (zs_iconst dX6_joint_44 rfl) <| fcs (zs_zret dX6_joint_45) <| fnl
set_option maxRecDepth 100000 in
set_option maxHeartbeats 4000000 in
theorem ct_X6_joint {G : Geo} (hG : GeoOK G) (l : Launch) : Ct G l yX6_joint cX6_joint 5 (some .boolean) 1 sp_X6_joint := by
  refine Ct.of pr_X6_joint hG (by decide +kernel) (sn_X6_joint hG l) ?_
  intro av σ post hok h
  unfold sp_X6_joint at h
  split at h
  · rename_i b x p q r
    obtain ⟨hb, hI, h9⟩ := bif_t h
    clear h
    obtain rfl := is6_t hb
    have h := h9
    refine ⟨Nat.le_of_ble_eq_true rfl, fun X hX => ?_⟩
    refine go hX [] 60 ?_
    cases hB : mbt σ x with
    | false =>
      rw [hB] at h
      refine ⟨fun g => absurd (bz_f hB) g, fun g => ?_⟩
      exact ⟨Or.inl rfl, h⟩
    | true =>
      rw [hB] at h
      obtain ⟨k, h1, h2, rfl⟩ := mbt_k hI hB
      have h7 := hI.2.1
      dsimp only [cond] at h
      rw [ix_k (by omega), ← fi_l, ← fi_l, ← fi_l] at h
      refine ⟨fun g => ?_, fun g => absurd g (bz_t hB)⟩
      refine ⟨⟨nle rfl, nle rfl⟩, k, _, rfl, by show k < 8; omega, rfl, ?_⟩
      refine ⟨⟨nle rfl, nle rfl⟩, k, _, rfl, by show k < 8; omega, rfl, ?_⟩
      refine ⟨⟨nle rfl, nle rfl⟩, k, _, rfl, by show k < 8; omega, rfl, ?_⟩
      exact ⟨Or.inr rfl, h⟩
  · exact h.elim
noncomputable def sp_X6_gravity : Spc := fun av σ post => match av with
  | [.inr (.inr b), .inl p, .inl q, .inl r] => bif is6 b then post none (p3 (s60 σ) (24, 0) 0 (fi p, fi q, fi r)) else False
  | _ => False
theorem dX6_gravity_0 : decode cX6_gravity 0 = .ok (.aload_n 0, 1) := by decide +kernel
theorem dX6_gravity_1 : decode cX6_gravity 1 = .ok (.iconst 0, 1) := by decide +kernel
theorem dX6_gravity_2 : decode cX6_gravity 2 = .ok (.putfield 87, 3) := by decide +kernel
theorem dX6_gravity_5 : decode cX6_gravity 5 = .ok (.aload_n 0, 1) := by decide +kernel
theorem dX6_gravity_6 : decode cX6_gravity 6 = .ok (.getfield 30, 3) := by decide +kernel
theorem dX6_gravity_9 : decode cX6_gravity 9 = .ok (.iconst 0, 1) := by decide +kernel
theorem dX6_gravity_10 : decode cX6_gravity 10 = .ok (.iload_n 1, 1) := by decide +kernel
theorem dX6_gravity_11 : decode cX6_gravity 11 = .ok (.i2l, 1) := by decide +kernel
theorem dX6_gravity_12 : decode cX6_gravity 12 = .ok (.invokestatic 97, 3) := by decide +kernel
theorem dX6_gravity_15 : decode cX6_gravity 15 = .ok (.lastore, 1) := by decide +kernel
theorem dX6_gravity_16 : decode cX6_gravity 16 = .ok (.aload_n 0, 1) := by decide +kernel
theorem dX6_gravity_17 : decode cX6_gravity 17 = .ok (.getfield 30, 3) := by decide +kernel
theorem dX6_gravity_20 : decode cX6_gravity 20 = .ok (.iconst 1, 1) := by decide +kernel
theorem dX6_gravity_21 : decode cX6_gravity 21 = .ok (.iload_n 2, 1) := by decide +kernel
theorem dX6_gravity_22 : decode cX6_gravity 22 = .ok (.i2l, 1) := by decide +kernel
theorem dX6_gravity_23 : decode cX6_gravity 23 = .ok (.invokestatic 97, 3) := by decide +kernel
theorem dX6_gravity_26 : decode cX6_gravity 26 = .ok (.lastore, 1) := by decide +kernel
theorem dX6_gravity_27 : decode cX6_gravity 27 = .ok (.aload_n 0, 1) := by decide +kernel
theorem dX6_gravity_28 : decode cX6_gravity 28 = .ok (.getfield 30, 3) := by decide +kernel
theorem dX6_gravity_31 : decode cX6_gravity 31 = .ok (.iconst 2, 1) := by decide +kernel
theorem dX6_gravity_32 : decode cX6_gravity 32 = .ok (.iload_n 3, 1) := by decide +kernel
theorem dX6_gravity_33 : decode cX6_gravity 33 = .ok (.i2l, 1) := by decide +kernel
theorem dX6_gravity_34 : decode cX6_gravity 34 = .ok (.invokestatic 97, 3) := by decide +kernel
theorem dX6_gravity_37 : decode cX6_gravity 37 = .ok (.lastore, 1) := by decide +kernel
theorem dX6_gravity_38 : decode cX6_gravity 38 = .ok (.return_, 1) := by decide +kernel
noncomputable def pr_X6_gravity : Prg := [(0, z_aload 0 1), (1, z_ic (nI 0) 1), (2, z_mthr), (5, z_aload 0 1), (6, z_get 5 8), (9, z_ic (nI 0) 1), (10, z_iload 1 1), (11, z_i2l), (12, z_call 1 sp_X6_of), (15, z_lastore), (16, z_aload 0 1), (17, z_get 5 8), (20, z_ic (nI 1) 1), (21, z_iload 2 1), (22, z_i2l), (23, z_call 1 sp_X6_of), (26, z_lastore), (27, z_aload 0 1), (28, z_get 5 8), (31, z_ic (nI 2) 1), (32, z_iload 3 1), (33, z_i2l), (34, z_call 1 sp_X6_of), (37, z_lastore), (38, z_vret)]
set_option maxRecDepth 100000 in
set_option maxHeartbeats 4000000 in
theorem sn_X6_gravity {G : Geo} (hG : GeoOK G) (l : Launch) : ∀ q ∈ pr_X6_gravity, Sn G l yX6_gravity.cls cX6_gravity 4 1 none q.1 q.2 :=
  fcs (zs_aload_n dX6_gravity_0 rfl) <| fcs (zs_iconst dX6_gravity_1 rfl) <| fcs (zs_mthr wf_X6_87 dX6_gravity_2) <| fcs (zs_aload_n dX6_gravity_5 rfl) <| fcs (zs_get cls5 (by decide) (by decide) wf_X6_30 dX6_gravity_6) <| fcs (zs_iconst dX6_gravity_9 rfl) <| fcs (zs_iload_n dX6_gravity_10 rfl) <| fcs (zs_i2l dX6_gravity_11) <| fcs (zs_calls (ct_X6_of hG l) mi_X6_of ws_X6_of (by decide) wm_X6_97 dX6_gravity_12) <| fcs (zs_lastore dX6_gravity_15) <| fcs (zs_aload_n dX6_gravity_16 rfl) <| fcs (zs_get cls5 (by decide) (by decide) wf_X6_30 dX6_gravity_17) <| fcs (zs_iconst dX6_gravity_20 rfl) <| fcs (zs_iload_n dX6_gravity_21 rfl) <| fcs (zs_i2l dX6_gravity_22) <| fcs (zs_calls (ct_X6_of hG l) mi_X6_of ws_X6_of (by decide) wm_X6_97 dX6_gravity_23) <| fcs (zs_lastore dX6_gravity_26) <| fcs (zs_aload_n dX6_gravity_27 rfl) <| fcs (zs_get cls5 (by decide) (by decide) wf_X6_30 dX6_gravity_28) <| fcs (zs_iconst dX6_gravity_31 rfl) <| fcs (zs_iload_n dX6_gravity_32 rfl) <| fcs (zs_i2l dX6_gravity_33) <| fcs (zs_calls (ct_X6_of hG l) mi_X6_of ws_X6_of (by decide) wm_X6_97 dX6_gravity_34) <| fcs (zs_lastore dX6_gravity_37) <| fcs (zs_vret dX6_gravity_38) <| fnl
set_option maxRecDepth 100000 in
set_option maxHeartbeats 4000000 in
theorem ct_X6_gravity {G : Geo} (hG : GeoOK G) (l : Launch) : Ct G l yX6_gravity cX6_gravity 4 none 1 sp_X6_gravity := by
  refine Ct.of pr_X6_gravity hG (by decide +kernel) (sn_X6_gravity hG l) ?_
  intro av σ post hok h
  unfold sp_X6_gravity at h
  split at h
  · rename_i b p q r
    obtain ⟨hb, h9⟩ := bif_t h
    clear h
    obtain rfl := is6_t hb
    refine ⟨Nat.le_of_ble_eq_true rfl, fun X hX => ?_⟩
    refine go hX [] 60 ?_
    refine ⟨rfl, ?_⟩
    refine ⟨⟨nle rfl, nle rfl⟩, 0, _, rfl, nle rfl, rfl, ?_⟩
    refine ⟨⟨nle rfl, nle rfl⟩, 1, _, rfl, nle rfl, rfl, ?_⟩
    refine ⟨⟨nle rfl, nle rfl⟩, 2, _, rfl, nle rfl, rfl, ?_⟩
    show post none _
    exact cpost (p3_e (t := (24, 0)) (k := 0) (fi_l _) (fi_l _) (fi_l _)) h9
  · exact h.elim
noncomputable def sp_X6_acceleration : Spc := fun av σ post => match av with
  | [.inr (.inr b), .inl x] => bif is6 b then (MI σ ∧ post (some (ai (bif mbt σ x then nI (σ.2.1 23 0 (ix x)).val else (-1)))) (s60 σ)) else False
  | _ => False
theorem dX6_acceleration_0 : decode cX6_acceleration 0 = .ok (.aload_n 0, 1) := by decide +kernel
theorem dX6_acceleration_1 : decode cX6_acceleration 1 = .ok (.iload_n 1, 1) := by decide +kernel
theorem dX6_acceleration_2 : decode cX6_acceleration 2 = .ok (.invokevirtual 162, 3) := by decide +kernel
theorem dX6_acceleration_5 : decode cX6_acceleration 5 = .ok (.ifCond .eq 13, 3) := by decide +kernel
theorem dX6_acceleration_8 : decode cX6_acceleration 8 = .ok (.aload_n 0, 1) := by decide +kernel
theorem dX6_acceleration_9 : decode cX6_acceleration 9 = .ok (.getfield 27, 3) := by decide +kernel
theorem dX6_acceleration_12 : decode cX6_acceleration 12 = .ok (.iload_n 1, 1) := by decide +kernel
theorem dX6_acceleration_13 : decode cX6_acceleration 13 = .ok (.laload, 1) := by decide +kernel
theorem dX6_acceleration_14 : decode cX6_acceleration 14 = .ok (.l2i, 1) := by decide +kernel
theorem dX6_acceleration_15 : decode cX6_acceleration 15 = .ok (.goto 4, 3) := by decide +kernel
theorem dX6_acceleration_18 : decode cX6_acceleration 18 = .ok (.iconst (-1), 1) := by decide +kernel
theorem dX6_acceleration_19 : decode cX6_acceleration 19 = .ok (.ireturn, 1) := by decide +kernel
noncomputable def pr_X6_acceleration : Prg := [(0, z_aload 0 1), (1, z_iload 1 1), (2, z_callv 1 5 sp_X6_isThere), (5, z_if1 (fun x => x = 0) 18), (8, z_aload 0 1), (9, z_get 5 7), (12, z_iload 1 1), (13, z_laload), (14, z_l2i), (15, z_goto 19), (18, z_ic (-1) 1), (19, z_iret)]
set_option maxRecDepth 100000 in
set_option maxHeartbeats 4000000 in
theorem sn_X6_acceleration {G : Geo} (hG : GeoOK G) (l : Launch) : ∀ q ∈ pr_X6_acceleration, Sn G l yX6_acceleration.cls cX6_acceleration 2 1 (some .int) q.1 q.2 :=
  fcs (zs_aload_n dX6_acceleration_0 rfl) <| fcs (zs_iload_n dX6_acceleration_1 rfl) <| fcs (zs_callv cls5 (by decide) (ct_X6_isThere hG l) mi_X6_isThere wv_X6_isThere we_X6_isThere (by decide) wm_X6_162 dX6_acceleration_2) <| fcs (zs_if_eq dX6_acceleration_5 rfl) <| fcs (zs_aload_n dX6_acceleration_8 rfl) <| fcs (zs_get cls5 (by decide) (by decide) wf_X6_27 dX6_acceleration_9) <| fcs (zs_iload_n dX6_acceleration_12 rfl) <| fcs (zs_laload dX6_acceleration_13) <| fcs (zs_l2i dX6_acceleration_14) <| fcs (zs_goto dX6_acceleration_15 rfl) <| fcs (zs_iconst dX6_acceleration_18 rfl) <| fcs (zs_iret dX6_acceleration_19) <| fnl
set_option maxRecDepth 100000 in
set_option maxHeartbeats 4000000 in
theorem ct_X6_acceleration {G : Geo} (hG : GeoOK G) (l : Launch) : Ct G l yX6_acceleration cX6_acceleration 2 (some .int) 1 sp_X6_acceleration := by
  refine Ct.of pr_X6_acceleration hG (by decide +kernel) (sn_X6_acceleration hG l) ?_
  intro av σ post hok h
  unfold sp_X6_acceleration at h
  split at h
  · rename_i b x
    obtain ⟨hb, hI, h9⟩ := bif_t h
    clear h
    obtain rfl := is6_t hb
    have h := h9
    refine ⟨Nat.le_of_ble_eq_true rfl, fun X hX => ?_⟩
    refine go hX [] 60 ?_
    cases hB : mbt σ x with
    | false =>
      rw [hB] at h
      refine ⟨fun g => ?_, fun g => absurd (bz_f hB) g⟩
      exact h
    | true =>
      rw [hB] at h
      obtain ⟨k, h1, h2, rfl⟩ := mbt_k hI hB
      have h7 := hI.2.1
      dsimp only [cond] at h
      rw [ix_k (by omega), ← l2i_em] at h
      refine ⟨fun g => absurd g (bz_t hB), fun g => ?_⟩
      refine ⟨⟨nle rfl, nle rfl⟩, k, rfl, by show k < 8; omega, ?_⟩
      exact h
  · exact h.elim
def mbo (σ : SS) (p : Int32) : Bool := decide (¬ p < 0) && (decide (¬ σ.2.2 6 1 < p) && decide (¬ σ.2.2 6 1 = nI 7))
def m_bod (σ : SS) (p s : Int32) : SS := sI (sI (sI (s60 σ) 6 1 (σ.2.2 6 1 + nI 1)) 7 (mn σ + 1) p) 8 (mn σ + 1) s
noncomputable def sp_X6_body : Spc := fun av σ post => match av with
  | [.inr (.inr b), .inl p, .inl s] => bif is6 b then (MI σ ∧ (s = 0 ∨ s = 1) ∧ post (some (ai (bif mbo σ p then σ.2.2 6 1 + nI 1 else (-1)))) (bif mbo σ p then m_bod σ p s else s60 σ)) else False
  | _ => False
theorem dX6_body_0 : decode cX6_body 0 = .ok (.aload_n 0, 1) := by decide +kernel
theorem dX6_body_1 : decode cX6_body 1 = .ok (.iconst 0, 1) := by decide +kernel
theorem dX6_body_2 : decode cX6_body 2 = .ok (.putfield 87, 3) := by decide +kernel
theorem dX6_body_5 : decode cX6_body 5 = .ok (.iload_n 1, 1) := by decide +kernel
theorem dX6_body_6 : decode cX6_body 6 = .ok (.ifCond .lt 20, 3) := by decide +kernel
theorem dX6_body_9 : decode cX6_body 9 = .ok (.iload_n 1, 1) := by decide +kernel
theorem dX6_body_10 : decode cX6_body 10 = .ok (.aload_n 0, 1) := by decide +kernel
theorem dX6_body_11 : decode cX6_body 11 = .ok (.getfield 114, 3) := by decide +kernel
theorem dX6_body_14 : decode cX6_body 14 = .ok (.if_icmp .gt 12, 3) := by decide +kernel
theorem dX6_body_17 : decode cX6_body 17 = .ok (.aload_n 0, 1) := by decide +kernel
theorem dX6_body_18 : decode cX6_body 18 = .ok (.getfield 114, 3) := by decide +kernel
theorem dX6_body_21 : decode cX6_body 21 = .ok (.bipush 7, 2) := by decide +kernel
theorem dX6_body_23 : decode cX6_body 23 = .ok (.if_icmp .ne 5, 3) := by decide +kernel
theorem dX6_body_26 : decode cX6_body 26 = .ok (.iconst (-1), 1) := by decide +kernel
theorem dX6_body_27 : decode cX6_body 27 = .ok (.ireturn, 1) := by decide +kernel
theorem dX6_body_28 : decode cX6_body 28 = .ok (.aload_n 0, 1) := by decide +kernel
theorem dX6_body_29 : decode cX6_body 29 = .ok (.dup, 1) := by decide +kernel
theorem dX6_body_30 : decode cX6_body 30 = .ok (.getfield 114, 3) := by decide +kernel
theorem dX6_body_33 : decode cX6_body 33 = .ok (.iconst 1, 1) := by decide +kernel
theorem dX6_body_34 : decode cX6_body 34 = .ok (.iadd, 1) := by decide +kernel
theorem dX6_body_35 : decode cX6_body 35 = .ok (.putfield 114, 3) := by decide +kernel
theorem dX6_body_38 : decode cX6_body 38 = .ok (.aload_n 0, 1) := by decide +kernel
theorem dX6_body_39 : decode cX6_body 39 = .ok (.getfield 7, 3) := by decide +kernel
theorem dX6_body_42 : decode cX6_body 42 = .ok (.aload_n 0, 1) := by decide +kernel
theorem dX6_body_43 : decode cX6_body 43 = .ok (.getfield 114, 3) := by decide +kernel
theorem dX6_body_46 : decode cX6_body 46 = .ok (.iload_n 1, 1) := by decide +kernel
theorem dX6_body_47 : decode cX6_body 47 = .ok (.iastore, 1) := by decide +kernel
theorem dX6_body_48 : decode cX6_body 48 = .ok (.aload_n 0, 1) := by decide +kernel
theorem dX6_body_49 : decode cX6_body 49 = .ok (.getfield 13, 3) := by decide +kernel
theorem dX6_body_52 : decode cX6_body 52 = .ok (.aload_n 0, 1) := by decide +kernel
theorem dX6_body_53 : decode cX6_body 53 = .ok (.getfield 114, 3) := by decide +kernel
theorem dX6_body_56 : decode cX6_body 56 = .ok (.iload_n 2, 1) := by decide +kernel
theorem dX6_body_57 : decode cX6_body 57 = .ok (.bastore, 1) := by decide +kernel
theorem dX6_body_58 : decode cX6_body 58 = .ok (.aload_n 0, 1) := by decide +kernel
theorem dX6_body_59 : decode cX6_body 59 = .ok (.getfield 114, 3) := by decide +kernel
theorem dX6_body_62 : decode cX6_body 62 = .ok (.ireturn, 1) := by decide +kernel
noncomputable def pr_X6_body : Prg := [(0, z_aload 0 1), (1, z_ic (nI 0) 1), (2, z_mthr), (5, z_iload 1 1), (6, z_if1 (fun x => x < 0) 26), (9, z_iload 1 1), (10, z_aload 0 1), (11, z_get 5 1), (14, z_if2 (fun x y => y < x) 26), (17, z_aload 0 1), (18, z_get 5 1), (21, z_ic (nI 7) 2), (23, z_nf2 28), (26, z_ic (-1) 1), (27, z_iret), (28, z_aload 0 1), (29, z_dup), (30, z_get 5 1), (33, z_ic (nI 1) 1), (34, z_iadd), (35, z_mbod), (38, z_aload 0 1), (39, z_get 5 2), (42, z_aload 0 1), (43, z_get 5 1), (46, z_iload 1 1), (47, z_iastore), (48, z_aload 0 1), (49, z_get 5 3), (52, z_aload 0 1), (53, z_get 5 1), (56, z_iload 2 1), (57, z_bastore), (58, z_aload 0 1), (59, z_get 5 1), (62, z_iret)]
set_option maxRecDepth 100000 in
set_option maxHeartbeats 4000000 in
theorem sn_X6_body {G : Geo} (hG : GeoOK G) (l : Launch) : ∀ q ∈ pr_X6_body, Sn G l yX6_body.cls cX6_body 3 0 (some .int) q.1 q.2 :=
  fcs (zs_aload_n dX6_body_0 rfl) <| fcs (zs_iconst dX6_body_1 rfl) <| fcs (zs_mthr wf_X6_87 dX6_body_2) <| fcs (zs_iload_n dX6_body_5 rfl) <| fcs (zs_if_lt dX6_body_6 rfl) <| fcs (zs_iload_n dX6_body_9 rfl) <| fcs (zs_aload_n dX6_body_10 rfl) <| fcs (zs_get cls5 (by decide) (by decide) wf_X6_114 dX6_body_11) <| fcs (zs_icmp_gt dX6_body_14 rfl) <| fcs (zs_aload_n dX6_body_17 rfl) <| fcs (zs_get cls5 (by decide) (by decide) wf_X6_114 dX6_body_18) <| fcs (zs_bipush dX6_body_21 rfl) <| fcs (zs_icmp_ne dX6_body_23 rfl) <| fcs (zs_iconst dX6_body_26 rfl) <| fcs (zs_iret dX6_body_27) <| fcs (zs_aload_n dX6_body_28 rfl) <| fcs (zs_dup dX6_body_29) <| fcs (zs_get cls5 (by decide) (by decide) wf_X6_114 dX6_body_30) <| fcs (zs_iconst dX6_body_33 rfl) <| fcs (zs_iadd dX6_body_34) <| fcs (zs_mbod wf_X6_114 dX6_body_35) <| fcs (zs_aload_n dX6_body_38 rfl) <| fcs (zs_get cls5 (by decide) (by decide) wf_X6_7 dX6_body_39) <| fcs (zs_aload_n dX6_body_42 rfl) <| fcs (zs_get cls5 (by decide) (by decide) wf_X6_114 dX6_body_43) <| fcs (zs_iload_n dX6_body_46 rfl) <| fcs (zs_iastore dX6_body_47) <| fcs (zs_aload_n dX6_body_48 rfl) <| fcs (zs_get cls5 (by decide) (by decide) wf_X6_13 dX6_body_49) <| fcs (zs_aload_n dX6_body_52 rfl) <| fcs (zs_get cls5 (by decide) (by decide) wf_X6_114 dX6_body_53) <| fcs (zs_iload_n dX6_body_56 rfl) <| fcs (zs_bastore dX6_body_57) <| fcs (zs_aload_n dX6_body_58 rfl) <| fcs (zs_get cls5 (by decide) (by decide) wf_X6_114 dX6_body_59) <| fcs (zs_iret dX6_body_62) <| fnl
set_option maxRecDepth 100000 in
set_option maxHeartbeats 4000000 in
theorem ct_X6_body {G : Geo} (hG : GeoOK G) (l : Launch) : Ct G l yX6_body cX6_body 3 (some .int) 0 sp_X6_body := by
  refine Ct.of pr_X6_body hG (by decide +kernel) (sn_X6_body hG l) ?_
  intro av σ post hok h
  unfold sp_X6_body at h
  split at h
  · rename_i b p s
    obtain ⟨hb, hI, hs, h9⟩ := bif_t h
    clear h
    obtain rfl := is6_t hb
    have h := h9
    refine ⟨Nat.le_of_ble_eq_true rfl, fun X hX => ?_⟩
    have e0 : (s60 σ).2.2 6 1 = σ.2.2 6 1 := sI_n2 σ _ _ (by decide)
    have h7 := hI.2.1
    refine go hX [] 60 ?_
    refine ⟨rfl, ?_⟩
    refine ⟨fun g1 => ?_, fun g1 => ⟨fun g2 => ?_, fun g2 => ⟨fun g3 => ?_, fun g3 => ?_⟩⟩⟩
    · have e : mbo σ p = false := by unfold mbo; rw [decide_eq_false (fun q => q g1)]; rfl
      rw [e] at h
      exact h
    · have g2 : (s60 σ).2.2 6 1 < p := g2
      rw [e0] at g2
      have e : mbo σ p = false := by unfold mbo; rw [decide_eq_false (show ¬ ¬ σ.2.2 6 1 < p from fun q => q g2), Bool.false_and, Bool.and_false]
      rw [e] at h
      exact h
    · have g2 : ¬ (s60 σ).2.2 6 1 < p := g2
      have g3 : ¬ (s60 σ).2.2 6 1 = nI 7 := g3
      rw [e0] at g2 g3
      have e : mbo σ p = true := by unfold mbo; rw [decide_eq_true g1, decide_eq_true g2, decide_eq_true g3]; rfl
      rw [e] at h
      rw [hI.1, nI_eq (by omega) (by decide)] at g3
      have ew : σ.2.2 6 1 + nI 1 = nI (mn σ + 1) := (congrArg (· + nI 1) hI.1).trans (nI_add (mn σ) 1)
      have e1 : ∀ x, (sI (s60 σ) 6 1 x).2.2 6 1 = x := fun x => sI_at _ _ _ _
      refine ⟨rfl, ?_⟩
      refine ⟨rfl, mn σ + 1, ?_, by omega, ?_⟩
      · show (sI (s60 σ) 6 1 ((s60 σ).2.2 6 1 + nI 1)).2.2 6 1 = _
        rw [e1, e0]
        exact ew
      refine ⟨rfl, hs, mn σ + 1, ?_, by omega, ?_⟩
      · show (sI (sI (s60 σ) 6 1 ((s60 σ).2.2 6 1 + nI 1)) 7 (mn σ + 1) p).2.2 6 1 = _
        rw [sI_n1 _ _ _ (by decide), e1, e0]
        exact ew
      show post (some (.inl ((sI (sI (sI (s60 σ) 6 1 ((s60 σ).2.2 6 1 + nI 1)) 7 (mn σ + 1) p) 8 (mn σ + 1) s).2.2 6 1))) (sI (sI (sI (s60 σ) 6 1 ((s60 σ).2.2 6 1 + nI 1)) 7 (mn σ + 1) p) 8 (mn σ + 1) s)
      rw [sI_n1 _ _ _ (by decide), sI_n1 _ _ _ (by decide), e1, e0]
      exact h
    · have g3 : (s60 σ).2.2 6 1 = nI 7 := g3
      rw [e0] at g3
      have e : mbo σ p = false := by unfold mbo; rw [decide_eq_false (show ¬ ¬ σ.2.2 6 1 = nI 7 from fun q => q g3), Bool.and_false, Bool.and_false]
      rw [e] at h
      exact h
  · exact h.elim
