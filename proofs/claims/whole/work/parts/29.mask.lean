/-! The reference's face: what asks -/
/-- the same but for what is scratch (long arrays from 25 on) -/
def K25 (σ s : SS) : Prop := s.1 = σ.1 ∧ s.2.2 = σ.2.2 ∧ ∀ a b j, a < 25 → s.2.1 a b j = σ.2.1 a b j
theorem K25_rf (σ : SS) : K25 σ σ := ⟨rfl, rfl, fun _ _ _ _ => rfl⟩
theorem K25_tr {a b c : SS} (h : K25 a b) (g : K25 b c) : K25 a c := ⟨g.1.trans h.1, g.2.1.trans h.2.1, fun x y j hx => (g.2.2 x y j hx).trans (h.2.2 x y j hx)⟩
theorem K25_sy {a b : SS} (h : K25 a b) : K25 b a := ⟨h.1.symm, h.2.1.symm, fun x y j hx => (h.2.2 x y j hx).symm⟩
theorem K25_fl (s : SS) {t : Nat × Nat} (b n : Nat) (f : Nat → ZF) (ht : 25 ≤ t.1) : K25 s (fl s t b n f) := ⟨rfl, rfl, fun a b' j ha => fl_n _ _ _ _ _ _ _ (by omega)⟩
theorem K25_sL (s : SS) {kd : Nat} (k i : Nat) (x : ZF) (ht : 25 ≤ kd) : K25 s (sL s kd k i x) := ⟨rfl, rfl, fun a b' j ha => sL_n1 _ _ _ _ _ (by omega)⟩
theorem K25_p3 (s : SS) {t : Nat × Nat} (b : Nat) (v : V3) (ht : 25 ≤ t.1) : K25 s (p3 s t b v) := K25_fl s b 3 _ ht
theorem K25_36 {σ s : SS} (h : s36 σ s) : K25 σ s := ⟨h.1, h.2.1, fun a b j ha => h.2.2 a b j (by omega)⟩
theorem K25_swg (s : SS) {t : Nat × Nat} (a p : Nat) (q : Nat × Nat) (ht : 25 ≤ t.1) : K25 s (m_swg s t a p q) := by
  unfold m_swg
  exact K25_tr (K25_p3 s _ _ (by decide)) (K25_tr (K25_p3 _ _ _ ht) (K25_tr (K25_p3 _ _ _ (by decide)) (K25_tr (K25_p3 _ _ _ (by decide)) (K25_p3 _ _ _ ht))))
theorem K25_hvy (s : SS) (k : Nat) (l : Nat × Nat) (i : Nat) : K25 s (m_hvy s k l i) := by
  unfold m_hvy m_h3 m_h2 m_h1
  exact K25_tr (K25_fl s _ _ _ (by decide)) (K25_tr (K25_fl _ _ _ _ (by decide)) (K25_p3 _ _ _ (by decide)))
theorem K25_lod (s : SS) (k : Nat) : K25 s (m_lod s k) := by
  unfold m_lod m_l9 m_l7 m_l5 m_l3 m_l2 m_l1
  exact K25_tr (K25_p3 s _ _ (by decide)) (K25_tr (K25_p3 _ _ _ (by decide)) (K25_tr (K25_p3 _ _ _ (by decide)) (K25_tr (K25_swg _ _ _ _ (by decide)) (K25_tr (K25_p3 _ _ _ (by decide)) (K25_tr (K25_hvy _ _ _ _) (K25_tr (K25_p3 _ _ _ (by decide)) (K25_tr (K25_hvy _ _ _ _) (K25_p3 _ _ _ (by decide)))))))))
theorem K25_c5 (s : SS) (k : Nat) : K25 s (m_c5 s k) := by
  unfold m_c5
  split
  · exact K25_rf s
  · exact K25_p3 _ _ _ (by decide)
theorem K25_c10 (s : SS) (k : Nat) : K25 s (m_c10 s k) := by
  unfold m_c10
  split
  · unfold m_ct
    exact K25_tr (K25_fl s _ _ _ (by decide)) (K25_tr (K25_fl _ _ _ _ (by decide)) (K25_tr (K25_p3 _ _ _ (by decide)) (K25_tr (K25_p3 _ _ _ (by decide)) (K25_p3 _ _ _ (by decide)))))
  · unfold m_c9
    exact K25_tr (K25_fl s _ _ _ (by decide)) (K25_tr (K25_p3 _ _ _ (by decide)) (K25_p3 _ _ _ (by decide)))
theorem K25_c6 (s : SS) (k p : Nat) : K25 s (m_c6 s k p) := by
  unfold m_c6 m_q4
  exact K25_tr (K25_fl s _ _ _ (by decide)) (K25_tr (K25_fl _ _ _ _ (by decide)) (K25_tr (K25_fl _ _ _ _ (by decide)) (K25_fl _ _ _ _ (by decide))))
theorem K25_car (s : SS) (k p : Nat) : K25 s (m_car s k p) := by
  unfold m_car m_end
  refine K25_tr (K25_fl s _ _ _ (by decide)) (K25_tr (K25_fl _ _ _ _ (by decide)) (K25_tr (K25_p3 _ _ _ (by decide)) (K25_tr (K25_p3 _ _ _ (by decide)) (K25_tr (K25_c5 _ _) (K25_tr (K25_c6 _ _ _) (K25_tr (K25_p3 _ _ _ (by decide)) (K25_tr (K25_p3 _ _ _ (by decide)) (K25_tr (K25_c10 _ _) (K25_tr (K25_swg _ _ _ _ (by decide)) (K25_lod _ _))))))))))
theorem K25_upf {f : SS → Nat → SS} (hf : ∀ s k, K25 s (f s k)) (s : SS) : ∀ k, K25 s (upf f s k)
  | 0 => K25_rf s
  | k + 1 => K25_tr (K25_upf hf s k) (hf _ _)
theorem K25_ini (s : SS) (h : Bool) : K25 s (m_ini s h) := by
  unfold m_ini Q4
  exact K25_tr (K25_fl s _ _ _ (by decide)) (K25_tr (K25_fl _ _ _ _ (by decide)) (K25_tr (K25_fl _ _ _ _ (by decide)) (K25_tr (K25_fl _ _ _ _ (by decide)) (K25_fl _ _ _ _ (by decide)))))
theorem K25_mov (s : SS) (h : Bool) : K25 s (m_mov s h) := K25_tr (K25_ini s h) (K25_upf (f := m_cfn) (fun s k => K25_car s k _) _ _)
theorem K25_asi (s : SS) (b : Bool) : K25 s (m_asi s b) := K25_tr (K25_upf (f := as1 b) (fun s k => K25_tr (K25_sL s _ _ _ (by decide)) (K25_sL _ _ _ _ (by decide))) s _) (K25_mov _ _)
theorem K25_alo (s : SS) (i : Nat) : K25 s (m_alo s i) := K25_tr (K25_upf (f := al1 i) (fun s k => K25_tr (K25_sL s _ _ _ (by decide)) (K25_sL _ _ _ _ (by decide))) s _) (K25_mov _ _)
/-- ends of the asking methods: the scratch is any -/
noncomputable def mask (nm : Bool → SS → SS) (b : Bool) : Spc := fun av σ post => match av with
  | [.inr (.inr q), .inl x] => bif is6 q then (MI σ ∧ ∀ s, K25 (s60 σ) s → post (some (ai (bif mbt σ x then nI (tq (nm b (s60 σ)) (ix x)).val else (-1)))) s) else False
  | _ => False
noncomputable def sp_X6_needs : Spc := mask (fun b s => m_asi s b) true
theorem dX6_needs_0 : decode cX6_needs 0 = .ok (.aload_n 0, 1) := by decide +kernel
theorem dX6_needs_1 : decode cX6_needs 1 = .ok (.iload_n 1, 1) := by decide +kernel
theorem dX6_needs_2 : decode cX6_needs 2 = .ok (.invokevirtual 162, 3) := by decide +kernel
theorem dX6_needs_5 : decode cX6_needs 5 = .ok (.ifCond .ne 5, 3) := by decide +kernel
theorem dX6_needs_8 : decode cX6_needs 8 = .ok (.iconst (-1), 1) := by decide +kernel
theorem dX6_needs_9 : decode cX6_needs 9 = .ok (.ireturn, 1) := by decide +kernel
theorem dX6_needs_10 : decode cX6_needs 10 = .ok (.aload_n 0, 1) := by decide +kernel
theorem dX6_needs_11 : decode cX6_needs 11 = .ok (.iconst 1, 1) := by decide +kernel
theorem dX6_needs_12 : decode cX6_needs 12 = .ok (.invokevirtual 174, 3) := by decide +kernel
theorem dX6_needs_15 : decode cX6_needs 15 = .ok (.aload_n 0, 1) := by decide +kernel
theorem dX6_needs_16 : decode cX6_needs 16 = .ok (.iload_n 1, 1) := by decide +kernel
theorem dX6_needs_17 : decode cX6_needs 17 = .ok (.invokevirtual 177, 3) := by decide +kernel
theorem dX6_needs_20 : decode cX6_needs 20 = .ok (.l2i, 1) := by decide +kernel
theorem dX6_needs_21 : decode cX6_needs 21 = .ok (.ireturn, 1) := by decide +kernel
theorem wc_X6_asItIs : Cond.code yX6_asItIs cX6_asItIs 3 none ∈ ltb := List.mem_filter.mpr ⟨List.mem_append_right _ (List.mem_of_getElem? (i := 614) (by decide +kernel)), by decide +kernel⟩
theorem mi_X6_asItIs : Mi yX6_asItIs RX6 1 cX6_asItIs 3 none := ⟨by decide +kernel, wc_X6_asItIs, wi_X6, by decide⟩
theorem wv_X6_asItIs : Cond.instanceMethod yX6_asItIs ∈ ltb := List.mem_filter.mpr ⟨List.mem_append_right _ (List.mem_of_getElem? (i := 613) (by decide +kernel)), by decide +kernel⟩
theorem we_X6_asItIs : Cond.selects RX6 yX6_asItIs yX6_asItIs ∈ ltb := List.mem_filter.mpr ⟨List.mem_append_left _ (List.mem_of_getElem? (i := 13) (by decide +kernel)), by decide +kernel⟩
theorem wm_X6_174 : Cond.methodLink RX6 174 yX6_asItIs ∈ ltb := List.mem_filter.mpr ⟨List.mem_append_right _ (List.mem_of_getElem? (i := 611) (by decide +kernel)), by decide +kernel⟩
theorem wc_X6_torqueOf : Cond.code yX6_torqueOf cX6_torqueOf 6 (some .long) ∈ ltb := List.mem_filter.mpr ⟨List.mem_append_right _ (List.mem_of_getElem? (i := 670) (by decide +kernel)), by decide +kernel⟩
theorem mi_X6_torqueOf : Mi yX6_torqueOf RX6 1 cX6_torqueOf 6 (some .long) := ⟨by decide +kernel, wc_X6_torqueOf, wi_X6, by decide⟩
theorem wv_X6_torqueOf : Cond.instanceMethod yX6_torqueOf ∈ ltb := List.mem_filter.mpr ⟨List.mem_append_right _ (List.mem_of_getElem? (i := 669) (by decide +kernel)), by decide +kernel⟩
theorem we_X6_torqueOf : Cond.selects RX6 yX6_torqueOf yX6_torqueOf ∈ ltb := List.mem_filter.mpr ⟨List.mem_append_left _ (List.mem_of_getElem? (i := 19) (by decide +kernel)), by decide +kernel⟩
theorem wm_X6_177 : Cond.methodLink RX6 177 yX6_torqueOf ∈ ltb := List.mem_filter.mpr ⟨List.mem_append_right _ (List.mem_of_getElem? (i := 667) (by decide +kernel)), by decide +kernel⟩
noncomputable def pr_X6_needs : Prg := [(0, z_aload 0 1), (1, z_iload 1 1), (2, z_callv 1 5 sp_X6_isThere), (5, z_nf1 10), (8, z_ic (-1) 1), (9, z_iret), (10, z_aload 0 1), (11, z_ic (nI 1) 1), (12, z_callv 1 5 sp_X6_asItIs), (15, z_aload 0 1), (16, z_iload 1 1), (17, z_callv 1 5 sp_X6_torqueOf), (20, z_l2i), (21, z_iret)]
set_option maxRecDepth 100000 in
set_option maxHeartbeats 4000000 in
theorem sn_X6_needs {G : Geo} (hG : GeoOK G) (l : Launch) : ∀ q ∈ pr_X6_needs, Sn G l yX6_needs.cls cX6_needs 2 7 (some .int) q.1 q.2 :=
  fcs (zs_aload_n dX6_needs_0 rfl) <| fcs (zs_iload_n dX6_needs_1 rfl) <| fcs (zs_callv cls5 (by decide) (ct_X6_isThere hG l) mi_X6_isThere wv_X6_isThere we_X6_isThere (by decide) wm_X6_162 dX6_needs_2) <| fcs (zs_if_ne dX6_needs_5 rfl) <| fcs (zs_iconst dX6_needs_8 rfl) <| fcs (zs_iret dX6_needs_9) <| fcs (zs_aload_n dX6_needs_10 rfl) <| fcs (zs_iconst dX6_needs_11 rfl) <| fcs (zs_callv cls5 (by decide) (ct_X6_asItIs hG l) mi_X6_asItIs wv_X6_asItIs we_X6_asItIs (by decide) wm_X6_174 dX6_needs_12) <| fcs (zs_aload_n dX6_needs_15 rfl) <| fcs (zs_iload_n dX6_needs_16 rfl) <| fcs (zs_callv cls5 (by decide) (ct_X6_torqueOf hG l) mi_X6_torqueOf wv_X6_torqueOf we_X6_torqueOf (by decide) wm_X6_177 dX6_needs_17) <| fcs (zs_l2i dX6_needs_20) <| fcs (zs_iret dX6_needs_21) <| fnl
set_option maxRecDepth 100000 in
set_option maxHeartbeats 4000000 in
theorem ct_X6_needs {G : Geo} (hG : GeoOK G) (l : Launch) : Ct G l yX6_needs cX6_needs 2 (some .int) 7 sp_X6_needs := by
  refine Ct.of pr_X6_needs hG (by decide +kernel) (sn_X6_needs hG l) ?_
  intro av σ post hok h
  unfold sp_X6_needs mask at h
  split at h
  · rename_i b x
    obtain ⟨hb, hI, h9⟩ := bif_t h
    clear h
    obtain rfl := is6_t hb
    refine ⟨Nat.le_of_ble_eq_true rfl, fun X hX => ?_⟩
    refine go hX [] 60 ?_
    cases hB : mbt σ x with
    | false =>
      rw [hB] at h9
      refine ⟨fun g => absurd (bz_f hB) g, fun g => ?_⟩
      exact h9 _ (K25_rf _)
    | true =>
      rw [hB] at h9
      obtain ⟨k, h1, h2, rfl⟩ := mbt_k hI hB
      have h7 := hI.2.1
      dsimp only [cond] at h9
      rw [ix_k (by omega), ← l2i_em] at h9
      refine ⟨fun g => ?_, fun g => absurd g (bz_t hB)⟩
      refine ⟨s60_MI hI, Or.inr rfl, ?_⟩
      refine ⟨MI_of (m_asi_I _ _) (s60_MI hI), k, rfl, ⟨h1, by rw [mn_of (m_asi_I _ _), s60_n]; exact h2⟩, fun s hs => ?_⟩
      exact h9 s (K25_tr (K25_asi _ _) (K25_36 hs))
  · exact h.elim
noncomputable def sp_X6_bias : Spc := mask (fun b s => m_asi s b) false
theorem dX6_bias_0 : decode cX6_bias 0 = .ok (.aload_n 0, 1) := by decide +kernel
theorem dX6_bias_1 : decode cX6_bias 1 = .ok (.iload_n 1, 1) := by decide +kernel
theorem dX6_bias_2 : decode cX6_bias 2 = .ok (.invokevirtual 162, 3) := by decide +kernel
theorem dX6_bias_5 : decode cX6_bias 5 = .ok (.ifCond .ne 5, 3) := by decide +kernel
theorem dX6_bias_8 : decode cX6_bias 8 = .ok (.iconst (-1), 1) := by decide +kernel
theorem dX6_bias_9 : decode cX6_bias 9 = .ok (.ireturn, 1) := by decide +kernel
theorem dX6_bias_10 : decode cX6_bias 10 = .ok (.aload_n 0, 1) := by decide +kernel
theorem dX6_bias_11 : decode cX6_bias 11 = .ok (.iconst 0, 1) := by decide +kernel
theorem dX6_bias_12 : decode cX6_bias 12 = .ok (.invokevirtual 174, 3) := by decide +kernel
theorem dX6_bias_15 : decode cX6_bias 15 = .ok (.aload_n 0, 1) := by decide +kernel
theorem dX6_bias_16 : decode cX6_bias 16 = .ok (.iload_n 1, 1) := by decide +kernel
theorem dX6_bias_17 : decode cX6_bias 17 = .ok (.invokevirtual 177, 3) := by decide +kernel
theorem dX6_bias_20 : decode cX6_bias 20 = .ok (.l2i, 1) := by decide +kernel
theorem dX6_bias_21 : decode cX6_bias 21 = .ok (.ireturn, 1) := by decide +kernel
noncomputable def pr_X6_bias : Prg := [(0, z_aload 0 1), (1, z_iload 1 1), (2, z_callv 1 5 sp_X6_isThere), (5, z_nf1 10), (8, z_ic (-1) 1), (9, z_iret), (10, z_aload 0 1), (11, z_ic (nI 0) 1), (12, z_callv 1 5 sp_X6_asItIs), (15, z_aload 0 1), (16, z_iload 1 1), (17, z_callv 1 5 sp_X6_torqueOf), (20, z_l2i), (21, z_iret)]
set_option maxRecDepth 100000 in
set_option maxHeartbeats 4000000 in
theorem sn_X6_bias {G : Geo} (hG : GeoOK G) (l : Launch) : ∀ q ∈ pr_X6_bias, Sn G l yX6_bias.cls cX6_bias 2 7 (some .int) q.1 q.2 :=
  fcs (zs_aload_n dX6_bias_0 rfl) <| fcs (zs_iload_n dX6_bias_1 rfl) <| fcs (zs_callv cls5 (by decide) (ct_X6_isThere hG l) mi_X6_isThere wv_X6_isThere we_X6_isThere (by decide) wm_X6_162 dX6_bias_2) <| fcs (zs_if_ne dX6_bias_5 rfl) <| fcs (zs_iconst dX6_bias_8 rfl) <| fcs (zs_iret dX6_bias_9) <| fcs (zs_aload_n dX6_bias_10 rfl) <| fcs (zs_iconst dX6_bias_11 rfl) <| fcs (zs_callv cls5 (by decide) (ct_X6_asItIs hG l) mi_X6_asItIs wv_X6_asItIs we_X6_asItIs (by decide) wm_X6_174 dX6_bias_12) <| fcs (zs_aload_n dX6_bias_15 rfl) <| fcs (zs_iload_n dX6_bias_16 rfl) <| fcs (zs_callv cls5 (by decide) (ct_X6_torqueOf hG l) mi_X6_torqueOf wv_X6_torqueOf we_X6_torqueOf (by decide) wm_X6_177 dX6_bias_17) <| fcs (zs_l2i dX6_bias_20) <| fcs (zs_iret dX6_bias_21) <| fnl
set_option maxRecDepth 100000 in
set_option maxHeartbeats 4000000 in
theorem ct_X6_bias {G : Geo} (hG : GeoOK G) (l : Launch) : Ct G l yX6_bias cX6_bias 2 (some .int) 7 sp_X6_bias := by
  refine Ct.of pr_X6_bias hG (by decide +kernel) (sn_X6_bias hG l) ?_
  intro av σ post hok h
  unfold sp_X6_bias mask at h
  split at h
  · rename_i b x
    obtain ⟨hb, hI, h9⟩ := bif_t h
    clear h
    obtain rfl := is6_t hb
    refine ⟨Nat.le_of_ble_eq_true rfl, fun X hX => ?_⟩
    refine go hX [] 60 ?_
    cases hB : mbt σ x with
    | false =>
      rw [hB] at h9
      refine ⟨fun g => absurd (bz_f hB) g, fun g => ?_⟩
      exact h9 _ (K25_rf _)
    | true =>
      rw [hB] at h9
      obtain ⟨k, h1, h2, rfl⟩ := mbt_k hI hB
      have h7 := hI.2.1
      dsimp only [cond] at h9
      rw [ix_k (by omega), ← l2i_em] at h9
      refine ⟨fun g => ?_, fun g => absurd g (bz_t hB)⟩
      refine ⟨s60_MI hI, Or.inl rfl, ?_⟩
      refine ⟨MI_of (m_asi_I _ _) (s60_MI hI), k, rfl, ⟨h1, by rw [mn_of (m_asi_I _ _), s60_n]; exact h2⟩, fun s hs => ?_⟩
      exact h9 s (K25_tr (K25_asi _ _) (K25_36 hs))
  · exact h.elim
noncomputable def sp_X6_matrix : Spc := fun av σ post => match av with
  | [.inr (.inr q), .inl x, .inl y] => bif is6 q then (MI σ ∧ ∀ s, K25 (s60 σ) s → post (some (ai (bif mbt σ x && mbt σ y then nI (tq (m_alo (s60 σ) (ix y)) (ix x)).val else (-1)))) s) else False
  | _ => False
theorem dX6_matrix_0 : decode cX6_matrix 0 = .ok (.aload_n 0, 1) := by decide +kernel
theorem dX6_matrix_1 : decode cX6_matrix 1 = .ok (.iload_n 1, 1) := by decide +kernel
theorem dX6_matrix_2 : decode cX6_matrix 2 = .ok (.invokevirtual 162, 3) := by decide +kernel
theorem dX6_matrix_5 : decode cX6_matrix 5 = .ok (.ifCond .eq 11, 3) := by decide +kernel
theorem dX6_matrix_8 : decode cX6_matrix 8 = .ok (.aload_n 0, 1) := by decide +kernel
theorem dX6_matrix_9 : decode cX6_matrix 9 = .ok (.iload_n 2, 1) := by decide +kernel
theorem dX6_matrix_10 : decode cX6_matrix 10 = .ok (.invokevirtual 162, 3) := by decide +kernel
theorem dX6_matrix_13 : decode cX6_matrix 13 = .ok (.ifCond .ne 5, 3) := by decide +kernel
theorem dX6_matrix_16 : decode cX6_matrix 16 = .ok (.iconst (-1), 1) := by decide +kernel
theorem dX6_matrix_17 : decode cX6_matrix 17 = .ok (.ireturn, 1) := by decide +kernel
theorem dX6_matrix_18 : decode cX6_matrix 18 = .ok (.aload_n 0, 1) := by decide +kernel
theorem dX6_matrix_19 : decode cX6_matrix 19 = .ok (.iload_n 2, 1) := by decide +kernel
theorem dX6_matrix_20 : decode cX6_matrix 20 = .ok (.invokevirtual 181, 3) := by decide +kernel
theorem dX6_matrix_23 : decode cX6_matrix 23 = .ok (.aload_n 0, 1) := by decide +kernel
theorem dX6_matrix_24 : decode cX6_matrix 24 = .ok (.iload_n 1, 1) := by decide +kernel
theorem dX6_matrix_25 : decode cX6_matrix 25 = .ok (.invokevirtual 177, 3) := by decide +kernel
theorem dX6_matrix_28 : decode cX6_matrix 28 = .ok (.l2i, 1) := by decide +kernel
theorem dX6_matrix_29 : decode cX6_matrix 29 = .ok (.ireturn, 1) := by decide +kernel
theorem wc_X6_alone : Cond.code yX6_alone cX6_alone 3 none ∈ ltb := List.mem_filter.mpr ⟨List.mem_append_right _ (List.mem_of_getElem? (i := 682) (by decide +kernel)), by decide +kernel⟩
theorem mi_X6_alone : Mi yX6_alone RX6 1 cX6_alone 3 none := ⟨by decide +kernel, wc_X6_alone, wi_X6, by decide⟩
theorem wv_X6_alone : Cond.instanceMethod yX6_alone ∈ ltb := List.mem_filter.mpr ⟨List.mem_append_right _ (List.mem_of_getElem? (i := 681) (by decide +kernel)), by decide +kernel⟩
theorem we_X6_alone : Cond.selects RX6 yX6_alone yX6_alone ∈ ltb := List.mem_filter.mpr ⟨List.mem_append_left _ (List.mem_of_getElem? (i := 21) (by decide +kernel)), by decide +kernel⟩
theorem wm_X6_181 : Cond.methodLink RX6 181 yX6_alone ∈ ltb := List.mem_filter.mpr ⟨List.mem_append_right _ (List.mem_of_getElem? (i := 679) (by decide +kernel)), by decide +kernel⟩
noncomputable def pr_X6_matrix : Prg := [(0, z_aload 0 1), (1, z_iload 1 1), (2, z_callv 1 5 sp_X6_isThere), (5, z_if1 (fun x => x = 0) 16), (8, z_aload 0 1), (9, z_iload 2 1), (10, z_callv 1 5 sp_X6_isThere), (13, z_nf1 18), (16, z_ic (-1) 1), (17, z_iret), (18, z_aload 0 1), (19, z_iload 2 1), (20, z_callv 1 5 sp_X6_alone), (23, z_aload 0 1), (24, z_iload 1 1), (25, z_callv 1 5 sp_X6_torqueOf), (28, z_l2i), (29, z_iret)]
set_option maxRecDepth 100000 in
set_option maxHeartbeats 4000000 in
theorem sn_X6_matrix {G : Geo} (hG : GeoOK G) (l : Launch) : ∀ q ∈ pr_X6_matrix, Sn G l yX6_matrix.cls cX6_matrix 3 7 (some .int) q.1 q.2 :=
  fcs (zs_aload_n dX6_matrix_0 rfl) <| fcs (zs_iload_n dX6_matrix_1 rfl) <| fcs (zs_callv cls5 (by decide) (ct_X6_isThere hG l) mi_X6_isThere wv_X6_isThere we_X6_isThere (by decide) wm_X6_162 dX6_matrix_2) <| fcs (zs_if_eq dX6_matrix_5 rfl) <| fcs (zs_aload_n dX6_matrix_8 rfl) <| fcs (zs_iload_n dX6_matrix_9 rfl) <| fcs (zs_callv cls5 (by decide) (ct_X6_isThere hG l) mi_X6_isThere wv_X6_isThere we_X6_isThere (by decide) wm_X6_162 dX6_matrix_10) <| fcs (zs_if_ne dX6_matrix_13 rfl) <| fcs (zs_iconst dX6_matrix_16 rfl) <| fcs (zs_iret dX6_matrix_17) <| fcs (zs_aload_n dX6_matrix_18 rfl) <| fcs (zs_iload_n dX6_matrix_19 rfl) <| fcs (zs_callv cls5 (by decide) (ct_X6_alone hG l) mi_X6_alone wv_X6_alone we_X6_alone (by decide) wm_X6_181 dX6_matrix_20) <| fcs (zs_aload_n dX6_matrix_23 rfl) <| fcs (zs_iload_n dX6_matrix_24 rfl) <| fcs (zs_callv cls5 (by decide) (ct_X6_torqueOf hG l) mi_X6_torqueOf wv_X6_torqueOf we_X6_torqueOf (by decide) wm_X6_177 dX6_matrix_25) <| fcs (zs_l2i dX6_matrix_28) <| fcs (zs_iret dX6_matrix_29) <| fnl
theorem s60_60 (σ : SS) : s60 (s60 σ) = s60 σ := by
  unfold s60 sI
  refine Prod.ext rfl (Prod.ext rfl ?_)
  funext a j
  by_cases h : a = 6 ∧ j = 0
  · simp only [if_pos h]
  · simp only [if_neg h]
set_option maxRecDepth 100000 in
set_option maxHeartbeats 4000000 in
theorem ct_X6_matrix {G : Geo} (hG : GeoOK G) (l : Launch) : Ct G l yX6_matrix cX6_matrix 3 (some .int) 7 sp_X6_matrix := by
  refine Ct.of pr_X6_matrix hG (by decide +kernel) (sn_X6_matrix hG l) ?_
  intro av σ post hok h
  unfold sp_X6_matrix at h
  split at h
  · rename_i b x y
    obtain ⟨hb, hI, h9⟩ := bif_t h
    clear h
    obtain rfl := is6_t hb
    refine ⟨Nat.le_of_ble_eq_true rfl, fun X hX => ?_⟩
    refine go hX [] 60 ?_
    cases hB : mbt σ x with
    | false =>
      rw [hB, Bool.false_and] at h9
      refine ⟨fun g => ?_, fun g => absurd (bz_f hB) g⟩
      exact h9 _ (K25_rf _)
    | true =>
      rw [hB, Bool.true_and] at h9
      obtain ⟨k, h1, h2, rfl⟩ := mbt_k hI hB
      have h7 := hI.2.1
      have e2 := s60_bt σ y
      refine ⟨fun g => absurd g (bz_t hB), fun g => ?_⟩
      cases hB2 : mbt σ y with
      | false =>
        rw [hB2] at h9 e2
        refine ⟨fun g => absurd (bz_f e2) g, fun g => ?_⟩
        have h10 := h9 _ (K25_rf _)
        rw [← s60_60] at h10
        exact h10
      | true =>
        rw [hB2] at h9 e2
        obtain ⟨c, h3, h4, rfl⟩ := mbt_k hI hB2
        dsimp only [cond] at h9
        rw [ix_k (show k < 8 by omega), ix_k (show c < 8 by omega), ← l2i_em, ← s60_60] at h9
        refine ⟨fun g => ?_, fun g => absurd g (bz_t e2)⟩
        refine ⟨s60_MI (s60_MI hI), c, rfl, by omega, ?_⟩
        refine ⟨MI_of (m_alo_I _ _) (s60_MI (s60_MI hI)), k, rfl, ⟨h1, by rw [mn_of (m_alo_I _ _), s60_n, s60_n]; exact h2⟩, fun s hs => ?_⟩
        exact h9 s (K25_tr (K25_alo _ _) (K25_36 hs))
  · exact h.elim
/-- where, in the reference -/
def mwa (s : SS) (k w : Nat) : ZF := if w < 3 then s.2.1 28 0 (3 * k + w % 3) else if w < 6 then s.2.1 28 0 (3 * k + w % 3) + s.2.1 33 0 (3 * k + w % 3) else s.2.1 29 0 (3 * k + w % 3)
noncomputable def sp_X6_where : Spc := fun av σ post => match av with
  | [.inr (.inr q), .inl x, .inl w] => bif is6 q then (MI σ ∧ ∀ s, K25 (s60 σ) s → post (some (ai (bif mbt σ x && wok w then nI (mwa (m_asi (s60 σ) true) (ix x) (ix w)).val else (-1)))) s) else False
  | _ => False
theorem dX6_where_0 : decode cX6_where 0 = .ok (.aload_n 0, 1) := by decide +kernel
theorem dX6_where_1 : decode cX6_where 1 = .ok (.iload_n 1, 1) := by decide +kernel
theorem dX6_where_2 : decode cX6_where 2 = .ok (.invokevirtual 162, 3) := by decide +kernel
theorem dX6_where_5 : decode cX6_where 5 = .ok (.ifCond .eq 13, 3) := by decide +kernel
theorem dX6_where_8 : decode cX6_where 8 = .ok (.iload_n 2, 1) := by decide +kernel
theorem dX6_where_9 : decode cX6_where 9 = .ok (.ifCond .lt 9, 3) := by decide +kernel
theorem dX6_where_12 : decode cX6_where 12 = .ok (.iload_n 2, 1) := by decide +kernel
theorem dX6_where_13 : decode cX6_where 13 = .ok (.bipush 8, 2) := by decide +kernel
theorem dX6_where_15 : decode cX6_where 15 = .ok (.if_icmp .le 5, 3) := by decide +kernel
theorem dX6_where_18 : decode cX6_where 18 = .ok (.iconst (-1), 1) := by decide +kernel
theorem dX6_where_19 : decode cX6_where 19 = .ok (.ireturn, 1) := by decide +kernel
theorem dX6_where_20 : decode cX6_where 20 = .ok (.aload_n 0, 1) := by decide +kernel
theorem dX6_where_21 : decode cX6_where 21 = .ok (.iconst 1, 1) := by decide +kernel
theorem dX6_where_22 : decode cX6_where 22 = .ok (.invokevirtual 174, 3) := by decide +kernel
theorem dX6_where_25 : decode cX6_where 25 = .ok (.iconst 3, 1) := by decide +kernel
theorem dX6_where_26 : decode cX6_where 26 = .ok (.iload_n 1, 1) := by decide +kernel
theorem dX6_where_27 : decode cX6_where 27 = .ok (.imul, 1) := by decide +kernel
theorem dX6_where_28 : decode cX6_where 28 = .ok (.iload_n 2, 1) := by decide +kernel
theorem dX6_where_29 : decode cX6_where 29 = .ok (.iconst 3, 1) := by decide +kernel
theorem dX6_where_30 : decode cX6_where 30 = .ok (.irem, 1) := by decide +kernel
theorem dX6_where_31 : decode cX6_where 31 = .ok (.iadd, 1) := by decide +kernel
theorem dX6_where_32 : decode cX6_where 32 = .ok (.istore_n 3, 1) := by decide +kernel
theorem dX6_where_33 : decode cX6_where 33 = .ok (.iload_n 2, 1) := by decide +kernel
theorem dX6_where_34 : decode cX6_where 34 = .ok (.iconst 3, 1) := by decide +kernel
theorem dX6_where_35 : decode cX6_where 35 = .ok (.if_icmp .ge 12, 3) := by decide +kernel
theorem dX6_where_38 : decode cX6_where 38 = .ok (.aload_n 0, 1) := by decide +kernel
theorem dX6_where_39 : decode cX6_where 39 = .ok (.getfield 42, 3) := by decide +kernel
theorem dX6_where_42 : decode cX6_where 42 = .ok (.iload_n 3, 1) := by decide +kernel
theorem dX6_where_43 : decode cX6_where 43 = .ok (.laload, 1) := by decide +kernel
theorem dX6_where_44 : decode cX6_where 44 = .ok (.goto 35, 3) := by decide +kernel
theorem dX6_where_47 : decode cX6_where 47 = .ok (.iload_n 2, 1) := by decide +kernel
theorem dX6_where_48 : decode cX6_where 48 = .ok (.bipush 6, 2) := by decide +kernel
theorem dX6_where_50 : decode cX6_where 50 = .ok (.if_icmp .ge 23, 3) := by decide +kernel
theorem dX6_where_53 : decode cX6_where 53 = .ok (.aload_n 0, 1) := by decide +kernel
theorem dX6_where_54 : decode cX6_where 54 = .ok (.getfield 42, 3) := by decide +kernel
theorem dX6_where_57 : decode cX6_where 57 = .ok (.iload_n 3, 1) := by decide +kernel
theorem dX6_where_58 : decode cX6_where 58 = .ok (.laload, 1) := by decide +kernel
theorem dX6_where_59 : decode cX6_where 59 = .ok (.aload_n 0, 1) := by decide +kernel
theorem dX6_where_60 : decode cX6_where 60 = .ok (.getfield 57, 3) := by decide +kernel
theorem dX6_where_63 : decode cX6_where 63 = .ok (.iload_n 3, 1) := by decide +kernel
theorem dX6_where_64 : decode cX6_where 64 = .ok (.laload, 1) := by decide +kernel
theorem dX6_where_65 : decode cX6_where 65 = .ok (.ladd, 1) := by decide +kernel
theorem dX6_where_66 : decode cX6_where 66 = .ok (.ldc2_w 91, 3) := by decide +kernel
theorem dX6_where_69 : decode cX6_where 69 = .ok (.lrem, 1) := by decide +kernel
theorem dX6_where_70 : decode cX6_where 70 = .ok (.goto 9, 3) := by decide +kernel
theorem dX6_where_73 : decode cX6_where 73 = .ok (.aload_n 0, 1) := by decide +kernel
theorem dX6_where_74 : decode cX6_where 74 = .ok (.getfield 45, 3) := by decide +kernel
theorem dX6_where_77 : decode cX6_where 77 = .ok (.iload_n 3, 1) := by decide +kernel
theorem dX6_where_78 : decode cX6_where 78 = .ok (.laload, 1) := by decide +kernel
theorem dX6_where_79 : decode cX6_where 79 = .ok (.l2i, 1) := by decide +kernel
theorem dX6_where_80 : decode cX6_where 80 = .ok (.ireturn, 1) := by decide +kernel
noncomputable def pr_X6_where : Prg := [(0, z_aload 0 1), (1, z_iload 1 1), (2, z_callv 1 5 sp_X6_isThere), (5, z_if1 (fun x => x = 0) 18), (8, z_iload 2 1), (9, z_if1 (fun x => x < 0) 18), (12, z_iload 2 1), (13, z_ic (nI 8) 2), (15, z_if2 (fun x y => x ≤ y) 20), (18, z_ic (-1) 1), (19, z_iret), (20, z_aload 0 1), (21, z_ic (nI 1) 1), (22, z_callv 1 5 sp_X6_asItIs), (25, z_ic (nI 3) 1), (26, z_iload 1 1), (27, z_imul), (28, z_iload 2 1), (29, z_ic (nI 3) 1), (30, z_irem), (31, z_iadd), (32, z_istore 3 1), (33, z_iload 2 1), (34, z_ic (nI 3) 1), (35, z_if2 (fun x y => y ≤ x) 47), (38, z_aload 0 1), (39, z_get 5 12), (42, z_iload 3 1), (43, z_laload), (44, z_goto 79), (47, z_iload 2 1), (48, z_ic (nI 6) 2), (50, z_if2 (fun x y => y ≤ x) 73), (53, z_aload 0 1), (54, z_get 5 12), (57, z_iload 3 1), (58, z_laload), (59, z_aload 0 1), (60, z_get 5 17), (63, z_iload 3 1), (64, z_laload), (65, z_ladd), (66, z_lc (.inl 2147483647) 3), (69, z_lrem), (70, z_goto 79), (73, z_aload 0 1), (74, z_get 5 13), (77, z_iload 3 1), (78, z_laload), (79, z_l2i), (80, z_iret)]
set_option maxRecDepth 100000 in
set_option maxHeartbeats 4000000 in
theorem sn_X6_where {G : Geo} (hG : GeoOK G) (l : Launch) : ∀ q ∈ pr_X6_where, Sn G l yX6_where.cls cX6_where 4 7 (some .int) q.1 q.2 :=
  fcs (zs_aload_n dX6_where_0 rfl) <| fcs (zs_iload_n dX6_where_1 rfl) <| fcs (zs_callv cls5 (by decide) (ct_X6_isThere hG l) mi_X6_isThere wv_X6_isThere we_X6_isThere (by decide) wm_X6_162 dX6_where_2) <| fcs (zs_if_eq dX6_where_5 rfl) <| fcs (zs_iload_n dX6_where_8 rfl) <| fcs (zs_if_lt dX6_where_9 rfl) <| fcs (zs_iload_n dX6_where_12 rfl) <| fcs (zs_bipush dX6_where_13 rfl) <| fcs (zs_icmp_le dX6_where_15 rfl) <| fcs (zs_iconst dX6_where_18 rfl) <| fcs (zs_iret dX6_where_19) <| fcs (zs_aload_n dX6_where_20 rfl) <| fcs (zs_iconst dX6_where_21 rfl) <| fcs (zs_callv cls5 (by decide) (ct_X6_asItIs hG l) mi_X6_asItIs wv_X6_asItIs we_X6_asItIs (by decide) wm_X6_174 dX6_where_22) <| fcs (zs_iconst dX6_where_25 rfl) <| fcs (zs_iload_n dX6_where_26 rfl) <| fcs (zs_imul dX6_where_27) <| fcs (zs_iload_n dX6_where_28 rfl) <| fcs (zs_iconst dX6_where_29 rfl) <| fcs (zs_irem dX6_where_30) <| fcs (zs_iadd dX6_where_31) <| fcs (zs_istore_n dX6_where_32 rfl (by decide)) <| fcs (zs_iload_n dX6_where_33 rfl) <| fcs (zs_iconst dX6_where_34 rfl) <| fcs (zs_icmp_ge dX6_where_35 rfl) <| fcs (zs_aload_n dX6_where_38 rfl) <| fcs (zs_get cls5 (by decide) (by decide) wf_X6_42 dX6_where_39) <| fcs (zs_iload_n dX6_where_42 rfl) <| fcs (zs_laload dX6_where_43) <| fcs (zs_goto dX6_where_44 rfl) <| fcs (zs_iload_n dX6_where_47 rfl) <| fcs (zs_bipush dX6_where_48 rfl) <| fcs (zs_icmp_ge dX6_where_50 rfl) <| fcs (zs_aload_n dX6_where_53 rfl) <| fcs (zs_get cls5 (by decide) (by decide) wf_X6_42 dX6_where_54) <| fcs (zs_iload_n dX6_where_57 rfl) <| fcs (zs_laload dX6_where_58) <| fcs (zs_aload_n dX6_where_59 rfl) <| fcs (zs_get cls5 (by decide) (by decide) wf_X6_57 dX6_where_60) <| fcs (zs_iload_n dX6_where_63 rfl) <| fcs (zs_laload dX6_where_64) <| fcs (zs_ladd dX6_where_65) <| fcs (zs_ldc2 dX6_where_66 wl_X6_91) <| fcs (zs_lrem dX6_where_69) <| fcs (zs_goto dX6_where_70 rfl) <| fcs (zs_aload_n dX6_where_73 rfl) <| fcs (zs_get cls5 (by decide) (by decide) wf_X6_45 dX6_where_74) <| fcs (zs_iload_n dX6_where_77 rfl) <| fcs (zs_laload dX6_where_78) <| fcs (zs_l2i dX6_where_79) <| fcs (zs_iret dX6_where_80) <| fnl
set_option maxRecDepth 100000 in
set_option maxHeartbeats 4000000 in
theorem ct_X6_where {G : Geo} (hG : GeoOK G) (l : Launch) : Ct G l yX6_where cX6_where 4 (some .int) 7 sp_X6_where := by
  refine Ct.of pr_X6_where hG (by decide +kernel) (sn_X6_where hG l) ?_
  intro av σ post hok h
  unfold sp_X6_where at h
  split at h
  · rename_i b x w
    obtain ⟨hb, hI, h9⟩ := bif_t h
    clear h
    obtain rfl := is6_t hb
    have h := h9
    refine ⟨Nat.le_of_ble_eq_true rfl, fun X hX => ?_⟩
    cases hB : mbt σ x with
    | false =>
      refine go hX [] 60 ?_
      rw [hB, Bool.false_and] at h
      refine ⟨fun g => ?_, fun g => absurd (bz_f hB) g⟩
      exact h _ (K25_rf _)
    | true =>
      rw [hB, Bool.true_and] at h
      obtain ⟨k, h1, h2, rfl⟩ := mbt_k hI hB
      have h7 := hI.2.1
      have tail : ∀ j (i3 : Int32), j ≤ 8 → w = nI j → i3 = nI (3 * k + j % 3) → post (some (ai (nI (mwa (m_asi (s60 σ) true) k j).val))) (m_asi (s60 σ) true) → X 33 [(3, .inl i3), (0, ar 6 0), (1, .inl (nI k)), (2, .inl (nI j))] [] (m_asi (s60 σ) true) := by
        intro j i3 hj hw hi3 hp
        subst hw hi3
        rw [← l2i_em] at hp
        unfold mwa at hp
        refine go hX [] 60 ?_
        refine ⟨fun g => ⟨fun g1 => ?_, fun g1 => ?_⟩, fun g => ?_⟩
        · have g := (nI_leI (by decide) (by omega)).mp g
          have g1 := (nI_leI (by decide) (by omega)).mp g1
          rw [if_neg (by omega), if_neg (by omega)] at hp
          refine ⟨⟨nle rfl, nle rfl⟩, 3 * k + j % 3, rfl, by show 3 * k + j % 3 < 24; omega, ?_⟩
          exact hp
        · have g := (nI_leI (by decide) (by omega)).mp g
          have g1 : ¬ nI 6 ≤ nI j := g1
          rw [nI_leI (by decide) (by omega)] at g1
          rw [if_neg (by omega), if_pos (by omega), ← n_plus] at hp
          refine ⟨⟨nle rfl, nle rfl⟩, 3 * k + j % 3, rfl, by show 3 * k + j % 3 < 24; omega, ?_⟩
          refine ⟨⟨nle rfl, nle rfl⟩, 3 * k + j % 3, rfl, by show 3 * k + j % 3 < 24; omega, ne_P, ?_⟩
          exact hp
        · have g : ¬ nI 3 ≤ nI j := g
          rw [nI_leI (by decide) (by omega)] at g
          rw [if_pos (by omega)] at hp
          refine ⟨⟨nle rfl, nle rfl⟩, 3 * k + j % 3, rfl, by show 3 * k + j % 3 < 24; omega, ?_⟩
          exact hp
      refine go hX [33] 60 ?_
      refine ⟨fun g => absurd g (bz_t hB), fun g => ⟨fun g1 => ?_, fun g1 => ⟨fun g2 => ?_, fun g2 => ?_⟩⟩⟩
      · have e : wok w = false := by unfold wok; rw [decide_eq_false (fun q => q g1)]; rfl
        rw [e] at h
        exact h _ (K25_rf _)
      · have g2 : w ≤ nI 8 := g2
        have hw : wok w = true := by
          unfold wok
          rw [decide_eq_true g1, decide_eq_true (Int32.not_lt.mpr g2)]
          rfl
        rw [hw] at h
        obtain ⟨j, hj, rfl⟩ := wok_k hw
        dsimp only [cond] at h
        rw [ix_k (show k < 8 by omega), show ix (nI j) = j from nI_clamp (by omega)] at h
        refine ⟨s60_MI hI, Or.inr rfl, ?_⟩
        refine ⟨by decide, ?_⟩
        have hr : nI 3 * nI k + (nI j - nI j / nI 3 * nI 3) = nI (3 * k + j % 3) := by
          rw [pk_rem (by omega) (by decide) (by decide), pk_mul, nI_add]
        exact tail j _ hj rfl hr (h _ (K25_asi _ _))
      · have g2 : ¬ w ≤ nI 8 := g2
        have e : wok w = false := by
          unfold wok
          rw [decide_eq_false (show ¬ ¬ nI 8 < w from fun q => q (Int32.not_le.mp g2)), Bool.and_false]
        rw [e] at h
        exact h _ (K25_rf _)
  · exact h.elim
def mfa (s : SS) (w : Int32) (k : Nat) : ZF := if w = nI 3 then 1 else s.2.1 28 0 (3 * k + ix w) + s.2.1 33 0 (3 * k + ix w)
def mws (s : SS) (w : Int32) : Nat → ZF
  | 0 => 0
  | k + 1 => mws s w k + s.2.1 20 0 (16 * (k + 1) + 4) * mfa s w (k + 1)
noncomputable def sp_X6_weight : Spc := fun av σ post => match av with
  | [.inr (.inr q), .inl w] => bif is6 q then (MI σ ∧ ∀ s, K25 (s60 σ) s → post (some (ai (bif aok w then nI (mws (m_asi (s60 σ) true) w (mn σ)).val else (-1)))) s) else False
  | _ => False
theorem dX6_weight_0 : decode cX6_weight 0 = .ok (.aload_n 0, 1) := by decide +kernel
theorem dX6_weight_1 : decode cX6_weight 1 = .ok (.iconst 0, 1) := by decide +kernel
theorem dX6_weight_2 : decode cX6_weight 2 = .ok (.putfield 87, 3) := by decide +kernel
theorem dX6_weight_5 : decode cX6_weight 5 = .ok (.iload_n 1, 1) := by decide +kernel
theorem dX6_weight_6 : decode cX6_weight 6 = .ok (.ifCond .lt 8, 3) := by decide +kernel
theorem dX6_weight_9 : decode cX6_weight 9 = .ok (.iload_n 1, 1) := by decide +kernel
theorem dX6_weight_10 : decode cX6_weight 10 = .ok (.iconst 3, 1) := by decide +kernel
theorem dX6_weight_11 : decode cX6_weight 11 = .ok (.if_icmp .le 5, 3) := by decide +kernel
theorem dX6_weight_14 : decode cX6_weight 14 = .ok (.iconst (-1), 1) := by decide +kernel
theorem dX6_weight_15 : decode cX6_weight 15 = .ok (.ireturn, 1) := by decide +kernel
theorem dX6_weight_16 : decode cX6_weight 16 = .ok (.aload_n 0, 1) := by decide +kernel
theorem dX6_weight_17 : decode cX6_weight 17 = .ok (.iconst 1, 1) := by decide +kernel
theorem dX6_weight_18 : decode cX6_weight 18 = .ok (.invokevirtual 174, 3) := by decide +kernel
theorem dX6_weight_21 : decode cX6_weight 21 = .ok (.lconst 0, 1) := by decide +kernel
theorem dX6_weight_22 : decode cX6_weight 22 = .ok (.lstore_n 2, 1) := by decide +kernel
theorem dX6_weight_23 : decode cX6_weight 23 = .ok (.iconst 1, 1) := by decide +kernel
theorem dX6_weight_24 : decode cX6_weight 24 = .ok (.istore 4, 2) := by decide +kernel
theorem dX6_weight_26 : decode cX6_weight 26 = .ok (.iload 4, 2) := by decide +kernel
theorem dX6_weight_28 : decode cX6_weight 28 = .ok (.aload_n 0, 1) := by decide +kernel
theorem dX6_weight_29 : decode cX6_weight 29 = .ok (.getfield 114, 3) := by decide +kernel
theorem dX6_weight_32 : decode cX6_weight 32 = .ok (.if_icmp .gt 65, 3) := by decide +kernel
theorem dX6_weight_35 : decode cX6_weight 35 = .ok (.lload_n 2, 1) := by decide +kernel
theorem dX6_weight_36 : decode cX6_weight 36 = .ok (.aload_n 0, 1) := by decide +kernel
theorem dX6_weight_37 : decode cX6_weight 37 = .ok (.getfield 17, 3) := by decide +kernel
theorem dX6_weight_40 : decode cX6_weight 40 = .ok (.bipush 16, 2) := by decide +kernel
theorem dX6_weight_42 : decode cX6_weight 42 = .ok (.iload 4, 2) := by decide +kernel
theorem dX6_weight_44 : decode cX6_weight 44 = .ok (.imul, 1) := by decide +kernel
theorem dX6_weight_45 : decode cX6_weight 45 = .ok (.iconst 4, 1) := by decide +kernel
theorem dX6_weight_46 : decode cX6_weight 46 = .ok (.iadd, 1) := by decide +kernel
theorem dX6_weight_47 : decode cX6_weight 47 = .ok (.laload, 1) := by decide +kernel
theorem dX6_weight_48 : decode cX6_weight 48 = .ok (.iload_n 1, 1) := by decide +kernel
theorem dX6_weight_49 : decode cX6_weight 49 = .ok (.iconst 3, 1) := by decide +kernel
theorem dX6_weight_50 : decode cX6_weight 50 = .ok (.if_icmp .ne 7, 3) := by decide +kernel
theorem dX6_weight_53 : decode cX6_weight 53 = .ok (.lconst 1, 1) := by decide +kernel
theorem dX6_weight_54 : decode cX6_weight 54 = .ok (.goto 30, 3) := by decide +kernel
theorem dX6_weight_57 : decode cX6_weight 57 = .ok (.aload_n 0, 1) := by decide +kernel
theorem dX6_weight_58 : decode cX6_weight 58 = .ok (.getfield 42, 3) := by decide +kernel
theorem dX6_weight_61 : decode cX6_weight 61 = .ok (.iconst 3, 1) := by decide +kernel
theorem dX6_weight_62 : decode cX6_weight 62 = .ok (.iload 4, 2) := by decide +kernel
theorem dX6_weight_64 : decode cX6_weight 64 = .ok (.imul, 1) := by decide +kernel
theorem dX6_weight_65 : decode cX6_weight 65 = .ok (.iload_n 1, 1) := by decide +kernel
theorem dX6_weight_66 : decode cX6_weight 66 = .ok (.iadd, 1) := by decide +kernel
theorem dX6_weight_67 : decode cX6_weight 67 = .ok (.laload, 1) := by decide +kernel
theorem dX6_weight_68 : decode cX6_weight 68 = .ok (.aload_n 0, 1) := by decide +kernel
theorem dX6_weight_69 : decode cX6_weight 69 = .ok (.getfield 57, 3) := by decide +kernel
theorem dX6_weight_72 : decode cX6_weight 72 = .ok (.iconst 3, 1) := by decide +kernel
theorem dX6_weight_73 : decode cX6_weight 73 = .ok (.iload 4, 2) := by decide +kernel
theorem dX6_weight_75 : decode cX6_weight 75 = .ok (.imul, 1) := by decide +kernel
theorem dX6_weight_76 : decode cX6_weight 76 = .ok (.iload_n 1, 1) := by decide +kernel
theorem dX6_weight_77 : decode cX6_weight 77 = .ok (.iadd, 1) := by decide +kernel
theorem dX6_weight_78 : decode cX6_weight 78 = .ok (.laload, 1) := by decide +kernel
theorem dX6_weight_79 : decode cX6_weight 79 = .ok (.ladd, 1) := by decide +kernel
theorem dX6_weight_80 : decode cX6_weight 80 = .ok (.ldc2_w 91, 3) := by decide +kernel
theorem dX6_weight_83 : decode cX6_weight 83 = .ok (.lrem, 1) := by decide +kernel
theorem dX6_weight_84 : decode cX6_weight 84 = .ok (.lmul, 1) := by decide +kernel
theorem dX6_weight_85 : decode cX6_weight 85 = .ok (.ladd, 1) := by decide +kernel
theorem dX6_weight_86 : decode cX6_weight 86 = .ok (.ldc2_w 91, 3) := by decide +kernel
theorem dX6_weight_89 : decode cX6_weight 89 = .ok (.lrem, 1) := by decide +kernel
theorem dX6_weight_90 : decode cX6_weight 90 = .ok (.lstore_n 2, 1) := by decide +kernel
theorem dX6_weight_91 : decode cX6_weight 91 = .ok (.iinc 4 1, 3) := by decide +kernel
theorem dX6_weight_94 : decode cX6_weight 94 = .ok (.goto (-68), 3) := by decide +kernel
theorem dX6_weight_97 : decode cX6_weight 97 = .ok (.lload_n 2, 1) := by decide +kernel
theorem dX6_weight_98 : decode cX6_weight 98 = .ok (.l2i, 1) := by decide +kernel
theorem dX6_weight_99 : decode cX6_weight 99 = .ok (.ireturn, 1) := by decide +kernel
noncomputable def pr_X6_weight : Prg := [(0, z_aload 0 1), (1, z_ic (nI 0) 1), (2, z_mthr), (5, z_iload 1 1), (6, z_if1 (fun x => x < 0) 14), (9, z_iload 1 1), (10, z_ic (nI 3) 1), (11, z_if2 (fun x y => x ≤ y) 16), (14, z_ic (-1) 1), (15, z_iret), (16, z_aload 0 1), (17, z_ic (nI 1) 1), (18, z_callv 1 5 sp_X6_asItIs), (21, z_lc (.inr 0) 1), (22, z_lstore 2 1), (23, z_ic (nI 1) 1), (24, z_istore 4 2), (26, z_iload 4 2), (28, z_aload 0 1), (29, z_get 5 1), (32, z_if2 (fun x y => y < x) 97), (35, z_lload 2 1), (36, z_aload 0 1), (37, z_get 5 4), (40, z_ic (nI 16) 2), (42, z_iload 4 2), (44, z_imul), (45, z_ic (nI 4) 1), (46, z_iadd), (47, z_laload), (48, z_iload 1 1), (49, z_ic (nI 3) 1), (50, z_nf2 57), (53, z_lc (.inr 1) 1), (54, z_goto 84), (57, z_aload 0 1), (58, z_get 5 12), (61, z_ic (nI 3) 1), (62, z_iload 4 2), (64, z_imul), (65, z_iload 1 1), (66, z_iadd), (67, z_laload), (68, z_aload 0 1), (69, z_get 5 17), (72, z_ic (nI 3) 1), (73, z_iload 4 2), (75, z_imul), (76, z_iload 1 1), (77, z_iadd), (78, z_laload), (79, z_ladd), (80, z_lc (.inl 2147483647) 3), (83, z_lrem), (84, z_lmul), (85, z_ladd), (86, z_lc (.inl 2147483647) 3), (89, z_lrem), (90, z_lstore 2 1), (91, z_iinc 4 (nI 1)), (94, z_goto 26), (97, z_lload 2 1), (98, z_l2i), (99, z_iret)]
set_option maxRecDepth 100000 in
set_option maxHeartbeats 4000000 in
theorem sn_X6_weight {G : Geo} (hG : GeoOK G) (l : Launch) : ∀ q ∈ pr_X6_weight, Sn G l yX6_weight.cls cX6_weight 5 7 (some .int) q.1 q.2 :=
  fcs (zs_aload_n dX6_weight_0 rfl) <| fcs (zs_iconst dX6_weight_1 rfl) <| fcs (zs_mthr wf_X6_87 dX6_weight_2) <| fcs (zs_iload_n dX6_weight_5 rfl) <| fcs (zs_if_lt dX6_weight_6 rfl) <| fcs (zs_iload_n dX6_weight_9 rfl) <| fcs (zs_iconst dX6_weight_10 rfl) <| fcs (zs_icmp_le dX6_weight_11 rfl) <| fcs (zs_iconst dX6_weight_14 rfl) <| fcs (zs_iret dX6_weight_15) <| fcs (zs_aload_n dX6_weight_16 rfl) <| fcs (zs_iconst dX6_weight_17 rfl) <| fcs (zs_callv cls5 (by decide) (ct_X6_asItIs hG l) mi_X6_asItIs wv_X6_asItIs we_X6_asItIs (by decide) wm_X6_174 dX6_weight_18) <| fcs (zs_lconst dX6_weight_21 rfl) <| fcs (zs_lstore_n dX6_weight_22 rfl (by decide)) <| fcs (zs_iconst dX6_weight_23 rfl) <| fcs (zs_istore dX6_weight_24 (by decide)) <| fcs (zs_iload dX6_weight_26) <| fcs (zs_aload_n dX6_weight_28 rfl) <| fcs (zs_get cls5 (by decide) (by decide) wf_X6_114 dX6_weight_29) <| fcs (zs_icmp_gt dX6_weight_32 rfl) <| fcs (zs_lload_n dX6_weight_35 rfl) <| fcs (zs_aload_n dX6_weight_36 rfl) <| fcs (zs_get cls5 (by decide) (by decide) wf_X6_17 dX6_weight_37) <| fcs (zs_bipush dX6_weight_40 rfl) <| fcs (zs_iload dX6_weight_42) <| fcs (zs_imul dX6_weight_44) <| fcs (zs_iconst dX6_weight_45 rfl) <| fcs (zs_iadd dX6_weight_46) <| fcs (zs_laload dX6_weight_47) <| fcs (zs_iload_n dX6_weight_48 rfl) <| fcs (zs_iconst dX6_weight_49 rfl) <| fcs (zs_icmp_ne dX6_weight_50 rfl) <| fcs (zs_lconst dX6_weight_53 rfl) <| fcs (zs_goto dX6_weight_54 rfl) <| fcs (zs_aload_n dX6_weight_57 rfl) <| fcs (zs_get cls5 (by decide) (by decide) wf_X6_42 dX6_weight_58) <| fcs (zs_iconst dX6_weight_61 rfl) <| fcs (zs_iload dX6_weight_62) <| fcs (zs_imul dX6_weight_64) <| fcs (zs_iload_n dX6_weight_65 rfl) <| fcs (zs_iadd dX6_weight_66) <| fcs (zs_laload dX6_weight_67) <| fcs (zs_aload_n dX6_weight_68 rfl) <| fcs (zs_get cls5 (by decide) (by decide) wf_X6_57 dX6_weight_69) <| fcs (zs_iconst dX6_weight_72 rfl) <| fcs (zs_iload dX6_weight_73) <| fcs (zs_imul dX6_weight_75) <| fcs (zs_iload_n dX6_weight_76 rfl) <| fcs (zs_iadd dX6_weight_77) <| fcs (zs_laload dX6_weight_78) <| fcs (zs_ladd dX6_weight_79) <| fcs (zs_ldc2 dX6_weight_80 wl_X6_91) <| fcs (zs_lrem dX6_weight_83) <| fcs (zs_lmul dX6_weight_84) <| fcs (zs_ladd dX6_weight_85) <| fcs (zs_ldc2 dX6_weight_86 wl_X6_91) <| fcs (zs_lrem dX6_weight_89) <| fcs (zs_lstore_n dX6_weight_90 rfl (by decide)) <| fcs (zs_iinc dX6_weight_91 rfl (by decide)) <| fcs (zs_goto dX6_weight_94 rfl) <| fcs (zs_lload_n dX6_weight_97 rfl) <| fcs (zs_l2i dX6_weight_98) <| fcs (zs_iret dX6_weight_99) <| fnl
set_option maxRecDepth 100000 in
set_option maxHeartbeats 4000000 in
theorem ct_X6_weight {G : Geo} (hG : GeoOK G) (l : Launch) : Ct G l yX6_weight cX6_weight 5 (some .int) 7 sp_X6_weight := by
  refine Ct.of pr_X6_weight hG (by decide +kernel) (sn_X6_weight hG l) ?_
  intro av σ post hok h
  unfold sp_X6_weight at h
  split at h
  · rename_i b w
    obtain ⟨hb, hI, h9⟩ := bif_t h
    clear h
    obtain rfl := is6_t hb
    have h := h9
    refine ⟨Nat.le_of_ble_eq_true rfl, fun X hX => ?_⟩
    have h7 := hI.2.1
    have hI' : MI (m_asi (s60 σ) true) := MI_of (m_asi_I _ _) (s60_MI hI)
    have hn : mn (m_asi (s60 σ) true) = mn σ := (mn_of (m_asi_I _ _)).trans (s60_n σ)
    refine go hX [26] 60 ?_
    refine ⟨rfl, ?_⟩
    refine ⟨fun g1 => ?_, fun g1 => ⟨fun g2 => ?_, fun g2 => ?_⟩⟩
    · have e : aok w = false := by unfold aok; rw [decide_eq_false (fun q => q g1)]; rfl
      rw [e] at h
      exact h _ (K25_rf _)
    · have g2 : w ≤ nI 3 := g2
      have hw : aok w = true := by
        unfold aok
        rw [decide_eq_true g1, decide_eq_true (Int32.not_lt.mpr g2)]
        rfl
      rw [hw] at h
      dsimp only [cond] at h
      have h := h (m_asi (s60 σ) true) (K25_asi _ _)
      rw [← l2i_em] at h
      obtain ⟨wj, hwj, rfl⟩ : ∃ j, j ≤ 3 ∧ w = nI j := by
        obtain ⟨j, hj, rfl⟩ := nI_of g1
        exact ⟨j, (nI_leI hj (by decide)).mp g2, rfl⟩
      have loop : ∀ (m k : Nat) (i : Int32) (y : LV), k + m = mn σ → i = nI (k + 1) → lv y = em (mws (m_asi (s60 σ) true) (nI wj) k) → X 26 [(4, .inl i), (2, .inr (.inl y)), (0, ar 6 0), (1, .inl (nI wj))] [] (m_asi (s60 σ) true) := by
        intro m
        induction m with
        | zero =>
          intro k i y hk hi hy
          subst hi
          refine go hX [26] 60 ?_
          refine ⟨fun g1 => ?_, fun g1 => absurd (mlp_t hI' (by omega) (by omega)) g1⟩
          have e : k = mn σ := by omega
          subst e
          rw [← hy] at h
          exact h
        | succ m ih =>
          intro k i y hk hi hy
          subst hi
          refine go hX [26] 60 ?_
          refine ⟨fun g1 => absurd g1 (mlp_f hI' (by omega)), fun g1 => ?_⟩
          refine ⟨⟨nle rfl, nle rfl⟩, 16 * (k + 1) + 4, by rw [pk_mul, nI_add], by show 16 * (k + 1) + 4 < 128; omega, ?_⟩
          have e9 : mws (m_asi (s60 σ) true) (nI wj) (k + 1) = mws (m_asi (s60 σ) true) (nI wj) k + (m_asi (s60 σ) true).2.1 20 0 (16 * (k + 1) + 4) * mfa (m_asi (s60 σ) true) (nI wj) (k + 1) := rfl
          refine ⟨fun q1 => ?_, fun q1 => ?_⟩
          · have q1 : ¬ nI wj = nI 3 := q1
            have q2 : ¬ wj = 3 := fun e => q1 (by rw [e])
            refine ⟨⟨nle rfl, nle rfl⟩, 3 * (k + 1) + wj, by rw [pk_mul, nI_add], by show 3 * (k + 1) + wj < 24; omega, ?_⟩
            refine ⟨⟨nle rfl, nle rfl⟩, 3 * (k + 1) + wj, by rw [pk_mul, nI_add], by show 3 * (k + 1) + wj < 24; omega, ne_P, ne_P, ?_⟩
            refine wk hX (ih (k + 1) _ (.inl _) (by omega) (nI_add (k + 1) 1) ?_) ⟨⟨_, rfl, Or.inl rfl⟩, ⟨_, rfl, Or.inl rfl⟩, ⟨_, rfl, Or.inl rfl⟩, ⟨_, rfl, Or.inl rfl⟩, trivial⟩
            show rP (lv y + em _ * rP (em _ + em _)) = _
            rw [hy, n_plus, n_addt, e9]
            unfold mfa
            rw [if_neg q1, show ix (nI wj) = wj from nI_clamp (by omega)]
          · have q1 : nI wj = nI 3 := q1
            refine ⟨ne_P, ?_⟩
            refine wk hX (ih (k + 1) _ (.inl _) (by omega) (nI_add (k + 1) 1) ?_) ⟨⟨_, rfl, Or.inl rfl⟩, ⟨_, rfl, Or.inl rfl⟩, ⟨_, rfl, Or.inl rfl⟩, ⟨_, rfl, Or.inl rfl⟩, trivial⟩
            show rP (lv y + em _ * em 1) = _
            rw [hy, n_addt, e9]
            unfold mfa
            rw [if_pos q1]
      refine ⟨s60_MI hI, Or.inr rfl, ?_⟩
      exact loop (mn σ) 0 _ (.inr 0) (by omega) rfl rfl
    · have g2 : ¬ w ≤ nI 3 := g2
      have e : aok w = false := by
        unfold aok
        rw [decide_eq_false (show ¬ ¬ nI 3 < w from fun q => q (Int32.not_le.mp g2)), Bool.and_false]
      rw [e] at h
      exact h _ (K25_rf _)
  · exact h.elim
def mst1 (t : ZF) (s : SS) (k : Nat) : SS :=
  let s := sL s 22 0 k (s.2.1 22 0 k + s.2.1 23 0 k * t)
  sL s 21 0 k (s.2.1 21 0 k + s.2.1 22 0 k * t)
def m_stp (σ : SS) (t : ZF) : SS := upf (mst1 t) (s60 σ) (mn σ)
noncomputable def sp_X6_step : Spc := fun av σ post => match av with
  | [.inr (.inr q), .inl x] => bif is6 q then (MI σ ∧ post none (m_stp σ (fi x))) else False
  | _ => False
theorem dX6_step_0 : decode cX6_step 0 = .ok (.aload_n 0, 1) := by decide +kernel
theorem dX6_step_1 : decode cX6_step 1 = .ok (.iconst 0, 1) := by decide +kernel
theorem dX6_step_2 : decode cX6_step 2 = .ok (.putfield 87, 3) := by decide +kernel
theorem dX6_step_5 : decode cX6_step 5 = .ok (.iload_n 1, 1) := by decide +kernel
theorem dX6_step_6 : decode cX6_step 6 = .ok (.i2l, 1) := by decide +kernel
theorem dX6_step_7 : decode cX6_step 7 = .ok (.invokestatic 97, 3) := by decide +kernel
theorem dX6_step_10 : decode cX6_step 10 = .ok (.lstore_n 2, 1) := by decide +kernel
theorem dX6_step_11 : decode cX6_step 11 = .ok (.iconst 1, 1) := by decide +kernel
theorem dX6_step_12 : decode cX6_step 12 = .ok (.istore 4, 2) := by decide +kernel
theorem dX6_step_14 : decode cX6_step 14 = .ok (.iload 4, 2) := by decide +kernel
theorem dX6_step_16 : decode cX6_step 16 = .ok (.aload_n 0, 1) := by decide +kernel
theorem dX6_step_17 : decode cX6_step 17 = .ok (.getfield 114, 3) := by decide +kernel
theorem dX6_step_20 : decode cX6_step 20 = .ok (.if_icmp .gt 65, 3) := by decide +kernel
theorem dX6_step_23 : decode cX6_step 23 = .ok (.aload_n 0, 1) := by decide +kernel
theorem dX6_step_24 : decode cX6_step 24 = .ok (.getfield 24, 3) := by decide +kernel
theorem dX6_step_27 : decode cX6_step 27 = .ok (.iload 4, 2) := by decide +kernel
theorem dX6_step_29 : decode cX6_step 29 = .ok (.aload_n 0, 1) := by decide +kernel
theorem dX6_step_30 : decode cX6_step 30 = .ok (.getfield 24, 3) := by decide +kernel
theorem dX6_step_33 : decode cX6_step 33 = .ok (.iload 4, 2) := by decide +kernel
theorem dX6_step_35 : decode cX6_step 35 = .ok (.laload, 1) := by decide +kernel
theorem dX6_step_36 : decode cX6_step 36 = .ok (.aload_n 0, 1) := by decide +kernel
theorem dX6_step_37 : decode cX6_step 37 = .ok (.getfield 27, 3) := by decide +kernel
theorem dX6_step_40 : decode cX6_step 40 = .ok (.iload 4, 2) := by decide +kernel
theorem dX6_step_42 : decode cX6_step 42 = .ok (.laload, 1) := by decide +kernel
theorem dX6_step_43 : decode cX6_step 43 = .ok (.lload_n 2, 1) := by decide +kernel
theorem dX6_step_44 : decode cX6_step 44 = .ok (.lmul, 1) := by decide +kernel
theorem dX6_step_45 : decode cX6_step 45 = .ok (.ladd, 1) := by decide +kernel
theorem dX6_step_46 : decode cX6_step 46 = .ok (.ldc2_w 91, 3) := by decide +kernel
theorem dX6_step_49 : decode cX6_step 49 = .ok (.lrem, 1) := by decide +kernel
theorem dX6_step_50 : decode cX6_step 50 = .ok (.lastore, 1) := by decide +kernel
theorem dX6_step_51 : decode cX6_step 51 = .ok (.aload_n 0, 1) := by decide +kernel
theorem dX6_step_52 : decode cX6_step 52 = .ok (.getfield 21, 3) := by decide +kernel
theorem dX6_step_55 : decode cX6_step 55 = .ok (.iload 4, 2) := by decide +kernel
theorem dX6_step_57 : decode cX6_step 57 = .ok (.aload_n 0, 1) := by decide +kernel
theorem dX6_step_58 : decode cX6_step 58 = .ok (.getfield 21, 3) := by decide +kernel
theorem dX6_step_61 : decode cX6_step 61 = .ok (.iload 4, 2) := by decide +kernel
theorem dX6_step_63 : decode cX6_step 63 = .ok (.laload, 1) := by decide +kernel
theorem dX6_step_64 : decode cX6_step 64 = .ok (.aload_n 0, 1) := by decide +kernel
theorem dX6_step_65 : decode cX6_step 65 = .ok (.getfield 24, 3) := by decide +kernel
theorem dX6_step_68 : decode cX6_step 68 = .ok (.iload 4, 2) := by decide +kernel
theorem dX6_step_70 : decode cX6_step 70 = .ok (.laload, 1) := by decide +kernel
theorem dX6_step_71 : decode cX6_step 71 = .ok (.lload_n 2, 1) := by decide +kernel
theorem dX6_step_72 : decode cX6_step 72 = .ok (.lmul, 1) := by decide +kernel
theorem dX6_step_73 : decode cX6_step 73 = .ok (.ladd, 1) := by decide +kernel
theorem dX6_step_74 : decode cX6_step 74 = .ok (.ldc2_w 91, 3) := by decide +kernel
theorem dX6_step_77 : decode cX6_step 77 = .ok (.lrem, 1) := by decide +kernel
theorem dX6_step_78 : decode cX6_step 78 = .ok (.lastore, 1) := by decide +kernel
theorem dX6_step_79 : decode cX6_step 79 = .ok (.iinc 4 1, 3) := by decide +kernel
theorem dX6_step_82 : decode cX6_step 82 = .ok (.goto (-68), 3) := by decide +kernel
theorem dX6_step_85 : decode cX6_step 85 = .ok (.return_, 1) := by decide +kernel
noncomputable def pr_X6_step : Prg := [(0, z_aload 0 1), (1, z_ic (nI 0) 1), (2, z_mthr), (5, z_iload 1 1), (6, z_i2l), (7, z_call 1 sp_X6_of), (10, z_lstore 2 1), (11, z_ic (nI 1) 1), (12, z_istore 4 2), (14, z_iload 4 2), (16, z_aload 0 1), (17, z_get 5 1), (20, z_if2 (fun x y => y < x) 85), (23, z_aload 0 1), (24, z_get 5 6), (27, z_iload 4 2), (29, z_aload 0 1), (30, z_get 5 6), (33, z_iload 4 2), (35, z_laload), (36, z_aload 0 1), (37, z_get 5 7), (40, z_iload 4 2), (42, z_laload), (43, z_lload 2 1), (44, z_lmul), (45, z_ladd), (46, z_lc (.inl 2147483647) 3), (49, z_lrem), (50, z_lastore), (51, z_aload 0 1), (52, z_get 5 5), (55, z_iload 4 2), (57, z_aload 0 1), (58, z_get 5 5), (61, z_iload 4 2), (63, z_laload), (64, z_aload 0 1), (65, z_get 5 6), (68, z_iload 4 2), (70, z_laload), (71, z_lload 2 1), (72, z_lmul), (73, z_ladd), (74, z_lc (.inl 2147483647) 3), (77, z_lrem), (78, z_lastore), (79, z_iinc 4 (nI 1)), (82, z_goto 14), (85, z_vret)]
set_option maxRecDepth 100000 in
set_option maxHeartbeats 4000000 in
theorem sn_X6_step {G : Geo} (hG : GeoOK G) (l : Launch) : ∀ q ∈ pr_X6_step, Sn G l yX6_step.cls cX6_step 5 1 none q.1 q.2 :=
  fcs (zs_aload_n dX6_step_0 rfl) <| fcs (zs_iconst dX6_step_1 rfl) <| fcs (zs_mthr wf_X6_87 dX6_step_2) <| fcs (zs_iload_n dX6_step_5 rfl) <| fcs (zs_i2l dX6_step_6) <| fcs (zs_calls (ct_X6_of hG l) mi_X6_of ws_X6_of (by decide) wm_X6_97 dX6_step_7) <| fcs (zs_lstore_n dX6_step_10 rfl (by decide)) <| fcs (zs_iconst dX6_step_11 rfl) <| fcs (zs_istore dX6_step_12 (by decide)) <| fcs (zs_iload dX6_step_14) <| fcs (zs_aload_n dX6_step_16 rfl) <| fcs (zs_get cls5 (by decide) (by decide) wf_X6_114 dX6_step_17) <| fcs (zs_icmp_gt dX6_step_20 rfl) <| fcs (zs_aload_n dX6_step_23 rfl) <| fcs (zs_get cls5 (by decide) (by decide) wf_X6_24 dX6_step_24) <| fcs (zs_iload dX6_step_27) <| fcs (zs_aload_n dX6_step_29 rfl) <| fcs (zs_get cls5 (by decide) (by decide) wf_X6_24 dX6_step_30) <| fcs (zs_iload dX6_step_33) <| fcs (zs_laload dX6_step_35) <| fcs (zs_aload_n dX6_step_36 rfl) <| fcs (zs_get cls5 (by decide) (by decide) wf_X6_27 dX6_step_37) <| fcs (zs_iload dX6_step_40) <| fcs (zs_laload dX6_step_42) <| fcs (zs_lload_n dX6_step_43 rfl) <| fcs (zs_lmul dX6_step_44) <| fcs (zs_ladd dX6_step_45) <| fcs (zs_ldc2 dX6_step_46 wl_X6_91) <| fcs (zs_lrem dX6_step_49) <| fcs (zs_lastore dX6_step_50) <| fcs (zs_aload_n dX6_step_51 rfl) <| fcs (zs_get cls5 (by decide) (by decide) wf_X6_21 dX6_step_52) <| fcs (zs_iload dX6_step_55) <| fcs (zs_aload_n dX6_step_57 rfl) <| fcs (zs_get cls5 (by decide) (by decide) wf_X6_21 dX6_step_58) <| fcs (zs_iload dX6_step_61) <| fcs (zs_laload dX6_step_63) <| fcs (zs_aload_n dX6_step_64 rfl) <| fcs (zs_get cls5 (by decide) (by decide) wf_X6_24 dX6_step_65) <| fcs (zs_iload dX6_step_68) <| fcs (zs_laload dX6_step_70) <| fcs (zs_lload_n dX6_step_71 rfl) <| fcs (zs_lmul dX6_step_72) <| fcs (zs_ladd dX6_step_73) <| fcs (zs_ldc2 dX6_step_74 wl_X6_91) <| fcs (zs_lrem dX6_step_77) <| fcs (zs_lastore dX6_step_78) <| fcs (zs_iinc dX6_step_79 rfl (by decide)) <| fcs (zs_goto dX6_step_82 rfl) <| fcs (zs_vret dX6_step_85) <| fnl
set_option maxRecDepth 100000 in
set_option maxHeartbeats 4000000 in
theorem ct_X6_step {G : Geo} (hG : GeoOK G) (l : Launch) : Ct G l yX6_step cX6_step 5 none 1 sp_X6_step := by
  refine Ct.of pr_X6_step hG (by decide +kernel) (sn_X6_step hG l) ?_
  intro av σ post hok h
  unfold sp_X6_step at h
  split at h
  · rename_i b x
    obtain ⟨hb, hI, h9⟩ := bif_t h
    clear h
    obtain rfl := is6_t hb
    refine ⟨Nat.le_of_ble_eq_true rfl, fun X hX => ?_⟩
    have h7 := hI.2.1
    have h0I : ∀ k, (upf (mst1 (fi x)) (s60 σ) k).2.2 = (s60 σ).2.2 := fun k => upf_I (f := mst1 (fi x)) (fun _ _ => rfl) _ _
    have loop : ∀ (m k : Nat) (i : Int32) (y : LV), lv y = em (fi x) → k + m = mn σ → i = nI (k + 1) → X 14 [(4, .inl i), (2, .inr (.inl y)), (0, ar 6 0), (1, .inl x)] [] (upf (mst1 (fi x)) (s60 σ) k) := by
      intro m
      induction m with
      | zero =>
        intro k i y hy hk hi
        subst hi
        have hI' := MI_of (h0I k) (s60_MI hI)
        have hn := (mn_of (h0I k)).trans (s60_n σ)
        refine go hX [14] 60 ?_
        refine ⟨fun g1 => ?_, fun g1 => absurd (mlp_t hI' (by omega) (by omega)) g1⟩
        have e : k = mn σ := by omega
        subst e
        exact h9
      | succ m ih =>
        intro k i y hy hk hi
        subst hi
        have hI' := MI_of (h0I k) (s60_MI hI)
        have hn := (mn_of (h0I k)).trans (s60_n σ)
        refine go hX [14] 60 ?_
        refine ⟨fun g1 => absurd g1 (mlp_f hI' (by omega)), fun g1 => ?_⟩
        refine ⟨⟨nle rfl, nle rfl⟩, k + 1, rfl, by show k + 1 < 8; omega, ?_⟩
        refine ⟨⟨nle rfl, nle rfl⟩, k + 1, rfl, by show k + 1 < 8; omega, ne_P, ?_⟩
        refine ⟨⟨nle rfl, nle rfl⟩, k + 1, ((upf (mst1 (fi x)) (s60 σ) k).2.1 22 0 (k + 1) + (upf (mst1 (fi x)) (s60 σ) k).2.1 23 0 (k + 1) * fi x), rfl, by show k + 1 < 8; omega, ?_, ?_⟩
        · show rP (em _ + em _ * lv y) = em _
          rw [hy]
          exact n_addt _ _ _
        refine ⟨⟨nle rfl, nle rfl⟩, k + 1, rfl, by show k + 1 < 8; omega, ?_⟩
        refine ⟨⟨nle rfl, nle rfl⟩, k + 1, rfl, by show k + 1 < 8; omega, ne_P, ?_⟩
        refine ⟨⟨nle rfl, nle rfl⟩, k + 1, ((sL (upf (mst1 (fi x)) (s60 σ) k) 22 0 (k + 1) ((upf (mst1 (fi x)) (s60 σ) k).2.1 22 0 (k + 1) + (upf (mst1 (fi x)) (s60 σ) k).2.1 23 0 (k + 1) * fi x)).2.1 21 0 (k + 1) + (sL (upf (mst1 (fi x)) (s60 σ) k) 22 0 (k + 1) ((upf (mst1 (fi x)) (s60 σ) k).2.1 22 0 (k + 1) + (upf (mst1 (fi x)) (s60 σ) k).2.1 23 0 (k + 1) * fi x)).2.1 22 0 (k + 1) * fi x), rfl, by show k + 1 < 8; omega, ?_, ?_⟩
        · show rP (em _ + em _ * lv y) = em _
          rw [hy]
          exact n_addt _ _ _
        exact ih (k + 1) _ y hy (by omega) (nI_add _ _)
    refine go hX [14] 60 ?_
    refine ⟨rfl, ?_⟩
    refine loop (mn σ) 0 _ _ ?_ (by omega) rfl
    show em _ = em _
    rw [fi_l]
  · exact h.elim
