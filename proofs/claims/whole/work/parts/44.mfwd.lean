/-! The reference: forward -/
/-- all corners from k - 1 down are cleared -/
noncomputable def icls (A : Nat → ZF) (n : Nat) : Nat → Bool
  | 0 => true
  | k + 1 => bif (icl k (n - k) k A).1 then icls A n k else false
noncomputable def xsl (A : Nat → ZF) (n k : Nat) : ZF := (icl 0 n 0 A).2 (8 * k + 7) * zinv ((icl 0 n 0 A).2 (8 * k + k))
/-- the first c pushes are new, scratch is any -/
def FW (σ : SS) (x : Nat → ZF) (c : Nat) (s : SS) : Prop := s.1 = σ.1 ∧ s.2.2 = σ.2.2 ∧ (∀ a b j, a < 25 → a ≠ 23 → s.2.1 a b j = σ.2.1 a b j) ∧ ∀ b j, s.2.1 23 b j = if b = 0 ∧ 1 ≤ j ∧ j ≤ c then x (j - 1) else σ.2.1 23 b j
noncomputable def sp_X6_forward : Spc := fun av σ post => match av with
  | [.inr (.inr q)] => bif is6 q then (MI σ ∧ ∃ (M : Nat → Nat → ZF) (B : Nat → ZF), (∀ s, K25 (s60 σ) s → ∀ i j, (1 ≤ i ∧ i ≤ mn σ) → (1 ≤ j ∧ j ≤ mn σ) → tq (m_alo s i) j = M j i) ∧ (∀ s, K25 (s60 σ) s → ∀ j, (1 ≤ j ∧ j ≤ mn σ) → σ.2.1 20 0 (16 * j + 14) - tq (m_asi s false) j = B j) ∧ ∀ A s, kpt A M (mn σ) (mn σ) → kpg A B (mn σ) → FW (s60 σ) (xsl A (mn σ)) (bif icls A (mn σ) (mn σ) then mn σ else 0) s → post (some (ai (bz (icls A (mn σ) (mn σ))))) s) else False
  | _ => False
theorem dX6_forward_0 : decode cX6_forward 0 = .ok (.aload_n 0, 1) := by decide +kernel
theorem dX6_forward_1 : decode cX6_forward 1 = .ok (.iconst 0, 1) := by decide +kernel
theorem dX6_forward_2 : decode cX6_forward 2 = .ok (.putfield 87, 3) := by decide +kernel
theorem dX6_forward_5 : decode cX6_forward 5 = .ok (.aload_n 0, 1) := by decide +kernel
theorem dX6_forward_6 : decode cX6_forward 6 = .ok (.invokevirtual 184, 3) := by decide +kernel
theorem dX6_forward_9 : decode cX6_forward 9 = .ok (.aload_n 0, 1) := by decide +kernel
theorem dX6_forward_10 : decode cX6_forward 10 = .ok (.getfield 114, 3) := by decide +kernel
theorem dX6_forward_13 : decode cX6_forward 13 = .ok (.iconst 1, 1) := by decide +kernel
theorem dX6_forward_14 : decode cX6_forward 14 = .ok (.isub, 1) := by decide +kernel
theorem dX6_forward_15 : decode cX6_forward 15 = .ok (.istore_n 1, 1) := by decide +kernel
theorem dX6_forward_16 : decode cX6_forward 16 = .ok (.iload_n 1, 1) := by decide +kernel
theorem dX6_forward_17 : decode cX6_forward 17 = .ok (.ifCond .lt 19, 3) := by decide +kernel
theorem dX6_forward_20 : decode cX6_forward 20 = .ok (.aload_n 0, 1) := by decide +kernel
theorem dX6_forward_21 : decode cX6_forward 21 = .ok (.iload_n 1, 1) := by decide +kernel
theorem dX6_forward_22 : decode cX6_forward 22 = .ok (.invokevirtual 187, 3) := by decide +kernel
theorem dX6_forward_25 : decode cX6_forward 25 = .ok (.ifCond .ne 5, 3) := by decide +kernel
theorem dX6_forward_28 : decode cX6_forward 28 = .ok (.iconst 0, 1) := by decide +kernel
theorem dX6_forward_29 : decode cX6_forward 29 = .ok (.ireturn, 1) := by decide +kernel
theorem dX6_forward_30 : decode cX6_forward 30 = .ok (.iinc 1 (-1), 3) := by decide +kernel
theorem dX6_forward_33 : decode cX6_forward 33 = .ok (.goto (-17), 3) := by decide +kernel
theorem dX6_forward_36 : decode cX6_forward 36 = .ok (.iconst 0, 1) := by decide +kernel
theorem dX6_forward_37 : decode cX6_forward 37 = .ok (.istore_n 1, 1) := by decide +kernel
theorem dX6_forward_38 : decode cX6_forward 38 = .ok (.iload_n 1, 1) := by decide +kernel
theorem dX6_forward_39 : decode cX6_forward 39 = .ok (.aload_n 0, 1) := by decide +kernel
theorem dX6_forward_40 : decode cX6_forward 40 = .ok (.getfield 114, 3) := by decide +kernel
theorem dX6_forward_43 : decode cX6_forward 43 = .ok (.if_icmp .ge 48, 3) := by decide +kernel
theorem dX6_forward_46 : decode cX6_forward 46 = .ok (.aload_n 0, 1) := by decide +kernel
theorem dX6_forward_47 : decode cX6_forward 47 = .ok (.getfield 27, 3) := by decide +kernel
theorem dX6_forward_50 : decode cX6_forward 50 = .ok (.iload_n 1, 1) := by decide +kernel
theorem dX6_forward_51 : decode cX6_forward 51 = .ok (.iconst 1, 1) := by decide +kernel
theorem dX6_forward_52 : decode cX6_forward 52 = .ok (.iadd, 1) := by decide +kernel
theorem dX6_forward_53 : decode cX6_forward 53 = .ok (.aload_n 0, 1) := by decide +kernel
theorem dX6_forward_54 : decode cX6_forward 54 = .ok (.getfield 81, 3) := by decide +kernel
theorem dX6_forward_57 : decode cX6_forward 57 = .ok (.bipush 8, 2) := by decide +kernel
theorem dX6_forward_59 : decode cX6_forward 59 = .ok (.iload_n 1, 1) := by decide +kernel
theorem dX6_forward_60 : decode cX6_forward 60 = .ok (.imul, 1) := by decide +kernel
theorem dX6_forward_61 : decode cX6_forward 61 = .ok (.bipush 7, 2) := by decide +kernel
theorem dX6_forward_63 : decode cX6_forward 63 = .ok (.iadd, 1) := by decide +kernel
theorem dX6_forward_64 : decode cX6_forward 64 = .ok (.laload, 1) := by decide +kernel
theorem dX6_forward_65 : decode cX6_forward 65 = .ok (.aload_n 0, 1) := by decide +kernel
theorem dX6_forward_66 : decode cX6_forward 66 = .ok (.getfield 81, 3) := by decide +kernel
theorem dX6_forward_69 : decode cX6_forward 69 = .ok (.bipush 8, 2) := by decide +kernel
theorem dX6_forward_71 : decode cX6_forward 71 = .ok (.iload_n 1, 1) := by decide +kernel
theorem dX6_forward_72 : decode cX6_forward 72 = .ok (.imul, 1) := by decide +kernel
theorem dX6_forward_73 : decode cX6_forward 73 = .ok (.iload_n 1, 1) := by decide +kernel
theorem dX6_forward_74 : decode cX6_forward 74 = .ok (.iadd, 1) := by decide +kernel
theorem dX6_forward_75 : decode cX6_forward 75 = .ok (.laload, 1) := by decide +kernel
theorem dX6_forward_76 : decode cX6_forward 76 = .ok (.invokestatic 101, 3) := by decide +kernel
theorem dX6_forward_79 : decode cX6_forward 79 = .ok (.lmul, 1) := by decide +kernel
theorem dX6_forward_80 : decode cX6_forward 80 = .ok (.ldc2_w 91, 3) := by decide +kernel
theorem dX6_forward_83 : decode cX6_forward 83 = .ok (.lrem, 1) := by decide +kernel
theorem dX6_forward_84 : decode cX6_forward 84 = .ok (.lastore, 1) := by decide +kernel
theorem dX6_forward_85 : decode cX6_forward 85 = .ok (.iinc 1 1, 3) := by decide +kernel
theorem dX6_forward_88 : decode cX6_forward 88 = .ok (.goto (-50), 3) := by decide +kernel
theorem dX6_forward_91 : decode cX6_forward 91 = .ok (.iconst 1, 1) := by decide +kernel
theorem dX6_forward_92 : decode cX6_forward 92 = .ok (.ireturn, 1) := by decide +kernel
theorem wc_X6_system : Cond.code yX6_system cX6_system 3 none ∈ ltb := List.mem_filter.mpr ⟨List.mem_append_right _ (List.mem_of_getElem? (i := 694) (by decide +kernel)), by decide +kernel⟩
theorem mi_X6_system : Mi yX6_system RX6 0 cX6_system 3 none := ⟨by decide +kernel, wc_X6_system, wi_X6, by decide⟩
theorem wv_X6_system : Cond.instanceMethod yX6_system ∈ ltb := List.mem_filter.mpr ⟨List.mem_append_right _ (List.mem_of_getElem? (i := 693) (by decide +kernel)), by decide +kernel⟩
theorem we_X6_system : Cond.selects RX6 yX6_system yX6_system ∈ ltb := List.mem_filter.mpr ⟨List.mem_append_left _ (List.mem_of_getElem? (i := 22) (by decide +kernel)), by decide +kernel⟩
theorem wm_X6_184 : Cond.methodLink RX6 184 yX6_system ∈ ltb := List.mem_filter.mpr ⟨List.mem_append_right _ (List.mem_of_getElem? (i := 691) (by decide +kernel)), by decide +kernel⟩
theorem wc_X6_isCleared : Cond.code yX6_isCleared cX6_isCleared 10 (some .boolean) ∈ ltb := List.mem_filter.mpr ⟨List.mem_append_right _ (List.mem_of_getElem? (i := 698) (by decide +kernel)), by decide +kernel⟩
theorem mi_X6_isCleared : Mi yX6_isCleared RX6 1 cX6_isCleared 10 (some .boolean) := ⟨by decide +kernel, wc_X6_isCleared, wi_X6, by decide⟩
theorem wv_X6_isCleared : Cond.instanceMethod yX6_isCleared ∈ ltb := List.mem_filter.mpr ⟨List.mem_append_right _ (List.mem_of_getElem? (i := 697) (by decide +kernel)), by decide +kernel⟩
theorem we_X6_isCleared : Cond.selects RX6 yX6_isCleared yX6_isCleared ∈ ltb := List.mem_filter.mpr ⟨List.mem_append_left _ (List.mem_of_getElem? (i := 23) (by decide +kernel)), by decide +kernel⟩
theorem wm_X6_187 : Cond.methodLink RX6 187 yX6_isCleared ∈ ltb := List.mem_filter.mpr ⟨List.mem_append_right _ (List.mem_of_getElem? (i := 695) (by decide +kernel)), by decide +kernel⟩
noncomputable def pr_X6_forward : Prg := [(0, z_aload 0 1), (1, z_ic (nI 0) 1), (2, z_mthr), (5, z_aload 0 1), (6, z_callv 0 5 sp_X6_system), (9, z_aload 0 1), (10, z_get 5 1), (13, z_ic (nI 1) 1), (14, z_isub), (15, z_istore 1 1), (16, z_iload 1 1), (17, z_if1 (fun x => x < 0) 36), (20, z_aload 0 1), (21, z_iload 1 1), (22, z_callv 1 5 sp_X6_isCleared), (25, z_nf1 30), (28, z_ic (nI 0) 1), (29, z_iret), (30, z_iinc 1 (-1)), (33, z_goto 16), (36, z_ic (nI 0) 1), (37, z_istore 1 1), (38, z_iload 1 1), (39, z_aload 0 1), (40, z_get 5 1), (43, z_if2 (fun x y => y ≤ x) 91), (46, z_aload 0 1), (47, z_get 5 7), (50, z_iload 1 1), (51, z_ic (nI 1) 1), (52, z_iadd), (53, z_aload 0 1), (54, z_get 5 25), (57, z_ic (nI 8) 2), (59, z_iload 1 1), (60, z_imul), (61, z_ic (nI 7) 2), (63, z_iadd), (64, z_laload), (65, z_aload 0 1), (66, z_get 5 25), (69, z_ic (nI 8) 2), (71, z_iload 1 1), (72, z_imul), (73, z_iload 1 1), (74, z_iadd), (75, z_laload), (76, z_call 1 sp_X6_inverse), (79, z_lmul), (80, z_lc (.inl 2147483647) 3), (83, z_lrem), (84, z_lastore), (85, z_iinc 1 (nI 1)), (88, z_goto 38), (91, z_ic (nI 1) 1), (92, z_iret)]
set_option maxRecDepth 100000 in
set_option maxHeartbeats 4000000 in
theorem sn_X6_forward {G : Geo} (hG : GeoOK G) (l : Launch) : ∀ q ∈ pr_X6_forward, Sn G l yX6_forward.cls cX6_forward 2 8 (some .int) q.1 q.2 :=
  fcs (zs_aload_n dX6_forward_0 rfl) <| fcs (zs_iconst dX6_forward_1 rfl) <| fcs (zs_mthr wf_X6_87 dX6_forward_2) <| fcs (zs_aload_n dX6_forward_5 rfl) <| fcs (zs_callv cls5 (by decide) (ct_X6_system hG l) mi_X6_system wv_X6_system we_X6_system (by decide) wm_X6_184 dX6_forward_6) <| fcs (zs_aload_n dX6_forward_9 rfl) <| fcs (zs_get cls5 (by decide) (by decide) wf_X6_114 dX6_forward_10) <| fcs (zs_iconst dX6_forward_13 rfl) <| fcs (zs_isub dX6_forward_14) <| fcs (zs_istore_n dX6_forward_15 rfl (by decide)) <| fcs (zs_iload_n dX6_forward_16 rfl) <| fcs (zs_if_lt dX6_forward_17 rfl) <| fcs (zs_aload_n dX6_forward_20 rfl) <| fcs (zs_iload_n dX6_forward_21 rfl) <| fcs (zs_callv cls5 (by decide) (ct_X6_isCleared hG l) mi_X6_isCleared wv_X6_isCleared we_X6_isCleared (by decide) wm_X6_187 dX6_forward_22) <| fcs (zs_if_ne dX6_forward_25 rfl) <| fcs (zs_iconst dX6_forward_28 rfl) <| fcs (zs_iret dX6_forward_29) <| fcs (zs_iinc dX6_forward_30 rfl (by decide)) <| fcs (zs_goto dX6_forward_33 rfl) <| fcs (zs_iconst dX6_forward_36 rfl) <| fcs (zs_istore_n dX6_forward_37 rfl (by decide)) <| fcs (zs_iload_n dX6_forward_38 rfl) <| fcs (zs_aload_n dX6_forward_39 rfl) <| fcs (zs_get cls5 (by decide) (by decide) wf_X6_114 dX6_forward_40) <| fcs (zs_icmp_ge dX6_forward_43 rfl) <| fcs (zs_aload_n dX6_forward_46 rfl) <| fcs (zs_get cls5 (by decide) (by decide) wf_X6_27 dX6_forward_47) <| fcs (zs_iload_n dX6_forward_50 rfl) <| fcs (zs_iconst dX6_forward_51 rfl) <| fcs (zs_iadd dX6_forward_52) <| fcs (zs_aload_n dX6_forward_53 rfl) <| fcs (zs_get cls5 (by decide) (by decide) wf_X6_81 dX6_forward_54) <| fcs (zs_bipush dX6_forward_57 rfl) <| fcs (zs_iload_n dX6_forward_59 rfl) <| fcs (zs_imul dX6_forward_60) <| fcs (zs_bipush dX6_forward_61 rfl) <| fcs (zs_iadd dX6_forward_63) <| fcs (zs_laload dX6_forward_64) <| fcs (zs_aload_n dX6_forward_65 rfl) <| fcs (zs_get cls5 (by decide) (by decide) wf_X6_81 dX6_forward_66) <| fcs (zs_bipush dX6_forward_69 rfl) <| fcs (zs_iload_n dX6_forward_71 rfl) <| fcs (zs_imul dX6_forward_72) <| fcs (zs_iload_n dX6_forward_73 rfl) <| fcs (zs_iadd dX6_forward_74) <| fcs (zs_laload dX6_forward_75) <| fcs (zs_calls (ct_X6_inverse hG l) mi_X6_inverse ws_X6_inverse (by decide) wm_X6_101 dX6_forward_76) <| fcs (zs_lmul dX6_forward_79) <| fcs (zs_ldc2 dX6_forward_80 wl_X6_91) <| fcs (zs_lrem dX6_forward_83) <| fcs (zs_lastore dX6_forward_84) <| fcs (zs_iinc dX6_forward_85 rfl (by decide)) <| fcs (zs_goto dX6_forward_88 rfl) <| fcs (zs_iconst dX6_forward_91 rfl) <| fcs (zs_iret dX6_forward_92) <| fnl
set_option maxRecDepth 100000 in
set_option maxHeartbeats 4000000 in
theorem fw_2 {X : Kx} {post : Option AV → SS → Prop} (hX : Closed pr_X6_forward post X) {σ : SS} {A : Nat → ZF} (hI : MI σ) (h9 : ∀ s, FW (s60 σ) (xsl A (mn σ)) (mn σ) s → post (some (ai (nI 1))) s) : ∀ (m k : Nat) (i : Int32) (s : SS), k + m = mn σ → i = nI k → (mn σ = 0 ∨ ∀ j, j < 64 → s.2.1 41 0 j = (icl 0 (mn σ) 0 A).2 j) → FW (s60 σ) (xsl A (mn σ)) k s → X 38 [(1, .inl i), (0, ar 6 0)] [] s := by
  have h7 := hI.2.1
  intro m
  induction m with
  | zero =>
    intro k i s hk hi hr hs
    subst hi
    have hIs := MI_of hs.2.1 (s60_MI hI)
    have hn := (mn_of hs.2.1).trans (s60_n σ)
    refine go hX [38] 60 ?_
    refine ⟨fun g1 => ?_, fun g1 => absurd (show s.2.2 6 1 ≤ nI k from ?_) g1⟩
    · have e : k = mn σ := by omega
      subst e
      exact h9 s hs
    · rw [hIs.1, nI_leI (by omega) (by omega)]
      omega
  | succ m ih =>
    intro k i s hk hi hr hs
    subst hi
    have hIs := MI_of hs.2.1 (s60_MI hI)
    have hn := (mn_of hs.2.1).trans (s60_n σ)
    have hr : ∀ j, j < 64 → s.2.1 41 0 j = (icl 0 (mn σ) 0 A).2 j := hr.resolve_left (by omega)
    refine go hX [38] 60 ?_
    refine ⟨fun g1 => absurd (show s.2.2 6 1 ≤ nI k from g1) ?_, fun g1 => ?_⟩
    · rw [hIs.1, nI_leI (by omega) (by omega)]
      omega
    refine ⟨⟨nle rfl, nle rfl⟩, 8 * k + 7, by rw [pk_mul, nI_add], by show 8 * k + 7 < 64; omega, ?_⟩
    refine ⟨⟨nle rfl, nle rfl⟩, 8 * k + k, by rw [pk_mul, nI_add], by show 8 * k + k < 64; omega, ne_P, ?_⟩
    refine ⟨⟨nle rfl, nle rfl⟩, k + 1, xsl A (mn σ) k, nI_add _ _, by show k + 1 < 8; omega, ?_, ?_⟩
    · show rP (em _ * em _) = em _
      rw [n_times, hr _ (by omega), hr _ (by omega)]
      rfl
    · refine ih (k + 1) _ _ (by omega) (nI_add _ _) (Or.inr fun j hj => (sL_n1 _ _ _ _ _ (by decide)).trans (hr j hj)) ⟨hs.1, hs.2.1, fun a b j ha hb => (sL_n1 _ _ _ _ _ hb).trans (hs.2.2.1 a b j ha hb), fun b j => ?_⟩
      by_cases hb : b = 0
      · subst hb
        by_cases hj : j = k + 1
        · subst hj
          rw [sL_at, if_pos ⟨rfl, by omega, by omega⟩]
          rfl
        · rw [sL_n3 _ _ _ _ _ hj, hs.2.2.2]
          by_cases q : 1 ≤ j ∧ j ≤ k
          · rw [if_pos ⟨rfl, q⟩, if_pos ⟨rfl, q.1, by omega⟩]
          · rw [if_neg (fun p => q p.2), if_neg (fun p => q ⟨p.2.1, by omega⟩)]
      · rw [sL_n2 _ _ _ _ _ hb, hs.2.2.2, if_neg (fun p => hb p.1), if_neg (fun p => hb p.1)]
set_option maxRecDepth 100000 in
set_option maxHeartbeats 4000000 in
theorem ct_X6_forward {G : Geo} (hG : GeoOK G) (l : Launch) : Ct G l yX6_forward cX6_forward 2 (some .int) 8 sp_X6_forward := by
  refine Ct.of pr_X6_forward hG (by decide +kernel) (sn_X6_forward hG l) ?_
  intro av σ post hok h
  unfold sp_X6_forward at h
  split at h
  · rename_i b
    obtain ⟨hb, hI, M, B, hM, hB, h9⟩ := bif_t h
    clear h
    obtain rfl := is6_t hb
    refine ⟨Nat.le_of_ble_eq_true rfl, fun X hX => ?_⟩
    have h7 := hI.2.1
    have FK : ∀ s x, K25 (s60 σ) s → FW (s60 σ) x 0 s := fun s x hs => ⟨hs.1, hs.2.1, fun a b j ha _ => hs.2.2 a b j ha, fun b j => by rw [if_neg (fun p => by omega)]; exact hs.2.2 23 b j (by decide)⟩
    have loop : ∀ (A : Nat → ZF), kpt A M (mn σ) (mn σ) → kpg A B (mn σ) → ∀ (k : Nat) (i : Int32) (s : SS) (loc : Loc'), k ≤ mn σ → i = nI k - nI 1 → K25 (s60 σ) s → (∀ j, s.2.1 42 0 j = A j) → (k < mn σ → ∀ j, j < 64 → s.2.1 41 0 j = (icl k (mn σ - k) k A).2 j) → icls A (mn σ) (mn σ) = icls A (mn σ) k → subL [(1, .inl i), (0, ar 6 0)] loc → X 16 loc [] s := by
      intro A hA1 hA2 k
      have h9 := h9 A
      induction k with
      | zero =>
        intro i s loc hk hi hs h42 h41 hc hloc
        subst hi
        refine wk hX ?_ hloc
        refine go hX [16, 38] 60 ?_
        refine ⟨fun g => ?_, fun g => absurd (show nI 0 - nI 1 < 0 by decide) g⟩
        have hc : icls A (mn σ) (mn σ) = true := hc
        rw [hc] at h9
        refine fw_2 hX (A := A) hI (fun s' hs' => h9 s' hA1 hA2 hs') (mn σ) 0 _ s (by omega) rfl ?_ (FK s _ hs)
        by_cases h0 : mn σ = 0
        · exact Or.inl h0
        · exact Or.inr (h41 (by omega))
      | succ k ih =>
        intro i s loc hk hi hs h42 h41 hc hloc
        rw [pk_sub (by omega), Nat.add_sub_cancel] at hi
        subst hi
        have hIs := MI_of hs.2.1 (s60_MI hI)
        have hn := (mn_of hs.2.1).trans (s60_n σ)
        have e42 : s.2.1 42 0 = A := funext h42
        refine wk hX ?_ hloc
        refine go hX [16, 38] 60 ?_
        refine ⟨fun g => absurd (show nI k < 0 from g) (nI_pos (by omega)), fun g => ?_⟩
        refine ⟨hIs, k, rfl, by omega, ?_⟩
        rw [hn, e42]
        intro s' hs'
        have hK : K25 (s60 σ) s' := K25_tr hs ⟨hs'.1, hs'.2.1, fun a b j ha => hs'.2.2.1 a b j (by omega)⟩
        cases hB2 : (icl k (mn σ - k) k A).1 with
        | false =>
          have hc : icls A (mn σ) (mn σ) = bif (icl k (mn σ - k) k A).1 then icls A (mn σ) k else false := hc
          rw [hB2] at hc
          have hc : icls A (mn σ) (mn σ) = false := hc
          rw [hc] at h9
          refine ⟨fun q => absurd rfl q, fun q => ?_⟩
          exact h9 s' hA1 hA2 (FK s' _ hK)
        | true =>
          have hc : icls A (mn σ) (mn σ) = bif (icl k (mn σ - k) k A).1 then icls A (mn σ) k else false := hc
          rw [hB2] at hc
          refine ⟨fun q => ?_, fun q => absurd q (by decide)⟩
          refine ih _ s' _ (by omega) ?_ hK (fun j => (hs'.2.2.1 42 0 j (by decide)).trans (h42 j)) (fun _ j hj => hs'.2.2.2 j hj) hc ⟨⟨_, rfl, Or.inl rfl⟩, ⟨_, rfl, Or.inl rfl⟩, trivial⟩
          exact (Int32.sub_eq_add_neg (nI k) (nI 1)).symm
    refine go hX [16] 60 ?_
    refine ⟨rfl, ?_⟩
    have e60 : mn (sI σ 6 0 (nI 0)) = mn σ := s60_n σ
    refine ⟨s60_MI hI, M, B, ?_, ?_, fun s hs hk1 hk2 => ?_⟩
    · rw [e60]
      exact hM
    · rw [e60]
      exact hB
    · rw [e60] at hk1 hk2
      have hIs := MI_of hs.2.1 (s60_MI hI)
      have hn := (mn_of hs.2.1).trans (s60_n σ)
      refine loop (s.2.1 42 0) hk1 hk2 (mn σ) _ s _ (Nat.le_refl _) (show s.2.2 6 1 - nI 1 = _ by rw [hIs.1, hn]) hs (fun _ => rfl) (fun h => by omega) rfl ⟨⟨_, rfl, Or.inl rfl⟩, ⟨_, rfl, Or.inl rfl⟩, trivial⟩
  · exact h.elim
