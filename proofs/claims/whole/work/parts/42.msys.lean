/-! The reference: the system, and energy -/
/-- the same but for the scratch of the passes (long arrays 25 to 40) -/
def K42 (σ s : SS) : Prop := s.1 = σ.1 ∧ s.2.2 = σ.2.2 ∧ ∀ a b j, (a < 25 ∨ 40 < a) → s.2.1 a b j = σ.2.1 a b j
theorem K42_rf (σ : SS) : K42 σ σ := ⟨rfl, rfl, fun _ _ _ _ => rfl⟩
theorem K42_tr {a b c : SS} (h : K42 a b) (g : K42 b c) : K42 a c := ⟨g.1.trans h.1, g.2.1.trans h.2.1, fun x y j hx => (g.2.2 x y j hx).trans (h.2.2 x y j hx)⟩
theorem K42_sy {a b : SS} (h : K42 a b) : K42 b a := ⟨h.1.symm, h.2.1.symm, fun x y j hx => (h.2.2 x y j hx).symm⟩
theorem K42_fl (s : SS) {t : Nat × Nat} (b n : Nat) (f : Nat → ZF) (ht : 25 ≤ t.1 ∧ t.1 ≤ 40) : K42 s (fl s t b n f) := ⟨rfl, rfl, fun a b' j ha => fl_n _ _ _ _ _ _ _ (by omega)⟩
theorem K42_sL (s : SS) {kd : Nat} (k i : Nat) (x : ZF) (ht : 25 ≤ kd ∧ kd ≤ 40) : K42 s (sL s kd k i x) := ⟨rfl, rfl, fun a b' j ha => sL_n1 _ _ _ _ _ (by omega)⟩
theorem K42_p3 (s : SS) {t : Nat × Nat} (b : Nat) (v : V3) (ht : 25 ≤ t.1 ∧ t.1 ≤ 40) : K42 s (p3 s t b v) := K42_fl s b 3 _ ht
theorem K42_36 {σ s : SS} (h : s36 σ s) : K42 σ s := ⟨h.1, h.2.1, fun a b j ha => h.2.2 a b j (by omega)⟩
theorem K42_swg (s : SS) {t : Nat × Nat} (a p : Nat) (q : Nat × Nat) (ht : 25 ≤ t.1 ∧ t.1 ≤ 40) : K42 s (m_swg s t a p q) := by
  unfold m_swg
  exact K42_tr (K42_p3 s _ _ (by decide)) (K42_tr (K42_p3 _ _ _ ht) (K42_tr (K42_p3 _ _ _ (by decide)) (K42_tr (K42_p3 _ _ _ (by decide)) (K42_p3 _ _ _ ht))))
theorem K42_hvy (s : SS) (k : Nat) (l : Nat × Nat) (i : Nat) : K42 s (m_hvy s k l i) := by
  unfold m_hvy m_h3 m_h2 m_h1
  exact K42_tr (K42_fl s _ _ _ (by decide)) (K42_tr (K42_fl _ _ _ _ (by decide)) (K42_p3 _ _ _ (by decide)))
theorem K42_lod (s : SS) (k : Nat) : K42 s (m_lod s k) := by
  unfold m_lod m_l9 m_l7 m_l5 m_l3 m_l2 m_l1
  exact K42_tr (K42_p3 s _ _ (by decide)) (K42_tr (K42_p3 _ _ _ (by decide)) (K42_tr (K42_p3 _ _ _ (by decide)) (K42_tr (K42_swg _ _ _ _ (by decide)) (K42_tr (K42_p3 _ _ _ (by decide)) (K42_tr (K42_hvy _ _ _ _) (K42_tr (K42_p3 _ _ _ (by decide)) (K42_tr (K42_hvy _ _ _ _) (K42_p3 _ _ _ (by decide)))))))))
theorem K42_c5 (s : SS) (k : Nat) : K42 s (m_c5 s k) := by
  unfold m_c5
  split
  · exact K42_rf s
  · exact K42_p3 _ _ _ (by decide)
theorem K42_c10 (s : SS) (k : Nat) : K42 s (m_c10 s k) := by
  unfold m_c10
  split
  · unfold m_ct
    exact K42_tr (K42_fl s _ _ _ (by decide)) (K42_tr (K42_fl _ _ _ _ (by decide)) (K42_tr (K42_p3 _ _ _ (by decide)) (K42_tr (K42_p3 _ _ _ (by decide)) (K42_p3 _ _ _ (by decide)))))
  · unfold m_c9
    exact K42_tr (K42_fl s _ _ _ (by decide)) (K42_tr (K42_p3 _ _ _ (by decide)) (K42_p3 _ _ _ (by decide)))
theorem K42_c6 (s : SS) (k p : Nat) : K42 s (m_c6 s k p) := by
  unfold m_c6 m_q4
  exact K42_tr (K42_fl s _ _ _ (by decide)) (K42_tr (K42_fl _ _ _ _ (by decide)) (K42_tr (K42_fl _ _ _ _ (by decide)) (K42_fl _ _ _ _ (by decide))))
theorem K42_car (s : SS) (k p : Nat) : K42 s (m_car s k p) := by
  unfold m_car m_end
  refine K42_tr (K42_fl s _ _ _ (by decide)) (K42_tr (K42_fl _ _ _ _ (by decide)) (K42_tr (K42_p3 _ _ _ (by decide)) (K42_tr (K42_p3 _ _ _ (by decide)) (K42_tr (K42_c5 _ _) (K42_tr (K42_c6 _ _ _) (K42_tr (K42_p3 _ _ _ (by decide)) (K42_tr (K42_p3 _ _ _ (by decide)) (K42_tr (K42_c10 _ _) (K42_tr (K42_swg _ _ _ _ (by decide)) (K42_lod _ _))))))))))
theorem K42_upf {f : SS → Nat → SS} (hf : ∀ s k, K42 s (f s k)) (s : SS) : ∀ k, K42 s (upf f s k)
  | 0 => K42_rf s
  | k + 1 => K42_tr (K42_upf hf s k) (hf _ _)
theorem K42_ini (s : SS) (h : Bool) : K42 s (m_ini s h) := by
  unfold m_ini Q4
  exact K42_tr (K42_fl s _ _ _ (by decide)) (K42_tr (K42_fl _ _ _ _ (by decide)) (K42_tr (K42_fl _ _ _ _ (by decide)) (K42_tr (K42_fl _ _ _ _ (by decide)) (K42_fl _ _ _ _ (by decide)))))
theorem K42_mov (s : SS) (h : Bool) : K42 s (m_mov s h) := K42_tr (K42_ini s h) (K42_upf (f := m_cfn) (fun s k => K42_car s k _) _ _)
theorem K42_asi (s : SS) (b : Bool) : K42 s (m_asi s b) := K42_tr (K42_upf (f := as1 b) (fun s k => K42_tr (K42_sL s _ _ _ (by decide)) (K42_sL _ _ _ _ (by decide))) s _) (K42_mov _ _)
theorem K42_alo (s : SS) (i : Nat) : K42 s (m_alo s i) := K42_tr (K42_upf (f := al1 i) (fun s k => K42_tr (K42_sL s _ _ _ (by decide)) (K42_sL _ _ _ _ (by decide))) s _) (K42_mov _ _)
theorem K42_25 {σ s : SS} (h : K42 σ s) : K25 σ s := ⟨h.1, h.2.1, fun a b j ha => h.2.2 a b j (Or.inl ha)⟩
theorem tsum_36 {σ s : SS} (h : s36 σ s) (j : Nat) : ∀ m, tsum s j m = tsum σ j m
  | 0 => rfl
  | m + 1 => by
    unfold tsum
    rw [tsum_36 h j m, hng_of h.2.1, tqc_of h]
theorem tq_36 {σ s : SS} (h : s36 σ s) (j : Nat) : tq s j = tq σ j := by
  unfold tq
  rw [tsum_36 h, mn_of h.2.1]
/-- the same but for the scratch vector x and the kept rows -/
def s42 (σ s : SS) : Prop := s.1 = σ.1 ∧ s.2.2 = σ.2.2 ∧ ∀ a b j, a ≠ 36 → a ≠ 42 → s.2.1 a b j = σ.2.1 a b j
theorem s42_g {σ s : SS} (h : s42 σ s) {q : Nat × Nat} (b : Nat) (hq : q.1 ≠ 36) (hq2 : q.1 ≠ 42) : g3 s q b = g3 σ q b := by
  unfold g3
  rw [h.2.2 _ _ _ hq hq2, h.2.2 _ _ _ hq hq2, h.2.2 _ _ _ hq hq2]
theorem tqc_42 {σ s : SS} (h : s42 σ s) (j i : Nat) : tqc s j i = tqc σ j i := by
  unfold tqc mU mO mA mF mN
  rw [h.2.1, s42_g h _ (by decide) (by decide), s42_g h _ (by decide) (by decide), s42_g h _ (by decide) (by decide), s42_g h _ (by decide) (by decide), s42_g h _ (by decide) (by decide), s42_g h _ (by decide) (by decide)]
theorem tsum_42 {σ s : SS} (h : s42 σ s) (j : Nat) : ∀ m, tsum s j m = tsum σ j m
  | 0 => rfl
  | m + 1 => by
    unfold tsum
    rw [tsum_42 h j m, hng_of h.2.1, tqc_42 h]
theorem tq_42 {σ s : SS} (h : s42 σ s) (j : Nat) : tq s j = tq σ j := by
  unfold tq
  rw [tsum_42 h, mn_of h.2.1]
/-- the sum of the energy -/
def mej (σ : SS) (M : Nat → Nat → ZF) (i : Nat) (a : ZF) : Nat → ZF
  | 0 => a
  | j + 1 => mej σ M i a j + σ.2.1 22 0 i * σ.2.1 22 0 (j + 1) * M (j + 1) i
def men (σ : SS) (M : Nat → Nat → ZF) (n : Nat) : Nat → ZF
  | 0 => 0
  | i + 1 => mej σ M (i + 1) (men σ M n i) n
noncomputable def sp_X6_energy : Spc := fun av σ post => match av with
  | [.inr (.inr q)] => bif is6 q then (MI σ ∧ ∃ M : Nat → Nat → ZF, (∀ s, K25 (s60 σ) s → ∀ i j, (1 ≤ i ∧ i ≤ mn σ) → (1 ≤ j ∧ j ≤ mn σ) → tq (m_alo s i) j = M j i) ∧ ∀ s, K25 (s60 σ) s → post (some (ai (nI (men σ M (mn σ) (mn σ)).val))) s) else False
  | _ => False
theorem dX6_energy_0 : decode cX6_energy 0 = .ok (.aload_n 0, 1) := by decide +kernel
theorem dX6_energy_1 : decode cX6_energy 1 = .ok (.iconst 0, 1) := by decide +kernel
theorem dX6_energy_2 : decode cX6_energy 2 = .ok (.putfield 87, 3) := by decide +kernel
theorem dX6_energy_5 : decode cX6_energy 5 = .ok (.lconst 0, 1) := by decide +kernel
theorem dX6_energy_6 : decode cX6_energy 6 = .ok (.lstore_n 1, 1) := by decide +kernel
theorem dX6_energy_7 : decode cX6_energy 7 = .ok (.iconst 1, 1) := by decide +kernel
theorem dX6_energy_8 : decode cX6_energy 8 = .ok (.istore_n 3, 1) := by decide +kernel
theorem dX6_energy_9 : decode cX6_energy 9 = .ok (.iload_n 3, 1) := by decide +kernel
theorem dX6_energy_10 : decode cX6_energy 10 = .ok (.aload_n 0, 1) := by decide +kernel
theorem dX6_energy_11 : decode cX6_energy 11 = .ok (.getfield 114, 3) := by decide +kernel
theorem dX6_energy_14 : decode cX6_energy 14 = .ok (.if_icmp .gt 64, 3) := by decide +kernel
theorem dX6_energy_17 : decode cX6_energy 17 = .ok (.aload_n 0, 1) := by decide +kernel
theorem dX6_energy_18 : decode cX6_energy 18 = .ok (.iload_n 3, 1) := by decide +kernel
theorem dX6_energy_19 : decode cX6_energy 19 = .ok (.invokevirtual 181, 3) := by decide +kernel
theorem dX6_energy_22 : decode cX6_energy 22 = .ok (.iconst 1, 1) := by decide +kernel
theorem dX6_energy_23 : decode cX6_energy 23 = .ok (.istore 4, 2) := by decide +kernel
theorem dX6_energy_25 : decode cX6_energy 25 = .ok (.iload 4, 2) := by decide +kernel
theorem dX6_energy_27 : decode cX6_energy 27 = .ok (.aload_n 0, 1) := by decide +kernel
theorem dX6_energy_28 : decode cX6_energy 28 = .ok (.getfield 114, 3) := by decide +kernel
theorem dX6_energy_31 : decode cX6_energy 31 = .ok (.if_icmp .gt 41, 3) := by decide +kernel
theorem dX6_energy_34 : decode cX6_energy 34 = .ok (.lload_n 1, 1) := by decide +kernel
theorem dX6_energy_35 : decode cX6_energy 35 = .ok (.aload_n 0, 1) := by decide +kernel
theorem dX6_energy_36 : decode cX6_energy 36 = .ok (.getfield 24, 3) := by decide +kernel
theorem dX6_energy_39 : decode cX6_energy 39 = .ok (.iload_n 3, 1) := by decide +kernel
theorem dX6_energy_40 : decode cX6_energy 40 = .ok (.laload, 1) := by decide +kernel
theorem dX6_energy_41 : decode cX6_energy 41 = .ok (.aload_n 0, 1) := by decide +kernel
theorem dX6_energy_42 : decode cX6_energy 42 = .ok (.getfield 24, 3) := by decide +kernel
theorem dX6_energy_45 : decode cX6_energy 45 = .ok (.iload 4, 2) := by decide +kernel
theorem dX6_energy_47 : decode cX6_energy 47 = .ok (.laload, 1) := by decide +kernel
theorem dX6_energy_48 : decode cX6_energy 48 = .ok (.lmul, 1) := by decide +kernel
theorem dX6_energy_49 : decode cX6_energy 49 = .ok (.ldc2_w 91, 3) := by decide +kernel
theorem dX6_energy_52 : decode cX6_energy 52 = .ok (.lrem, 1) := by decide +kernel
theorem dX6_energy_53 : decode cX6_energy 53 = .ok (.aload_n 0, 1) := by decide +kernel
theorem dX6_energy_54 : decode cX6_energy 54 = .ok (.iload 4, 2) := by decide +kernel
theorem dX6_energy_56 : decode cX6_energy 56 = .ok (.invokevirtual 177, 3) := by decide +kernel
theorem dX6_energy_59 : decode cX6_energy 59 = .ok (.lmul, 1) := by decide +kernel
theorem dX6_energy_60 : decode cX6_energy 60 = .ok (.ladd, 1) := by decide +kernel
theorem dX6_energy_61 : decode cX6_energy 61 = .ok (.ldc2_w 91, 3) := by decide +kernel
theorem dX6_energy_64 : decode cX6_energy 64 = .ok (.lrem, 1) := by decide +kernel
theorem dX6_energy_65 : decode cX6_energy 65 = .ok (.lstore_n 1, 1) := by decide +kernel
theorem dX6_energy_66 : decode cX6_energy 66 = .ok (.iinc 4 1, 3) := by decide +kernel
theorem dX6_energy_69 : decode cX6_energy 69 = .ok (.goto (-44), 3) := by decide +kernel
theorem dX6_energy_72 : decode cX6_energy 72 = .ok (.iinc 3 1, 3) := by decide +kernel
theorem dX6_energy_75 : decode cX6_energy 75 = .ok (.goto (-66), 3) := by decide +kernel
theorem dX6_energy_78 : decode cX6_energy 78 = .ok (.lload_n 1, 1) := by decide +kernel
theorem dX6_energy_79 : decode cX6_energy 79 = .ok (.l2i, 1) := by decide +kernel
theorem dX6_energy_80 : decode cX6_energy 80 = .ok (.ireturn, 1) := by decide +kernel
noncomputable def pr_X6_energy : Prg := [(0, z_aload 0 1), (1, z_ic (nI 0) 1), (2, z_mthr), (5, z_lc (.inr 0) 1), (6, z_lstore 1 1), (7, z_ic (nI 1) 1), (8, z_istore 3 1), (9, z_iload 3 1), (10, z_aload 0 1), (11, z_get 5 1), (14, z_if2 (fun x y => y < x) 78), (17, z_aload 0 1), (18, z_iload 3 1), (19, z_callv 1 5 sp_X6_alone), (22, z_ic (nI 1) 1), (23, z_istore 4 2), (25, z_iload 4 2), (27, z_aload 0 1), (28, z_get 5 1), (31, z_if2 (fun x y => y < x) 72), (34, z_lload 1 1), (35, z_aload 0 1), (36, z_get 5 6), (39, z_iload 3 1), (40, z_laload), (41, z_aload 0 1), (42, z_get 5 6), (45, z_iload 4 2), (47, z_laload), (48, z_lmul), (49, z_lc (.inl 2147483647) 3), (52, z_lrem), (53, z_aload 0 1), (54, z_iload 4 2), (56, z_callv 1 5 sp_X6_torqueOf), (59, z_lmul), (60, z_ladd), (61, z_lc (.inl 2147483647) 3), (64, z_lrem), (65, z_lstore 1 1), (66, z_iinc 4 (nI 1)), (69, z_goto 25), (72, z_iinc 3 (nI 1)), (75, z_goto 9), (78, z_lload 1 1), (79, z_l2i), (80, z_iret)]
set_option maxRecDepth 100000 in
set_option maxHeartbeats 4000000 in
theorem sn_X6_energy {G : Geo} (hG : GeoOK G) (l : Launch) : ∀ q ∈ pr_X6_energy, Sn G l yX6_energy.cls cX6_energy 5 7 (some .int) q.1 q.2 :=
  fcs (zs_aload_n dX6_energy_0 rfl) <| fcs (zs_iconst dX6_energy_1 rfl) <| fcs (zs_mthr wf_X6_87 dX6_energy_2) <| fcs (zs_lconst dX6_energy_5 rfl) <| fcs (zs_lstore_n dX6_energy_6 rfl (by decide)) <| fcs (zs_iconst dX6_energy_7 rfl) <| fcs (zs_istore_n dX6_energy_8 rfl (by decide)) <| fcs (zs_iload_n dX6_energy_9 rfl) <| fcs (zs_aload_n dX6_energy_10 rfl) <| fcs (zs_get cls5 (by decide) (by decide) wf_X6_114 dX6_energy_11) <| fcs (zs_icmp_gt dX6_energy_14 rfl) <| fcs (zs_aload_n dX6_energy_17 rfl) <| fcs (zs_iload_n dX6_energy_18 rfl) <| fcs (zs_callv cls5 (by decide) (ct_X6_alone hG l) mi_X6_alone wv_X6_alone we_X6_alone (by decide) wm_X6_181 dX6_energy_19) <| fcs (zs_iconst dX6_energy_22 rfl) <| fcs (zs_istore dX6_energy_23 (by decide)) <| fcs (zs_iload dX6_energy_25) <| fcs (zs_aload_n dX6_energy_27 rfl) <| fcs (zs_get cls5 (by decide) (by decide) wf_X6_114 dX6_energy_28) <| fcs (zs_icmp_gt dX6_energy_31 rfl) <| fcs (zs_lload_n dX6_energy_34 rfl) <| fcs (zs_aload_n dX6_energy_35 rfl) <| fcs (zs_get cls5 (by decide) (by decide) wf_X6_24 dX6_energy_36) <| fcs (zs_iload_n dX6_energy_39 rfl) <| fcs (zs_laload dX6_energy_40) <| fcs (zs_aload_n dX6_energy_41 rfl) <| fcs (zs_get cls5 (by decide) (by decide) wf_X6_24 dX6_energy_42) <| fcs (zs_iload dX6_energy_45) <| fcs (zs_laload dX6_energy_47) <| fcs (zs_lmul dX6_energy_48) <| fcs (zs_ldc2 dX6_energy_49 wl_X6_91) <| fcs (zs_lrem dX6_energy_52) <| fcs (zs_aload_n dX6_energy_53 rfl) <| fcs (zs_iload dX6_energy_54) <| fcs (zs_callv cls5 (by decide) (ct_X6_torqueOf hG l) mi_X6_torqueOf wv_X6_torqueOf we_X6_torqueOf (by decide) wm_X6_177 dX6_energy_56) <| fcs (zs_lmul dX6_energy_59) <| fcs (zs_ladd dX6_energy_60) <| fcs (zs_ldc2 dX6_energy_61 wl_X6_91) <| fcs (zs_lrem dX6_energy_64) <| fcs (zs_lstore_n dX6_energy_65 rfl (by decide)) <| fcs (zs_iinc dX6_energy_66 rfl (by decide)) <| fcs (zs_goto dX6_energy_69 rfl) <| fcs (zs_iinc dX6_energy_72 rfl (by decide)) <| fcs (zs_goto dX6_energy_75 rfl) <| fcs (zs_lload_n dX6_energy_78 rfl) <| fcs (zs_l2i dX6_energy_79) <| fcs (zs_iret dX6_energy_80) <| fnl
set_option maxRecDepth 100000 in
set_option maxHeartbeats 4000000 in
theorem ct_X6_energy {G : Geo} (hG : GeoOK G) (l : Launch) : Ct G l yX6_energy cX6_energy 5 (some .int) 7 sp_X6_energy := by
  refine Ct.of pr_X6_energy hG (by decide +kernel) (sn_X6_energy hG l) ?_
  intro av σ post hok h
  unfold sp_X6_energy at h
  split at h
  · rename_i b
    obtain ⟨hb, hI, M, hM, h9⟩ := bif_t h
    clear h
    obtain rfl := is6_t hb
    refine ⟨Nat.le_of_ble_eq_true rfl, fun X hX => ?_⟩
    have h7 := hI.2.1
    have outer : ∀ (m k : Nat) (i : Int32) (y : LV) (s : SS) (loc : Loc'), k + m = mn σ → i = nI (k + 1) → lv y = em (men σ M (mn σ) k) → K25 (s60 σ) s → subL [(3, .inl i), (1, .inr (.inl y)), (0, ar 6 0)] loc → X 9 loc [] s := by
      intro m
      induction m with
      | zero =>
        intro k i y s loc hk hi hy hs hloc
        subst hi
        have hIs := MI_of hs.2.1 (s60_MI hI)
        have hn := (mn_of hs.2.1).trans (s60_n σ)
        refine wk hX ?_ hloc
        refine go hX [9, 25] 60 ?_
        refine ⟨fun g1 => ?_, fun g1 => absurd (mlp_t hIs (by omega) (by omega)) g1⟩
        have e : k = mn σ := by omega
        subst e
        have h10 := h9 s hs
        rw [← l2i_em, ← hy] at h10
        exact h10
      | succ m ih =>
        intro k i y s loc hk hi hy hs hloc
        subst hi
        have hIs := MI_of hs.2.1 (s60_MI hI)
        have hn := (mn_of hs.2.1).trans (s60_n σ)
        refine wk hX ?_ hloc
        have inner : ∀ (m2 r : Nat) (j : Int32) (y : LV) (s' : SS) (loc : Loc'), r + m2 = mn σ → j = nI (r + 1) → lv y = em (mej σ M (k + 1) (men σ M (mn σ) k) r) → s36 (m_alo s (k + 1)) s' → subL [(4, .inl j), (1, .inr (.inl y)), (3, .inl (nI (k + 1))), (0, ar 6 0)] loc → X 25 loc [] s' := by
          intro m2
          induction m2 with
          | zero =>
            intro r j y s' loc hr hj hy hs' hloc
            subst hj
            have hI2 := MI_of (hs'.2.1.trans (m_alo_I _ _)) hIs
            have hn2 := (mn_of (hs'.2.1.trans (m_alo_I _ _))).trans hn
            refine wk hX ?_ hloc
            refine go hX [9, 25] 60 ?_
            refine ⟨fun g1 => ?_, fun g1 => absurd (mlp_t hI2 (by omega) (by omega)) g1⟩
            have e : r = mn σ := by omega
            subst e
            exact ih (k + 1) _ y s' _ (by omega) (nI_add _ _) hy (K25_tr hs (K25_tr (K25_alo _ _) (K25_36 hs'))) ⟨⟨_, rfl, Or.inl rfl⟩, ⟨_, rfl, Or.inl rfl⟩, ⟨_, rfl, Or.inl rfl⟩, trivial⟩
          | succ m2 ih2 =>
            intro r j y s' loc hr hj hy hs' hloc
            subst hj
            have hI2 := MI_of (hs'.2.1.trans (m_alo_I _ _)) hIs
            have hn2 := (mn_of (hs'.2.1.trans (m_alo_I _ _))).trans hn
            have hL : ∀ j, s'.2.1 22 0 j = σ.2.1 22 0 j := fun j => (K25_tr hs (K25_tr (K25_alo _ _) (K25_36 hs'))).2.2 22 0 j (by decide)
            refine wk hX ?_ hloc
            refine go hX [9, 25] 60 ?_
            refine ⟨fun g1 => absurd g1 (mlp_f hI2 (by omega)), fun g1 => ?_⟩
            refine ⟨⟨nle rfl, nle rfl⟩, k + 1, rfl, by show k + 1 < 8; omega, ?_⟩
            refine ⟨⟨nle rfl, nle rfl⟩, r + 1, rfl, by show r + 1 < 8; omega, ne_P, ?_⟩
            refine ⟨hI2, r + 1, rfl, ⟨by omega, by omega⟩, fun s3 hs3 => ⟨ne_P, ?_⟩⟩
            refine ih2 (r + 1) _ (.inl _) s3 _ (by omega) (nI_add _ _) ?_ ⟨hs3.1.trans hs'.1, hs3.2.1.trans hs'.2.1, fun a b c ha => (hs3.2.2 a b c ha).trans (hs'.2.2 a b c ha)⟩ ⟨⟨_, rfl, Or.inl rfl⟩, ⟨_, rfl, Or.inl rfl⟩, ⟨_, rfl, Or.inl rfl⟩, ⟨_, rfl, Or.inl rfl⟩, trivial⟩
            show rP (lv y + rP (em _ * em _) * em _) = em _
            rw [n_times, hy, n_addt, tq_36 hs', hM s hs (k + 1) (r + 1) ⟨by omega, by omega⟩ ⟨by omega, by omega⟩]
            dsimp only
            rw [hL, hL]
            rfl
        refine go hX [9, 25] 60 ?_
        refine ⟨fun g1 => absurd g1 (mlp_f hIs (by omega)), fun g1 => ?_⟩
        refine ⟨hIs, k + 1, rfl, by omega, ?_⟩
        exact inner (mn σ) 0 _ y _ _ (by omega) rfl hy (s36_rf _) ⟨⟨_, rfl, Or.inl rfl⟩, ⟨_, rfl, Or.inl rfl⟩, ⟨_, rfl, Or.inl rfl⟩, ⟨_, rfl, Or.inl rfl⟩, trivial⟩
    refine go hX [9] 60 ?_
    refine ⟨rfl, ?_⟩
    exact outer (mn σ) 0 _ (.inr 0) _ _ (by omega) rfl rfl (K25_rf _) ⟨⟨_, rfl, Or.inl rfl⟩, ⟨_, rfl, Or.inl rfl⟩, ⟨_, rfl, Or.inl rfl⟩, trivial⟩
  · exact h.elim
/-- the kept rows: the first c columns (row j - 1, column i - 1) -/
def kpt (A : Nat → ZF) (M : Nat → Nat → ZF) (n c : Nat) : Prop := ∀ i j, (1 ≤ i ∧ i ≤ c) → (1 ≤ j ∧ j ≤ n) → A (8 * (j - 1) + i - 1) = M j i
def kpg (A : Nat → ZF) (B : Nat → ZF) (c : Nat) : Prop := ∀ j, (1 ≤ j ∧ j ≤ c) → A (8 * (j - 1) + 7) = B j
noncomputable def sp_X6_system : Spc := fun av σ post => match av with
  | [.inr (.inr q)] => bif is6 q then (MI σ ∧ ∃ (M : Nat → Nat → ZF) (B : Nat → ZF), (∀ s, K25 σ s → ∀ i j, (1 ≤ i ∧ i ≤ mn σ) → (1 ≤ j ∧ j ≤ mn σ) → tq (m_alo s i) j = M j i) ∧ (∀ s, K25 σ s → ∀ j, (1 ≤ j ∧ j ≤ mn σ) → σ.2.1 20 0 (16 * j + 14) - tq (m_asi s false) j = B j) ∧ ∀ s, K25 σ s → kpt (s.2.1 42 0) M (mn σ) (mn σ) → kpg (s.2.1 42 0) B (mn σ) → post none s) else False
  | _ => False
theorem dX6_system_0 : decode cX6_system 0 = .ok (.iconst 1, 1) := by decide +kernel
theorem dX6_system_1 : decode cX6_system 1 = .ok (.istore_n 1, 1) := by decide +kernel
theorem dX6_system_2 : decode cX6_system 2 = .ok (.iload_n 1, 1) := by decide +kernel
theorem dX6_system_3 : decode cX6_system 3 = .ok (.aload_n 0, 1) := by decide +kernel
theorem dX6_system_4 : decode cX6_system 4 = .ok (.getfield 114, 3) := by decide +kernel
theorem dX6_system_7 : decode cX6_system 7 = .ok (.if_icmp .gt 50, 3) := by decide +kernel
theorem dX6_system_10 : decode cX6_system 10 = .ok (.aload_n 0, 1) := by decide +kernel
theorem dX6_system_11 : decode cX6_system 11 = .ok (.iload_n 1, 1) := by decide +kernel
theorem dX6_system_12 : decode cX6_system 12 = .ok (.invokevirtual 181, 3) := by decide +kernel
theorem dX6_system_15 : decode cX6_system 15 = .ok (.iconst 1, 1) := by decide +kernel
theorem dX6_system_16 : decode cX6_system 16 = .ok (.istore_n 2, 1) := by decide +kernel
theorem dX6_system_17 : decode cX6_system 17 = .ok (.iload_n 2, 1) := by decide +kernel
theorem dX6_system_18 : decode cX6_system 18 = .ok (.aload_n 0, 1) := by decide +kernel
theorem dX6_system_19 : decode cX6_system 19 = .ok (.getfield 114, 3) := by decide +kernel
theorem dX6_system_22 : decode cX6_system 22 = .ok (.if_icmp .gt 29, 3) := by decide +kernel
theorem dX6_system_25 : decode cX6_system 25 = .ok (.aload_n 0, 1) := by decide +kernel
theorem dX6_system_26 : decode cX6_system 26 = .ok (.getfield 84, 3) := by decide +kernel
theorem dX6_system_29 : decode cX6_system 29 = .ok (.bipush 8, 2) := by decide +kernel
theorem dX6_system_31 : decode cX6_system 31 = .ok (.iload_n 2, 1) := by decide +kernel
theorem dX6_system_32 : decode cX6_system 32 = .ok (.iconst 1, 1) := by decide +kernel
theorem dX6_system_33 : decode cX6_system 33 = .ok (.isub, 1) := by decide +kernel
theorem dX6_system_34 : decode cX6_system 34 = .ok (.imul, 1) := by decide +kernel
theorem dX6_system_35 : decode cX6_system 35 = .ok (.iload_n 1, 1) := by decide +kernel
theorem dX6_system_36 : decode cX6_system 36 = .ok (.iadd, 1) := by decide +kernel
theorem dX6_system_37 : decode cX6_system 37 = .ok (.iconst 1, 1) := by decide +kernel
theorem dX6_system_38 : decode cX6_system 38 = .ok (.isub, 1) := by decide +kernel
theorem dX6_system_39 : decode cX6_system 39 = .ok (.aload_n 0, 1) := by decide +kernel
theorem dX6_system_40 : decode cX6_system 40 = .ok (.iload_n 2, 1) := by decide +kernel
theorem dX6_system_41 : decode cX6_system 41 = .ok (.invokevirtual 177, 3) := by decide +kernel
theorem dX6_system_44 : decode cX6_system 44 = .ok (.lastore, 1) := by decide +kernel
theorem dX6_system_45 : decode cX6_system 45 = .ok (.iinc 2 1, 3) := by decide +kernel
theorem dX6_system_48 : decode cX6_system 48 = .ok (.goto (-31), 3) := by decide +kernel
theorem dX6_system_51 : decode cX6_system 51 = .ok (.iinc 1 1, 3) := by decide +kernel
theorem dX6_system_54 : decode cX6_system 54 = .ok (.goto (-52), 3) := by decide +kernel
theorem dX6_system_57 : decode cX6_system 57 = .ok (.aload_n 0, 1) := by decide +kernel
theorem dX6_system_58 : decode cX6_system 58 = .ok (.iconst 0, 1) := by decide +kernel
theorem dX6_system_59 : decode cX6_system 59 = .ok (.invokevirtual 174, 3) := by decide +kernel
theorem dX6_system_62 : decode cX6_system 62 = .ok (.iconst 1, 1) := by decide +kernel
theorem dX6_system_63 : decode cX6_system 63 = .ok (.istore_n 1, 1) := by decide +kernel
theorem dX6_system_64 : decode cX6_system 64 = .ok (.iload_n 1, 1) := by decide +kernel
theorem dX6_system_65 : decode cX6_system 65 = .ok (.aload_n 0, 1) := by decide +kernel
theorem dX6_system_66 : decode cX6_system 66 = .ok (.getfield 114, 3) := by decide +kernel
theorem dX6_system_69 : decode cX6_system 69 = .ok (.if_icmp .gt 44, 3) := by decide +kernel
theorem dX6_system_72 : decode cX6_system 72 = .ok (.aload_n 0, 1) := by decide +kernel
theorem dX6_system_73 : decode cX6_system 73 = .ok (.getfield 84, 3) := by decide +kernel
theorem dX6_system_76 : decode cX6_system 76 = .ok (.bipush 8, 2) := by decide +kernel
theorem dX6_system_78 : decode cX6_system 78 = .ok (.iload_n 1, 1) := by decide +kernel
theorem dX6_system_79 : decode cX6_system 79 = .ok (.iconst 1, 1) := by decide +kernel
theorem dX6_system_80 : decode cX6_system 80 = .ok (.isub, 1) := by decide +kernel
theorem dX6_system_81 : decode cX6_system 81 = .ok (.imul, 1) := by decide +kernel
theorem dX6_system_82 : decode cX6_system 82 = .ok (.bipush 7, 2) := by decide +kernel
theorem dX6_system_84 : decode cX6_system 84 = .ok (.iadd, 1) := by decide +kernel
theorem dX6_system_85 : decode cX6_system 85 = .ok (.aload_n 0, 1) := by decide +kernel
theorem dX6_system_86 : decode cX6_system 86 = .ok (.getfield 17, 3) := by decide +kernel
theorem dX6_system_89 : decode cX6_system 89 = .ok (.bipush 16, 2) := by decide +kernel
theorem dX6_system_91 : decode cX6_system 91 = .ok (.iload_n 1, 1) := by decide +kernel
theorem dX6_system_92 : decode cX6_system 92 = .ok (.imul, 1) := by decide +kernel
theorem dX6_system_93 : decode cX6_system 93 = .ok (.bipush 14, 2) := by decide +kernel
theorem dX6_system_95 : decode cX6_system 95 = .ok (.iadd, 1) := by decide +kernel
theorem dX6_system_96 : decode cX6_system 96 = .ok (.laload, 1) := by decide +kernel
theorem dX6_system_97 : decode cX6_system 97 = .ok (.aload_n 0, 1) := by decide +kernel
theorem dX6_system_98 : decode cX6_system 98 = .ok (.iload_n 1, 1) := by decide +kernel
theorem dX6_system_99 : decode cX6_system 99 = .ok (.invokevirtual 177, 3) := by decide +kernel
theorem dX6_system_102 : decode cX6_system 102 = .ok (.lsub, 1) := by decide +kernel
theorem dX6_system_103 : decode cX6_system 103 = .ok (.invokestatic 97, 3) := by decide +kernel
theorem dX6_system_106 : decode cX6_system 106 = .ok (.lastore, 1) := by decide +kernel
theorem dX6_system_107 : decode cX6_system 107 = .ok (.iinc 1 1, 3) := by decide +kernel
theorem dX6_system_110 : decode cX6_system 110 = .ok (.goto (-46), 3) := by decide +kernel
theorem dX6_system_113 : decode cX6_system 113 = .ok (.return_, 1) := by decide +kernel
theorem wf_X6_84 : Cond.fieldLink RX6 84 (TX6 26).1 (TX6 26).2.1 (TX6 26).2.2.1 ∈ ltb := List.mem_filter.mpr ⟨List.mem_append_right _ (List.mem_of_getElem? (i := 493) (by decide +kernel)), by decide +kernel⟩
noncomputable def pr_X6_system : Prg := [(0, z_ic (nI 1) 1), (1, z_istore 1 1), (2, z_iload 1 1), (3, z_aload 0 1), (4, z_get 5 1), (7, z_if2 (fun x y => y < x) 57), (10, z_aload 0 1), (11, z_iload 1 1), (12, z_callv 1 5 sp_X6_alone), (15, z_ic (nI 1) 1), (16, z_istore 2 1), (17, z_iload 2 1), (18, z_aload 0 1), (19, z_get 5 1), (22, z_if2 (fun x y => y < x) 51), (25, z_aload 0 1), (26, z_get 5 26), (29, z_ic (nI 8) 2), (31, z_iload 2 1), (32, z_ic (nI 1) 1), (33, z_isub), (34, z_imul), (35, z_iload 1 1), (36, z_iadd), (37, z_ic (nI 1) 1), (38, z_isub), (39, z_aload 0 1), (40, z_iload 2 1), (41, z_callv 1 5 sp_X6_torqueOf), (44, z_lastore), (45, z_iinc 2 (nI 1)), (48, z_goto 17), (51, z_iinc 1 (nI 1)), (54, z_goto 2), (57, z_aload 0 1), (58, z_ic (nI 0) 1), (59, z_callv 1 5 sp_X6_asItIs), (62, z_ic (nI 1) 1), (63, z_istore 1 1), (64, z_iload 1 1), (65, z_aload 0 1), (66, z_get 5 1), (69, z_if2 (fun x y => y < x) 113), (72, z_aload 0 1), (73, z_get 5 26), (76, z_ic (nI 8) 2), (78, z_iload 1 1), (79, z_ic (nI 1) 1), (80, z_isub), (81, z_imul), (82, z_ic (nI 7) 2), (84, z_iadd), (85, z_aload 0 1), (86, z_get 5 4), (89, z_ic (nI 16) 2), (91, z_iload 1 1), (92, z_imul), (93, z_ic (nI 14) 2), (95, z_iadd), (96, z_laload), (97, z_aload 0 1), (98, z_iload 1 1), (99, z_callv 1 5 sp_X6_torqueOf), (102, z_lsub), (103, z_call 1 sp_X6_of), (106, z_lastore), (107, z_iinc 1 (nI 1)), (110, z_goto 64), (113, z_vret)]
set_option maxRecDepth 100000 in
set_option maxHeartbeats 4000000 in
theorem sn_X6_system {G : Geo} (hG : GeoOK G) (l : Launch) : ∀ q ∈ pr_X6_system, Sn G l yX6_system.cls cX6_system 3 7 none q.1 q.2 :=
  fcs (zs_iconst dX6_system_0 rfl) <| fcs (zs_istore_n dX6_system_1 rfl (by decide)) <| fcs (zs_iload_n dX6_system_2 rfl) <| fcs (zs_aload_n dX6_system_3 rfl) <| fcs (zs_get cls5 (by decide) (by decide) wf_X6_114 dX6_system_4) <| fcs (zs_icmp_gt dX6_system_7 rfl) <| fcs (zs_aload_n dX6_system_10 rfl) <| fcs (zs_iload_n dX6_system_11 rfl) <| fcs (zs_callv cls5 (by decide) (ct_X6_alone hG l) mi_X6_alone wv_X6_alone we_X6_alone (by decide) wm_X6_181 dX6_system_12) <| fcs (zs_iconst dX6_system_15 rfl) <| fcs (zs_istore_n dX6_system_16 rfl (by decide)) <| fcs (zs_iload_n dX6_system_17 rfl) <| fcs (zs_aload_n dX6_system_18 rfl) <| fcs (zs_get cls5 (by decide) (by decide) wf_X6_114 dX6_system_19) <| fcs (zs_icmp_gt dX6_system_22 rfl) <| fcs (zs_aload_n dX6_system_25 rfl) <| fcs (zs_get cls5 (by decide) (by decide) wf_X6_84 dX6_system_26) <| fcs (zs_bipush dX6_system_29 rfl) <| fcs (zs_iload_n dX6_system_31 rfl) <| fcs (zs_iconst dX6_system_32 rfl) <| fcs (zs_isub dX6_system_33) <| fcs (zs_imul dX6_system_34) <| fcs (zs_iload_n dX6_system_35 rfl) <| fcs (zs_iadd dX6_system_36) <| fcs (zs_iconst dX6_system_37 rfl) <| fcs (zs_isub dX6_system_38) <| fcs (zs_aload_n dX6_system_39 rfl) <| fcs (zs_iload_n dX6_system_40 rfl) <| fcs (zs_callv cls5 (by decide) (ct_X6_torqueOf hG l) mi_X6_torqueOf wv_X6_torqueOf we_X6_torqueOf (by decide) wm_X6_177 dX6_system_41) <| fcs (zs_lastore dX6_system_44) <| fcs (zs_iinc dX6_system_45 rfl (by decide)) <| fcs (zs_goto dX6_system_48 rfl) <| fcs (zs_iinc dX6_system_51 rfl (by decide)) <| fcs (zs_goto dX6_system_54 rfl) <| fcs (zs_aload_n dX6_system_57 rfl) <| fcs (zs_iconst dX6_system_58 rfl) <| fcs (zs_callv cls5 (by decide) (ct_X6_asItIs hG l) mi_X6_asItIs wv_X6_asItIs we_X6_asItIs (by decide) wm_X6_174 dX6_system_59) <| fcs (zs_iconst dX6_system_62 rfl) <| fcs (zs_istore_n dX6_system_63 rfl (by decide)) <| fcs (zs_iload_n dX6_system_64 rfl) <| fcs (zs_aload_n dX6_system_65 rfl) <| fcs (zs_get cls5 (by decide) (by decide) wf_X6_114 dX6_system_66) <| fcs (zs_icmp_gt dX6_system_69 rfl) <| fcs (zs_aload_n dX6_system_72 rfl) <| fcs (zs_get cls5 (by decide) (by decide) wf_X6_84 dX6_system_73) <| fcs (zs_bipush dX6_system_76 rfl) <| fcs (zs_iload_n dX6_system_78 rfl) <| fcs (zs_iconst dX6_system_79 rfl) <| fcs (zs_isub dX6_system_80) <| fcs (zs_imul dX6_system_81) <| fcs (zs_bipush dX6_system_82 rfl) <| fcs (zs_iadd dX6_system_84) <| fcs (zs_aload_n dX6_system_85 rfl) <| fcs (zs_get cls5 (by decide) (by decide) wf_X6_17 dX6_system_86) <| fcs (zs_bipush dX6_system_89 rfl) <| fcs (zs_iload_n dX6_system_91 rfl) <| fcs (zs_imul dX6_system_92) <| fcs (zs_bipush dX6_system_93 rfl) <| fcs (zs_iadd dX6_system_95) <| fcs (zs_laload dX6_system_96) <| fcs (zs_aload_n dX6_system_97 rfl) <| fcs (zs_iload_n dX6_system_98 rfl) <| fcs (zs_callv cls5 (by decide) (ct_X6_torqueOf hG l) mi_X6_torqueOf wv_X6_torqueOf we_X6_torqueOf (by decide) wm_X6_177 dX6_system_99) <| fcs (zs_lsub dX6_system_102) <| fcs (zs_calls (ct_X6_of hG l) mi_X6_of ws_X6_of (by decide) wm_X6_97 dX6_system_103) <| fcs (zs_lastore dX6_system_106) <| fcs (zs_iinc dX6_system_107 rfl (by decide)) <| fcs (zs_goto dX6_system_110 rfl) <| fcs (zs_vret dX6_system_113) <| fnl
section SY
variable {X : Kx} {post : Option AV → SS → Prop}
set_option maxRecDepth 100000 in
set_option maxHeartbeats 4000000 in
/-- the gaps -/
theorem sy_2 (hX : Closed pr_X6_system post X) {σ : SS} {M : Nat → Nat → ZF} {B : Nat → ZF} (hI : MI σ) (hB : ∀ s, K25 σ s → ∀ j, (1 ≤ j ∧ j ≤ mn σ) → σ.2.1 20 0 (16 * j + 14) - tq (m_asi s false) j = B j) (h9 : ∀ s, K25 σ s → kpt (s.2.1 42 0) M (mn σ) (mn σ) → kpg (s.2.1 42 0) B (mn σ) → post none s) {s : SS} (hs : K25 σ s) (hk : kpt (s.2.1 42 0) M (mn σ) (mn σ)) : X 57 [(0, ar 6 0)] [] s := by
  have h7 := hI.2.1
  have hIs := MI_of hs.2.1 hI
  have hn := mn_of hs.2.1
  have loop : ∀ (m r : Nat) (j : Int32) (s' : SS), r + m = mn σ → j = nI (r + 1) → s42 (m_asi s false) s' → kpt (s'.2.1 42 0) M (mn σ) (mn σ) → kpg (s'.2.1 42 0) B r → X 64 [(1, .inl j), (0, ar 6 0)] [] s' := by
    intro m
    induction m with
    | zero =>
      intro r j s' hr hj hs' hk1 hk2
      subst hj
      have hI2 := MI_of (hs'.2.1.trans (m_asi_I _ _)) hIs
      have hn2 := (mn_of (hs'.2.1.trans (m_asi_I _ _))).trans hn
      refine go hX [64] 60 ?_
      refine ⟨fun g1 => ?_, fun g1 => absurd (mlp_t hI2 (by omega) (by omega)) g1⟩
      have e : r = mn σ := by omega
      subst e
      exact h9 s' (K25_tr hs (K25_tr (K25_asi _ _) ⟨hs'.1, hs'.2.1, fun a b j ha => hs'.2.2 a b j (by omega) (by omega)⟩)) hk1 hk2
    | succ m ih =>
      intro r j s' hr hj hs' hk1 hk2
      subst hj
      have hI2 := MI_of (hs'.2.1.trans (m_asi_I _ _)) hIs
      have hn2 := (mn_of (hs'.2.1.trans (m_asi_I _ _))).trans hn
      have hK : K25 σ s' := K25_tr hs (K25_tr (K25_asi _ _) ⟨hs'.1, hs'.2.1, fun a b j ha => hs'.2.2 a b j (by omega) (by omega)⟩)
      refine go hX [64] 60 ?_
      refine ⟨fun g1 => absurd g1 (mlp_f hI2 (by omega)), fun g1 => ?_⟩
      refine ⟨⟨nle rfl, nle rfl⟩, 16 * (r + 1) + 14, by rw [pk_mul, nI_add], by show 16 * (r + 1) + 14 < 128; omega, ?_⟩
      refine ⟨hI2, r + 1, rfl, ⟨by omega, by omega⟩, fun s3 hs3 => ?_⟩
      refine ⟨⟨nle rfl, nle rfl⟩, 8 * r + 7, B (r + 1), by rw [pk_sub (by omega), pk_mul, nI_add, Nat.add_sub_cancel], by show 8 * r + 7 < 64; omega, ?_, ?_⟩
      · refine congrArg em ((of_m rfl).trans ?_)
        rw [tq_42 hs', hK.2.2 20 0 _ (by decide)]
        exact hB s hs (r + 1) ⟨by omega, by omega⟩
      · have e42 : ∀ j, s3.2.1 42 0 j = s'.2.1 42 0 j := fun j => hs3.2.2 42 0 j (by decide)
        refine ih (r + 1) _ _ (by omega) (nI_add _ _) ⟨hs3.1.trans hs'.1, hs3.2.1.trans hs'.2.1, fun a b c ha hb => (sL_n1 _ _ _ _ _ hb).trans ((hs3.2.2 a b c ha).trans (hs'.2.2 a b c ha hb))⟩ (fun i j hi hj => ?_) (fun j hj => ?_)
        · rw [sL_n3 _ _ _ _ _ (by omega), e42]
          exact hk1 i j hi hj
        · by_cases hjr : j = r + 1
          · subst hjr
            exact sL_at _ _ _ _ _
          · rw [sL_n3 _ _ _ _ _ (by omega), e42]
            exact hk2 j ⟨hj.1, by omega⟩
  refine go hX [64] 60 ?_
  refine ⟨hIs, Or.inl rfl, ?_⟩
  exact loop (mn σ) 0 _ _ (by omega) rfl ⟨rfl, rfl, fun _ _ _ _ _ => rfl⟩ (fun i j hi hj => ((K42_asi s false).2.2 42 0 _ (Or.inr (by decide))).trans (hk i j hi hj)) (fun j hj => by omega)
end SY
set_option maxRecDepth 100000 in
set_option maxHeartbeats 4000000 in
theorem ct_X6_system {G : Geo} (hG : GeoOK G) (l : Launch) : Ct G l yX6_system cX6_system 3 none 7 sp_X6_system := by
  refine Ct.of pr_X6_system hG (by decide +kernel) (sn_X6_system hG l) ?_
  intro av σ post hok h
  unfold sp_X6_system at h
  split at h
  · rename_i b
    obtain ⟨hb, hI, M, B, hM, hB, h9⟩ := bif_t h
    clear h
    obtain rfl := is6_t hb
    refine ⟨Nat.le_of_ble_eq_true rfl, fun X hX => ?_⟩
    have h7 := hI.2.1
    have outer : ∀ (m k : Nat) (i : Int32) (s : SS) (loc : Loc'), k + m = mn σ → i = nI (k + 1) → K25 σ s → kpt (s.2.1 42 0) M (mn σ) k → subL [(1, .inl i), (0, ar 6 0)] loc → X 2 loc [] s := by
      intro m
      induction m with
      | zero =>
        intro k i s loc hk hi hs hq hloc
        subst hi
        have hIs := MI_of hs.2.1 hI
        have hn := mn_of hs.2.1
        refine wk hX ?_ hloc
        refine go hX [2, 17, 57] 60 ?_
        refine ⟨fun g1 => ?_, fun g1 => absurd (mlp_t hIs (by omega) (by omega)) g1⟩
        have e : k = mn σ := by omega
        subst e
        exact wk hX (sy_2 hX hI hB h9 hs hq) ⟨⟨_, rfl, Or.inl rfl⟩, trivial⟩
      | succ m ih =>
        intro k i s loc hk hi hs hq hloc
        subst hi
        have hIs := MI_of hs.2.1 hI
        have hn := mn_of hs.2.1
        refine wk hX ?_ hloc
        have inner : ∀ (m2 r : Nat) (j : Int32) (s' : SS), r + m2 = mn σ → j = nI (r + 1) → s42 (m_alo s (k + 1)) s' → kpt (s'.2.1 42 0) M (mn σ) k → (∀ j, 1 ≤ j ∧ j ≤ r → s'.2.1 42 0 (8 * (j - 1) + (k + 1) - 1) = M j (k + 1)) → X 17 [(2, .inl j), (1, .inl (nI (k + 1))), (0, ar 6 0)] [] s' := by
          intro m2
          induction m2 with
          | zero =>
            intro r j s' hr hj hs' hq1 hq2
            subst hj
            have hI2 := MI_of (hs'.2.1.trans (m_alo_I _ _)) hIs
            have hn2 := (mn_of (hs'.2.1.trans (m_alo_I _ _))).trans hn
            refine go hX [2, 17] 60 ?_
            refine ⟨fun g1 => ?_, fun g1 => absurd (mlp_t hI2 (by omega) (by omega)) g1⟩
            have e : r = mn σ := by omega
            subst e
            refine ih (k + 1) _ s' _ (by omega) (nI_add _ _) (K25_tr hs (K25_tr (K25_alo _ _) ⟨hs'.1, hs'.2.1, fun a b j ha => hs'.2.2 a b j (by omega) (by omega)⟩)) (fun i j hi hj => ?_) ⟨⟨_, rfl, Or.inl rfl⟩, ⟨_, rfl, Or.inl rfl⟩, trivial⟩
            by_cases hik : i = k + 1
            · subst hik
              exact hq2 j hj
            · exact hq1 i j ⟨hi.1, by omega⟩ hj
          | succ m2 ih2 =>
            intro r j s' hr hj hs' hq1 hq2
            subst hj
            have hI2 := MI_of (hs'.2.1.trans (m_alo_I _ _)) hIs
            have hn2 := (mn_of (hs'.2.1.trans (m_alo_I _ _))).trans hn
            refine go hX [2, 17] 60 ?_
            refine ⟨fun g1 => absurd g1 (mlp_f hI2 (by omega)), fun g1 => ?_⟩
            refine ⟨hI2, r + 1, rfl, ⟨by omega, by omega⟩, fun s3 hs3 => ?_⟩
            have hidx : nI 8 * (nI (r + 1) - nI 1) + nI (k + 1) - nI 1 = nI (8 * r + (k + 1) - 1) := by
              rw [pk_sub (by omega), pk_mul, nI_add, pk_sub (by omega), Nat.add_sub_cancel]
            refine ⟨⟨nle rfl, nle rfl⟩, 8 * r + (k + 1) - 1, M (r + 1) (k + 1), hidx, by show 8 * r + (k + 1) - 1 < 64; omega, ?_, ?_⟩
            · refine congrArg em ?_
              rw [tq_42 hs']
              exact hM s hs (k + 1) (r + 1) ⟨by omega, by omega⟩ ⟨by omega, by omega⟩
            · have e42 : ∀ j, s3.2.1 42 0 j = s'.2.1 42 0 j := fun j => hs3.2.2 42 0 j (by decide)
              refine ih2 (r + 1) _ _ (by omega) (nI_add _ _) ⟨hs3.1.trans hs'.1, hs3.2.1.trans hs'.2.1, fun a b c ha hb => (sL_n1 _ _ _ _ _ hb).trans ((hs3.2.2 a b c ha).trans (hs'.2.2 a b c ha hb))⟩ (fun i j hi hj => ?_) (fun j hj => ?_)
              · rw [sL_n3 _ _ _ _ _ (by omega), e42]
                exact hq1 i j hi hj
              · by_cases hjr : j = r + 1
                · subst hjr
                  exact sL_at _ _ _ _ _
                · rw [sL_n3 _ _ _ _ _ (by omega), e42]
                  exact hq2 j ⟨hj.1, by omega⟩
        refine go hX [2, 17] 60 ?_
        refine ⟨fun g1 => absurd g1 (mlp_f hIs (by omega)), fun g1 => ?_⟩
        refine ⟨hIs, k + 1, rfl, by omega, ?_⟩
        exact wk hX (inner (mn σ) 0 _ _ (by omega) rfl ⟨rfl, rfl, fun _ _ _ _ _ => rfl⟩ (fun i j hi hj => by rw [(K42_alo s (k + 1)).2.2 42 0 _ (Or.inr (by decide))]; exact hq i j hi hj) (fun j hj => by omega)) ⟨⟨_, rfl, Or.inl rfl⟩, ⟨_, rfl, Or.inl rfl⟩, ⟨_, rfl, Or.inl rfl⟩, trivial⟩
    refine go hX [2] 60 ?_
    exact outer (mn σ) 0 _ _ _ (by omega) rfl (K25_rf _) (fun i j hi hj => by omega) ⟨⟨_, rfl, Or.inl rfl⟩, ⟨_, rfl, Or.inl rfl⟩, trivial⟩
  · exact h.elim
