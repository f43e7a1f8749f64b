/-! The reference's matrices in arrays -/
theorem fl_set (σ : SS) (t : Nat × Nat) (k n : Nat) (f : Nat → ZF) {i j : Nat} (x : ZF) (hi : i < n) (hj : j = k + i) : sL (fl σ t k n f) t.1 t.2 j x = fl σ t k n (fun m => if m = i then x else f m) := by
  subst hj
  unfold fl sL
  refine Prod.ext rfl (Prod.ext ?_ rfl)
  funext a b j
  dsimp only
  by_cases h1 : a = t.1 ∧ b = t.2
  · by_cases h2 : j = k + i
    · rw [if_pos ⟨h1.1, h1.2, h2⟩, if_pos ⟨h1.1, h1.2, by omega, by omega⟩, if_pos (by omega)]
    · rw [if_neg (fun h => h2 h.2.2)]
      by_cases h3 : k ≤ j ∧ j < k + n
      · rw [if_pos ⟨h1.1, h1.2, h3⟩, if_pos ⟨h1.1, h1.2, h3⟩, if_neg (by omega)]
      · rw [if_neg (fun h => h3 h.2.2), if_neg (fun h => h3 h.2.2)]
  · rw [if_neg (fun h => h1 ⟨h.1, h.2.1⟩), if_neg (fun h => h1 ⟨h.1, h.2.1⟩), if_neg (fun h => h1 ⟨h.1, h.2.1⟩)]
theorem fl_cg (σ : SS) (t : Nat × Nat) (k n : Nat) {f g : Nat → ZF} (h : ∀ m, m < n → f m = g m) : fl σ t k n f = fl σ t k n g := by
  unfold fl
  refine Prod.ext rfl (Prod.ext ?_ rfl)
  funext a b j
  dsimp only
  by_cases h1 : a = t.1 ∧ b = t.2 ∧ k ≤ j ∧ j < k + n
  · rw [if_pos h1, if_pos h1, h (j - k) (by omega)]
  · rw [if_neg h1, if_neg h1]
/-- the product of two matrices, place n -/
def mm (σ : SS) (l : Nat × Nat) (i : Nat) (r : Nat × Nat) (j n : Nat) : ZF :=
  σ.2.1 l.1 l.2 (i + 3 * (n / 3)) * σ.2.1 r.1 r.2 (j + n % 3) + σ.2.1 l.1 l.2 (i + 3 * (n / 3) + 1) * σ.2.1 r.1 r.2 (j + 3 + n % 3) + σ.2.1 l.1 l.2 (i + 3 * (n / 3) + 2) * σ.2.1 r.1 r.2 (j + 6 + n % 3)
noncomputable def sp_X6_times : Spc := fun av σ post => match av with
  | [.inr (.inr t), .inl k, .inr (.inr l), .inl i, .inr (.inr r), .inl j] => bif isM2 t l && isM2 t r then (∃ k' i' j', (k = nI k' ∧ i = nI i' ∧ j = nI j') ∧ (k' + 8 < alen t.1 ∧ i' + 8 < alen l.1 ∧ j' + 8 < alen r.1) ∧ post none (fl σ t k' 9 (mm σ l i' r j'))) else False
  | _ => False
theorem dX6_times_0 : decode cX6_times 0 = .ok (.iconst 0, 1) := by decide +kernel
theorem dX6_times_1 : decode cX6_times 1 = .ok (.istore 6, 2) := by decide +kernel
theorem dX6_times_3 : decode cX6_times 3 = .ok (.iload 6, 2) := by decide +kernel
theorem dX6_times_5 : decode cX6_times 5 = .ok (.iconst 3, 1) := by decide +kernel
theorem dX6_times_6 : decode cX6_times 6 = .ok (.if_icmp .ge 113, 3) := by decide +kernel
theorem dX6_times_9 : decode cX6_times 9 = .ok (.iconst 0, 1) := by decide +kernel
theorem dX6_times_10 : decode cX6_times 10 = .ok (.istore 7, 2) := by decide +kernel
theorem dX6_times_12 : decode cX6_times 12 = .ok (.iload 7, 2) := by decide +kernel
theorem dX6_times_14 : decode cX6_times 14 = .ok (.iconst 3, 1) := by decide +kernel
theorem dX6_times_15 : decode cX6_times 15 = .ok (.if_icmp .ge 98, 3) := by decide +kernel
theorem dX6_times_18 : decode cX6_times 18 = .ok (.aload_n 0, 1) := by decide +kernel
theorem dX6_times_19 : decode cX6_times 19 = .ok (.iload_n 1, 1) := by decide +kernel
theorem dX6_times_20 : decode cX6_times 20 = .ok (.iconst 3, 1) := by decide +kernel
theorem dX6_times_21 : decode cX6_times 21 = .ok (.iload 6, 2) := by decide +kernel
theorem dX6_times_23 : decode cX6_times 23 = .ok (.imul, 1) := by decide +kernel
theorem dX6_times_24 : decode cX6_times 24 = .ok (.iadd, 1) := by decide +kernel
theorem dX6_times_25 : decode cX6_times 25 = .ok (.iload 7, 2) := by decide +kernel
theorem dX6_times_27 : decode cX6_times 27 = .ok (.iadd, 1) := by decide +kernel
theorem dX6_times_28 : decode cX6_times 28 = .ok (.aload_n 2, 1) := by decide +kernel
theorem dX6_times_29 : decode cX6_times 29 = .ok (.iload_n 3, 1) := by decide +kernel
theorem dX6_times_30 : decode cX6_times 30 = .ok (.iconst 3, 1) := by decide +kernel
theorem dX6_times_31 : decode cX6_times 31 = .ok (.iload 6, 2) := by decide +kernel
theorem dX6_times_33 : decode cX6_times 33 = .ok (.imul, 1) := by decide +kernel
theorem dX6_times_34 : decode cX6_times 34 = .ok (.iadd, 1) := by decide +kernel
theorem dX6_times_35 : decode cX6_times 35 = .ok (.laload, 1) := by decide +kernel
theorem dX6_times_36 : decode cX6_times 36 = .ok (.aload 4, 2) := by decide +kernel
theorem dX6_times_38 : decode cX6_times 38 = .ok (.iload 5, 2) := by decide +kernel
theorem dX6_times_40 : decode cX6_times 40 = .ok (.iload 7, 2) := by decide +kernel
theorem dX6_times_42 : decode cX6_times 42 = .ok (.iadd, 1) := by decide +kernel
theorem dX6_times_43 : decode cX6_times 43 = .ok (.laload, 1) := by decide +kernel
theorem dX6_times_44 : decode cX6_times 44 = .ok (.lmul, 1) := by decide +kernel
theorem dX6_times_45 : decode cX6_times 45 = .ok (.ldc2_w 91, 3) := by decide +kernel
theorem dX6_times_48 : decode cX6_times 48 = .ok (.lrem, 1) := by decide +kernel
theorem dX6_times_49 : decode cX6_times 49 = .ok (.aload_n 2, 1) := by decide +kernel
theorem dX6_times_50 : decode cX6_times 50 = .ok (.iload_n 3, 1) := by decide +kernel
theorem dX6_times_51 : decode cX6_times 51 = .ok (.iconst 3, 1) := by decide +kernel
theorem dX6_times_52 : decode cX6_times 52 = .ok (.iload 6, 2) := by decide +kernel
theorem dX6_times_54 : decode cX6_times 54 = .ok (.imul, 1) := by decide +kernel
theorem dX6_times_55 : decode cX6_times 55 = .ok (.iadd, 1) := by decide +kernel
theorem dX6_times_56 : decode cX6_times 56 = .ok (.iconst 1, 1) := by decide +kernel
theorem dX6_times_57 : decode cX6_times 57 = .ok (.iadd, 1) := by decide +kernel
theorem dX6_times_58 : decode cX6_times 58 = .ok (.laload, 1) := by decide +kernel
theorem dX6_times_59 : decode cX6_times 59 = .ok (.aload 4, 2) := by decide +kernel
theorem dX6_times_61 : decode cX6_times 61 = .ok (.iload 5, 2) := by decide +kernel
theorem dX6_times_63 : decode cX6_times 63 = .ok (.iconst 3, 1) := by decide +kernel
theorem dX6_times_64 : decode cX6_times 64 = .ok (.iadd, 1) := by decide +kernel
theorem dX6_times_65 : decode cX6_times 65 = .ok (.iload 7, 2) := by decide +kernel
theorem dX6_times_67 : decode cX6_times 67 = .ok (.iadd, 1) := by decide +kernel
theorem dX6_times_68 : decode cX6_times 68 = .ok (.laload, 1) := by decide +kernel
theorem dX6_times_69 : decode cX6_times 69 = .ok (.lmul, 1) := by decide +kernel
theorem dX6_times_70 : decode cX6_times 70 = .ok (.ldc2_w 91, 3) := by decide +kernel
theorem dX6_times_73 : decode cX6_times 73 = .ok (.lrem, 1) := by decide +kernel
theorem dX6_times_74 : decode cX6_times 74 = .ok (.ladd, 1) := by decide +kernel
theorem dX6_times_75 : decode cX6_times 75 = .ok (.aload_n 2, 1) := by decide +kernel
theorem dX6_times_76 : decode cX6_times 76 = .ok (.iload_n 3, 1) := by decide +kernel
theorem dX6_times_77 : decode cX6_times 77 = .ok (.iconst 3, 1) := by decide +kernel
theorem dX6_times_78 : decode cX6_times 78 = .ok (.iload 6, 2) := by decide +kernel
theorem dX6_times_80 : decode cX6_times 80 = .ok (.imul, 1) := by decide +kernel
theorem dX6_times_81 : decode cX6_times 81 = .ok (.iadd, 1) := by decide +kernel
theorem dX6_times_82 : decode cX6_times 82 = .ok (.iconst 2, 1) := by decide +kernel
theorem dX6_times_83 : decode cX6_times 83 = .ok (.iadd, 1) := by decide +kernel
theorem dX6_times_84 : decode cX6_times 84 = .ok (.laload, 1) := by decide +kernel
theorem dX6_times_85 : decode cX6_times 85 = .ok (.aload 4, 2) := by decide +kernel
theorem dX6_times_87 : decode cX6_times 87 = .ok (.iload 5, 2) := by decide +kernel
theorem dX6_times_89 : decode cX6_times 89 = .ok (.bipush 6, 2) := by decide +kernel
theorem dX6_times_91 : decode cX6_times 91 = .ok (.iadd, 1) := by decide +kernel
theorem dX6_times_92 : decode cX6_times 92 = .ok (.iload 7, 2) := by decide +kernel
theorem dX6_times_94 : decode cX6_times 94 = .ok (.iadd, 1) := by decide +kernel
theorem dX6_times_95 : decode cX6_times 95 = .ok (.laload, 1) := by decide +kernel
theorem dX6_times_96 : decode cX6_times 96 = .ok (.lmul, 1) := by decide +kernel
theorem dX6_times_97 : decode cX6_times 97 = .ok (.ldc2_w 91, 3) := by decide +kernel
theorem dX6_times_100 : decode cX6_times 100 = .ok (.lrem, 1) := by decide +kernel
theorem dX6_times_101 : decode cX6_times 101 = .ok (.ladd, 1) := by decide +kernel
theorem dX6_times_102 : decode cX6_times 102 = .ok (.ldc2_w 91, 3) := by decide +kernel
theorem dX6_times_105 : decode cX6_times 105 = .ok (.lrem, 1) := by decide +kernel
theorem dX6_times_106 : decode cX6_times 106 = .ok (.lastore, 1) := by decide +kernel
theorem dX6_times_107 : decode cX6_times 107 = .ok (.iinc 7 1, 3) := by decide +kernel
theorem dX6_times_110 : decode cX6_times 110 = .ok (.goto (-98), 3) := by decide +kernel
theorem dX6_times_113 : decode cX6_times 113 = .ok (.iinc 6 1, 3) := by decide +kernel
theorem dX6_times_116 : decode cX6_times 116 = .ok (.goto (-113), 3) := by decide +kernel
theorem dX6_times_119 : decode cX6_times 119 = .ok (.return_, 1) := by decide +kernel
noncomputable def pr_X6_times : Prg := [(0, z_ic (nI 0) 1), (1, z_istore 6 2), (3, z_iload 6 2), (5, z_ic (nI 3) 1), (6, z_if2 (fun x y => y ≤ x) 119), (9, z_ic (nI 0) 1), (10, z_istore 7 2), (12, z_iload 7 2), (14, z_ic (nI 3) 1), (15, z_if2 (fun x y => y ≤ x) 113), (18, z_aload 0 1), (19, z_iload 1 1), (20, z_ic (nI 3) 1), (21, z_iload 6 2), (23, z_imul), (24, z_iadd), (25, z_iload 7 2), (27, z_iadd), (28, z_aload 2 1), (29, z_iload 3 1), (30, z_ic (nI 3) 1), (31, z_iload 6 2), (33, z_imul), (34, z_iadd), (35, z_laload), (36, z_aload 4 2), (38, z_iload 5 2), (40, z_iload 7 2), (42, z_iadd), (43, z_laload), (44, z_lmul), (45, z_lc (.inl 2147483647) 3), (48, z_lrem), (49, z_aload 2 1), (50, z_iload 3 1), (51, z_ic (nI 3) 1), (52, z_iload 6 2), (54, z_imul), (55, z_iadd), (56, z_ic (nI 1) 1), (57, z_iadd), (58, z_laload), (59, z_aload 4 2), (61, z_iload 5 2), (63, z_ic (nI 3) 1), (64, z_iadd), (65, z_iload 7 2), (67, z_iadd), (68, z_laload), (69, z_lmul), (70, z_lc (.inl 2147483647) 3), (73, z_lrem), (74, z_ladd), (75, z_aload 2 1), (76, z_iload 3 1), (77, z_ic (nI 3) 1), (78, z_iload 6 2), (80, z_imul), (81, z_iadd), (82, z_ic (nI 2) 1), (83, z_iadd), (84, z_laload), (85, z_aload 4 2), (87, z_iload 5 2), (89, z_ic (nI 6) 2), (91, z_iadd), (92, z_iload 7 2), (94, z_iadd), (95, z_laload), (96, z_lmul), (97, z_lc (.inl 2147483647) 3), (100, z_lrem), (101, z_ladd), (102, z_lc (.inl 2147483647) 3), (105, z_lrem), (106, z_lastore), (107, z_iinc 7 (nI 1)), (110, z_goto 12), (113, z_iinc 6 (nI 1)), (116, z_goto 3), (119, z_vret)]
set_option maxRecDepth 100000 in
set_option maxHeartbeats 4000000 in
theorem sn_X6_times {G : Geo} (hG : GeoOK G) (l : Launch) : ∀ q ∈ pr_X6_times, Sn G l yX6_times.cls cX6_times 8 0 none q.1 q.2 :=
  fcs (zs_iconst dX6_times_0 rfl) <| fcs (zs_istore dX6_times_1 (by decide)) <| fcs (zs_iload dX6_times_3) <| fcs (zs_iconst dX6_times_5 rfl) <| fcs (zs_icmp_ge dX6_times_6 rfl) <| fcs (zs_iconst dX6_times_9 rfl) <| fcs (zs_istore dX6_times_10 (by decide)) <| fcs (zs_iload dX6_times_12) <| fcs (zs_iconst dX6_times_14 rfl) <| fcs (zs_icmp_ge dX6_times_15 rfl) <| fcs (zs_aload_n dX6_times_18 rfl) <| fcs (zs_iload_n dX6_times_19 rfl) <| fcs (zs_iconst dX6_times_20 rfl) <| fcs (zs_iload dX6_times_21) <| fcs (zs_imul dX6_times_23) <| fcs (zs_iadd dX6_times_24) <| fcs (zs_iload dX6_times_25) <| fcs (zs_iadd dX6_times_27) <| fcs (zs_aload_n dX6_times_28 rfl) <| fcs (zs_iload_n dX6_times_29 rfl) <| fcs (zs_iconst dX6_times_30 rfl) <| fcs (zs_iload dX6_times_31) <| fcs (zs_imul dX6_times_33) <| fcs (zs_iadd dX6_times_34) <| fcs (zs_laload dX6_times_35) <| fcs (zs_aload dX6_times_36) <| fcs (zs_iload dX6_times_38) <| fcs (zs_iload dX6_times_40) <| fcs (zs_iadd dX6_times_42) <| fcs (zs_laload dX6_times_43) <| fcs (zs_lmul dX6_times_44) <| fcs (zs_ldc2 dX6_times_45 wl_X6_91) <| fcs (zs_lrem dX6_times_48) <| fcs (zs_aload_n dX6_times_49 rfl) <| fcs (zs_iload_n dX6_times_50 rfl) <| fcs (zs_iconst dX6_times_51 rfl) <| fcs (zs_iload dX6_times_52) <| fcs (zs_imul dX6_times_54) <| fcs (zs_iadd dX6_times_55) <| fcs (zs_iconst dX6_times_56 rfl) <| fcs (zs_iadd dX6_times_57) <| fcs (zs_laload dX6_times_58) <| fcs (zs_aload dX6_times_59) <| fcs (zs_iload dX6_times_61) <| fcs (zs_iconst dX6_times_63 rfl) <| fcs (zs_iadd dX6_times_64) <| fcs (zs_iload dX6_times_65) <| fcs (zs_iadd dX6_times_67) <| fcs (zs_laload dX6_times_68) <| fcs (zs_lmul dX6_times_69) <| fcs (zs_ldc2 dX6_times_70 wl_X6_91) <| fcs (zs_lrem dX6_times_73) <| fcs (zs_ladd dX6_times_74) <| fcs (zs_aload_n dX6_times_75 rfl) <| fcs (zs_iload_n dX6_times_76 rfl) <| fcs (zs_iconst dX6_times_77 rfl) <| fcs (zs_iload dX6_times_78) <| fcs (zs_imul dX6_times_80) <| fcs (zs_iadd dX6_times_81) <| fcs (zs_iconst dX6_times_82 rfl) <| fcs (zs_iadd dX6_times_83) <| fcs (zs_laload dX6_times_84) <| fcs (zs_aload dX6_times_85) <| fcs (zs_iload dX6_times_87) <| fcs (zs_bipush dX6_times_89 rfl) <| fcs (zs_iadd dX6_times_91) <| fcs (zs_iload dX6_times_92) <| fcs (zs_iadd dX6_times_94) <| fcs (zs_laload dX6_times_95) <| fcs (zs_lmul dX6_times_96) <| fcs (zs_ldc2 dX6_times_97 wl_X6_91) <| fcs (zs_lrem dX6_times_100) <| fcs (zs_ladd dX6_times_101) <| fcs (zs_ldc2 dX6_times_102 wl_X6_91) <| fcs (zs_lrem dX6_times_105) <| fcs (zs_lastore dX6_times_106) <| fcs (zs_iinc dX6_times_107 rfl (by decide)) <| fcs (zs_goto dX6_times_110 rfl) <| fcs (zs_iinc dX6_times_113 rfl (by decide)) <| fcs (zs_goto dX6_times_116 rfl) <| fcs (zs_vret dX6_times_119) <| fnl
set_option maxRecDepth 100000 in
set_option maxHeartbeats 4000000 in
theorem ct_X6_times {G : Geo} (hG : GeoOK G) (l : Launch) : Ct G l yX6_times cX6_times 8 none 0 sp_X6_times := by
  refine Ct.of pr_X6_times hG (by decide +kernel) (sn_X6_times hG l) ?_
  intro av σ post hok h
  unfold sp_X6_times at h
  split at h
  · rename_i t k l i r j
    obtain ⟨hb, k, i, j, ⟨rfl, rfl, rfl⟩, ⟨hk, hi, hj⟩, h⟩ := bif_t h
    rw [Bool.and_eq_true] at hb
    obtain ⟨ht, hl, hne⟩ := isM2_t hb.1
    obtain ⟨-, hr, hne2⟩ := isM2_t hb.2
    refine ⟨Nat.le_of_ble_eq_true rfl, fun X hX => ?_⟩
    have outer : ∀ (m rw9 : Nat) (rr : Int32) (loc : Loc'), rw9 + m = 3 → rr = nI rw9 → subL [(6, .inl rr), (0, .inr (.inr t)), (1, .inl (nI k)), (2, .inr (.inr l)), (3, .inl (nI i)), (4, .inr (.inr r)), (5, .inl (nI j))] loc → X 3 loc [] (fl σ t k (3 * rw9) (mm σ l i r j)) := by
      intro m
      induction m with
      | zero =>
        intro rw9 rr loc hc e hloc
        subst e
        refine wk hX ?_ hloc
        refine go hX [3, 12] 60 ?_
        refine ⟨fun g => ?_, fun g => absurd ((nI_leI (by decide) (by omega)).mpr (by omega)) g⟩
        have e : rw9 = 3 := by omega
        subst e
        exact h
      | succ m ih =>
        intro rw9 rr loc hc e hloc
        subst e
        refine wk hX ?_ hloc
        refine go hX [3, 12] 60 ?_
        refine ⟨fun g => absurd ((nI_leI (by decide) (by omega)).mp g) (by omega), fun g => ?_⟩
        have inner : ∀ (m2 c : Nat) (cc : Int32), c + m2 = 3 → cc = nI c → X 12 [(7, .inl cc), (6, .inl (nI rw9)), (0, .inr (.inr t)), (1, .inl (nI k)), (2, .inr (.inr l)), (3, .inl (nI i)), (4, .inr (.inr r)), (5, .inl (nI j))] [] (fl σ t k (3 * rw9 + c) (mm σ l i r j)) := by
          intro m2
          induction m2 with
          | zero =>
            intro c cc hc2 e
            subst e
            refine go hX [3, 12] 60 ?_
            refine ⟨fun g => ?_, fun g => absurd ((nI_leI (by decide) (by omega)).mpr (by omega)) g⟩
            have e : c = 3 := by omega
            subst e
            exact ih (rw9 + 1) _ _ (by omega) (nI_add _ _) ⟨⟨_, rfl, Or.inl rfl⟩, ⟨_, rfl, Or.inl rfl⟩, ⟨_, rfl, Or.inl rfl⟩, ⟨_, rfl, Or.inl rfl⟩, ⟨_, rfl, Or.inl rfl⟩, ⟨_, rfl, Or.inl rfl⟩, ⟨_, rfl, Or.inl rfl⟩, trivial⟩
          | succ m2 ih2 =>
            intro c cc hc2 e
            subst e
            have ih3 := ih2 (c + 1) _ (by omega) (nI_add c 1)
            have n3 : (3 * rw9 + c) / 3 = rw9 := by omega
            have n4 : (3 * rw9 + c) % 3 = c := by omega
            have hv : ∀ s : SS, s = fl σ t k (3 * rw9 + c) (mm σ l i r j) → X 107 [(7, .inl (nI c)), (6, .inl (nI rw9)), (0, .inr (.inr t)), (1, .inl (nI k)), (2, .inr (.inr l)), (3, .inl (nI i)), (4, .inr (.inr r)), (5, .inl (nI j))] [] (sL s t.1 t.2 (k + (3 * rw9 + c)) (mm σ l i r j (3 * rw9 + c))) := by
              intro s hs
              subst hs
              refine go hX [3, 12] 60 ?_
              rw [fl_s σ t k (3 * rw9 + c) (mm σ l i r j) rfl rfl]
              exact ih3
            refine go hX [3, 107] 100 ?_
            refine ⟨fun g => absurd ((nI_leI (by decide) (by omega)).mp g) (by omega), fun g => ?_⟩
            refine ⟨hl, i + 3 * rw9, by rw [pk_mul, nI_add], by omega, hr, j + c, nI_add _ _, by omega, ne_P, ?_⟩
            refine ⟨hl, i + 3 * rw9 + 1, by rw [pk_mul, nI_add, nI_add], by omega, hr, j + 3 + c, by rw [nI_add, nI_add], by omega, ne_P, ?_⟩
            refine ⟨hl, i + 3 * rw9 + 2, by rw [pk_mul, nI_add, nI_add], by omega, hr, j + 6 + c, by rw [nI_add, nI_add], by omega, ne_P, ne_P, ?_⟩
            refine ⟨ht, k + (3 * rw9 + c), mm σ l i r j (3 * rw9 + c), by rw [pk_mul, nI_add, nI_add, Nat.add_assoc], by omega, ?_, ?_⟩
            · refine (n_dot3 _ _ _ _ _ _).trans ?_
              rw [fl_n _ _ _ _ _ _ _ hne, fl_n _ _ _ _ _ _ _ hne, fl_n _ _ _ _ _ _ _ hne, fl_n _ _ _ _ _ _ _ hne2, fl_n _ _ _ _ _ _ _ hne2, fl_n _ _ _ _ _ _ _ hne2]
              unfold mm
              rw [n3, n4]
            · exact hv _ rfl
        exact inner 3 0 _ rfl rfl
    refine go hX [3, 12] 60 ?_
    have l0 : X 3 [(6, .inl (nI 0)), (0, .inr (.inr t)), (1, .inl (nI k)), (2, .inr (.inr l)), (3, .inl (nI i)), (4, .inr (.inr r)), (5, .inl (nI j))] [] (fl σ t k (3 * 0) (mm σ l i r j)) := outer 3 0 _ _ rfl rfl ⟨⟨_, rfl, Or.inl rfl⟩, ⟨_, rfl, Or.inl rfl⟩, ⟨_, rfl, Or.inl rfl⟩, ⟨_, rfl, Or.inl rfl⟩, ⟨_, rfl, Or.inl rfl⟩, ⟨_, rfl, Or.inl rfl⟩, ⟨_, rfl, Or.inl rfl⟩, trivial⟩
    rw [Nat.mul_zero, fl_0] at l0
    exact l0
  · exact h.elim
/-- T (about 0), Z (about 2): place n -/
noncomputable def rotf (b : Bool) (t : ZF) (n : Nat) : ZF := bif b then (match n with
  | 0 => 1 | 4 => cosz t | 5 => -sinz t | 7 => sinz t | 8 => cosz t | _ => 0) else (match n with
  | 8 => 1 | 0 => cosz t | 1 => -sinz t | 3 => sinz t | 4 => cosz t | _ => 0)
noncomputable def sp_X6_rotation : Spc := fun av σ post => match av with
  | [.inr (.inr q), .inl a, .inr (.inl (.inr t))] => bif isM q then (9 ≤ alen q.1 ∧ ((a = nI 0 → post none (fl σ q 0 9 (rotf true t))) ∧ (a = nI 2 → post none (fl σ q 0 9 (rotf false t)))) ∧ (a = nI 0 ∨ a = nI 2)) else False
  | _ => False
theorem dX6_rotation_0 : decode cX6_rotation 0 = .ok (.lload_n 2, 1) := by decide +kernel
theorem dX6_rotation_1 : decode cX6_rotation 1 = .ok (.invokestatic 108, 3) := by decide +kernel
theorem dX6_rotation_4 : decode cX6_rotation 4 = .ok (.lstore 4, 2) := by decide +kernel
theorem dX6_rotation_6 : decode cX6_rotation 6 = .ok (.lload_n 2, 1) := by decide +kernel
theorem dX6_rotation_7 : decode cX6_rotation 7 = .ok (.invokestatic 111, 3) := by decide +kernel
theorem dX6_rotation_10 : decode cX6_rotation 10 = .ok (.lstore 6, 2) := by decide +kernel
theorem dX6_rotation_12 : decode cX6_rotation 12 = .ok (.iconst 0, 1) := by decide +kernel
theorem dX6_rotation_13 : decode cX6_rotation 13 = .ok (.istore 8, 2) := by decide +kernel
theorem dX6_rotation_15 : decode cX6_rotation 15 = .ok (.iload 8, 2) := by decide +kernel
theorem dX6_rotation_17 : decode cX6_rotation 17 = .ok (.bipush 9, 2) := by decide +kernel
theorem dX6_rotation_19 : decode cX6_rotation 19 = .ok (.if_icmp .ge 14, 3) := by decide +kernel
theorem dX6_rotation_22 : decode cX6_rotation 22 = .ok (.aload_n 0, 1) := by decide +kernel
theorem dX6_rotation_23 : decode cX6_rotation 23 = .ok (.iload 8, 2) := by decide +kernel
theorem dX6_rotation_25 : decode cX6_rotation 25 = .ok (.lconst 0, 1) := by decide +kernel
theorem dX6_rotation_26 : decode cX6_rotation 26 = .ok (.lastore, 1) := by decide +kernel
theorem dX6_rotation_27 : decode cX6_rotation 27 = .ok (.iinc 8 1, 3) := by decide +kernel
theorem dX6_rotation_30 : decode cX6_rotation 30 = .ok (.goto (-15), 3) := by decide +kernel
theorem dX6_rotation_33 : decode cX6_rotation 33 = .ok (.aload_n 0, 1) := by decide +kernel
theorem dX6_rotation_34 : decode cX6_rotation 34 = .ok (.iconst 4, 1) := by decide +kernel
theorem dX6_rotation_35 : decode cX6_rotation 35 = .ok (.iload_n 1, 1) := by decide +kernel
theorem dX6_rotation_36 : decode cX6_rotation 36 = .ok (.imul, 1) := by decide +kernel
theorem dX6_rotation_37 : decode cX6_rotation 37 = .ok (.lconst 1, 1) := by decide +kernel
theorem dX6_rotation_38 : decode cX6_rotation 38 = .ok (.lastore, 1) := by decide +kernel
theorem dX6_rotation_39 : decode cX6_rotation 39 = .ok (.iload_n 1, 1) := by decide +kernel
theorem dX6_rotation_40 : decode cX6_rotation 40 = .ok (.ifCond .ne 7, 3) := by decide +kernel
theorem dX6_rotation_43 : decode cX6_rotation 43 = .ok (.iconst 1, 1) := by decide +kernel
theorem dX6_rotation_44 : decode cX6_rotation 44 = .ok (.goto 4, 3) := by decide +kernel
theorem dX6_rotation_47 : decode cX6_rotation 47 = .ok (.iconst 0, 1) := by decide +kernel
theorem dX6_rotation_48 : decode cX6_rotation 48 = .ok (.istore 8, 2) := by decide +kernel
theorem dX6_rotation_50 : decode cX6_rotation 50 = .ok (.aload_n 0, 1) := by decide +kernel
theorem dX6_rotation_51 : decode cX6_rotation 51 = .ok (.iconst 4, 1) := by decide +kernel
theorem dX6_rotation_52 : decode cX6_rotation 52 = .ok (.iload 8, 2) := by decide +kernel
theorem dX6_rotation_54 : decode cX6_rotation 54 = .ok (.imul, 1) := by decide +kernel
theorem dX6_rotation_55 : decode cX6_rotation 55 = .ok (.lload 4, 2) := by decide +kernel
theorem dX6_rotation_57 : decode cX6_rotation 57 = .ok (.lastore, 1) := by decide +kernel
theorem dX6_rotation_58 : decode cX6_rotation 58 = .ok (.aload_n 0, 1) := by decide +kernel
theorem dX6_rotation_59 : decode cX6_rotation 59 = .ok (.iconst 3, 1) := by decide +kernel
theorem dX6_rotation_60 : decode cX6_rotation 60 = .ok (.iload 8, 2) := by decide +kernel
theorem dX6_rotation_62 : decode cX6_rotation 62 = .ok (.imul, 1) := by decide +kernel
theorem dX6_rotation_63 : decode cX6_rotation 63 = .ok (.iload 8, 2) := by decide +kernel
theorem dX6_rotation_65 : decode cX6_rotation 65 = .ok (.iadd, 1) := by decide +kernel
theorem dX6_rotation_66 : decode cX6_rotation 66 = .ok (.iconst 1, 1) := by decide +kernel
theorem dX6_rotation_67 : decode cX6_rotation 67 = .ok (.iadd, 1) := by decide +kernel
theorem dX6_rotation_68 : decode cX6_rotation 68 = .ok (.lload 6, 2) := by decide +kernel
theorem dX6_rotation_70 : decode cX6_rotation 70 = .ok (.lneg, 1) := by decide +kernel
theorem dX6_rotation_71 : decode cX6_rotation 71 = .ok (.invokestatic 97, 3) := by decide +kernel
theorem dX6_rotation_74 : decode cX6_rotation 74 = .ok (.lastore, 1) := by decide +kernel
theorem dX6_rotation_75 : decode cX6_rotation 75 = .ok (.aload_n 0, 1) := by decide +kernel
theorem dX6_rotation_76 : decode cX6_rotation 76 = .ok (.iconst 3, 1) := by decide +kernel
theorem dX6_rotation_77 : decode cX6_rotation 77 = .ok (.iload 8, 2) := by decide +kernel
theorem dX6_rotation_79 : decode cX6_rotation 79 = .ok (.iconst 1, 1) := by decide +kernel
theorem dX6_rotation_80 : decode cX6_rotation 80 = .ok (.iadd, 1) := by decide +kernel
theorem dX6_rotation_81 : decode cX6_rotation 81 = .ok (.imul, 1) := by decide +kernel
theorem dX6_rotation_82 : decode cX6_rotation 82 = .ok (.iload 8, 2) := by decide +kernel
theorem dX6_rotation_84 : decode cX6_rotation 84 = .ok (.iadd, 1) := by decide +kernel
theorem dX6_rotation_85 : decode cX6_rotation 85 = .ok (.lload 6, 2) := by decide +kernel
theorem dX6_rotation_87 : decode cX6_rotation 87 = .ok (.lastore, 1) := by decide +kernel
theorem dX6_rotation_88 : decode cX6_rotation 88 = .ok (.aload_n 0, 1) := by decide +kernel
theorem dX6_rotation_89 : decode cX6_rotation 89 = .ok (.iconst 4, 1) := by decide +kernel
theorem dX6_rotation_90 : decode cX6_rotation 90 = .ok (.iload 8, 2) := by decide +kernel
theorem dX6_rotation_92 : decode cX6_rotation 92 = .ok (.iconst 1, 1) := by decide +kernel
theorem dX6_rotation_93 : decode cX6_rotation 93 = .ok (.iadd, 1) := by decide +kernel
theorem dX6_rotation_94 : decode cX6_rotation 94 = .ok (.imul, 1) := by decide +kernel
theorem dX6_rotation_95 : decode cX6_rotation 95 = .ok (.lload 4, 2) := by decide +kernel
theorem dX6_rotation_97 : decode cX6_rotation 97 = .ok (.lastore, 1) := by decide +kernel
theorem dX6_rotation_98 : decode cX6_rotation 98 = .ok (.return_, 1) := by decide +kernel
theorem wc_X6_cosine : Cond.code yX6_cosine cX6_cosine 2 (some .long) ∈ ltb := List.mem_filter.mpr ⟨List.mem_append_right _ (List.mem_of_getElem? (i := 628) (by decide +kernel)), by decide +kernel⟩
theorem mi_X6_cosine : Mi yX6_cosine RX6 1 cX6_cosine 2 (some .long) := ⟨by decide +kernel, wc_X6_cosine, wi_X6, by decide⟩
theorem ws_X6_cosine : Cond.static yX6_cosine ∈ ltb := List.mem_filter.mpr ⟨List.mem_append_right _ (List.mem_of_getElem? (i := 627) (by decide +kernel)), by decide +kernel⟩
theorem wm_X6_108 : Cond.methodLink RX6 108 yX6_cosine ∈ ltb := List.mem_filter.mpr ⟨List.mem_append_right _ (List.mem_of_getElem? (i := 626) (by decide +kernel)), by decide +kernel⟩
theorem wc_X6_sine : Cond.code yX6_sine cX6_sine 2 (some .long) ∈ ltb := List.mem_filter.mpr ⟨List.mem_append_right _ (List.mem_of_getElem? (i := 636) (by decide +kernel)), by decide +kernel⟩
theorem mi_X6_sine : Mi yX6_sine RX6 1 cX6_sine 2 (some .long) := ⟨by decide +kernel, wc_X6_sine, wi_X6, by decide⟩
theorem ws_X6_sine : Cond.static yX6_sine ∈ ltb := List.mem_filter.mpr ⟨List.mem_append_right _ (List.mem_of_getElem? (i := 635) (by decide +kernel)), by decide +kernel⟩
theorem wm_X6_111 : Cond.methodLink RX6 111 yX6_sine ∈ ltb := List.mem_filter.mpr ⟨List.mem_append_right _ (List.mem_of_getElem? (i := 634) (by decide +kernel)), by decide +kernel⟩
noncomputable def pr_X6_rotation : Prg := [(0, z_lload 2 1), (1, z_call 1 sp_X6_cosine), (4, z_lstore 4 2), (6, z_lload 2 1), (7, z_call 1 sp_X6_sine), (10, z_lstore 6 2), (12, z_ic (nI 0) 1), (13, z_istore 8 2), (15, z_iload 8 2), (17, z_ic (nI 9) 2), (19, z_if2 (fun x y => y ≤ x) 33), (22, z_aload 0 1), (23, z_iload 8 2), (25, z_lc (.inr 0) 1), (26, z_lastore), (27, z_iinc 8 (nI 1)), (30, z_goto 15), (33, z_aload 0 1), (34, z_ic (nI 4) 1), (35, z_iload 1 1), (36, z_imul), (37, z_lc (.inr 1) 1), (38, z_lastore), (39, z_iload 1 1), (40, z_nf1 47), (43, z_ic (nI 1) 1), (44, z_goto 48), (47, z_ic (nI 0) 1), (48, z_istore 8 2), (50, z_aload 0 1), (51, z_ic (nI 4) 1), (52, z_iload 8 2), (54, z_imul), (55, z_lload 4 2), (57, z_lastore), (58, z_aload 0 1), (59, z_ic (nI 3) 1), (60, z_iload 8 2), (62, z_imul), (63, z_iload 8 2), (65, z_iadd), (66, z_ic (nI 1) 1), (67, z_iadd), (68, z_lload 6 2), (70, z_lneg), (71, z_call 1 sp_X6_of), (74, z_lastore), (75, z_aload 0 1), (76, z_ic (nI 3) 1), (77, z_iload 8 2), (79, z_ic (nI 1) 1), (80, z_iadd), (81, z_imul), (82, z_iload 8 2), (84, z_iadd), (85, z_lload 6 2), (87, z_lastore), (88, z_aload 0 1), (89, z_ic (nI 4) 1), (90, z_iload 8 2), (92, z_ic (nI 1) 1), (93, z_iadd), (94, z_imul), (95, z_lload 4 2), (97, z_lastore), (98, z_vret)]
set_option maxRecDepth 100000 in
set_option maxHeartbeats 4000000 in
theorem sn_X6_rotation {G : Geo} (hG : GeoOK G) (l : Launch) : ∀ q ∈ pr_X6_rotation, Sn G l yX6_rotation.cls cX6_rotation 9 2 none q.1 q.2 :=
  fcs (zs_lload_n dX6_rotation_0 rfl) <| fcs (zs_calls (ct_X6_cosine hG l) mi_X6_cosine ws_X6_cosine (by decide) wm_X6_108 dX6_rotation_1) <| fcs (zs_lstore dX6_rotation_4 (by decide)) <| fcs (zs_lload_n dX6_rotation_6 rfl) <| fcs (zs_calls (ct_X6_sine hG l) mi_X6_sine ws_X6_sine (by decide) wm_X6_111 dX6_rotation_7) <| fcs (zs_lstore dX6_rotation_10 (by decide)) <| fcs (zs_iconst dX6_rotation_12 rfl) <| fcs (zs_istore dX6_rotation_13 (by decide)) <| fcs (zs_iload dX6_rotation_15) <| fcs (zs_bipush dX6_rotation_17 rfl) <| fcs (zs_icmp_ge dX6_rotation_19 rfl) <| fcs (zs_aload_n dX6_rotation_22 rfl) <| fcs (zs_iload dX6_rotation_23) <| fcs (zs_lconst dX6_rotation_25 rfl) <| fcs (zs_lastore dX6_rotation_26) <| fcs (zs_iinc dX6_rotation_27 rfl (by decide)) <| fcs (zs_goto dX6_rotation_30 rfl) <| fcs (zs_aload_n dX6_rotation_33 rfl) <| fcs (zs_iconst dX6_rotation_34 rfl) <| fcs (zs_iload_n dX6_rotation_35 rfl) <| fcs (zs_imul dX6_rotation_36) <| fcs (zs_lconst dX6_rotation_37 rfl) <| fcs (zs_lastore dX6_rotation_38) <| fcs (zs_iload_n dX6_rotation_39 rfl) <| fcs (zs_if_ne dX6_rotation_40 rfl) <| fcs (zs_iconst dX6_rotation_43 rfl) <| fcs (zs_goto dX6_rotation_44 rfl) <| fcs (zs_iconst dX6_rotation_47 rfl) <| fcs (zs_istore dX6_rotation_48 (by decide)) <| fcs (zs_aload_n dX6_rotation_50 rfl) <| fcs (zs_iconst dX6_rotation_51 rfl) <| fcs (zs_iload dX6_rotation_52) <| fcs (zs_imul dX6_rotation_54) <| fcs (zs_lload dX6_rotation_55) <| fcs (zs_lastore dX6_rotation_57) <| fcs (zs_aload_n dX6_rotation_58 rfl) <| fcs (zs_iconst dX6_rotation_59 rfl) <| fcs (zs_iload dX6_rotation_60) <| fcs (zs_imul dX6_rotation_62) <| fcs (zs_iload dX6_rotation_63) <| fcs (zs_iadd dX6_rotation_65) <| fcs (zs_iconst dX6_rotation_66 rfl) <| fcs (zs_iadd dX6_rotation_67) <| fcs (zs_lload dX6_rotation_68) <| fcs (zs_lneg dX6_rotation_70) <| fcs (zs_calls (ct_X6_of hG l) mi_X6_of ws_X6_of (by decide) wm_X6_97 dX6_rotation_71) <| fcs (zs_lastore dX6_rotation_74) <| fcs (zs_aload_n dX6_rotation_75 rfl) <| fcs (zs_iconst dX6_rotation_76 rfl) <| fcs (zs_iload dX6_rotation_77) <| fcs (zs_iconst dX6_rotation_79 rfl) <| fcs (zs_iadd dX6_rotation_80) <| fcs (zs_imul dX6_rotation_81) <| fcs (zs_iload dX6_rotation_82) <| fcs (zs_iadd dX6_rotation_84) <| fcs (zs_lload dX6_rotation_85) <| fcs (zs_lastore dX6_rotation_87) <| fcs (zs_aload_n dX6_rotation_88 rfl) <| fcs (zs_iconst dX6_rotation_89 rfl) <| fcs (zs_iload dX6_rotation_90) <| fcs (zs_iconst dX6_rotation_92 rfl) <| fcs (zs_iadd dX6_rotation_93) <| fcs (zs_imul dX6_rotation_94) <| fcs (zs_lload dX6_rotation_95) <| fcs (zs_lastore dX6_rotation_97) <| fcs (zs_vret dX6_rotation_98) <| fnl
theorem lt9 {P : Nat → Prop} (h0 : P 0) (h1 : P 1) (h2 : P 2) (h3 : P 3) (h4 : P 4) (h5 : P 5) (h6 : P 6) (h7 : P 7) (h8 : P 8) : ∀ m, m < 9 → P m := by
  intro m hm
  rcases (show m = 0 ∨ m = 1 ∨ m = 2 ∨ m = 3 ∨ m = 4 ∨ m = 5 ∨ m = 6 ∨ m = 7 ∨ m = 8 by omega) with rfl | rfl | rfl | rfl | rfl | rfl | rfl | rfl | rfl <;> assumption
set_option maxRecDepth 100000 in
set_option maxHeartbeats 4000000 in
theorem ct_X6_rotation {G : Geo} (hG : GeoOK G) (l : Launch) : Ct G l yX6_rotation cX6_rotation 9 none 2 sp_X6_rotation := by
  refine Ct.of pr_X6_rotation hG (by decide +kernel) (sn_X6_rotation hG l) ?_
  intro av σ post hok h
  unfold sp_X6_rotation at h
  split at h
  · rename_i q a t
    obtain ⟨hb, h9, ⟨hp0, hp2⟩, ha⟩ := bif_t h
    have hq := isM_t hb
    refine ⟨Nat.le_of_ble_eq_true rfl, fun X hX => ?_⟩
    have e1 : zi (lv (.inl (-(lv (.inr (sinz t)))))).toInt = -sinz t := of_n rfl
    have tail : X 33 [(8, .inl (nI 9)), (6, af (sinz t)), (4, af (cosz t)), (0, .inr (.inr q)), (1, .inl a), (2, af t)] [] (fl σ q 0 9 (fun _ => 0)) := by
      rcases ha with rfl | rfl
      · refine go hX [] 80 ?_
        refine ⟨hq, 0, 1, by rw [pk_mul], by omega, rfl, ?_⟩
        refine ⟨fun g => absurd rfl g, fun g => ?_⟩
        refine ⟨hq, 4, cosz t, by rw [pk_mul], by omega, rfl, ?_⟩
        refine ⟨hq, 5, _, by rw [pk_mul, nI_add, nI_add], by omega, rfl, ?_⟩
        refine ⟨hq, 7, sinz t, by rw [nI_add, pk_mul, nI_add], by omega, rfl, ?_⟩
        refine ⟨hq, 8, cosz t, by rw [nI_add, pk_mul], by omega, rfl, ?_⟩
        show post none _
        refine cpost ?_ (hp0 rfl)
        rw [e1, fl_set _ _ _ _ _ _ (show 0 < 9 by decide) rfl, fl_set _ _ _ _ _ _ (show 4 < 9 by decide) rfl, fl_set _ _ _ _ _ _ (show 5 < 9 by decide) rfl, fl_set _ _ _ _ _ _ (show 7 < 9 by decide) rfl, fl_set _ _ _ _ _ _ (show 8 < 9 by decide) rfl]
        exact fl_cg _ _ _ _ (lt9 rfl rfl rfl rfl rfl rfl rfl rfl rfl)
      · refine go hX [] 80 ?_
        refine ⟨hq, 8, 1, by rw [pk_mul], by omega, rfl, ?_⟩
        refine ⟨fun g => ?_, fun g => absurd g (by decide)⟩
        refine ⟨hq, 0, cosz t, by rw [pk_mul], by omega, rfl, ?_⟩
        refine ⟨hq, 1, _, by rw [pk_mul, nI_add, nI_add], by omega, rfl, ?_⟩
        refine ⟨hq, 3, sinz t, by rw [nI_add, pk_mul, nI_add], by omega, rfl, ?_⟩
        refine ⟨hq, 4, cosz t, by rw [nI_add, pk_mul], by omega, rfl, ?_⟩
        show post none _
        refine cpost ?_ (hp2 rfl)
        rw [e1, fl_set _ _ _ _ _ _ (show 8 < 9 by decide) rfl, fl_set _ _ _ _ _ _ (show 0 < 9 by decide) rfl, fl_set _ _ _ _ _ _ (show 1 < 9 by decide) rfl, fl_set _ _ _ _ _ _ (show 3 < 9 by decide) rfl, fl_set _ _ _ _ _ _ (show 4 < 9 by decide) rfl]
        exact fl_cg _ _ _ _ (lt9 rfl rfl rfl rfl rfl rfl rfl rfl rfl)
    have loop : ∀ (m c : Nat) (cc : Int32), c + m = 9 → cc = nI c → X 15 [(8, .inl cc), (6, af (sinz t)), (4, af (cosz t)), (0, .inr (.inr q)), (1, .inl a), (2, af t)] [] (fl σ q 0 c (fun _ => 0)) := by
      intro m
      induction m with
      | zero =>
        intro c cc hc e
        subst e
        refine go hX [15, 33] 60 ?_
        refine ⟨fun g => ?_, fun g => absurd ((nI_leI (by decide) (by omega)).mpr (by omega)) g⟩
        have e : c = 9 := by omega
        subst e
        exact tail
      | succ m ih =>
        intro c cc hc e
        subst e
        refine go hX [15, 33] 60 ?_
        refine ⟨fun g => absurd ((nI_leI (by decide) (by omega)).mp g) (by omega), fun g => ?_⟩
        refine ⟨hq, c, 0, rfl, by omega, rfl, ?_⟩
        have ih2 := ih (c + 1) _ (by omega) (nI_add c 1)
        exact (fl_s σ q 0 c (fun _ => 0) (i := c) (by omega) rfl).symm ▸ ih2
    refine go hX [15, 33] 60 ?_
    have l0 := loop 9 0 _ rfl rfl
    rw [fl_0] at l0
    exact l0
  · exact h.elim
