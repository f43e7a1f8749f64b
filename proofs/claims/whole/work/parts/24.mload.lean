/-! The reference: swing, heavy, loads -/
def m_swg (σ : SS) (t : Nat × Nat) (at' p : Nat) (q : Nat × Nat) : SS :=
  let σ := p3 σ (38, 0) 0 (v_crs (g3 σ (31, 0) (3 * p)) (g3 σ q 0))
  let σ := p3 σ t at' (v_adt (g3 σ t at') (g3 σ (38, 0) 0) 1)
  let σ := p3 σ (38, 0) 0 (v_crs (g3 σ (30, 0) (3 * p)) (g3 σ q 0))
  let σ := p3 σ (38, 0) 0 (v_crs (g3 σ (30, 0) (3 * p)) (g3 σ (38, 0) 0))
  p3 σ t at' (v_adt (g3 σ t at') (g3 σ (38, 0) 0) 1)
def is6 (b : Nat × Nat) : Bool := Nat.beq b.1 6 && Nat.beq b.2 0
theorem is6_t {b : Nat × Nat} (h : is6 b = true) : b = (6, 0) := by
  obtain ⟨b, k⟩ := b
  obtain ⟨h1, h2⟩ : b = 6 ∧ k = 0 := beq2 h
  rw [h1, h2]
noncomputable def sp_X6_swing : Spc := fun av σ post => match av with
  | [.inr (.inr b), .inr (.inr t), .inl a, .inl p, .inr (.inr q)] => bif is6 b && ((Nat.beq t.1 32 || Nat.beq t.1 34) && Nat.beq q.1 36) then (∃ a' p', (a = nI a' ∧ p = nI p') ∧ (a' + 2 < 24 ∧ p' < 8) ∧ post none (m_swg σ t a' p' q)) else False
  | _ => False
theorem dX6_swing_0 : decode cX6_swing 0 = .ok (.aload_n 0, 1) := by decide +kernel
theorem dX6_swing_1 : decode cX6_swing 1 = .ok (.getfield 72, 3) := by decide +kernel
theorem dX6_swing_4 : decode cX6_swing 4 = .ok (.iconst 0, 1) := by decide +kernel
theorem dX6_swing_5 : decode cX6_swing 5 = .ok (.aload_n 0, 1) := by decide +kernel
theorem dX6_swing_6 : decode cX6_swing 6 = .ok (.getfield 51, 3) := by decide +kernel
theorem dX6_swing_9 : decode cX6_swing 9 = .ok (.iconst 3, 1) := by decide +kernel
theorem dX6_swing_10 : decode cX6_swing 10 = .ok (.iload_n 3, 1) := by decide +kernel
theorem dX6_swing_11 : decode cX6_swing 11 = .ok (.imul, 1) := by decide +kernel
theorem dX6_swing_12 : decode cX6_swing 12 = .ok (.aload 4, 2) := by decide +kernel
theorem dX6_swing_14 : decode cX6_swing 14 = .ok (.iconst 0, 1) := by decide +kernel
theorem dX6_swing_15 : decode cX6_swing 15 = .ok (.invokestatic 136, 3) := by decide +kernel
theorem dX6_swing_18 : decode cX6_swing 18 = .ok (.aload_n 1, 1) := by decide +kernel
theorem dX6_swing_19 : decode cX6_swing 19 = .ok (.iload_n 2, 1) := by decide +kernel
theorem dX6_swing_20 : decode cX6_swing 20 = .ok (.aload_n 0, 1) := by decide +kernel
theorem dX6_swing_21 : decode cX6_swing 21 = .ok (.getfield 72, 3) := by decide +kernel
theorem dX6_swing_24 : decode cX6_swing 24 = .ok (.iconst 0, 1) := by decide +kernel
theorem dX6_swing_25 : decode cX6_swing 25 = .ok (.lconst 1, 1) := by decide +kernel
theorem dX6_swing_26 : decode cX6_swing 26 = .ok (.invokestatic 132, 3) := by decide +kernel
theorem dX6_swing_29 : decode cX6_swing 29 = .ok (.aload_n 0, 1) := by decide +kernel
theorem dX6_swing_30 : decode cX6_swing 30 = .ok (.getfield 72, 3) := by decide +kernel
theorem dX6_swing_33 : decode cX6_swing 33 = .ok (.iconst 0, 1) := by decide +kernel
theorem dX6_swing_34 : decode cX6_swing 34 = .ok (.aload_n 0, 1) := by decide +kernel
theorem dX6_swing_35 : decode cX6_swing 35 = .ok (.getfield 48, 3) := by decide +kernel
theorem dX6_swing_38 : decode cX6_swing 38 = .ok (.iconst 3, 1) := by decide +kernel
theorem dX6_swing_39 : decode cX6_swing 39 = .ok (.iload_n 3, 1) := by decide +kernel
theorem dX6_swing_40 : decode cX6_swing 40 = .ok (.imul, 1) := by decide +kernel
theorem dX6_swing_41 : decode cX6_swing 41 = .ok (.aload 4, 2) := by decide +kernel
theorem dX6_swing_43 : decode cX6_swing 43 = .ok (.iconst 0, 1) := by decide +kernel
theorem dX6_swing_44 : decode cX6_swing 44 = .ok (.invokestatic 136, 3) := by decide +kernel
theorem dX6_swing_47 : decode cX6_swing 47 = .ok (.aload_n 0, 1) := by decide +kernel
theorem dX6_swing_48 : decode cX6_swing 48 = .ok (.getfield 72, 3) := by decide +kernel
theorem dX6_swing_51 : decode cX6_swing 51 = .ok (.iconst 0, 1) := by decide +kernel
theorem dX6_swing_52 : decode cX6_swing 52 = .ok (.aload_n 0, 1) := by decide +kernel
theorem dX6_swing_53 : decode cX6_swing 53 = .ok (.getfield 48, 3) := by decide +kernel
theorem dX6_swing_56 : decode cX6_swing 56 = .ok (.iconst 3, 1) := by decide +kernel
theorem dX6_swing_57 : decode cX6_swing 57 = .ok (.iload_n 3, 1) := by decide +kernel
theorem dX6_swing_58 : decode cX6_swing 58 = .ok (.imul, 1) := by decide +kernel
theorem dX6_swing_59 : decode cX6_swing 59 = .ok (.aload_n 0, 1) := by decide +kernel
theorem dX6_swing_60 : decode cX6_swing 60 = .ok (.getfield 72, 3) := by decide +kernel
theorem dX6_swing_63 : decode cX6_swing 63 = .ok (.iconst 0, 1) := by decide +kernel
theorem dX6_swing_64 : decode cX6_swing 64 = .ok (.invokestatic 136, 3) := by decide +kernel
theorem dX6_swing_67 : decode cX6_swing 67 = .ok (.aload_n 1, 1) := by decide +kernel
theorem dX6_swing_68 : decode cX6_swing 68 = .ok (.iload_n 2, 1) := by decide +kernel
theorem dX6_swing_69 : decode cX6_swing 69 = .ok (.aload_n 0, 1) := by decide +kernel
theorem dX6_swing_70 : decode cX6_swing 70 = .ok (.getfield 72, 3) := by decide +kernel
theorem dX6_swing_73 : decode cX6_swing 73 = .ok (.iconst 0, 1) := by decide +kernel
theorem dX6_swing_74 : decode cX6_swing 74 = .ok (.lconst 1, 1) := by decide +kernel
theorem dX6_swing_75 : decode cX6_swing 75 = .ok (.invokestatic 132, 3) := by decide +kernel
theorem dX6_swing_78 : decode cX6_swing 78 = .ok (.return_, 1) := by decide +kernel
theorem wf_X6_72 : Cond.fieldLink RX6 72 (TX6 22).1 (TX6 22).2.1 (TX6 22).2.2.1 ∈ ltb := List.mem_filter.mpr ⟨List.mem_append_right _ (List.mem_of_getElem? (i := 489) (by decide +kernel)), by decide +kernel⟩
theorem wf_X6_51 : Cond.fieldLink RX6 51 (TX6 15).1 (TX6 15).2.1 (TX6 15).2.2.1 ∈ ltb := List.mem_filter.mpr ⟨List.mem_append_right _ (List.mem_of_getElem? (i := 482) (by decide +kernel)), by decide +kernel⟩
theorem wc_X6_cross : Cond.code yX6_cross cX6_cross 12 none ∈ ltb := List.mem_filter.mpr ⟨List.mem_append_right _ (List.mem_of_getElem? (i := 651) (by decide +kernel)), by decide +kernel⟩
theorem mi_X6_cross : Mi yX6_cross RX6 6 cX6_cross 12 none := ⟨by decide +kernel, wc_X6_cross, wi_X6, by decide⟩
theorem ws_X6_cross : Cond.static yX6_cross ∈ ltb := List.mem_filter.mpr ⟨List.mem_append_right _ (List.mem_of_getElem? (i := 650) (by decide +kernel)), by decide +kernel⟩
theorem wm_X6_136 : Cond.methodLink RX6 136 yX6_cross ∈ ltb := List.mem_filter.mpr ⟨List.mem_append_right _ (List.mem_of_getElem? (i := 649) (by decide +kernel)), by decide +kernel⟩
theorem wc_X6_add : Cond.code yX6_add cX6_add 7 none ∈ ltb := List.mem_filter.mpr ⟨List.mem_append_right _ (List.mem_of_getElem? (i := 648) (by decide +kernel)), by decide +kernel⟩
theorem mi_X6_add : Mi yX6_add RX6 5 cX6_add 7 none := ⟨by decide +kernel, wc_X6_add, wi_X6, by decide⟩
theorem ws_X6_add : Cond.static yX6_add ∈ ltb := List.mem_filter.mpr ⟨List.mem_append_right _ (List.mem_of_getElem? (i := 647) (by decide +kernel)), by decide +kernel⟩
theorem wm_X6_132 : Cond.methodLink RX6 132 yX6_add ∈ ltb := List.mem_filter.mpr ⟨List.mem_append_right _ (List.mem_of_getElem? (i := 646) (by decide +kernel)), by decide +kernel⟩
theorem wf_X6_48 : Cond.fieldLink RX6 48 (TX6 14).1 (TX6 14).2.1 (TX6 14).2.2.1 ∈ ltb := List.mem_filter.mpr ⟨List.mem_append_right _ (List.mem_of_getElem? (i := 481) (by decide +kernel)), by decide +kernel⟩
noncomputable def pr_X6_swing : Prg := [(0, z_aload 0 1), (1, z_get 5 22), (4, z_ic (nI 0) 1), (5, z_aload 0 1), (6, z_get 5 15), (9, z_ic (nI 3) 1), (10, z_iload 3 1), (11, z_imul), (12, z_aload 4 2), (14, z_ic (nI 0) 1), (15, z_call 6 sp_X6_cross), (18, z_aload 1 1), (19, z_iload 2 1), (20, z_aload 0 1), (21, z_get 5 22), (24, z_ic (nI 0) 1), (25, z_lc (.inr 1) 1), (26, z_call 5 sp_X6_add), (29, z_aload 0 1), (30, z_get 5 22), (33, z_ic (nI 0) 1), (34, z_aload 0 1), (35, z_get 5 14), (38, z_ic (nI 3) 1), (39, z_iload 3 1), (40, z_imul), (41, z_aload 4 2), (43, z_ic (nI 0) 1), (44, z_call 6 sp_X6_cross), (47, z_aload 0 1), (48, z_get 5 22), (51, z_ic (nI 0) 1), (52, z_aload 0 1), (53, z_get 5 14), (56, z_ic (nI 3) 1), (57, z_iload 3 1), (58, z_imul), (59, z_aload 0 1), (60, z_get 5 22), (63, z_ic (nI 0) 1), (64, z_call 6 sp_X6_cross), (67, z_aload 1 1), (68, z_iload 2 1), (69, z_aload 0 1), (70, z_get 5 22), (73, z_ic (nI 0) 1), (74, z_lc (.inr 1) 1), (75, z_call 5 sp_X6_add), (78, z_vret)]
set_option maxRecDepth 100000 in
set_option maxHeartbeats 4000000 in
theorem sn_X6_swing {G : Geo} (hG : GeoOK G) (l : Launch) : ∀ q ∈ pr_X6_swing, Sn G l yX6_swing.cls cX6_swing 5 2 none q.1 q.2 :=
  fcs (zs_aload_n dX6_swing_0 rfl) <| fcs (zs_get cls5 (by decide) (by decide) wf_X6_72 dX6_swing_1) <| fcs (zs_iconst dX6_swing_4 rfl) <| fcs (zs_aload_n dX6_swing_5 rfl) <| fcs (zs_get cls5 (by decide) (by decide) wf_X6_51 dX6_swing_6) <| fcs (zs_iconst dX6_swing_9 rfl) <| fcs (zs_iload_n dX6_swing_10 rfl) <| fcs (zs_imul dX6_swing_11) <| fcs (zs_aload dX6_swing_12) <| fcs (zs_iconst dX6_swing_14 rfl) <| fcs (zs_calls (ct_X6_cross hG l) mi_X6_cross ws_X6_cross (by decide) wm_X6_136 dX6_swing_15) <| fcs (zs_aload_n dX6_swing_18 rfl) <| fcs (zs_iload_n dX6_swing_19 rfl) <| fcs (zs_aload_n dX6_swing_20 rfl) <| fcs (zs_get cls5 (by decide) (by decide) wf_X6_72 dX6_swing_21) <| fcs (zs_iconst dX6_swing_24 rfl) <| fcs (zs_lconst dX6_swing_25 rfl) <| fcs (zs_calls (ct_X6_add hG l) mi_X6_add ws_X6_add (by decide) wm_X6_132 dX6_swing_26) <| fcs (zs_aload_n dX6_swing_29 rfl) <| fcs (zs_get cls5 (by decide) (by decide) wf_X6_72 dX6_swing_30) <| fcs (zs_iconst dX6_swing_33 rfl) <| fcs (zs_aload_n dX6_swing_34 rfl) <| fcs (zs_get cls5 (by decide) (by decide) wf_X6_48 dX6_swing_35) <| fcs (zs_iconst dX6_swing_38 rfl) <| fcs (zs_iload_n dX6_swing_39 rfl) <| fcs (zs_imul dX6_swing_40) <| fcs (zs_aload dX6_swing_41) <| fcs (zs_iconst dX6_swing_43 rfl) <| fcs (zs_calls (ct_X6_cross hG l) mi_X6_cross ws_X6_cross (by decide) wm_X6_136 dX6_swing_44) <| fcs (zs_aload_n dX6_swing_47 rfl) <| fcs (zs_get cls5 (by decide) (by decide) wf_X6_72 dX6_swing_48) <| fcs (zs_iconst dX6_swing_51 rfl) <| fcs (zs_aload_n dX6_swing_52 rfl) <| fcs (zs_get cls5 (by decide) (by decide) wf_X6_48 dX6_swing_53) <| fcs (zs_iconst dX6_swing_56 rfl) <| fcs (zs_iload_n dX6_swing_57 rfl) <| fcs (zs_imul dX6_swing_58) <| fcs (zs_aload_n dX6_swing_59 rfl) <| fcs (zs_get cls5 (by decide) (by decide) wf_X6_72 dX6_swing_60) <| fcs (zs_iconst dX6_swing_63 rfl) <| fcs (zs_calls (ct_X6_cross hG l) mi_X6_cross ws_X6_cross (by decide) wm_X6_136 dX6_swing_64) <| fcs (zs_aload_n dX6_swing_67 rfl) <| fcs (zs_iload_n dX6_swing_68 rfl) <| fcs (zs_aload_n dX6_swing_69 rfl) <| fcs (zs_get cls5 (by decide) (by decide) wf_X6_72 dX6_swing_70) <| fcs (zs_iconst dX6_swing_73 rfl) <| fcs (zs_lconst dX6_swing_74 rfl) <| fcs (zs_calls (ct_X6_add hG l) mi_X6_add ws_X6_add (by decide) wm_X6_132 dX6_swing_75) <| fcs (zs_vret dX6_swing_78) <| fnl
theorem swing_b {X : Kx} {post : Option AV → SS → Prop} (hX : Closed pr_X6_swing post X) {σ : SS} {t q : Nat × Nat} {a p : Nat} (ht : t.1 = 32 ∨ t.1 = 34) (hq : q.1 = 36) (ha : a + 2 < 24) (hp : p < 8) (h : post none (m_swg σ t a p q)) : X 0 [(0, ar 6 0), (1, .inr (.inr t)), (2, .inl (nI a)), (3, .inl (nI p)), (4, .inr (.inr q))] [] σ := by
  obtain ⟨t, t2⟩ := t
  obtain ⟨q, q2⟩ := q
  have hq : q = 36 := hq
  subst hq
  rcases ht with ht | ht
  all_goals
    have ht : t = _ := ht
    subst ht
    refine go hX [] 70 ?_
    refine ⟨0, 3 * p, 0, ⟨rfl, by rw [pk_mul], rfl⟩, ⟨nle rfl, by show 3 * p + 2 < 24; omega, nle rfl⟩, ?_⟩
    refine ⟨a, 0, ⟨rfl, rfl⟩, ⟨ha, nle rfl⟩, ?_⟩
    refine ⟨0, 3 * p, 0, ⟨rfl, by rw [pk_mul], rfl⟩, ⟨nle rfl, by show 3 * p + 2 < 24; omega, nle rfl⟩, ?_⟩
    refine ⟨0, 3 * p, 0, ⟨rfl, by rw [pk_mul], rfl⟩, ⟨nle rfl, by show 3 * p + 2 < 24; omega, nle rfl⟩, ?_⟩
    refine ⟨a, 0, ⟨rfl, rfl⟩, ⟨ha, nle rfl⟩, ?_⟩
    exact h
set_option maxRecDepth 100000 in
set_option maxHeartbeats 4000000 in
theorem ct_X6_swing {G : Geo} (hG : GeoOK G) (l : Launch) : Ct G l yX6_swing cX6_swing 5 none 2 sp_X6_swing := by
  refine Ct.of pr_X6_swing hG (by decide +kernel) (sn_X6_swing hG l) ?_
  intro av σ post hok h
  unfold sp_X6_swing at h
  split at h
  · rename_i b t a p q
    obtain ⟨hb, a, p, ⟨rfl, rfl⟩, ⟨ha, hp⟩, h9⟩ := bif_t h
    clear h
    rw [Bool.and_eq_true, Bool.and_eq_true, Bool.or_eq_true] at hb
    obtain ⟨hb, ht, hq⟩ := hb
    obtain rfl := is6_t hb
    refine ⟨Nat.le_of_ble_eq_true rfl, fun X hX => ?_⟩
    exact swing_b hX (ht.elim (fun h => Or.inl (beq1 h)) (fun h => Or.inr (beq1 h))) (beq1 hq) ha hp h9
  · exact h.elim
def iA (r c : Nat) : Nat := if r = c then 8 + r else 10 + r + c
noncomputable def sp_X6_inertiaAt : Spc := fun av σ post => match av with
  | [.inl x, .inl y] => ∃ r c, (x = nI r ∧ y = nI c) ∧ (r < 3 ∧ c < 3) ∧ post (some (ai (nI (iA r c)))) σ
  | _ => False
theorem dX6_inertiaAt_0 : decode cX6_inertiaAt 0 = .ok (.iload_n 0, 1) := by decide +kernel
theorem dX6_inertiaAt_1 : decode cX6_inertiaAt 1 = .ok (.iload_n 1, 1) := by decide +kernel
theorem dX6_inertiaAt_2 : decode cX6_inertiaAt 2 = .ok (.if_icmp .ne 10, 3) := by decide +kernel
theorem dX6_inertiaAt_5 : decode cX6_inertiaAt 5 = .ok (.bipush 8, 2) := by decide +kernel
theorem dX6_inertiaAt_7 : decode cX6_inertiaAt 7 = .ok (.iload_n 0, 1) := by decide +kernel
theorem dX6_inertiaAt_8 : decode cX6_inertiaAt 8 = .ok (.iadd, 1) := by decide +kernel
theorem dX6_inertiaAt_9 : decode cX6_inertiaAt 9 = .ok (.goto 9, 3) := by decide +kernel
theorem dX6_inertiaAt_12 : decode cX6_inertiaAt 12 = .ok (.bipush 10, 2) := by decide +kernel
theorem dX6_inertiaAt_14 : decode cX6_inertiaAt 14 = .ok (.iload_n 0, 1) := by decide +kernel
theorem dX6_inertiaAt_15 : decode cX6_inertiaAt 15 = .ok (.iadd, 1) := by decide +kernel
theorem dX6_inertiaAt_16 : decode cX6_inertiaAt 16 = .ok (.iload_n 1, 1) := by decide +kernel
theorem dX6_inertiaAt_17 : decode cX6_inertiaAt 17 = .ok (.iadd, 1) := by decide +kernel
theorem dX6_inertiaAt_18 : decode cX6_inertiaAt 18 = .ok (.ireturn, 1) := by decide +kernel
noncomputable def pr_X6_inertiaAt : Prg := [(0, z_iload 0 1), (1, z_iload 1 1), (2, z_nf2 12), (5, z_ic (nI 8) 2), (7, z_iload 0 1), (8, z_iadd), (9, z_goto 18), (12, z_ic (nI 10) 2), (14, z_iload 0 1), (15, z_iadd), (16, z_iload 1 1), (17, z_iadd), (18, z_iret)]
set_option maxRecDepth 100000 in
set_option maxHeartbeats 4000000 in
theorem sn_X6_inertiaAt {G : Geo} (hG : GeoOK G) (l : Launch) : ∀ q ∈ pr_X6_inertiaAt, Sn G l yX6_inertiaAt.cls cX6_inertiaAt 2 0 (some .int) q.1 q.2 :=
  fcs (zs_iload_n dX6_inertiaAt_0 rfl) <| fcs (zs_iload_n dX6_inertiaAt_1 rfl) <| fcs (zs_icmp_ne dX6_inertiaAt_2 rfl) <| fcs (zs_bipush dX6_inertiaAt_5 rfl) <| fcs (zs_iload_n dX6_inertiaAt_7 rfl) <| fcs (zs_iadd dX6_inertiaAt_8) <| fcs (zs_goto dX6_inertiaAt_9 rfl) <| fcs (zs_bipush dX6_inertiaAt_12 rfl) <| fcs (zs_iload_n dX6_inertiaAt_14 rfl) <| fcs (zs_iadd dX6_inertiaAt_15) <| fcs (zs_iload_n dX6_inertiaAt_16 rfl) <| fcs (zs_iadd dX6_inertiaAt_17) <| fcs (zs_iret dX6_inertiaAt_18) <| fnl
set_option maxRecDepth 100000 in
set_option maxHeartbeats 4000000 in
theorem ct_X6_inertiaAt {G : Geo} (hG : GeoOK G) (l : Launch) : Ct G l yX6_inertiaAt cX6_inertiaAt 2 (some .int) 0 sp_X6_inertiaAt := by
  refine Ct.of pr_X6_inertiaAt hG (by decide +kernel) (sn_X6_inertiaAt hG l) ?_
  intro av σ post hok h
  unfold sp_X6_inertiaAt at h
  split at h
  · obtain ⟨r, c, ⟨rfl, rfl⟩, ⟨hr, hc⟩, h⟩ := h
    refine ⟨Nat.le_of_ble_eq_true rfl, fun X hX => ?_⟩
    refine go hX [] 60 ?_
    unfold iA at h
    refine ⟨fun g => ?_, fun g => ?_⟩
    · have g : ¬ nI r = nI c := g
      rw [nI_eq (by omega) (by omega)] at g
      rw [if_neg g, ← nI_add, ← nI_add] at h
      exact h
    · have g : nI r = nI c := g
      rw [nI_eq (by omega) (by omega)] at g
      rw [if_pos g, ← nI_add] at h
      exact h
  · exact h.elim
/-- the columns of turn k times l -/
def hy1 (σ : SS) (k : Nat) (l : Nat × Nat) (i c : Nat) : ZF :=
  σ.2.1 27 0 (9 * k + c) * σ.2.1 l.1 l.2 i + σ.2.1 27 0 (9 * k + 3 + c) * σ.2.1 l.1 l.2 (i + 1) + σ.2.1 27 0 (9 * k + 6 + c) * σ.2.1 l.1 l.2 (i + 2)
/-- a row of the inertia times y, up to c -/
def hps (σ : SS) (k r : Nat) : Nat → ZF
  | 0 => 0
  | c + 1 => hps σ k r c + σ.2.1 20 0 (16 * k + iA r c) * σ.2.1 37 0 c
def m_h1 (σ : SS) (k : Nat) (l : Nat × Nat) (i : Nat) : SS := fl σ (37, 0) 0 3 (hy1 σ k l i)
def m_h2 (σ : SS) (k : Nat) : SS := fl σ (38, 0) 0 3 (fun r => hps σ k r 3)
def m_h3 (σ : SS) (k : Nat) : SS := p3 σ (36, 0) 0 (v_mv (g3 σ (27, 0) (9 * k)) (g3 σ (27, 0) (9 * k + 3)) (g3 σ (27, 0) (9 * k + 6)) (g3 σ (38, 0) 0))
def m_hvy (σ : SS) (k : Nat) (l : Nat × Nat) (i : Nat) : SS := m_h3 (m_h2 (m_h1 σ k l i) k) k
noncomputable def sp_X6_heavy : Spc := fun av σ post => match av with
  | [.inr (.inr b), .inr (.inr t), .inl k, .inr (.inr l), .inl i] => bif is6 b && ((Nat.beq t.1 36 && Nat.beq t.2 0) && (Nat.beq l.1 30 || Nat.beq l.1 31)) then (∃ k' i', (k = nI k' ∧ i = nI i') ∧ (k' < 8 ∧ i' + 2 < 24) ∧ post none (m_hvy σ k' l i')) else False
  | _ => False
theorem dX6_heavy_0 : decode cX6_heavy 0 = .ok (.iconst 0, 1) := by decide +kernel
theorem dX6_heavy_1 : decode cX6_heavy 1 = .ok (.istore 5, 2) := by decide +kernel
theorem dX6_heavy_3 : decode cX6_heavy 3 = .ok (.iload 5, 2) := by decide +kernel
theorem dX6_heavy_5 : decode cX6_heavy 5 = .ok (.iconst 3, 1) := by decide +kernel
theorem dX6_heavy_6 : decode cX6_heavy 6 = .ok (.if_icmp .ge 94, 3) := by decide +kernel
theorem dX6_heavy_9 : decode cX6_heavy 9 = .ok (.aload_n 0, 1) := by decide +kernel
theorem dX6_heavy_10 : decode cX6_heavy 10 = .ok (.getfield 69, 3) := by decide +kernel
theorem dX6_heavy_13 : decode cX6_heavy 13 = .ok (.iload 5, 2) := by decide +kernel
theorem dX6_heavy_15 : decode cX6_heavy 15 = .ok (.aload_n 0, 1) := by decide +kernel
theorem dX6_heavy_16 : decode cX6_heavy 16 = .ok (.getfield 39, 3) := by decide +kernel
theorem dX6_heavy_19 : decode cX6_heavy 19 = .ok (.bipush 9, 2) := by decide +kernel
theorem dX6_heavy_21 : decode cX6_heavy 21 = .ok (.iload_n 2, 1) := by decide +kernel
theorem dX6_heavy_22 : decode cX6_heavy 22 = .ok (.imul, 1) := by decide +kernel
theorem dX6_heavy_23 : decode cX6_heavy 23 = .ok (.iload 5, 2) := by decide +kernel
theorem dX6_heavy_25 : decode cX6_heavy 25 = .ok (.iadd, 1) := by decide +kernel
theorem dX6_heavy_26 : decode cX6_heavy 26 = .ok (.laload, 1) := by decide +kernel
theorem dX6_heavy_27 : decode cX6_heavy 27 = .ok (.aload_n 3, 1) := by decide +kernel
theorem dX6_heavy_28 : decode cX6_heavy 28 = .ok (.iload 4, 2) := by decide +kernel
theorem dX6_heavy_30 : decode cX6_heavy 30 = .ok (.laload, 1) := by decide +kernel
theorem dX6_heavy_31 : decode cX6_heavy 31 = .ok (.lmul, 1) := by decide +kernel
theorem dX6_heavy_32 : decode cX6_heavy 32 = .ok (.ldc2_w 91, 3) := by decide +kernel
theorem dX6_heavy_35 : decode cX6_heavy 35 = .ok (.lrem, 1) := by decide +kernel
theorem dX6_heavy_36 : decode cX6_heavy 36 = .ok (.aload_n 0, 1) := by decide +kernel
theorem dX6_heavy_37 : decode cX6_heavy 37 = .ok (.getfield 39, 3) := by decide +kernel
theorem dX6_heavy_40 : decode cX6_heavy 40 = .ok (.bipush 9, 2) := by decide +kernel
theorem dX6_heavy_42 : decode cX6_heavy 42 = .ok (.iload_n 2, 1) := by decide +kernel
theorem dX6_heavy_43 : decode cX6_heavy 43 = .ok (.imul, 1) := by decide +kernel
theorem dX6_heavy_44 : decode cX6_heavy 44 = .ok (.iconst 3, 1) := by decide +kernel
theorem dX6_heavy_45 : decode cX6_heavy 45 = .ok (.iadd, 1) := by decide +kernel
theorem dX6_heavy_46 : decode cX6_heavy 46 = .ok (.iload 5, 2) := by decide +kernel
theorem dX6_heavy_48 : decode cX6_heavy 48 = .ok (.iadd, 1) := by decide +kernel
theorem dX6_heavy_49 : decode cX6_heavy 49 = .ok (.laload, 1) := by decide +kernel
theorem dX6_heavy_50 : decode cX6_heavy 50 = .ok (.aload_n 3, 1) := by decide +kernel
theorem dX6_heavy_51 : decode cX6_heavy 51 = .ok (.iload 4, 2) := by decide +kernel
theorem dX6_heavy_53 : decode cX6_heavy 53 = .ok (.iconst 1, 1) := by decide +kernel
theorem dX6_heavy_54 : decode cX6_heavy 54 = .ok (.iadd, 1) := by decide +kernel
theorem dX6_heavy_55 : decode cX6_heavy 55 = .ok (.laload, 1) := by decide +kernel
theorem dX6_heavy_56 : decode cX6_heavy 56 = .ok (.lmul, 1) := by decide +kernel
theorem dX6_heavy_57 : decode cX6_heavy 57 = .ok (.ldc2_w 91, 3) := by decide +kernel
theorem dX6_heavy_60 : decode cX6_heavy 60 = .ok (.lrem, 1) := by decide +kernel
theorem dX6_heavy_61 : decode cX6_heavy 61 = .ok (.ladd, 1) := by decide +kernel
theorem dX6_heavy_62 : decode cX6_heavy 62 = .ok (.aload_n 0, 1) := by decide +kernel
theorem dX6_heavy_63 : decode cX6_heavy 63 = .ok (.getfield 39, 3) := by decide +kernel
theorem dX6_heavy_66 : decode cX6_heavy 66 = .ok (.bipush 9, 2) := by decide +kernel
theorem dX6_heavy_68 : decode cX6_heavy 68 = .ok (.iload_n 2, 1) := by decide +kernel
theorem dX6_heavy_69 : decode cX6_heavy 69 = .ok (.imul, 1) := by decide +kernel
theorem dX6_heavy_70 : decode cX6_heavy 70 = .ok (.bipush 6, 2) := by decide +kernel
theorem dX6_heavy_72 : decode cX6_heavy 72 = .ok (.iadd, 1) := by decide +kernel
theorem dX6_heavy_73 : decode cX6_heavy 73 = .ok (.iload 5, 2) := by decide +kernel
theorem dX6_heavy_75 : decode cX6_heavy 75 = .ok (.iadd, 1) := by decide +kernel
theorem dX6_heavy_76 : decode cX6_heavy 76 = .ok (.laload, 1) := by decide +kernel
theorem dX6_heavy_77 : decode cX6_heavy 77 = .ok (.aload_n 3, 1) := by decide +kernel
theorem dX6_heavy_78 : decode cX6_heavy 78 = .ok (.iload 4, 2) := by decide +kernel
theorem dX6_heavy_80 : decode cX6_heavy 80 = .ok (.iconst 2, 1) := by decide +kernel
theorem dX6_heavy_81 : decode cX6_heavy 81 = .ok (.iadd, 1) := by decide +kernel
theorem dX6_heavy_82 : decode cX6_heavy 82 = .ok (.laload, 1) := by decide +kernel
theorem dX6_heavy_83 : decode cX6_heavy 83 = .ok (.lmul, 1) := by decide +kernel
theorem dX6_heavy_84 : decode cX6_heavy 84 = .ok (.ldc2_w 91, 3) := by decide +kernel
theorem dX6_heavy_87 : decode cX6_heavy 87 = .ok (.lrem, 1) := by decide +kernel
theorem dX6_heavy_88 : decode cX6_heavy 88 = .ok (.ladd, 1) := by decide +kernel
theorem dX6_heavy_89 : decode cX6_heavy 89 = .ok (.ldc2_w 91, 3) := by decide +kernel
theorem dX6_heavy_92 : decode cX6_heavy 92 = .ok (.lrem, 1) := by decide +kernel
theorem dX6_heavy_93 : decode cX6_heavy 93 = .ok (.lastore, 1) := by decide +kernel
theorem dX6_heavy_94 : decode cX6_heavy 94 = .ok (.iinc 5 1, 3) := by decide +kernel
theorem dX6_heavy_97 : decode cX6_heavy 97 = .ok (.goto (-94), 3) := by decide +kernel
theorem dX6_heavy_100 : decode cX6_heavy 100 = .ok (.iconst 0, 1) := by decide +kernel
theorem dX6_heavy_101 : decode cX6_heavy 101 = .ok (.istore 5, 2) := by decide +kernel
theorem dX6_heavy_103 : decode cX6_heavy 103 = .ok (.iload 5, 2) := by decide +kernel
theorem dX6_heavy_105 : decode cX6_heavy 105 = .ok (.iconst 3, 1) := by decide +kernel
theorem dX6_heavy_106 : decode cX6_heavy 106 = .ok (.if_icmp .ge 76, 3) := by decide +kernel
theorem dX6_heavy_109 : decode cX6_heavy 109 = .ok (.aload_n 0, 1) := by decide +kernel
theorem dX6_heavy_110 : decode cX6_heavy 110 = .ok (.getfield 72, 3) := by decide +kernel
theorem dX6_heavy_113 : decode cX6_heavy 113 = .ok (.iload 5, 2) := by decide +kernel
theorem dX6_heavy_115 : decode cX6_heavy 115 = .ok (.lconst 0, 1) := by decide +kernel
theorem dX6_heavy_116 : decode cX6_heavy 116 = .ok (.lastore, 1) := by decide +kernel
theorem dX6_heavy_117 : decode cX6_heavy 117 = .ok (.iconst 0, 1) := by decide +kernel
theorem dX6_heavy_118 : decode cX6_heavy 118 = .ok (.istore 6, 2) := by decide +kernel
theorem dX6_heavy_120 : decode cX6_heavy 120 = .ok (.iload 6, 2) := by decide +kernel
theorem dX6_heavy_122 : decode cX6_heavy 122 = .ok (.iconst 3, 1) := by decide +kernel
theorem dX6_heavy_123 : decode cX6_heavy 123 = .ok (.if_icmp .ge 53, 3) := by decide +kernel
theorem dX6_heavy_126 : decode cX6_heavy 126 = .ok (.aload_n 0, 1) := by decide +kernel
theorem dX6_heavy_127 : decode cX6_heavy 127 = .ok (.getfield 72, 3) := by decide +kernel
theorem dX6_heavy_130 : decode cX6_heavy 130 = .ok (.iload 5, 2) := by decide +kernel
theorem dX6_heavy_132 : decode cX6_heavy 132 = .ok (.aload_n 0, 1) := by decide +kernel
theorem dX6_heavy_133 : decode cX6_heavy 133 = .ok (.getfield 72, 3) := by decide +kernel
theorem dX6_heavy_136 : decode cX6_heavy 136 = .ok (.iload 5, 2) := by decide +kernel
theorem dX6_heavy_138 : decode cX6_heavy 138 = .ok (.laload, 1) := by decide +kernel
theorem dX6_heavy_139 : decode cX6_heavy 139 = .ok (.aload_n 0, 1) := by decide +kernel
theorem dX6_heavy_140 : decode cX6_heavy 140 = .ok (.getfield 17, 3) := by decide +kernel
theorem dX6_heavy_143 : decode cX6_heavy 143 = .ok (.bipush 16, 2) := by decide +kernel
theorem dX6_heavy_145 : decode cX6_heavy 145 = .ok (.iload_n 2, 1) := by decide +kernel
theorem dX6_heavy_146 : decode cX6_heavy 146 = .ok (.imul, 1) := by decide +kernel
theorem dX6_heavy_147 : decode cX6_heavy 147 = .ok (.iload 5, 2) := by decide +kernel
theorem dX6_heavy_149 : decode cX6_heavy 149 = .ok (.iload 6, 2) := by decide +kernel
theorem dX6_heavy_151 : decode cX6_heavy 151 = .ok (.invokestatic 146, 3) := by decide +kernel
theorem dX6_heavy_154 : decode cX6_heavy 154 = .ok (.iadd, 1) := by decide +kernel
theorem dX6_heavy_155 : decode cX6_heavy 155 = .ok (.laload, 1) := by decide +kernel
theorem dX6_heavy_156 : decode cX6_heavy 156 = .ok (.aload_n 0, 1) := by decide +kernel
theorem dX6_heavy_157 : decode cX6_heavy 157 = .ok (.getfield 69, 3) := by decide +kernel
theorem dX6_heavy_160 : decode cX6_heavy 160 = .ok (.iload 6, 2) := by decide +kernel
theorem dX6_heavy_162 : decode cX6_heavy 162 = .ok (.laload, 1) := by decide +kernel
theorem dX6_heavy_163 : decode cX6_heavy 163 = .ok (.lmul, 1) := by decide +kernel
theorem dX6_heavy_164 : decode cX6_heavy 164 = .ok (.ladd, 1) := by decide +kernel
theorem dX6_heavy_165 : decode cX6_heavy 165 = .ok (.ldc2_w 91, 3) := by decide +kernel
theorem dX6_heavy_168 : decode cX6_heavy 168 = .ok (.lrem, 1) := by decide +kernel
theorem dX6_heavy_169 : decode cX6_heavy 169 = .ok (.lastore, 1) := by decide +kernel
theorem dX6_heavy_170 : decode cX6_heavy 170 = .ok (.iinc 6 1, 3) := by decide +kernel
theorem dX6_heavy_173 : decode cX6_heavy 173 = .ok (.goto (-53), 3) := by decide +kernel
theorem dX6_heavy_176 : decode cX6_heavy 176 = .ok (.iinc 5 1, 3) := by decide +kernel
theorem dX6_heavy_179 : decode cX6_heavy 179 = .ok (.goto (-76), 3) := by decide +kernel
theorem dX6_heavy_182 : decode cX6_heavy 182 = .ok (.aload_n 1, 1) := by decide +kernel
theorem dX6_heavy_183 : decode cX6_heavy 183 = .ok (.iconst 0, 1) := by decide +kernel
theorem dX6_heavy_184 : decode cX6_heavy 184 = .ok (.aload_n 0, 1) := by decide +kernel
theorem dX6_heavy_185 : decode cX6_heavy 185 = .ok (.getfield 39, 3) := by decide +kernel
theorem dX6_heavy_188 : decode cX6_heavy 188 = .ok (.bipush 9, 2) := by decide +kernel
theorem dX6_heavy_190 : decode cX6_heavy 190 = .ok (.iload_n 2, 1) := by decide +kernel
theorem dX6_heavy_191 : decode cX6_heavy 191 = .ok (.imul, 1) := by decide +kernel
theorem dX6_heavy_192 : decode cX6_heavy 192 = .ok (.aload_n 0, 1) := by decide +kernel
theorem dX6_heavy_193 : decode cX6_heavy 193 = .ok (.getfield 72, 3) := by decide +kernel
theorem dX6_heavy_196 : decode cX6_heavy 196 = .ok (.iconst 0, 1) := by decide +kernel
theorem dX6_heavy_197 : decode cX6_heavy 197 = .ok (.invokestatic 129, 3) := by decide +kernel
theorem dX6_heavy_200 : decode cX6_heavy 200 = .ok (.return_, 1) := by decide +kernel
theorem wf_X6_69 : Cond.fieldLink RX6 69 (TX6 21).1 (TX6 21).2.1 (TX6 21).2.2.1 ∈ ltb := List.mem_filter.mpr ⟨List.mem_append_right _ (List.mem_of_getElem? (i := 488) (by decide +kernel)), by decide +kernel⟩
theorem wf_X6_39 : Cond.fieldLink RX6 39 (TX6 11).1 (TX6 11).2.1 (TX6 11).2.2.1 ∈ ltb := List.mem_filter.mpr ⟨List.mem_append_right _ (List.mem_of_getElem? (i := 478) (by decide +kernel)), by decide +kernel⟩
theorem wf_X6_17 : Cond.fieldLink RX6 17 (TX6 4).1 (TX6 4).2.1 (TX6 4).2.2.1 ∈ ltb := List.mem_filter.mpr ⟨List.mem_append_right _ (List.mem_of_getElem? (i := 471) (by decide +kernel)), by decide +kernel⟩
theorem wc_X6_inertiaAt : Cond.code yX6_inertiaAt cX6_inertiaAt 2 (some .int) ∈ ltb := List.mem_filter.mpr ⟨List.mem_append_right _ (List.mem_of_getElem? (i := 666) (by decide +kernel)), by decide +kernel⟩
theorem mi_X6_inertiaAt : Mi yX6_inertiaAt RX6 2 cX6_inertiaAt 2 (some .int) := ⟨by decide +kernel, wc_X6_inertiaAt, wi_X6, by decide⟩
theorem ws_X6_inertiaAt : Cond.static yX6_inertiaAt ∈ ltb := List.mem_filter.mpr ⟨List.mem_append_right _ (List.mem_of_getElem? (i := 665) (by decide +kernel)), by decide +kernel⟩
theorem wm_X6_146 : Cond.methodLink RX6 146 yX6_inertiaAt ∈ ltb := List.mem_filter.mpr ⟨List.mem_append_right _ (List.mem_of_getElem? (i := 664) (by decide +kernel)), by decide +kernel⟩
theorem wc_X6_turned : Cond.code yX6_turned cX6_turned 7 none ∈ ltb := List.mem_filter.mpr ⟨List.mem_append_right _ (List.mem_of_getElem? (i := 642) (by decide +kernel)), by decide +kernel⟩
theorem mi_X6_turned : Mi yX6_turned RX6 6 cX6_turned 7 none := ⟨by decide +kernel, wc_X6_turned, wi_X6, by decide⟩
theorem ws_X6_turned : Cond.static yX6_turned ∈ ltb := List.mem_filter.mpr ⟨List.mem_append_right _ (List.mem_of_getElem? (i := 641) (by decide +kernel)), by decide +kernel⟩
theorem wm_X6_129 : Cond.methodLink RX6 129 yX6_turned ∈ ltb := List.mem_filter.mpr ⟨List.mem_append_right _ (List.mem_of_getElem? (i := 640) (by decide +kernel)), by decide +kernel⟩
noncomputable def pr_X6_heavy : Prg := [(0, z_ic (nI 0) 1), (1, z_istore 5 2), (3, z_iload 5 2), (5, z_ic (nI 3) 1), (6, z_if2 (fun x y => y ≤ x) 100), (9, z_aload 0 1), (10, z_get 5 21), (13, z_iload 5 2), (15, z_aload 0 1), (16, z_get 5 11), (19, z_ic (nI 9) 2), (21, z_iload 2 1), (22, z_imul), (23, z_iload 5 2), (25, z_iadd), (26, z_laload), (27, z_aload 3 1), (28, z_iload 4 2), (30, z_laload), (31, z_lmul), (32, z_lc (.inl 2147483647) 3), (35, z_lrem), (36, z_aload 0 1), (37, z_get 5 11), (40, z_ic (nI 9) 2), (42, z_iload 2 1), (43, z_imul), (44, z_ic (nI 3) 1), (45, z_iadd), (46, z_iload 5 2), (48, z_iadd), (49, z_laload), (50, z_aload 3 1), (51, z_iload 4 2), (53, z_ic (nI 1) 1), (54, z_iadd), (55, z_laload), (56, z_lmul), (57, z_lc (.inl 2147483647) 3), (60, z_lrem), (61, z_ladd), (62, z_aload 0 1), (63, z_get 5 11), (66, z_ic (nI 9) 2), (68, z_iload 2 1), (69, z_imul), (70, z_ic (nI 6) 2), (72, z_iadd), (73, z_iload 5 2), (75, z_iadd), (76, z_laload), (77, z_aload 3 1), (78, z_iload 4 2), (80, z_ic (nI 2) 1), (81, z_iadd), (82, z_laload), (83, z_lmul), (84, z_lc (.inl 2147483647) 3), (87, z_lrem), (88, z_ladd), (89, z_lc (.inl 2147483647) 3), (92, z_lrem), (93, z_lastore), (94, z_iinc 5 (nI 1)), (97, z_goto 3), (100, z_ic (nI 0) 1), (101, z_istore 5 2), (103, z_iload 5 2), (105, z_ic (nI 3) 1), (106, z_if2 (fun x y => y ≤ x) 182), (109, z_aload 0 1), (110, z_get 5 22), (113, z_iload 5 2), (115, z_lc (.inr 0) 1), (116, z_lastore), (117, z_ic (nI 0) 1), (118, z_istore 6 2), (120, z_iload 6 2), (122, z_ic (nI 3) 1), (123, z_if2 (fun x y => y ≤ x) 176), (126, z_aload 0 1), (127, z_get 5 22), (130, z_iload 5 2), (132, z_aload 0 1), (133, z_get 5 22), (136, z_iload 5 2), (138, z_laload), (139, z_aload 0 1), (140, z_get 5 4), (143, z_ic (nI 16) 2), (145, z_iload 2 1), (146, z_imul), (147, z_iload 5 2), (149, z_iload 6 2), (151, z_call 2 sp_X6_inertiaAt), (154, z_iadd), (155, z_laload), (156, z_aload 0 1), (157, z_get 5 21), (160, z_iload 6 2), (162, z_laload), (163, z_lmul), (164, z_ladd), (165, z_lc (.inl 2147483647) 3), (168, z_lrem), (169, z_lastore), (170, z_iinc 6 (nI 1)), (173, z_goto 120), (176, z_iinc 5 (nI 1)), (179, z_goto 103), (182, z_aload 1 1), (183, z_ic (nI 0) 1), (184, z_aload 0 1), (185, z_get 5 11), (188, z_ic (nI 9) 2), (190, z_iload 2 1), (191, z_imul), (192, z_aload 0 1), (193, z_get 5 22), (196, z_ic (nI 0) 1), (197, z_call 6 sp_X6_turned), (200, z_vret)]
set_option maxRecDepth 100000 in
set_option maxHeartbeats 4000000 in
theorem sn_X6_heavy {G : Geo} (hG : GeoOK G) (l : Launch) : ∀ q ∈ pr_X6_heavy, Sn G l yX6_heavy.cls cX6_heavy 7 2 none q.1 q.2 :=
  fcs (zs_iconst dX6_heavy_0 rfl) <| fcs (zs_istore dX6_heavy_1 (by decide)) <| fcs (zs_iload dX6_heavy_3) <| fcs (zs_iconst dX6_heavy_5 rfl) <| fcs (zs_icmp_ge dX6_heavy_6 rfl) <| fcs (zs_aload_n dX6_heavy_9 rfl) <| fcs (zs_get cls5 (by decide) (by decide) wf_X6_69 dX6_heavy_10) <| fcs (zs_iload dX6_heavy_13) <| fcs (zs_aload_n dX6_heavy_15 rfl) <| fcs (zs_get cls5 (by decide) (by decide) wf_X6_39 dX6_heavy_16) <| fcs (zs_bipush dX6_heavy_19 rfl) <| fcs (zs_iload_n dX6_heavy_21 rfl) <| fcs (zs_imul dX6_heavy_22) <| fcs (zs_iload dX6_heavy_23) <| fcs (zs_iadd dX6_heavy_25) <| fcs (zs_laload dX6_heavy_26) <| fcs (zs_aload_n dX6_heavy_27 rfl) <| fcs (zs_iload dX6_heavy_28) <| fcs (zs_laload dX6_heavy_30) <| fcs (zs_lmul dX6_heavy_31) <| fcs (zs_ldc2 dX6_heavy_32 wl_X6_91) <| fcs (zs_lrem dX6_heavy_35) <| fcs (zs_aload_n dX6_heavy_36 rfl) <| fcs (zs_get cls5 (by decide) (by decide) wf_X6_39 dX6_heavy_37) <| fcs (zs_bipush dX6_heavy_40 rfl) <| fcs (zs_iload_n dX6_heavy_42 rfl) <| fcs (zs_imul dX6_heavy_43) <| fcs (zs_iconst dX6_heavy_44 rfl) <| fcs (zs_iadd dX6_heavy_45) <| fcs (zs_iload dX6_heavy_46) <| fcs (zs_iadd dX6_heavy_48) <| fcs (zs_laload dX6_heavy_49) <| fcs (zs_aload_n dX6_heavy_50 rfl) <| fcs (zs_iload dX6_heavy_51) <| fcs (zs_iconst dX6_heavy_53 rfl) <| fcs (zs_iadd dX6_heavy_54) <| fcs (zs_laload dX6_heavy_55) <| fcs (zs_lmul dX6_heavy_56) <| fcs (zs_ldc2 dX6_heavy_57 wl_X6_91) <| fcs (zs_lrem dX6_heavy_60) <| fcs (zs_ladd dX6_heavy_61) <| fcs (zs_aload_n dX6_heavy_62 rfl) <| fcs (zs_get cls5 (by decide) (by decide) wf_X6_39 dX6_heavy_63) <| fcs (zs_bipush dX6_heavy_66 rfl) <| fcs (zs_iload_n dX6_heavy_68 rfl) <| fcs (zs_imul dX6_heavy_69) <| fcs (zs_bipush dX6_heavy_70 rfl) <| fcs (zs_iadd dX6_heavy_72) <| fcs (zs_iload dX6_heavy_73) <| fcs (zs_iadd dX6_heavy_75) <| fcs (zs_laload dX6_heavy_76) <| fcs (zs_aload_n dX6_heavy_77 rfl) <| fcs (zs_iload dX6_heavy_78) <| fcs (zs_iconst dX6_heavy_80 rfl) <| fcs (zs_iadd dX6_heavy_81) <| fcs (zs_laload dX6_heavy_82) <| fcs (zs_lmul dX6_heavy_83) <| fcs (zs_ldc2 dX6_heavy_84 wl_X6_91) <| fcs (zs_lrem dX6_heavy_87) <| fcs (zs_ladd dX6_heavy_88) <| fcs (zs_ldc2 dX6_heavy_89 wl_X6_91) <| fcs (zs_lrem dX6_heavy_92) <| fcs (zs_lastore dX6_heavy_93) <| fcs (zs_iinc dX6_heavy_94 rfl (by decide)) <| fcs (zs_goto dX6_heavy_97 rfl) <| fcs (zs_iconst dX6_heavy_100 rfl) <| fcs (zs_istore dX6_heavy_101 (by decide)) <| fcs (zs_iload dX6_heavy_103) <| fcs (zs_iconst dX6_heavy_105 rfl) <| fcs (zs_icmp_ge dX6_heavy_106 rfl) <| fcs (zs_aload_n dX6_heavy_109 rfl) <| fcs (zs_get cls5 (by decide) (by decide) wf_X6_72 dX6_heavy_110) <| fcs (zs_iload dX6_heavy_113) <| fcs (zs_lconst dX6_heavy_115 rfl) <| fcs (zs_lastore dX6_heavy_116) <| fcs (zs_iconst dX6_heavy_117 rfl) <| fcs (zs_istore dX6_heavy_118 (by decide)) <| fcs (zs_iload dX6_heavy_120) <| fcs (zs_iconst dX6_heavy_122 rfl) <| fcs (zs_icmp_ge dX6_heavy_123 rfl) <| fcs (zs_aload_n dX6_heavy_126 rfl) <| fcs (zs_get cls5 (by decide) (by decide) wf_X6_72 dX6_heavy_127) <| fcs (zs_iload dX6_heavy_130) <| fcs (zs_aload_n dX6_heavy_132 rfl) <| fcs (zs_get cls5 (by decide) (by decide) wf_X6_72 dX6_heavy_133) <| fcs (zs_iload dX6_heavy_136) <| fcs (zs_laload dX6_heavy_138) <| fcs (zs_aload_n dX6_heavy_139 rfl) <| fcs (zs_get cls5 (by decide) (by decide) wf_X6_17 dX6_heavy_140) <| fcs (zs_bipush dX6_heavy_143 rfl) <| fcs (zs_iload_n dX6_heavy_145 rfl) <| fcs (zs_imul dX6_heavy_146) <| fcs (zs_iload dX6_heavy_147) <| fcs (zs_iload dX6_heavy_149) <| fcs (zs_calls (ct_X6_inertiaAt hG l) mi_X6_inertiaAt ws_X6_inertiaAt (by decide) wm_X6_146 dX6_heavy_151) <| fcs (zs_iadd dX6_heavy_154) <| fcs (zs_laload dX6_heavy_155) <| fcs (zs_aload_n dX6_heavy_156 rfl) <| fcs (zs_get cls5 (by decide) (by decide) wf_X6_69 dX6_heavy_157) <| fcs (zs_iload dX6_heavy_160) <| fcs (zs_laload dX6_heavy_162) <| fcs (zs_lmul dX6_heavy_163) <| fcs (zs_ladd dX6_heavy_164) <| fcs (zs_ldc2 dX6_heavy_165 wl_X6_91) <| fcs (zs_lrem dX6_heavy_168) <| fcs (zs_lastore dX6_heavy_169) <| fcs (zs_iinc dX6_heavy_170 rfl (by decide)) <| fcs (zs_goto dX6_heavy_173 rfl) <| fcs (zs_iinc dX6_heavy_176 rfl (by decide)) <| fcs (zs_goto dX6_heavy_179 rfl) <| fcs (zs_aload_n dX6_heavy_182 rfl) <| fcs (zs_iconst dX6_heavy_183 rfl) <| fcs (zs_aload_n dX6_heavy_184 rfl) <| fcs (zs_get cls5 (by decide) (by decide) wf_X6_39 dX6_heavy_185) <| fcs (zs_bipush dX6_heavy_188 rfl) <| fcs (zs_iload_n dX6_heavy_190 rfl) <| fcs (zs_imul dX6_heavy_191) <| fcs (zs_aload_n dX6_heavy_192 rfl) <| fcs (zs_get cls5 (by decide) (by decide) wf_X6_72 dX6_heavy_193) <| fcs (zs_iconst dX6_heavy_196 rfl) <| fcs (zs_calls (ct_X6_turned hG l) mi_X6_turned ws_X6_turned (by decide) wm_X6_129 dX6_heavy_197) <| fcs (zs_vret dX6_heavy_200) <| fnl
section HV
variable {X : Kx} {post : Option AV → SS → Prop}
theorem heavy_3 (hX : Closed pr_X6_heavy post X) {s : SS} {k : Nat} (hk : k < 8) (h : post none (m_h3 s k)) : X 182 [(0, ar 6 0), (1, ar 36 0), (2, .inl (nI k))] [] s := by
  refine go hX [] 60 ?_
  refine ⟨0, 9 * k, 0, ⟨rfl, by rw [pk_mul], rfl⟩, ⟨nle rfl, by show 9 * k + 8 < 72; omega, nle rfl⟩, ?_⟩
  exact h
theorem sL_sL (σ : SS) (kd k i : Nat) (x y : ZF) : sL (sL σ kd k i x) kd k i y = sL σ kd k i y := by
  unfold sL
  refine Prod.ext rfl (Prod.ext ?_ rfl)
  funext a b j
  by_cases h : a = kd ∧ b = k ∧ j = i
  · simp only [if_pos h]
  · simp only [if_neg h]
theorem hps_cg {s s' : SS} {k r : Nat} (h1 : ∀ j, s'.2.1 20 0 j = s.2.1 20 0 j) (h2 : ∀ j, s'.2.1 37 0 j = s.2.1 37 0 j) : ∀ c, hps s' k r c = hps s k r c
  | 0 => rfl
  | c + 1 => by
    unfold hps
    rw [h1, h2, hps_cg h1 h2 c]
theorem heavy_2 (hX : Closed pr_X6_heavy post X) {s : SS} {k : Nat} (hk : k < 8) (h : post none (m_h3 (m_h2 s k) k)) : ∀ (m r : Nat) (rr : Int32) (loc : Loc'), r + m = 3 → rr = nI r → subL [(5, .inl rr), (0, ar 6 0), (1, ar 36 0), (2, .inl (nI k))] loc → X 103 loc [] (fl s (38, 0) 0 r (fun r => hps s k r 3)) := by
  intro m
  induction m with
  | zero =>
    intro r rr loc hr e hloc
    subst e
    refine wk hX ?_ hloc
    refine go hX [103, 120, 182] 60 ?_
    refine ⟨fun g => ?_, fun g => absurd ((nI_leI (by decide) (by omega)).mpr (by omega)) g⟩
    have e : r = 3 := by omega
    subst e
    exact wk hX (heavy_3 hX hk h) ⟨⟨_, rfl, Or.inl rfl⟩, ⟨_, rfl, Or.inl rfl⟩, ⟨_, rfl, Or.inl rfl⟩, trivial⟩
  | succ m ih =>
    intro r rr loc hr e hloc
    subst e
    refine wk hX ?_ hloc
    have inner : ∀ (m2 c : Nat) (cc : Int32), c + m2 = 3 → cc = nI c → X 120 [(6, .inl cc), (5, .inl (nI r)), (0, ar 6 0), (1, ar 36 0), (2, .inl (nI k))] [] (sL (fl s (38, 0) 0 r (fun r => hps s k r 3)) 38 0 r (hps s k r c)) := by
      intro m2
      induction m2 with
      | zero =>
        intro c cc hc e
        subst e
        refine go hX [103, 120, 182] 60 ?_
        refine ⟨fun g => ?_, fun g => absurd ((nI_leI (by decide) (by omega)).mpr (by omega)) g⟩
        have e : c = 3 := by omega
        subst e
        have ih2 := ih (r + 1) _ [(5, .inl (nI r + nI 1)), (6, .inl (nI 3)), (0, ar 6 0), (1, ar 36 0), (2, .inl (nI k))] (by omega) (nI_add r 1) ⟨⟨_, rfl, Or.inl rfl⟩, ⟨_, rfl, Or.inl rfl⟩, ⟨_, rfl, Or.inl rfl⟩, ⟨_, rfl, Or.inl rfl⟩, trivial⟩
        rw [← fl_s s (38, 0) 0 r (fun r => hps s k r 3) (i := r) (by omega) rfl] at ih2
        exact ih2
      | succ m2 ih2 =>
        intro c cc hc e
        subst e
        have ih3 := ih2 (c + 1) _ (by omega) (nI_add c 1)
        have hv : ∀ u : SS, u = sL (sL (fl s (38, 0) 0 r (fun r => hps s k r 3)) 38 0 r (hps s k r c)) 38 0 r (hps s k r (c + 1)) → X 170 [(6, .inl (nI c)), (5, .inl (nI r)), (0, ar 6 0), (1, ar 36 0), (2, .inl (nI k))] [] u := by
          intro u hu
          subst hu
          rw [sL_sL]
          refine go hX [103, 120, 182] 60 ?_
          exact ih3
        refine go hX [103, 170, 182] 60 ?_
        refine ⟨fun g => absurd ((nI_leI (by decide) (by omega)).mp g) (by omega), fun g => ?_⟩
        refine ⟨⟨nle rfl, nle rfl⟩, r, rfl, by show r < 3; omega, ?_⟩
        refine ⟨r, c, ⟨rfl, rfl⟩, ⟨by omega, by omega⟩, ?_⟩
        have hi : iA r c < 14 := by unfold iA; split <;> omega
        refine ⟨⟨nle rfl, nle rfl⟩, 16 * k + iA r c, by rw [pk_mul, nI_add], by show 16 * k + iA r c < 128; omega, ?_⟩
        refine ⟨⟨nle rfl, nle rfl⟩, c, rfl, by show c < 3; omega, ne_P, ?_⟩
        refine ⟨⟨nle rfl, nle rfl⟩, r, hps s k r (c + 1), rfl, by show r < 3; omega, ?_, ?_⟩
        · refine (n_addt _ _ _).trans ?_
          rw [sL_at, sL_n1 _ _ _ _ _ (by decide), sL_n1 _ _ _ _ _ (by decide), fl_n _ _ _ _ _ _ _ (by decide), fl_n _ _ _ _ _ _ _ (by decide)]
          rfl
        · exact hv _ rfl
    refine go hX [103, 120, 182] 60 ?_
    refine ⟨fun g => absurd ((nI_leI (by decide) (by omega)).mp g) (by omega), fun g => ?_⟩
    refine ⟨⟨nle rfl, nle rfl⟩, r, 0, rfl, by show r < 3; omega, rfl, ?_⟩
    exact inner 3 0 _ rfl rfl
theorem heavy_1 (hX : Closed pr_X6_heavy post X) {s : SS} {k : Nat} {l : Nat × Nat} {i : Nat} (hk : k < 8) (hl : l.1 = 30 ∨ l.1 = 31) (hi : i + 2 < 24) (h : post none (m_hvy s k l i)) : X 0 [(0, ar 6 0), (1, ar 36 0), (2, .inl (nI k)), (3, .inr (.inr l)), (4, .inl (nI i))] [] s := by
  have hl1 : 10 ≤ l.1 ∧ l.1 < 50 := by omega
  have hl2 : alen l.1 = 24 := by rcases hl with e | e <;> rw [e] <;> rfl
  have hl3 : l.1 ≠ (37, 0).1 := by rcases hl with e | e <;> rw [e] <;> decide
  have lp1 : ∀ (m c : Nat) (cc : Int32), c + m = 3 → cc = nI c → X 3 [(5, .inl cc), (0, ar 6 0), (1, ar 36 0), (2, .inl (nI k)), (3, .inr (.inr l)), (4, .inl (nI i))] [] (fl s (37, 0) 0 c (hy1 s k l i)) := by
    intro m
    induction m with
    | zero =>
      intro c cc hc e
      subst e
      refine go hX [3, 100] 100 ?_
      refine ⟨fun g => ?_, fun g => absurd ((nI_leI (by decide) (by omega)).mpr (by omega)) g⟩
      have e : c = 3 := by omega
      subst e
      have h2 := heavy_2 hX hk h 3 0 _ [(5, .inl (nI 0)), (0, ar 6 0), (1, ar 36 0), (2, .inl (nI k)), (3, .inr (.inr l)), (4, .inl (nI i))] rfl rfl ⟨⟨_, rfl, Or.inl rfl⟩, ⟨_, rfl, Or.inl rfl⟩, ⟨_, rfl, Or.inl rfl⟩, ⟨_, rfl, Or.inl rfl⟩, trivial⟩
      rw [fl_0] at h2
      refine hX.1 _ (runN_le hX 60 (stops := [103])) _ _ _ _ ?_
      exact h2
    | succ m ih =>
      intro c cc hc e
      subst e
      have ih2 := ih (c + 1) _ (by omega) (nI_add c 1)
      refine go hX [3, 100] 100 ?_
      refine ⟨fun g => absurd ((nI_leI (by decide) (by omega)).mp g) (by omega), fun g => ?_⟩
      refine ⟨⟨nle rfl, nle rfl⟩, 9 * k + c, by rw [pk_mul, nI_add], by show 9 * k + c < 72; omega, hl1, i, rfl, by omega, ne_P, ?_⟩
      refine ⟨⟨nle rfl, nle rfl⟩, 9 * k + 3 + c, by rw [pk_mul, nI_add, nI_add], by show 9 * k + 3 + c < 72; omega, hl1, i + 1, nI_add _ _, by omega, ne_P, ?_⟩
      refine ⟨⟨nle rfl, nle rfl⟩, 9 * k + 6 + c, by rw [pk_mul, nI_add, nI_add], by show 9 * k + 6 + c < 72; omega, hl1, i + 2, nI_add _ _, by omega, ne_P, ne_P, ?_⟩
      refine ⟨⟨nle rfl, nle rfl⟩, 0 + c, ((hy1 s k l i)) c, by rw [Nat.zero_add], by show 0 + c < 3; omega, ?_, ?_⟩
      · refine (n_dot3 _ _ _ _ _ _).trans ?_
        rw [fl_n _ _ _ _ _ _ _ (by decide), fl_n _ _ _ _ _ _ _ hl3, fl_n _ _ _ _ _ _ _ (by decide), fl_n _ _ _ _ _ _ _ hl3, fl_n _ _ _ _ _ _ _ (by decide), fl_n _ _ _ _ _ _ _ hl3]
        rfl
      · exact (fl_s s (37, 0) (0) c (hy1 s k l i) (i := 0 + c) rfl rfl).symm ▸ ih2
  refine go hX [3, 100] 60 ?_
  have l0 := lp1 3 0 _ rfl rfl
  rw [fl_0] at l0
  exact l0
end HV
set_option maxRecDepth 100000 in
set_option maxHeartbeats 4000000 in
theorem ct_X6_heavy {G : Geo} (hG : GeoOK G) (l : Launch) : Ct G l yX6_heavy cX6_heavy 7 none 2 sp_X6_heavy := by
  refine Ct.of pr_X6_heavy hG (by decide +kernel) (sn_X6_heavy hG l) ?_
  intro av σ post hok h
  unfold sp_X6_heavy at h
  split at h
  · rename_i b t k l i
    obtain ⟨hb, k, i, ⟨rfl, rfl⟩, ⟨hk, hi⟩, h9⟩ := bif_t h
    clear h
    rw [Bool.and_eq_true, Bool.and_eq_true, Bool.or_eq_true] at hb
    obtain ⟨hb, ht, hl⟩ := hb
    obtain rfl := is6_t hb
    obtain ⟨t, t2⟩ := t
    obtain ⟨rfl, rfl⟩ : t = 36 ∧ t2 = 0 := beq2 ht
    refine ⟨Nat.le_of_ble_eq_true rfl, fun X hX => ?_⟩
    exact heavy_1 hX hk (hl.elim (fun h => Or.inl (beq1 h)) (fun h => Or.inr (beq1 h))) hi h9
  · exact h.elim
