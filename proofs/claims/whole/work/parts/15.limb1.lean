/-! LimbWorks: who is there, and the methods that tell -/
def nn (σ : SS) : Nat := (σ.2.2 0 0).toNatClampNeg
def pa (σ : SS) (k : Nat) : Nat := (σ.2.2 1 k).toNatClampNeg
/-- the class's state is sound: up to seven bodies, each on a lower one -/
def CI (σ : SS) : Prop := σ.2.2 0 0 = nI (nn σ) ∧ nn σ ≤ 7 ∧ ∀ k, 1 ≤ k → k ≤ nn σ → σ.2.2 1 k = nI (pa σ k) ∧ pa σ k < k
def bt (σ : SS) (x : Int32) : Bool := decide (¬ x < nI 1) && decide (¬ σ.2.2 0 0 < x)
def bz (b : Bool) : Int32 := bif b then nI 1 else nI 0
def ix (x : Int32) : Nat := x.toNatClampNeg
theorem bt_k {σ : SS} {x : Int32} (hI : CI σ) (h : bt σ x = true) : ∃ k, 1 ≤ k ∧ k ≤ nn σ ∧ x = nI k := by
  unfold bt at h
  rw [Bool.and_eq_true, decide_eq_true_iff, decide_eq_true_iff, hI.1] at h
  obtain ⟨h1, h2⟩ := h
  have h7 := hI.2.1
  have h0 : ¬ x < 0 := fun q => h1 (by
    rw [Int32.lt_iff_toInt_lt] at q ⊢
    rw [nI_toInt (by decide)]
    have : (0 : Int32).toInt = 0 := by decide
    omega)
  obtain ⟨j, hj, rfl⟩ := nI_of h0
  rw [nI_ltI hj (by decide)] at h1
  rw [nI_ltI (by omega) hj] at h2
  exact ⟨j, by omega, by omega, rfl⟩
theorem bt_of {σ : SS} {k : Nat} (hI : CI σ) (h1 : 1 ≤ k) (h2 : k ≤ nn σ) : bt σ (nI k) = true := by
  unfold bt
  have h7 := hI.2.1
  rw [Bool.and_eq_true, decide_eq_true_iff, decide_eq_true_iff, hI.1, nI_ltI (by omega) (by decide), nI_ltI (by omega) (by omega)]
  omega
theorem ix_k {k : Nat} (h : k < 8) : ix (nI k) = k := nI_clamp (by omega)
noncomputable def sp_X5_isThere : Spc := fun av σ post => match av with
  | [.inr (.inr b), .inl x] => bif Nat.beq b.1 0 && Nat.beq b.2 0 then post (some (ai (bz (bt σ x)))) σ else False
  | _ => False
theorem dX5_isThere_0 : decode cX5_isThere 0 = .ok (.iload_n 1, 1) := by decide +kernel
theorem dX5_isThere_1 : decode cX5_isThere 1 = .ok (.iconst 1, 1) := by decide +kernel
theorem dX5_isThere_2 : decode cX5_isThere 2 = .ok (.if_icmp .lt 15, 3) := by decide +kernel
theorem dX5_isThere_5 : decode cX5_isThere 5 = .ok (.iload_n 1, 1) := by decide +kernel
theorem dX5_isThere_6 : decode cX5_isThere 6 = .ok (.aload_n 0, 1) := by decide +kernel
theorem dX5_isThere_7 : decode cX5_isThere 7 = .ok (.getfield 16, 3) := by decide +kernel
theorem dX5_isThere_10 : decode cX5_isThere 10 = .ok (.if_icmp .gt 7, 3) := by decide +kernel
theorem dX5_isThere_13 : decode cX5_isThere 13 = .ok (.iconst 1, 1) := by decide +kernel
theorem dX5_isThere_14 : decode cX5_isThere 14 = .ok (.goto 4, 3) := by decide +kernel
theorem dX5_isThere_17 : decode cX5_isThere 17 = .ok (.iconst 0, 1) := by decide +kernel
theorem dX5_isThere_18 : decode cX5_isThere 18 = .ok (.ireturn, 1) := by decide +kernel
theorem wf_X5_16 : Cond.fieldLink RX5 16 (TX5 1).1 (TX5 1).2.1 (TX5 1).2.2.1 ∈ ltb := List.mem_filter.mpr ⟨List.mem_append_right _ (List.mem_of_getElem? (i := 153) (by decide +kernel)), by decide +kernel⟩
noncomputable def pr_X5_isThere : Prg := [(0, z_iload 1 1), (1, z_ic (nI 1) 1), (2, z_if2 (fun x y => x < y) 17), (5, z_iload 1 1), (6, z_aload 0 1), (7, z_get 4 1), (10, z_if2 (fun x y => y < x) 17), (13, z_ic (nI 1) 1), (14, z_goto 18), (17, z_ic (nI 0) 1), (18, z_zret)]
set_option maxRecDepth 100000 in
set_option maxHeartbeats 4000000 in
theorem sn_X5_isThere {G : Geo} (hG : GeoOK G) (l : Launch) : ∀ q ∈ pr_X5_isThere, Sn G l yX5_isThere.cls cX5_isThere 2 0 (some .boolean) q.1 q.2 :=
  fcs (zs_iload_n dX5_isThere_0 rfl) <| fcs (zs_iconst dX5_isThere_1 rfl) <| fcs (zs_icmp_lt dX5_isThere_2 rfl) <| fcs (zs_iload_n dX5_isThere_5 rfl) <| fcs (zs_aload_n dX5_isThere_6 rfl) <| fcs (zs_get cls4 (by decide) (by decide) wf_X5_16 dX5_isThere_7) <| fcs (zs_icmp_gt dX5_isThere_10 rfl) <| fcs (zs_iconst dX5_isThere_13 rfl) <| fcs (zs_goto dX5_isThere_14 rfl) <| fcs (zs_iconst dX5_isThere_17 rfl) <| fcs (zs_zret dX5_isThere_18) <| fnl
set_option maxRecDepth 100000 in
set_option maxHeartbeats 4000000 in
theorem ct_X5_isThere {G : Geo} (hG : GeoOK G) (l : Launch) : Ct G l yX5_isThere cX5_isThere 2 (some .boolean) 0 sp_X5_isThere := by
  refine Ct.of pr_X5_isThere hG (by decide +kernel) (sn_X5_isThere hG l) ?_
  intro av σ post hok h
  unfold sp_X5_isThere at h
  split at h
  · rename_i b x
    obtain ⟨b, k⟩ := b
    obtain ⟨hb, h⟩ := bif_t h
    obtain ⟨rfl, rfl⟩ : b = 0 ∧ k = 0 := beq2 hb
    refine ⟨Nat.le_of_ble_eq_true rfl, fun X hX => ?_⟩
    refine go hX [] 60 ?_
    refine ⟨fun g1 => ?_, fun g1 => ⟨fun g2 => ?_, fun g2 => ?_⟩⟩
    · have e : bt σ x = false := by unfold bt; rw [decide_eq_false (fun q => q g1)]; rfl
      rw [e] at h
      exact ⟨Or.inl rfl, h⟩
    · have e : bt σ x = false := by unfold bt; rw [decide_eq_false (show ¬ ¬ σ.2.2 0 0 < x from fun q => q g2), Bool.and_false]
      rw [e] at h
      exact ⟨Or.inl rfl, h⟩
    · have e : bt σ x = true := by unfold bt; rw [decide_eq_true g1, decide_eq_true (show ¬ σ.2.2 0 0 < x from g2)]; rfl
      rw [e] at h
      exact ⟨Or.inr rfl, h⟩
  · exact h.elim
theorem bz_f {b : Bool} (h : b = false) : bz b = 0 := by rw [h]; rfl
theorem bz_t {b : Bool} (h : b = true) : ¬ bz b = 0 := by rw [h]; decide
def is0 (b : Nat × Nat) : Bool := Nat.beq b.1 0 && Nat.beq b.2 0
theorem is0_t {b : Nat × Nat} (h : is0 b = true) : b = (0, 0) := by
  obtain ⟨b, k⟩ := b
  obtain ⟨h1, h2⟩ : b = 0 ∧ k = 0 := beq2 h
  rw [h1, h2]
noncomputable def sp_X5_place : Spc := fun av σ post => match av with
  | [.inr (.inr b), .inl x, .inl x0, .inl x1, .inl x2] => bif is0 b then (CI σ ∧ post (some (ai (bz (bt σ x)))) (bif bt σ x then sV σ 50 (ix x) (fi x0, fi x1, fi x2) else σ)) else False
  | _ => False
theorem dX5_place_0 : decode cX5_place 0 = .ok (.aload_n 0, 1) := by decide +kernel
theorem dX5_place_1 : decode cX5_place 1 = .ok (.iload_n 1, 1) := by decide +kernel
theorem dX5_place_2 : decode cX5_place 2 = .ok (.invokevirtual 69, 3) := by decide +kernel
theorem dX5_place_5 : decode cX5_place 5 = .ok (.ifCond .ne 5, 3) := by decide +kernel
theorem dX5_place_8 : decode cX5_place 8 = .ok (.iconst 0, 1) := by decide +kernel
theorem dX5_place_9 : decode cX5_place 9 = .ok (.ireturn, 1) := by decide +kernel
theorem dX5_place_10 : decode cX5_place 10 = .ok (.aload_n 0, 1) := by decide +kernel
theorem dX5_place_11 : decode cX5_place 11 = .ok (.getfield 11, 3) := by decide +kernel
theorem dX5_place_14 : decode cX5_place 14 = .ok (.iload_n 1, 1) := by decide +kernel
theorem dX5_place_15 : decode cX5_place 15 = .ok (.aaload, 1) := by decide +kernel
theorem dX5_place_16 : decode cX5_place 16 = .ok (.getfield 73, 3) := by decide +kernel
theorem dX5_place_19 : decode cX5_place 19 = .ok (.iload_n 2, 1) := by decide +kernel
theorem dX5_place_20 : decode cX5_place 20 = .ok (.iload_n 3, 1) := by decide +kernel
theorem dX5_place_21 : decode cX5_place 21 = .ok (.iload 4, 2) := by decide +kernel
theorem dX5_place_23 : decode cX5_place 23 = .ok (.invokevirtual 76, 3) := by decide +kernel
theorem dX5_place_26 : decode cX5_place 26 = .ok (.iconst 1, 1) := by decide +kernel
theorem dX5_place_27 : decode cX5_place 27 = .ok (.ireturn, 1) := by decide +kernel
theorem wc_X5_isThere : Cond.code yX5_isThere cX5_isThere 2 (some .boolean) ∈ ltb := List.mem_filter.mpr ⟨List.mem_append_right _ (List.mem_of_getElem? (i := 211) (by decide +kernel)), by decide +kernel⟩
theorem wi_X5 : Cond.initialized RX5 ∈ ltb := List.mem_filter.mpr ⟨List.mem_append_right _ (List.mem_of_getElem? (i := 1) (by decide +kernel)), by decide +kernel⟩
theorem mi_X5_isThere : Mi yX5_isThere RX5 1 cX5_isThere 2 (some .boolean) := ⟨by decide +kernel, wc_X5_isThere, wi_X5, by decide⟩
theorem wv_X5_isThere : Cond.instanceMethod yX5_isThere ∈ ltb := List.mem_filter.mpr ⟨List.mem_append_right _ (List.mem_of_getElem? (i := 210) (by decide +kernel)), by decide +kernel⟩
theorem we_X5_isThere : Cond.selects RX5 yX5_isThere yX5_isThere ∈ ltb := List.mem_filter.mpr ⟨List.mem_append_left _ (List.mem_of_getElem? (i := 0) (by decide +kernel)), by decide +kernel⟩
theorem wm_X5_69 : Cond.methodLink RX5 69 yX5_isThere ∈ ltb := List.mem_filter.mpr ⟨List.mem_append_right _ (List.mem_of_getElem? (i := 208) (by decide +kernel)), by decide +kernel⟩
theorem wf_X5_11 : Cond.fieldLink RX5 11 (TX5 0).1 (TX5 0).2.1 (TX5 0).2.2.1 ∈ ltb := List.mem_filter.mpr ⟨List.mem_append_right _ (List.mem_of_getElem? (i := 152) (by decide +kernel)), by decide +kernel⟩
theorem wf_X5_73 : Cond.fieldLink RX5 73 (TX0 2).1 (TX0 2).2.1 (TX0 2).2.2.1 ∈ ltb := List.mem_filter.mpr ⟨List.mem_append_right _ (List.mem_of_getElem? (i := 90) (by decide +kernel)), by decide +kernel⟩
theorem wc_X4_tell : Cond.code yX4_tell cX4_tell 4 none ∈ ltb := List.mem_filter.mpr ⟨List.mem_append_right _ (List.mem_of_getElem? (i := 215) (by decide +kernel)), by decide +kernel⟩
theorem mi_X4_tell : Mi yX4_tell RX4 3 cX4_tell 4 none := ⟨by decide +kernel, wc_X4_tell, wi_X4, by decide⟩
theorem wv_X4_tell : Cond.instanceMethod yX4_tell ∈ ltb := List.mem_filter.mpr ⟨List.mem_append_right _ (List.mem_of_getElem? (i := 213) (by decide +kernel)), by decide +kernel⟩
theorem we_X4_tell : Cond.selects RX4 yX4_tell yX4_tell ∈ ltb := List.mem_filter.mpr ⟨List.mem_append_right _ (List.mem_of_getElem? (i := 214) (by decide +kernel)), by decide +kernel⟩
theorem wm_X5_76 : Cond.methodLink RX5 76 yX4_tell ∈ ltb := List.mem_filter.mpr ⟨List.mem_append_right _ (List.mem_of_getElem? (i := 212) (by decide +kernel)), by decide +kernel⟩
noncomputable def pr_X5_place : Prg := [(0, z_aload 0 1), (1, z_iload 1 1), (2, z_callv 1 4 sp_X5_isThere), (5, z_nf1 10), (8, z_ic (nI 0) 1), (9, z_zret), (10, z_aload 0 1), (11, z_get 4 0), (14, z_iload 1 1), (15, z_aaload), (16, z_get 0 2), (19, z_iload 2 1), (20, z_iload 3 1), (21, z_iload 4 2), (23, z_callv 3 3 sp_X4_tell), (26, z_ic (nI 1) 1), (27, z_zret)]
set_option maxRecDepth 100000 in
set_option maxHeartbeats 4000000 in
theorem sn_X5_place {G : Geo} (hG : GeoOK G) (l : Launch) : ∀ q ∈ pr_X5_place, Sn G l yX5_place.cls cX5_place 5 3 (some .boolean) q.1 q.2 :=
  fcs (zs_aload_n dX5_place_0 rfl) <| fcs (zs_iload_n dX5_place_1 rfl) <| fcs (zs_callv cls4 (by decide) (ct_X5_isThere hG l) mi_X5_isThere wv_X5_isThere we_X5_isThere (by decide) wm_X5_69 dX5_place_2) <| fcs (zs_if_ne dX5_place_5 rfl) <| fcs (zs_iconst dX5_place_8 rfl) <| fcs (zs_zret dX5_place_9) <| fcs (zs_aload_n dX5_place_10 rfl) <| fcs (zs_get cls4 (by decide) (by decide) wf_X5_11 dX5_place_11) <| fcs (zs_iload_n dX5_place_14 rfl) <| fcs (zs_aaload dX5_place_15) <| fcs (zs_get cls0 (by decide) (by decide) wf_X5_73 dX5_place_16) <| fcs (zs_iload_n dX5_place_19 rfl) <| fcs (zs_iload_n dX5_place_20 rfl) <| fcs (zs_iload dX5_place_21) <| fcs (zs_callv cls3 (by decide) (ct_X4_tell hG l) mi_X4_tell wv_X4_tell we_X4_tell (by decide) wm_X5_76 dX5_place_23) <| fcs (zs_iconst dX5_place_26 rfl) <| fcs (zs_zret dX5_place_27) <| fnl
set_option maxRecDepth 100000 in
set_option maxHeartbeats 4000000 in
theorem ct_X5_place {G : Geo} (hG : GeoOK G) (l : Launch) : Ct G l yX5_place cX5_place 5 (some .boolean) 3 sp_X5_place := by
  refine Ct.of pr_X5_place hG (by decide +kernel) (sn_X5_place hG l) ?_
  intro av σ post hok h
  unfold sp_X5_place at h
  split at h
  · rename_i b x x0 x1 x2
    obtain ⟨hb, hI, h9⟩ := bif_t h
    clear h
    obtain rfl := is0_t hb
    have h := h9
    refine ⟨Nat.le_of_ble_eq_true rfl, fun X hX => ?_⟩
    refine go hX [] 60 ?_
    cases hB : bt σ x with
    | false =>
      rw [hB] at h
      refine ⟨fun g => absurd (bz_f hB) g, fun g => ?_⟩
      exact ⟨Or.inl rfl, h⟩
    | true =>
      rw [hB] at h
      obtain ⟨k, h1, h2, rfl⟩ := bt_k hI hB
      have h7 := hI.2.1
      dsimp only [cond] at h
      rw [ix_k (by omega)] at h
      refine ⟨fun g => ?_, fun g => absurd g (bz_t hB)⟩
      refine ⟨k, rfl, by omega, ?_⟩
      exact ⟨Or.inr rfl, h⟩
  · exact h.elim
noncomputable def sp_X5_tilt : Spc := fun av σ post => match av with
  | [.inr (.inr b), .inl x, .inl x0] => bif is0 b then (CI σ ∧ post (some (ai (bz (bt σ x)))) (bif bt σ x then sL σ 2 (ix x) 0 (fi x0) else σ)) else False
  | _ => False
theorem dX5_tilt_0 : decode cX5_tilt 0 = .ok (.aload_n 0, 1) := by decide +kernel
theorem dX5_tilt_1 : decode cX5_tilt 1 = .ok (.iload_n 1, 1) := by decide +kernel
theorem dX5_tilt_2 : decode cX5_tilt 2 = .ok (.invokevirtual 69, 3) := by decide +kernel
theorem dX5_tilt_5 : decode cX5_tilt 5 = .ok (.ifCond .ne 5, 3) := by decide +kernel
theorem dX5_tilt_8 : decode cX5_tilt 8 = .ok (.iconst 0, 1) := by decide +kernel
theorem dX5_tilt_9 : decode cX5_tilt 9 = .ok (.ireturn, 1) := by decide +kernel
theorem dX5_tilt_10 : decode cX5_tilt 10 = .ok (.aload_n 0, 1) := by decide +kernel
theorem dX5_tilt_11 : decode cX5_tilt 11 = .ok (.getfield 11, 3) := by decide +kernel
theorem dX5_tilt_14 : decode cX5_tilt 14 = .ok (.iload_n 1, 1) := by decide +kernel
theorem dX5_tilt_15 : decode cX5_tilt 15 = .ok (.aaload, 1) := by decide +kernel
theorem dX5_tilt_16 : decode cX5_tilt 16 = .ok (.iload_n 2, 1) := by decide +kernel
theorem dX5_tilt_17 : decode cX5_tilt 17 = .ok (.invokestatic 80, 3) := by decide +kernel
theorem dX5_tilt_20 : decode cX5_tilt 20 = .ok (.putfield 86, 3) := by decide +kernel
theorem dX5_tilt_23 : decode cX5_tilt 23 = .ok (.iconst 1, 1) := by decide +kernel
theorem dX5_tilt_24 : decode cX5_tilt 24 = .ok (.ireturn, 1) := by decide +kernel
theorem wm_X5_80 : Cond.methodLink RX5 80 yX1_of ∈ ltb := List.mem_filter.mpr ⟨List.mem_append_right _ (List.mem_of_getElem? (i := 227) (by decide +kernel)), by decide +kernel⟩
theorem wf_X5_86 : Cond.fieldLink RX5 86 (TX0 3).1 (TX0 3).2.1 (TX0 3).2.2.1 ∈ ltb := List.mem_filter.mpr ⟨List.mem_append_right _ (List.mem_of_getElem? (i := 91) (by decide +kernel)), by decide +kernel⟩
noncomputable def pr_X5_tilt : Prg := [(0, z_aload 0 1), (1, z_iload 1 1), (2, z_callv 1 4 sp_X5_isThere), (5, z_nf1 10), (8, z_ic (nI 0) 1), (9, z_zret), (10, z_aload 0 1), (11, z_get 4 0), (14, z_iload 1 1), (15, z_aaload), (16, z_iload 2 1), (17, z_call 1 sp_X1_of), (20, z_btil), (23, z_ic (nI 1) 1), (24, z_zret)]
set_option maxRecDepth 100000 in
set_option maxHeartbeats 4000000 in
theorem sn_X5_tilt {G : Geo} (hG : GeoOK G) (l : Launch) : ∀ q ∈ pr_X5_tilt, Sn G l yX5_tilt.cls cX5_tilt 3 2 (some .boolean) q.1 q.2 :=
  fcs (zs_aload_n dX5_tilt_0 rfl) <| fcs (zs_iload_n dX5_tilt_1 rfl) <| fcs (zs_callv cls4 (by decide) (ct_X5_isThere hG l) mi_X5_isThere wv_X5_isThere we_X5_isThere (by decide) wm_X5_69 dX5_tilt_2) <| fcs (zs_if_ne dX5_tilt_5 rfl) <| fcs (zs_iconst dX5_tilt_8 rfl) <| fcs (zs_zret dX5_tilt_9) <| fcs (zs_aload_n dX5_tilt_10 rfl) <| fcs (zs_get cls4 (by decide) (by decide) wf_X5_11 dX5_tilt_11) <| fcs (zs_iload_n dX5_tilt_14 rfl) <| fcs (zs_aaload dX5_tilt_15) <| fcs (zs_iload_n dX5_tilt_16 rfl) <| fcs (zs_calls (ct_X1_of hG l) mi_X1_of ws_X1_of (by decide) wm_X5_80 dX5_tilt_17) <| fcs (zs_btil wf_X5_86 dX5_tilt_20) <| fcs (zs_iconst dX5_tilt_23 rfl) <| fcs (zs_zret dX5_tilt_24) <| fnl
set_option maxRecDepth 100000 in
set_option maxHeartbeats 4000000 in
theorem ct_X5_tilt {G : Geo} (hG : GeoOK G) (l : Launch) : Ct G l yX5_tilt cX5_tilt 3 (some .boolean) 2 sp_X5_tilt := by
  refine Ct.of pr_X5_tilt hG (by decide +kernel) (sn_X5_tilt hG l) ?_
  intro av σ post hok h
  unfold sp_X5_tilt at h
  split at h
  · rename_i b x x0
    obtain ⟨hb, hI, h9⟩ := bif_t h
    clear h
    obtain rfl := is0_t hb
    have h := h9
    refine ⟨Nat.le_of_ble_eq_true rfl, fun X hX => ?_⟩
    refine go hX [] 60 ?_
    cases hB : bt σ x with
    | false =>
      rw [hB] at h
      refine ⟨fun g => absurd (bz_f hB) g, fun g => ?_⟩
      exact ⟨Or.inl rfl, h⟩
    | true =>
      rw [hB] at h
      obtain ⟨k, h1, h2, rfl⟩ := bt_k hI hB
      have h7 := hI.2.1
      dsimp only [cond] at h
      rw [ix_k (by omega)] at h
      refine ⟨fun g => ?_, fun g => absurd g (bz_t hB)⟩
      refine ⟨k, rfl, by omega, ?_⟩
      refine ⟨rfl, _, rfl, ?_⟩
      exact ⟨Or.inr rfl, h⟩
  · exact h.elim
noncomputable def sp_X5_mass : Spc := fun av σ post => match av with
  | [.inr (.inr b), .inl x, .inl x0] => bif is0 b then (CI σ ∧ post (some (ai (bz (bt σ x)))) (bif bt σ x then sL σ 2 (ix x) 1 (fi x0) else σ)) else False
  | _ => False
theorem dX5_mass_0 : decode cX5_mass 0 = .ok (.aload_n 0, 1) := by decide +kernel
theorem dX5_mass_1 : decode cX5_mass 1 = .ok (.iload_n 1, 1) := by decide +kernel
theorem dX5_mass_2 : decode cX5_mass 2 = .ok (.invokevirtual 69, 3) := by decide +kernel
theorem dX5_mass_5 : decode cX5_mass 5 = .ok (.ifCond .ne 5, 3) := by decide +kernel
theorem dX5_mass_8 : decode cX5_mass 8 = .ok (.iconst 0, 1) := by decide +kernel
theorem dX5_mass_9 : decode cX5_mass 9 = .ok (.ireturn, 1) := by decide +kernel
theorem dX5_mass_10 : decode cX5_mass 10 = .ok (.aload_n 0, 1) := by decide +kernel
theorem dX5_mass_11 : decode cX5_mass 11 = .ok (.getfield 11, 3) := by decide +kernel
theorem dX5_mass_14 : decode cX5_mass 14 = .ok (.iload_n 1, 1) := by decide +kernel
theorem dX5_mass_15 : decode cX5_mass 15 = .ok (.aaload, 1) := by decide +kernel
theorem dX5_mass_16 : decode cX5_mass 16 = .ok (.iload_n 2, 1) := by decide +kernel
theorem dX5_mass_17 : decode cX5_mass 17 = .ok (.invokestatic 80, 3) := by decide +kernel
theorem dX5_mass_20 : decode cX5_mass 20 = .ok (.putfield 90, 3) := by decide +kernel
theorem dX5_mass_23 : decode cX5_mass 23 = .ok (.iconst 1, 1) := by decide +kernel
theorem dX5_mass_24 : decode cX5_mass 24 = .ok (.ireturn, 1) := by decide +kernel
theorem wf_X5_90 : Cond.fieldLink RX5 90 (TX0 4).1 (TX0 4).2.1 (TX0 4).2.2.1 ∈ ltb := List.mem_filter.mpr ⟨List.mem_append_right _ (List.mem_of_getElem? (i := 93) (by decide +kernel)), by decide +kernel⟩
noncomputable def pr_X5_mass : Prg := [(0, z_aload 0 1), (1, z_iload 1 1), (2, z_callv 1 4 sp_X5_isThere), (5, z_nf1 10), (8, z_ic (nI 0) 1), (9, z_zret), (10, z_aload 0 1), (11, z_get 4 0), (14, z_iload 1 1), (15, z_aaload), (16, z_iload 2 1), (17, z_call 1 sp_X1_of), (20, z_bmas), (23, z_ic (nI 1) 1), (24, z_zret)]
set_option maxRecDepth 100000 in
set_option maxHeartbeats 4000000 in
theorem sn_X5_mass {G : Geo} (hG : GeoOK G) (l : Launch) : ∀ q ∈ pr_X5_mass, Sn G l yX5_mass.cls cX5_mass 3 2 (some .boolean) q.1 q.2 :=
  fcs (zs_aload_n dX5_mass_0 rfl) <| fcs (zs_iload_n dX5_mass_1 rfl) <| fcs (zs_callv cls4 (by decide) (ct_X5_isThere hG l) mi_X5_isThere wv_X5_isThere we_X5_isThere (by decide) wm_X5_69 dX5_mass_2) <| fcs (zs_if_ne dX5_mass_5 rfl) <| fcs (zs_iconst dX5_mass_8 rfl) <| fcs (zs_zret dX5_mass_9) <| fcs (zs_aload_n dX5_mass_10 rfl) <| fcs (zs_get cls4 (by decide) (by decide) wf_X5_11 dX5_mass_11) <| fcs (zs_iload_n dX5_mass_14 rfl) <| fcs (zs_aaload dX5_mass_15) <| fcs (zs_iload_n dX5_mass_16 rfl) <| fcs (zs_calls (ct_X1_of hG l) mi_X1_of ws_X1_of (by decide) wm_X5_80 dX5_mass_17) <| fcs (zs_bmas wf_X5_90 dX5_mass_20) <| fcs (zs_iconst dX5_mass_23 rfl) <| fcs (zs_zret dX5_mass_24) <| fnl
set_option maxRecDepth 100000 in
set_option maxHeartbeats 4000000 in
theorem ct_X5_mass {G : Geo} (hG : GeoOK G) (l : Launch) : Ct G l yX5_mass cX5_mass 3 (some .boolean) 2 sp_X5_mass := by
  refine Ct.of pr_X5_mass hG (by decide +kernel) (sn_X5_mass hG l) ?_
  intro av σ post hok h
  unfold sp_X5_mass at h
  split at h
  · rename_i b x x0
    obtain ⟨hb, hI, h9⟩ := bif_t h
    clear h
    obtain rfl := is0_t hb
    have h := h9
    refine ⟨Nat.le_of_ble_eq_true rfl, fun X hX => ?_⟩
    refine go hX [] 60 ?_
    cases hB : bt σ x with
    | false =>
      rw [hB] at h
      refine ⟨fun g => absurd (bz_f hB) g, fun g => ?_⟩
      exact ⟨Or.inl rfl, h⟩
    | true =>
      rw [hB] at h
      obtain ⟨k, h1, h2, rfl⟩ := bt_k hI hB
      have h7 := hI.2.1
      dsimp only [cond] at h
      rw [ix_k (by omega)] at h
      refine ⟨fun g => ?_, fun g => absurd g (bz_t hB)⟩
      refine ⟨k, rfl, by omega, ?_⟩
      refine ⟨rfl, _, rfl, ?_⟩
      exact ⟨Or.inr rfl, h⟩
  · exact h.elim
noncomputable def sp_X5_centre : Spc := fun av σ post => match av with
  | [.inr (.inr b), .inl x, .inl x0, .inl x1, .inl x2] => bif is0 b then (CI σ ∧ post (some (ai (bz (bt σ x)))) (bif bt σ x then sV σ 51 (ix x) (fi x0, fi x1, fi x2) else σ)) else False
  | _ => False
theorem dX5_centre_0 : decode cX5_centre 0 = .ok (.aload_n 0, 1) := by decide +kernel
theorem dX5_centre_1 : decode cX5_centre 1 = .ok (.iload_n 1, 1) := by decide +kernel
theorem dX5_centre_2 : decode cX5_centre 2 = .ok (.invokevirtual 69, 3) := by decide +kernel
theorem dX5_centre_5 : decode cX5_centre 5 = .ok (.ifCond .ne 5, 3) := by decide +kernel
theorem dX5_centre_8 : decode cX5_centre 8 = .ok (.iconst 0, 1) := by decide +kernel
theorem dX5_centre_9 : decode cX5_centre 9 = .ok (.ireturn, 1) := by decide +kernel
theorem dX5_centre_10 : decode cX5_centre 10 = .ok (.aload_n 0, 1) := by decide +kernel
theorem dX5_centre_11 : decode cX5_centre 11 = .ok (.getfield 11, 3) := by decide +kernel
theorem dX5_centre_14 : decode cX5_centre 14 = .ok (.iload_n 1, 1) := by decide +kernel
theorem dX5_centre_15 : decode cX5_centre 15 = .ok (.aaload, 1) := by decide +kernel
theorem dX5_centre_16 : decode cX5_centre 16 = .ok (.getfield 93, 3) := by decide +kernel
theorem dX5_centre_19 : decode cX5_centre 19 = .ok (.iload_n 2, 1) := by decide +kernel
theorem dX5_centre_20 : decode cX5_centre 20 = .ok (.iload_n 3, 1) := by decide +kernel
theorem dX5_centre_21 : decode cX5_centre 21 = .ok (.iload 4, 2) := by decide +kernel
theorem dX5_centre_23 : decode cX5_centre 23 = .ok (.invokevirtual 76, 3) := by decide +kernel
theorem dX5_centre_26 : decode cX5_centre 26 = .ok (.iconst 1, 1) := by decide +kernel
theorem dX5_centre_27 : decode cX5_centre 27 = .ok (.ireturn, 1) := by decide +kernel
theorem wf_X5_93 : Cond.fieldLink RX5 93 (TX0 5).1 (TX0 5).2.1 (TX0 5).2.2.1 ∈ ltb := List.mem_filter.mpr ⟨List.mem_append_right _ (List.mem_of_getElem? (i := 96) (by decide +kernel)), by decide +kernel⟩
noncomputable def pr_X5_centre : Prg := [(0, z_aload 0 1), (1, z_iload 1 1), (2, z_callv 1 4 sp_X5_isThere), (5, z_nf1 10), (8, z_ic (nI 0) 1), (9, z_zret), (10, z_aload 0 1), (11, z_get 4 0), (14, z_iload 1 1), (15, z_aaload), (16, z_get 0 5), (19, z_iload 2 1), (20, z_iload 3 1), (21, z_iload 4 2), (23, z_callv 3 3 sp_X4_tell), (26, z_ic (nI 1) 1), (27, z_zret)]
set_option maxRecDepth 100000 in
set_option maxHeartbeats 4000000 in
theorem sn_X5_centre {G : Geo} (hG : GeoOK G) (l : Launch) : ∀ q ∈ pr_X5_centre, Sn G l yX5_centre.cls cX5_centre 5 3 (some .boolean) q.1 q.2 :=
  fcs (zs_aload_n dX5_centre_0 rfl) <| fcs (zs_iload_n dX5_centre_1 rfl) <| fcs (zs_callv cls4 (by decide) (ct_X5_isThere hG l) mi_X5_isThere wv_X5_isThere we_X5_isThere (by decide) wm_X5_69 dX5_centre_2) <| fcs (zs_if_ne dX5_centre_5 rfl) <| fcs (zs_iconst dX5_centre_8 rfl) <| fcs (zs_zret dX5_centre_9) <| fcs (zs_aload_n dX5_centre_10 rfl) <| fcs (zs_get cls4 (by decide) (by decide) wf_X5_11 dX5_centre_11) <| fcs (zs_iload_n dX5_centre_14 rfl) <| fcs (zs_aaload dX5_centre_15) <| fcs (zs_get cls0 (by decide) (by decide) wf_X5_93 dX5_centre_16) <| fcs (zs_iload_n dX5_centre_19 rfl) <| fcs (zs_iload_n dX5_centre_20 rfl) <| fcs (zs_iload dX5_centre_21) <| fcs (zs_callv cls3 (by decide) (ct_X4_tell hG l) mi_X4_tell wv_X4_tell we_X4_tell (by decide) wm_X5_76 dX5_centre_23) <| fcs (zs_iconst dX5_centre_26 rfl) <| fcs (zs_zret dX5_centre_27) <| fnl
set_option maxRecDepth 100000 in
set_option maxHeartbeats 4000000 in
theorem ct_X5_centre {G : Geo} (hG : GeoOK G) (l : Launch) : Ct G l yX5_centre cX5_centre 5 (some .boolean) 3 sp_X5_centre := by
  refine Ct.of pr_X5_centre hG (by decide +kernel) (sn_X5_centre hG l) ?_
  intro av σ post hok h
  unfold sp_X5_centre at h
  split at h
  · rename_i b x x0 x1 x2
    obtain ⟨hb, hI, h9⟩ := bif_t h
    clear h
    obtain rfl := is0_t hb
    have h := h9
    refine ⟨Nat.le_of_ble_eq_true rfl, fun X hX => ?_⟩
    refine go hX [] 60 ?_
    cases hB : bt σ x with
    | false =>
      rw [hB] at h
      refine ⟨fun g => absurd (bz_f hB) g, fun g => ?_⟩
      exact ⟨Or.inl rfl, h⟩
    | true =>
      rw [hB] at h
      obtain ⟨k, h1, h2, rfl⟩ := bt_k hI hB
      have h7 := hI.2.1
      dsimp only [cond] at h
      rw [ix_k (by omega)] at h
      refine ⟨fun g => ?_, fun g => absurd g (bz_t hB)⟩
      refine ⟨k, rfl, by omega, ?_⟩
      exact ⟨Or.inr rfl, h⟩
  · exact h.elim
noncomputable def sp_X5_inertia : Spc := fun av σ post => match av with
  | [.inr (.inr b), .inl x, .inl x0, .inl x1, .inl x2] => bif is0 b then (CI σ ∧ post (some (ai (bz (bt σ x)))) (bif bt σ x then sV (sV (sV σ 52 (ix x) (vse 0 (fi x0) (σ.1 52 (ix x)))) 53 (ix x) (vse 1 (fi x1) (σ.1 53 (ix x)))) 54 (ix x) (vse 2 (fi x2) (σ.1 54 (ix x))) else σ)) else False
  | _ => False
theorem dX5_inertia_0 : decode cX5_inertia 0 = .ok (.aload_n 0, 1) := by decide +kernel
theorem dX5_inertia_1 : decode cX5_inertia 1 = .ok (.iload_n 1, 1) := by decide +kernel
theorem dX5_inertia_2 : decode cX5_inertia 2 = .ok (.invokevirtual 69, 3) := by decide +kernel
theorem dX5_inertia_5 : decode cX5_inertia 5 = .ok (.ifCond .ne 5, 3) := by decide +kernel
theorem dX5_inertia_8 : decode cX5_inertia 8 = .ok (.iconst 0, 1) := by decide +kernel
theorem dX5_inertia_9 : decode cX5_inertia 9 = .ok (.ireturn, 1) := by decide +kernel
theorem dX5_inertia_10 : decode cX5_inertia 10 = .ok (.aload_n 0, 1) := by decide +kernel
theorem dX5_inertia_11 : decode cX5_inertia 11 = .ok (.getfield 11, 3) := by decide +kernel
theorem dX5_inertia_14 : decode cX5_inertia 14 = .ok (.iload_n 1, 1) := by decide +kernel
theorem dX5_inertia_15 : decode cX5_inertia 15 = .ok (.aaload, 1) := by decide +kernel
theorem dX5_inertia_16 : decode cX5_inertia 16 = .ok (.getfield 96, 3) := by decide +kernel
theorem dX5_inertia_19 : decode cX5_inertia 19 = .ok (.iload_n 2, 1) := by decide +kernel
theorem dX5_inertia_20 : decode cX5_inertia 20 = .ok (.iload_n 3, 1) := by decide +kernel
theorem dX5_inertia_21 : decode cX5_inertia 21 = .ok (.iload 4, 2) := by decide +kernel
theorem dX5_inertia_23 : decode cX5_inertia 23 = .ok (.invokevirtual 100, 3) := by decide +kernel
theorem dX5_inertia_26 : decode cX5_inertia 26 = .ok (.iconst 1, 1) := by decide +kernel
theorem dX5_inertia_27 : decode cX5_inertia 27 = .ok (.ireturn, 1) := by decide +kernel
theorem wf_X5_96 : Cond.fieldLink RX5 96 (TX0 6).1 (TX0 6).2.1 (TX0 6).2.2.1 ∈ ltb := List.mem_filter.mpr ⟨List.mem_append_right _ (List.mem_of_getElem? (i := 98) (by decide +kernel)), by decide +kernel⟩
theorem wc_X3_tellDiagonal : Cond.code yX3_tellDiagonal cX3_tellDiagonal 4 none ∈ ltb := List.mem_filter.mpr ⟨List.mem_append_right _ (List.mem_of_getElem? (i := 243) (by decide +kernel)), by decide +kernel⟩
theorem mi_X3_tellDiagonal : Mi yX3_tellDiagonal RX3 3 cX3_tellDiagonal 4 none := ⟨by decide +kernel, wc_X3_tellDiagonal, wi_X3, by decide⟩
theorem wv_X3_tellDiagonal : Cond.instanceMethod yX3_tellDiagonal ∈ ltb := List.mem_filter.mpr ⟨List.mem_append_right _ (List.mem_of_getElem? (i := 241) (by decide +kernel)), by decide +kernel⟩
theorem we_X3_tellDiagonal : Cond.selects RX3 yX3_tellDiagonal yX3_tellDiagonal ∈ ltb := List.mem_filter.mpr ⟨List.mem_append_right _ (List.mem_of_getElem? (i := 242) (by decide +kernel)), by decide +kernel⟩
theorem wm_X5_100 : Cond.methodLink RX5 100 yX3_tellDiagonal ∈ ltb := List.mem_filter.mpr ⟨List.mem_append_right _ (List.mem_of_getElem? (i := 240) (by decide +kernel)), by decide +kernel⟩
noncomputable def pr_X5_inertia : Prg := [(0, z_aload 0 1), (1, z_iload 1 1), (2, z_callv 1 4 sp_X5_isThere), (5, z_nf1 10), (8, z_ic (nI 0) 1), (9, z_zret), (10, z_aload 0 1), (11, z_get 4 0), (14, z_iload 1 1), (15, z_aaload), (16, z_get 0 6), (19, z_iload 2 1), (20, z_iload 3 1), (21, z_iload 4 2), (23, z_callv 3 2 sp_X3_tellDiagonal), (26, z_ic (nI 1) 1), (27, z_zret)]
set_option maxRecDepth 100000 in
set_option maxHeartbeats 4000000 in
theorem sn_X5_inertia {G : Geo} (hG : GeoOK G) (l : Launch) : ∀ q ∈ pr_X5_inertia, Sn G l yX5_inertia.cls cX5_inertia 5 3 (some .boolean) q.1 q.2 :=
  fcs (zs_aload_n dX5_inertia_0 rfl) <| fcs (zs_iload_n dX5_inertia_1 rfl) <| fcs (zs_callv cls4 (by decide) (ct_X5_isThere hG l) mi_X5_isThere wv_X5_isThere we_X5_isThere (by decide) wm_X5_69 dX5_inertia_2) <| fcs (zs_if_ne dX5_inertia_5 rfl) <| fcs (zs_iconst dX5_inertia_8 rfl) <| fcs (zs_zret dX5_inertia_9) <| fcs (zs_aload_n dX5_inertia_10 rfl) <| fcs (zs_get cls4 (by decide) (by decide) wf_X5_11 dX5_inertia_11) <| fcs (zs_iload_n dX5_inertia_14 rfl) <| fcs (zs_aaload dX5_inertia_15) <| fcs (zs_get cls0 (by decide) (by decide) wf_X5_96 dX5_inertia_16) <| fcs (zs_iload_n dX5_inertia_19 rfl) <| fcs (zs_iload_n dX5_inertia_20 rfl) <| fcs (zs_iload dX5_inertia_21) <| fcs (zs_callv cls2 (by decide) (ct_X3_tellDiagonal hG l) mi_X3_tellDiagonal wv_X3_tellDiagonal we_X3_tellDiagonal (by decide) wm_X5_100 dX5_inertia_23) <| fcs (zs_iconst dX5_inertia_26 rfl) <| fcs (zs_zret dX5_inertia_27) <| fnl
set_option maxRecDepth 100000 in
set_option maxHeartbeats 4000000 in
theorem ct_X5_inertia {G : Geo} (hG : GeoOK G) (l : Launch) : Ct G l yX5_inertia cX5_inertia 5 (some .boolean) 3 sp_X5_inertia := by
  refine Ct.of pr_X5_inertia hG (by decide +kernel) (sn_X5_inertia hG l) ?_
  intro av σ post hok h
  unfold sp_X5_inertia at h
  split at h
  · rename_i b x x0 x1 x2
    obtain ⟨hb, hI, h9⟩ := bif_t h
    clear h
    obtain rfl := is0_t hb
    have h := h9
    refine ⟨Nat.le_of_ble_eq_true rfl, fun X hX => ?_⟩
    refine go hX [] 60 ?_
    cases hB : bt σ x with
    | false =>
      rw [hB] at h
      refine ⟨fun g => absurd (bz_f hB) g, fun g => ?_⟩
      exact ⟨Or.inl rfl, h⟩
    | true =>
      rw [hB] at h
      obtain ⟨k, h1, h2, rfl⟩ := bt_k hI hB
      have h7 := hI.2.1
      dsimp only [cond] at h
      rw [ix_k (by omega)] at h
      refine ⟨fun g => ?_, fun g => absurd g (bz_t hB)⟩
      refine ⟨k, rfl, by omega, ?_⟩
      exact ⟨Or.inr rfl, h⟩
  · exact h.elim
noncomputable def sp_X5_products : Spc := fun av σ post => match av with
  | [.inr (.inr b), .inl x, .inl x0, .inl x1, .inl x2] => bif is0 b then (CI σ ∧ post (some (ai (bz (bt σ x)))) (bif bt σ x then i_oth σ (ix x) (fi x0) (fi x1) (fi x2) else σ)) else False
  | _ => False
theorem dX5_products_0 : decode cX5_products 0 = .ok (.aload_n 0, 1) := by decide +kernel
theorem dX5_products_1 : decode cX5_products 1 = .ok (.iload_n 1, 1) := by decide +kernel
theorem dX5_products_2 : decode cX5_products 2 = .ok (.invokevirtual 69, 3) := by decide +kernel
theorem dX5_products_5 : decode cX5_products 5 = .ok (.ifCond .ne 5, 3) := by decide +kernel
theorem dX5_products_8 : decode cX5_products 8 = .ok (.iconst 0, 1) := by decide +kernel
theorem dX5_products_9 : decode cX5_products 9 = .ok (.ireturn, 1) := by decide +kernel
theorem dX5_products_10 : decode cX5_products 10 = .ok (.aload_n 0, 1) := by decide +kernel
theorem dX5_products_11 : decode cX5_products 11 = .ok (.getfield 11, 3) := by decide +kernel
theorem dX5_products_14 : decode cX5_products 14 = .ok (.iload_n 1, 1) := by decide +kernel
theorem dX5_products_15 : decode cX5_products 15 = .ok (.aaload, 1) := by decide +kernel
theorem dX5_products_16 : decode cX5_products 16 = .ok (.getfield 96, 3) := by decide +kernel
theorem dX5_products_19 : decode cX5_products 19 = .ok (.iload_n 2, 1) := by decide +kernel
theorem dX5_products_20 : decode cX5_products 20 = .ok (.iload_n 3, 1) := by decide +kernel
theorem dX5_products_21 : decode cX5_products 21 = .ok (.iload 4, 2) := by decide +kernel
theorem dX5_products_23 : decode cX5_products 23 = .ok (.invokevirtual 105, 3) := by decide +kernel
theorem dX5_products_26 : decode cX5_products 26 = .ok (.iconst 1, 1) := by decide +kernel
theorem dX5_products_27 : decode cX5_products 27 = .ok (.ireturn, 1) := by decide +kernel
theorem wc_X3_tellOthers : Cond.code yX3_tellOthers cX3_tellOthers 4 none ∈ ltb := List.mem_filter.mpr ⟨List.mem_append_right _ (List.mem_of_getElem? (i := 252) (by decide +kernel)), by decide +kernel⟩
theorem mi_X3_tellOthers : Mi yX3_tellOthers RX3 3 cX3_tellOthers 4 none := ⟨by decide +kernel, wc_X3_tellOthers, wi_X3, by decide⟩
theorem wv_X3_tellOthers : Cond.instanceMethod yX3_tellOthers ∈ ltb := List.mem_filter.mpr ⟨List.mem_append_right _ (List.mem_of_getElem? (i := 250) (by decide +kernel)), by decide +kernel⟩
theorem we_X3_tellOthers : Cond.selects RX3 yX3_tellOthers yX3_tellOthers ∈ ltb := List.mem_filter.mpr ⟨List.mem_append_right _ (List.mem_of_getElem? (i := 251) (by decide +kernel)), by decide +kernel⟩
theorem wm_X5_105 : Cond.methodLink RX5 105 yX3_tellOthers ∈ ltb := List.mem_filter.mpr ⟨List.mem_append_right _ (List.mem_of_getElem? (i := 249) (by decide +kernel)), by decide +kernel⟩
noncomputable def pr_X5_products : Prg := [(0, z_aload 0 1), (1, z_iload 1 1), (2, z_callv 1 4 sp_X5_isThere), (5, z_nf1 10), (8, z_ic (nI 0) 1), (9, z_zret), (10, z_aload 0 1), (11, z_get 4 0), (14, z_iload 1 1), (15, z_aaload), (16, z_get 0 6), (19, z_iload 2 1), (20, z_iload 3 1), (21, z_iload 4 2), (23, z_callv 3 2 sp_X3_tellOthers), (26, z_ic (nI 1) 1), (27, z_zret)]
set_option maxRecDepth 100000 in
set_option maxHeartbeats 4000000 in
theorem sn_X5_products {G : Geo} (hG : GeoOK G) (l : Launch) : ∀ q ∈ pr_X5_products, Sn G l yX5_products.cls cX5_products 5 3 (some .boolean) q.1 q.2 :=
  fcs (zs_aload_n dX5_products_0 rfl) <| fcs (zs_iload_n dX5_products_1 rfl) <| fcs (zs_callv cls4 (by decide) (ct_X5_isThere hG l) mi_X5_isThere wv_X5_isThere we_X5_isThere (by decide) wm_X5_69 dX5_products_2) <| fcs (zs_if_ne dX5_products_5 rfl) <| fcs (zs_iconst dX5_products_8 rfl) <| fcs (zs_zret dX5_products_9) <| fcs (zs_aload_n dX5_products_10 rfl) <| fcs (zs_get cls4 (by decide) (by decide) wf_X5_11 dX5_products_11) <| fcs (zs_iload_n dX5_products_14 rfl) <| fcs (zs_aaload dX5_products_15) <| fcs (zs_get cls0 (by decide) (by decide) wf_X5_96 dX5_products_16) <| fcs (zs_iload_n dX5_products_19 rfl) <| fcs (zs_iload_n dX5_products_20 rfl) <| fcs (zs_iload dX5_products_21) <| fcs (zs_callv cls2 (by decide) (ct_X3_tellOthers hG l) mi_X3_tellOthers wv_X3_tellOthers we_X3_tellOthers (by decide) wm_X5_105 dX5_products_23) <| fcs (zs_iconst dX5_products_26 rfl) <| fcs (zs_zret dX5_products_27) <| fnl
set_option maxRecDepth 100000 in
set_option maxHeartbeats 4000000 in
theorem ct_X5_products {G : Geo} (hG : GeoOK G) (l : Launch) : Ct G l yX5_products cX5_products 5 (some .boolean) 3 sp_X5_products := by
  refine Ct.of pr_X5_products hG (by decide +kernel) (sn_X5_products hG l) ?_
  intro av σ post hok h
  unfold sp_X5_products at h
  split at h
  · rename_i b x x0 x1 x2
    obtain ⟨hb, hI, h9⟩ := bif_t h
    clear h
    obtain rfl := is0_t hb
    have h := h9
    refine ⟨Nat.le_of_ble_eq_true rfl, fun X hX => ?_⟩
    refine go hX [] 60 ?_
    cases hB : bt σ x with
    | false =>
      rw [hB] at h
      refine ⟨fun g => absurd (bz_f hB) g, fun g => ?_⟩
      exact ⟨Or.inl rfl, h⟩
    | true =>
      rw [hB] at h
      obtain ⟨k, h1, h2, rfl⟩ := bt_k hI hB
      have h7 := hI.2.1
      dsimp only [cond] at h
      rw [ix_k (by omega)] at h
      refine ⟨fun g => ?_, fun g => absurd g (bz_t hB)⟩
      refine ⟨k, rfl, by omega, ?_⟩
      exact ⟨Or.inr rfl, h⟩
  · exact h.elim
noncomputable def sp_X5_joint : Spc := fun av σ post => match av with
  | [.inr (.inr b), .inl x, .inl x0, .inl x1, .inl x2] => bif is0 b then (CI σ ∧ post (some (ai (bz (bt σ x)))) (bif bt σ x then sL (sL (sL σ 10 0 (ix x) (fi x0)) 11 0 (ix x) (fi x1)) 12 0 (ix x) (fi x2) else σ)) else False
  | _ => False
theorem dX5_joint_0 : decode cX5_joint 0 = .ok (.aload_n 0, 1) := by decide +kernel
theorem dX5_joint_1 : decode cX5_joint 1 = .ok (.iload_n 1, 1) := by decide +kernel
theorem dX5_joint_2 : decode cX5_joint 2 = .ok (.invokevirtual 69, 3) := by decide +kernel
theorem dX5_joint_5 : decode cX5_joint 5 = .ok (.ifCond .ne 5, 3) := by decide +kernel
theorem dX5_joint_8 : decode cX5_joint 8 = .ok (.iconst 0, 1) := by decide +kernel
theorem dX5_joint_9 : decode cX5_joint 9 = .ok (.ireturn, 1) := by decide +kernel
theorem dX5_joint_10 : decode cX5_joint 10 = .ok (.aload_n 0, 1) := by decide +kernel
theorem dX5_joint_11 : decode cX5_joint 11 = .ok (.getfield 32, 3) := by decide +kernel
theorem dX5_joint_14 : decode cX5_joint 14 = .ok (.iload_n 1, 1) := by decide +kernel
theorem dX5_joint_15 : decode cX5_joint 15 = .ok (.iload_n 2, 1) := by decide +kernel
theorem dX5_joint_16 : decode cX5_joint 16 = .ok (.invokestatic 80, 3) := by decide +kernel
theorem dX5_joint_19 : decode cX5_joint 19 = .ok (.lastore, 1) := by decide +kernel
theorem dX5_joint_20 : decode cX5_joint 20 = .ok (.aload_n 0, 1) := by decide +kernel
theorem dX5_joint_21 : decode cX5_joint 21 = .ok (.getfield 36, 3) := by decide +kernel
theorem dX5_joint_24 : decode cX5_joint 24 = .ok (.iload_n 1, 1) := by decide +kernel
theorem dX5_joint_25 : decode cX5_joint 25 = .ok (.iload_n 3, 1) := by decide +kernel
theorem dX5_joint_26 : decode cX5_joint 26 = .ok (.invokestatic 80, 3) := by decide +kernel
theorem dX5_joint_29 : decode cX5_joint 29 = .ok (.lastore, 1) := by decide +kernel
theorem dX5_joint_30 : decode cX5_joint 30 = .ok (.aload_n 0, 1) := by decide +kernel
theorem dX5_joint_31 : decode cX5_joint 31 = .ok (.getfield 39, 3) := by decide +kernel
theorem dX5_joint_34 : decode cX5_joint 34 = .ok (.iload_n 1, 1) := by decide +kernel
theorem dX5_joint_35 : decode cX5_joint 35 = .ok (.iload 4, 2) := by decide +kernel
theorem dX5_joint_37 : decode cX5_joint 37 = .ok (.invokestatic 80, 3) := by decide +kernel
theorem dX5_joint_40 : decode cX5_joint 40 = .ok (.lastore, 1) := by decide +kernel
theorem dX5_joint_41 : decode cX5_joint 41 = .ok (.iconst 1, 1) := by decide +kernel
theorem dX5_joint_42 : decode cX5_joint 42 = .ok (.ireturn, 1) := by decide +kernel
theorem wf_X5_32 : Cond.fieldLink RX5 32 (TX5 4).1 (TX5 4).2.1 (TX5 4).2.2.1 ∈ ltb := List.mem_filter.mpr ⟨List.mem_append_right _ (List.mem_of_getElem? (i := 156) (by decide +kernel)), by decide +kernel⟩
theorem wf_X5_36 : Cond.fieldLink RX5 36 (TX5 5).1 (TX5 5).2.1 (TX5 5).2.2.1 ∈ ltb := List.mem_filter.mpr ⟨List.mem_append_right _ (List.mem_of_getElem? (i := 157) (by decide +kernel)), by decide +kernel⟩
theorem wf_X5_39 : Cond.fieldLink RX5 39 (TX5 6).1 (TX5 6).2.1 (TX5 6).2.2.1 ∈ ltb := List.mem_filter.mpr ⟨List.mem_append_right _ (List.mem_of_getElem? (i := 158) (by decide +kernel)), by decide +kernel⟩
noncomputable def pr_X5_joint : Prg := [(0, z_aload 0 1), (1, z_iload 1 1), (2, z_callv 1 4 sp_X5_isThere), (5, z_nf1 10), (8, z_ic (nI 0) 1), (9, z_zret), (10, z_aload 0 1), (11, z_get 4 4), (14, z_iload 1 1), (15, z_iload 2 1), (16, z_call 1 sp_X1_of), (19, z_lastore), (20, z_aload 0 1), (21, z_get 4 5), (24, z_iload 1 1), (25, z_iload 3 1), (26, z_call 1 sp_X1_of), (29, z_lastore), (30, z_aload 0 1), (31, z_get 4 6), (34, z_iload 1 1), (35, z_iload 4 2), (37, z_call 1 sp_X1_of), (40, z_lastore), (41, z_ic (nI 1) 1), (42, z_zret)]
set_option maxRecDepth 100000 in
set_option maxHeartbeats 4000000 in
theorem sn_X5_joint {G : Geo} (hG : GeoOK G) (l : Launch) : ∀ q ∈ pr_X5_joint, Sn G l yX5_joint.cls cX5_joint 5 2 (some .boolean) q.1 q.2 :=
  fcs (zs_aload_n dX5_joint_0 rfl) <| fcs (zs_iload_n dX5_joint_1 rfl) <| fcs (zs_callv cls4 (by decide) (ct_X5_isThere hG l) mi_X5_isThere wv_X5_isThere we_X5_isThere (by decide) wm_X5_69 dX5_joint_2) <| fcs (zs_if_ne dX5_joint_5 rfl) <| fcs (zs_iconst dX5_joint_8 rfl) <| fcs (zs_zret dX5_joint_9) <| fcs (zs_aload_n dX5_joint_10 rfl) <| fcs (zs_get cls4 (by decide) (by decide) wf_X5_32 dX5_joint_11) <| fcs (zs_iload_n dX5_joint_14 rfl) <| fcs (zs_iload_n dX5_joint_15 rfl) <| fcs (zs_calls (ct_X1_of hG l) mi_X1_of ws_X1_of (by decide) wm_X5_80 dX5_joint_16) <| fcs (zs_lastore dX5_joint_19) <| fcs (zs_aload_n dX5_joint_20 rfl) <| fcs (zs_get cls4 (by decide) (by decide) wf_X5_36 dX5_joint_21) <| fcs (zs_iload_n dX5_joint_24 rfl) <| fcs (zs_iload_n dX5_joint_25 rfl) <| fcs (zs_calls (ct_X1_of hG l) mi_X1_of ws_X1_of (by decide) wm_X5_80 dX5_joint_26) <| fcs (zs_lastore dX5_joint_29) <| fcs (zs_aload_n dX5_joint_30 rfl) <| fcs (zs_get cls4 (by decide) (by decide) wf_X5_39 dX5_joint_31) <| fcs (zs_iload_n dX5_joint_34 rfl) <| fcs (zs_iload dX5_joint_35) <| fcs (zs_calls (ct_X1_of hG l) mi_X1_of ws_X1_of (by decide) wm_X5_80 dX5_joint_37) <| fcs (zs_lastore dX5_joint_40) <| fcs (zs_iconst dX5_joint_41 rfl) <| fcs (zs_zret dX5_joint_42) <| fnl
set_option maxRecDepth 100000 in
set_option maxHeartbeats 4000000 in
theorem ct_X5_joint {G : Geo} (hG : GeoOK G) (l : Launch) : Ct G l yX5_joint cX5_joint 5 (some .boolean) 2 sp_X5_joint := by
  refine Ct.of pr_X5_joint hG (by decide +kernel) (sn_X5_joint hG l) ?_
  intro av σ post hok h
  unfold sp_X5_joint at h
  split at h
  · rename_i b x x0 x1 x2
    obtain ⟨hb, hI, h9⟩ := bif_t h
    clear h
    obtain rfl := is0_t hb
    have h := h9
    refine ⟨Nat.le_of_ble_eq_true rfl, fun X hX => ?_⟩
    refine go hX [] 60 ?_
    cases hB : bt σ x with
    | false =>
      rw [hB] at h
      refine ⟨fun g => absurd (bz_f hB) g, fun g => ?_⟩
      exact ⟨Or.inl rfl, h⟩
    | true =>
      rw [hB] at h
      obtain ⟨k, h1, h2, rfl⟩ := bt_k hI hB
      have h7 := hI.2.1
      dsimp only [cond] at h
      rw [ix_k (by omega)] at h
      refine ⟨fun g => ?_, fun g => absurd g (bz_t hB)⟩
      refine ⟨⟨by decide, by decide⟩, k, _, rfl, by show k < 8; omega, rfl, ?_⟩
      refine ⟨⟨by decide, by decide⟩, k, _, rfl, by show k < 8; omega, rfl, ?_⟩
      refine ⟨⟨by decide, by decide⟩, k, _, rfl, by show k < 8; omega, rfl, ?_⟩
      exact ⟨Or.inr rfl, h⟩
  · exact h.elim
noncomputable def sp_X5_torque : Spc := fun av σ post => match av with
  | [.inr (.inr b), .inl x, .inl x0] => bif is0 b then (CI σ ∧ post (some (ai (bz (bt σ x)))) (bif bt σ x then sL σ 13 0 (ix x) (fi x0) else σ)) else False
  | _ => False
theorem dX5_torque_0 : decode cX5_torque 0 = .ok (.aload_n 0, 1) := by decide +kernel
theorem dX5_torque_1 : decode cX5_torque 1 = .ok (.iload_n 1, 1) := by decide +kernel
theorem dX5_torque_2 : decode cX5_torque 2 = .ok (.invokevirtual 69, 3) := by decide +kernel
theorem dX5_torque_5 : decode cX5_torque 5 = .ok (.ifCond .ne 5, 3) := by decide +kernel
theorem dX5_torque_8 : decode cX5_torque 8 = .ok (.iconst 0, 1) := by decide +kernel
theorem dX5_torque_9 : decode cX5_torque 9 = .ok (.ireturn, 1) := by decide +kernel
theorem dX5_torque_10 : decode cX5_torque 10 = .ok (.aload_n 0, 1) := by decide +kernel
theorem dX5_torque_11 : decode cX5_torque 11 = .ok (.getfield 42, 3) := by decide +kernel
theorem dX5_torque_14 : decode cX5_torque 14 = .ok (.iload_n 1, 1) := by decide +kernel
theorem dX5_torque_15 : decode cX5_torque 15 = .ok (.iload_n 2, 1) := by decide +kernel
theorem dX5_torque_16 : decode cX5_torque 16 = .ok (.invokestatic 80, 3) := by decide +kernel
theorem dX5_torque_19 : decode cX5_torque 19 = .ok (.lastore, 1) := by decide +kernel
theorem dX5_torque_20 : decode cX5_torque 20 = .ok (.iconst 1, 1) := by decide +kernel
theorem dX5_torque_21 : decode cX5_torque 21 = .ok (.ireturn, 1) := by decide +kernel
theorem wf_X5_42 : Cond.fieldLink RX5 42 (TX5 7).1 (TX5 7).2.1 (TX5 7).2.2.1 ∈ ltb := List.mem_filter.mpr ⟨List.mem_append_right _ (List.mem_of_getElem? (i := 159) (by decide +kernel)), by decide +kernel⟩
noncomputable def pr_X5_torque : Prg := [(0, z_aload 0 1), (1, z_iload 1 1), (2, z_callv 1 4 sp_X5_isThere), (5, z_nf1 10), (8, z_ic (nI 0) 1), (9, z_zret), (10, z_aload 0 1), (11, z_get 4 7), (14, z_iload 1 1), (15, z_iload 2 1), (16, z_call 1 sp_X1_of), (19, z_lastore), (20, z_ic (nI 1) 1), (21, z_zret)]
set_option maxRecDepth 100000 in
set_option maxHeartbeats 4000000 in
theorem sn_X5_torque {G : Geo} (hG : GeoOK G) (l : Launch) : ∀ q ∈ pr_X5_torque, Sn G l yX5_torque.cls cX5_torque 3 2 (some .boolean) q.1 q.2 :=
  fcs (zs_aload_n dX5_torque_0 rfl) <| fcs (zs_iload_n dX5_torque_1 rfl) <| fcs (zs_callv cls4 (by decide) (ct_X5_isThere hG l) mi_X5_isThere wv_X5_isThere we_X5_isThere (by decide) wm_X5_69 dX5_torque_2) <| fcs (zs_if_ne dX5_torque_5 rfl) <| fcs (zs_iconst dX5_torque_8 rfl) <| fcs (zs_zret dX5_torque_9) <| fcs (zs_aload_n dX5_torque_10 rfl) <| fcs (zs_get cls4 (by decide) (by decide) wf_X5_42 dX5_torque_11) <| fcs (zs_iload_n dX5_torque_14 rfl) <| fcs (zs_iload_n dX5_torque_15 rfl) <| fcs (zs_calls (ct_X1_of hG l) mi_X1_of ws_X1_of (by decide) wm_X5_80 dX5_torque_16) <| fcs (zs_lastore dX5_torque_19) <| fcs (zs_iconst dX5_torque_20 rfl) <| fcs (zs_zret dX5_torque_21) <| fnl
set_option maxRecDepth 100000 in
set_option maxHeartbeats 4000000 in
theorem ct_X5_torque {G : Geo} (hG : GeoOK G) (l : Launch) : Ct G l yX5_torque cX5_torque 3 (some .boolean) 2 sp_X5_torque := by
  refine Ct.of pr_X5_torque hG (by decide +kernel) (sn_X5_torque hG l) ?_
  intro av σ post hok h
  unfold sp_X5_torque at h
  split at h
  · rename_i b x x0
    obtain ⟨hb, hI, h9⟩ := bif_t h
    clear h
    obtain rfl := is0_t hb
    have h := h9
    refine ⟨Nat.le_of_ble_eq_true rfl, fun X hX => ?_⟩
    refine go hX [] 60 ?_
    cases hB : bt σ x with
    | false =>
      rw [hB] at h
      refine ⟨fun g => absurd (bz_f hB) g, fun g => ?_⟩
      exact ⟨Or.inl rfl, h⟩
    | true =>
      rw [hB] at h
      obtain ⟨k, h1, h2, rfl⟩ := bt_k hI hB
      have h7 := hI.2.1
      dsimp only [cond] at h
      rw [ix_k (by omega)] at h
      refine ⟨fun g => ?_, fun g => absurd g (bz_t hB)⟩
      refine ⟨⟨by decide, by decide⟩, k, _, rfl, by show k < 8; omega, rfl, ?_⟩
      exact ⟨Or.inr rfl, h⟩
  · exact h.elim
noncomputable def sp_X5_gravity : Spc := fun av σ post => match av with
  | [.inr (.inr b), .inl x, .inl y, .inl z] => bif is0 b then post none (sV σ 69 0 (fi x, fi y, fi z)) else False
  | _ => False
theorem dX5_gravity_0 : decode cX5_gravity 0 = .ok (.aload_n 0, 1) := by decide +kernel
theorem dX5_gravity_1 : decode cX5_gravity 1 = .ok (.getfield 25, 3) := by decide +kernel
theorem dX5_gravity_4 : decode cX5_gravity 4 = .ok (.iload_n 1, 1) := by decide +kernel
theorem dX5_gravity_5 : decode cX5_gravity 5 = .ok (.iload_n 2, 1) := by decide +kernel
theorem dX5_gravity_6 : decode cX5_gravity 6 = .ok (.iload_n 3, 1) := by decide +kernel
theorem dX5_gravity_7 : decode cX5_gravity 7 = .ok (.invokevirtual 76, 3) := by decide +kernel
theorem dX5_gravity_10 : decode cX5_gravity 10 = .ok (.return_, 1) := by decide +kernel
theorem wf_X5_25 : Cond.fieldLink RX5 25 (TX5 2).1 (TX5 2).2.1 (TX5 2).2.2.1 ∈ ltb := List.mem_filter.mpr ⟨List.mem_append_right _ (List.mem_of_getElem? (i := 154) (by decide +kernel)), by decide +kernel⟩
noncomputable def pr_X5_gravity : Prg := [(0, z_aload 0 1), (1, z_get 4 2), (4, z_iload 1 1), (5, z_iload 2 1), (6, z_iload 3 1), (7, z_callv 3 3 sp_X4_tell), (10, z_vret)]
set_option maxRecDepth 100000 in
set_option maxHeartbeats 4000000 in
theorem sn_X5_gravity {G : Geo} (hG : GeoOK G) (l : Launch) : ∀ q ∈ pr_X5_gravity, Sn G l yX5_gravity.cls cX5_gravity 4 3 none q.1 q.2 :=
  fcs (zs_aload_n dX5_gravity_0 rfl) <| fcs (zs_get cls4 (by decide) (by decide) wf_X5_25 dX5_gravity_1) <| fcs (zs_iload_n dX5_gravity_4 rfl) <| fcs (zs_iload_n dX5_gravity_5 rfl) <| fcs (zs_iload_n dX5_gravity_6 rfl) <| fcs (zs_callv cls3 (by decide) (ct_X4_tell hG l) mi_X4_tell wv_X4_tell we_X4_tell (by decide) wm_X5_76 dX5_gravity_7) <| fcs (zs_vret dX5_gravity_10) <| fnl
set_option maxRecDepth 100000 in
set_option maxHeartbeats 4000000 in
theorem ct_X5_gravity {G : Geo} (hG : GeoOK G) (l : Launch) : Ct G l yX5_gravity cX5_gravity 4 none 3 sp_X5_gravity := by
  refine Ct.of pr_X5_gravity hG (by decide +kernel) (sn_X5_gravity hG l) ?_
  intro av σ post hok h
  unfold sp_X5_gravity at h
  split at h
  · obtain ⟨hb, h⟩ := bif_t h
    obtain rfl := is0_t hb
    refine ⟨Nat.le_of_ble_eq_true rfl, fun X hX => ?_⟩
    refine go hX [] 60 ?_
    exact h
  · exact h.elim
noncomputable def sp_X5_acceleration : Spc := fun av σ post => match av with
  | [.inr (.inr b), .inl x] => bif is0 b then (CI σ ∧ post (some (ai (bif bt σ x then nI (σ.2.1 12 0 (ix x)).val else (-1)))) σ) else False
  | _ => False
theorem dX5_acceleration_0 : decode cX5_acceleration 0 = .ok (.aload_n 0, 1) := by decide +kernel
theorem dX5_acceleration_1 : decode cX5_acceleration 1 = .ok (.iload_n 1, 1) := by decide +kernel
theorem dX5_acceleration_2 : decode cX5_acceleration 2 = .ok (.invokevirtual 69, 3) := by decide +kernel
theorem dX5_acceleration_5 : decode cX5_acceleration 5 = .ok (.ifCond .ne 5, 3) := by decide +kernel
theorem dX5_acceleration_8 : decode cX5_acceleration 8 = .ok (.iconst (-1), 1) := by decide +kernel
theorem dX5_acceleration_9 : decode cX5_acceleration 9 = .ok (.ireturn, 1) := by decide +kernel
theorem dX5_acceleration_10 : decode cX5_acceleration 10 = .ok (.aload_n 0, 1) := by decide +kernel
theorem dX5_acceleration_11 : decode cX5_acceleration 11 = .ok (.getfield 39, 3) := by decide +kernel
theorem dX5_acceleration_14 : decode cX5_acceleration 14 = .ok (.iload_n 1, 1) := by decide +kernel
theorem dX5_acceleration_15 : decode cX5_acceleration 15 = .ok (.laload, 1) := by decide +kernel
theorem dX5_acceleration_16 : decode cX5_acceleration 16 = .ok (.l2i, 1) := by decide +kernel
theorem dX5_acceleration_17 : decode cX5_acceleration 17 = .ok (.ireturn, 1) := by decide +kernel
noncomputable def pr_X5_acceleration : Prg := [(0, z_aload 0 1), (1, z_iload 1 1), (2, z_callv 1 4 sp_X5_isThere), (5, z_nf1 10), (8, z_ic (-1) 1), (9, z_iret), (10, z_aload 0 1), (11, z_get 4 6), (14, z_iload 1 1), (15, z_laload), (16, z_l2i), (17, z_iret)]
set_option maxRecDepth 100000 in
set_option maxHeartbeats 4000000 in
theorem sn_X5_acceleration {G : Geo} (hG : GeoOK G) (l : Launch) : ∀ q ∈ pr_X5_acceleration, Sn G l yX5_acceleration.cls cX5_acceleration 2 1 (some .int) q.1 q.2 :=
  fcs (zs_aload_n dX5_acceleration_0 rfl) <| fcs (zs_iload_n dX5_acceleration_1 rfl) <| fcs (zs_callv cls4 (by decide) (ct_X5_isThere hG l) mi_X5_isThere wv_X5_isThere we_X5_isThere (by decide) wm_X5_69 dX5_acceleration_2) <| fcs (zs_if_ne dX5_acceleration_5 rfl) <| fcs (zs_iconst dX5_acceleration_8 rfl) <| fcs (zs_iret dX5_acceleration_9) <| fcs (zs_aload_n dX5_acceleration_10 rfl) <| fcs (zs_get cls4 (by decide) (by decide) wf_X5_39 dX5_acceleration_11) <| fcs (zs_iload_n dX5_acceleration_14 rfl) <| fcs (zs_laload dX5_acceleration_15) <| fcs (zs_l2i dX5_acceleration_16) <| fcs (zs_iret dX5_acceleration_17) <| fnl
set_option maxRecDepth 100000 in
set_option maxHeartbeats 4000000 in
theorem ct_X5_acceleration {G : Geo} (hG : GeoOK G) (l : Launch) : Ct G l yX5_acceleration cX5_acceleration 2 (some .int) 1 sp_X5_acceleration := by
  refine Ct.of pr_X5_acceleration hG (by decide +kernel) (sn_X5_acceleration hG l) ?_
  intro av σ post hok h
  unfold sp_X5_acceleration at h
  split at h
  · rename_i b x
    obtain ⟨hb, hI, h9⟩ := bif_t h
    clear h
    obtain rfl := is0_t hb
    have h := h9
    refine ⟨Nat.le_of_ble_eq_true rfl, fun X hX => ?_⟩
    refine go hX [] 60 ?_
    cases hB : bt σ x with
    | false =>
      rw [hB] at h
      refine ⟨fun g => absurd (bz_f hB) g, fun g => ?_⟩
      exact h
    | true =>
      rw [hB] at h
      obtain ⟨k, h1, h2, rfl⟩ := bt_k hI hB
      have h7 := hI.2.1
      dsimp only [cond] at h
      rw [ix_k (by omega), ← l2i_em] at h
      refine ⟨fun g => ?_, fun g => absurd g (bz_t hB)⟩
      refine ⟨⟨by decide, by decide⟩, k, rfl, by show k < 8; omega, ?_⟩
      exact h
  · exact h.elim
/-- body: refused, or one more -/
def bok (σ : SS) (p : Int32) : Bool := decide (¬ p < 0) && (decide (¬ σ.2.2 0 0 < p) && decide (σ.2.2 0 0 < nI 7))
def c_bod (σ : SS) (p s : Int32) : SS := sI (sI (sI σ 0 0 (σ.2.2 0 0 + nI 1)) 1 (nn σ + 1) p) 2 (nn σ + 1) s
noncomputable def sp_X5_body : Spc := fun av σ post => match av with
  | [.inr (.inr b), .inl p, .inl s] => bif is0 b then (CI σ ∧ (s = 0 ∨ s = 1) ∧ post (some (ai (bif bok σ p then σ.2.2 0 0 + nI 1 else (-1)))) (bif bok σ p then c_bod σ p s else σ)) else False
  | _ => False
theorem dX5_body_0 : decode cX5_body 0 = .ok (.iload_n 1, 1) := by decide +kernel
theorem dX5_body_1 : decode cX5_body 1 = .ok (.ifCond .lt 20, 3) := by decide +kernel
theorem dX5_body_4 : decode cX5_body 4 = .ok (.iload_n 1, 1) := by decide +kernel
theorem dX5_body_5 : decode cX5_body 5 = .ok (.aload_n 0, 1) := by decide +kernel
theorem dX5_body_6 : decode cX5_body 6 = .ok (.getfield 16, 3) := by decide +kernel
theorem dX5_body_9 : decode cX5_body 9 = .ok (.if_icmp .gt 12, 3) := by decide +kernel
theorem dX5_body_12 : decode cX5_body 12 = .ok (.aload_n 0, 1) := by decide +kernel
theorem dX5_body_13 : decode cX5_body 13 = .ok (.getfield 16, 3) := by decide +kernel
theorem dX5_body_16 : decode cX5_body 16 = .ok (.bipush 7, 2) := by decide +kernel
theorem dX5_body_18 : decode cX5_body 18 = .ok (.if_icmp .lt 5, 3) := by decide +kernel
theorem dX5_body_21 : decode cX5_body 21 = .ok (.iconst (-1), 1) := by decide +kernel
theorem dX5_body_22 : decode cX5_body 22 = .ok (.ireturn, 1) := by decide +kernel
theorem dX5_body_23 : decode cX5_body 23 = .ok (.aload_n 0, 1) := by decide +kernel
theorem dX5_body_24 : decode cX5_body 24 = .ok (.dup, 1) := by decide +kernel
theorem dX5_body_25 : decode cX5_body 25 = .ok (.getfield 16, 3) := by decide +kernel
theorem dX5_body_28 : decode cX5_body 28 = .ok (.iconst 1, 1) := by decide +kernel
theorem dX5_body_29 : decode cX5_body 29 = .ok (.iadd, 1) := by decide +kernel
theorem dX5_body_30 : decode cX5_body 30 = .ok (.putfield 16, 3) := by decide +kernel
theorem dX5_body_33 : decode cX5_body 33 = .ok (.aload_n 0, 1) := by decide +kernel
theorem dX5_body_34 : decode cX5_body 34 = .ok (.getfield 11, 3) := by decide +kernel
theorem dX5_body_37 : decode cX5_body 37 = .ok (.aload_n 0, 1) := by decide +kernel
theorem dX5_body_38 : decode cX5_body 38 = .ok (.getfield 16, 3) := by decide +kernel
theorem dX5_body_41 : decode cX5_body 41 = .ok (.aaload, 1) := by decide +kernel
theorem dX5_body_42 : decode cX5_body 42 = .ok (.iload_n 1, 1) := by decide +kernel
theorem dX5_body_43 : decode cX5_body 43 = .ok (.iload_n 2, 1) := by decide +kernel
theorem dX5_body_44 : decode cX5_body 44 = .ok (.invokevirtual 65, 3) := by decide +kernel
theorem dX5_body_47 : decode cX5_body 47 = .ok (.aload_n 0, 1) := by decide +kernel
theorem dX5_body_48 : decode cX5_body 48 = .ok (.getfield 16, 3) := by decide +kernel
theorem dX5_body_51 : decode cX5_body 51 = .ok (.ireturn, 1) := by decide +kernel
theorem wc_X0_hangOn : Cond.code yX0_hangOn cX0_hangOn 3 none ∈ ltb := List.mem_filter.mpr ⟨List.mem_append_right _ (List.mem_of_getElem? (i := 203) (by decide +kernel)), by decide +kernel⟩
theorem mi_X0_hangOn : Mi yX0_hangOn RX0 2 cX0_hangOn 3 none := ⟨by decide +kernel, wc_X0_hangOn, wi_X0, by decide⟩
theorem wv_X0_hangOn : Cond.instanceMethod yX0_hangOn ∈ ltb := List.mem_filter.mpr ⟨List.mem_append_right _ (List.mem_of_getElem? (i := 201) (by decide +kernel)), by decide +kernel⟩
theorem we_X0_hangOn : Cond.selects RX0 yX0_hangOn yX0_hangOn ∈ ltb := List.mem_filter.mpr ⟨List.mem_append_right _ (List.mem_of_getElem? (i := 202) (by decide +kernel)), by decide +kernel⟩
theorem wm_X5_65 : Cond.methodLink RX5 65 yX0_hangOn ∈ ltb := List.mem_filter.mpr ⟨List.mem_append_right _ (List.mem_of_getElem? (i := 200) (by decide +kernel)), by decide +kernel⟩
noncomputable def pr_X5_body : Prg := [(0, z_iload 1 1), (1, z_if1 (fun x => x < 0) 21), (4, z_iload 1 1), (5, z_aload 0 1), (6, z_get 4 1), (9, z_if2 (fun x y => y < x) 21), (12, z_aload 0 1), (13, z_get 4 1), (16, z_ic (nI 7) 2), (18, z_if2 (fun x y => x < y) 23), (21, z_ic (-1) 1), (22, z_iret), (23, z_aload 0 1), (24, z_dup), (25, z_get 4 1), (28, z_ic (nI 1) 1), (29, z_iadd), (30, z_cnt), (33, z_aload 0 1), (34, z_get 4 0), (37, z_aload 0 1), (38, z_get 4 1), (41, z_aaload), (42, z_iload 1 1), (43, z_iload 2 1), (44, z_callv 2 0 sp_X0_hangOn), (47, z_aload 0 1), (48, z_get 4 1), (51, z_iret)]
set_option maxRecDepth 100000 in
set_option maxHeartbeats 4000000 in
theorem sn_X5_body {G : Geo} (hG : GeoOK G) (l : Launch) : ∀ q ∈ pr_X5_body, Sn G l yX5_body.cls cX5_body 3 1 (some .int) q.1 q.2 :=
  fcs (zs_iload_n dX5_body_0 rfl) <| fcs (zs_if_lt dX5_body_1 rfl) <| fcs (zs_iload_n dX5_body_4 rfl) <| fcs (zs_aload_n dX5_body_5 rfl) <| fcs (zs_get cls4 (by decide) (by decide) wf_X5_16 dX5_body_6) <| fcs (zs_icmp_gt dX5_body_9 rfl) <| fcs (zs_aload_n dX5_body_12 rfl) <| fcs (zs_get cls4 (by decide) (by decide) wf_X5_16 dX5_body_13) <| fcs (zs_bipush dX5_body_16 rfl) <| fcs (zs_icmp_lt dX5_body_18 rfl) <| fcs (zs_iconst dX5_body_21 rfl) <| fcs (zs_iret dX5_body_22) <| fcs (zs_aload_n dX5_body_23 rfl) <| fcs (zs_dup dX5_body_24) <| fcs (zs_get cls4 (by decide) (by decide) wf_X5_16 dX5_body_25) <| fcs (zs_iconst dX5_body_28 rfl) <| fcs (zs_iadd dX5_body_29) <| fcs (zs_cnt wf_X5_16 dX5_body_30) <| fcs (zs_aload_n dX5_body_33 rfl) <| fcs (zs_get cls4 (by decide) (by decide) wf_X5_11 dX5_body_34) <| fcs (zs_aload_n dX5_body_37 rfl) <| fcs (zs_get cls4 (by decide) (by decide) wf_X5_16 dX5_body_38) <| fcs (zs_aaload dX5_body_41) <| fcs (zs_iload_n dX5_body_42 rfl) <| fcs (zs_iload_n dX5_body_43 rfl) <| fcs (zs_callv cls0 (by decide) (ct_X0_hangOn hG l) mi_X0_hangOn wv_X0_hangOn we_X0_hangOn (by decide) wm_X5_65 dX5_body_44) <| fcs (zs_aload_n dX5_body_47 rfl) <| fcs (zs_get cls4 (by decide) (by decide) wf_X5_16 dX5_body_48) <| fcs (zs_iret dX5_body_51) <| fnl
set_option maxRecDepth 100000 in
set_option maxHeartbeats 4000000 in
theorem ct_X5_body {G : Geo} (hG : GeoOK G) (l : Launch) : Ct G l yX5_body cX5_body 3 (some .int) 1 sp_X5_body := by
  refine Ct.of pr_X5_body hG (by decide +kernel) (sn_X5_body hG l) ?_
  intro av σ post hok h
  unfold sp_X5_body at h
  split at h
  · rename_i b p s
    obtain ⟨hb, hI, hs, h9⟩ := bif_t h
    clear h
    obtain rfl := is0_t hb
    have h := h9
    refine ⟨Nat.le_of_ble_eq_true rfl, fun X hX => ?_⟩
    refine go hX [] 60 ?_
    refine ⟨fun g1 => ?_, fun g1 => ⟨fun g2 => ?_, fun g2 => ⟨fun g3 => ?_, fun g3 => ?_⟩⟩⟩
    · have e : bok σ p = false := by unfold bok; rw [decide_eq_false (fun q => q g1)]; rfl
      rw [e] at h
      exact h
    · have e : bok σ p = false := by unfold bok; rw [decide_eq_false (show ¬ ¬ σ.2.2 0 0 < p from fun q => q g2), Bool.false_and, Bool.and_false]
      rw [e] at h
      exact h
    · have e : bok σ p = true := by unfold bok; rw [decide_eq_true g1, decide_eq_true (show ¬ σ.2.2 0 0 < p from g2), decide_eq_true (show σ.2.2 0 0 < nI 7 from g3)]; rfl
      rw [e] at h
      have g3 : σ.2.2 0 0 < nI 7 := g3
      have h7 := hI.2.1
      rw [hI.1, nI_ltI (by omega) (by decide)] at g3
      refine ⟨rfl, ?_⟩
      refine ⟨nn σ + 1, ?_, by omega, ?_⟩
      · show (sI σ 0 0 (σ.2.2 0 0 + nI 1)).2.2 0 0 = nI (nn σ + 1)
        rw [sI_at, hI.1, nI_add]
      · refine ⟨hs, ?_⟩
        exact h
    · have e : bok σ p = false := by unfold bok; rw [decide_eq_false (show ¬ σ.2.2 0 0 < nI 7 from g3), Bool.and_false, Bool.and_false]
      rw [e] at h
      exact h
  · exact h.elim
