/-! The class's Vector -/
def v_add (a b : V3) : V3 := (a.1 + b.1, a.2.1 + b.2.1, a.2.2 + b.2.2)
def v_sub (a b : V3) : V3 := (a.1 - b.1, a.2.1 - b.2.1, a.2.2 - b.2.2)
def v_sca (a : V3) (f : ZF) : V3 := (a.1 * f, a.2.1 * f, a.2.2 * f)
def v_adt (x a : V3) (f : ZF) : V3 := (x.1 + a.1 * f, x.2.1 + a.2.1 * f, x.2.2 + a.2.2 * f)
def v_crs (a b : V3) : V3 := (a.2.1 * b.2.2 - a.2.2 * b.2.1, a.2.2 * b.1 - a.1 * b.2.2, a.1 * b.2.1 - a.2.1 * b.1)
def v_dot (a b : V3) : ZF := a.1 * b.1 + a.2.1 * b.2.1 + a.2.2 * b.2.2
theorem sV_sV (σ : SS) (kd k : Nat) (v w : V3) : sV (sV σ kd k v) kd k w = sV σ kd k w := by
  unfold sV
  refine Prod.ext ?_ rfl
  funext a b
  by_cases h : a = kd ∧ b = k
  · simp only [if_pos h]
  · simp only [if_neg h]
theorem rd (σ : SS) (kd k a b : Nat) {i j : Nat} (f : ZF) (hi : i < 3) (hj : j < 3) (hij : i ≠ j) : vco j ((sV σ kd k (vse i f (σ.1 kd k))).1 a b) = vco j (σ.1 a b) := by
  by_cases h : a = kd ∧ b = k
  · obtain ⟨rfl, rfl⟩ := h
    rw [sV_at]
    rcases (show i = 0 ∨ i = 1 ∨ i = 2 by omega) with rfl | rfl | rfl <;> rcases (show j = 0 ∨ j = 1 ∨ j = 2 by omega) with rfl | rfl | rfl <;> first | rfl | exact absurd rfl hij
  · have e : (sV σ kd k (vse i f (σ.1 kd k))).1 a b = σ.1 a b := if_neg h
    rw [e]
theorem fin3 {σ : SS} {kd k : Nat} {g0 g1 g2 : ZF} {v : V3} (h0 : g0 = v.1) (h1 : g1 = v.2.1) (h2 : g2 = v.2.2) :
    sV (sV (sV σ kd k (vse 0 g0 (σ.1 kd k))) kd k (vse 1 g1 ((sV σ kd k (vse 0 g0 (σ.1 kd k))).1 kd k))) kd k (vse 2 g2 ((sV (sV σ kd k (vse 0 g0 (σ.1 kd k))) kd k (vse 1 g1 ((sV σ kd k (vse 0 g0 (σ.1 kd k))).1 kd k))).1 kd k)) = sV σ kd k v := by
  rw [sV_at, sV_at, sV_sV, sV_sV, h0, h1, h2]
  rfl
theorem cpost {post : Option AV → SS → Prop} {r : Option AV} {σ σ' : SS} (e : σ' = σ) (h : post r σ) : post r σ' := by rw [e]; exact h
theorem bif_t {b : Bool} {P : Prop} (h : bif b then P else False) : b = true ∧ P := by
  cases b with
  | true => exact ⟨rfl, h⟩
  | false => exact h.elim
def is5 (q : Nat × Nat) : Bool := Nat.ble 50 q.1
theorem is5_t {q : Nat × Nat} (h : is5 q = true) : 50 ≤ q.1 := Nat.le_of_ble_eq_true h
theorem is5_2 {q w : Nat × Nat} (h : (is5 q && is5 w) = true) : 50 ≤ q.1 ∧ 50 ≤ w.1 := by
  rw [Bool.and_eq_true] at h
  exact ⟨is5_t h.1, is5_t h.2⟩
theorem is5_3 {q w u : Nat × Nat} (h : (is5 q && is5 w && is5 u) = true) : 50 ≤ q.1 ∧ 50 ≤ w.1 ∧ 50 ≤ u.1 := by
  rw [Bool.and_eq_true] at h
  exact ⟨(is5_2 h.1).1, (is5_2 h.1).2, is5_t h.2⟩
noncomputable def sp_X4_tell : Spc := fun av σ post => match av with
  | [.inr (.inr q), .inl x, .inl y, .inl z] => bif is5 q then post none (sV σ q.1 q.2 (fi x, fi y, fi z)) else False
  | _ => False
theorem dX4_tell_0 : decode cX4_tell 0 = .ok (.aload_n 0, 1) := by decide +kernel
theorem dX4_tell_1 : decode cX4_tell 1 = .ok (.iload_n 1, 1) := by decide +kernel
theorem dX4_tell_2 : decode cX4_tell 2 = .ok (.invokestatic 19, 3) := by decide +kernel
theorem dX4_tell_5 : decode cX4_tell 5 = .ok (.putfield 7, 3) := by decide +kernel
theorem dX4_tell_8 : decode cX4_tell 8 = .ok (.aload_n 0, 1) := by decide +kernel
theorem dX4_tell_9 : decode cX4_tell 9 = .ok (.iload_n 2, 1) := by decide +kernel
theorem dX4_tell_10 : decode cX4_tell 10 = .ok (.invokestatic 19, 3) := by decide +kernel
theorem dX4_tell_13 : decode cX4_tell 13 = .ok (.putfield 13, 3) := by decide +kernel
theorem dX4_tell_16 : decode cX4_tell 16 = .ok (.aload_n 0, 1) := by decide +kernel
theorem dX4_tell_17 : decode cX4_tell 17 = .ok (.iload_n 3, 1) := by decide +kernel
theorem dX4_tell_18 : decode cX4_tell 18 = .ok (.invokestatic 19, 3) := by decide +kernel
theorem dX4_tell_21 : decode cX4_tell 21 = .ok (.putfield 16, 3) := by decide +kernel
theorem dX4_tell_24 : decode cX4_tell 24 = .ok (.return_, 1) := by decide +kernel
theorem wc_X1_of : Cond.code yX1_of cX1_of 1 (some .long) ∈ ltb := List.mem_filter.mpr ⟨List.mem_append_right _ (List.mem_of_getElem? (i := 218) (by decide +kernel)), by decide +kernel⟩
theorem mi_X1_of : Mi yX1_of RX1 1 cX1_of 1 (some .long) := ⟨by decide +kernel, wc_X1_of, wi_X1, by decide⟩
theorem ws_X1_of : Cond.static yX1_of ∈ ltb := List.mem_filter.mpr ⟨List.mem_append_right _ (List.mem_of_getElem? (i := 217) (by decide +kernel)), by decide +kernel⟩
theorem wm_X4_19 : Cond.methodLink RX4 19 yX1_of ∈ ltb := List.mem_filter.mpr ⟨List.mem_append_right _ (List.mem_of_getElem? (i := 216) (by decide +kernel)), by decide +kernel⟩
theorem wf_X4_7 : Cond.fieldLink RX4 7 (TX4 0).1 (TX4 0).2.1 (TX4 0).2.2.1 ∈ ltb := List.mem_filter.mpr ⟨List.mem_append_right _ (List.mem_of_getElem? (i := 30) (by decide +kernel)), by decide +kernel⟩
theorem wf_X4_13 : Cond.fieldLink RX4 13 (TX4 1).1 (TX4 1).2.1 (TX4 1).2.2.1 ∈ ltb := List.mem_filter.mpr ⟨List.mem_append_right _ (List.mem_of_getElem? (i := 33) (by decide +kernel)), by decide +kernel⟩
theorem wf_X4_16 : Cond.fieldLink RX4 16 (TX4 2).1 (TX4 2).2.1 (TX4 2).2.2.1 ∈ ltb := List.mem_filter.mpr ⟨List.mem_append_right _ (List.mem_of_getElem? (i := 36) (by decide +kernel)), by decide +kernel⟩
noncomputable def pr_X4_tell : Prg := [(0, z_aload 0 1), (1, z_iload 1 1), (2, z_call 1 sp_X1_of), (5, z_vput 0), (8, z_aload 0 1), (9, z_iload 2 1), (10, z_call 1 sp_X1_of), (13, z_vput 1), (16, z_aload 0 1), (17, z_iload 3 1), (18, z_call 1 sp_X1_of), (21, z_vput 2), (24, z_vret)]
set_option maxRecDepth 100000 in
set_option maxHeartbeats 4000000 in
theorem sn_X4_tell {G : Geo} (hG : GeoOK G) (l : Launch) : ∀ q ∈ pr_X4_tell, Sn G l yX4_tell.cls cX4_tell 4 2 none q.1 q.2 :=
  fcs (zs_aload_n dX4_tell_0 rfl) <| fcs (zs_iload_n dX4_tell_1 rfl) <| fcs (zs_calls (ct_X1_of hG l) mi_X1_of ws_X1_of (by decide) wm_X4_19 dX4_tell_2) <| fcs (zs_vput (by decide) wf_X4_7 dX4_tell_5) <| fcs (zs_aload_n dX4_tell_8 rfl) <| fcs (zs_iload_n dX4_tell_9 rfl) <| fcs (zs_calls (ct_X1_of hG l) mi_X1_of ws_X1_of (by decide) wm_X4_19 dX4_tell_10) <| fcs (zs_vput (by decide) wf_X4_13 dX4_tell_13) <| fcs (zs_aload_n dX4_tell_16 rfl) <| fcs (zs_iload_n dX4_tell_17 rfl) <| fcs (zs_calls (ct_X1_of hG l) mi_X1_of ws_X1_of (by decide) wm_X4_19 dX4_tell_18) <| fcs (zs_vput (by decide) wf_X4_16 dX4_tell_21) <| fcs (zs_vret dX4_tell_24) <| fnl
set_option maxRecDepth 100000 in
set_option maxHeartbeats 4000000 in
theorem ct_X4_tell {G : Geo} (hG : GeoOK G) (l : Launch) : Ct G l yX4_tell cX4_tell 4 none 2 sp_X4_tell := by
  refine Ct.of pr_X4_tell hG (by decide +kernel) (sn_X4_tell hG l) ?_
  intro av σ post hok h
  unfold sp_X4_tell at h
  split at h
  · obtain ⟨hq, h⟩ := bif_t h
    have hq := is5_t hq
    refine ⟨Nat.le_of_ble_eq_true rfl, fun X hX => ?_⟩
    refine go hX [] 60 ?_
    refine ⟨hq, _, rfl, ?_⟩
    refine ⟨hq, _, rfl, ?_⟩
    refine ⟨hq, _, rfl, ?_⟩
    show post none _
    exact cpost (fin3 rfl rfl rfl) h
  · exact h.elim
noncomputable def sp_X4_clear : Spc := fun av σ post => match av with
  | [.inr (.inr q)] => bif is5 q then post none (sV σ q.1 q.2 (0, 0, 0)) else False
  | _ => False
theorem dX4_clear_0 : decode cX4_clear 0 = .ok (.aload_n 0, 1) := by decide +kernel
theorem dX4_clear_1 : decode cX4_clear 1 = .ok (.lconst 0, 1) := by decide +kernel
theorem dX4_clear_2 : decode cX4_clear 2 = .ok (.putfield 7, 3) := by decide +kernel
theorem dX4_clear_5 : decode cX4_clear 5 = .ok (.aload_n 0, 1) := by decide +kernel
theorem dX4_clear_6 : decode cX4_clear 6 = .ok (.lconst 0, 1) := by decide +kernel
theorem dX4_clear_7 : decode cX4_clear 7 = .ok (.putfield 13, 3) := by decide +kernel
theorem dX4_clear_10 : decode cX4_clear 10 = .ok (.aload_n 0, 1) := by decide +kernel
theorem dX4_clear_11 : decode cX4_clear 11 = .ok (.lconst 0, 1) := by decide +kernel
theorem dX4_clear_12 : decode cX4_clear 12 = .ok (.putfield 16, 3) := by decide +kernel
theorem dX4_clear_15 : decode cX4_clear 15 = .ok (.return_, 1) := by decide +kernel
noncomputable def pr_X4_clear : Prg := [(0, z_aload 0 1), (1, z_lc (.inr 0) 1), (2, z_vput 0), (5, z_aload 0 1), (6, z_lc (.inr 0) 1), (7, z_vput 1), (10, z_aload 0 1), (11, z_lc (.inr 0) 1), (12, z_vput 2), (15, z_vret)]
set_option maxRecDepth 100000 in
set_option maxHeartbeats 4000000 in
theorem sn_X4_clear {G : Geo} (hG : GeoOK G) (l : Launch) : ∀ q ∈ pr_X4_clear, Sn G l yX4_clear.cls cX4_clear 1 0 none q.1 q.2 :=
  fcs (zs_aload_n dX4_clear_0 rfl) <| fcs (zs_lconst dX4_clear_1 rfl) <| fcs (zs_vput (by decide) wf_X4_7 dX4_clear_2) <| fcs (zs_aload_n dX4_clear_5 rfl) <| fcs (zs_lconst dX4_clear_6 rfl) <| fcs (zs_vput (by decide) wf_X4_13 dX4_clear_7) <| fcs (zs_aload_n dX4_clear_10 rfl) <| fcs (zs_lconst dX4_clear_11 rfl) <| fcs (zs_vput (by decide) wf_X4_16 dX4_clear_12) <| fcs (zs_vret dX4_clear_15) <| fnl
set_option maxRecDepth 100000 in
set_option maxHeartbeats 4000000 in
theorem ct_X4_clear {G : Geo} (hG : GeoOK G) (l : Launch) : Ct G l yX4_clear cX4_clear 1 none 0 sp_X4_clear := by
  refine Ct.of pr_X4_clear hG (by decide +kernel) (sn_X4_clear hG l) ?_
  intro av σ post hok h
  unfold sp_X4_clear at h
  split at h
  · obtain ⟨hq, h⟩ := bif_t h
    have hq := is5_t hq
    refine ⟨Nat.le_of_ble_eq_true rfl, fun X hX => ?_⟩
    refine go hX [] 60 ?_
    refine ⟨hq, _, rfl, ?_⟩
    refine ⟨hq, _, rfl, ?_⟩
    refine ⟨hq, _, rfl, ?_⟩
    show post none _
    exact cpost (fin3 rfl rfl rfl) h
  · exact h.elim
noncomputable def sp_X4_copy : Spc := fun av σ post => match av with
  | [.inr (.inr q), .inr (.inr w)] => bif is5 q && is5 w then post none (sV σ q.1 q.2 (σ.1 w.1 w.2)) else False
  | _ => False
theorem dX4_copy_0 : decode cX4_copy 0 = .ok (.aload_n 0, 1) := by decide +kernel
theorem dX4_copy_1 : decode cX4_copy 1 = .ok (.aload_n 1, 1) := by decide +kernel
theorem dX4_copy_2 : decode cX4_copy 2 = .ok (.getfield 7, 3) := by decide +kernel
theorem dX4_copy_5 : decode cX4_copy 5 = .ok (.putfield 7, 3) := by decide +kernel
theorem dX4_copy_8 : decode cX4_copy 8 = .ok (.aload_n 0, 1) := by decide +kernel
theorem dX4_copy_9 : decode cX4_copy 9 = .ok (.aload_n 1, 1) := by decide +kernel
theorem dX4_copy_10 : decode cX4_copy 10 = .ok (.getfield 13, 3) := by decide +kernel
theorem dX4_copy_13 : decode cX4_copy 13 = .ok (.putfield 13, 3) := by decide +kernel
theorem dX4_copy_16 : decode cX4_copy 16 = .ok (.aload_n 0, 1) := by decide +kernel
theorem dX4_copy_17 : decode cX4_copy 17 = .ok (.aload_n 1, 1) := by decide +kernel
theorem dX4_copy_18 : decode cX4_copy 18 = .ok (.getfield 16, 3) := by decide +kernel
theorem dX4_copy_21 : decode cX4_copy 21 = .ok (.putfield 16, 3) := by decide +kernel
theorem dX4_copy_24 : decode cX4_copy 24 = .ok (.return_, 1) := by decide +kernel
noncomputable def pr_X4_copy : Prg := [(0, z_aload 0 1), (1, z_aload 1 1), (2, z_vget 0), (5, z_vput 0), (8, z_aload 0 1), (9, z_aload 1 1), (10, z_vget 1), (13, z_vput 1), (16, z_aload 0 1), (17, z_aload 1 1), (18, z_vget 2), (21, z_vput 2), (24, z_vret)]
set_option maxRecDepth 100000 in
set_option maxHeartbeats 4000000 in
theorem sn_X4_copy {G : Geo} (hG : GeoOK G) (l : Launch) : ∀ q ∈ pr_X4_copy, Sn G l yX4_copy.cls cX4_copy 2 0 none q.1 q.2 :=
  fcs (zs_aload_n dX4_copy_0 rfl) <| fcs (zs_aload_n dX4_copy_1 rfl) <| fcs (zs_vget (by decide) wf_X4_7 dX4_copy_2) <| fcs (zs_vput (by decide) wf_X4_7 dX4_copy_5) <| fcs (zs_aload_n dX4_copy_8 rfl) <| fcs (zs_aload_n dX4_copy_9 rfl) <| fcs (zs_vget (by decide) wf_X4_13 dX4_copy_10) <| fcs (zs_vput (by decide) wf_X4_13 dX4_copy_13) <| fcs (zs_aload_n dX4_copy_16 rfl) <| fcs (zs_aload_n dX4_copy_17 rfl) <| fcs (zs_vget (by decide) wf_X4_16 dX4_copy_18) <| fcs (zs_vput (by decide) wf_X4_16 dX4_copy_21) <| fcs (zs_vret dX4_copy_24) <| fnl
set_option maxRecDepth 100000 in
set_option maxHeartbeats 4000000 in
theorem ct_X4_copy {G : Geo} (hG : GeoOK G) (l : Launch) : Ct G l yX4_copy cX4_copy 2 none 0 sp_X4_copy := by
  refine Ct.of pr_X4_copy hG (by decide +kernel) (sn_X4_copy hG l) ?_
  intro av σ post hok h
  unfold sp_X4_copy at h
  split at h
  · obtain ⟨hq, h⟩ := bif_t h
    obtain ⟨hq, hw⟩ := is5_2 hq
    refine ⟨Nat.le_of_ble_eq_true rfl, fun X hX => ?_⟩
    refine go hX [] 60 ?_
    refine ⟨hw, hq, _, rfl, ?_⟩
    refine ⟨hw, hq, _, rfl, ?_⟩
    refine ⟨hw, hq, _, rfl, ?_⟩
    show post none _
    refine cpost (fin3 rfl ?_ ?_) h
    · rw [rd _ _ _ _ _ _ (by decide) (by decide) (by decide)]; rfl
    · rw [rd _ _ _ _ _ _ (by decide) (by decide) (by decide), rd _ _ _ _ _ _ (by decide) (by decide) (by decide)]; rfl
  · exact h.elim
noncomputable def sp_X4_add : Spc := fun av σ post => match av with
  | [.inr (.inr q), .inr (.inr w)] => bif is5 q && is5 w then post none (sV σ q.1 q.2 (v_add (σ.1 q.1 q.2) (σ.1 w.1 w.2))) else False
  | _ => False
theorem dX4_add_0 : decode cX4_add 0 = .ok (.aload_n 0, 1) := by decide +kernel
theorem dX4_add_1 : decode cX4_add 1 = .ok (.aload_n 0, 1) := by decide +kernel
theorem dX4_add_2 : decode cX4_add 2 = .ok (.getfield 7, 3) := by decide +kernel
theorem dX4_add_5 : decode cX4_add 5 = .ok (.aload_n 1, 1) := by decide +kernel
theorem dX4_add_6 : decode cX4_add 6 = .ok (.getfield 7, 3) := by decide +kernel
theorem dX4_add_9 : decode cX4_add 9 = .ok (.ladd, 1) := by decide +kernel
theorem dX4_add_10 : decode cX4_add 10 = .ok (.ldc2_w 25, 3) := by decide +kernel
theorem dX4_add_13 : decode cX4_add 13 = .ok (.lrem, 1) := by decide +kernel
theorem dX4_add_14 : decode cX4_add 14 = .ok (.putfield 7, 3) := by decide +kernel
theorem dX4_add_17 : decode cX4_add 17 = .ok (.aload_n 0, 1) := by decide +kernel
theorem dX4_add_18 : decode cX4_add 18 = .ok (.aload_n 0, 1) := by decide +kernel
theorem dX4_add_19 : decode cX4_add 19 = .ok (.getfield 13, 3) := by decide +kernel
theorem dX4_add_22 : decode cX4_add 22 = .ok (.aload_n 1, 1) := by decide +kernel
theorem dX4_add_23 : decode cX4_add 23 = .ok (.getfield 13, 3) := by decide +kernel
theorem dX4_add_26 : decode cX4_add 26 = .ok (.ladd, 1) := by decide +kernel
theorem dX4_add_27 : decode cX4_add 27 = .ok (.ldc2_w 25, 3) := by decide +kernel
theorem dX4_add_30 : decode cX4_add 30 = .ok (.lrem, 1) := by decide +kernel
theorem dX4_add_31 : decode cX4_add 31 = .ok (.putfield 13, 3) := by decide +kernel
theorem dX4_add_34 : decode cX4_add 34 = .ok (.aload_n 0, 1) := by decide +kernel
theorem dX4_add_35 : decode cX4_add 35 = .ok (.aload_n 0, 1) := by decide +kernel
theorem dX4_add_36 : decode cX4_add 36 = .ok (.getfield 16, 3) := by decide +kernel
theorem dX4_add_39 : decode cX4_add 39 = .ok (.aload_n 1, 1) := by decide +kernel
theorem dX4_add_40 : decode cX4_add 40 = .ok (.getfield 16, 3) := by decide +kernel
theorem dX4_add_43 : decode cX4_add 43 = .ok (.ladd, 1) := by decide +kernel
theorem dX4_add_44 : decode cX4_add 44 = .ok (.ldc2_w 25, 3) := by decide +kernel
theorem dX4_add_47 : decode cX4_add 47 = .ok (.lrem, 1) := by decide +kernel
theorem dX4_add_48 : decode cX4_add 48 = .ok (.putfield 16, 3) := by decide +kernel
theorem dX4_add_51 : decode cX4_add 51 = .ok (.return_, 1) := by decide +kernel
theorem wl_X4_25 : Cond.constantLong RX4 25 (lv (.inl 2147483647)) ∈ ltb := List.mem_filter.mpr ⟨List.mem_append_right _ (List.mem_of_getElem? (i := 311) (by decide +kernel)), by decide +kernel⟩
noncomputable def pr_X4_add : Prg := [(0, z_aload 0 1), (1, z_aload 0 1), (2, z_vget 0), (5, z_aload 1 1), (6, z_vget 0), (9, z_ladd), (10, z_lc (.inl 2147483647) 3), (13, z_lrem), (14, z_vput 0), (17, z_aload 0 1), (18, z_aload 0 1), (19, z_vget 1), (22, z_aload 1 1), (23, z_vget 1), (26, z_ladd), (27, z_lc (.inl 2147483647) 3), (30, z_lrem), (31, z_vput 1), (34, z_aload 0 1), (35, z_aload 0 1), (36, z_vget 2), (39, z_aload 1 1), (40, z_vget 2), (43, z_ladd), (44, z_lc (.inl 2147483647) 3), (47, z_lrem), (48, z_vput 2), (51, z_vret)]
set_option maxRecDepth 100000 in
set_option maxHeartbeats 4000000 in
theorem sn_X4_add {G : Geo} (hG : GeoOK G) (l : Launch) : ∀ q ∈ pr_X4_add, Sn G l yX4_add.cls cX4_add 2 0 none q.1 q.2 :=
  fcs (zs_aload_n dX4_add_0 rfl) <| fcs (zs_aload_n dX4_add_1 rfl) <| fcs (zs_vget (by decide) wf_X4_7 dX4_add_2) <| fcs (zs_aload_n dX4_add_5 rfl) <| fcs (zs_vget (by decide) wf_X4_7 dX4_add_6) <| fcs (zs_ladd dX4_add_9) <| fcs (zs_ldc2 dX4_add_10 wl_X4_25) <| fcs (zs_lrem dX4_add_13) <| fcs (zs_vput (by decide) wf_X4_7 dX4_add_14) <| fcs (zs_aload_n dX4_add_17 rfl) <| fcs (zs_aload_n dX4_add_18 rfl) <| fcs (zs_vget (by decide) wf_X4_13 dX4_add_19) <| fcs (zs_aload_n dX4_add_22 rfl) <| fcs (zs_vget (by decide) wf_X4_13 dX4_add_23) <| fcs (zs_ladd dX4_add_26) <| fcs (zs_ldc2 dX4_add_27 wl_X4_25) <| fcs (zs_lrem dX4_add_30) <| fcs (zs_vput (by decide) wf_X4_13 dX4_add_31) <| fcs (zs_aload_n dX4_add_34 rfl) <| fcs (zs_aload_n dX4_add_35 rfl) <| fcs (zs_vget (by decide) wf_X4_16 dX4_add_36) <| fcs (zs_aload_n dX4_add_39 rfl) <| fcs (zs_vget (by decide) wf_X4_16 dX4_add_40) <| fcs (zs_ladd dX4_add_43) <| fcs (zs_ldc2 dX4_add_44 wl_X4_25) <| fcs (zs_lrem dX4_add_47) <| fcs (zs_vput (by decide) wf_X4_16 dX4_add_48) <| fcs (zs_vret dX4_add_51) <| fnl
set_option maxRecDepth 100000 in
set_option maxHeartbeats 4000000 in
theorem ct_X4_add {G : Geo} (hG : GeoOK G) (l : Launch) : Ct G l yX4_add cX4_add 2 none 0 sp_X4_add := by
  refine Ct.of pr_X4_add hG (by decide +kernel) (sn_X4_add hG l) ?_
  intro av σ post hok h
  unfold sp_X4_add at h
  split at h
  · obtain ⟨hq, h⟩ := bif_t h
    obtain ⟨hq, hw⟩ := is5_2 hq
    refine ⟨Nat.le_of_ble_eq_true rfl, fun X hX => ?_⟩
    refine go hX [] 60 ?_
    refine ⟨hq, hw, ne_P, hq, _, n_plus _ _, ?_⟩
    refine ⟨hq, hw, ne_P, hq, _, n_plus _ _, ?_⟩
    refine ⟨hq, hw, ne_P, hq, _, n_plus _ _, ?_⟩
    show post none _
    refine cpost (fin3 rfl ?_ ?_) h
    · rw [rd _ _ _ _ _ _ (by decide) (by decide) (by decide), rd _ _ _ _ _ _ (by decide) (by decide) (by decide)]; rfl
    · simp only [rd _ _ _ _ _ _ (show 1 < 3 by decide) (show 2 < 3 by decide) (by decide), rd _ _ _ _ _ _ (show 0 < 3 by decide) (show 2 < 3 by decide) (by decide)]; rfl
  · exact h.elim
noncomputable def sp_X4_subtract : Spc := fun av σ post => match av with
  | [.inr (.inr q), .inr (.inr w)] => bif is5 q && is5 w then post none (sV σ q.1 q.2 (v_sub (σ.1 q.1 q.2) (σ.1 w.1 w.2))) else False
  | _ => False
theorem dX4_subtract_0 : decode cX4_subtract 0 = .ok (.aload_n 0, 1) := by decide +kernel
theorem dX4_subtract_1 : decode cX4_subtract 1 = .ok (.aload_n 0, 1) := by decide +kernel
theorem dX4_subtract_2 : decode cX4_subtract 2 = .ok (.getfield 7, 3) := by decide +kernel
theorem dX4_subtract_5 : decode cX4_subtract 5 = .ok (.aload_n 1, 1) := by decide +kernel
theorem dX4_subtract_6 : decode cX4_subtract 6 = .ok (.getfield 7, 3) := by decide +kernel
theorem dX4_subtract_9 : decode cX4_subtract 9 = .ok (.lsub, 1) := by decide +kernel
theorem dX4_subtract_10 : decode cX4_subtract 10 = .ok (.ldc2_w 25, 3) := by decide +kernel
theorem dX4_subtract_13 : decode cX4_subtract 13 = .ok (.ladd, 1) := by decide +kernel
theorem dX4_subtract_14 : decode cX4_subtract 14 = .ok (.ldc2_w 25, 3) := by decide +kernel
theorem dX4_subtract_17 : decode cX4_subtract 17 = .ok (.lrem, 1) := by decide +kernel
theorem dX4_subtract_18 : decode cX4_subtract 18 = .ok (.putfield 7, 3) := by decide +kernel
theorem dX4_subtract_21 : decode cX4_subtract 21 = .ok (.aload_n 0, 1) := by decide +kernel
theorem dX4_subtract_22 : decode cX4_subtract 22 = .ok (.aload_n 0, 1) := by decide +kernel
theorem dX4_subtract_23 : decode cX4_subtract 23 = .ok (.getfield 13, 3) := by decide +kernel
theorem dX4_subtract_26 : decode cX4_subtract 26 = .ok (.aload_n 1, 1) := by decide +kernel
theorem dX4_subtract_27 : decode cX4_subtract 27 = .ok (.getfield 13, 3) := by decide +kernel
theorem dX4_subtract_30 : decode cX4_subtract 30 = .ok (.lsub, 1) := by decide +kernel
theorem dX4_subtract_31 : decode cX4_subtract 31 = .ok (.ldc2_w 25, 3) := by decide +kernel
theorem dX4_subtract_34 : decode cX4_subtract 34 = .ok (.ladd, 1) := by decide +kernel
theorem dX4_subtract_35 : decode cX4_subtract 35 = .ok (.ldc2_w 25, 3) := by decide +kernel
theorem dX4_subtract_38 : decode cX4_subtract 38 = .ok (.lrem, 1) := by decide +kernel
theorem dX4_subtract_39 : decode cX4_subtract 39 = .ok (.putfield 13, 3) := by decide +kernel
theorem dX4_subtract_42 : decode cX4_subtract 42 = .ok (.aload_n 0, 1) := by decide +kernel
theorem dX4_subtract_43 : decode cX4_subtract 43 = .ok (.aload_n 0, 1) := by decide +kernel
theorem dX4_subtract_44 : decode cX4_subtract 44 = .ok (.getfield 16, 3) := by decide +kernel
theorem dX4_subtract_47 : decode cX4_subtract 47 = .ok (.aload_n 1, 1) := by decide +kernel
theorem dX4_subtract_48 : decode cX4_subtract 48 = .ok (.getfield 16, 3) := by decide +kernel
theorem dX4_subtract_51 : decode cX4_subtract 51 = .ok (.lsub, 1) := by decide +kernel
theorem dX4_subtract_52 : decode cX4_subtract 52 = .ok (.ldc2_w 25, 3) := by decide +kernel
theorem dX4_subtract_55 : decode cX4_subtract 55 = .ok (.ladd, 1) := by decide +kernel
theorem dX4_subtract_56 : decode cX4_subtract 56 = .ok (.ldc2_w 25, 3) := by decide +kernel
theorem dX4_subtract_59 : decode cX4_subtract 59 = .ok (.lrem, 1) := by decide +kernel
theorem dX4_subtract_60 : decode cX4_subtract 60 = .ok (.putfield 16, 3) := by decide +kernel
theorem dX4_subtract_63 : decode cX4_subtract 63 = .ok (.return_, 1) := by decide +kernel
noncomputable def pr_X4_subtract : Prg := [(0, z_aload 0 1), (1, z_aload 0 1), (2, z_vget 0), (5, z_aload 1 1), (6, z_vget 0), (9, z_lsub), (10, z_lc (.inl 2147483647) 3), (13, z_ladd), (14, z_lc (.inl 2147483647) 3), (17, z_lrem), (18, z_vput 0), (21, z_aload 0 1), (22, z_aload 0 1), (23, z_vget 1), (26, z_aload 1 1), (27, z_vget 1), (30, z_lsub), (31, z_lc (.inl 2147483647) 3), (34, z_ladd), (35, z_lc (.inl 2147483647) 3), (38, z_lrem), (39, z_vput 1), (42, z_aload 0 1), (43, z_aload 0 1), (44, z_vget 2), (47, z_aload 1 1), (48, z_vget 2), (51, z_lsub), (52, z_lc (.inl 2147483647) 3), (55, z_ladd), (56, z_lc (.inl 2147483647) 3), (59, z_lrem), (60, z_vput 2), (63, z_vret)]
set_option maxRecDepth 100000 in
set_option maxHeartbeats 4000000 in
theorem sn_X4_subtract {G : Geo} (hG : GeoOK G) (l : Launch) : ∀ q ∈ pr_X4_subtract, Sn G l yX4_subtract.cls cX4_subtract 2 0 none q.1 q.2 :=
  fcs (zs_aload_n dX4_subtract_0 rfl) <| fcs (zs_aload_n dX4_subtract_1 rfl) <| fcs (zs_vget (by decide) wf_X4_7 dX4_subtract_2) <| fcs (zs_aload_n dX4_subtract_5 rfl) <| fcs (zs_vget (by decide) wf_X4_7 dX4_subtract_6) <| fcs (zs_lsub dX4_subtract_9) <| fcs (zs_ldc2 dX4_subtract_10 wl_X4_25) <| fcs (zs_ladd dX4_subtract_13) <| fcs (zs_ldc2 dX4_subtract_14 wl_X4_25) <| fcs (zs_lrem dX4_subtract_17) <| fcs (zs_vput (by decide) wf_X4_7 dX4_subtract_18) <| fcs (zs_aload_n dX4_subtract_21 rfl) <| fcs (zs_aload_n dX4_subtract_22 rfl) <| fcs (zs_vget (by decide) wf_X4_13 dX4_subtract_23) <| fcs (zs_aload_n dX4_subtract_26 rfl) <| fcs (zs_vget (by decide) wf_X4_13 dX4_subtract_27) <| fcs (zs_lsub dX4_subtract_30) <| fcs (zs_ldc2 dX4_subtract_31 wl_X4_25) <| fcs (zs_ladd dX4_subtract_34) <| fcs (zs_ldc2 dX4_subtract_35 wl_X4_25) <| fcs (zs_lrem dX4_subtract_38) <| fcs (zs_vput (by decide) wf_X4_13 dX4_subtract_39) <| fcs (zs_aload_n dX4_subtract_42 rfl) <| fcs (zs_aload_n dX4_subtract_43 rfl) <| fcs (zs_vget (by decide) wf_X4_16 dX4_subtract_44) <| fcs (zs_aload_n dX4_subtract_47 rfl) <| fcs (zs_vget (by decide) wf_X4_16 dX4_subtract_48) <| fcs (zs_lsub dX4_subtract_51) <| fcs (zs_ldc2 dX4_subtract_52 wl_X4_25) <| fcs (zs_ladd dX4_subtract_55) <| fcs (zs_ldc2 dX4_subtract_56 wl_X4_25) <| fcs (zs_lrem dX4_subtract_59) <| fcs (zs_vput (by decide) wf_X4_16 dX4_subtract_60) <| fcs (zs_vret dX4_subtract_63) <| fnl
set_option maxRecDepth 100000 in
set_option maxHeartbeats 4000000 in
theorem ct_X4_subtract {G : Geo} (hG : GeoOK G) (l : Launch) : Ct G l yX4_subtract cX4_subtract 2 none 0 sp_X4_subtract := by
  refine Ct.of pr_X4_subtract hG (by decide +kernel) (sn_X4_subtract hG l) ?_
  intro av σ post hok h
  unfold sp_X4_subtract at h
  split at h
  · obtain ⟨hq, h⟩ := bif_t h
    obtain ⟨hq, hw⟩ := is5_2 hq
    refine ⟨Nat.le_of_ble_eq_true rfl, fun X hX => ?_⟩
    refine go hX [] 60 ?_
    refine ⟨hq, hw, ne_P, hq, _, n_minus _ _, ?_⟩
    refine ⟨hq, hw, ne_P, hq, _, n_minus _ _, ?_⟩
    refine ⟨hq, hw, ne_P, hq, _, n_minus _ _, ?_⟩
    show post none _
    refine cpost (fin3 rfl ?_ ?_) h
    · simp only [rd _ _ _ _ _ _ (show 0 < 3 by decide) (show 1 < 3 by decide) (by decide)]; rfl
    · simp only [rd _ _ _ _ _ _ (show 1 < 3 by decide) (show 2 < 3 by decide) (by decide), rd _ _ _ _ _ _ (show 0 < 3 by decide) (show 2 < 3 by decide) (by decide)]; rfl
  · exact h.elim
noncomputable def sp_X4_scale : Spc := fun av σ post => match av with
  | [.inr (.inr q), .inr (.inl (.inr f))] => bif is5 q then post none (sV σ q.1 q.2 (v_sca (σ.1 q.1 q.2) f)) else False
  | _ => False
theorem dX4_scale_0 : decode cX4_scale 0 = .ok (.aload_n 0, 1) := by decide +kernel
theorem dX4_scale_1 : decode cX4_scale 1 = .ok (.aload_n 0, 1) := by decide +kernel
theorem dX4_scale_2 : decode cX4_scale 2 = .ok (.getfield 7, 3) := by decide +kernel
theorem dX4_scale_5 : decode cX4_scale 5 = .ok (.lload_n 1, 1) := by decide +kernel
theorem dX4_scale_6 : decode cX4_scale 6 = .ok (.lmul, 1) := by decide +kernel
theorem dX4_scale_7 : decode cX4_scale 7 = .ok (.ldc2_w 25, 3) := by decide +kernel
theorem dX4_scale_10 : decode cX4_scale 10 = .ok (.lrem, 1) := by decide +kernel
theorem dX4_scale_11 : decode cX4_scale 11 = .ok (.putfield 7, 3) := by decide +kernel
theorem dX4_scale_14 : decode cX4_scale 14 = .ok (.aload_n 0, 1) := by decide +kernel
theorem dX4_scale_15 : decode cX4_scale 15 = .ok (.aload_n 0, 1) := by decide +kernel
theorem dX4_scale_16 : decode cX4_scale 16 = .ok (.getfield 13, 3) := by decide +kernel
theorem dX4_scale_19 : decode cX4_scale 19 = .ok (.lload_n 1, 1) := by decide +kernel
theorem dX4_scale_20 : decode cX4_scale 20 = .ok (.lmul, 1) := by decide +kernel
theorem dX4_scale_21 : decode cX4_scale 21 = .ok (.ldc2_w 25, 3) := by decide +kernel
theorem dX4_scale_24 : decode cX4_scale 24 = .ok (.lrem, 1) := by decide +kernel
theorem dX4_scale_25 : decode cX4_scale 25 = .ok (.putfield 13, 3) := by decide +kernel
theorem dX4_scale_28 : decode cX4_scale 28 = .ok (.aload_n 0, 1) := by decide +kernel
theorem dX4_scale_29 : decode cX4_scale 29 = .ok (.aload_n 0, 1) := by decide +kernel
theorem dX4_scale_30 : decode cX4_scale 30 = .ok (.getfield 16, 3) := by decide +kernel
theorem dX4_scale_33 : decode cX4_scale 33 = .ok (.lload_n 1, 1) := by decide +kernel
theorem dX4_scale_34 : decode cX4_scale 34 = .ok (.lmul, 1) := by decide +kernel
theorem dX4_scale_35 : decode cX4_scale 35 = .ok (.ldc2_w 25, 3) := by decide +kernel
theorem dX4_scale_38 : decode cX4_scale 38 = .ok (.lrem, 1) := by decide +kernel
theorem dX4_scale_39 : decode cX4_scale 39 = .ok (.putfield 16, 3) := by decide +kernel
theorem dX4_scale_42 : decode cX4_scale 42 = .ok (.return_, 1) := by decide +kernel
noncomputable def pr_X4_scale : Prg := [(0, z_aload 0 1), (1, z_aload 0 1), (2, z_vget 0), (5, z_lload 1 1), (6, z_lmul), (7, z_lc (.inl 2147483647) 3), (10, z_lrem), (11, z_vput 0), (14, z_aload 0 1), (15, z_aload 0 1), (16, z_vget 1), (19, z_lload 1 1), (20, z_lmul), (21, z_lc (.inl 2147483647) 3), (24, z_lrem), (25, z_vput 1), (28, z_aload 0 1), (29, z_aload 0 1), (30, z_vget 2), (33, z_lload 1 1), (34, z_lmul), (35, z_lc (.inl 2147483647) 3), (38, z_lrem), (39, z_vput 2), (42, z_vret)]
set_option maxRecDepth 100000 in
set_option maxHeartbeats 4000000 in
theorem sn_X4_scale {G : Geo} (hG : GeoOK G) (l : Launch) : ∀ q ∈ pr_X4_scale, Sn G l yX4_scale.cls cX4_scale 3 0 none q.1 q.2 :=
  fcs (zs_aload_n dX4_scale_0 rfl) <| fcs (zs_aload_n dX4_scale_1 rfl) <| fcs (zs_vget (by decide) wf_X4_7 dX4_scale_2) <| fcs (zs_lload_n dX4_scale_5 rfl) <| fcs (zs_lmul dX4_scale_6) <| fcs (zs_ldc2 dX4_scale_7 wl_X4_25) <| fcs (zs_lrem dX4_scale_10) <| fcs (zs_vput (by decide) wf_X4_7 dX4_scale_11) <| fcs (zs_aload_n dX4_scale_14 rfl) <| fcs (zs_aload_n dX4_scale_15 rfl) <| fcs (zs_vget (by decide) wf_X4_13 dX4_scale_16) <| fcs (zs_lload_n dX4_scale_19 rfl) <| fcs (zs_lmul dX4_scale_20) <| fcs (zs_ldc2 dX4_scale_21 wl_X4_25) <| fcs (zs_lrem dX4_scale_24) <| fcs (zs_vput (by decide) wf_X4_13 dX4_scale_25) <| fcs (zs_aload_n dX4_scale_28 rfl) <| fcs (zs_aload_n dX4_scale_29 rfl) <| fcs (zs_vget (by decide) wf_X4_16 dX4_scale_30) <| fcs (zs_lload_n dX4_scale_33 rfl) <| fcs (zs_lmul dX4_scale_34) <| fcs (zs_ldc2 dX4_scale_35 wl_X4_25) <| fcs (zs_lrem dX4_scale_38) <| fcs (zs_vput (by decide) wf_X4_16 dX4_scale_39) <| fcs (zs_vret dX4_scale_42) <| fnl
set_option maxRecDepth 100000 in
set_option maxHeartbeats 4000000 in
theorem ct_X4_scale {G : Geo} (hG : GeoOK G) (l : Launch) : Ct G l yX4_scale cX4_scale 3 none 0 sp_X4_scale := by
  refine Ct.of pr_X4_scale hG (by decide +kernel) (sn_X4_scale hG l) ?_
  intro av σ post hok h
  unfold sp_X4_scale at h
  split at h
  · obtain ⟨hq, h⟩ := bif_t h
    have hq := is5_t hq
    refine ⟨Nat.le_of_ble_eq_true rfl, fun X hX => ?_⟩
    refine go hX [] 60 ?_
    refine ⟨hq, ne_P, hq, _, n_times _ _, ?_⟩
    refine ⟨hq, ne_P, hq, _, n_times _ _, ?_⟩
    refine ⟨hq, ne_P, hq, _, n_times _ _, ?_⟩
    show post none _
    refine cpost (fin3 rfl ?_ ?_) h
    · simp only [rd _ _ _ _ _ _ (show 0 < 3 by decide) (show 1 < 3 by decide) (by decide)]; rfl
    · simp only [rd _ _ _ _ _ _ (show 1 < 3 by decide) (show 2 < 3 by decide) (by decide), rd _ _ _ _ _ _ (show 0 < 3 by decide) (show 2 < 3 by decide) (by decide)]; rfl
  · exact h.elim
noncomputable def sp_X4_addTimes : Spc := fun av σ post => match av with
  | [.inr (.inr q), .inr (.inr w), .inr (.inl (.inr f))] => bif is5 q && is5 w then post none (sV σ q.1 q.2 (v_adt (σ.1 q.1 q.2) (σ.1 w.1 w.2) f)) else False
  | _ => False
theorem dX4_addTimes_0 : decode cX4_addTimes 0 = .ok (.aload_n 0, 1) := by decide +kernel
theorem dX4_addTimes_1 : decode cX4_addTimes 1 = .ok (.aload_n 0, 1) := by decide +kernel
theorem dX4_addTimes_2 : decode cX4_addTimes 2 = .ok (.getfield 7, 3) := by decide +kernel
theorem dX4_addTimes_5 : decode cX4_addTimes 5 = .ok (.aload_n 1, 1) := by decide +kernel
theorem dX4_addTimes_6 : decode cX4_addTimes 6 = .ok (.getfield 7, 3) := by decide +kernel
theorem dX4_addTimes_9 : decode cX4_addTimes 9 = .ok (.lload_n 2, 1) := by decide +kernel
theorem dX4_addTimes_10 : decode cX4_addTimes 10 = .ok (.lmul, 1) := by decide +kernel
theorem dX4_addTimes_11 : decode cX4_addTimes 11 = .ok (.ladd, 1) := by decide +kernel
theorem dX4_addTimes_12 : decode cX4_addTimes 12 = .ok (.ldc2_w 25, 3) := by decide +kernel
theorem dX4_addTimes_15 : decode cX4_addTimes 15 = .ok (.lrem, 1) := by decide +kernel
theorem dX4_addTimes_16 : decode cX4_addTimes 16 = .ok (.putfield 7, 3) := by decide +kernel
theorem dX4_addTimes_19 : decode cX4_addTimes 19 = .ok (.aload_n 0, 1) := by decide +kernel
theorem dX4_addTimes_20 : decode cX4_addTimes 20 = .ok (.aload_n 0, 1) := by decide +kernel
theorem dX4_addTimes_21 : decode cX4_addTimes 21 = .ok (.getfield 13, 3) := by decide +kernel
theorem dX4_addTimes_24 : decode cX4_addTimes 24 = .ok (.aload_n 1, 1) := by decide +kernel
theorem dX4_addTimes_25 : decode cX4_addTimes 25 = .ok (.getfield 13, 3) := by decide +kernel
theorem dX4_addTimes_28 : decode cX4_addTimes 28 = .ok (.lload_n 2, 1) := by decide +kernel
theorem dX4_addTimes_29 : decode cX4_addTimes 29 = .ok (.lmul, 1) := by decide +kernel
theorem dX4_addTimes_30 : decode cX4_addTimes 30 = .ok (.ladd, 1) := by decide +kernel
theorem dX4_addTimes_31 : decode cX4_addTimes 31 = .ok (.ldc2_w 25, 3) := by decide +kernel
theorem dX4_addTimes_34 : decode cX4_addTimes 34 = .ok (.lrem, 1) := by decide +kernel
theorem dX4_addTimes_35 : decode cX4_addTimes 35 = .ok (.putfield 13, 3) := by decide +kernel
theorem dX4_addTimes_38 : decode cX4_addTimes 38 = .ok (.aload_n 0, 1) := by decide +kernel
theorem dX4_addTimes_39 : decode cX4_addTimes 39 = .ok (.aload_n 0, 1) := by decide +kernel
theorem dX4_addTimes_40 : decode cX4_addTimes 40 = .ok (.getfield 16, 3) := by decide +kernel
theorem dX4_addTimes_43 : decode cX4_addTimes 43 = .ok (.aload_n 1, 1) := by decide +kernel
theorem dX4_addTimes_44 : decode cX4_addTimes 44 = .ok (.getfield 16, 3) := by decide +kernel
theorem dX4_addTimes_47 : decode cX4_addTimes 47 = .ok (.lload_n 2, 1) := by decide +kernel
theorem dX4_addTimes_48 : decode cX4_addTimes 48 = .ok (.lmul, 1) := by decide +kernel
theorem dX4_addTimes_49 : decode cX4_addTimes 49 = .ok (.ladd, 1) := by decide +kernel
theorem dX4_addTimes_50 : decode cX4_addTimes 50 = .ok (.ldc2_w 25, 3) := by decide +kernel
theorem dX4_addTimes_53 : decode cX4_addTimes 53 = .ok (.lrem, 1) := by decide +kernel
theorem dX4_addTimes_54 : decode cX4_addTimes 54 = .ok (.putfield 16, 3) := by decide +kernel
theorem dX4_addTimes_57 : decode cX4_addTimes 57 = .ok (.return_, 1) := by decide +kernel
noncomputable def pr_X4_addTimes : Prg := [(0, z_aload 0 1), (1, z_aload 0 1), (2, z_vget 0), (5, z_aload 1 1), (6, z_vget 0), (9, z_lload 2 1), (10, z_lmul), (11, z_ladd), (12, z_lc (.inl 2147483647) 3), (15, z_lrem), (16, z_vput 0), (19, z_aload 0 1), (20, z_aload 0 1), (21, z_vget 1), (24, z_aload 1 1), (25, z_vget 1), (28, z_lload 2 1), (29, z_lmul), (30, z_ladd), (31, z_lc (.inl 2147483647) 3), (34, z_lrem), (35, z_vput 1), (38, z_aload 0 1), (39, z_aload 0 1), (40, z_vget 2), (43, z_aload 1 1), (44, z_vget 2), (47, z_lload 2 1), (48, z_lmul), (49, z_ladd), (50, z_lc (.inl 2147483647) 3), (53, z_lrem), (54, z_vput 2), (57, z_vret)]
set_option maxRecDepth 100000 in
set_option maxHeartbeats 4000000 in
theorem sn_X4_addTimes {G : Geo} (hG : GeoOK G) (l : Launch) : ∀ q ∈ pr_X4_addTimes, Sn G l yX4_addTimes.cls cX4_addTimes 4 0 none q.1 q.2 :=
  fcs (zs_aload_n dX4_addTimes_0 rfl) <| fcs (zs_aload_n dX4_addTimes_1 rfl) <| fcs (zs_vget (by decide) wf_X4_7 dX4_addTimes_2) <| fcs (zs_aload_n dX4_addTimes_5 rfl) <| fcs (zs_vget (by decide) wf_X4_7 dX4_addTimes_6) <| fcs (zs_lload_n dX4_addTimes_9 rfl) <| fcs (zs_lmul dX4_addTimes_10) <| fcs (zs_ladd dX4_addTimes_11) <| fcs (zs_ldc2 dX4_addTimes_12 wl_X4_25) <| fcs (zs_lrem dX4_addTimes_15) <| fcs (zs_vput (by decide) wf_X4_7 dX4_addTimes_16) <| fcs (zs_aload_n dX4_addTimes_19 rfl) <| fcs (zs_aload_n dX4_addTimes_20 rfl) <| fcs (zs_vget (by decide) wf_X4_13 dX4_addTimes_21) <| fcs (zs_aload_n dX4_addTimes_24 rfl) <| fcs (zs_vget (by decide) wf_X4_13 dX4_addTimes_25) <| fcs (zs_lload_n dX4_addTimes_28 rfl) <| fcs (zs_lmul dX4_addTimes_29) <| fcs (zs_ladd dX4_addTimes_30) <| fcs (zs_ldc2 dX4_addTimes_31 wl_X4_25) <| fcs (zs_lrem dX4_addTimes_34) <| fcs (zs_vput (by decide) wf_X4_13 dX4_addTimes_35) <| fcs (zs_aload_n dX4_addTimes_38 rfl) <| fcs (zs_aload_n dX4_addTimes_39 rfl) <| fcs (zs_vget (by decide) wf_X4_16 dX4_addTimes_40) <| fcs (zs_aload_n dX4_addTimes_43 rfl) <| fcs (zs_vget (by decide) wf_X4_16 dX4_addTimes_44) <| fcs (zs_lload_n dX4_addTimes_47 rfl) <| fcs (zs_lmul dX4_addTimes_48) <| fcs (zs_ladd dX4_addTimes_49) <| fcs (zs_ldc2 dX4_addTimes_50 wl_X4_25) <| fcs (zs_lrem dX4_addTimes_53) <| fcs (zs_vput (by decide) wf_X4_16 dX4_addTimes_54) <| fcs (zs_vret dX4_addTimes_57) <| fnl
set_option maxRecDepth 100000 in
set_option maxHeartbeats 4000000 in
theorem ct_X4_addTimes {G : Geo} (hG : GeoOK G) (l : Launch) : Ct G l yX4_addTimes cX4_addTimes 4 none 0 sp_X4_addTimes := by
  refine Ct.of pr_X4_addTimes hG (by decide +kernel) (sn_X4_addTimes hG l) ?_
  intro av σ post hok h
  unfold sp_X4_addTimes at h
  split at h
  · obtain ⟨hq, h⟩ := bif_t h
    obtain ⟨hq, hw⟩ := is5_2 hq
    refine ⟨Nat.le_of_ble_eq_true rfl, fun X hX => ?_⟩
    refine go hX [] 60 ?_
    refine ⟨hq, hw, ne_P, hq, _, n_addt _ _ _, ?_⟩
    refine ⟨hq, hw, ne_P, hq, _, n_addt _ _ _, ?_⟩
    refine ⟨hq, hw, ne_P, hq, _, n_addt _ _ _, ?_⟩
    show post none _
    refine cpost (fin3 rfl ?_ ?_) h
    · simp only [rd _ _ _ _ _ _ (show 0 < 3 by decide) (show 1 < 3 by decide) (by decide)]; rfl
    · simp only [rd _ _ _ _ _ _ (show 1 < 3 by decide) (show 2 < 3 by decide) (by decide), rd _ _ _ _ _ _ (show 0 < 3 by decide) (show 2 < 3 by decide) (by decide)]; rfl
  · exact h.elim
noncomputable def sp_X4_becomeCross : Spc := fun av σ post => match av with
  | [.inr (.inr q), .inr (.inr w), .inr (.inr u)] => bif is5 q && is5 w && is5 u then post none (sV σ q.1 q.2 (v_crs (σ.1 w.1 w.2) (σ.1 u.1 u.2))) else False
  | _ => False
theorem dX4_becomeCross_0 : decode cX4_becomeCross 0 = .ok (.aload_n 1, 1) := by decide +kernel
theorem dX4_becomeCross_1 : decode cX4_becomeCross 1 = .ok (.getfield 13, 3) := by decide +kernel
theorem dX4_becomeCross_4 : decode cX4_becomeCross 4 = .ok (.aload_n 2, 1) := by decide +kernel
theorem dX4_becomeCross_5 : decode cX4_becomeCross 5 = .ok (.getfield 16, 3) := by decide +kernel
theorem dX4_becomeCross_8 : decode cX4_becomeCross 8 = .ok (.lmul, 1) := by decide +kernel
theorem dX4_becomeCross_9 : decode cX4_becomeCross 9 = .ok (.aload_n 1, 1) := by decide +kernel
theorem dX4_becomeCross_10 : decode cX4_becomeCross 10 = .ok (.getfield 16, 3) := by decide +kernel
theorem dX4_becomeCross_13 : decode cX4_becomeCross 13 = .ok (.aload_n 2, 1) := by decide +kernel
theorem dX4_becomeCross_14 : decode cX4_becomeCross 14 = .ok (.getfield 13, 3) := by decide +kernel
theorem dX4_becomeCross_17 : decode cX4_becomeCross 17 = .ok (.lmul, 1) := by decide +kernel
theorem dX4_becomeCross_18 : decode cX4_becomeCross 18 = .ok (.lsub, 1) := by decide +kernel
theorem dX4_becomeCross_19 : decode cX4_becomeCross 19 = .ok (.ldc2_w 25, 3) := by decide +kernel
theorem dX4_becomeCross_22 : decode cX4_becomeCross 22 = .ok (.invokestatic 27, 3) := by decide +kernel
theorem dX4_becomeCross_25 : decode cX4_becomeCross 25 = .ok (.lstore_n 3, 1) := by decide +kernel
theorem dX4_becomeCross_26 : decode cX4_becomeCross 26 = .ok (.aload_n 1, 1) := by decide +kernel
theorem dX4_becomeCross_27 : decode cX4_becomeCross 27 = .ok (.getfield 16, 3) := by decide +kernel
theorem dX4_becomeCross_30 : decode cX4_becomeCross 30 = .ok (.aload_n 2, 1) := by decide +kernel
theorem dX4_becomeCross_31 : decode cX4_becomeCross 31 = .ok (.getfield 7, 3) := by decide +kernel
theorem dX4_becomeCross_34 : decode cX4_becomeCross 34 = .ok (.lmul, 1) := by decide +kernel
theorem dX4_becomeCross_35 : decode cX4_becomeCross 35 = .ok (.aload_n 1, 1) := by decide +kernel
theorem dX4_becomeCross_36 : decode cX4_becomeCross 36 = .ok (.getfield 7, 3) := by decide +kernel
theorem dX4_becomeCross_39 : decode cX4_becomeCross 39 = .ok (.aload_n 2, 1) := by decide +kernel
theorem dX4_becomeCross_40 : decode cX4_becomeCross 40 = .ok (.getfield 16, 3) := by decide +kernel
theorem dX4_becomeCross_43 : decode cX4_becomeCross 43 = .ok (.lmul, 1) := by decide +kernel
theorem dX4_becomeCross_44 : decode cX4_becomeCross 44 = .ok (.lsub, 1) := by decide +kernel
theorem dX4_becomeCross_45 : decode cX4_becomeCross 45 = .ok (.ldc2_w 25, 3) := by decide +kernel
theorem dX4_becomeCross_48 : decode cX4_becomeCross 48 = .ok (.invokestatic 27, 3) := by decide +kernel
theorem dX4_becomeCross_51 : decode cX4_becomeCross 51 = .ok (.lstore 5, 2) := by decide +kernel
theorem dX4_becomeCross_53 : decode cX4_becomeCross 53 = .ok (.aload_n 1, 1) := by decide +kernel
theorem dX4_becomeCross_54 : decode cX4_becomeCross 54 = .ok (.getfield 7, 3) := by decide +kernel
theorem dX4_becomeCross_57 : decode cX4_becomeCross 57 = .ok (.aload_n 2, 1) := by decide +kernel
theorem dX4_becomeCross_58 : decode cX4_becomeCross 58 = .ok (.getfield 13, 3) := by decide +kernel
theorem dX4_becomeCross_61 : decode cX4_becomeCross 61 = .ok (.lmul, 1) := by decide +kernel
theorem dX4_becomeCross_62 : decode cX4_becomeCross 62 = .ok (.aload_n 1, 1) := by decide +kernel
theorem dX4_becomeCross_63 : decode cX4_becomeCross 63 = .ok (.getfield 13, 3) := by decide +kernel
theorem dX4_becomeCross_66 : decode cX4_becomeCross 66 = .ok (.aload_n 2, 1) := by decide +kernel
theorem dX4_becomeCross_67 : decode cX4_becomeCross 67 = .ok (.getfield 7, 3) := by decide +kernel
theorem dX4_becomeCross_70 : decode cX4_becomeCross 70 = .ok (.lmul, 1) := by decide +kernel
theorem dX4_becomeCross_71 : decode cX4_becomeCross 71 = .ok (.lsub, 1) := by decide +kernel
theorem dX4_becomeCross_72 : decode cX4_becomeCross 72 = .ok (.ldc2_w 25, 3) := by decide +kernel
theorem dX4_becomeCross_75 : decode cX4_becomeCross 75 = .ok (.invokestatic 27, 3) := by decide +kernel
theorem dX4_becomeCross_78 : decode cX4_becomeCross 78 = .ok (.lstore 7, 2) := by decide +kernel
theorem dX4_becomeCross_80 : decode cX4_becomeCross 80 = .ok (.aload_n 0, 1) := by decide +kernel
theorem dX4_becomeCross_81 : decode cX4_becomeCross 81 = .ok (.lload_n 3, 1) := by decide +kernel
theorem dX4_becomeCross_82 : decode cX4_becomeCross 82 = .ok (.putfield 7, 3) := by decide +kernel
theorem dX4_becomeCross_85 : decode cX4_becomeCross 85 = .ok (.aload_n 0, 1) := by decide +kernel
theorem dX4_becomeCross_86 : decode cX4_becomeCross 86 = .ok (.lload 5, 2) := by decide +kernel
theorem dX4_becomeCross_88 : decode cX4_becomeCross 88 = .ok (.putfield 13, 3) := by decide +kernel
theorem dX4_becomeCross_91 : decode cX4_becomeCross 91 = .ok (.aload_n 0, 1) := by decide +kernel
theorem dX4_becomeCross_92 : decode cX4_becomeCross 92 = .ok (.lload 7, 2) := by decide +kernel
theorem dX4_becomeCross_94 : decode cX4_becomeCross 94 = .ok (.putfield 16, 3) := by decide +kernel
theorem dX4_becomeCross_97 : decode cX4_becomeCross 97 = .ok (.return_, 1) := by decide +kernel
theorem wm_X4_27 : Cond.methodLink RX4 27 yJ9_floorMod_f86c9 ∈ ltb := List.mem_filter.mpr ⟨List.mem_append_right _ (List.mem_of_getElem? (i := 363) (by decide +kernel)), by decide +kernel⟩
noncomputable def pr_X4_becomeCross : Prg := [(0, z_aload 1 1), (1, z_vget 1), (4, z_aload 2 1), (5, z_vget 2), (8, z_lmul), (9, z_aload 1 1), (10, z_vget 2), (13, z_aload 2 1), (14, z_vget 1), (17, z_lmul), (18, z_lsub), (19, z_lc (.inl 2147483647) 3), (22, z_call 2 sp_J9_floorMod_f86c9), (25, z_lstore 3 1), (26, z_aload 1 1), (27, z_vget 2), (30, z_aload 2 1), (31, z_vget 0), (34, z_lmul), (35, z_aload 1 1), (36, z_vget 0), (39, z_aload 2 1), (40, z_vget 2), (43, z_lmul), (44, z_lsub), (45, z_lc (.inl 2147483647) 3), (48, z_call 2 sp_J9_floorMod_f86c9), (51, z_lstore 5 2), (53, z_aload 1 1), (54, z_vget 0), (57, z_aload 2 1), (58, z_vget 1), (61, z_lmul), (62, z_aload 1 1), (63, z_vget 1), (66, z_aload 2 1), (67, z_vget 0), (70, z_lmul), (71, z_lsub), (72, z_lc (.inl 2147483647) 3), (75, z_call 2 sp_J9_floorMod_f86c9), (78, z_lstore 7 2), (80, z_aload 0 1), (81, z_lload 3 1), (82, z_vput 0), (85, z_aload 0 1), (86, z_lload 5 2), (88, z_vput 1), (91, z_aload 0 1), (92, z_lload 7 2), (94, z_vput 2), (97, z_vret)]
set_option maxRecDepth 100000 in
set_option maxHeartbeats 4000000 in
theorem sn_X4_becomeCross {G : Geo} (hG : GeoOK G) (l : Launch) : ∀ q ∈ pr_X4_becomeCross, Sn G l yX4_becomeCross.cls cX4_becomeCross 9 1 none q.1 q.2 :=
  fcs (zs_aload_n dX4_becomeCross_0 rfl) <| fcs (zs_vget (by decide) wf_X4_13 dX4_becomeCross_1) <| fcs (zs_aload_n dX4_becomeCross_4 rfl) <| fcs (zs_vget (by decide) wf_X4_16 dX4_becomeCross_5) <| fcs (zs_lmul dX4_becomeCross_8) <| fcs (zs_aload_n dX4_becomeCross_9 rfl) <| fcs (zs_vget (by decide) wf_X4_16 dX4_becomeCross_10) <| fcs (zs_aload_n dX4_becomeCross_13 rfl) <| fcs (zs_vget (by decide) wf_X4_13 dX4_becomeCross_14) <| fcs (zs_lmul dX4_becomeCross_17) <| fcs (zs_lsub dX4_becomeCross_18) <| fcs (zs_ldc2 dX4_becomeCross_19 wl_X4_25) <| fcs (zs_calls (ct_J9_floorMod_f86c9 hG l) mi_J9_floorMod_f86c9 ws_J9_floorMod_f86c9 (by decide) wm_X4_27 dX4_becomeCross_22) <| fcs (zs_lstore_n dX4_becomeCross_25 rfl (by decide)) <| fcs (zs_aload_n dX4_becomeCross_26 rfl) <| fcs (zs_vget (by decide) wf_X4_16 dX4_becomeCross_27) <| fcs (zs_aload_n dX4_becomeCross_30 rfl) <| fcs (zs_vget (by decide) wf_X4_7 dX4_becomeCross_31) <| fcs (zs_lmul dX4_becomeCross_34) <| fcs (zs_aload_n dX4_becomeCross_35 rfl) <| fcs (zs_vget (by decide) wf_X4_7 dX4_becomeCross_36) <| fcs (zs_aload_n dX4_becomeCross_39 rfl) <| fcs (zs_vget (by decide) wf_X4_16 dX4_becomeCross_40) <| fcs (zs_lmul dX4_becomeCross_43) <| fcs (zs_lsub dX4_becomeCross_44) <| fcs (zs_ldc2 dX4_becomeCross_45 wl_X4_25) <| fcs (zs_calls (ct_J9_floorMod_f86c9 hG l) mi_J9_floorMod_f86c9 ws_J9_floorMod_f86c9 (by decide) wm_X4_27 dX4_becomeCross_48) <| fcs (zs_lstore dX4_becomeCross_51 (by decide)) <| fcs (zs_aload_n dX4_becomeCross_53 rfl) <| fcs (zs_vget (by decide) wf_X4_7 dX4_becomeCross_54) <| fcs (zs_aload_n dX4_becomeCross_57 rfl) <| fcs (zs_vget (by decide) wf_X4_13 dX4_becomeCross_58) <| fcs (zs_lmul dX4_becomeCross_61) <| fcs (zs_aload_n dX4_becomeCross_62 rfl) <| fcs (zs_vget (by decide) wf_X4_13 dX4_becomeCross_63) <| fcs (zs_aload_n dX4_becomeCross_66 rfl) <| fcs (zs_vget (by decide) wf_X4_7 dX4_becomeCross_67) <| fcs (zs_lmul dX4_becomeCross_70) <| fcs (zs_lsub dX4_becomeCross_71) <| fcs (zs_ldc2 dX4_becomeCross_72 wl_X4_25) <| fcs (zs_calls (ct_J9_floorMod_f86c9 hG l) mi_J9_floorMod_f86c9 ws_J9_floorMod_f86c9 (by decide) wm_X4_27 dX4_becomeCross_75) <| fcs (zs_lstore dX4_becomeCross_78 (by decide)) <| fcs (zs_aload_n dX4_becomeCross_80 rfl) <| fcs (zs_lload_n dX4_becomeCross_81 rfl) <| fcs (zs_vput (by decide) wf_X4_7 dX4_becomeCross_82) <| fcs (zs_aload_n dX4_becomeCross_85 rfl) <| fcs (zs_lload dX4_becomeCross_86) <| fcs (zs_vput (by decide) wf_X4_13 dX4_becomeCross_88) <| fcs (zs_aload_n dX4_becomeCross_91 rfl) <| fcs (zs_lload dX4_becomeCross_92) <| fcs (zs_vput (by decide) wf_X4_16 dX4_becomeCross_94) <| fcs (zs_vret dX4_becomeCross_97) <| fnl
theorem crs_e (a b c d : ZF) : zi (lv (.inl (lv (.inl (lv (.inr a) * lv (.inr b))) - lv (.inl (lv (.inr c) * lv (.inr d)))))).toInt = a * b - c * d := by
  show zi (em a * em b - em c * em d).toInt = _
  rw [n_crs, zi_crs]
set_option maxRecDepth 100000 in
set_option maxHeartbeats 4000000 in
theorem ct_X4_becomeCross {G : Geo} (hG : GeoOK G) (l : Launch) : Ct G l yX4_becomeCross cX4_becomeCross 9 none 1 sp_X4_becomeCross := by
  refine Ct.of pr_X4_becomeCross hG (by decide +kernel) (sn_X4_becomeCross hG l) ?_
  intro av σ post hok h
  unfold sp_X4_becomeCross at h
  split at h
  · obtain ⟨hq, h⟩ := bif_t h
    obtain ⟨hq, hw, hu⟩ := is5_3 hq
    refine ⟨Nat.le_of_ble_eq_true rfl, fun X hX => ?_⟩
    refine go hX [] 80 ?_
    refine ⟨hw, hu, hw, hu, rfl, ?_⟩
    refine ⟨hw, hu, hw, hu, rfl, ?_⟩
    refine ⟨hw, hu, hw, hu, rfl, ?_⟩
    refine ⟨hq, _, rfl, ?_⟩
    refine ⟨hq, _, rfl, ?_⟩
    refine ⟨hq, _, rfl, ?_⟩
    show post none _
    exact cpost (fin3 (crs_e _ _ _ _) (crs_e _ _ _ _) (crs_e _ _ _ _)) h
  · exact h.elim
noncomputable def sp_X4_dot : Spc := fun av σ post => match av with
  | [.inr (.inr q), .inr (.inr w)] => bif is5 q && is5 w then post (some (af (v_dot (σ.1 q.1 q.2) (σ.1 w.1 w.2)))) σ else False
  | _ => False
theorem dX4_dot_0 : decode cX4_dot 0 = .ok (.aload_n 0, 1) := by decide +kernel
theorem dX4_dot_1 : decode cX4_dot 1 = .ok (.getfield 7, 3) := by decide +kernel
theorem dX4_dot_4 : decode cX4_dot 4 = .ok (.aload_n 1, 1) := by decide +kernel
theorem dX4_dot_5 : decode cX4_dot 5 = .ok (.getfield 7, 3) := by decide +kernel
theorem dX4_dot_8 : decode cX4_dot 8 = .ok (.lmul, 1) := by decide +kernel
theorem dX4_dot_9 : decode cX4_dot 9 = .ok (.aload_n 0, 1) := by decide +kernel
theorem dX4_dot_10 : decode cX4_dot 10 = .ok (.getfield 13, 3) := by decide +kernel
theorem dX4_dot_13 : decode cX4_dot 13 = .ok (.aload_n 1, 1) := by decide +kernel
theorem dX4_dot_14 : decode cX4_dot 14 = .ok (.getfield 13, 3) := by decide +kernel
theorem dX4_dot_17 : decode cX4_dot 17 = .ok (.lmul, 1) := by decide +kernel
theorem dX4_dot_18 : decode cX4_dot 18 = .ok (.ladd, 1) := by decide +kernel
theorem dX4_dot_19 : decode cX4_dot 19 = .ok (.ldc2_w 25, 3) := by decide +kernel
theorem dX4_dot_22 : decode cX4_dot 22 = .ok (.lrem, 1) := by decide +kernel
theorem dX4_dot_23 : decode cX4_dot 23 = .ok (.aload_n 0, 1) := by decide +kernel
theorem dX4_dot_24 : decode cX4_dot 24 = .ok (.getfield 16, 3) := by decide +kernel
theorem dX4_dot_27 : decode cX4_dot 27 = .ok (.aload_n 1, 1) := by decide +kernel
theorem dX4_dot_28 : decode cX4_dot 28 = .ok (.getfield 16, 3) := by decide +kernel
theorem dX4_dot_31 : decode cX4_dot 31 = .ok (.lmul, 1) := by decide +kernel
theorem dX4_dot_32 : decode cX4_dot 32 = .ok (.ladd, 1) := by decide +kernel
theorem dX4_dot_33 : decode cX4_dot 33 = .ok (.ldc2_w 25, 3) := by decide +kernel
theorem dX4_dot_36 : decode cX4_dot 36 = .ok (.lrem, 1) := by decide +kernel
theorem dX4_dot_37 : decode cX4_dot 37 = .ok (.lreturn, 1) := by decide +kernel
noncomputable def pr_X4_dot : Prg := [(0, z_aload 0 1), (1, z_vget 0), (4, z_aload 1 1), (5, z_vget 0), (8, z_lmul), (9, z_aload 0 1), (10, z_vget 1), (13, z_aload 1 1), (14, z_vget 1), (17, z_lmul), (18, z_ladd), (19, z_lc (.inl 2147483647) 3), (22, z_lrem), (23, z_aload 0 1), (24, z_vget 2), (27, z_aload 1 1), (28, z_vget 2), (31, z_lmul), (32, z_ladd), (33, z_lc (.inl 2147483647) 3), (36, z_lrem), (37, z_lret)]
set_option maxRecDepth 100000 in
set_option maxHeartbeats 4000000 in
theorem sn_X4_dot {G : Geo} (hG : GeoOK G) (l : Launch) : ∀ q ∈ pr_X4_dot, Sn G l yX4_dot.cls cX4_dot 2 0 (some .long) q.1 q.2 :=
  fcs (zs_aload_n dX4_dot_0 rfl) <| fcs (zs_vget (by decide) wf_X4_7 dX4_dot_1) <| fcs (zs_aload_n dX4_dot_4 rfl) <| fcs (zs_vget (by decide) wf_X4_7 dX4_dot_5) <| fcs (zs_lmul dX4_dot_8) <| fcs (zs_aload_n dX4_dot_9 rfl) <| fcs (zs_vget (by decide) wf_X4_13 dX4_dot_10) <| fcs (zs_aload_n dX4_dot_13 rfl) <| fcs (zs_vget (by decide) wf_X4_13 dX4_dot_14) <| fcs (zs_lmul dX4_dot_17) <| fcs (zs_ladd dX4_dot_18) <| fcs (zs_ldc2 dX4_dot_19 wl_X4_25) <| fcs (zs_lrem dX4_dot_22) <| fcs (zs_aload_n dX4_dot_23 rfl) <| fcs (zs_vget (by decide) wf_X4_16 dX4_dot_24) <| fcs (zs_aload_n dX4_dot_27 rfl) <| fcs (zs_vget (by decide) wf_X4_16 dX4_dot_28) <| fcs (zs_lmul dX4_dot_31) <| fcs (zs_ladd dX4_dot_32) <| fcs (zs_ldc2 dX4_dot_33 wl_X4_25) <| fcs (zs_lrem dX4_dot_36) <| fcs (zs_lret dX4_dot_37) <| fnl
set_option maxRecDepth 100000 in
set_option maxHeartbeats 4000000 in
theorem ct_X4_dot {G : Geo} (hG : GeoOK G) (l : Launch) : Ct G l yX4_dot cX4_dot 2 (some .long) 0 sp_X4_dot := by
  refine Ct.of pr_X4_dot hG (by decide +kernel) (sn_X4_dot hG l) ?_
  intro av σ post hok h
  unfold sp_X4_dot at h
  split at h
  · obtain ⟨hq, h⟩ := bif_t h
    obtain ⟨hq, hw⟩ := is5_2 hq
    refine ⟨Nat.le_of_ble_eq_true rfl, fun X hX => ?_⟩
    refine go hX [] 60 ?_
    refine ⟨hq, hw, hq, hw, ne_P, hq, hw, ne_P, .inr _, ?_, h⟩
    show rP (rP (em _ * em _ + em _ * em _) + em _ * em _) = em _
    rw [n_dot2, n_addt]
    rfl
  · exact h.elim
def v_prt (v : V3) (x : Int32) : ZF := if x = 0 then v.1 else if x = nI 1 then v.2.1 else v.2.2
noncomputable def sp_X4_part : Spc := fun av σ post => match av with
  | [.inr (.inr q), .inl x] => bif is5 q then post (some (af (v_prt (σ.1 q.1 q.2) x))) σ else False
  | _ => False
theorem dX4_part_0 : decode cX4_part 0 = .ok (.iload_n 1, 1) := by decide +kernel
theorem dX4_part_1 : decode cX4_part 1 = .ok (.ifCond .ne 10, 3) := by decide +kernel
theorem dX4_part_4 : decode cX4_part 4 = .ok (.aload_n 0, 1) := by decide +kernel
theorem dX4_part_5 : decode cX4_part 5 = .ok (.getfield 7, 3) := by decide +kernel
theorem dX4_part_8 : decode cX4_part 8 = .ok (.goto 19, 3) := by decide +kernel
theorem dX4_part_11 : decode cX4_part 11 = .ok (.iload_n 1, 1) := by decide +kernel
theorem dX4_part_12 : decode cX4_part 12 = .ok (.iconst 1, 1) := by decide +kernel
theorem dX4_part_13 : decode cX4_part 13 = .ok (.if_icmp .ne 10, 3) := by decide +kernel
theorem dX4_part_16 : decode cX4_part 16 = .ok (.aload_n 0, 1) := by decide +kernel
theorem dX4_part_17 : decode cX4_part 17 = .ok (.getfield 13, 3) := by decide +kernel
theorem dX4_part_20 : decode cX4_part 20 = .ok (.goto 7, 3) := by decide +kernel
theorem dX4_part_23 : decode cX4_part 23 = .ok (.aload_n 0, 1) := by decide +kernel
theorem dX4_part_24 : decode cX4_part 24 = .ok (.getfield 16, 3) := by decide +kernel
theorem dX4_part_27 : decode cX4_part 27 = .ok (.lreturn, 1) := by decide +kernel
noncomputable def pr_X4_part : Prg := [(0, z_iload 1 1), (1, z_nf1 11), (4, z_aload 0 1), (5, z_vget 0), (8, z_goto 27), (11, z_iload 1 1), (12, z_ic (nI 1) 1), (13, z_nf2 23), (16, z_aload 0 1), (17, z_vget 1), (20, z_goto 27), (23, z_aload 0 1), (24, z_vget 2), (27, z_lret)]
set_option maxRecDepth 100000 in
set_option maxHeartbeats 4000000 in
theorem sn_X4_part {G : Geo} (hG : GeoOK G) (l : Launch) : ∀ q ∈ pr_X4_part, Sn G l yX4_part.cls cX4_part 2 0 (some .long) q.1 q.2 :=
  fcs (zs_iload_n dX4_part_0 rfl) <| fcs (zs_if_ne dX4_part_1 rfl) <| fcs (zs_aload_n dX4_part_4 rfl) <| fcs (zs_vget (by decide) wf_X4_7 dX4_part_5) <| fcs (zs_goto dX4_part_8 rfl) <| fcs (zs_iload_n dX4_part_11 rfl) <| fcs (zs_iconst dX4_part_12 rfl) <| fcs (zs_icmp_ne dX4_part_13 rfl) <| fcs (zs_aload_n dX4_part_16 rfl) <| fcs (zs_vget (by decide) wf_X4_13 dX4_part_17) <| fcs (zs_goto dX4_part_20 rfl) <| fcs (zs_aload_n dX4_part_23 rfl) <| fcs (zs_vget (by decide) wf_X4_16 dX4_part_24) <| fcs (zs_lret dX4_part_27) <| fnl
set_option maxRecDepth 100000 in
set_option maxHeartbeats 4000000 in
theorem ct_X4_part {G : Geo} (hG : GeoOK G) (l : Launch) : Ct G l yX4_part cX4_part 2 (some .long) 0 sp_X4_part := by
  refine Ct.of pr_X4_part hG (by decide +kernel) (sn_X4_part hG l) ?_
  intro av σ post hok h
  unfold sp_X4_part at h
  split at h
  · rename_i q x
    obtain ⟨hq, h⟩ := bif_t h
    have hq := is5_t hq
    unfold v_prt at h
    refine ⟨Nat.le_of_ble_eq_true rfl, fun X hX => ?_⟩
    refine go hX [] 60 ?_
    refine ⟨fun h1 => ⟨fun h2 => ?_, fun h2 => ?_⟩, fun h1 => ?_⟩
    · rw [if_neg h1, if_neg h2] at h
      exact ⟨hq, .inr _, rfl, h⟩
    · rw [if_neg h1, if_pos h2] at h
      exact ⟨hq, .inr _, rfl, h⟩
    · rw [if_pos h1] at h
      exact ⟨hq, .inr _, rfl, h⟩
  · exact h.elim
