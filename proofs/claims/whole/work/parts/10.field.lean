/-! Math.floorMod and the class's Field -/
theorem fcs {α : Type} {P : α → Prop} {q : α} {r : List α} (h : P q) (t : ∀ x ∈ r, P x) : ∀ x ∈ q :: r, P x := List.forall_mem_cons.mpr ⟨h, t⟩
theorem fnl {α : Type} {P : α → Prop} : ∀ x ∈ ([] : List α), P x := fun _ h => absurd h List.not_mem_nil
noncomputable def sp_J9_floorMod_f86c9 : Spc := fun av σ post => match av with
  | [.inr (.inl x), .inr (.inl y)] => lv y = 2147483647 ∧ post (some (af (zi (lv x).toInt))) σ
  | _ => False
theorem dJ9_floorMod_f86c9_0 : decode cJ9_floorMod_f86c9 0 = .ok (.lload_n 0, 1) := by decide +kernel
theorem dJ9_floorMod_f86c9_1 : decode cJ9_floorMod_f86c9 1 = .ok (.lload_n 2, 1) := by decide +kernel
theorem dJ9_floorMod_f86c9_2 : decode cJ9_floorMod_f86c9 2 = .ok (.lrem, 1) := by decide +kernel
theorem dJ9_floorMod_f86c9_3 : decode cJ9_floorMod_f86c9 3 = .ok (.lstore 4, 2) := by decide +kernel
theorem dJ9_floorMod_f86c9_5 : decode cJ9_floorMod_f86c9 5 = .ok (.lload_n 0, 1) := by decide +kernel
theorem dJ9_floorMod_f86c9_6 : decode cJ9_floorMod_f86c9 6 = .ok (.lload_n 2, 1) := by decide +kernel
theorem dJ9_floorMod_f86c9_7 : decode cJ9_floorMod_f86c9 7 = .ok (.lxor, 1) := by decide +kernel
theorem dJ9_floorMod_f86c9_8 : decode cJ9_floorMod_f86c9 8 = .ok (.lconst 0, 1) := by decide +kernel
theorem dJ9_floorMod_f86c9_9 : decode cJ9_floorMod_f86c9 9 = .ok (.lcmp, 1) := by decide +kernel
theorem dJ9_floorMod_f86c9_10 : decode cJ9_floorMod_f86c9 10 = .ok (.ifCond .ge 15, 3) := by decide +kernel
theorem dJ9_floorMod_f86c9_13 : decode cJ9_floorMod_f86c9 13 = .ok (.lload 4, 2) := by decide +kernel
theorem dJ9_floorMod_f86c9_15 : decode cJ9_floorMod_f86c9 15 = .ok (.lconst 0, 1) := by decide +kernel
theorem dJ9_floorMod_f86c9_16 : decode cJ9_floorMod_f86c9 16 = .ok (.lcmp, 1) := by decide +kernel
theorem dJ9_floorMod_f86c9_17 : decode cJ9_floorMod_f86c9 17 = .ok (.ifCond .eq 8, 3) := by decide +kernel
theorem dJ9_floorMod_f86c9_20 : decode cJ9_floorMod_f86c9 20 = .ok (.lload 4, 2) := by decide +kernel
theorem dJ9_floorMod_f86c9_22 : decode cJ9_floorMod_f86c9 22 = .ok (.lload_n 2, 1) := by decide +kernel
theorem dJ9_floorMod_f86c9_23 : decode cJ9_floorMod_f86c9 23 = .ok (.ladd, 1) := by decide +kernel
theorem dJ9_floorMod_f86c9_24 : decode cJ9_floorMod_f86c9 24 = .ok (.lreturn, 1) := by decide +kernel
theorem dJ9_floorMod_f86c9_25 : decode cJ9_floorMod_f86c9 25 = .ok (.lload 4, 2) := by decide +kernel
theorem dJ9_floorMod_f86c9_27 : decode cJ9_floorMod_f86c9 27 = .ok (.lreturn, 1) := by decide +kernel
noncomputable def pr_J9_floorMod_f86c9 : Prg := [(0, z_lload 0 1), (1, z_lload 2 1), (2, z_lrem), (3, z_lstore 4 2), (5, z_lload 0 1), (6, z_lload 2 1), (7, z_lxor), (8, z_lc (.inr 0) 1), (9, z_lcmp), (10, z_if1 (fun x => 0 ≤ x) 25), (13, z_lload 4 2), (15, z_lc (.inr 0) 1), (16, z_lcmp), (17, z_if1 (fun x => x = 0) 25), (20, z_lload 4 2), (22, z_lload 2 1), (23, z_ladd), (24, z_lret), (25, z_lload 4 2), (27, z_lret)]
set_option maxRecDepth 100000 in
set_option maxHeartbeats 4000000 in
theorem sn_J9_floorMod_f86c9 {G : Geo} (hG : GeoOK G) (l : Launch) : ∀ q ∈ pr_J9_floorMod_f86c9, Sn G l yJ9_floorMod_f86c9.cls cJ9_floorMod_f86c9 6 0 (some .long) q.1 q.2 :=
  fcs (zs_lload_n dJ9_floorMod_f86c9_0 rfl) <| fcs (zs_lload_n dJ9_floorMod_f86c9_1 rfl) <| fcs (zs_lrem dJ9_floorMod_f86c9_2) <| fcs (zs_lstore dJ9_floorMod_f86c9_3 (by decide)) <| fcs (zs_lload_n dJ9_floorMod_f86c9_5 rfl) <| fcs (zs_lload_n dJ9_floorMod_f86c9_6 rfl) <| fcs (zs_lxor dJ9_floorMod_f86c9_7) <| fcs (zs_lconst dJ9_floorMod_f86c9_8 rfl) <| fcs (zs_lcmp dJ9_floorMod_f86c9_9) <| fcs (zs_if_ge dJ9_floorMod_f86c9_10 rfl) <| fcs (zs_lload dJ9_floorMod_f86c9_13) <| fcs (zs_lconst dJ9_floorMod_f86c9_15 rfl) <| fcs (zs_lcmp dJ9_floorMod_f86c9_16) <| fcs (zs_if_eq dJ9_floorMod_f86c9_17 rfl) <| fcs (zs_lload dJ9_floorMod_f86c9_20) <| fcs (zs_lload_n dJ9_floorMod_f86c9_22 rfl) <| fcs (zs_ladd dJ9_floorMod_f86c9_23) <| fcs (zs_lret dJ9_floorMod_f86c9_24) <| fcs (zs_lload dJ9_floorMod_f86c9_25) <| fcs (zs_lret dJ9_floorMod_f86c9_27) <| fnl
theorem l_neg (x : Int64) : x < 0 ↔ x.toBitVec.msb = true := by
  rw [Int64.lt_iff_toInt_lt, BitVec.msb_eq_toInt, decide_eq_true_iff]
  exact Iff.rfl
theorem l_xorP (x : Int64) : x ^^^ 2147483647 < 0 ↔ x < 0 := by
  rw [l_neg, l_neg, Int64.toBitVec_xor, BitVec.msb_xor]
  have h : (2147483647 : Int64).toBitVec.msb = false := by decide
  rw [h, Bool.xor_false]
theorem cmp_neg (x : Int64) : ¬ 0 ≤ lg_cmp x 0 ↔ x < 0 := by
  unfold lg_cmp
  split
  · rename_i h
    have h0 : (0 : Int64).toInt = 0 := by decide
    refine ⟨fun q => absurd (by decide) q, fun q => ?_⟩
    rw [gt_iff_lt, Int64.lt_iff_toInt_lt] at h
    rw [Int64.lt_iff_toInt_lt] at q
    omega
  · split
    · rename_i h1 h2
      refine ⟨fun q => absurd (by decide) q, fun q => ?_⟩
      subst h2
      exact absurd q (by decide)
    · rename_i h1 h2
      refine ⟨fun _ => ?_, fun _ => by decide⟩
      have h3 : ¬ x.toInt = (0 : Int64).toInt := fun q => h2 (Int64.toInt_inj.mp q)
      rw [gt_iff_lt, Int64.lt_iff_toInt_lt] at h1
      rw [Int64.lt_iff_toInt_lt]
      omega
theorem fm_0 {x : Int64} (h : lg_cmp x 0 = 0) : x = 0 := by
  unfold lg_cmp at h
  split at h
  · exact absurd h (by decide)
  · split at h
    · assumption
    · exact absurd h (by decide)
set_option maxRecDepth 100000 in
set_option maxHeartbeats 4000000 in
theorem ct_J9_floorMod_f86c9 {G : Geo} (hG : GeoOK G) (l : Launch) : Ct G l yJ9_floorMod_f86c9 cJ9_floorMod_f86c9 6 (some .long) 0 sp_J9_floorMod_f86c9 := by
  refine Ct.of pr_J9_floorMod_f86c9 hG (by decide +kernel) (sn_J9_floorMod_f86c9 hG l) ?_
  intro av σ post hok h
  unfold sp_J9_floorMod_f86c9 at h
  split at h
  · rename_i x y
    obtain ⟨hy, h⟩ := h
    refine ⟨Nat.le_of_ble_eq_true rfl, fun X hX => ?_⟩
    refine go hX [] 60 ?_
    refine ⟨by rw [hy]; exact ne_P, ?_⟩
    refine ⟨fun h1 => ?_, fun h1 => ?_⟩
    · refine ⟨.inr _, ?_, h⟩
      show lv x - lv x / lv y * lv y = em _
      have h1 : 0 ≤ lg_cmp (lv x ^^^ lv y) 0 := h1
      rw [hy] at h1 ⊢
      have h2 : ¬ lv x < 0 := fun q => (cmp_neg _).mpr ((l_xorP _).mpr q) h1
      have h0 : (0 : Int64).toInt = 0 := by decide
      rw [Int64.lt_iff_toInt_lt] at h2
      exact rP_em (by omega)
    · have h1 : ¬ 0 ≤ lg_cmp (lv x ^^^ lv y) 0 := h1
      rw [hy] at h1
      have h2 : lv x < 0 := (l_xorP _).mp ((cmp_neg _).mp h1)
      have h3 := oP_em (lv x)
      have hn : rP (lv x) < 0 ∨ rP (lv x) = 0 := by
        have h0 : (0 : Int64).toInt = 0 := by decide
        rw [Int64.lt_iff_toInt_lt, h0] at h2 ⊢
        have h4 := Int.tmod_nonneg (2147483647 : Int) (show 0 ≤ -(lv x).toInt by omega)
        rw [Int.neg_tmod] at h4
        have h5 := rP_i (lv x)
        by_cases h6 : (rP (lv x)).toInt = 0
        · exact Or.inr (Int64.toInt_inj.mp (by rw [h6, h0]))
        · left
          omega
      refine ⟨fun h4 => ?_, fun h4 => ?_⟩
      · refine ⟨.inr _, ?_, h⟩
        show lv x - lv x / lv y * lv y = em _
        have h4 : lg_cmp (lv x - lv x / lv y * lv y) 0 = 0 := h4
        rw [hy] at h4 ⊢
        have h5 : rP (lv x) = 0 := fm_0 h4
        rw [h5, if_neg (by decide)] at h3
        exact h5.trans h3
      · refine ⟨.inr _, ?_, h⟩
        show lv x - lv x / lv y * lv y + lv y = em _
        have h4 : ¬ lg_cmp (lv x - lv x / lv y * lv y) 0 = 0 := h4
        rw [hy] at h4 ⊢
        have h5 : rP (lv x) < 0 := by
          rcases hn with h5 | h5
          · exact h5
          · exact absurd (by show lg_cmp (rP (lv x)) 0 = 0; rw [h5]; decide) h4
        rw [if_pos h5] at h3
        exact h3
  · exact h.elim
/-- a method of two field numbers that answers one -/
noncomputable def sp_X1_of : Spc := fun av σ post => match av with
  | [.inl x] => post (some (af (fi x))) σ
  | _ => False
theorem dX1_of_0 : decode cX1_of 0 = .ok (.iload_n 0, 1) := by decide +kernel
theorem dX1_of_1 : decode cX1_of 1 = .ok (.i2l, 1) := by decide +kernel
theorem dX1_of_2 : decode cX1_of 2 = .ok (.ldc2_w 9, 3) := by decide +kernel
theorem dX1_of_5 : decode cX1_of 5 = .ok (.invokestatic 11, 3) := by decide +kernel
theorem dX1_of_8 : decode cX1_of 8 = .ok (.lreturn, 1) := by decide +kernel
theorem wl_X1_9 : Cond.constantLong RX1 9 (lv (.inl 2147483647)) ∈ ltb := List.mem_filter.mpr ⟨List.mem_append_right _ (List.mem_of_getElem? (i := 219) (by decide +kernel)), by decide +kernel⟩
theorem wc_J9_floorMod_f86c9 : Cond.code yJ9_floorMod_f86c9 cJ9_floorMod_f86c9 6 (some .long) ∈ ltb := List.mem_filter.mpr ⟨List.mem_append_right _ (List.mem_of_getElem? (i := 222) (by decide +kernel)), by decide +kernel⟩
theorem wi_J9 : Cond.initialized RJ9 ∈ ltb := List.mem_filter.mpr ⟨List.mem_append_right _ (List.mem_of_getElem? (i := 8) (by decide +kernel)), by decide +kernel⟩
theorem mi_J9_floorMod_f86c9 : Mi yJ9_floorMod_f86c9 RJ9 2 cJ9_floorMod_f86c9 6 (some .long) := ⟨by decide +kernel, wc_J9_floorMod_f86c9, wi_J9, by decide⟩
theorem ws_J9_floorMod_f86c9 : Cond.static yJ9_floorMod_f86c9 ∈ ltb := List.mem_filter.mpr ⟨List.mem_append_right _ (List.mem_of_getElem? (i := 221) (by decide +kernel)), by decide +kernel⟩
theorem wm_X1_11 : Cond.methodLink RX1 11 yJ9_floorMod_f86c9 ∈ ltb := List.mem_filter.mpr ⟨List.mem_append_right _ (List.mem_of_getElem? (i := 220) (by decide +kernel)), by decide +kernel⟩
noncomputable def pr_X1_of : Prg := [(0, z_iload 0 1), (1, z_i2l), (2, z_lc (.inl 2147483647) 3), (5, z_call 2 sp_J9_floorMod_f86c9), (8, z_lret)]
set_option maxRecDepth 100000 in
set_option maxHeartbeats 4000000 in
theorem sn_X1_of {G : Geo} (hG : GeoOK G) (l : Launch) : ∀ q ∈ pr_X1_of, Sn G l yX1_of.cls cX1_of 1 1 (some .long) q.1 q.2 :=
  fcs (zs_iload_n dX1_of_0 rfl) <| fcs (zs_i2l dX1_of_1) <| fcs (zs_ldc2 dX1_of_2 wl_X1_9) <| fcs (zs_calls (ct_J9_floorMod_f86c9 hG l) mi_J9_floorMod_f86c9 ws_J9_floorMod_f86c9 (by decide) wm_X1_11 dX1_of_5) <| fcs (zs_lret dX1_of_8) <| fnl
set_option maxRecDepth 100000 in
set_option maxHeartbeats 4000000 in
theorem ct_X1_of {G : Geo} (hG : GeoOK G) (l : Launch) : Ct G l yX1_of cX1_of 1 (some .long) 1 sp_X1_of := by
  refine Ct.of pr_X1_of hG (by decide +kernel) (sn_X1_of hG l) ?_
  intro av σ post hok h
  unfold sp_X1_of at h
  split at h
  · rename_i x
    refine ⟨Nat.le_of_ble_eq_true rfl, fun X hX => ?_⟩
    refine go hX [] 60 ?_
    refine ⟨rfl, ?_⟩
    refine ⟨.inr _, rfl, ?_⟩
    have e : zi (lv (.inl x.toInt64)).toInt = fi x := by
      show zi x.toInt64.toInt = zi x.toInt
      rw [i2l_i]
    rw [e]
    exact h
  · exact h.elim
noncomputable def sp_X1_plus : Spc := fun av σ post => match av with
  | [.inr (.inl (.inr a)), .inr (.inl (.inr b))] => post (some (af (a + b))) σ
  | _ => False
theorem dX1_plus_0 : decode cX1_plus 0 = .ok (.lload_n 0, 1) := by decide +kernel
theorem dX1_plus_1 : decode cX1_plus 1 = .ok (.lload_n 2, 1) := by decide +kernel
theorem dX1_plus_2 : decode cX1_plus 2 = .ok (.ladd, 1) := by decide +kernel
theorem dX1_plus_3 : decode cX1_plus 3 = .ok (.ldc2_w 9, 3) := by decide +kernel
theorem dX1_plus_6 : decode cX1_plus 6 = .ok (.lrem, 1) := by decide +kernel
theorem dX1_plus_7 : decode cX1_plus 7 = .ok (.lreturn, 1) := by decide +kernel
noncomputable def pr_X1_plus : Prg := [(0, z_lload 0 1), (1, z_lload 2 1), (2, z_ladd), (3, z_lc (.inl 2147483647) 3), (6, z_lrem), (7, z_lret)]
set_option maxRecDepth 100000 in
set_option maxHeartbeats 4000000 in
theorem sn_X1_plus {G : Geo} (hG : GeoOK G) (l : Launch) : ∀ q ∈ pr_X1_plus, Sn G l yX1_plus.cls cX1_plus 4 0 (some .long) q.1 q.2 :=
  fcs (zs_lload_n dX1_plus_0 rfl) <| fcs (zs_lload_n dX1_plus_1 rfl) <| fcs (zs_ladd dX1_plus_2) <| fcs (zs_ldc2 dX1_plus_3 wl_X1_9) <| fcs (zs_lrem dX1_plus_6) <| fcs (zs_lret dX1_plus_7) <| fnl
set_option maxRecDepth 100000 in
set_option maxHeartbeats 4000000 in
theorem ct_X1_plus {G : Geo} (hG : GeoOK G) (l : Launch) : Ct G l yX1_plus cX1_plus 4 (some .long) 0 sp_X1_plus := by
  refine Ct.of pr_X1_plus hG (by decide +kernel) (sn_X1_plus hG l) ?_
  intro av σ post hok h
  unfold sp_X1_plus at h
  split at h
  · rename_i a b
    refine ⟨Nat.le_of_ble_eq_true rfl, fun X hX => ?_⟩
    refine go hX [] 60 ?_
    exact ⟨ne_P, .inr _, n_plus a b, h⟩
  · exact h.elim
noncomputable def sp_X1_minus : Spc := fun av σ post => match av with
  | [.inr (.inl (.inr a)), .inr (.inl (.inr b))] => post (some (af (a - b))) σ
  | _ => False
theorem dX1_minus_0 : decode cX1_minus 0 = .ok (.lload_n 0, 1) := by decide +kernel
theorem dX1_minus_1 : decode cX1_minus 1 = .ok (.lload_n 2, 1) := by decide +kernel
theorem dX1_minus_2 : decode cX1_minus 2 = .ok (.lsub, 1) := by decide +kernel
theorem dX1_minus_3 : decode cX1_minus 3 = .ok (.ldc2_w 9, 3) := by decide +kernel
theorem dX1_minus_6 : decode cX1_minus 6 = .ok (.ladd, 1) := by decide +kernel
theorem dX1_minus_7 : decode cX1_minus 7 = .ok (.ldc2_w 9, 3) := by decide +kernel
theorem dX1_minus_10 : decode cX1_minus 10 = .ok (.lrem, 1) := by decide +kernel
theorem dX1_minus_11 : decode cX1_minus 11 = .ok (.lreturn, 1) := by decide +kernel
noncomputable def pr_X1_minus : Prg := [(0, z_lload 0 1), (1, z_lload 2 1), (2, z_lsub), (3, z_lc (.inl 2147483647) 3), (6, z_ladd), (7, z_lc (.inl 2147483647) 3), (10, z_lrem), (11, z_lret)]
set_option maxRecDepth 100000 in
set_option maxHeartbeats 4000000 in
theorem sn_X1_minus {G : Geo} (hG : GeoOK G) (l : Launch) : ∀ q ∈ pr_X1_minus, Sn G l yX1_minus.cls cX1_minus 4 0 (some .long) q.1 q.2 :=
  fcs (zs_lload_n dX1_minus_0 rfl) <| fcs (zs_lload_n dX1_minus_1 rfl) <| fcs (zs_lsub dX1_minus_2) <| fcs (zs_ldc2 dX1_minus_3 wl_X1_9) <| fcs (zs_ladd dX1_minus_6) <| fcs (zs_ldc2 dX1_minus_7 wl_X1_9) <| fcs (zs_lrem dX1_minus_10) <| fcs (zs_lret dX1_minus_11) <| fnl
set_option maxRecDepth 100000 in
set_option maxHeartbeats 4000000 in
theorem ct_X1_minus {G : Geo} (hG : GeoOK G) (l : Launch) : Ct G l yX1_minus cX1_minus 4 (some .long) 0 sp_X1_minus := by
  refine Ct.of pr_X1_minus hG (by decide +kernel) (sn_X1_minus hG l) ?_
  intro av σ post hok h
  unfold sp_X1_minus at h
  split at h
  · rename_i a b
    refine ⟨Nat.le_of_ble_eq_true rfl, fun X hX => ?_⟩
    refine go hX [] 60 ?_
    exact ⟨ne_P, .inr _, n_minus a b, h⟩
  · exact h.elim
noncomputable def sp_X1_times : Spc := fun av σ post => match av with
  | [.inr (.inl (.inr a)), .inr (.inl (.inr b))] => post (some (af (a * b))) σ
  | _ => False
theorem dX1_times_0 : decode cX1_times 0 = .ok (.lload_n 0, 1) := by decide +kernel
theorem dX1_times_1 : decode cX1_times 1 = .ok (.lload_n 2, 1) := by decide +kernel
theorem dX1_times_2 : decode cX1_times 2 = .ok (.lmul, 1) := by decide +kernel
theorem dX1_times_3 : decode cX1_times 3 = .ok (.ldc2_w 9, 3) := by decide +kernel
theorem dX1_times_6 : decode cX1_times 6 = .ok (.lrem, 1) := by decide +kernel
theorem dX1_times_7 : decode cX1_times 7 = .ok (.lreturn, 1) := by decide +kernel
noncomputable def pr_X1_times : Prg := [(0, z_lload 0 1), (1, z_lload 2 1), (2, z_lmul), (3, z_lc (.inl 2147483647) 3), (6, z_lrem), (7, z_lret)]
set_option maxRecDepth 100000 in
set_option maxHeartbeats 4000000 in
theorem sn_X1_times {G : Geo} (hG : GeoOK G) (l : Launch) : ∀ q ∈ pr_X1_times, Sn G l yX1_times.cls cX1_times 4 0 (some .long) q.1 q.2 :=
  fcs (zs_lload_n dX1_times_0 rfl) <| fcs (zs_lload_n dX1_times_1 rfl) <| fcs (zs_lmul dX1_times_2) <| fcs (zs_ldc2 dX1_times_3 wl_X1_9) <| fcs (zs_lrem dX1_times_6) <| fcs (zs_lret dX1_times_7) <| fnl
set_option maxRecDepth 100000 in
set_option maxHeartbeats 4000000 in
theorem ct_X1_times {G : Geo} (hG : GeoOK G) (l : Launch) : Ct G l yX1_times cX1_times 4 (some .long) 0 sp_X1_times := by
  refine Ct.of pr_X1_times hG (by decide +kernel) (sn_X1_times hG l) ?_
  intro av σ post hok h
  unfold sp_X1_times at h
  split at h
  · rename_i a b
    refine ⟨Nat.le_of_ble_eq_true rfl, fun X hX => ?_⟩
    refine go hX [] 60 ?_
    exact ⟨ne_P, .inr _, n_times a b, h⟩
  · exact h.elim
noncomputable def sp_X1_inverse : Spc := fun av σ post => match av with
  | [.inr (.inl (.inr a))] => post (some (af (zinv a))) σ
  | _ => False
theorem dX1_inverse_0 : decode cX1_inverse 0 = .ok (.lconst 1, 1) := by decide +kernel
theorem dX1_inverse_1 : decode cX1_inverse 1 = .ok (.lstore_n 2, 1) := by decide +kernel
theorem dX1_inverse_2 : decode cX1_inverse 2 = .ok (.lload_n 0, 1) := by decide +kernel
theorem dX1_inverse_3 : decode cX1_inverse 3 = .ok (.lstore 4, 2) := by decide +kernel
theorem dX1_inverse_5 : decode cX1_inverse 5 = .ok (.iconst 0, 1) := by decide +kernel
theorem dX1_inverse_6 : decode cX1_inverse 6 = .ok (.istore 6, 2) := by decide +kernel
theorem dX1_inverse_8 : decode cX1_inverse 8 = .ok (.iload 6, 2) := by decide +kernel
theorem dX1_inverse_10 : decode cX1_inverse 10 = .ok (.bipush 31, 2) := by decide +kernel
theorem dX1_inverse_12 : decode cX1_inverse 12 = .ok (.if_icmp .ge 38, 3) := by decide +kernel
theorem dX1_inverse_15 : decode cX1_inverse 15 = .ok (.ldc2_w 17, 3) := by decide +kernel
theorem dX1_inverse_18 : decode cX1_inverse 18 = .ok (.iload 6, 2) := by decide +kernel
theorem dX1_inverse_20 : decode cX1_inverse 20 = .ok (.lshr, 1) := by decide +kernel
theorem dX1_inverse_21 : decode cX1_inverse 21 = .ok (.lconst 1, 1) := by decide +kernel
theorem dX1_inverse_22 : decode cX1_inverse 22 = .ok (.land, 1) := by decide +kernel
theorem dX1_inverse_23 : decode cX1_inverse 23 = .ok (.lconst 1, 1) := by decide +kernel
theorem dX1_inverse_24 : decode cX1_inverse 24 = .ok (.lcmp, 1) := by decide +kernel
theorem dX1_inverse_25 : decode cX1_inverse 25 = .ok (.ifCond .ne 10, 3) := by decide +kernel
theorem dX1_inverse_28 : decode cX1_inverse 28 = .ok (.lload_n 2, 1) := by decide +kernel
theorem dX1_inverse_29 : decode cX1_inverse 29 = .ok (.lload 4, 2) := by decide +kernel
theorem dX1_inverse_31 : decode cX1_inverse 31 = .ok (.invokestatic 19, 3) := by decide +kernel
theorem dX1_inverse_34 : decode cX1_inverse 34 = .ok (.lstore_n 2, 1) := by decide +kernel
theorem dX1_inverse_35 : decode cX1_inverse 35 = .ok (.lload 4, 2) := by decide +kernel
theorem dX1_inverse_37 : decode cX1_inverse 37 = .ok (.lload 4, 2) := by decide +kernel
theorem dX1_inverse_39 : decode cX1_inverse 39 = .ok (.invokestatic 19, 3) := by decide +kernel
theorem dX1_inverse_42 : decode cX1_inverse 42 = .ok (.lstore 4, 2) := by decide +kernel
theorem dX1_inverse_44 : decode cX1_inverse 44 = .ok (.iinc 6 1, 3) := by decide +kernel
theorem dX1_inverse_47 : decode cX1_inverse 47 = .ok (.goto (-39), 3) := by decide +kernel
theorem dX1_inverse_50 : decode cX1_inverse 50 = .ok (.lload_n 2, 1) := by decide +kernel
theorem dX1_inverse_51 : decode cX1_inverse 51 = .ok (.lreturn, 1) := by decide +kernel
theorem wl_X1_17 : Cond.constantLong RX1 17 (lv (.inr 2147483645)) ∈ ltb := List.mem_filter.mpr ⟨List.mem_append_right _ (List.mem_of_getElem? (i := 302) (by decide +kernel)), by decide +kernel⟩
theorem wc_X1_times : Cond.code yX1_times cX1_times 4 (some .long) ∈ ltb := List.mem_filter.mpr ⟨List.mem_append_right _ (List.mem_of_getElem? (i := 295) (by decide +kernel)), by decide +kernel⟩
theorem wi_X1 : Cond.initialized RX1 ∈ ltb := List.mem_filter.mpr ⟨List.mem_append_right _ (List.mem_of_getElem? (i := 7) (by decide +kernel)), by decide +kernel⟩
theorem mi_X1_times : Mi yX1_times RX1 2 cX1_times 4 (some .long) := ⟨by decide +kernel, wc_X1_times, wi_X1, by decide⟩
theorem ws_X1_times : Cond.static yX1_times ∈ ltb := List.mem_filter.mpr ⟨List.mem_append_right _ (List.mem_of_getElem? (i := 294) (by decide +kernel)), by decide +kernel⟩
theorem wm_X1_19 : Cond.methodLink RX1 19 yX1_times ∈ ltb := List.mem_filter.mpr ⟨List.mem_append_right _ (List.mem_of_getElem? (i := 303) (by decide +kernel)), by decide +kernel⟩
noncomputable def pr_X1_inverse : Prg := [(0, z_lc (.inr 1) 1), (1, z_lstore 2 1), (2, z_lload 0 1), (3, z_lstore 4 2), (5, z_ic (nI 0) 1), (6, z_istore 6 2), (8, z_iload 6 2), (10, z_ic (nI 31) 2), (12, z_if2 (fun x y => y ≤ x) 50), (15, z_lc (.inr 2147483645) 3), (18, z_iload 6 2), (20, z_lshr), (21, z_lc (.inr 1) 1), (22, z_land), (23, z_lc (.inr 1) 1), (24, z_lcmp), (25, z_nf1 35), (28, z_lload 2 1), (29, z_lload 4 2), (31, z_call 2 sp_X1_times), (34, z_lstore 2 1), (35, z_lload 4 2), (37, z_lload 4 2), (39, z_call 2 sp_X1_times), (42, z_lstore 4 2), (44, z_iinc 6 (nI 1)), (47, z_goto 8), (50, z_lload 2 1), (51, z_lret)]
set_option maxRecDepth 100000 in
set_option maxHeartbeats 4000000 in
theorem sn_X1_inverse {G : Geo} (hG : GeoOK G) (l : Launch) : ∀ q ∈ pr_X1_inverse, Sn G l yX1_inverse.cls cX1_inverse 7 1 (some .long) q.1 q.2 :=
  fcs (zs_lconst dX1_inverse_0 rfl) <| fcs (zs_lstore_n dX1_inverse_1 rfl (by decide)) <| fcs (zs_lload_n dX1_inverse_2 rfl) <| fcs (zs_lstore dX1_inverse_3 (by decide)) <| fcs (zs_iconst dX1_inverse_5 rfl) <| fcs (zs_istore dX1_inverse_6 (by decide)) <| fcs (zs_iload dX1_inverse_8) <| fcs (zs_bipush dX1_inverse_10 rfl) <| fcs (zs_icmp_ge dX1_inverse_12 rfl) <| fcs (zs_ldc2 dX1_inverse_15 wl_X1_17) <| fcs (zs_iload dX1_inverse_18) <| fcs (zs_lshr dX1_inverse_20) <| fcs (zs_lconst dX1_inverse_21 rfl) <| fcs (zs_land dX1_inverse_22) <| fcs (zs_lconst dX1_inverse_23 rfl) <| fcs (zs_lcmp dX1_inverse_24) <| fcs (zs_if_ne dX1_inverse_25 rfl) <| fcs (zs_lload_n dX1_inverse_28 rfl) <| fcs (zs_lload dX1_inverse_29) <| fcs (zs_calls (ct_X1_times hG l) mi_X1_times ws_X1_times (by decide) wm_X1_19 dX1_inverse_31) <| fcs (zs_lstore_n dX1_inverse_34 rfl (by decide)) <| fcs (zs_lload dX1_inverse_35) <| fcs (zs_lload dX1_inverse_37) <| fcs (zs_calls (ct_X1_times hG l) mi_X1_times ws_X1_times (by decide) wm_X1_19 dX1_inverse_39) <| fcs (zs_lstore dX1_inverse_42 (by decide)) <| fcs (zs_iinc dX1_inverse_44 rfl (by decide)) <| fcs (zs_goto dX1_inverse_47 rfl) <| fcs (zs_lload_n dX1_inverse_50 rfl) <| fcs (zs_lret dX1_inverse_51) <| fnl
theorem inv_step {a r p : ZF} {b : Nat} (hb : b < 31) (hr : r = zp a (2147483645 % 2 ^ b)) (hp : p = zp a (2 ^ b)) : (b = 1 → r = zp a (2147483645 % 2 ^ (b + 1))) ∧ (¬ b = 1 → r * p = zp a (2147483645 % 2 ^ (b + 1))) ∧ p * p = zp a (2 ^ (b + 1)) := by
  have h := inv_e ⟨b, hb⟩
  dsimp only at h
  refine ⟨fun h1 => ?_, fun h1 => ?_, ?_⟩
  · rw [if_pos h1] at h
    rw [h, hr, Nat.zero_add]
  · rw [if_neg h1] at h
    rw [h, hr, hp, zp_add]
    grind
  · rw [Nat.pow_succ, Nat.mul_comm, zp_two, hp]
set_option maxRecDepth 100000 in
set_option maxHeartbeats 4000000 in
theorem ct_X1_inverse {G : Geo} (hG : GeoOK G) (l : Launch) : Ct G l yX1_inverse cX1_inverse 7 (some .long) 1 sp_X1_inverse := by
  refine Ct.of pr_X1_inverse hG (by decide +kernel) (sn_X1_inverse hG l) ?_
  intro av σ post hok h
  unfold sp_X1_inverse at h
  split at h
  · rename_i a
    refine ⟨Nat.le_of_ble_eq_true rfl, fun X hX => ?_⟩
    have loop : ∀ (n b : Nat) (i : Int32) (r p : ZF), i = nI b → b + n = 31 → r = zp a (2147483645 % 2 ^ b) → p = zp a (2 ^ b) → X 8 [(6, .inl i), (4, af p), (2, af r), (0, af a)] [] σ := by
      intro n
      induction n with
      | zero =>
        intro b i r p hi hb hr hp
        subst hi
        refine go hX [8] 60 ?_
        refine ⟨fun h1 => ?_, fun h1 => absurd ((nI_leI (by decide) (by omega)).mpr (show 31 ≤ b by omega)) h1⟩
        refine ⟨.inr _, rfl, ?_⟩
        have e : r = zinv a := by
          rw [hr, show b = 31 by omega, zinv_e]
        rw [e]
        exact h
      | succ n ih =>
        intro b i r p hi hb hr hp
        subst hi
        obtain ⟨s1, s2, s3⟩ := inv_step (show b < 31 by omega) hr hp
        have hbit := inv_bit ⟨b, by omega⟩
        dsimp only at hbit
        refine go hX [8] 60 ?_
        refine ⟨fun h1 => absurd ((nI_leI (by decide) (by omega)).mp h1) (by omega), fun h1 => ?_⟩
        refine ⟨fun h2 => ?_, fun h2 => ?_⟩
        · have h2 : ¬ lg_cmp ((2147483645 : Int64) >>> ((nI b).toInt64 &&& 63) &&& 1) 1 = 0 := h2
          rw [hbit] at h2
          have hb1 : b = 1 := by
            by_cases h3 : b = 1
            · exact h3
            · rw [if_neg h3] at h2
              exact absurd (by decide) h2
          exact ih (b + 1) _ r (p * p) (nI_add b 1) (by omega) (s1 hb1) s3
        · have h2 : lg_cmp ((2147483645 : Int64) >>> ((nI b).toInt64 &&& 63) &&& 1) 1 = 0 := h2
          rw [hbit] at h2
          have hb1 : ¬ b = 1 := fun h3 => by
            rw [if_pos h3] at h2
            exact absurd h2 (by decide)
          exact ih (b + 1) _ (r * p) (p * p) (nI_add b 1) (by omega) (s2 hb1) s3
    refine go hX [8] 60 ?_
    exact loop 31 0 _ 1 a rfl rfl rfl (by rw [Nat.pow_zero, zp_one])
  · exact h.elim
