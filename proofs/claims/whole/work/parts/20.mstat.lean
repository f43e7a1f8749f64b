/-! The reference's static methods. fl: a stretch of a long array is filled -/
def fl (σ : SS) (t : Nat × Nat) (k n : Nat) (f : Nat → ZF) : SS := (σ.1, fun a b j => if a = t.1 ∧ b = t.2 ∧ k ≤ j ∧ j < k + n then f (j - k) else σ.2.1 a b j, σ.2.2)
theorem fl_0 (σ : SS) (t : Nat × Nat) (k : Nat) (f : Nat → ZF) : fl σ t k 0 f = σ := by
  unfold fl
  refine Prod.ext rfl (Prod.ext ?_ rfl)
  funext a b j
  exact if_neg (fun h => by omega)
theorem fl_s (σ : SS) (t : Nat × Nat) (k n : Nat) (f : Nat → ZF) {i : Nat} {x : ZF} (hi : i = k + n) (hx : x = f n) : sL (fl σ t k n f) t.1 t.2 i x = fl σ t k (n + 1) f := by
  unfold fl sL
  subst hi hx
  refine Prod.ext rfl (Prod.ext ?_ rfl)
  funext a b j
  dsimp only
  by_cases h1 : a = t.1 ∧ b = t.2
  · by_cases h2 : j = k + n
    · rw [if_pos ⟨h1.1, h1.2, h2⟩, if_pos ⟨h1.1, h1.2, by omega, by omega⟩]
      congr 1
      omega
    · rw [if_neg (fun h => h2 h.2.2)]
      by_cases h3 : k ≤ j ∧ j < k + n
      · rw [if_pos ⟨h1.1, h1.2, h3⟩, if_pos ⟨h1.1, h1.2, by omega, by omega⟩]
      · rw [if_neg (fun h => h3 h.2.2), if_neg (fun h => h3 (by omega))]
  · rw [if_neg (fun h => h1 ⟨h.1, h.2.1⟩), if_neg (fun h => h1 ⟨h.1, h.2.1⟩), if_neg (fun h => h1 ⟨h.1, h.2.1⟩)]
theorem fl_n (σ : SS) (t : Nat × Nat) (k n : Nat) (f : Nat → ZF) {a : Nat} (b j : Nat) (h : a ≠ t.1) : (fl σ t k n f).2.1 a b j = σ.2.1 a b j := if_neg (fun q => h q.1)
theorem fl_o (σ : SS) (t : Nat × Nat) (k n : Nat) (f : Nat → ZF) (a b : Nat) {j : Nat} (h : j < k ∨ k + n ≤ j) : (fl σ t k n f).2.1 a b j = σ.2.1 a b j := if_neg (fun q => by omega)
theorem fl_i (σ : SS) (t : Nat × Nat) (k n : Nat) (f : Nat → ZF) {j : Nat} (h : k ≤ j ∧ j < k + n) : (fl σ t k n f).2.1 t.1 t.2 j = f (j - k) := if_pos ⟨rfl, rfl, h⟩
def g3 (σ : SS) (q : Nat × Nat) (i : Nat) : V3 := (σ.2.1 q.1 q.2 i, σ.2.1 q.1 q.2 (i + 1), σ.2.1 q.1 q.2 (i + 2))
def p3 (σ : SS) (t : Nat × Nat) (k : Nat) (v : V3) : SS := fl σ t k 3 (fun c => vco c v)
theorem p3_e {σ : SS} {t : Nat × Nat} {k : Nat} {x y z : ZF} {v : V3} (h0 : x = v.1) (h1 : y = v.2.1) (h2 : z = v.2.2) : sL (sL (sL σ t.1 t.2 k x) t.1 t.2 (k + 1) y) t.1 t.2 (k + 2) z = p3 σ t k v := by
  have e0 : sL σ t.1 t.2 k x = fl σ t k 1 (fun c => vco c v) := by
    have := fl_s σ t k 0 (fun c => vco c v) (i := k) (x := x) rfl h0
    rw [fl_0] at this
    exact this
  rw [e0, fl_s σ t k 1 (fun c => vco c v) rfl h1, fl_s σ t k 2 (fun c => vco c v) rfl h2]
  rfl
def isM (q : Nat × Nat) : Bool := Nat.ble 20 q.1 && Nat.ble q.1 42
theorem isM_t {q : Nat × Nat} (h : isM q = true) : 10 ≤ q.1 ∧ q.1 < 50 := by
  unfold isM at h
  rw [Bool.and_eq_true] at h
  have h1 := Nat.le_of_ble_eq_true h.1
  have h2 := Nat.le_of_ble_eq_true h.2
  omega
noncomputable def sp_X6_of : Spc := fun av σ post => match av with
  | [.inr (.inl x)] => post (some (af (zi (lv x).toInt))) σ
  | _ => False
theorem dX6_of_0 : decode cX6_of 0 = .ok (.lload_n 0, 1) := by decide +kernel
theorem dX6_of_1 : decode cX6_of 1 = .ok (.ldc2_w 91, 3) := by decide +kernel
theorem dX6_of_4 : decode cX6_of 4 = .ok (.lrem, 1) := by decide +kernel
theorem dX6_of_5 : decode cX6_of 5 = .ok (.lstore_n 2, 1) := by decide +kernel
theorem dX6_of_6 : decode cX6_of 6 = .ok (.lload_n 2, 1) := by decide +kernel
theorem dX6_of_7 : decode cX6_of 7 = .ok (.lconst 0, 1) := by decide +kernel
theorem dX6_of_8 : decode cX6_of 8 = .ok (.lcmp, 1) := by decide +kernel
theorem dX6_of_9 : decode cX6_of 9 = .ok (.ifCond .ge 11, 3) := by decide +kernel
theorem dX6_of_12 : decode cX6_of 12 = .ok (.lload_n 2, 1) := by decide +kernel
theorem dX6_of_13 : decode cX6_of 13 = .ok (.ldc2_w 91, 3) := by decide +kernel
theorem dX6_of_16 : decode cX6_of 16 = .ok (.ladd, 1) := by decide +kernel
theorem dX6_of_17 : decode cX6_of 17 = .ok (.goto 4, 3) := by decide +kernel
theorem dX6_of_20 : decode cX6_of 20 = .ok (.lload_n 2, 1) := by decide +kernel
theorem dX6_of_21 : decode cX6_of 21 = .ok (.lreturn, 1) := by decide +kernel
theorem wl_X6_91 : Cond.constantLong RX6 91 (lv (.inl 2147483647)) ∈ ltb := List.mem_filter.mpr ⟨List.mem_append_right _ (List.mem_of_getElem? (i := 570) (by decide +kernel)), by decide +kernel⟩
noncomputable def pr_X6_of : Prg := [(0, z_lload 0 1), (1, z_lc (.inl 2147483647) 3), (4, z_lrem), (5, z_lstore 2 1), (6, z_lload 2 1), (7, z_lc (.inr 0) 1), (8, z_lcmp), (9, z_if1 (fun x => 0 ≤ x) 20), (12, z_lload 2 1), (13, z_lc (.inl 2147483647) 3), (16, z_ladd), (17, z_goto 21), (20, z_lload 2 1), (21, z_lret)]
set_option maxRecDepth 100000 in
set_option maxHeartbeats 4000000 in
theorem sn_X6_of {G : Geo} (hG : GeoOK G) (l : Launch) : ∀ q ∈ pr_X6_of, Sn G l yX6_of.cls cX6_of 4 0 (some .long) q.1 q.2 :=
  fcs (zs_lload_n dX6_of_0 rfl) <| fcs (zs_ldc2 dX6_of_1 wl_X6_91) <| fcs (zs_lrem dX6_of_4) <| fcs (zs_lstore_n dX6_of_5 rfl (by decide)) <| fcs (zs_lload_n dX6_of_6 rfl) <| fcs (zs_lconst dX6_of_7 rfl) <| fcs (zs_lcmp dX6_of_8) <| fcs (zs_if_ge dX6_of_9 rfl) <| fcs (zs_lload_n dX6_of_12 rfl) <| fcs (zs_ldc2 dX6_of_13 wl_X6_91) <| fcs (zs_ladd dX6_of_16) <| fcs (zs_goto dX6_of_17 rfl) <| fcs (zs_lload_n dX6_of_20 rfl) <| fcs (zs_lret dX6_of_21) <| fnl
set_option maxRecDepth 100000 in
set_option maxHeartbeats 4000000 in
theorem ct_X6_of {G : Geo} (hG : GeoOK G) (l : Launch) : Ct G l yX6_of cX6_of 4 (some .long) 0 sp_X6_of := by
  refine Ct.of pr_X6_of hG (by decide +kernel) (sn_X6_of hG l) ?_
  intro av σ post hok h
  unfold sp_X6_of at h
  split at h
  · rename_i x
    refine ⟨Nat.le_of_ble_eq_true rfl, fun X hX => ?_⟩
    have h3 := oP_em (lv x)
    refine go hX [] 60 ?_
    refine ⟨ne_P, ?_⟩
    refine ⟨fun g => ?_, fun g => ?_⟩
    · have g : 0 ≤ lg_cmp (rP (lv x)) 0 := g
      have g2 : ¬ rP (lv x) < 0 := fun q => (cmp_neg _).mpr q g
      rw [if_neg g2] at h3
      exact ⟨.inr _, h3, h⟩
    · have g : ¬ 0 ≤ lg_cmp (rP (lv x)) 0 := g
      rw [cmp_neg] at g
      rw [if_pos g] at h3
      exact ⟨.inr _, h3, h⟩
  · exact h.elim
noncomputable def sp_X6_inverse : Spc := fun av σ post => match av with
  | [.inr (.inl (.inr a))] => post (some (af (zinv a))) σ
  | _ => False
theorem dX6_inverse_0 : decode cX6_inverse 0 = .ok (.lconst 1, 1) := by decide +kernel
theorem dX6_inverse_1 : decode cX6_inverse 1 = .ok (.lstore_n 2, 1) := by decide +kernel
theorem dX6_inverse_2 : decode cX6_inverse 2 = .ok (.lload_n 0, 1) := by decide +kernel
theorem dX6_inverse_3 : decode cX6_inverse 3 = .ok (.lstore 4, 2) := by decide +kernel
theorem dX6_inverse_5 : decode cX6_inverse 5 = .ok (.ldc2_w 93, 3) := by decide +kernel
theorem dX6_inverse_8 : decode cX6_inverse 8 = .ok (.lstore 6, 2) := by decide +kernel
theorem dX6_inverse_10 : decode cX6_inverse 10 = .ok (.lload 6, 2) := by decide +kernel
theorem dX6_inverse_12 : decode cX6_inverse 12 = .ok (.lconst 0, 1) := by decide +kernel
theorem dX6_inverse_13 : decode cX6_inverse 13 = .ok (.lcmp, 1) := by decide +kernel
theorem dX6_inverse_14 : decode cX6_inverse 14 = .ok (.ifCond .le 45, 3) := by decide +kernel
theorem dX6_inverse_17 : decode cX6_inverse 17 = .ok (.lload 6, 2) := by decide +kernel
theorem dX6_inverse_19 : decode cX6_inverse 19 = .ok (.ldc2_w 95, 3) := by decide +kernel
theorem dX6_inverse_22 : decode cX6_inverse 22 = .ok (.lrem, 1) := by decide +kernel
theorem dX6_inverse_23 : decode cX6_inverse 23 = .ok (.lconst 1, 1) := by decide +kernel
theorem dX6_inverse_24 : decode cX6_inverse 24 = .ok (.lcmp, 1) := by decide +kernel
theorem dX6_inverse_25 : decode cX6_inverse 25 = .ok (.ifCond .ne 12, 3) := by decide +kernel
theorem dX6_inverse_28 : decode cX6_inverse 28 = .ok (.lload_n 2, 1) := by decide +kernel
theorem dX6_inverse_29 : decode cX6_inverse 29 = .ok (.lload 4, 2) := by decide +kernel
theorem dX6_inverse_31 : decode cX6_inverse 31 = .ok (.lmul, 1) := by decide +kernel
theorem dX6_inverse_32 : decode cX6_inverse 32 = .ok (.ldc2_w 91, 3) := by decide +kernel
theorem dX6_inverse_35 : decode cX6_inverse 35 = .ok (.lrem, 1) := by decide +kernel
theorem dX6_inverse_36 : decode cX6_inverse 36 = .ok (.lstore_n 2, 1) := by decide +kernel
theorem dX6_inverse_37 : decode cX6_inverse 37 = .ok (.lload 4, 2) := by decide +kernel
theorem dX6_inverse_39 : decode cX6_inverse 39 = .ok (.lload 4, 2) := by decide +kernel
theorem dX6_inverse_41 : decode cX6_inverse 41 = .ok (.lmul, 1) := by decide +kernel
theorem dX6_inverse_42 : decode cX6_inverse 42 = .ok (.ldc2_w 91, 3) := by decide +kernel
theorem dX6_inverse_45 : decode cX6_inverse 45 = .ok (.lrem, 1) := by decide +kernel
theorem dX6_inverse_46 : decode cX6_inverse 46 = .ok (.lstore 4, 2) := by decide +kernel
theorem dX6_inverse_48 : decode cX6_inverse 48 = .ok (.lload 6, 2) := by decide +kernel
theorem dX6_inverse_50 : decode cX6_inverse 50 = .ok (.ldc2_w 95, 3) := by decide +kernel
theorem dX6_inverse_53 : decode cX6_inverse 53 = .ok (.ldiv, 1) := by decide +kernel
theorem dX6_inverse_54 : decode cX6_inverse 54 = .ok (.lstore 6, 2) := by decide +kernel
theorem dX6_inverse_56 : decode cX6_inverse 56 = .ok (.goto (-46), 3) := by decide +kernel
theorem dX6_inverse_59 : decode cX6_inverse 59 = .ok (.lload_n 2, 1) := by decide +kernel
theorem dX6_inverse_60 : decode cX6_inverse 60 = .ok (.lreturn, 1) := by decide +kernel
theorem wl_X6_93 : Cond.constantLong RX6 93 (lv (.inr 2147483645)) ∈ ltb := List.mem_filter.mpr ⟨List.mem_append_right _ (List.mem_of_getElem? (i := 632) (by decide +kernel)), by decide +kernel⟩
theorem wl_X6_95 : Cond.constantLong RX6 95 (lv (.inr 2)) ∈ ltb := List.mem_filter.mpr ⟨List.mem_append_right _ (List.mem_of_getElem? (i := 633) (by decide +kernel)), by decide +kernel⟩
noncomputable def pr_X6_inverse : Prg := [(0, z_lc (.inr 1) 1), (1, z_lstore 2 1), (2, z_lload 0 1), (3, z_lstore 4 2), (5, z_lc (.inr 2147483645) 3), (8, z_lstore 6 2), (10, z_lload 6 2), (12, z_lc (.inr 0) 1), (13, z_lcmp), (14, z_if1 (fun x => x ≤ 0) 59), (17, z_lload 6 2), (19, z_lc (.inr 2) 3), (22, z_lrem), (23, z_lc (.inr 1) 1), (24, z_lcmp), (25, z_nf1 37), (28, z_lload 2 1), (29, z_lload 4 2), (31, z_lmul), (32, z_lc (.inl 2147483647) 3), (35, z_lrem), (36, z_lstore 2 1), (37, z_lload 4 2), (39, z_lload 4 2), (41, z_lmul), (42, z_lc (.inl 2147483647) 3), (45, z_lrem), (46, z_lstore 4 2), (48, z_lload 6 2), (50, z_lc (.inr 2) 3), (53, z_ldiv), (54, z_lstore 6 2), (56, z_goto 10), (59, z_lload 2 1), (60, z_lret)]
set_option maxRecDepth 100000 in
set_option maxHeartbeats 4000000 in
theorem sn_X6_inverse {G : Geo} (hG : GeoOK G) (l : Launch) : ∀ q ∈ pr_X6_inverse, Sn G l yX6_inverse.cls cX6_inverse 8 0 (some .long) q.1 q.2 :=
  fcs (zs_lconst dX6_inverse_0 rfl) <| fcs (zs_lstore_n dX6_inverse_1 rfl (by decide)) <| fcs (zs_lload_n dX6_inverse_2 rfl) <| fcs (zs_lstore dX6_inverse_3 (by decide)) <| fcs (zs_ldc2 dX6_inverse_5 wl_X6_93) <| fcs (zs_lstore dX6_inverse_8 (by decide)) <| fcs (zs_lload dX6_inverse_10) <| fcs (zs_lconst dX6_inverse_12 rfl) <| fcs (zs_lcmp dX6_inverse_13) <| fcs (zs_if_le dX6_inverse_14 rfl) <| fcs (zs_lload dX6_inverse_17) <| fcs (zs_ldc2 dX6_inverse_19 wl_X6_95) <| fcs (zs_lrem dX6_inverse_22) <| fcs (zs_lconst dX6_inverse_23 rfl) <| fcs (zs_lcmp dX6_inverse_24) <| fcs (zs_if_ne dX6_inverse_25 rfl) <| fcs (zs_lload_n dX6_inverse_28 rfl) <| fcs (zs_lload dX6_inverse_29) <| fcs (zs_lmul dX6_inverse_31) <| fcs (zs_ldc2 dX6_inverse_32 wl_X6_91) <| fcs (zs_lrem dX6_inverse_35) <| fcs (zs_lstore_n dX6_inverse_36 rfl (by decide)) <| fcs (zs_lload dX6_inverse_37) <| fcs (zs_lload dX6_inverse_39) <| fcs (zs_lmul dX6_inverse_41) <| fcs (zs_ldc2 dX6_inverse_42 wl_X6_91) <| fcs (zs_lrem dX6_inverse_45) <| fcs (zs_lstore dX6_inverse_46 (by decide)) <| fcs (zs_lload dX6_inverse_48) <| fcs (zs_ldc2 dX6_inverse_50 wl_X6_95) <| fcs (zs_ldiv dX6_inverse_53) <| fcs (zs_lstore dX6_inverse_54 (by decide)) <| fcs (zs_goto dX6_inverse_56 rfl) <| fcs (zs_lload_n dX6_inverse_59 rfl) <| fcs (zs_lret dX6_inverse_60) <| fnl
theorem cmp_le (n : Nat) (h : n < 2 ^ 63) : lg_cmp (lN n) 0 ≤ 0 ↔ n = 0 := by
  have e0 : (0 : Int64) = lN 0 := rfl
  unfold lg_cmp
  rw [e0]
  by_cases h1 : 0 < n
  · rw [if_pos ((pk_lLT (by decide) h).mpr h1)]
    exact ⟨fun q => absurd q (by decide), fun q => by omega⟩
  · have : n = 0 := by omega
    subst this
    decide
theorem cmp_1 (n : Nat) (h : n < 2 ^ 63) : lg_cmp (lN n) (em 1) = 0 ↔ n = 1 := by
  have e0 : em 1 = lN 1 := rfl
  rw [e0]
  constructor
  · intro q
    unfold lg_cmp at q
    split at q
    · exact absurd q (by decide)
    · split at q
      · rename_i e
        exact (pk_lEQ h (by decide)).mp e
      · exact absurd q (by decide)
  · intro q
    subst q
    decide
set_option maxRecDepth 100000 in
set_option maxHeartbeats 4000000 in
theorem ct_X6_inverse {G : Geo} (hG : GeoOK G) (l : Launch) : Ct G l yX6_inverse cX6_inverse 8 (some .long) 0 sp_X6_inverse := by
  refine Ct.of pr_X6_inverse hG (by decide +kernel) (sn_X6_inverse hG l) ?_
  intro av σ post hok h
  unfold sp_X6_inverse at h
  split at h
  · rename_i a
    refine ⟨Nat.le_of_ble_eq_true rfl, fun X hX => ?_⟩
    have two : lv (.inr 2 : LV) = lN 2 := rfl
    have loop : ∀ (n e : Nat) (r b : ZF) (er : Int64) (x y : LV), e ≤ n → e < 2 ^ 31 → er = lN e → lv x = em r → lv y = em b → r * zp b e = zinv a → X 10 [(6, .inr (.inl (.inl er))), (4, .inr (.inl y)), (2, .inr (.inl x)), (0, af a)] [] σ := by
      intro n
      induction n with
      | zero =>
        intro e r b er x y hn he her hx hy hi
        have e0 : e = 0 := by omega
        subst e0
        subst her
        refine go hX [10] 60 ?_
        refine ⟨fun g => ?_, fun g => absurd ((cmp_le 0 (by decide)).mpr rfl) g⟩
        refine ⟨.inr _, hx, ?_⟩
        have e1 : r = zinv a := by rw [← hi]; show r = r * 1; grind
        rw [e1]
        exact h
      | succ n ih =>
        intro e r b er x y hn he her hx hy hi
        subst her
        refine go hX [10] 60 ?_
        refine ⟨fun g => ?_, fun g => ?_⟩
        · have e0 : e = 0 := (cmp_le e (by omega)).mp g
          subst e0
          refine ⟨.inr _, hx, ?_⟩
          have e1 : r = zinv a := by rw [← hi]; show r = r * 1; grind
          rw [e1]
          exact h
        · have e0 : ¬ e = 0 := fun q => g ((cmp_le e (by omega)).mpr q)
          refine ⟨by decide, ?_⟩
          have hm : lv (.inl (lN e)) - lv (.inl (lN e)) / lv (.inr 2) * lv (.inr 2) = lN (e % 2) := pk_lRem (by omega) (by decide) (by decide)
          have hd : lv (.inl (lN e)) / lv (.inr 2) = lN (e / 2) := pk_lDiv (by omega) (by decide) (by decide)
          have hsq : zp (b * b) (e / 2) = zp b (2 * (e / 2)) := zp_sq b (e / 2)
          refine ⟨fun g1 => ?_, fun g1 => ?_⟩
          · have g1 : ¬ lg_cmp (lv (.inl (lN e)) - lv (.inl (lN e)) / lv (.inr 2) * lv (.inr 2)) (em 1) = 0 := g1
            rw [hm, cmp_1 _ (by omega)] at g1
            refine ⟨ne_P, by decide, ?_⟩
            refine wk hX (ih (e / 2) r (b * b) _ x (.inl _) (by omega) (by omega) hd hx ?_ ?_) ⟨⟨_, rfl, Or.inl rfl⟩, ⟨_, rfl, Or.inl rfl⟩, ⟨_, rfl, Or.inl rfl⟩, ⟨_, rfl, Or.inl rfl⟩, trivial⟩
            · show rP (lv y * lv y) = _
              rw [hy]
              exact n_times b b
            · rw [hsq, show 2 * (e / 2) = e by omega]
              exact hi
          · have g1 : lg_cmp (lv (.inl (lN e)) - lv (.inl (lN e)) / lv (.inr 2) * lv (.inr 2)) (em 1) = 0 := g1
            rw [hm, cmp_1 _ (by omega)] at g1
            refine ⟨ne_P, ne_P, by decide, ?_⟩
            refine wk hX (ih (e / 2) (r * b) (b * b) _ (.inl _) (.inl _) (by omega) (by omega) hd ?_ ?_ ?_) ⟨⟨_, rfl, Or.inl rfl⟩, ⟨_, rfl, Or.inl rfl⟩, ⟨_, rfl, Or.inl rfl⟩, ⟨_, rfl, Or.inl rfl⟩, trivial⟩
            · show rP (lv x * lv y) = _
              rw [hx, hy]
              exact n_times r b
            · show rP (lv y * lv y) = _
              rw [hy]
              exact n_times b b
            · rw [hsq]
              have e2 : zp b e = zp b (2 * (e / 2)) * b := by
                have e3 : e = 2 * (e / 2) + 1 := by omega
                have e4 : zp b (2 * (e / 2) + 1) = zp b (2 * (e / 2)) * b := rfl
                rw [← e3] at e4
                exact e4
              rw [← hi, e2]
              grind
    refine go hX [10] 60 ?_
    refine wk hX (loop 2147483645 2147483645 1 a _ (.inr 1) (.inr a) (by omega) (by decide) rfl rfl rfl ?_) ⟨⟨_, rfl, Or.inr ⟨_, _, rfl, rfl, rfl⟩⟩, ⟨_, rfl, Or.inl rfl⟩, ⟨_, rfl, Or.inl rfl⟩, ⟨_, rfl, Or.inl rfl⟩, trivial⟩
    rw [zinv_e]
    grind
  · exact h.elim
