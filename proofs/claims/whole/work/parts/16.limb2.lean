/-! LimbWorks: standing, and the torques that are needed -/
def upf (f : SS → Nat → SS) (σ : SS) : Nat → SS
  | 0 => σ
  | k + 1 => f (upf f σ k) (k + 1)
def dnf (f : SS → Nat → SS) : Nat → SS → SS
  | 0, σ => σ
  | k + 1, σ => dnf f k (f σ (k + 1))
theorem upf_I {f : SS → Nat → SS} (hf : ∀ s k, (f s k).2.2 = s.2.2) (σ : SS) : ∀ k, (upf f σ k).2.2 = σ.2.2
  | 0 => rfl
  | k + 1 => (hf _ _).trans (upf_I hf σ k)
theorem dnf_I {f : SS → Nat → SS} (hf : ∀ s k, (f s k).2.2 = s.2.2) : ∀ k σ, (dnf f k σ).2.2 = σ.2.2
  | 0, _ => rfl
  | k + 1, σ => (dnf_I hf k _).trans (hf σ (k + 1))
theorem CI_of {s σ : SS} (h : s.2.2 = σ.2.2) (hI : CI σ) : CI s := by
  unfold CI nn pa at *
  rw [h]
  exact hI
theorem nn_of {s σ : SS} (h : s.2.2 = σ.2.2) : nn s = nn σ := by unfold nn; rw [h]
theorem pa_of {s σ : SS} (h : s.2.2 = σ.2.2) (k : Nat) : pa s k = pa σ k := by unfold pa; rw [h]
theorem b_std_2 (σ : SS) (k p : Nat) (q : ZF) : (b_std σ k p q).2 = σ.2 := by
  unfold b_std
  dsimp only
  split <;> rfl
theorem b_mov_2 (σ : SS) (k p : Nat) (v a : ZF) : (b_mov σ k p v a).2 = σ.2 := by
  unfold b_mov
  dsimp only
  split <;> rfl
theorem b_nst_2 (σ : SS) (k : Nat) : (b_nst σ k).2 = σ.2 := by
  unfold b_nst
  split <;> rfl
noncomputable def c_stf (s : SS) (k : Nat) : SS := b_std s k (pa s k) (s.2.1 10 0 k)
noncomputable def c_std (σ : SS) : SS := upf c_stf σ (nn σ)
theorem c_stf_2 (s : SS) (k : Nat) : (c_stf s k).2 = s.2 := b_std_2 _ _ _ _
theorem upf_2 {f : SS → Nat → SS} (hf : ∀ s k, (f s k).2 = s.2) (σ : SS) : ∀ k, (upf f σ k).2 = σ.2
  | 0 => rfl
  | k + 1 => (hf _ _).trans (upf_2 hf σ k)
theorem c_std_2 (σ : SS) : (c_std σ).2 = σ.2 := upf_2 c_stf_2 σ _
/-- the loop's test 'count < i' -/
theorem lp_t {s : SS} {k : Nat} (hI : CI s) (h : nn s ≤ k) (hk : k ≤ 8) : s.2.2 0 0 < nI (k + 1) := by
  rw [hI.1, nI_ltI (by omega) (by omega)]
  omega
theorem lp_f {s : SS} {k : Nat} (hI : CI s) (h : k < nn s) : ¬ s.2.2 0 0 < nI (k + 1) := by
  have := hI.2.1
  rw [hI.1, nI_ltI (by omega) (by omega)]
  omega
noncomputable def sp_X5_standAll : Spc := fun av σ post => match av with
  | [.inr (.inr b)] => bif is0 b then (CI σ ∧ post none (c_std σ)) else False
  | _ => False
theorem dX5_standAll_0 : decode cX5_standAll 0 = .ok (.iconst 1, 1) := by decide +kernel
theorem dX5_standAll_1 : decode cX5_standAll 1 = .ok (.istore_n 1, 1) := by decide +kernel
theorem dX5_standAll_2 : decode cX5_standAll 2 = .ok (.iload_n 1, 1) := by decide +kernel
theorem dX5_standAll_3 : decode cX5_standAll 3 = .ok (.aload_n 0, 1) := by decide +kernel
theorem dX5_standAll_4 : decode cX5_standAll 4 = .ok (.getfield 16, 3) := by decide +kernel
theorem dX5_standAll_7 : decode cX5_standAll 7 = .ok (.if_icmp .gt 38, 3) := by decide +kernel
theorem dX5_standAll_10 : decode cX5_standAll 10 = .ok (.aload_n 0, 1) := by decide +kernel
theorem dX5_standAll_11 : decode cX5_standAll 11 = .ok (.getfield 11, 3) := by decide +kernel
theorem dX5_standAll_14 : decode cX5_standAll 14 = .ok (.iload_n 1, 1) := by decide +kernel
theorem dX5_standAll_15 : decode cX5_standAll 15 = .ok (.aaload, 1) := by decide +kernel
theorem dX5_standAll_16 : decode cX5_standAll 16 = .ok (.aload_n 0, 1) := by decide +kernel
theorem dX5_standAll_17 : decode cX5_standAll 17 = .ok (.getfield 11, 3) := by decide +kernel
theorem dX5_standAll_20 : decode cX5_standAll 20 = .ok (.aload_n 0, 1) := by decide +kernel
theorem dX5_standAll_21 : decode cX5_standAll 21 = .ok (.getfield 11, 3) := by decide +kernel
theorem dX5_standAll_24 : decode cX5_standAll 24 = .ok (.iload_n 1, 1) := by decide +kernel
theorem dX5_standAll_25 : decode cX5_standAll 25 = .ok (.aaload, 1) := by decide +kernel
theorem dX5_standAll_26 : decode cX5_standAll 26 = .ok (.getfield 146, 3) := by decide +kernel
theorem dX5_standAll_29 : decode cX5_standAll 29 = .ok (.aaload, 1) := by decide +kernel
theorem dX5_standAll_30 : decode cX5_standAll 30 = .ok (.aload_n 0, 1) := by decide +kernel
theorem dX5_standAll_31 : decode cX5_standAll 31 = .ok (.getfield 32, 3) := by decide +kernel
theorem dX5_standAll_34 : decode cX5_standAll 34 = .ok (.iload_n 1, 1) := by decide +kernel
theorem dX5_standAll_35 : decode cX5_standAll 35 = .ok (.laload, 1) := by decide +kernel
theorem dX5_standAll_36 : decode cX5_standAll 36 = .ok (.invokevirtual 149, 3) := by decide +kernel
theorem dX5_standAll_39 : decode cX5_standAll 39 = .ok (.iinc 1 1, 3) := by decide +kernel
theorem dX5_standAll_42 : decode cX5_standAll 42 = .ok (.goto (-40), 3) := by decide +kernel
theorem dX5_standAll_45 : decode cX5_standAll 45 = .ok (.return_, 1) := by decide +kernel
theorem wf_X5_146 : Cond.fieldLink RX5 146 (TX0 0).1 (TX0 0).2.1 (TX0 0).2.2.1 ∈ ltb := List.mem_filter.mpr ⟨List.mem_append_right _ (List.mem_of_getElem? (i := 87) (by decide +kernel)), by decide +kernel⟩
theorem wc_X0_stand : Cond.code yX0_stand cX0_stand 4 none ∈ ltb := List.mem_filter.mpr ⟨List.mem_append_right _ (List.mem_of_getElem? (i := 276) (by decide +kernel)), by decide +kernel⟩
theorem mi_X0_stand : Mi yX0_stand RX0 2 cX0_stand 4 none := ⟨by decide +kernel, wc_X0_stand, wi_X0, by decide⟩
theorem wv_X0_stand : Cond.instanceMethod yX0_stand ∈ ltb := List.mem_filter.mpr ⟨List.mem_append_right _ (List.mem_of_getElem? (i := 274) (by decide +kernel)), by decide +kernel⟩
theorem we_X0_stand : Cond.selects RX0 yX0_stand yX0_stand ∈ ltb := List.mem_filter.mpr ⟨List.mem_append_right _ (List.mem_of_getElem? (i := 275) (by decide +kernel)), by decide +kernel⟩
theorem wm_X5_149 : Cond.methodLink RX5 149 yX0_stand ∈ ltb := List.mem_filter.mpr ⟨List.mem_append_right _ (List.mem_of_getElem? (i := 273) (by decide +kernel)), by decide +kernel⟩
noncomputable def pr_X5_standAll : Prg := [(0, z_ic (nI 1) 1), (1, z_istore 1 1), (2, z_iload 1 1), (3, z_aload 0 1), (4, z_get 4 1), (7, z_if2 (fun x y => y < x) 45), (10, z_aload 0 1), (11, z_get 4 0), (14, z_iload 1 1), (15, z_aaload), (16, z_aload 0 1), (17, z_get 4 0), (20, z_aload 0 1), (21, z_get 4 0), (24, z_iload 1 1), (25, z_aaload), (26, z_get 0 0), (29, z_aaload), (30, z_aload 0 1), (31, z_get 4 4), (34, z_iload 1 1), (35, z_laload), (36, z_callv 2 0 sp_X0_stand), (39, z_iinc 1 (nI 1)), (42, z_goto 2), (45, z_vret)]
set_option maxRecDepth 100000 in
set_option maxHeartbeats 4000000 in
theorem sn_X5_standAll {G : Geo} (hG : GeoOK G) (l : Launch) : ∀ q ∈ pr_X5_standAll, Sn G l yX5_standAll.cls cX5_standAll 2 5 none q.1 q.2 :=
  fcs (zs_iconst dX5_standAll_0 rfl) <| fcs (zs_istore_n dX5_standAll_1 rfl (by decide)) <| fcs (zs_iload_n dX5_standAll_2 rfl) <| fcs (zs_aload_n dX5_standAll_3 rfl) <| fcs (zs_get cls4 (by decide) (by decide) wf_X5_16 dX5_standAll_4) <| fcs (zs_icmp_gt dX5_standAll_7 rfl) <| fcs (zs_aload_n dX5_standAll_10 rfl) <| fcs (zs_get cls4 (by decide) (by decide) wf_X5_11 dX5_standAll_11) <| fcs (zs_iload_n dX5_standAll_14 rfl) <| fcs (zs_aaload dX5_standAll_15) <| fcs (zs_aload_n dX5_standAll_16 rfl) <| fcs (zs_get cls4 (by decide) (by decide) wf_X5_11 dX5_standAll_17) <| fcs (zs_aload_n dX5_standAll_20 rfl) <| fcs (zs_get cls4 (by decide) (by decide) wf_X5_11 dX5_standAll_21) <| fcs (zs_iload_n dX5_standAll_24 rfl) <| fcs (zs_aaload dX5_standAll_25) <| fcs (zs_get cls0 (by decide) (by decide) wf_X5_146 dX5_standAll_26) <| fcs (zs_aaload dX5_standAll_29) <| fcs (zs_aload_n dX5_standAll_30 rfl) <| fcs (zs_get cls4 (by decide) (by decide) wf_X5_32 dX5_standAll_31) <| fcs (zs_iload_n dX5_standAll_34 rfl) <| fcs (zs_laload dX5_standAll_35) <| fcs (zs_callv cls0 (by decide) (ct_X0_stand hG l) mi_X0_stand wv_X0_stand we_X0_stand (by decide) wm_X5_149 dX5_standAll_36) <| fcs (zs_iinc dX5_standAll_39 rfl (by decide)) <| fcs (zs_goto dX5_standAll_42 rfl) <| fcs (zs_vret dX5_standAll_45) <| fnl
set_option maxRecDepth 100000 in
set_option maxHeartbeats 4000000 in
theorem ct_X5_standAll {G : Geo} (hG : GeoOK G) (l : Launch) : Ct G l yX5_standAll cX5_standAll 2 none 5 sp_X5_standAll := by
  refine Ct.of pr_X5_standAll hG (by decide +kernel) (sn_X5_standAll hG l) ?_
  intro av σ post hok h
  unfold sp_X5_standAll at h
  split at h
  · rename_i b
    obtain ⟨hb, hI, h9⟩ := bif_t h
    clear h
    obtain rfl := is0_t hb
    refine ⟨Nat.le_of_ble_eq_true rfl, fun X hX => ?_⟩
    have h7 := hI.2.1
    have loop : ∀ (m k : Nat) (i : Int32), k + m = nn σ → i = nI (k + 1) → X 2 [(1, .inl i), (0, ar 0 0)] [] (upf c_stf σ k) := by
      intro m
      induction m with
      | zero =>
        intro k i hk hi
        subst hi
        have hI' := CI_of (upf_I (fun s k => congrArg Prod.snd (c_stf_2 s k)) σ k) hI
        have hn := nn_of (upf_I (fun s k => congrArg Prod.snd (c_stf_2 s k)) σ k)
        refine go hX [2] 60 ?_
        refine ⟨fun g1 => ?_, fun g1 => absurd (lp_t hI' (by omega) (by omega)) g1⟩
        have e : k = nn σ := by omega
        subst e
        exact h9
      | succ m ih =>
        intro k i hk hi
        subst hi
        have hI' := CI_of (upf_I (fun s k => congrArg Prod.snd (c_stf_2 s k)) σ k) hI
        have hn := nn_of (upf_I (fun s k => congrArg Prod.snd (c_stf_2 s k)) σ k)
        have hp := hI'.2.2 (k + 1) (by omega) (by omega)
        refine go hX [2] 60 ?_
        refine ⟨fun g1 => absurd g1 (lp_f hI' (by omega)), fun g1 => ?_⟩
        refine ⟨k + 1, rfl, by omega, ?_⟩
        refine ⟨k + 1, rfl, by omega, ?_⟩
        refine ⟨pa (upf c_stf σ k) (k + 1), hp.1, by omega, ?_⟩
        refine ⟨⟨by decide, by decide⟩, k + 1, rfl, by show k + 1 < 8; omega, ?_⟩
        exact ih (k + 1) _ (by omega) (nI_add _ _)
    refine go hX [2] 60 ?_
    exact loop (nn σ) 0 _ (by omega) rfl
  · exact h.elim
def n_up (u v : Nat × Nat) (s : SS) (k : Nat) : SS := b_lod (b_mov s k (pa s k) (s.2.1 u.1 u.2 k) (s.2.1 v.1 v.2 k)) k
def n_dn (s : SS) (k : Nat) : SS := b_pas (sL (b_nst s k) 16 0 k (b_ntq s k)) k (pa s k)
def c_ned (σ : SS) (q u v : Nat × Nat) : SS := dnf n_dn (nn σ) (upf (n_up u v) (b_agn σ 0 q) (nn σ))
theorem n_up_2 (u v : Nat × Nat) (s : SS) (k : Nat) : (n_up u v s k).2 = s.2 := by
  show (b_lod _ k).2 = _
  exact (show (b_lod (b_mov s k (pa s k) (s.2.1 u.1 u.2 k) (s.2.1 v.1 v.2 k)) k).2 = (b_mov s k (pa s k) (s.2.1 u.1 u.2 k) (s.2.1 v.1 v.2 k)).2 from rfl).trans (b_mov_2 _ _ _ _ _)
theorem n_dn_I (s : SS) (k : Nat) : (n_dn s k).2.2 = s.2.2 := by
  show (b_nst s k).2.2 = s.2.2
  rw [b_nst_2]
theorem c_ned_I (σ : SS) (q u v : Nat × Nat) : (c_ned σ q u v).2.2 = σ.2.2 :=
  (dnf_I n_dn_I _ _).trans (upf_I (fun s k => congrArg Prod.snd (n_up_2 u v s k)) _ _)
/-- a long array of the class -/
def isA (q : Nat × Nat) : Bool := Nat.ble 10 q.1 && Nat.ble q.1 18
theorem isA_t {q : Nat × Nat} (h : isA q = true) : (10 ≤ q.1 ∧ q.1 < 50) ∧ alen q.1 = 8 := by
  unfold isA at h
  rw [Bool.and_eq_true] at h
  have h1 := Nat.le_of_ble_eq_true h.1
  have h2 := Nat.le_of_ble_eq_true h.2
  refine ⟨⟨h1, by omega⟩, ?_⟩
  unfold alen
  split <;> first | omega | rfl
noncomputable def sp_X5_findNeeded : Spc := fun av σ post => match av with
  | [.inr (.inr b), .inr (.inr q), .inr (.inr u), .inr (.inr v)] => bif is0 b && (is5 q && (isA u && isA v)) then (CI σ ∧ post none (c_ned σ q u v)) else False
  | _ => False
theorem dX5_findNeeded_0 : decode cX5_findNeeded 0 = .ok (.aload_n 0, 1) := by decide +kernel
theorem dX5_findNeeded_1 : decode cX5_findNeeded 1 = .ok (.getfield 11, 3) := by decide +kernel
theorem dX5_findNeeded_4 : decode cX5_findNeeded 4 = .ok (.iconst 0, 1) := by decide +kernel
theorem dX5_findNeeded_5 : decode cX5_findNeeded 5 = .ok (.aaload, 1) := by decide +kernel
theorem dX5_findNeeded_6 : decode cX5_findNeeded 6 = .ok (.aload_n 1, 1) := by decide +kernel
theorem dX5_findNeeded_7 : decode cX5_findNeeded 7 = .ok (.invokevirtual 153, 3) := by decide +kernel
theorem dX5_findNeeded_10 : decode cX5_findNeeded 10 = .ok (.iconst 1, 1) := by decide +kernel
theorem dX5_findNeeded_11 : decode cX5_findNeeded 11 = .ok (.istore 4, 2) := by decide +kernel
theorem dX5_findNeeded_13 : decode cX5_findNeeded 13 = .ok (.iload 4, 2) := by decide +kernel
theorem dX5_findNeeded_15 : decode cX5_findNeeded 15 = .ok (.aload_n 0, 1) := by decide +kernel
theorem dX5_findNeeded_16 : decode cX5_findNeeded 16 = .ok (.getfield 16, 3) := by decide +kernel
theorem dX5_findNeeded_19 : decode cX5_findNeeded 19 = .ok (.if_icmp .gt 52, 3) := by decide +kernel
theorem dX5_findNeeded_22 : decode cX5_findNeeded 22 = .ok (.aload_n 0, 1) := by decide +kernel
theorem dX5_findNeeded_23 : decode cX5_findNeeded 23 = .ok (.getfield 11, 3) := by decide +kernel
theorem dX5_findNeeded_26 : decode cX5_findNeeded 26 = .ok (.iload 4, 2) := by decide +kernel
theorem dX5_findNeeded_28 : decode cX5_findNeeded 28 = .ok (.aaload, 1) := by decide +kernel
theorem dX5_findNeeded_29 : decode cX5_findNeeded 29 = .ok (.aload_n 0, 1) := by decide +kernel
theorem dX5_findNeeded_30 : decode cX5_findNeeded 30 = .ok (.getfield 11, 3) := by decide +kernel
theorem dX5_findNeeded_33 : decode cX5_findNeeded 33 = .ok (.aload_n 0, 1) := by decide +kernel
theorem dX5_findNeeded_34 : decode cX5_findNeeded 34 = .ok (.getfield 11, 3) := by decide +kernel
theorem dX5_findNeeded_37 : decode cX5_findNeeded 37 = .ok (.iload 4, 2) := by decide +kernel
theorem dX5_findNeeded_39 : decode cX5_findNeeded 39 = .ok (.aaload, 1) := by decide +kernel
theorem dX5_findNeeded_40 : decode cX5_findNeeded 40 = .ok (.getfield 146, 3) := by decide +kernel
theorem dX5_findNeeded_43 : decode cX5_findNeeded 43 = .ok (.aaload, 1) := by decide +kernel
theorem dX5_findNeeded_44 : decode cX5_findNeeded 44 = .ok (.aload_n 2, 1) := by decide +kernel
theorem dX5_findNeeded_45 : decode cX5_findNeeded 45 = .ok (.iload 4, 2) := by decide +kernel
theorem dX5_findNeeded_47 : decode cX5_findNeeded 47 = .ok (.laload, 1) := by decide +kernel
theorem dX5_findNeeded_48 : decode cX5_findNeeded 48 = .ok (.aload_n 3, 1) := by decide +kernel
theorem dX5_findNeeded_49 : decode cX5_findNeeded 49 = .ok (.iload 4, 2) := by decide +kernel
theorem dX5_findNeeded_51 : decode cX5_findNeeded 51 = .ok (.laload, 1) := by decide +kernel
theorem dX5_findNeeded_52 : decode cX5_findNeeded 52 = .ok (.invokevirtual 157, 3) := by decide +kernel
theorem dX5_findNeeded_55 : decode cX5_findNeeded 55 = .ok (.aload_n 0, 1) := by decide +kernel
theorem dX5_findNeeded_56 : decode cX5_findNeeded 56 = .ok (.getfield 11, 3) := by decide +kernel
theorem dX5_findNeeded_59 : decode cX5_findNeeded 59 = .ok (.iload 4, 2) := by decide +kernel
theorem dX5_findNeeded_61 : decode cX5_findNeeded 61 = .ok (.aaload, 1) := by decide +kernel
theorem dX5_findNeeded_62 : decode cX5_findNeeded 62 = .ok (.invokevirtual 161, 3) := by decide +kernel
theorem dX5_findNeeded_65 : decode cX5_findNeeded 65 = .ok (.iinc 4 1, 3) := by decide +kernel
theorem dX5_findNeeded_68 : decode cX5_findNeeded 68 = .ok (.goto (-55), 3) := by decide +kernel
theorem dX5_findNeeded_71 : decode cX5_findNeeded 71 = .ok (.aload_n 0, 1) := by decide +kernel
theorem dX5_findNeeded_72 : decode cX5_findNeeded 72 = .ok (.getfield 16, 3) := by decide +kernel
theorem dX5_findNeeded_75 : decode cX5_findNeeded 75 = .ok (.istore 4, 2) := by decide +kernel
theorem dX5_findNeeded_77 : decode cX5_findNeeded 77 = .ok (.iload 4, 2) := by decide +kernel
theorem dX5_findNeeded_79 : decode cX5_findNeeded 79 = .ok (.iconst 1, 1) := by decide +kernel
theorem dX5_findNeeded_80 : decode cX5_findNeeded 80 = .ok (.if_icmp .lt 51, 3) := by decide +kernel
theorem dX5_findNeeded_83 : decode cX5_findNeeded 83 = .ok (.aload_n 0, 1) := by decide +kernel
theorem dX5_findNeeded_84 : decode cX5_findNeeded 84 = .ok (.getfield 51, 3) := by decide +kernel
theorem dX5_findNeeded_87 : decode cX5_findNeeded 87 = .ok (.iload 4, 2) := by decide +kernel
theorem dX5_findNeeded_89 : decode cX5_findNeeded 89 = .ok (.aload_n 0, 1) := by decide +kernel
theorem dX5_findNeeded_90 : decode cX5_findNeeded 90 = .ok (.getfield 11, 3) := by decide +kernel
theorem dX5_findNeeded_93 : decode cX5_findNeeded 93 = .ok (.iload 4, 2) := by decide +kernel
theorem dX5_findNeeded_95 : decode cX5_findNeeded 95 = .ok (.aaload, 1) := by decide +kernel
theorem dX5_findNeeded_96 : decode cX5_findNeeded 96 = .ok (.invokevirtual 164, 3) := by decide +kernel
theorem dX5_findNeeded_99 : decode cX5_findNeeded 99 = .ok (.lastore, 1) := by decide +kernel
theorem dX5_findNeeded_100 : decode cX5_findNeeded 100 = .ok (.aload_n 0, 1) := by decide +kernel
theorem dX5_findNeeded_101 : decode cX5_findNeeded 101 = .ok (.getfield 11, 3) := by decide +kernel
theorem dX5_findNeeded_104 : decode cX5_findNeeded 104 = .ok (.iload 4, 2) := by decide +kernel
theorem dX5_findNeeded_106 : decode cX5_findNeeded 106 = .ok (.aaload, 1) := by decide +kernel
theorem dX5_findNeeded_107 : decode cX5_findNeeded 107 = .ok (.aload_n 0, 1) := by decide +kernel
theorem dX5_findNeeded_108 : decode cX5_findNeeded 108 = .ok (.getfield 11, 3) := by decide +kernel
theorem dX5_findNeeded_111 : decode cX5_findNeeded 111 = .ok (.aload_n 0, 1) := by decide +kernel
theorem dX5_findNeeded_112 : decode cX5_findNeeded 112 = .ok (.getfield 11, 3) := by decide +kernel
theorem dX5_findNeeded_115 : decode cX5_findNeeded 115 = .ok (.iload 4, 2) := by decide +kernel
theorem dX5_findNeeded_117 : decode cX5_findNeeded 117 = .ok (.aaload, 1) := by decide +kernel
theorem dX5_findNeeded_118 : decode cX5_findNeeded 118 = .ok (.getfield 146, 3) := by decide +kernel
theorem dX5_findNeeded_121 : decode cX5_findNeeded 121 = .ok (.aaload, 1) := by decide +kernel
theorem dX5_findNeeded_122 : decode cX5_findNeeded 122 = .ok (.invokevirtual 168, 3) := by decide +kernel
theorem dX5_findNeeded_125 : decode cX5_findNeeded 125 = .ok (.iinc 4 (-1), 3) := by decide +kernel
theorem dX5_findNeeded_128 : decode cX5_findNeeded 128 = .ok (.goto (-51), 3) := by decide +kernel
theorem dX5_findNeeded_131 : decode cX5_findNeeded 131 = .ok (.return_, 1) := by decide +kernel
theorem wc_X0_standAgainst : Cond.code yX0_standAgainst cX0_standAgainst 2 none ∈ ltb := List.mem_filter.mpr ⟨List.mem_append_right _ (List.mem_of_getElem? (i := 345) (by decide +kernel)), by decide +kernel⟩
theorem mi_X0_standAgainst : Mi yX0_standAgainst RX0 1 cX0_standAgainst 2 none := ⟨by decide +kernel, wc_X0_standAgainst, wi_X0, by decide⟩
theorem wv_X0_standAgainst : Cond.instanceMethod yX0_standAgainst ∈ ltb := List.mem_filter.mpr ⟨List.mem_append_right _ (List.mem_of_getElem? (i := 343) (by decide +kernel)), by decide +kernel⟩
theorem we_X0_standAgainst : Cond.selects RX0 yX0_standAgainst yX0_standAgainst ∈ ltb := List.mem_filter.mpr ⟨List.mem_append_right _ (List.mem_of_getElem? (i := 344) (by decide +kernel)), by decide +kernel⟩
theorem wm_X5_153 : Cond.methodLink RX5 153 yX0_standAgainst ∈ ltb := List.mem_filter.mpr ⟨List.mem_append_right _ (List.mem_of_getElem? (i := 342) (by decide +kernel)), by decide +kernel⟩
theorem wc_X0_move : Cond.code yX0_move cX0_move 6 none ∈ ltb := List.mem_filter.mpr ⟨List.mem_append_right _ (List.mem_of_getElem? (i := 354) (by decide +kernel)), by decide +kernel⟩
theorem mi_X0_move : Mi yX0_move RX0 3 cX0_move 6 none := ⟨by decide +kernel, wc_X0_move, wi_X0, by decide⟩
theorem wv_X0_move : Cond.instanceMethod yX0_move ∈ ltb := List.mem_filter.mpr ⟨List.mem_append_right _ (List.mem_of_getElem? (i := 352) (by decide +kernel)), by decide +kernel⟩
theorem we_X0_move : Cond.selects RX0 yX0_move yX0_move ∈ ltb := List.mem_filter.mpr ⟨List.mem_append_right _ (List.mem_of_getElem? (i := 353) (by decide +kernel)), by decide +kernel⟩
theorem wm_X5_157 : Cond.methodLink RX5 157 yX0_move ∈ ltb := List.mem_filter.mpr ⟨List.mem_append_right _ (List.mem_of_getElem? (i := 351) (by decide +kernel)), by decide +kernel⟩
theorem wc_X0_load : Cond.code yX0_load cX0_load 1 none ∈ ltb := List.mem_filter.mpr ⟨List.mem_append_right _ (List.mem_of_getElem? (i := 369) (by decide +kernel)), by decide +kernel⟩
theorem mi_X0_load : Mi yX0_load RX0 0 cX0_load 1 none := ⟨by decide +kernel, wc_X0_load, wi_X0, by decide⟩
theorem wv_X0_load : Cond.instanceMethod yX0_load ∈ ltb := List.mem_filter.mpr ⟨List.mem_append_right _ (List.mem_of_getElem? (i := 367) (by decide +kernel)), by decide +kernel⟩
theorem we_X0_load : Cond.selects RX0 yX0_load yX0_load ∈ ltb := List.mem_filter.mpr ⟨List.mem_append_right _ (List.mem_of_getElem? (i := 368) (by decide +kernel)), by decide +kernel⟩
theorem wm_X5_161 : Cond.methodLink RX5 161 yX0_load ∈ ltb := List.mem_filter.mpr ⟨List.mem_append_right _ (List.mem_of_getElem? (i := 366) (by decide +kernel)), by decide +kernel⟩
theorem wf_X5_51 : Cond.fieldLink RX5 51 (TX5 10).1 (TX5 10).2.1 (TX5 10).2.2.1 ∈ ltb := List.mem_filter.mpr ⟨List.mem_append_right _ (List.mem_of_getElem? (i := 162) (by decide +kernel)), by decide +kernel⟩
theorem wc_X0_neededTorque : Cond.code yX0_neededTorque cX0_neededTorque 1 (some .long) ∈ ltb := List.mem_filter.mpr ⟨List.mem_append_right _ (List.mem_of_getElem? (i := 390) (by decide +kernel)), by decide +kernel⟩
theorem mi_X0_neededTorque : Mi yX0_neededTorque RX0 0 cX0_neededTorque 1 (some .long) := ⟨by decide +kernel, wc_X0_neededTorque, wi_X0, by decide⟩
theorem wv_X0_neededTorque : Cond.instanceMethod yX0_neededTorque ∈ ltb := List.mem_filter.mpr ⟨List.mem_append_right _ (List.mem_of_getElem? (i := 388) (by decide +kernel)), by decide +kernel⟩
theorem we_X0_neededTorque : Cond.selects RX0 yX0_neededTorque yX0_neededTorque ∈ ltb := List.mem_filter.mpr ⟨List.mem_append_right _ (List.mem_of_getElem? (i := 389) (by decide +kernel)), by decide +kernel⟩
theorem wm_X5_164 : Cond.methodLink RX5 164 yX0_neededTorque ∈ ltb := List.mem_filter.mpr ⟨List.mem_append_right _ (List.mem_of_getElem? (i := 387) (by decide +kernel)), by decide +kernel⟩
theorem wc_X0_passLoad : Cond.code yX0_passLoad cX0_passLoad 2 none ∈ ltb := List.mem_filter.mpr ⟨List.mem_append_right _ (List.mem_of_getElem? (i := 396) (by decide +kernel)), by decide +kernel⟩
theorem mi_X0_passLoad : Mi yX0_passLoad RX0 1 cX0_passLoad 2 none := ⟨by decide +kernel, wc_X0_passLoad, wi_X0, by decide⟩
theorem wv_X0_passLoad : Cond.instanceMethod yX0_passLoad ∈ ltb := List.mem_filter.mpr ⟨List.mem_append_right _ (List.mem_of_getElem? (i := 394) (by decide +kernel)), by decide +kernel⟩
theorem we_X0_passLoad : Cond.selects RX0 yX0_passLoad yX0_passLoad ∈ ltb := List.mem_filter.mpr ⟨List.mem_append_right _ (List.mem_of_getElem? (i := 395) (by decide +kernel)), by decide +kernel⟩
theorem wm_X5_168 : Cond.methodLink RX5 168 yX0_passLoad ∈ ltb := List.mem_filter.mpr ⟨List.mem_append_right _ (List.mem_of_getElem? (i := 393) (by decide +kernel)), by decide +kernel⟩
noncomputable def pr_X5_findNeeded : Prg := [(0, z_aload 0 1), (1, z_get 4 0), (4, z_ic (nI 0) 1), (5, z_aaload), (6, z_aload 1 1), (7, z_callv 1 0 sp_X0_standAgainst), (10, z_ic (nI 1) 1), (11, z_istore 4 2), (13, z_iload 4 2), (15, z_aload 0 1), (16, z_get 4 1), (19, z_if2 (fun x y => y < x) 71), (22, z_aload 0 1), (23, z_get 4 0), (26, z_iload 4 2), (28, z_aaload), (29, z_aload 0 1), (30, z_get 4 0), (33, z_aload 0 1), (34, z_get 4 0), (37, z_iload 4 2), (39, z_aaload), (40, z_get 0 0), (43, z_aaload), (44, z_aload 2 1), (45, z_iload 4 2), (47, z_laload), (48, z_aload 3 1), (49, z_iload 4 2), (51, z_laload), (52, z_callv 3 0 sp_X0_move), (55, z_aload 0 1), (56, z_get 4 0), (59, z_iload 4 2), (61, z_aaload), (62, z_callv 0 0 sp_X0_load), (65, z_iinc 4 (nI 1)), (68, z_goto 13), (71, z_aload 0 1), (72, z_get 4 1), (75, z_istore 4 2), (77, z_iload 4 2), (79, z_ic (nI 1) 1), (80, z_if2 (fun x y => x < y) 131), (83, z_aload 0 1), (84, z_get 4 10), (87, z_iload 4 2), (89, z_aload 0 1), (90, z_get 4 0), (93, z_iload 4 2), (95, z_aaload), (96, z_callv 0 0 sp_X0_neededTorque), (99, z_lastore), (100, z_aload 0 1), (101, z_get 4 0), (104, z_iload 4 2), (106, z_aaload), (107, z_aload 0 1), (108, z_get 4 0), (111, z_aload 0 1), (112, z_get 4 0), (115, z_iload 4 2), (117, z_aaload), (118, z_get 0 0), (121, z_aaload), (122, z_callv 1 0 sp_X0_passLoad), (125, z_iinc 4 (-1)), (128, z_goto 77), (131, z_vret)]
set_option maxRecDepth 100000 in
set_option maxHeartbeats 4000000 in
theorem sn_X5_findNeeded {G : Geo} (hG : GeoOK G) (l : Launch) : ∀ q ∈ pr_X5_findNeeded, Sn G l yX5_findNeeded.cls cX5_findNeeded 5 4 none q.1 q.2 :=
  fcs (zs_aload_n dX5_findNeeded_0 rfl) <| fcs (zs_get cls4 (by decide) (by decide) wf_X5_11 dX5_findNeeded_1) <| fcs (zs_iconst dX5_findNeeded_4 rfl) <| fcs (zs_aaload dX5_findNeeded_5) <| fcs (zs_aload_n dX5_findNeeded_6 rfl) <| fcs (zs_callv cls0 (by decide) (ct_X0_standAgainst hG l) mi_X0_standAgainst wv_X0_standAgainst we_X0_standAgainst (by decide) wm_X5_153 dX5_findNeeded_7) <| fcs (zs_iconst dX5_findNeeded_10 rfl) <| fcs (zs_istore dX5_findNeeded_11 (by decide)) <| fcs (zs_iload dX5_findNeeded_13) <| fcs (zs_aload_n dX5_findNeeded_15 rfl) <| fcs (zs_get cls4 (by decide) (by decide) wf_X5_16 dX5_findNeeded_16) <| fcs (zs_icmp_gt dX5_findNeeded_19 rfl) <| fcs (zs_aload_n dX5_findNeeded_22 rfl) <| fcs (zs_get cls4 (by decide) (by decide) wf_X5_11 dX5_findNeeded_23) <| fcs (zs_iload dX5_findNeeded_26) <| fcs (zs_aaload dX5_findNeeded_28) <| fcs (zs_aload_n dX5_findNeeded_29 rfl) <| fcs (zs_get cls4 (by decide) (by decide) wf_X5_11 dX5_findNeeded_30) <| fcs (zs_aload_n dX5_findNeeded_33 rfl) <| fcs (zs_get cls4 (by decide) (by decide) wf_X5_11 dX5_findNeeded_34) <| fcs (zs_iload dX5_findNeeded_37) <| fcs (zs_aaload dX5_findNeeded_39) <| fcs (zs_get cls0 (by decide) (by decide) wf_X5_146 dX5_findNeeded_40) <| fcs (zs_aaload dX5_findNeeded_43) <| fcs (zs_aload_n dX5_findNeeded_44 rfl) <| fcs (zs_iload dX5_findNeeded_45) <| fcs (zs_laload dX5_findNeeded_47) <| fcs (zs_aload_n dX5_findNeeded_48 rfl) <| fcs (zs_iload dX5_findNeeded_49) <| fcs (zs_laload dX5_findNeeded_51) <| fcs (zs_callv cls0 (by decide) (ct_X0_move hG l) mi_X0_move wv_X0_move we_X0_move (by decide) wm_X5_157 dX5_findNeeded_52) <| fcs (zs_aload_n dX5_findNeeded_55 rfl) <| fcs (zs_get cls4 (by decide) (by decide) wf_X5_11 dX5_findNeeded_56) <| fcs (zs_iload dX5_findNeeded_59) <| fcs (zs_aaload dX5_findNeeded_61) <| fcs (zs_callv cls0 (by decide) (ct_X0_load hG l) mi_X0_load wv_X0_load we_X0_load (by decide) wm_X5_161 dX5_findNeeded_62) <| fcs (zs_iinc dX5_findNeeded_65 rfl (by decide)) <| fcs (zs_goto dX5_findNeeded_68 rfl) <| fcs (zs_aload_n dX5_findNeeded_71 rfl) <| fcs (zs_get cls4 (by decide) (by decide) wf_X5_16 dX5_findNeeded_72) <| fcs (zs_istore dX5_findNeeded_75 (by decide)) <| fcs (zs_iload dX5_findNeeded_77) <| fcs (zs_iconst dX5_findNeeded_79 rfl) <| fcs (zs_icmp_lt dX5_findNeeded_80 rfl) <| fcs (zs_aload_n dX5_findNeeded_83 rfl) <| fcs (zs_get cls4 (by decide) (by decide) wf_X5_51 dX5_findNeeded_84) <| fcs (zs_iload dX5_findNeeded_87) <| fcs (zs_aload_n dX5_findNeeded_89 rfl) <| fcs (zs_get cls4 (by decide) (by decide) wf_X5_11 dX5_findNeeded_90) <| fcs (zs_iload dX5_findNeeded_93) <| fcs (zs_aaload dX5_findNeeded_95) <| fcs (zs_callv cls0 (by decide) (ct_X0_neededTorque hG l) mi_X0_neededTorque wv_X0_neededTorque we_X0_neededTorque (by decide) wm_X5_164 dX5_findNeeded_96) <| fcs (zs_lastore dX5_findNeeded_99) <| fcs (zs_aload_n dX5_findNeeded_100 rfl) <| fcs (zs_get cls4 (by decide) (by decide) wf_X5_11 dX5_findNeeded_101) <| fcs (zs_iload dX5_findNeeded_104) <| fcs (zs_aaload dX5_findNeeded_106) <| fcs (zs_aload_n dX5_findNeeded_107 rfl) <| fcs (zs_get cls4 (by decide) (by decide) wf_X5_11 dX5_findNeeded_108) <| fcs (zs_aload_n dX5_findNeeded_111 rfl) <| fcs (zs_get cls4 (by decide) (by decide) wf_X5_11 dX5_findNeeded_112) <| fcs (zs_iload dX5_findNeeded_115) <| fcs (zs_aaload dX5_findNeeded_117) <| fcs (zs_get cls0 (by decide) (by decide) wf_X5_146 dX5_findNeeded_118) <| fcs (zs_aaload dX5_findNeeded_121) <| fcs (zs_callv cls0 (by decide) (ct_X0_passLoad hG l) mi_X0_passLoad wv_X0_passLoad we_X0_passLoad (by decide) wm_X5_168 dX5_findNeeded_122) <| fcs (zs_iinc dX5_findNeeded_125 rfl (by decide)) <| fcs (zs_goto dX5_findNeeded_128 rfl) <| fcs (zs_vret dX5_findNeeded_131) <| fnl
set_option maxRecDepth 100000 in
set_option maxHeartbeats 4000000 in
theorem ct_X5_findNeeded {G : Geo} (hG : GeoOK G) (l : Launch) : Ct G l yX5_findNeeded cX5_findNeeded 5 none 4 sp_X5_findNeeded := by
  refine Ct.of pr_X5_findNeeded hG (by decide +kernel) (sn_X5_findNeeded hG l) ?_
  intro av σ post hok h
  unfold sp_X5_findNeeded at h
  split at h
  · rename_i b q u v
    obtain ⟨hb, hI, h9⟩ := bif_t h
    clear h
    rw [Bool.and_eq_true, Bool.and_eq_true, Bool.and_eq_true] at hb
    obtain ⟨hb, hq, hu, hv⟩ := hb
    obtain rfl := is0_t hb
    obtain ⟨hu1, hu2⟩ := isA_t hu
    obtain ⟨hv1, hv2⟩ := isA_t hv
    refine ⟨Nat.le_of_ble_eq_true rfl, fun X hX => ?_⟩
    have h7 := hI.2.1
    have hup : ∀ k, (upf (n_up u v) (b_agn σ 0 q) k).2.2 = σ.2.2 := fun k => upf_I (fun s k => congrArg Prod.snd (n_up_2 u v s k)) _ k
    have down : ∀ (k : Nat) (s : SS) (i : Int32), k ≤ nn σ → s.2.2 = σ.2.2 → i = nI k → post none (dnf n_dn k s) → X 77 [(4, .inl i), (0, ar 0 0), (1, .inr (.inr q)), (2, .inr (.inr u)), (3, .inr (.inr v))] [] s := by
      intro k
      induction k with
      | zero =>
        intro s i hk hs hi hp
        subst hi
        refine go hX [77] 60 ?_
        refine ⟨fun g1 => ?_, fun g1 => absurd ((nI_ltI (by decide) (by decide)).mpr (by decide)) g1⟩
        exact hp
      | succ k ih =>
        intro s i hk hs hi hp
        subst hi
        have hI' := CI_of hs hI
        have hn := nn_of hs
        have hpa := hI'.2.2 (k + 1) (by omega) (by omega)
        refine go hX [77] 60 ?_
        refine ⟨fun g1 => absurd ((nI_ltI (by omega) (by decide)).mp g1) (by omega), fun g1 => ?_⟩
        refine ⟨k + 1, rfl, by omega, ?_⟩
        refine ⟨⟨by decide, by decide⟩, k + 1, _, rfl, by show k + 1 < 8; omega, rfl, ?_⟩
        refine ⟨k + 1, rfl, by omega, ?_⟩
        refine ⟨k + 1, rfl, by omega, ?_⟩
        refine ⟨pa s (k + 1), ?_, by omega, ?_⟩
        · show (b_nst s (k + 1)).2.2 1 (k + 1) = _
          rw [b_nst_2]
          exact hpa.1
        exact ih _ _ (by omega) ((n_dn_I s (k + 1)).trans hs) (pk_m1 k) hp
    have loop : ∀ (m k : Nat) (i : Int32), k + m = nn σ → i = nI (k + 1) → X 13 [(4, .inl i), (0, ar 0 0), (1, .inr (.inr q)), (2, .inr (.inr u)), (3, .inr (.inr v))] [] (upf (n_up u v) (b_agn σ 0 q) k) := by
      intro m
      induction m with
      | zero =>
        intro k i hk hi
        subst hi
        have hI' := CI_of (hup k) hI
        have hn := nn_of (hup k)
        refine go hX [13, 77] 60 ?_
        refine ⟨fun g1 => ?_, fun g1 => absurd (lp_t hI' (by omega) (by omega)) g1⟩
        have e : k = nn σ := by omega
        subst e
        exact down (nn σ) _ _ (by omega) (hup _) (by show (upf (n_up u v) (b_agn σ 0 q) (nn σ)).2.2 0 0 = _; rw [hup]; exact hI.1) h9
      | succ m ih =>
        intro k i hk hi
        subst hi
        have hI' := CI_of (hup k) hI
        have hn := nn_of (hup k)
        have hp := hI'.2.2 (k + 1) (by omega) (by omega)
        refine go hX [13, 77] 60 ?_
        refine ⟨fun g1 => absurd g1 (lp_f hI' (by omega)), fun g1 => ?_⟩
        refine ⟨k + 1, rfl, by omega, ?_⟩
        refine ⟨k + 1, rfl, by omega, ?_⟩
        refine ⟨pa (upf (n_up u v) (b_agn σ 0 q) k) (k + 1), hp.1, by omega, ?_⟩
        refine ⟨hu1, k + 1, rfl, by omega, ?_⟩
        refine ⟨hv1, k + 1, rfl, by omega, ?_⟩
        refine ⟨k + 1, rfl, by omega, ?_⟩
        exact ih (k + 1) _ (by omega) (nI_add _ _)
    refine go hX [13, 77] 60 ?_
    refine ⟨0, rfl, by decide, ?_⟩
    refine bif5 (by rw [hq]; rfl) ?_
    exact loop (nn σ) 0 _ (by omega) rfl
  · exact h.elim
