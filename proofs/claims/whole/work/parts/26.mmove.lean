/-! The reference: move, asItIs, alone -/
def mn (σ : SS) : Nat := (σ.2.2 6 1).toNatClampNeg
def mp (σ : SS) (k : Nat) : Nat := (σ.2.2 7 k).toNatClampNeg
/-- the reference's state is sound -/
def MI (σ : SS) : Prop := σ.2.2 6 1 = nI (mn σ) ∧ mn σ ≤ 7 ∧ ∀ k, 1 ≤ k → k ≤ mn σ → σ.2.2 7 k = nI (mp σ k) ∧ mp σ k < k
theorem MI_of {s σ : SS} (h : s.2.2 = σ.2.2) (hI : MI σ) : MI s := by
  unfold MI mn mp at *
  rw [h]
  exact hI
theorem mn_of {s σ : SS} (h : s.2.2 = σ.2.2) : mn s = mn σ := by unfold mn; rw [h]
theorem mp_of {s σ : SS} (h : s.2.2 = σ.2.2) (k : Nat) : mp s k = mp σ k := by unfold mp; rw [h]
theorem mlp_t {s : SS} {k : Nat} (hI : MI s) (h : mn s ≤ k) (hk : k ≤ 8) : s.2.2 6 1 < nI (k + 1) := by
  rw [hI.1, nI_ltI (by omega) (by omega)]
  omega
theorem mlp_f {s : SS} {k : Nat} (hI : MI s) (h : k < mn s) : ¬ s.2.2 6 1 < nI (k + 1) := by
  have := hI.2.1
  rw [hI.1, nI_ltI (by omega) (by omega)]
  omega
def Q4 (s : SS) (b c : Nat) (f1 f2 f3 f4 : Nat → ZF) : SS := fl (fl (fl (fl s (28, 0) b c f1) (30, 0) b c f2) (31, 0) b c f3) (32, 0) b c f4
theorem Q4_s (s : SS) (b c : Nat) (f1 f2 f3 f4 : Nat → ZF) {i : Nat} (hi : i = b + c) : sL (sL (sL (sL (Q4 s b c f1 f2 f3 f4) 28 0 i (f1 c)) 30 0 i (f2 c)) 31 0 i (f3 c)) 32 0 i (f4 c) = Q4 s b (c + 1) f1 f2 f3 f4 := by
  unfold Q4
  rw [sL_fl (kd := 28) _ (32, 0) _ _ _ _ _ _ (by decide), sL_fl (kd := 28) _ (31, 0) _ _ _ _ _ _ (by decide), sL_fl (kd := 28) _ (30, 0) _ _ _ _ _ _ (by decide)]
  have e1 := fl_s s (28, 0) b c f1 (i := i) hi rfl
  dsimp only at e1
  rw [e1]
  rw [sL_fl (kd := 30) _ (32, 0) _ _ _ _ _ _ (by decide), sL_fl (kd := 30) _ (31, 0) _ _ _ _ _ _ (by decide)]
  have e2 := fl_s (fl s (28, 0) b (c + 1) f1) (30, 0) b c f2 (i := i) hi rfl
  dsimp only at e2
  rw [e2]
  rw [sL_fl (kd := 31) _ (32, 0) _ _ _ _ _ _ (by decide)]
  have e3 := fl_s (fl (fl s (28, 0) b (c + 1) f1) (30, 0) b (c + 1) f2) (31, 0) b c f3 (i := i) hi rfl
  dsimp only at e3
  rw [e3]
  exact fl_s _ (32, 0) b c f4 (i := i) hi rfl
def idf (c : Nat) : ZF := if c % 4 = 0 then 1 else 0
def lif (σ : SS) (h : Bool) (c : Nat) : ZF := bif h then -(σ.2.1 24 0 c) else 0
def zf0 (_ : Nat) : ZF := 0
def m_ini (σ : SS) (h : Bool) : SS := Q4 (fl σ (27, 0) 0 9 idf) 0 3 zf0 zf0 zf0 (lif σ h)
noncomputable def m_cfn (s : SS) (k : Nat) : SS := m_car s k (mp s k)
noncomputable def m_mov (σ : SS) (h : Bool) : SS := upf m_cfn (m_ini σ h) (mn σ)
theorem fl_2 (s : SS) (t : Nat × Nat) (b n : Nat) (f : Nat → ZF) : (fl s t b n f).2.2 = s.2.2 := rfl
theorem m_c10_2 (s : SS) (k : Nat) : (m_c10 s k).2.2 = s.2.2 := by
  unfold m_c10
  split <;> rfl
theorem m_c5_2 (s : SS) (k : Nat) : (m_c5 s k).2.2 = s.2.2 := by
  unfold m_c5
  split <;> rfl
theorem m_car_I (s : SS) (k p : Nat) : (m_car s k p).2.2 = s.2.2 := by
  show (m_c10 (m_c8 (m_c7 (m_c6 (m_c5 (m_c4 (m_c3 (m_c2 (m_c1 s k) p) k) k p) k) k p) k) p) k).2.2 = s.2.2
  rw [m_c10_2]
  show (m_c5 (m_c4 (m_c3 (m_c2 (m_c1 s k) p) k) k p) k).2.2 = s.2.2
  rw [m_c5_2]
  rfl
theorem m_mov_I (σ : SS) (h : Bool) : (m_mov σ h).2.2 = σ.2.2 := (upf_I (f := m_cfn) (fun s k => m_car_I s k _) _ _).trans rfl
noncomputable def sp_X6_move : Spc := fun av σ post => match av with
  | [.inr (.inr b), .inl x] => bif is6 b then (MI σ ∧ (x = nI 0 ∨ x = nI 1) ∧ post none (m_mov σ (decide (x = nI 1)))) else False
  | _ => False
theorem dX6_move_0 : decode cX6_move 0 = .ok (.iconst 0, 1) := by decide +kernel
theorem dX6_move_1 : decode cX6_move 1 = .ok (.istore_n 2, 1) := by decide +kernel
theorem dX6_move_2 : decode cX6_move 2 = .ok (.iload_n 2, 1) := by decide +kernel
theorem dX6_move_3 : decode cX6_move 3 = .ok (.bipush 9, 2) := by decide +kernel
theorem dX6_move_5 : decode cX6_move 5 = .ok (.if_icmp .ge 26, 3) := by decide +kernel
theorem dX6_move_8 : decode cX6_move 8 = .ok (.aload_n 0, 1) := by decide +kernel
theorem dX6_move_9 : decode cX6_move 9 = .ok (.getfield 39, 3) := by decide +kernel
theorem dX6_move_12 : decode cX6_move 12 = .ok (.iload_n 2, 1) := by decide +kernel
theorem dX6_move_13 : decode cX6_move 13 = .ok (.iload_n 2, 1) := by decide +kernel
theorem dX6_move_14 : decode cX6_move 14 = .ok (.iconst 4, 1) := by decide +kernel
theorem dX6_move_15 : decode cX6_move 15 = .ok (.irem, 1) := by decide +kernel
theorem dX6_move_16 : decode cX6_move 16 = .ok (.ifCond .ne 7, 3) := by decide +kernel
theorem dX6_move_19 : decode cX6_move 19 = .ok (.lconst 1, 1) := by decide +kernel
theorem dX6_move_20 : decode cX6_move 20 = .ok (.goto 4, 3) := by decide +kernel
theorem dX6_move_23 : decode cX6_move 23 = .ok (.lconst 0, 1) := by decide +kernel
theorem dX6_move_24 : decode cX6_move 24 = .ok (.lastore, 1) := by decide +kernel
theorem dX6_move_25 : decode cX6_move 25 = .ok (.iinc 2 1, 3) := by decide +kernel
theorem dX6_move_28 : decode cX6_move 28 = .ok (.goto (-26), 3) := by decide +kernel
theorem dX6_move_31 : decode cX6_move 31 = .ok (.iconst 0, 1) := by decide +kernel
theorem dX6_move_32 : decode cX6_move 32 = .ok (.istore_n 2, 1) := by decide +kernel
theorem dX6_move_33 : decode cX6_move 33 = .ok (.iload_n 2, 1) := by decide +kernel
theorem dX6_move_34 : decode cX6_move 34 = .ok (.iconst 3, 1) := by decide +kernel
theorem dX6_move_35 : decode cX6_move 35 = .ok (.if_icmp .ge 54, 3) := by decide +kernel
theorem dX6_move_38 : decode cX6_move 38 = .ok (.aload_n 0, 1) := by decide +kernel
theorem dX6_move_39 : decode cX6_move 39 = .ok (.getfield 42, 3) := by decide +kernel
theorem dX6_move_42 : decode cX6_move 42 = .ok (.iload_n 2, 1) := by decide +kernel
theorem dX6_move_43 : decode cX6_move 43 = .ok (.lconst 0, 1) := by decide +kernel
theorem dX6_move_44 : decode cX6_move 44 = .ok (.lastore, 1) := by decide +kernel
theorem dX6_move_45 : decode cX6_move 45 = .ok (.aload_n 0, 1) := by decide +kernel
theorem dX6_move_46 : decode cX6_move 46 = .ok (.getfield 48, 3) := by decide +kernel
theorem dX6_move_49 : decode cX6_move 49 = .ok (.iload_n 2, 1) := by decide +kernel
theorem dX6_move_50 : decode cX6_move 50 = .ok (.lconst 0, 1) := by decide +kernel
theorem dX6_move_51 : decode cX6_move 51 = .ok (.lastore, 1) := by decide +kernel
theorem dX6_move_52 : decode cX6_move 52 = .ok (.aload_n 0, 1) := by decide +kernel
theorem dX6_move_53 : decode cX6_move 53 = .ok (.getfield 51, 3) := by decide +kernel
theorem dX6_move_56 : decode cX6_move 56 = .ok (.iload_n 2, 1) := by decide +kernel
theorem dX6_move_57 : decode cX6_move 57 = .ok (.lconst 0, 1) := by decide +kernel
theorem dX6_move_58 : decode cX6_move 58 = .ok (.lastore, 1) := by decide +kernel
theorem dX6_move_59 : decode cX6_move 59 = .ok (.aload_n 0, 1) := by decide +kernel
theorem dX6_move_60 : decode cX6_move 60 = .ok (.getfield 54, 3) := by decide +kernel
theorem dX6_move_63 : decode cX6_move 63 = .ok (.iload_n 2, 1) := by decide +kernel
theorem dX6_move_64 : decode cX6_move 64 = .ok (.iload_n 1, 1) := by decide +kernel
theorem dX6_move_65 : decode cX6_move 65 = .ok (.ifCond .eq 16, 3) := by decide +kernel
theorem dX6_move_68 : decode cX6_move 68 = .ok (.aload_n 0, 1) := by decide +kernel
theorem dX6_move_69 : decode cX6_move 69 = .ok (.getfield 30, 3) := by decide +kernel
theorem dX6_move_72 : decode cX6_move 72 = .ok (.iload_n 2, 1) := by decide +kernel
theorem dX6_move_73 : decode cX6_move 73 = .ok (.laload, 1) := by decide +kernel
theorem dX6_move_74 : decode cX6_move 74 = .ok (.lneg, 1) := by decide +kernel
theorem dX6_move_75 : decode cX6_move 75 = .ok (.invokestatic 97, 3) := by decide +kernel
theorem dX6_move_78 : decode cX6_move 78 = .ok (.goto 4, 3) := by decide +kernel
theorem dX6_move_81 : decode cX6_move 81 = .ok (.lconst 0, 1) := by decide +kernel
theorem dX6_move_82 : decode cX6_move 82 = .ok (.lastore, 1) := by decide +kernel
theorem dX6_move_83 : decode cX6_move 83 = .ok (.iinc 2 1, 3) := by decide +kernel
theorem dX6_move_86 : decode cX6_move 86 = .ok (.goto (-53), 3) := by decide +kernel
theorem dX6_move_89 : decode cX6_move 89 = .ok (.iconst 1, 1) := by decide +kernel
theorem dX6_move_90 : decode cX6_move 90 = .ok (.istore_n 2, 1) := by decide +kernel
theorem dX6_move_91 : decode cX6_move 91 = .ok (.iload_n 2, 1) := by decide +kernel
theorem dX6_move_92 : decode cX6_move 92 = .ok (.aload_n 0, 1) := by decide +kernel
theorem dX6_move_93 : decode cX6_move 93 = .ok (.getfield 114, 3) := by decide +kernel
theorem dX6_move_96 : decode cX6_move 96 = .ok (.if_icmp .gt 14, 3) := by decide +kernel
theorem dX6_move_99 : decode cX6_move 99 = .ok (.aload_n 0, 1) := by decide +kernel
theorem dX6_move_100 : decode cX6_move 100 = .ok (.iload_n 2, 1) := by decide +kernel
theorem dX6_move_101 : decode cX6_move 101 = .ok (.invokevirtual 117, 3) := by decide +kernel
theorem dX6_move_104 : decode cX6_move 104 = .ok (.iinc 2 1, 3) := by decide +kernel
theorem dX6_move_107 : decode cX6_move 107 = .ok (.goto (-16), 3) := by decide +kernel
theorem dX6_move_110 : decode cX6_move 110 = .ok (.return_, 1) := by decide +kernel
theorem wf_X6_30 : Cond.fieldLink RX6 30 (TX6 8).1 (TX6 8).2.1 (TX6 8).2.2.1 ∈ ltb := List.mem_filter.mpr ⟨List.mem_append_right _ (List.mem_of_getElem? (i := 475) (by decide +kernel)), by decide +kernel⟩
theorem wf_X6_114 : Cond.fieldLink RX6 114 (TX6 1).1 (TX6 1).2.1 (TX6 1).2.2.1 ∈ ltb := List.mem_filter.mpr ⟨List.mem_append_right _ (List.mem_of_getElem? (i := 468) (by decide +kernel)), by decide +kernel⟩
theorem wc_X6_carry : Cond.code yX6_carry cX6_carry 4 none ∈ ltb := List.mem_filter.mpr ⟨List.mem_append_right _ (List.mem_of_getElem? (i := 622) (by decide +kernel)), by decide +kernel⟩
theorem mi_X6_carry : Mi yX6_carry RX6 1 cX6_carry 4 none := ⟨by decide +kernel, wc_X6_carry, wi_X6, by decide⟩
theorem wv_X6_carry : Cond.instanceMethod yX6_carry ∈ ltb := List.mem_filter.mpr ⟨List.mem_append_right _ (List.mem_of_getElem? (i := 621) (by decide +kernel)), by decide +kernel⟩
theorem we_X6_carry : Cond.selects RX6 yX6_carry yX6_carry ∈ ltb := List.mem_filter.mpr ⟨List.mem_append_left _ (List.mem_of_getElem? (i := 15) (by decide +kernel)), by decide +kernel⟩
theorem wm_X6_117 : Cond.methodLink RX6 117 yX6_carry ∈ ltb := List.mem_filter.mpr ⟨List.mem_append_right _ (List.mem_of_getElem? (i := 619) (by decide +kernel)), by decide +kernel⟩
noncomputable def pr_X6_move : Prg := [(0, z_ic (nI 0) 1), (1, z_istore 2 1), (2, z_iload 2 1), (3, z_ic (nI 9) 2), (5, z_if2 (fun x y => y ≤ x) 31), (8, z_aload 0 1), (9, z_get 5 11), (12, z_iload 2 1), (13, z_iload 2 1), (14, z_ic (nI 4) 1), (15, z_irem), (16, z_nf1 23), (19, z_lc (.inr 1) 1), (20, z_goto 24), (23, z_lc (.inr 0) 1), (24, z_lastore), (25, z_iinc 2 (nI 1)), (28, z_goto 2), (31, z_ic (nI 0) 1), (32, z_istore 2 1), (33, z_iload 2 1), (34, z_ic (nI 3) 1), (35, z_if2 (fun x y => y ≤ x) 89), (38, z_aload 0 1), (39, z_get 5 12), (42, z_iload 2 1), (43, z_lc (.inr 0) 1), (44, z_lastore), (45, z_aload 0 1), (46, z_get 5 14), (49, z_iload 2 1), (50, z_lc (.inr 0) 1), (51, z_lastore), (52, z_aload 0 1), (53, z_get 5 15), (56, z_iload 2 1), (57, z_lc (.inr 0) 1), (58, z_lastore), (59, z_aload 0 1), (60, z_get 5 16), (63, z_iload 2 1), (64, z_iload 1 1), (65, z_if1 (fun x => x = 0) 81), (68, z_aload 0 1), (69, z_get 5 8), (72, z_iload 2 1), (73, z_laload), (74, z_lneg), (75, z_call 1 sp_X6_of), (78, z_goto 82), (81, z_lc (.inr 0) 1), (82, z_lastore), (83, z_iinc 2 (nI 1)), (86, z_goto 33), (89, z_ic (nI 1) 1), (90, z_istore 2 1), (91, z_iload 2 1), (92, z_aload 0 1), (93, z_get 5 1), (96, z_if2 (fun x y => y < x) 110), (99, z_aload 0 1), (100, z_iload 2 1), (101, z_callv 1 5 sp_X6_carry), (104, z_iinc 2 (nI 1)), (107, z_goto 91), (110, z_vret)]
set_option maxRecDepth 100000 in
set_option maxHeartbeats 4000000 in
theorem sn_X6_move {G : Geo} (hG : GeoOK G) (l : Launch) : ∀ q ∈ pr_X6_move, Sn G l yX6_move.cls cX6_move 3 5 none q.1 q.2 :=
  fcs (zs_iconst dX6_move_0 rfl) <| fcs (zs_istore_n dX6_move_1 rfl (by decide)) <| fcs (zs_iload_n dX6_move_2 rfl) <| fcs (zs_bipush dX6_move_3 rfl) <| fcs (zs_icmp_ge dX6_move_5 rfl) <| fcs (zs_aload_n dX6_move_8 rfl) <| fcs (zs_get cls5 (by decide) (by decide) wf_X6_39 dX6_move_9) <| fcs (zs_iload_n dX6_move_12 rfl) <| fcs (zs_iload_n dX6_move_13 rfl) <| fcs (zs_iconst dX6_move_14 rfl) <| fcs (zs_irem dX6_move_15) <| fcs (zs_if_ne dX6_move_16 rfl) <| fcs (zs_lconst dX6_move_19 rfl) <| fcs (zs_goto dX6_move_20 rfl) <| fcs (zs_lconst dX6_move_23 rfl) <| fcs (zs_lastore dX6_move_24) <| fcs (zs_iinc dX6_move_25 rfl (by decide)) <| fcs (zs_goto dX6_move_28 rfl) <| fcs (zs_iconst dX6_move_31 rfl) <| fcs (zs_istore_n dX6_move_32 rfl (by decide)) <| fcs (zs_iload_n dX6_move_33 rfl) <| fcs (zs_iconst dX6_move_34 rfl) <| fcs (zs_icmp_ge dX6_move_35 rfl) <| fcs (zs_aload_n dX6_move_38 rfl) <| fcs (zs_get cls5 (by decide) (by decide) wf_X6_42 dX6_move_39) <| fcs (zs_iload_n dX6_move_42 rfl) <| fcs (zs_lconst dX6_move_43 rfl) <| fcs (zs_lastore dX6_move_44) <| fcs (zs_aload_n dX6_move_45 rfl) <| fcs (zs_get cls5 (by decide) (by decide) wf_X6_48 dX6_move_46) <| fcs (zs_iload_n dX6_move_49 rfl) <| fcs (zs_lconst dX6_move_50 rfl) <| fcs (zs_lastore dX6_move_51) <| fcs (zs_aload_n dX6_move_52 rfl) <| fcs (zs_get cls5 (by decide) (by decide) wf_X6_51 dX6_move_53) <| fcs (zs_iload_n dX6_move_56 rfl) <| fcs (zs_lconst dX6_move_57 rfl) <| fcs (zs_lastore dX6_move_58) <| fcs (zs_aload_n dX6_move_59 rfl) <| fcs (zs_get cls5 (by decide) (by decide) wf_X6_54 dX6_move_60) <| fcs (zs_iload_n dX6_move_63 rfl) <| fcs (zs_iload_n dX6_move_64 rfl) <| fcs (zs_if_eq dX6_move_65 rfl) <| fcs (zs_aload_n dX6_move_68 rfl) <| fcs (zs_get cls5 (by decide) (by decide) wf_X6_30 dX6_move_69) <| fcs (zs_iload_n dX6_move_72 rfl) <| fcs (zs_laload dX6_move_73) <| fcs (zs_lneg dX6_move_74) <| fcs (zs_calls (ct_X6_of hG l) mi_X6_of ws_X6_of (by decide) wm_X6_97 dX6_move_75) <| fcs (zs_goto dX6_move_78 rfl) <| fcs (zs_lconst dX6_move_81 rfl) <| fcs (zs_lastore dX6_move_82) <| fcs (zs_iinc dX6_move_83 rfl (by decide)) <| fcs (zs_goto dX6_move_86 rfl) <| fcs (zs_iconst dX6_move_89 rfl) <| fcs (zs_istore_n dX6_move_90 rfl (by decide)) <| fcs (zs_iload_n dX6_move_91 rfl) <| fcs (zs_aload_n dX6_move_92 rfl) <| fcs (zs_get cls5 (by decide) (by decide) wf_X6_114 dX6_move_93) <| fcs (zs_icmp_gt dX6_move_96 rfl) <| fcs (zs_aload_n dX6_move_99 rfl) <| fcs (zs_iload_n dX6_move_100 rfl) <| fcs (zs_callv cls5 (by decide) (ct_X6_carry hG l) mi_X6_carry wv_X6_carry we_X6_carry (by decide) wm_X6_117 dX6_move_101) <| fcs (zs_iinc dX6_move_104 rfl (by decide)) <| fcs (zs_goto dX6_move_107 rfl) <| fcs (zs_vret dX6_move_110) <| fnl
section MV
variable {X : Kx} {post : Option AV → SS → Prop}
theorem mv_3 (hX : Closed pr_X6_move post X) {s : SS} {x : Int32} (hI : MI s) (h : post none (upf m_cfn s (mn s))) : X 91 [(2, .inl (nI 1)), (0, ar 6 0), (1, .inl x)] [] s := by
  have h7 := hI.2.1
  have h0I : ∀ k, (upf m_cfn s k).2.2 = s.2.2 := fun k => upf_I (f := m_cfn) (fun s k => m_car_I s k _) _ _
  have loop : ∀ (m k : Nat) (i : Int32), k + m = mn s → i = nI (k + 1) → X 91 [(2, .inl i), (0, ar 6 0), (1, .inl x)] [] (upf m_cfn s k) := by
    intro m
    induction m with
    | zero =>
      intro k i hk hi
      subst hi
      have hI' := MI_of (h0I k) hI
      have hn := mn_of (h0I k)
      refine go hX [91] 60 ?_
      refine ⟨fun g1 => ?_, fun g1 => absurd (mlp_t hI' (by omega) (by omega)) g1⟩
      have e : k = mn s := by omega
      subst e
      exact h
    | succ m ih =>
      intro k i hk hi
      subst hi
      have hI' := MI_of (h0I k) hI
      have hn := mn_of (h0I k)
      have hp := hI'.2.2 (k + 1) (by omega) (by omega)
      refine go hX [91] 60 ?_
      refine ⟨fun g1 => absurd g1 (mlp_f hI' (by omega)), fun g1 => ?_⟩
      refine ⟨k + 1, mp (upf m_cfn s k) (k + 1), ⟨rfl, hp.1⟩, ⟨by omega, hp.2⟩, ?_⟩
      exact ih (k + 1) _ (by omega) (nI_add _ _)
  exact loop (mn s) 0 _ (by omega) rfl
theorem mv_2 (hX : Closed pr_X6_move post X) {s : SS} {x : Int32} {hv : Bool} (hx : x = bz hv) (hI : MI s) (h : post none (upf m_cfn (Q4 s 0 3 zf0 zf0 zf0 (lif s hv)) (mn s))) : X 33 [(2, .inl (nI 0)), (0, ar 6 0), (1, .inl x)] [] s := by
  have lp : ∀ (m c : Nat) (cc : Int32), c + m = 3 → cc = nI c → X 33 [(2, .inl cc), (0, ar 6 0), (1, .inl x)] [] (Q4 s 0 c zf0 zf0 zf0 (lif s hv)) := by
    intro m
    induction m with
    | zero =>
      intro c cc hc e
      subst e
      refine go hX [33, 91] 60 ?_
      refine ⟨fun g => ?_, fun g => absurd ((nI_leI (by decide) (by omega)).mpr (by omega)) g⟩
      have e : c = 3 := by omega
      subst e
      exact mv_3 hX (MI_of rfl hI) h
    | succ m ih =>
      intro c cc hc e
      subst e
      have ih2 := ih (c + 1) _ (by omega) (nI_add c 1)
      have hg : ∀ j, (sL (sL (sL (Q4 s 0 c zf0 zf0 zf0 (lif s hv)) 28 0 c 0) 30 0 c 0) 31 0 c 0).2.1 24 0 j = s.2.1 24 0 j := fun j => by
        rw [sL_n1 _ _ _ _ _ (by decide), sL_n1 _ _ _ _ _ (by decide), sL_n1 _ _ _ _ _ (by decide)]
        unfold Q4
        rw [fl_n _ _ _ _ _ _ _ (by decide), fl_n _ _ _ _ _ _ _ (by decide), fl_n _ _ _ _ _ _ _ (by decide), fl_n _ _ _ _ _ _ _ (by decide)]
      have g4 : ∀ u y, u = sL (sL (sL (Q4 s 0 c zf0 zf0 zf0 (lif s hv)) 28 0 c 0) 30 0 c 0) 31 0 c 0 → lv y = em (lif s hv c) → X 82 [(2, .inl (nI c)), (0, ar 6 0), (1, .inl x)] [.inr (.inl y), .inl (nI c), ar 32 0] u := by
        intro u y hu hy
        refine go hX [33, 91] 60 ?_
        refine ⟨⟨nle rfl, nle rfl⟩, c, lif s hv c, rfl, by show c < 24; omega, hy, ?_⟩
        rw [hu, show (0 : ZF) = zf0 c from rfl, Q4_s s 0 c zf0 zf0 zf0 (lif s hv) (i := c) (by omega)]
        exact ih2
      have g3' : ∀ u, u = sL (sL (sL (Q4 s 0 c zf0 zf0 zf0 (lif s hv)) 28 0 c 0) 30 0 c 0) 31 0 c 0 → X 59 [(2, .inl (nI c)), (0, ar 6 0), (1, .inl x)] [] u := by
        intro u hu
        refine go hX [82] 60 ?_
        cases hv with
        | false =>
          refine ⟨fun g => ?_, fun g => absurd hx g⟩
          exact g4 u (.inr 0) hu rfl
        | true =>
          refine ⟨fun g => absurd (hx.symm.trans g) (by decide), fun g => ?_⟩
          refine ⟨⟨nle rfl, nle rfl⟩, c, rfl, by show c < 3; omega, ?_⟩
          refine g4 u _ hu ?_
          show em _ = em _
          rw [show zi (lv (.inl (-(lv (.inr (u.2.1 24 0 c)))))).toInt = -(u.2.1 24 0 c) from of_n rfl, hu, hg]
          rfl
      refine go hX [59, 91] 60 ?_
      refine ⟨fun g => absurd ((nI_leI (by decide) (by omega)).mp g) (by omega), fun g => ?_⟩
      refine ⟨⟨nle rfl, nle rfl⟩, c, 0, rfl, by show c < 24; omega, rfl, ?_⟩
      refine ⟨⟨nle rfl, nle rfl⟩, c, 0, rfl, by show c < 24; omega, rfl, ?_⟩
      refine ⟨⟨nle rfl, nle rfl⟩, c, 0, rfl, by show c < 24; omega, rfl, ?_⟩
      exact g3' _ rfl
  have l0 := lp 3 0 _ rfl rfl
  have e0 : Q4 s 0 0 zf0 zf0 zf0 (lif s hv) = s := by unfold Q4; rw [fl_0, fl_0, fl_0, fl_0]
  rw [e0] at l0
  exact l0
theorem mv_1 (hX : Closed pr_X6_move post X) {s : SS} {x : Int32} {hv : Bool} (hx : x = bz hv) (hI : MI s) (h : post none (m_mov s hv)) : X 2 [(2, .inl (nI 0)), (0, ar 6 0), (1, .inl x)] [] s := by
  have lp : ∀ (m c : Nat) (cc : Int32), c + m = 9 → cc = nI c → X 2 [(2, .inl cc), (0, ar 6 0), (1, .inl x)] [] (fl s (27, 0) 0 c idf) := by
    intro m
    induction m with
    | zero =>
      intro c cc hc e
      subst e
      refine go hX [2, 33] 60 ?_
      refine ⟨fun g => ?_, fun g => absurd ((nI_leI (by decide) (by omega)).mpr (by omega)) g⟩
      have e : c = 9 := by omega
      subst e
      refine mv_2 hX hx (MI_of rfl hI) ?_
      exact h
    | succ m ih =>
      intro c cc hc e
      subst e
      have ih2 := ih (c + 1) _ (by omega) (nI_add c 1)
      rw [← fl_s s (27, 0) 0 c idf (i := c) (by omega) rfl] at ih2
      have hr : nI c - nI c / nI 4 * nI 4 = nI (c % 4) := pk_rem (by omega) (by decide) (by decide)
      refine go hX [2, 33] 60 ?_
      refine ⟨fun g => absurd ((nI_leI (by decide) (by omega)).mp g) (by omega), fun g => ?_⟩
      refine ⟨by decide, fun g1 => ?_, fun g1 => ?_⟩
      · have g1 : ¬ nI c - nI c / nI 4 * nI 4 = nI 0 := g1
        rw [hr, nI_eq (by omega) (by decide)] at g1
        refine ⟨⟨nle rfl, nle rfl⟩, c, idf c, rfl, by show c < 72; omega, ?_, ?_⟩
        · show em 0 = em (idf c)
          unfold idf
          rw [if_neg g1]
        · exact ih2
      · have g1 : nI c - nI c / nI 4 * nI 4 = nI 0 := g1
        rw [hr, nI_eq (by omega) (by decide)] at g1
        refine ⟨⟨nle rfl, nle rfl⟩, c, idf c, rfl, by show c < 72; omega, ?_, ?_⟩
        · show em 1 = em (idf c)
          unfold idf
          rw [if_pos g1]
        · exact ih2
  have l0 := lp 9 0 _ rfl rfl
  rw [fl_0] at l0
  exact l0
end MV
set_option maxRecDepth 100000 in
set_option maxHeartbeats 4000000 in
theorem ct_X6_move {G : Geo} (hG : GeoOK G) (l : Launch) : Ct G l yX6_move cX6_move 3 none 5 sp_X6_move := by
  refine Ct.of pr_X6_move hG (by decide +kernel) (sn_X6_move hG l) ?_
  intro av σ post hok h
  unfold sp_X6_move at h
  split at h
  · rename_i b x
    obtain ⟨hb, hI, hx, h9⟩ := bif_t h
    clear h
    obtain rfl := is6_t hb
    refine ⟨Nat.le_of_ble_eq_true rfl, fun X hX => ?_⟩
    refine go hX [2] 60 ?_
    rcases hx with rfl | rfl
    · exact mv_1 hX (hv := false) rfl hI h9
    · exact mv_1 hX (hv := true) rfl hI h9
  · exact h.elim
def as1 (b : Bool) (s : SS) (k : Nat) : SS :=
  let s := sL s 25 0 k (s.2.1 22 0 k)
  sL s 26 0 k (bif b then s.2.1 23 0 k else 0)
noncomputable def m_asi (σ : SS) (b : Bool) : SS := m_mov (upf (as1 b) σ (mn σ)) true
theorem m_asi_I (σ : SS) (b : Bool) : (m_asi σ b).2.2 = σ.2.2 := (m_mov_I _ _).trans (upf_I (f := as1 b) (fun _ _ => rfl) _ _)
noncomputable def sp_X6_asItIs : Spc := fun av σ post => match av with
  | [.inr (.inr b), .inl x] => bif is6 b then (MI σ ∧ (x = nI 0 ∨ x = nI 1) ∧ post none (m_asi σ (decide (x = nI 1)))) else False
  | _ => False
theorem dX6_asItIs_0 : decode cX6_asItIs 0 = .ok (.iconst 1, 1) := by decide +kernel
theorem dX6_asItIs_1 : decode cX6_asItIs 1 = .ok (.istore_n 2, 1) := by decide +kernel
theorem dX6_asItIs_2 : decode cX6_asItIs 2 = .ok (.iload_n 2, 1) := by decide +kernel
theorem dX6_asItIs_3 : decode cX6_asItIs 3 = .ok (.aload_n 0, 1) := by decide +kernel
theorem dX6_asItIs_4 : decode cX6_asItIs 4 = .ok (.getfield 114, 3) := by decide +kernel
theorem dX6_asItIs_7 : decode cX6_asItIs 7 = .ok (.if_icmp .gt 41, 3) := by decide +kernel
theorem dX6_asItIs_10 : decode cX6_asItIs 10 = .ok (.aload_n 0, 1) := by decide +kernel
theorem dX6_asItIs_11 : decode cX6_asItIs 11 = .ok (.getfield 33, 3) := by decide +kernel
theorem dX6_asItIs_14 : decode cX6_asItIs 14 = .ok (.iload_n 2, 1) := by decide +kernel
theorem dX6_asItIs_15 : decode cX6_asItIs 15 = .ok (.aload_n 0, 1) := by decide +kernel
theorem dX6_asItIs_16 : decode cX6_asItIs 16 = .ok (.getfield 24, 3) := by decide +kernel
theorem dX6_asItIs_19 : decode cX6_asItIs 19 = .ok (.iload_n 2, 1) := by decide +kernel
theorem dX6_asItIs_20 : decode cX6_asItIs 20 = .ok (.laload, 1) := by decide +kernel
theorem dX6_asItIs_21 : decode cX6_asItIs 21 = .ok (.lastore, 1) := by decide +kernel
theorem dX6_asItIs_22 : decode cX6_asItIs 22 = .ok (.aload_n 0, 1) := by decide +kernel
theorem dX6_asItIs_23 : decode cX6_asItIs 23 = .ok (.getfield 36, 3) := by decide +kernel
theorem dX6_asItIs_26 : decode cX6_asItIs 26 = .ok (.iload_n 2, 1) := by decide +kernel
theorem dX6_asItIs_27 : decode cX6_asItIs 27 = .ok (.iload_n 1, 1) := by decide +kernel
theorem dX6_asItIs_28 : decode cX6_asItIs 28 = .ok (.ifCond .eq 12, 3) := by decide +kernel
theorem dX6_asItIs_31 : decode cX6_asItIs 31 = .ok (.aload_n 0, 1) := by decide +kernel
theorem dX6_asItIs_32 : decode cX6_asItIs 32 = .ok (.getfield 27, 3) := by decide +kernel
theorem dX6_asItIs_35 : decode cX6_asItIs 35 = .ok (.iload_n 2, 1) := by decide +kernel
theorem dX6_asItIs_36 : decode cX6_asItIs 36 = .ok (.laload, 1) := by decide +kernel
theorem dX6_asItIs_37 : decode cX6_asItIs 37 = .ok (.goto 4, 3) := by decide +kernel
theorem dX6_asItIs_40 : decode cX6_asItIs 40 = .ok (.lconst 0, 1) := by decide +kernel
theorem dX6_asItIs_41 : decode cX6_asItIs 41 = .ok (.lastore, 1) := by decide +kernel
theorem dX6_asItIs_42 : decode cX6_asItIs 42 = .ok (.iinc 2 1, 3) := by decide +kernel
theorem dX6_asItIs_45 : decode cX6_asItIs 45 = .ok (.goto (-43), 3) := by decide +kernel
theorem dX6_asItIs_48 : decode cX6_asItIs 48 = .ok (.aload_n 0, 1) := by decide +kernel
theorem dX6_asItIs_49 : decode cX6_asItIs 49 = .ok (.iconst 1, 1) := by decide +kernel
theorem dX6_asItIs_50 : decode cX6_asItIs 50 = .ok (.invokevirtual 158, 3) := by decide +kernel
theorem dX6_asItIs_53 : decode cX6_asItIs 53 = .ok (.return_, 1) := by decide +kernel
theorem wf_X6_24 : Cond.fieldLink RX6 24 (TX6 6).1 (TX6 6).2.1 (TX6 6).2.2.1 ∈ ltb := List.mem_filter.mpr ⟨List.mem_append_right _ (List.mem_of_getElem? (i := 473) (by decide +kernel)), by decide +kernel⟩
theorem wf_X6_27 : Cond.fieldLink RX6 27 (TX6 7).1 (TX6 7).2.1 (TX6 7).2.2.1 ∈ ltb := List.mem_filter.mpr ⟨List.mem_append_right _ (List.mem_of_getElem? (i := 474) (by decide +kernel)), by decide +kernel⟩
theorem wc_X6_move : Cond.code yX6_move cX6_move 3 none ∈ ltb := List.mem_filter.mpr ⟨List.mem_append_right _ (List.mem_of_getElem? (i := 618) (by decide +kernel)), by decide +kernel⟩
theorem mi_X6_move : Mi yX6_move RX6 1 cX6_move 3 none := ⟨by decide +kernel, wc_X6_move, wi_X6, by decide⟩
theorem wv_X6_move : Cond.instanceMethod yX6_move ∈ ltb := List.mem_filter.mpr ⟨List.mem_append_right _ (List.mem_of_getElem? (i := 617) (by decide +kernel)), by decide +kernel⟩
theorem we_X6_move : Cond.selects RX6 yX6_move yX6_move ∈ ltb := List.mem_filter.mpr ⟨List.mem_append_left _ (List.mem_of_getElem? (i := 14) (by decide +kernel)), by decide +kernel⟩
theorem wm_X6_158 : Cond.methodLink RX6 158 yX6_move ∈ ltb := List.mem_filter.mpr ⟨List.mem_append_right _ (List.mem_of_getElem? (i := 615) (by decide +kernel)), by decide +kernel⟩
noncomputable def pr_X6_asItIs : Prg := [(0, z_ic (nI 1) 1), (1, z_istore 2 1), (2, z_iload 2 1), (3, z_aload 0 1), (4, z_get 5 1), (7, z_if2 (fun x y => y < x) 48), (10, z_aload 0 1), (11, z_get 5 9), (14, z_iload 2 1), (15, z_aload 0 1), (16, z_get 5 6), (19, z_iload 2 1), (20, z_laload), (21, z_lastore), (22, z_aload 0 1), (23, z_get 5 10), (26, z_iload 2 1), (27, z_iload 1 1), (28, z_if1 (fun x => x = 0) 40), (31, z_aload 0 1), (32, z_get 5 7), (35, z_iload 2 1), (36, z_laload), (37, z_goto 41), (40, z_lc (.inr 0) 1), (41, z_lastore), (42, z_iinc 2 (nI 1)), (45, z_goto 2), (48, z_aload 0 1), (49, z_ic (nI 1) 1), (50, z_callv 1 5 sp_X6_move), (53, z_vret)]
set_option maxRecDepth 100000 in
set_option maxHeartbeats 4000000 in
theorem sn_X6_asItIs {G : Geo} (hG : GeoOK G) (l : Launch) : ∀ q ∈ pr_X6_asItIs, Sn G l yX6_asItIs.cls cX6_asItIs 3 6 none q.1 q.2 :=
  fcs (zs_iconst dX6_asItIs_0 rfl) <| fcs (zs_istore_n dX6_asItIs_1 rfl (by decide)) <| fcs (zs_iload_n dX6_asItIs_2 rfl) <| fcs (zs_aload_n dX6_asItIs_3 rfl) <| fcs (zs_get cls5 (by decide) (by decide) wf_X6_114 dX6_asItIs_4) <| fcs (zs_icmp_gt dX6_asItIs_7 rfl) <| fcs (zs_aload_n dX6_asItIs_10 rfl) <| fcs (zs_get cls5 (by decide) (by decide) wf_X6_33 dX6_asItIs_11) <| fcs (zs_iload_n dX6_asItIs_14 rfl) <| fcs (zs_aload_n dX6_asItIs_15 rfl) <| fcs (zs_get cls5 (by decide) (by decide) wf_X6_24 dX6_asItIs_16) <| fcs (zs_iload_n dX6_asItIs_19 rfl) <| fcs (zs_laload dX6_asItIs_20) <| fcs (zs_lastore dX6_asItIs_21) <| fcs (zs_aload_n dX6_asItIs_22 rfl) <| fcs (zs_get cls5 (by decide) (by decide) wf_X6_36 dX6_asItIs_23) <| fcs (zs_iload_n dX6_asItIs_26 rfl) <| fcs (zs_iload_n dX6_asItIs_27 rfl) <| fcs (zs_if_eq dX6_asItIs_28 rfl) <| fcs (zs_aload_n dX6_asItIs_31 rfl) <| fcs (zs_get cls5 (by decide) (by decide) wf_X6_27 dX6_asItIs_32) <| fcs (zs_iload_n dX6_asItIs_35 rfl) <| fcs (zs_laload dX6_asItIs_36) <| fcs (zs_goto dX6_asItIs_37 rfl) <| fcs (zs_lconst dX6_asItIs_40 rfl) <| fcs (zs_lastore dX6_asItIs_41) <| fcs (zs_iinc dX6_asItIs_42 rfl (by decide)) <| fcs (zs_goto dX6_asItIs_45 rfl) <| fcs (zs_aload_n dX6_asItIs_48 rfl) <| fcs (zs_iconst dX6_asItIs_49 rfl) <| fcs (zs_callv cls5 (by decide) (ct_X6_move hG l) mi_X6_move wv_X6_move we_X6_move (by decide) wm_X6_158 dX6_asItIs_50) <| fcs (zs_vret dX6_asItIs_53) <| fnl
theorem asi_b {X : Kx} {post : Option AV → SS → Prop} (hX : Closed pr_X6_asItIs post X) {σ : SS} {x : Int32} {b : Bool} (hx : x = bz b) (hI : MI σ) (h : post none (m_asi σ b)) : X 2 [(2, .inl (nI 1)), (0, ar 6 0), (1, .inl x)] [] σ := by
  have h7 := hI.2.1
  have h0I : ∀ k, (upf (as1 b) σ k).2.2 = σ.2.2 := fun k => upf_I (f := as1 b) (fun _ _ => rfl) _ _
  have loop : ∀ (m k : Nat) (i : Int32), k + m = mn σ → i = nI (k + 1) → X 2 [(2, .inl i), (0, ar 6 0), (1, .inl x)] [] (upf (as1 b) σ k) := by
    intro m
    induction m with
    | zero =>
      intro k i hk hi
      subst hi
      have hI' := MI_of (h0I k) hI
      have hn := mn_of (h0I k)
      refine go hX [2] 60 ?_
      refine ⟨fun g1 => ?_, fun g1 => absurd (mlp_t hI' (by omega) (by omega)) g1⟩
      have e : k = mn σ := by omega
      subst e
      refine ⟨hI', Or.inr rfl, ?_⟩
      exact h
    | succ m ih =>
      intro k i hk hi
      subst hi
      have hI' := MI_of (h0I k) hI
      have hn := mn_of (h0I k)
      have ih2 := ih (k + 1) _ (by omega) (nI_add (k + 1) 1)
      refine go hX [2] 60 ?_
      refine ⟨fun g1 => absurd g1 (mlp_f hI' (by omega)), fun g1 => ?_⟩
      refine ⟨⟨nle rfl, nle rfl⟩, k + 1, rfl, by show k + 1 < 8; omega, ?_⟩
      refine ⟨⟨nle rfl, nle rfl⟩, k + 1, _, rfl, by show k + 1 < 8; omega, rfl, ?_⟩
      cases b with
      | false =>
        refine ⟨fun g => ?_, fun g => absurd hx g⟩
        refine ⟨⟨nle rfl, nle rfl⟩, k + 1, 0, rfl, by show k + 1 < 8; omega, rfl, ?_⟩
        exact ih2
      | true =>
        refine ⟨fun g => absurd (hx.symm.trans g) (by decide), fun g => ?_⟩
        refine ⟨⟨nle rfl, nle rfl⟩, k + 1, rfl, by show k + 1 < 8; omega, ?_⟩
        refine ⟨⟨nle rfl, nle rfl⟩, k + 1, _, rfl, by show k + 1 < 8; omega, rfl, ?_⟩
        exact ih2
  exact loop (mn σ) 0 _ (by omega) rfl
set_option maxRecDepth 100000 in
set_option maxHeartbeats 4000000 in
theorem ct_X6_asItIs {G : Geo} (hG : GeoOK G) (l : Launch) : Ct G l yX6_asItIs cX6_asItIs 3 none 6 sp_X6_asItIs := by
  refine Ct.of pr_X6_asItIs hG (by decide +kernel) (sn_X6_asItIs hG l) ?_
  intro av σ post hok h
  unfold sp_X6_asItIs at h
  split at h
  · rename_i b x
    obtain ⟨hb, hI, hx, h9⟩ := bif_t h
    clear h
    obtain rfl := is6_t hb
    refine ⟨Nat.le_of_ble_eq_true rfl, fun X hX => ?_⟩
    refine go hX [2] 60 ?_
    rcases hx with rfl | rfl
    · exact asi_b hX (b := false) rfl hI h9
    · exact asi_b hX (b := true) rfl hI h9
  · exact h.elim
def al1 (i : Nat) (s : SS) (k : Nat) : SS := sL (sL s 25 0 k 0) 26 0 k (if k = i then 1 else 0)
noncomputable def m_alo (σ : SS) (i : Nat) : SS := m_mov (upf (al1 i) σ (mn σ)) false
theorem m_alo_I (σ : SS) (i : Nat) : (m_alo σ i).2.2 = σ.2.2 := (m_mov_I _ _).trans (upf_I (f := al1 i) (fun _ _ => rfl) _ _)
noncomputable def sp_X6_alone : Spc := fun av σ post => match av with
  | [.inr (.inr b), .inl x] => bif is6 b then (MI σ ∧ ∃ i, x = nI i ∧ i < 8 ∧ post none (m_alo σ i)) else False
  | _ => False
theorem dX6_alone_0 : decode cX6_alone 0 = .ok (.iconst 1, 1) := by decide +kernel
theorem dX6_alone_1 : decode cX6_alone 1 = .ok (.istore_n 2, 1) := by decide +kernel
theorem dX6_alone_2 : decode cX6_alone 2 = .ok (.iload_n 2, 1) := by decide +kernel
theorem dX6_alone_3 : decode cX6_alone 3 = .ok (.aload_n 0, 1) := by decide +kernel
theorem dX6_alone_4 : decode cX6_alone 4 = .ok (.getfield 114, 3) := by decide +kernel
theorem dX6_alone_7 : decode cX6_alone 7 = .ok (.if_icmp .gt 32, 3) := by decide +kernel
theorem dX6_alone_10 : decode cX6_alone 10 = .ok (.aload_n 0, 1) := by decide +kernel
theorem dX6_alone_11 : decode cX6_alone 11 = .ok (.getfield 33, 3) := by decide +kernel
theorem dX6_alone_14 : decode cX6_alone 14 = .ok (.iload_n 2, 1) := by decide +kernel
theorem dX6_alone_15 : decode cX6_alone 15 = .ok (.lconst 0, 1) := by decide +kernel
theorem dX6_alone_16 : decode cX6_alone 16 = .ok (.lastore, 1) := by decide +kernel
theorem dX6_alone_17 : decode cX6_alone 17 = .ok (.aload_n 0, 1) := by decide +kernel
theorem dX6_alone_18 : decode cX6_alone 18 = .ok (.getfield 36, 3) := by decide +kernel
theorem dX6_alone_21 : decode cX6_alone 21 = .ok (.iload_n 2, 1) := by decide +kernel
theorem dX6_alone_22 : decode cX6_alone 22 = .ok (.iload_n 2, 1) := by decide +kernel
theorem dX6_alone_23 : decode cX6_alone 23 = .ok (.iload_n 1, 1) := by decide +kernel
theorem dX6_alone_24 : decode cX6_alone 24 = .ok (.if_icmp .ne 7, 3) := by decide +kernel
theorem dX6_alone_27 : decode cX6_alone 27 = .ok (.lconst 1, 1) := by decide +kernel
theorem dX6_alone_28 : decode cX6_alone 28 = .ok (.goto 4, 3) := by decide +kernel
theorem dX6_alone_31 : decode cX6_alone 31 = .ok (.lconst 0, 1) := by decide +kernel
theorem dX6_alone_32 : decode cX6_alone 32 = .ok (.lastore, 1) := by decide +kernel
theorem dX6_alone_33 : decode cX6_alone 33 = .ok (.iinc 2 1, 3) := by decide +kernel
theorem dX6_alone_36 : decode cX6_alone 36 = .ok (.goto (-34), 3) := by decide +kernel
theorem dX6_alone_39 : decode cX6_alone 39 = .ok (.aload_n 0, 1) := by decide +kernel
theorem dX6_alone_40 : decode cX6_alone 40 = .ok (.iconst 0, 1) := by decide +kernel
theorem dX6_alone_41 : decode cX6_alone 41 = .ok (.invokevirtual 158, 3) := by decide +kernel
theorem dX6_alone_44 : decode cX6_alone 44 = .ok (.return_, 1) := by decide +kernel
noncomputable def pr_X6_alone : Prg := [(0, z_ic (nI 1) 1), (1, z_istore 2 1), (2, z_iload 2 1), (3, z_aload 0 1), (4, z_get 5 1), (7, z_if2 (fun x y => y < x) 39), (10, z_aload 0 1), (11, z_get 5 9), (14, z_iload 2 1), (15, z_lc (.inr 0) 1), (16, z_lastore), (17, z_aload 0 1), (18, z_get 5 10), (21, z_iload 2 1), (22, z_iload 2 1), (23, z_iload 1 1), (24, z_nf2 31), (27, z_lc (.inr 1) 1), (28, z_goto 32), (31, z_lc (.inr 0) 1), (32, z_lastore), (33, z_iinc 2 (nI 1)), (36, z_goto 2), (39, z_aload 0 1), (40, z_ic (nI 0) 1), (41, z_callv 1 5 sp_X6_move), (44, z_vret)]
set_option maxRecDepth 100000 in
set_option maxHeartbeats 4000000 in
theorem sn_X6_alone {G : Geo} (hG : GeoOK G) (l : Launch) : ∀ q ∈ pr_X6_alone, Sn G l yX6_alone.cls cX6_alone 3 6 none q.1 q.2 :=
  fcs (zs_iconst dX6_alone_0 rfl) <| fcs (zs_istore_n dX6_alone_1 rfl (by decide)) <| fcs (zs_iload_n dX6_alone_2 rfl) <| fcs (zs_aload_n dX6_alone_3 rfl) <| fcs (zs_get cls5 (by decide) (by decide) wf_X6_114 dX6_alone_4) <| fcs (zs_icmp_gt dX6_alone_7 rfl) <| fcs (zs_aload_n dX6_alone_10 rfl) <| fcs (zs_get cls5 (by decide) (by decide) wf_X6_33 dX6_alone_11) <| fcs (zs_iload_n dX6_alone_14 rfl) <| fcs (zs_lconst dX6_alone_15 rfl) <| fcs (zs_lastore dX6_alone_16) <| fcs (zs_aload_n dX6_alone_17 rfl) <| fcs (zs_get cls5 (by decide) (by decide) wf_X6_36 dX6_alone_18) <| fcs (zs_iload_n dX6_alone_21 rfl) <| fcs (zs_iload_n dX6_alone_22 rfl) <| fcs (zs_iload_n dX6_alone_23 rfl) <| fcs (zs_icmp_ne dX6_alone_24 rfl) <| fcs (zs_lconst dX6_alone_27 rfl) <| fcs (zs_goto dX6_alone_28 rfl) <| fcs (zs_lconst dX6_alone_31 rfl) <| fcs (zs_lastore dX6_alone_32) <| fcs (zs_iinc dX6_alone_33 rfl (by decide)) <| fcs (zs_goto dX6_alone_36 rfl) <| fcs (zs_aload_n dX6_alone_39 rfl) <| fcs (zs_iconst dX6_alone_40 rfl) <| fcs (zs_callv cls5 (by decide) (ct_X6_move hG l) mi_X6_move wv_X6_move we_X6_move (by decide) wm_X6_158 dX6_alone_41) <| fcs (zs_vret dX6_alone_44) <| fnl
set_option maxRecDepth 100000 in
set_option maxHeartbeats 4000000 in
theorem ct_X6_alone {G : Geo} (hG : GeoOK G) (l : Launch) : Ct G l yX6_alone cX6_alone 3 none 6 sp_X6_alone := by
  refine Ct.of pr_X6_alone hG (by decide +kernel) (sn_X6_alone hG l) ?_
  intro av σ post hok h
  unfold sp_X6_alone at h
  split at h
  · rename_i b x
    obtain ⟨hb, hI, c, rfl, hc, h9⟩ := bif_t h
    clear h
    obtain rfl := is6_t hb
    refine ⟨Nat.le_of_ble_eq_true rfl, fun X hX => ?_⟩
    have h7 := hI.2.1
    have h0I : ∀ k, (upf (al1 c) σ k).2.2 = σ.2.2 := fun k => upf_I (f := al1 c) (fun _ _ => rfl) _ _
    have loop : ∀ (m k : Nat) (i : Int32), k + m = mn σ → i = nI (k + 1) → X 2 [(2, .inl i), (0, ar 6 0), (1, .inl (nI c))] [] (upf (al1 c) σ k) := by
      intro m
      induction m with
      | zero =>
        intro k i hk hi
        subst hi
        have hI' := MI_of (h0I k) hI
        have hn := mn_of (h0I k)
        refine go hX [2] 60 ?_
        refine ⟨fun g1 => ?_, fun g1 => absurd (mlp_t hI' (by omega) (by omega)) g1⟩
        have e : k = mn σ := by omega
        subst e
        refine ⟨hI', Or.inl rfl, ?_⟩
        exact h9
      | succ m ih =>
        intro k i hk hi
        subst hi
        have hI' := MI_of (h0I k) hI
        have hn := mn_of (h0I k)
        have ih2 := ih (k + 1) _ (by omega) (nI_add (k + 1) 1)
        refine go hX [2] 60 ?_
        refine ⟨fun g1 => absurd g1 (mlp_f hI' (by omega)), fun g1 => ?_⟩
        refine ⟨⟨nle rfl, nle rfl⟩, k + 1, 0, rfl, by show k + 1 < 8; omega, rfl, ?_⟩
        have e9 : upf (al1 c) σ (k + 1) = sL (sL (upf (al1 c) σ k) 25 0 (k + 1) 0) 26 0 (k + 1) (if k + 1 = c then 1 else 0) := rfl
        rw [e9] at ih2
        refine ⟨fun g => ?_, fun g => ?_⟩
        · have g : ¬ nI (k + 1) = nI c := g
          rw [nI_eq (by omega) (by omega)] at g
          rw [if_neg g] at ih2
          refine ⟨⟨nle rfl, nle rfl⟩, k + 1, 0, rfl, by show k + 1 < 8; omega, rfl, ?_⟩
          exact ih2
        · have g : nI (k + 1) = nI c := g
          rw [nI_eq (by omega) (by omega)] at g
          rw [if_pos g] at ih2
          refine ⟨⟨nle rfl, nle rfl⟩, k + 1, 1, rfl, by show k + 1 < 8; omega, rfl, ?_⟩
          exact ih2
    refine go hX [2] 60 ?_
    exact loop (mn σ) 0 _ (by omega) rfl
  · exact h.elim
