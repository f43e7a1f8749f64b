/-! The reference: hangs, torqueOf -/
/-- from k up the parents, until not above j -/
def clb (σ : SS) (j : Nat) : Nat → Nat → Nat
  | 0, k => k
  | n + 1, k => if j < k then clb σ j n (mp σ k) else k
def hng (σ : SS) (i j : Nat) : Bool := Nat.beq (clb σ j i i) j
noncomputable def sp_X6_hangs : Spc := fun av σ post => match av with
  | [.inr (.inr b), .inl x, .inl y] => bif is6 b then (MI σ ∧ ∃ i j, (x = nI i ∧ y = nI j) ∧ (i ≤ mn σ ∧ j ≤ mn σ) ∧ post (some (ai (bz (hng σ i j)))) σ) else False
  | _ => False
theorem dX6_hangs_0 : decode cX6_hangs 0 = .ok (.iload_n 1, 1) := by decide +kernel
theorem dX6_hangs_1 : decode cX6_hangs 1 = .ok (.istore_n 3, 1) := by decide +kernel
theorem dX6_hangs_2 : decode cX6_hangs 2 = .ok (.iload_n 3, 1) := by decide +kernel
theorem dX6_hangs_3 : decode cX6_hangs 3 = .ok (.iload_n 2, 1) := by decide +kernel
theorem dX6_hangs_4 : decode cX6_hangs 4 = .ok (.if_icmp .le 13, 3) := by decide +kernel
theorem dX6_hangs_7 : decode cX6_hangs 7 = .ok (.aload_n 0, 1) := by decide +kernel
theorem dX6_hangs_8 : decode cX6_hangs 8 = .ok (.getfield 7, 3) := by decide +kernel
theorem dX6_hangs_11 : decode cX6_hangs 11 = .ok (.iload_n 3, 1) := by decide +kernel
theorem dX6_hangs_12 : decode cX6_hangs 12 = .ok (.iaload, 1) := by decide +kernel
theorem dX6_hangs_13 : decode cX6_hangs 13 = .ok (.istore_n 3, 1) := by decide +kernel
theorem dX6_hangs_14 : decode cX6_hangs 14 = .ok (.goto (-12), 3) := by decide +kernel
theorem dX6_hangs_17 : decode cX6_hangs 17 = .ok (.iload_n 3, 1) := by decide +kernel
theorem dX6_hangs_18 : decode cX6_hangs 18 = .ok (.iload_n 2, 1) := by decide +kernel
theorem dX6_hangs_19 : decode cX6_hangs 19 = .ok (.if_icmp .ne 7, 3) := by decide +kernel
theorem dX6_hangs_22 : decode cX6_hangs 22 = .ok (.iconst 1, 1) := by decide +kernel
theorem dX6_hangs_23 : decode cX6_hangs 23 = .ok (.goto 4, 3) := by decide +kernel
theorem dX6_hangs_26 : decode cX6_hangs 26 = .ok (.iconst 0, 1) := by decide +kernel
theorem dX6_hangs_27 : decode cX6_hangs 27 = .ok (.ireturn, 1) := by decide +kernel
noncomputable def pr_X6_hangs : Prg := [(0, z_iload 1 1), (1, z_istore 3 1), (2, z_iload 3 1), (3, z_iload 2 1), (4, z_if2 (fun x y => x ≤ y) 17), (7, z_aload 0 1), (8, z_get 5 2), (11, z_iload 3 1), (12, z_iaload), (13, z_istore 3 1), (14, z_goto 2), (17, z_iload 3 1), (18, z_iload 2 1), (19, z_nf2 26), (22, z_ic (nI 1) 1), (23, z_goto 27), (26, z_ic (nI 0) 1), (27, z_zret)]
set_option maxRecDepth 100000 in
set_option maxHeartbeats 4000000 in
theorem sn_X6_hangs {G : Geo} (hG : GeoOK G) (l : Launch) : ∀ q ∈ pr_X6_hangs, Sn G l yX6_hangs.cls cX6_hangs 4 0 (some .boolean) q.1 q.2 :=
  fcs (zs_iload_n dX6_hangs_0 rfl) <| fcs (zs_istore_n dX6_hangs_1 rfl (by decide)) <| fcs (zs_iload_n dX6_hangs_2 rfl) <| fcs (zs_iload_n dX6_hangs_3 rfl) <| fcs (zs_icmp_le dX6_hangs_4 rfl) <| fcs (zs_aload_n dX6_hangs_7 rfl) <| fcs (zs_get cls5 (by decide) (by decide) wf_X6_7 dX6_hangs_8) <| fcs (zs_iload_n dX6_hangs_11 rfl) <| fcs (zs_iaload dX6_hangs_12) <| fcs (zs_istore_n dX6_hangs_13 rfl (by decide)) <| fcs (zs_goto dX6_hangs_14 rfl) <| fcs (zs_iload_n dX6_hangs_17 rfl) <| fcs (zs_iload_n dX6_hangs_18 rfl) <| fcs (zs_icmp_ne dX6_hangs_19 rfl) <| fcs (zs_iconst dX6_hangs_22 rfl) <| fcs (zs_goto dX6_hangs_23 rfl) <| fcs (zs_iconst dX6_hangs_26 rfl) <| fcs (zs_zret dX6_hangs_27) <| fnl
set_option maxRecDepth 100000 in
set_option maxHeartbeats 4000000 in
theorem ct_X6_hangs {G : Geo} (hG : GeoOK G) (l : Launch) : Ct G l yX6_hangs cX6_hangs 4 (some .boolean) 0 sp_X6_hangs := by
  refine Ct.of pr_X6_hangs hG (by decide +kernel) (sn_X6_hangs hG l) ?_
  intro av σ post hok h
  unfold sp_X6_hangs at h
  split at h
  · rename_i b x y
    obtain ⟨hb, hI, i, j, ⟨rfl, rfl⟩, ⟨hi, hj⟩, h9⟩ := bif_t h
    clear h
    obtain rfl := is6_t hb
    refine ⟨Nat.le_of_ble_eq_true rfl, fun X hX => ?_⟩
    have h7 := hI.2.1
    have fin : ∀ k, k ≤ 7 → post (some (ai (bz (Nat.beq k j)))) σ → X 17 [(3, .inl (nI k)), (0, ar 6 0), (1, .inl (nI i)), (2, .inl (nI j))] [] σ := by
      intro k hk hp
      refine go hX [2] 60 ?_
      refine ⟨fun g => ?_, fun g => ?_⟩
      · have g : ¬ nI k = nI j := g
        rw [nI_eq (by omega) (by omega)] at g
        have e : Nat.beq k j = false := by
          cases hq : Nat.beq k j with
          | false => rfl
          | true => exact absurd (Nat.eq_of_beq_eq_true hq) g
        rw [e] at hp
        exact ⟨Or.inl rfl, hp⟩
      · have g : nI k = nI j := g
        rw [nI_eq (by omega) (by omega)] at g
        rw [g, Nat.beq_refl] at hp
        exact ⟨Or.inr rfl, hp⟩
    have loop : ∀ (n k : Nat), k ≤ n → k ≤ mn σ → post (some (ai (bz (Nat.beq (clb σ j n k) j)))) σ → X 2 [(3, .inl (nI k)), (0, ar 6 0), (1, .inl (nI i)), (2, .inl (nI j))] [] σ := by
      intro n
      induction n with
      | zero =>
        intro k hk hk2 hp
        have e : k = 0 := by omega
        subst e
        refine go hX [2, 17] 60 ?_
        refine ⟨fun g => ?_, fun g => absurd ((nI_leI (by decide) (by omega)).mpr (by omega)) g⟩
        exact fin 0 (by omega) hp
      | succ n ih =>
        intro k hk hk2 hp
        unfold clb at hp
        by_cases hjk : j < k
        · rw [if_pos hjk] at hp
          obtain ⟨hp1, hp2⟩ := hI.2.2 k (by omega) hk2
          refine go hX [2, 17] 60 ?_
          refine ⟨fun g => absurd ((nI_leI (by omega) (by omega)).mp g) (by omega), fun g => ?_⟩
          refine ⟨rfl, k, rfl, by omega, ?_⟩
          rw [hp1]
          exact ih (mp σ k) (by omega) (by omega) hp
        · rw [if_neg hjk] at hp
          refine go hX [2, 17] 60 ?_
          refine ⟨fun g => ?_, fun g => absurd ((nI_leI (by omega) (by omega)).mpr (by omega)) g⟩
          exact fin k (by omega) hp
    refine go hX [2, 17] 60 ?_
    exact loop i i (Nat.le_refl _) hi h9
  · exact h.elim
def mO (σ : SS) (i : Nat) : V3 := g3 σ (28, 0) (3 * i)
def mU (σ : SS) (i : Nat) : V3 := g3 σ (29, 0) (3 * i)
def mA (σ : SS) (i : Nat) : V3 := g3 σ (33, 0) (3 * i)
def mF (σ : SS) (i : Nat) : V3 := g3 σ (34, 0) (3 * i)
def mN (σ : SS) (i : Nat) : V3 := g3 σ (35, 0) (3 * i)
/-- what body i asks of joint j -/
def tqc (σ : SS) (j i : Nat) : ZF := if σ.2.2 8 j = 0 then v_dot (mU σ j) (v_adt (v_crs (v_sub (v_add (mO σ i) (mA σ i)) (mO σ j)) (mF σ i)) (mN σ i) 1) else v_dot (mU σ j) (mF σ i)
def tsum (σ : SS) (j : Nat) : Nat → ZF
  | 0 => 0
  | m + 1 => tsum σ j m + (bif hng σ (j + m) j then tqc σ j (j + m) else 0)
def tq (σ : SS) (j : Nat) : ZF := tsum σ j (mn σ + 1 - j)
/-- the same but for the scratch vector x -/
def s36 (σ s : SS) : Prop := s.1 = σ.1 ∧ s.2.2 = σ.2.2 ∧ ∀ a b j, a ≠ 36 → s.2.1 a b j = σ.2.1 a b j
theorem s36_rf (σ : SS) : s36 σ σ := ⟨rfl, rfl, fun _ _ _ _ => rfl⟩
theorem s36_fl {σ s : SS} (h : s36 σ s) (b n : Nat) (f : Nat → ZF) : s36 σ (fl s (36, 0) b n f) := ⟨h.1, h.2.1, fun a b' j ha => (fl_n _ _ _ _ _ _ _ ha).trans (h.2.2 a b' j ha)⟩
theorem s36_g {σ s : SS} (h : s36 σ s) {q : Nat × Nat} (b : Nat) (hq : q.1 ≠ 36) : g3 s q b = g3 σ q b := by
  unfold g3
  rw [h.2.2 _ _ _ hq, h.2.2 _ _ _ hq, h.2.2 _ _ _ hq]
noncomputable def sp_X6_torqueOf : Spc := fun av σ post => match av with
  | [.inr (.inr b), .inl x] => bif is6 b then (MI σ ∧ ∃ j, x = nI j ∧ (1 ≤ j ∧ j ≤ mn σ) ∧ ∀ s, s36 σ s → post (some (af (tq σ j))) s) else False
  | _ => False
theorem dX6_torqueOf_0 : decode cX6_torqueOf 0 = .ok (.lconst 0, 1) := by decide +kernel
theorem dX6_torqueOf_1 : decode cX6_torqueOf 1 = .ok (.lstore_n 2, 1) := by decide +kernel
theorem dX6_torqueOf_2 : decode cX6_torqueOf 2 = .ok (.iload_n 1, 1) := by decide +kernel
theorem dX6_torqueOf_3 : decode cX6_torqueOf 3 = .ok (.istore 4, 2) := by decide +kernel
theorem dX6_torqueOf_5 : decode cX6_torqueOf 5 = .ok (.iload 4, 2) := by decide +kernel
theorem dX6_torqueOf_7 : decode cX6_torqueOf 7 = .ok (.aload_n 0, 1) := by decide +kernel
theorem dX6_torqueOf_8 : decode cX6_torqueOf 8 = .ok (.getfield 114, 3) := by decide +kernel
theorem dX6_torqueOf_11 : decode cX6_torqueOf 11 = .ok (.if_icmp .gt 173, 3) := by decide +kernel
theorem dX6_torqueOf_14 : decode cX6_torqueOf 14 = .ok (.aload_n 0, 1) := by decide +kernel
theorem dX6_torqueOf_15 : decode cX6_torqueOf 15 = .ok (.iload 4, 2) := by decide +kernel
theorem dX6_torqueOf_17 : decode cX6_torqueOf 17 = .ok (.iload_n 1, 1) := by decide +kernel
theorem dX6_torqueOf_18 : decode cX6_torqueOf 18 = .ok (.invokevirtual 154, 3) := by decide +kernel
theorem dX6_torqueOf_21 : decode cX6_torqueOf 21 = .ok (.ifCond .ne 6, 3) := by decide +kernel
theorem dX6_torqueOf_24 : decode cX6_torqueOf 24 = .ok (.goto 154, 3) := by decide +kernel
theorem dX6_torqueOf_27 : decode cX6_torqueOf 27 = .ok (.aload_n 0, 1) := by decide +kernel
theorem dX6_torqueOf_28 : decode cX6_torqueOf 28 = .ok (.getfield 13, 3) := by decide +kernel
theorem dX6_torqueOf_31 : decode cX6_torqueOf 31 = .ok (.iload_n 1, 1) := by decide +kernel
theorem dX6_torqueOf_32 : decode cX6_torqueOf 32 = .ok (.baload, 1) := by decide +kernel
theorem dX6_torqueOf_33 : decode cX6_torqueOf 33 = .ok (.ifCond .eq 27, 3) := by decide +kernel
theorem dX6_torqueOf_36 : decode cX6_torqueOf 36 = .ok (.lload_n 2, 1) := by decide +kernel
theorem dX6_torqueOf_37 : decode cX6_torqueOf 37 = .ok (.aload_n 0, 1) := by decide +kernel
theorem dX6_torqueOf_38 : decode cX6_torqueOf 38 = .ok (.getfield 45, 3) := by decide +kernel
theorem dX6_torqueOf_41 : decode cX6_torqueOf 41 = .ok (.iconst 3, 1) := by decide +kernel
theorem dX6_torqueOf_42 : decode cX6_torqueOf 42 = .ok (.iload_n 1, 1) := by decide +kernel
theorem dX6_torqueOf_43 : decode cX6_torqueOf 43 = .ok (.imul, 1) := by decide +kernel
theorem dX6_torqueOf_44 : decode cX6_torqueOf 44 = .ok (.aload_n 0, 1) := by decide +kernel
theorem dX6_torqueOf_45 : decode cX6_torqueOf 45 = .ok (.getfield 60, 3) := by decide +kernel
theorem dX6_torqueOf_48 : decode cX6_torqueOf 48 = .ok (.iconst 3, 1) := by decide +kernel
theorem dX6_torqueOf_49 : decode cX6_torqueOf 49 = .ok (.iload 4, 2) := by decide +kernel
theorem dX6_torqueOf_51 : decode cX6_torqueOf 51 = .ok (.imul, 1) := by decide +kernel
theorem dX6_torqueOf_52 : decode cX6_torqueOf 52 = .ok (.invokestatic 104, 3) := by decide +kernel
theorem dX6_torqueOf_55 : decode cX6_torqueOf 55 = .ok (.ladd, 1) := by decide +kernel
theorem dX6_torqueOf_56 : decode cX6_torqueOf 56 = .ok (.lstore_n 2, 1) := by decide +kernel
theorem dX6_torqueOf_57 : decode cX6_torqueOf 57 = .ok (.goto 121, 3) := by decide +kernel
theorem dX6_torqueOf_60 : decode cX6_torqueOf 60 = .ok (.iconst 0, 1) := by decide +kernel
theorem dX6_torqueOf_61 : decode cX6_torqueOf 61 = .ok (.istore 5, 2) := by decide +kernel
theorem dX6_torqueOf_63 : decode cX6_torqueOf 63 = .ok (.iload 5, 2) := by decide +kernel
theorem dX6_torqueOf_65 : decode cX6_torqueOf 65 = .ok (.iconst 3, 1) := by decide +kernel
theorem dX6_torqueOf_66 : decode cX6_torqueOf 66 = .ok (.if_icmp .ge 56, 3) := by decide +kernel
theorem dX6_torqueOf_69 : decode cX6_torqueOf 69 = .ok (.aload_n 0, 1) := by decide +kernel
theorem dX6_torqueOf_70 : decode cX6_torqueOf 70 = .ok (.getfield 66, 3) := by decide +kernel
theorem dX6_torqueOf_73 : decode cX6_torqueOf 73 = .ok (.iload 5, 2) := by decide +kernel
theorem dX6_torqueOf_75 : decode cX6_torqueOf 75 = .ok (.aload_n 0, 1) := by decide +kernel
theorem dX6_torqueOf_76 : decode cX6_torqueOf 76 = .ok (.getfield 42, 3) := by decide +kernel
theorem dX6_torqueOf_79 : decode cX6_torqueOf 79 = .ok (.iconst 3, 1) := by decide +kernel
theorem dX6_torqueOf_80 : decode cX6_torqueOf 80 = .ok (.iload 4, 2) := by decide +kernel
theorem dX6_torqueOf_82 : decode cX6_torqueOf 82 = .ok (.imul, 1) := by decide +kernel
theorem dX6_torqueOf_83 : decode cX6_torqueOf 83 = .ok (.iload 5, 2) := by decide +kernel
theorem dX6_torqueOf_85 : decode cX6_torqueOf 85 = .ok (.iadd, 1) := by decide +kernel
theorem dX6_torqueOf_86 : decode cX6_torqueOf 86 = .ok (.laload, 1) := by decide +kernel
theorem dX6_torqueOf_87 : decode cX6_torqueOf 87 = .ok (.aload_n 0, 1) := by decide +kernel
theorem dX6_torqueOf_88 : decode cX6_torqueOf 88 = .ok (.getfield 57, 3) := by decide +kernel
theorem dX6_torqueOf_91 : decode cX6_torqueOf 91 = .ok (.iconst 3, 1) := by decide +kernel
theorem dX6_torqueOf_92 : decode cX6_torqueOf 92 = .ok (.iload 4, 2) := by decide +kernel
theorem dX6_torqueOf_94 : decode cX6_torqueOf 94 = .ok (.imul, 1) := by decide +kernel
theorem dX6_torqueOf_95 : decode cX6_torqueOf 95 = .ok (.iload 5, 2) := by decide +kernel
theorem dX6_torqueOf_97 : decode cX6_torqueOf 97 = .ok (.iadd, 1) := by decide +kernel
theorem dX6_torqueOf_98 : decode cX6_torqueOf 98 = .ok (.laload, 1) := by decide +kernel
theorem dX6_torqueOf_99 : decode cX6_torqueOf 99 = .ok (.ladd, 1) := by decide +kernel
theorem dX6_torqueOf_100 : decode cX6_torqueOf 100 = .ok (.aload_n 0, 1) := by decide +kernel
theorem dX6_torqueOf_101 : decode cX6_torqueOf 101 = .ok (.getfield 42, 3) := by decide +kernel
theorem dX6_torqueOf_104 : decode cX6_torqueOf 104 = .ok (.iconst 3, 1) := by decide +kernel
theorem dX6_torqueOf_105 : decode cX6_torqueOf 105 = .ok (.iload_n 1, 1) := by decide +kernel
theorem dX6_torqueOf_106 : decode cX6_torqueOf 106 = .ok (.imul, 1) := by decide +kernel
theorem dX6_torqueOf_107 : decode cX6_torqueOf 107 = .ok (.iload 5, 2) := by decide +kernel
theorem dX6_torqueOf_109 : decode cX6_torqueOf 109 = .ok (.iadd, 1) := by decide +kernel
theorem dX6_torqueOf_110 : decode cX6_torqueOf 110 = .ok (.laload, 1) := by decide +kernel
theorem dX6_torqueOf_111 : decode cX6_torqueOf 111 = .ok (.lsub, 1) := by decide +kernel
theorem dX6_torqueOf_112 : decode cX6_torqueOf 112 = .ok (.invokestatic 97, 3) := by decide +kernel
theorem dX6_torqueOf_115 : decode cX6_torqueOf 115 = .ok (.lastore, 1) := by decide +kernel
theorem dX6_torqueOf_116 : decode cX6_torqueOf 116 = .ok (.iinc 5 1, 3) := by decide +kernel
theorem dX6_torqueOf_119 : decode cX6_torqueOf 119 = .ok (.goto (-56), 3) := by decide +kernel
theorem dX6_torqueOf_122 : decode cX6_torqueOf 122 = .ok (.aload_n 0, 1) := by decide +kernel
theorem dX6_torqueOf_123 : decode cX6_torqueOf 123 = .ok (.getfield 66, 3) := by decide +kernel
theorem dX6_torqueOf_126 : decode cX6_torqueOf 126 = .ok (.iconst 0, 1) := by decide +kernel
theorem dX6_torqueOf_127 : decode cX6_torqueOf 127 = .ok (.aload_n 0, 1) := by decide +kernel
theorem dX6_torqueOf_128 : decode cX6_torqueOf 128 = .ok (.getfield 66, 3) := by decide +kernel
theorem dX6_torqueOf_131 : decode cX6_torqueOf 131 = .ok (.iconst 0, 1) := by decide +kernel
theorem dX6_torqueOf_132 : decode cX6_torqueOf 132 = .ok (.aload_n 0, 1) := by decide +kernel
theorem dX6_torqueOf_133 : decode cX6_torqueOf 133 = .ok (.getfield 60, 3) := by decide +kernel
theorem dX6_torqueOf_136 : decode cX6_torqueOf 136 = .ok (.iconst 3, 1) := by decide +kernel
theorem dX6_torqueOf_137 : decode cX6_torqueOf 137 = .ok (.iload 4, 2) := by decide +kernel
theorem dX6_torqueOf_139 : decode cX6_torqueOf 139 = .ok (.imul, 1) := by decide +kernel
theorem dX6_torqueOf_140 : decode cX6_torqueOf 140 = .ok (.invokestatic 136, 3) := by decide +kernel
theorem dX6_torqueOf_143 : decode cX6_torqueOf 143 = .ok (.aload_n 0, 1) := by decide +kernel
theorem dX6_torqueOf_144 : decode cX6_torqueOf 144 = .ok (.getfield 66, 3) := by decide +kernel
theorem dX6_torqueOf_147 : decode cX6_torqueOf 147 = .ok (.iconst 0, 1) := by decide +kernel
theorem dX6_torqueOf_148 : decode cX6_torqueOf 148 = .ok (.aload_n 0, 1) := by decide +kernel
theorem dX6_torqueOf_149 : decode cX6_torqueOf 149 = .ok (.getfield 63, 3) := by decide +kernel
theorem dX6_torqueOf_152 : decode cX6_torqueOf 152 = .ok (.iconst 3, 1) := by decide +kernel
theorem dX6_torqueOf_153 : decode cX6_torqueOf 153 = .ok (.iload 4, 2) := by decide +kernel
theorem dX6_torqueOf_155 : decode cX6_torqueOf 155 = .ok (.imul, 1) := by decide +kernel
theorem dX6_torqueOf_156 : decode cX6_torqueOf 156 = .ok (.lconst 1, 1) := by decide +kernel
theorem dX6_torqueOf_157 : decode cX6_torqueOf 157 = .ok (.invokestatic 132, 3) := by decide +kernel
theorem dX6_torqueOf_160 : decode cX6_torqueOf 160 = .ok (.lload_n 2, 1) := by decide +kernel
theorem dX6_torqueOf_161 : decode cX6_torqueOf 161 = .ok (.aload_n 0, 1) := by decide +kernel
theorem dX6_torqueOf_162 : decode cX6_torqueOf 162 = .ok (.getfield 45, 3) := by decide +kernel
theorem dX6_torqueOf_165 : decode cX6_torqueOf 165 = .ok (.iconst 3, 1) := by decide +kernel
theorem dX6_torqueOf_166 : decode cX6_torqueOf 166 = .ok (.iload_n 1, 1) := by decide +kernel
theorem dX6_torqueOf_167 : decode cX6_torqueOf 167 = .ok (.imul, 1) := by decide +kernel
theorem dX6_torqueOf_168 : decode cX6_torqueOf 168 = .ok (.aload_n 0, 1) := by decide +kernel
theorem dX6_torqueOf_169 : decode cX6_torqueOf 169 = .ok (.getfield 66, 3) := by decide +kernel
theorem dX6_torqueOf_172 : decode cX6_torqueOf 172 = .ok (.iconst 0, 1) := by decide +kernel
theorem dX6_torqueOf_173 : decode cX6_torqueOf 173 = .ok (.invokestatic 104, 3) := by decide +kernel
theorem dX6_torqueOf_176 : decode cX6_torqueOf 176 = .ok (.ladd, 1) := by decide +kernel
theorem dX6_torqueOf_177 : decode cX6_torqueOf 177 = .ok (.lstore_n 2, 1) := by decide +kernel
theorem dX6_torqueOf_178 : decode cX6_torqueOf 178 = .ok (.iinc 4 1, 3) := by decide +kernel
theorem dX6_torqueOf_181 : decode cX6_torqueOf 181 = .ok (.goto (-176), 3) := by decide +kernel
theorem dX6_torqueOf_184 : decode cX6_torqueOf 184 = .ok (.lload_n 2, 1) := by decide +kernel
theorem dX6_torqueOf_185 : decode cX6_torqueOf 185 = .ok (.ldc2_w 91, 3) := by decide +kernel
theorem dX6_torqueOf_188 : decode cX6_torqueOf 188 = .ok (.lrem, 1) := by decide +kernel
theorem dX6_torqueOf_189 : decode cX6_torqueOf 189 = .ok (.lreturn, 1) := by decide +kernel
theorem wc_X6_hangs : Cond.code yX6_hangs cX6_hangs 4 (some .boolean) ∈ ltb := List.mem_filter.mpr ⟨List.mem_append_right _ (List.mem_of_getElem? (i := 674) (by decide +kernel)), by decide +kernel⟩
theorem mi_X6_hangs : Mi yX6_hangs RX6 2 cX6_hangs 4 (some .boolean) := ⟨by decide +kernel, wc_X6_hangs, wi_X6, by decide⟩
theorem wv_X6_hangs : Cond.instanceMethod yX6_hangs ∈ ltb := List.mem_filter.mpr ⟨List.mem_append_right _ (List.mem_of_getElem? (i := 673) (by decide +kernel)), by decide +kernel⟩
theorem we_X6_hangs : Cond.selects RX6 yX6_hangs yX6_hangs ∈ ltb := List.mem_filter.mpr ⟨List.mem_append_left _ (List.mem_of_getElem? (i := 20) (by decide +kernel)), by decide +kernel⟩
theorem wm_X6_154 : Cond.methodLink RX6 154 yX6_hangs ∈ ltb := List.mem_filter.mpr ⟨List.mem_append_right _ (List.mem_of_getElem? (i := 671) (by decide +kernel)), by decide +kernel⟩
noncomputable def pr_X6_torqueOf : Prg := [(0, z_lc (.inr 0) 1), (1, z_lstore 2 1), (2, z_iload 1 1), (3, z_istore 4 2), (5, z_iload 4 2), (7, z_aload 0 1), (8, z_get 5 1), (11, z_if2 (fun x y => y < x) 184), (14, z_aload 0 1), (15, z_iload 4 2), (17, z_iload 1 1), (18, z_callv 2 5 sp_X6_hangs), (21, z_nf1 27), (24, z_goto 178), (27, z_aload 0 1), (28, z_get 5 3), (31, z_iload 1 1), (32, z_baload), (33, z_if1 (fun x => x = 0) 60), (36, z_lload 2 1), (37, z_aload 0 1), (38, z_get 5 13), (41, z_ic (nI 3) 1), (42, z_iload 1 1), (43, z_imul), (44, z_aload 0 1), (45, z_get 5 18), (48, z_ic (nI 3) 1), (49, z_iload 4 2), (51, z_imul), (52, z_call 4 sp_X6_dot), (55, z_ladd), (56, z_lstore 2 1), (57, z_goto 178), (60, z_ic (nI 0) 1), (61, z_istore 5 2), (63, z_iload 5 2), (65, z_ic (nI 3) 1), (66, z_if2 (fun x y => y ≤ x) 122), (69, z_aload 0 1), (70, z_get 5 20), (73, z_iload 5 2), (75, z_aload 0 1), (76, z_get 5 12), (79, z_ic (nI 3) 1), (80, z_iload 4 2), (82, z_imul), (83, z_iload 5 2), (85, z_iadd), (86, z_laload), (87, z_aload 0 1), (88, z_get 5 17), (91, z_ic (nI 3) 1), (92, z_iload 4 2), (94, z_imul), (95, z_iload 5 2), (97, z_iadd), (98, z_laload), (99, z_ladd), (100, z_aload 0 1), (101, z_get 5 12), (104, z_ic (nI 3) 1), (105, z_iload 1 1), (106, z_imul), (107, z_iload 5 2), (109, z_iadd), (110, z_laload), (111, z_lsub), (112, z_call 1 sp_X6_of), (115, z_lastore), (116, z_iinc 5 (nI 1)), (119, z_goto 63), (122, z_aload 0 1), (123, z_get 5 20), (126, z_ic (nI 0) 1), (127, z_aload 0 1), (128, z_get 5 20), (131, z_ic (nI 0) 1), (132, z_aload 0 1), (133, z_get 5 18), (136, z_ic (nI 3) 1), (137, z_iload 4 2), (139, z_imul), (140, z_call 6 sp_X6_cross), (143, z_aload 0 1), (144, z_get 5 20), (147, z_ic (nI 0) 1), (148, z_aload 0 1), (149, z_get 5 19), (152, z_ic (nI 3) 1), (153, z_iload 4 2), (155, z_imul), (156, z_lc (.inr 1) 1), (157, z_call 5 sp_X6_add), (160, z_lload 2 1), (161, z_aload 0 1), (162, z_get 5 13), (165, z_ic (nI 3) 1), (166, z_iload 1 1), (167, z_imul), (168, z_aload 0 1), (169, z_get 5 20), (172, z_ic (nI 0) 1), (173, z_call 4 sp_X6_dot), (176, z_ladd), (177, z_lstore 2 1), (178, z_iinc 4 (nI 1)), (181, z_goto 5), (184, z_lload 2 1), (185, z_lc (.inl 2147483647) 3), (188, z_lrem), (189, z_lret)]
set_option maxRecDepth 100000 in
set_option maxHeartbeats 4000000 in
theorem sn_X6_torqueOf {G : Geo} (hG : GeoOK G) (l : Launch) : ∀ q ∈ pr_X6_torqueOf, Sn G l yX6_torqueOf.cls cX6_torqueOf 6 2 (some .long) q.1 q.2 :=
  fcs (zs_lconst dX6_torqueOf_0 rfl) <| fcs (zs_lstore_n dX6_torqueOf_1 rfl (by decide)) <| fcs (zs_iload_n dX6_torqueOf_2 rfl) <| fcs (zs_istore dX6_torqueOf_3 (by decide)) <| fcs (zs_iload dX6_torqueOf_5) <| fcs (zs_aload_n dX6_torqueOf_7 rfl) <| fcs (zs_get cls5 (by decide) (by decide) wf_X6_114 dX6_torqueOf_8) <| fcs (zs_icmp_gt dX6_torqueOf_11 rfl) <| fcs (zs_aload_n dX6_torqueOf_14 rfl) <| fcs (zs_iload dX6_torqueOf_15) <| fcs (zs_iload_n dX6_torqueOf_17 rfl) <| fcs (zs_callv cls5 (by decide) (ct_X6_hangs hG l) mi_X6_hangs wv_X6_hangs we_X6_hangs (by decide) wm_X6_154 dX6_torqueOf_18) <| fcs (zs_if_ne dX6_torqueOf_21 rfl) <| fcs (zs_goto dX6_torqueOf_24 rfl) <| fcs (zs_aload_n dX6_torqueOf_27 rfl) <| fcs (zs_get cls5 (by decide) (by decide) wf_X6_13 dX6_torqueOf_28) <| fcs (zs_iload_n dX6_torqueOf_31 rfl) <| fcs (zs_baload dX6_torqueOf_32) <| fcs (zs_if_eq dX6_torqueOf_33 rfl) <| fcs (zs_lload_n dX6_torqueOf_36 rfl) <| fcs (zs_aload_n dX6_torqueOf_37 rfl) <| fcs (zs_get cls5 (by decide) (by decide) wf_X6_45 dX6_torqueOf_38) <| fcs (zs_iconst dX6_torqueOf_41 rfl) <| fcs (zs_iload_n dX6_torqueOf_42 rfl) <| fcs (zs_imul dX6_torqueOf_43) <| fcs (zs_aload_n dX6_torqueOf_44 rfl) <| fcs (zs_get cls5 (by decide) (by decide) wf_X6_60 dX6_torqueOf_45) <| fcs (zs_iconst dX6_torqueOf_48 rfl) <| fcs (zs_iload dX6_torqueOf_49) <| fcs (zs_imul dX6_torqueOf_51) <| fcs (zs_calls (ct_X6_dot hG l) mi_X6_dot ws_X6_dot (by decide) wm_X6_104 dX6_torqueOf_52) <| fcs (zs_ladd dX6_torqueOf_55) <| fcs (zs_lstore_n dX6_torqueOf_56 rfl (by decide)) <| fcs (zs_goto dX6_torqueOf_57 rfl) <| fcs (zs_iconst dX6_torqueOf_60 rfl) <| fcs (zs_istore dX6_torqueOf_61 (by decide)) <| fcs (zs_iload dX6_torqueOf_63) <| fcs (zs_iconst dX6_torqueOf_65 rfl) <| fcs (zs_icmp_ge dX6_torqueOf_66 rfl) <| fcs (zs_aload_n dX6_torqueOf_69 rfl) <| fcs (zs_get cls5 (by decide) (by decide) wf_X6_66 dX6_torqueOf_70) <| fcs (zs_iload dX6_torqueOf_73) <| fcs (zs_aload_n dX6_torqueOf_75 rfl) <| fcs (zs_get cls5 (by decide) (by decide) wf_X6_42 dX6_torqueOf_76) <| fcs (zs_iconst dX6_torqueOf_79 rfl) <| fcs (zs_iload dX6_torqueOf_80) <| fcs (zs_imul dX6_torqueOf_82) <| fcs (zs_iload dX6_torqueOf_83) <| fcs (zs_iadd dX6_torqueOf_85) <| fcs (zs_laload dX6_torqueOf_86) <| fcs (zs_aload_n dX6_torqueOf_87 rfl) <| fcs (zs_get cls5 (by decide) (by decide) wf_X6_57 dX6_torqueOf_88) <| fcs (zs_iconst dX6_torqueOf_91 rfl) <| fcs (zs_iload dX6_torqueOf_92) <| fcs (zs_imul dX6_torqueOf_94) <| fcs (zs_iload dX6_torqueOf_95) <| fcs (zs_iadd dX6_torqueOf_97) <| fcs (zs_laload dX6_torqueOf_98) <| fcs (zs_ladd dX6_torqueOf_99) <| fcs (zs_aload_n dX6_torqueOf_100 rfl) <| fcs (zs_get cls5 (by decide) (by decide) wf_X6_42 dX6_torqueOf_101) <| fcs (zs_iconst dX6_torqueOf_104 rfl) <| fcs (zs_iload_n dX6_torqueOf_105 rfl) <| fcs (zs_imul dX6_torqueOf_106) <| fcs (zs_iload dX6_torqueOf_107) <| fcs (zs_iadd dX6_torqueOf_109) <| fcs (zs_laload dX6_torqueOf_110) <| fcs (zs_lsub dX6_torqueOf_111) <| fcs (zs_calls (ct_X6_of hG l) mi_X6_of ws_X6_of (by decide) wm_X6_97 dX6_torqueOf_112) <| fcs (zs_lastore dX6_torqueOf_115) <| fcs (zs_iinc dX6_torqueOf_116 rfl (by decide)) <| fcs (zs_goto dX6_torqueOf_119 rfl) <| fcs (zs_aload_n dX6_torqueOf_122 rfl) <| fcs (zs_get cls5 (by decide) (by decide) wf_X6_66 dX6_torqueOf_123) <| fcs (zs_iconst dX6_torqueOf_126 rfl) <| fcs (zs_aload_n dX6_torqueOf_127 rfl) <| fcs (zs_get cls5 (by decide) (by decide) wf_X6_66 dX6_torqueOf_128) <| fcs (zs_iconst dX6_torqueOf_131 rfl) <| fcs (zs_aload_n dX6_torqueOf_132 rfl) <| fcs (zs_get cls5 (by decide) (by decide) wf_X6_60 dX6_torqueOf_133) <| fcs (zs_iconst dX6_torqueOf_136 rfl) <| fcs (zs_iload dX6_torqueOf_137) <| fcs (zs_imul dX6_torqueOf_139) <| fcs (zs_calls (ct_X6_cross hG l) mi_X6_cross ws_X6_cross (by decide) wm_X6_136 dX6_torqueOf_140) <| fcs (zs_aload_n dX6_torqueOf_143 rfl) <| fcs (zs_get cls5 (by decide) (by decide) wf_X6_66 dX6_torqueOf_144) <| fcs (zs_iconst dX6_torqueOf_147 rfl) <| fcs (zs_aload_n dX6_torqueOf_148 rfl) <| fcs (zs_get cls5 (by decide) (by decide) wf_X6_63 dX6_torqueOf_149) <| fcs (zs_iconst dX6_torqueOf_152 rfl) <| fcs (zs_iload dX6_torqueOf_153) <| fcs (zs_imul dX6_torqueOf_155) <| fcs (zs_lconst dX6_torqueOf_156 rfl) <| fcs (zs_calls (ct_X6_add hG l) mi_X6_add ws_X6_add (by decide) wm_X6_132 dX6_torqueOf_157) <| fcs (zs_lload_n dX6_torqueOf_160 rfl) <| fcs (zs_aload_n dX6_torqueOf_161 rfl) <| fcs (zs_get cls5 (by decide) (by decide) wf_X6_45 dX6_torqueOf_162) <| fcs (zs_iconst dX6_torqueOf_165 rfl) <| fcs (zs_iload_n dX6_torqueOf_166 rfl) <| fcs (zs_imul dX6_torqueOf_167) <| fcs (zs_aload_n dX6_torqueOf_168 rfl) <| fcs (zs_get cls5 (by decide) (by decide) wf_X6_66 dX6_torqueOf_169) <| fcs (zs_iconst dX6_torqueOf_172 rfl) <| fcs (zs_calls (ct_X6_dot hG l) mi_X6_dot ws_X6_dot (by decide) wm_X6_104 dX6_torqueOf_173) <| fcs (zs_ladd dX6_torqueOf_176) <| fcs (zs_lstore_n dX6_torqueOf_177 rfl (by decide)) <| fcs (zs_iinc dX6_torqueOf_178 rfl (by decide)) <| fcs (zs_goto dX6_torqueOf_181 rfl) <| fcs (zs_lload_n dX6_torqueOf_184 rfl) <| fcs (zs_ldc2 dX6_torqueOf_185 wl_X6_91) <| fcs (zs_lrem dX6_torqueOf_188) <| fcs (zs_lret dX6_torqueOf_189) <| fnl
theorem of_pm {x : Int64} {a b c : ZF} (h : x = em a + em b - em c) : zi x.toInt = a + b - c := by
  have e1 : (em a + em b).toInt = (a.val : Int) + b.val := by rw [l_add] <;> rw [em_i, em_i] <;> omega
  have e : (em a + em b - em c).toInt = (a.val : Int) + b.val - c.val := by rw [l_sub] <;> rw [e1, em_i] <;> omega
  rw [h, e, zi_sub, zi_add, zi_val, zi_val, zi_val]
theorem vco_sub (v u : V3) (c : Nat) : vco c (v_sub v u) = vco c v - vco c u := by
  unfold vco
  split <;> rfl
section TQ
variable {X : Kx} {post : Option AV → SS → Prop}
set_option maxRecDepth 100000 in
set_option maxHeartbeats 4000000 in
theorem tq_x (hX : Closed pr_X6_torqueOf post X) {s : SS} {i j : Nat} {y : LV} (hi : i < 8) (hj : j < 8)
    (nx : ∀ d : LV, lv d = lv y + em (v_dot (mU s j) (v_adt (v_crs (v_sub (v_add (mO s i) (mA s i)) (mO s j)) (mF s i)) (mN s i) 1)) → ∀ s', s36 s s' → X 178 [(2, .inr (.inl d)), (4, .inl (nI i)), (0, ar 6 0), (1, .inl (nI j))] [] s') :
    X 63 [(5, .inl (nI 0)), (4, .inl (nI i)), (2, .inr (.inl y)), (0, ar 6 0), (1, .inl (nI j))] [] s := by
  have tail : X 122 [(4, .inl (nI i)), (2, .inr (.inl y)), (0, ar 6 0), (1, .inl (nI j))] [] (fl s (36, 0) 0 3 (fun c => vco c (v_sub (v_add (mO s i) (mA s i)) (mO s j)))) := by
    have hg : ∀ v, g3 (fl s (36, 0) 0 3 (fun c => vco c v)) (36, 0) 0 = v := fun v => rfl
    refine go hX [178] 60 ?_
    refine ⟨0, 0, 3 * i, ⟨rfl, rfl, by rw [pk_mul]⟩, ⟨nle rfl, nle rfl, by show 3 * i + 2 < 24; omega⟩, ?_⟩
    refine ⟨0, 3 * i, ⟨rfl, by rw [pk_mul]⟩, ⟨nle rfl, by show 3 * i + 2 < 24; omega⟩, ?_⟩
    refine ⟨3 * j, 0, ⟨by rw [pk_mul], rfl⟩, ⟨by show 3 * j + 2 < 24; omega, nle rfl⟩, ?_⟩
    refine wk hX (nx (.inl _) ?_ _ (s36_fl (s36_fl (s36_fl (s36_rf s) 0 3 _) 0 3 _) 0 3 _)) ⟨⟨_, rfl, Or.inl rfl⟩, ⟨_, rfl, Or.inl rfl⟩, ⟨_, rfl, Or.inl rfl⟩, ⟨_, rfl, Or.inl rfl⟩, trivial⟩
    rfl
  have lp : ∀ (m c : Nat) (cc : Int32), c + m = 3 → cc = nI c → X 63 [(5, .inl cc), (4, .inl (nI i)), (2, .inr (.inl y)), (0, ar 6 0), (1, .inl (nI j))] [] (fl s (36, 0) 0 c (fun c => vco c (v_sub (v_add (mO s i) (mA s i)) (mO s j)))) := by
    intro m
    induction m with
    | zero =>
      intro c cc hc e
      subst e
      refine go hX [63, 122] 60 ?_
      refine ⟨fun g => ?_, fun g => absurd ((nI_leI (by decide) (by omega)).mpr (by omega)) g⟩
      have e : c = 3 := by omega
      subst e
      exact wk hX tail ⟨⟨_, rfl, Or.inl rfl⟩, ⟨_, rfl, Or.inl rfl⟩, ⟨_, rfl, Or.inl rfl⟩, ⟨_, rfl, Or.inl rfl⟩, trivial⟩
    | succ m ih =>
      intro c cc hc e
      subst e
      have ih2 := ih (c + 1) _ (by omega) (nI_add c 1)
      rw [← fl_s s (36, 0) 0 c (fun c => vco c (v_sub (v_add (mO s i) (mA s i)) (mO s j))) (i := c) (by omega) rfl] at ih2
      refine go hX [63, 122] 60 ?_
      refine ⟨fun g => absurd ((nI_leI (by decide) (by omega)).mp g) (by omega), fun g => ?_⟩
      refine ⟨⟨nle rfl, nle rfl⟩, 3 * i + c, by rw [pk_mul, nI_add], by show 3 * i + c < 24; omega, ?_⟩
      refine ⟨⟨nle rfl, nle rfl⟩, 3 * i + c, by rw [pk_mul, nI_add], by show 3 * i + c < 24; omega, ?_⟩
      refine ⟨⟨nle rfl, nle rfl⟩, 3 * j + c, by rw [pk_mul, nI_add], by show 3 * j + c < 24; omega, ?_⟩
      refine ⟨⟨nle rfl, nle rfl⟩, c, vco c (v_sub (v_add (mO s i) (mA s i)) (mO s j)), rfl, by show c < 3; omega, ?_, ?_⟩
      · refine congrArg em ((of_pm rfl).trans ?_)
        dsimp only
        rw [fl_n _ _ _ _ _ _ _ (by decide), fl_n _ _ _ _ _ _ _ (by decide), fl_n _ _ _ _ _ _ _ (by decide), vco_sub, vco_add]
        unfold mO mA
        rw [g3_c _ _ _ (show c < 3 by omega), g3_c _ _ _ (show c < 3 by omega), g3_c _ _ _ (show c < 3 by omega)]
      · exact ih2
  have l0 := lp 3 0 _ rfl rfl
  rw [fl_0] at l0
  exact l0
end TQ
theorem acc_i {y d : Int64} {f : ZF} {B : Int} (h0 : 0 ≤ y.toInt) (h1 : y.toInt ≤ B) (hB : B ≤ 1000000000000) (hd : d = y + em f) : 0 ≤ d.toInt ∧ d.toInt ≤ B + 2147483646 ∧ zi d.toInt = zi y.toInt + f := by
  have hf := f.isLt
  have e : (y + em f).toInt = y.toInt + f.val := by rw [l_add] <;> rw [em_i] <;> omega
  rw [hd, e]
  refine ⟨by omega, by omega, ?_⟩
  rw [zi_add, zi_val]
theorem tqc_of {σ s : SS} (h : s36 σ s) (j i : Nat) : tqc s j i = tqc σ j i := by
  unfold tqc mU mO mA mF mN
  rw [h.2.1, s36_g h _ (by decide), s36_g h _ (by decide), s36_g h _ (by decide), s36_g h _ (by decide), s36_g h _ (by decide), s36_g h _ (by decide)]
theorem clb_of {σ s : SS} (h : s.2.2 = σ.2.2) (j : Nat) : ∀ n k, clb s j n k = clb σ j n k
  | 0, _ => rfl
  | n + 1, k => by
    unfold clb
    rw [mp_of h, clb_of h j n]
theorem hng_of {σ s : SS} (h : s.2.2 = σ.2.2) (i j : Nat) : hng s i j = hng σ i j := by
  unfold hng
  rw [clb_of h]
set_option maxRecDepth 100000 in
set_option maxHeartbeats 4000000 in
theorem ct_X6_torqueOf {G : Geo} (hG : GeoOK G) (l : Launch) : Ct G l yX6_torqueOf cX6_torqueOf 6 (some .long) 2 sp_X6_torqueOf := by
  refine Ct.of pr_X6_torqueOf hG (by decide +kernel) (sn_X6_torqueOf hG l) ?_
  intro av σ post hok h
  unfold sp_X6_torqueOf at h
  split at h
  · rename_i b x
    obtain ⟨hb, hI, j, rfl, ⟨hj1, hj2⟩, h9⟩ := bif_t h
    clear h
    obtain rfl := is6_t hb
    refine ⟨Nat.le_of_ble_eq_true rfl, fun X hX => ?_⟩
    have h7 := hI.2.1
    have loop : ∀ (m n : Nat) (ii : Int32) (y : LV) (s : SS) (loc : Loc'), n + m = mn σ + 1 - j → ii = nI (j + n) → s36 σ s → 0 ≤ (lv y).toInt → (lv y).toInt ≤ n * 2147483646 → zi (lv y).toInt = tsum σ j n → subL [(4, .inl ii), (2, .inr (.inl y)), (0, ar 6 0), (1, .inl (nI j))] loc → X 5 loc [] s := by
      intro m
      induction m with
      | zero =>
        intro n ii y s loc hn hi hs h0 h1 hz hloc
        subst hi
        refine wk hX ?_ hloc
        have hIs := MI_of hs.2.1 hI
        have hms := mn_of hs.2.1
        refine go hX [5] 60 ?_
        refine ⟨fun g => ?_, fun g => absurd (show s.2.2 6 1 < nI (j + n) from ?_) g⟩
        · have e : n = mn σ + 1 - j := by omega
          subst e
          refine ⟨ne_P, .inr _, ?_, h9 s hs⟩
          show rP (lv y) = em (tq σ j)
          rw [rP_em h0, hz]
          rfl
        · rw [hIs.1, nI_ltI (by omega) (by omega)]
          omega
      | succ m ih =>
        intro n ii y s loc hn hi hs h0 h1 hz hloc
        subst hi
        refine wk hX ?_ hloc
        have hIs := MI_of hs.2.1 hI
        have hms := mn_of hs.2.1
        have step : ∀ (d : LV) (s' : SS) (loc : Loc'), s36 σ s' → 0 ≤ (lv d).toInt → (lv d).toInt ≤ ((n + 1 : Nat) : Int) * 2147483646 → zi (lv d).toInt = tsum σ j (n + 1) → subL [(4, .inl (nI (j + n))), (2, .inr (.inl d)), (0, ar 6 0), (1, .inl (nI j))] loc → X 178 loc [] s' := by
          intro d s' loc hs' q0 q1 qz hloc
          refine wk hX ?_ hloc
          refine go hX [5] 60 ?_
          exact ih (n + 1) _ d s' _ (by omega) (by rw [nI_add, Nat.add_assoc]) hs' q0 q1 qz ⟨⟨_, rfl, Or.inl rfl⟩, ⟨_, rfl, Or.inl rfl⟩, ⟨_, rfl, Or.inl rfl⟩, ⟨_, rfl, Or.inl rfl⟩, trivial⟩
        have hh := hng_of hs.2.1 (j + n) j
        have ht : tsum σ j (n + 1) = tsum σ j n + (bif hng σ (j + n) j then tqc σ j (j + n) else 0) := rfl
        refine go hX [5, 178, 63] 60 ?_
        refine ⟨fun g => absurd (show s.2.2 6 1 < nI (j + n) from g) ?_, fun g => ?_⟩
        · rw [hIs.1, nI_ltI (by omega) (by omega)]
          omega
        refine ⟨hIs, j + n, j, ⟨rfl, rfl⟩, ⟨by omega, by omega⟩, ?_⟩
        cases hB : hng s (j + n) j with
        | false =>
          refine ⟨fun g => absurd rfl g, fun g => ?_⟩
          refine step y s _ hs h0 (by omega) ?_ ⟨⟨_, rfl, Or.inl rfl⟩, ⟨_, rfl, Or.inl rfl⟩, ⟨_, rfl, Or.inl rfl⟩, ⟨_, rfl, Or.inl rfl⟩, trivial⟩
          rw [ht, ← hh, hB, hz]
          show _ = _ + (0 : ZF)
          grind
        | true =>
          refine ⟨fun g => ?_, fun g => absurd g (by decide)⟩
          refine ⟨rfl, j, rfl, by omega, ?_⟩
          have ht2 : tsum σ j (n + 1) = tsum σ j n + tqc σ j (j + n) := by rw [ht, ← hh, hB]; rfl
          refine ⟨fun g1 => ?_, fun g1 => ?_⟩
          · have g1 : s.2.2 8 j = 0 := g1
            refine tq_x hX (by omega) (by omega) (fun d hd s' hs' => ?_)
            obtain ⟨q0, q1, qz⟩ := acc_i h0 h1 (by omega) hd
            refine step d s' _ ⟨hs'.1.trans hs.1, hs'.2.1.trans hs.2.1, fun a b c ha => (hs'.2.2 a b c ha).trans (hs.2.2 a b c ha)⟩ q0 (by omega) ?_ ⟨⟨_, rfl, Or.inl rfl⟩, ⟨_, rfl, Or.inl rfl⟩, ⟨_, rfl, Or.inl rfl⟩, ⟨_, rfl, Or.inl rfl⟩, trivial⟩
            rw [qz, hz, ht2, ← tqc_of hs]
            unfold tqc
            rw [if_pos g1]
          · have g1 : ¬ s.2.2 8 j = 0 := g1
            refine ⟨3 * j, 3 * (j + n), ⟨by rw [pk_mul], by rw [pk_mul]⟩, ⟨by show 3 * j + 2 < 24; omega, by show 3 * (j + n) + 2 < 24; omega⟩, ?_⟩
            obtain ⟨q0, q1, qz⟩ := acc_i (d := lv y + em (v_dot (mU s j) (mF s (j + n)))) h0 h1 (by omega) rfl
            refine step (.inl (lv y + em (v_dot (mU s j) (mF s (j + n))))) s _ hs q0 (show (lv y + em (v_dot (mU s j) (mF s (j + n)))).toInt ≤ _ by omega) ?_ ⟨⟨_, rfl, Or.inl rfl⟩, ⟨_, rfl, Or.inl rfl⟩, ⟨_, rfl, Or.inl rfl⟩, ⟨_, rfl, Or.inl rfl⟩, trivial⟩
            refine qz.trans ?_
            rw [hz, ht2, ← tqc_of hs]
            unfold tqc
            rw [if_neg g1]
    refine go hX [5] 60 ?_
    exact loop (mn σ + 1 - j) 0 _ (.inr 0) σ _ (by omega) rfl (s36_rf σ) (by decide) (by decide) (by show zi (em 0).toInt = (0 : ZF); decide) ⟨⟨_, rfl, Or.inl rfl⟩, ⟨_, rfl, Or.inl rfl⟩, ⟨_, rfl, Or.inl rfl⟩, ⟨_, rfl, Or.inl rfl⟩, trivial⟩
  · exact h.elim
