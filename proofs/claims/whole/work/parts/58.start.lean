/-! The law's start: the classes, the two new objects, the world that they make -/
theorem lw_in {w : Cond} (i : Nat) (h : tables_1[i]? = some w) : w ∈ lw_tbl := List.mem_append_right _ (List.mem_of_getElem? h)
theorem lw_K {s : State} {args : Array Value} (hts : ∀ w ∈ lw_tbl, w.before args s = true) : ∃ (D : va_G) (c5 : C5), va_K D vwCl (tys5 c5) s ∧ XN s ∧ XA s := by
  have htl : ∀ w ∈ ltb, w.before args s = true := fun w h => hts w (ltb_in h)
  obtain ⟨a0, i0, k0⟩ := u_known (C := RX0) (T := TX0) (N := 18) htl cls0.2.1 (htl _ vi_X0)
  obtain ⟨a1, i1, k1⟩ := u_known (C := RX2) (T := TX2) (N := 4) htl cls1.2.1 (htl _ vi_X2)
  obtain ⟨a2, i2, k2⟩ := u_known (C := RX3) (T := TX3) (N := 3) htl cls2.2.1 (htl _ vi_X3)
  obtain ⟨a3, i3, k3⟩ := u_known (C := RX4) (T := TX4) (N := 3) htl cls3.2.1 (htl _ vi_X4)
  obtain ⟨a4, i4, k4⟩ := u_known (C := RX5) (T := TX5) (N := 14) htl cls4.2.1 (htl _ vi_X5)
  obtain ⟨a5, i5, k5⟩ := u_known (C := RX6) (T := TX6) (N := 27) htl cls5.2.1 (htl _ vi_X6)
  obtain ⟨cJ, kJ, mJ, j1, j2, j3⟩ := Cond.arrayClass_spec (type := .long) (hts _ (lw_in 195 (by decide +kernel)))
  obtain ⟨cI, kI, mI, n1, n2, n3⟩ := Cond.arrayClass_spec (type := .int) (hts _ (lw_in 549 (by decide +kernel)))
  obtain ⟨cZ, kZ, mZ, z1, z2, z3⟩ := Cond.arrayClass_spec (type := .boolean) (hts _ (lw_in 550 (by decide +kernel)))
  have hB : va_AO "LimbWorks$Body" s := va_AO.of (A := args) (hts _ (lw_in 18 (by decide +kernel)))
  have hJJ : va_AOA .long s := hts (Cond.arrayOver (.array .long)) (lw_in 151 (by decide +kernel))
  obtain ⟨mB, cB, kB, b1, -, b3, b4, b5⟩ := Cond.arrayOver_spec hB
  obtain ⟨mQ, cQ, kQ, q1, -, q3, q4, q5⟩ := arrayOverA_spec hJJ
  refine ⟨(fun c => match c with | 0 => a0 | 1 => a1 | 2 => a2 | 3 => a3 | 4 => a4 | _ => a5, fun c => match c with | 0 => i0 | 1 => i1 | 2 => i2 | 3 => i3 | 4 => i4 | _ => i5), (cJ, cI, cZ, cB, cQ), ⟨fun c q hq => ?_, fun k q hk => ?_⟩, ⟨va_Nw.of rfl (hts _ (lw_in 20 (by decide +kernel))), va_Nw.of rfl (hts _ (lw_in 48 (by decide +kernel))), va_Nw.of rfl (hts _ (lw_in 66 (by decide +kernel)))⟩, hB, hJJ⟩
  · match c, hq with
    | 0, hq => cases hq; exact k0
    | 1, hq => cases hq; exact k1
    | 2, hq => cases hq; exact k2
    | 3, hq => cases hq; exact k3
    | 4, hq => cases hq; exact k4
    | 5, hq => cases hq; exact k5
    | c + 6, hq => simp at hq
  · match k, hk with
    | 0, hk => cases hk; exact ⟨fun n z => ⟨fun k h => (by cases h), kJ, j2, mJ, j3⟩, j1⟩
    | 1, hk => cases hk; exact ⟨fun n z => ⟨fun k h => (by cases h), kI, n2, mI, n3⟩, n1⟩
    | 2, hk => cases hk; exact ⟨fun n z => ⟨fun k h => (by cases h), kZ, z2, mZ, z3⟩, z1⟩
    | 3, hk => cases hk; exact ⟨fun n z => ⟨fun k h => (by cases h), kB, b3, mB, b4⟩, kB, mB, b3, b4, b1, b5⟩
    | 4, hk => cases hk; exact ⟨fun n z => ⟨fun k h => (by cases h), kQ, q3, mQ, q4⟩, q5⟩
    | k + 5, hk => simp [tys5] at hk
theorem Rel_s0 : Rel s0 := by
  refine ⟨⟨⟨rfl, Nat.zero_le _, fun k h1 h2 => absurd (Nat.le_trans h1 h2) (by decide)⟩, ⟨rfl, Nat.zero_le _, fun k h1 h2 => absurd (Nat.le_trans h1 h2) (by decide)⟩, rfl, ⟨rfl, rfl, rfl, rfl, rfl, rfl⟩⟩, fun k h1 h2 => absurd (Nat.le_trans h1 h2) (by decide), fun k _ => ⟨rfl, rfl, rfl, rfl, rfl, rfl⟩, fun k _ => ⟨rfl, rfl, rfl, rfl, rfl⟩, rfl, rfl⟩
/-- the addresses of both -/
def adC (ad1 : Nat → Nat → Nat) (ad2 : Nat → Nat) : Nat → Nat → Nat := fun a b => if (6 ≤ a ∧ a ≤ 8) ∨ (20 ≤ a ∧ a ≤ 42) then ad2 a else ad1 a b
def kts : List (Nat × Nat) := cks ++ mks.map (fun kd => (kd, 0))
theorem cks_n : ∀ q ∈ cks, ¬ ((6 ≤ q.1 ∧ q.1 ≤ 8) ∨ (20 ≤ q.1 ∧ q.1 ≤ 42)) := by decide +kernel
theorem mks_n : ∀ k ∈ mks, ((6 ≤ k ∧ k ≤ 8) ∨ (20 ≤ k ∧ k ≤ 42)) := by decide +kernel
theorem prs_k : ∀ q ∈ prs, q ∈ kts := by decide +kernel
theorem cell_C (D : va_G) (c5 : C5) (ad1 : Nat → Nat → Nat) (ad2 : Nat → Nat) (kd k : Nat) (h : ¬ ((6 ≤ kd ∧ kd ≤ 8) ∨ (20 ≤ kd ∧ kd ≤ 42))) : cellOf (D, c5, adC ad1 ad2) s0 kd k = cellOf (G0 c5 ad1) s0 kd k := by
  by_cases h50 : 50 ≤ kd
  · rw [cell_v _ _ _ h50, cell_v _ _ _ h50]
  by_cases h10 : 10 ≤ kd
  · rw [cell_l _ _ _ h10 (by omega), cell_l _ _ _ h10 (by omega)]
    rfl
  rcases (show kd = 0 ∨ kd = 1 ∨ kd = 2 ∨ kd = 3 ∨ kd = 4 ∨ kd = 5 ∨ kd = 9 by omega) with rfl | rfl | rfl | rfl | rfl | rfl | rfl
  all_goals rfl
theorem cell_M (D : va_G) (c5 : C5) (ad1 : Nat → Nat → Nat) (ad2 : Nat → Nat) (kd : Nat) (h : (6 ≤ kd ∧ kd ≤ 8) ∨ (20 ≤ kd ∧ kd ≤ 42)) : cellOf (D, c5, adC ad1 ad2) s0 kd 0 = cellOf (G0 c5 (fun a _ => ad2 a)) s0 kd 0 := by
  by_cases h10 : 10 ≤ kd
  · rw [cell_l _ _ _ h10 (by omega), cell_l _ _ _ h10 (by omega)]
    rfl
  rcases (show kd = 6 ∨ kd = 7 ∨ kd = 8 by omega) with rfl | rfl | rfl
  all_goals rfl
theorem lw_ws (D : va_G) (c5 : C5) (ad1 : Nat → Nat → Nat) (ad2 : Nat → Nat) :
    cks.map (fun q => (ad1 q.1 q.2, cellOf (G0 c5 ad1) s0 q.1 q.2)) ++ mks.map (fun kd => (ad2 kd, cellOf (G0 c5 (fun a _ => ad2 a)) s0 kd 0)) = kts.map (fun q => (adC ad1 ad2 q.1 q.2, cellOf (D, c5, adC ad1 ad2) s0 q.1 q.2)) := by
  unfold kts
  rw [List.map_append, List.map_map]
  have e1 : cks.map (fun q => (ad1 q.1 q.2, cellOf (G0 c5 ad1) s0 q.1 q.2)) = cks.map (fun q => (adC ad1 ad2 q.1 q.2, cellOf (D, c5, adC ad1 ad2) s0 q.1 q.2)) := by
    refine List.map_congr_left (fun q hq => ?_)
    rw [cell_C _ _ _ _ _ _ (cks_n q hq)]
    unfold adC
    rw [if_neg (cks_n q hq)]
  have e2 : mks.map (fun kd => (ad2 kd, cellOf (G0 c5 (fun a _ => ad2 a)) s0 kd 0)) = mks.map ((fun q : Nat × Nat => (adC ad1 ad2 q.1 q.2, cellOf (D, c5, adC ad1 ad2) s0 q.1 q.2)) ∘ fun kd => (kd, 0)) := by
    refine List.map_congr_left (fun q hq => ?_)
    show _ = (adC ad1 ad2 q 0, cellOf (D, c5, adC ad1 ad2) s0 q 0)
    rw [cell_M _ _ _ _ _ (mks_n q hq)]
    unfold adC
    rw [if_pos (mks_n q hq)]
  rw [e1, e2]
theorem lw_geo {D : va_G} {c5 : C5} {ad1 : Nat → Nat → Nat} {ad2 : Nat → Nat} {A : Nat → Prop} {H : Heap} {ws : va_W} (hws : ws = kts.map (fun q => (adC ad1 ad2 q.1 q.2, cellOf (D, c5, adC ad1 ad2) s0 q.1 q.2))) (hP : va_P D vwCl ws H) (hD : va_D A ws) :
    GeoOK (D, c5, adC ad1 ad2) ∧ (∀ q, AG (D, c5, adC ad1 ad2) q → A q) ∧ va_P D vwCl (wsOf (D, c5, adC ad1 ad2) s0) H := by
  have at' : ∀ x, x ∈ prs → ∃ n : Nat, kts[n]? = some x ∧ ws[n]? = some (adC ad1 ad2 x.1 x.2, cellOf (D, c5, adC ad1 ad2) s0 x.1 x.2) := fun x hx => by
    obtain ⟨n, hn⟩ := List.getElem?_of_mem (prs_k x hx)
    exact ⟨n, hn, by rw [hws, List.getElem?_map, hn]; rfl⟩
  refine ⟨fun i j a b ha hb e => ?_, fun q hq => ?_, fun k q hk => ?_⟩
  · obtain ⟨n1, h1, h2⟩ := at' a (List.mem_of_getElem? ha)
    obtain ⟨n2, h3, h4⟩ := at' b (List.mem_of_getElem? hb)
    have hn := hD.1 n1 n2 _ _ h2 h4 e
    subst hn
    have hab : a = b := Option.some.inj (h1.symm.trans h3)
    subst hab
    exact prs_inj ha hb
  · obtain ⟨x, hx, rfl⟩ := hq
    obtain ⟨n, -, h2⟩ := at' x hx
    exact hD.2 n _ h2
  · obtain ⟨x, h1, rfl⟩ := ws_at hk
    obtain ⟨n, -, h2⟩ := at' x (List.mem_of_getElem? h1)
    exact hP n _ h2
/-- the loop's bound, in the machine's ints -/
theorem lw_le {L i : Nat} (hL : L ≤ 2560) (hi : i ≤ 3000) (h : ¬ nI L - nI 5 < nI i) : i + 5 ≤ L := by
  by_cases h5 : 5 ≤ L
  · have e : nI L - nI 5 = nI (L - 5) := by
      have e1 : nI (L - 5) + nI 5 = nI L := by rw [nI_add, Nat.sub_add_cancel h5]
      rw [← e1, Int32.add_sub_cancel]
    rw [e, nI_ltI (by omega) (by omega)] at h
    omega
  · exfalso
    apply h
    rw [Int32.lt_iff_toInt_lt, nI_toInt (n := i) (by omega)]
    have e : (nI L - nI 5).toInt < 0 := by
      rcases (show L = 0 ∨ L = 1 ∨ L = 2 ∨ L = 3 ∨ L = 4 by omega) with rfl | rfl | rfl | rfl | rfl <;> decide
    omega
section LP
variable {p : Program} {l : Launch} {e : Env} {s : State} {m : MethodId} {args : Array Value} {below : List Frame} {meth : Method} {c : Code} {Q : State → Prop} {cells slots : Nat} {G : Geo} {A : Nat → Prop} {b L : Nat} {xs : Nat → Int32}
theorem lw_loop (K : LX G A b L xs cells slots p s m args meth c) (fin : ∀ (H : Heap) (locs : List Loc) (ls : Array Slot), va_S A s.heap H locs → W p l e room_1 s m args below meth c H locs cells slots Q (F0 m 789 ls [])) :
    ∀ (n i : Nat) (ls : Array Slot) (σ : SS) (H : Heap) (locs : List Loc), L ≤ i + n → i ≤ L + 5 → lv_has ls 4 (lws G b i) → Rel σ → va_P G.1 vwCl (wsOf G σ) H → va_S A s.heap H locs → W p l e room_1 s m args below meth c H locs cells slots Q (F0 m 18 ls []) := by
  have hx := K.1.1
  have hb := K.1.2.1
  obtain ⟨hX, hbl, hbA, hL, -⟩ := K.2.2
  have head : ∀ (i : Nat) (ls : Array Slot) (H : Heap) (locs : List Loc), i ≤ L + 5 → lv_has ls 4 (lws G b i) → va_S A s.heap H locs → (i + 5 ≤ L → W p l e room_1 s m args below meth c H locs cells slots Q (F0 m 26 ls [])) → W p l e room_1 s m args below meth c H locs cells slots Q (F0 m 18 ls []) := by
    intro i ls H locs hi hl hS k
    refine lv_iload_n hx hb dL_law_18 rfl (lv_at hl 0 rfl) ?_
    refine lv_aload_n hx hb dL_law_19 rfl (lv_at hl 3 rfl) ?_
    refine va_slen hx hb hX hbl hbA hS dL_law_20 ?_
    refine lv_iconst hx hb dL_law_21 (v := nI 5) rfl ?_
    refine lv_isub hx hb dL_law_22 ?_
    refine lv_icmp_gt hx hb dL_law_23 (tgt := 789) rfl (fun _ => fin H locs ls hS) (fun g => k (lw_le hL (by omega) g))
  intro n
  induction n with
  | zero =>
    intro i ls σ H locs hn hi hl hR hP hS
    exact head i ls H locs hi hl hS (fun h => by omega)
  | succ n ih =>
    intro i ls σ H locs hn hi hl hR hP hS
    refine head i ls H locs hi hl hS (fun h => ?_)
    refine lw_it K hl h hR hP hS (fun σ' H1 locs1 hR1 hP1 hS1 => ?_)
    refine lv_iinc hx hb dL_law_783 hl (k := 0) rfl (nI_add i 5) (by decide) rfl (fun ls' hl' => ?_)
    refine lv_goto hx hb dL_law_786 (tgt := 18) rfl ?_
    exact ih (i + 5) ls' σ' H1 locs1 (by omega) (by omega) hl' hR1 hP1 hS1
end LP
theorem kx_7 : Cond.classLink RL 7 RX5 ∈ ltb := List.mem_filter.mpr ⟨List.mem_append_right _ (List.mem_of_getElem? (i := 9) (by decide +kernel)), by decide +kernel⟩
theorem kx_9 : Cond.methodLink RL 9 yX5_init ∈ ltb := List.mem_filter.mpr ⟨List.mem_append_right _ (List.mem_of_getElem? (i := 11) (by decide +kernel)), by decide +kernel⟩
theorem kx_10 : Cond.classLink RL 10 RX6 ∈ ltb := List.mem_filter.mpr ⟨List.mem_append_right _ (List.mem_of_getElem? (i := 461) (by decide +kernel)), by decide +kernel⟩
theorem kx_12 : Cond.methodLink RL 12 yX6_init ∈ ltb := List.mem_filter.mpr ⟨List.mem_append_right _ (List.mem_of_getElem? (i := 463) (by decide +kernel)), by decide +kernel⟩
theorem kx_i5 : Cond.initialized RX5 ∈ ltb := List.mem_filter.mpr ⟨List.mem_append_right _ (List.mem_of_getElem? (i := 1) (by decide +kernel)), by decide +kernel⟩
theorem kx_i6 : Cond.initialized RX6 ∈ ltb := List.mem_filter.mpr ⟨List.mem_append_right _ (List.mem_of_getElem? (i := 6) (by decide +kernel)), by decide +kernel⟩
/-- from the entry to the loop -/
theorem lw_go {p : Program} {l : Launch} {e : Env} {s : State} {m : MethodId} {below : List Frame} {meth : Method} {c : Code} {Q : State → Prop} {b L : Nat} {xs : Nat → Int32} (hx : p.tables.exec = Jvm.exec) (hb : c.code = cL_law) (hret : meth.sig.returnType = ret) (hml : c.maxLocals = 4) (hown : s.vm.findClass RL = some m.cls) (hts : ∀ w ∈ lw_tbl, w.before #[Value.ref b] s = true) (hX : va_X b L xs s s.heap) (hbl : b < s.heap.size) (hlk : meth.locks = false) (hL : L ≤ 2560)
    (fin : ∀ (H : Heap) (locs : List Loc) (ls : Array Slot), va_S (fun q => s.heap.size ≤ q) s.heap H locs → W p l e room_1 s m #[Value.ref b] below meth c H locs (0 + 1 + 197 + 1 + 25) (0 + 14 + 814 + 27 + 606) Q (F0 m 789 ls [])) :
    W p l e room_1 s m #[Value.ref b] below meth c s.heap [] 0 0 Q (entryFrame m ([Value.ref b] : List Value).toArray 4) := by
  have htl : ∀ w ∈ ltb, w.before #[Value.ref b] s = true := fun w h => hts w (ltb_in h)
  obtain ⟨D, c5, hK, hN, hXA⟩ := lw_K hts
  have C : CB D c5 RL cL_law 4 p s m #[Value.ref b] c := ⟨hx, hb, hml, hown, htl, hK, hN, hXA⟩
  have hA : ∀ x, s.heap.size ≤ x → (fun q => s.heap.size ≤ q) x := fun x h => h
  have hl := lv_entry [Value.ref b] (n := 4) (Nat.le_of_ble_eq_true rfl)
  rw [lg_entry_eq]
  generalize ((lg_sl [Value.ref b] ++ List.replicate (4 - (lg_sl [Value.ref b]).length) Slot.unset).toArray) = ls at hl
  have hl : lv_has ls 4 [(0, .ref b)] := hl
  have hP0 : va_P D vwCl [] s.heap := fun k q h => by simp at h
  have hD0 : va_D (fun q => s.heap.size ≤ q) [] := ⟨fun i j x y h => by simp at h, fun k q h => by simp at h⟩
  refine bd_new C cls4 kx_7 vi_X5 kx_i5 (fs0 := cfs0) (by decide +kernel) hP0 hD0 va_S.rf hA (by decide) (by decide) dL_law_0 (fun q1 H hP hD hS => ?_)
  refine lv_dup hx hb dL_law_3 rfl ?_
  refine bd_init C (cn_X5 l) mi_X5_init vv_X5_init kx_9 rfl rfl (by decide) (Nat.le_of_ble_eq_true rfl) hP hD hS hA hl.1 (by decide) (by decide) rfl dL_law_4 (fun ws1 H locs hSh hP hD hS => ?_)
  obtain ⟨ad1, hh1, rfl⟩ := hSh
  refine lv_astore_n hx hb dL_law_7 rfl hl (by decide) rfl (fun ls hl => ?_)
  refine bd_new C cls5 kx_10 vi_X6 kx_i6 (fs0 := mfs0) (by decide +kernel) hP hD hS hA (by decide) (by decide) dL_law_8 (fun q2 H hP hD hS => ?_)
  refine lv_dup hx hb dL_law_11 rfl ?_
  refine bd_init C (cn_X6 l) mi_X6_init vv_X6_init kx_12 rfl rfl (by decide) (Nat.le_of_ble_eq_true rfl) hP hD hS hA hl.1 (by decide) (by decide) rfl dL_law_12 (fun ws2 H locs hSh hP hD hS => ?_)
  obtain ⟨ad2, hh2, rfl⟩ := hSh
  refine lv_astore_n hx hb dL_law_15 rfl hl (by decide) rfl (fun ls hl => ?_)
  refine lv_iconst hx hb dL_law_16 (v := nI 0) rfl ?_
  refine lv_istore_n hx hb dL_law_17 rfl hl (by decide) rfl (fun ls hl => ?_)
  obtain ⟨hG, hAG, hPW⟩ := lw_geo (lw_ws D c5 ad1 ad2) hP hD
  have e1 : adC ad1 ad2 0 0 = q1 := hh1
  have e2 : adC ad1 ad2 6 0 = q2 := hh2
  subst e1
  subst e2
  refine lw_loop (G := (D, c5, adC ad1 ad2)) (A := fun q => s.heap.size ≤ q) (b := b) (L := L) (xs := xs) ⟨⟨hx, hb, hml, hown, htl, hret, hlk, hK, hG⟩, hAG, hX, hbl, Nat.not_le.mpr hbl, hL, by decide, by decide⟩ fin L 0 ls s0 H locs (by omega) (by omega) hl Rel_s0 hPW hS
