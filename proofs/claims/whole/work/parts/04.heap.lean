/-! Fields, arrays, returns and calls over the world -/
/-- a class of vwCl: its words are among the tables', its fields' types, its names are apart -/
def Cls (ci : Nat) (C : String) (T : u_T) (N : Nat) (ty : Nat → FieldType) : Prop := vwCl[ci]? = some (C, T, N) ∧ (∀ w ∈ u_ws C T N, w ∈ ltb) ∧ (∀ k, k < N → parseFieldDescriptor (T k).2.2.1 = some (ty k)) ∧ ∀ a, a < N → ∀ b, b < N → a ≠ b → (T a).2.1 ≠ (T b).2.1
theorem cls0 : Cls 0 RX0 TX0 18 tyX0 := ⟨rfl, by decide +kernel, tyX0_ok, nmX0⟩
theorem cls1 : Cls 1 RX2 TX2 4 tyX2 := ⟨rfl, by decide +kernel, tyX2_ok, nmX2⟩
theorem cls2 : Cls 2 RX3 TX3 3 tyX3 := ⟨rfl, by decide +kernel, tyX3_ok, nmX3⟩
theorem cls3 : Cls 3 RX4 TX4 3 tyX4 := ⟨rfl, by decide +kernel, tyX4_ok, nmX4⟩
theorem cls4 : Cls 4 RX5 TX5 14 tyX5 := ⟨rfl, by decide +kernel, tyX5_ok, nmX5⟩
theorem cls5 : Cls 5 RX6 TX6 27 tyX6 := ⟨rfl, by decide +kernel, tyX6_ok, nmX6⟩
theorem cell_v (G : Geo) (σ : SS) {kd : Nat} (k : Nat) (h : 50 ≤ kd) : cellOf G σ kd k = .inr (3, vfs (σ.1 kd k)) := by unfold cellOf; rw [if_pos h]
theorem cell_l (G : Geo) (σ : SS) {kd : Nat} (k : Nat) (h : 10 ≤ kd) (h2 : kd < 50) : cellOf G σ kd k = .inl (cJ G, alen kd, .inr (.inl (fun i => em (σ.2.1 kd k i)))) := by unfold cellOf; rw [if_neg (by omega), if_pos h]
theorem cell_o (G : Geo) (σ : SS) {kd : Nat} (k : Nat) (h : kd < 10) (h2 : clx kd < 50) : cellOf G σ kd k = .inr (clx kd, (flds kd k σ).map (conc G)) := by
  unfold cellOf
  rw [if_neg (by omega), if_neg (by omega)]
  split
  · exact absurd h2 (by decide)
  · exact absurd h2 (by decide)
  · exact absurd h2 (by decide)
  · exact absurd h2 (by decide)
  · rfl
theorem alen_lt (kd : Nat) : alen kd < 2 ^ 31 := by unfold alen; split <;> decide
/-- a cell stands as it was if the tables that it shows do -/
theorem cell_same {G : Geo} {σ σ' : SS} {a b : Nat} (h1 : 50 ≤ a → σ'.1 a b = σ.1 a b) (h2 : 10 ≤ a → a < 50 → ∀ i, σ'.2.1 a b i = σ.2.1 a b i) (h3 : a = 2 → σ'.2.1 2 b 0 = σ.2.1 2 b 0 ∧ σ'.2.1 2 b 1 = σ.2.1 2 b 1 ∧ σ'.2.2 1 b = σ.2.2 1 b ∧ σ'.2.2 2 b = σ.2.2 2 b)
    (h4 : a = 0 → σ'.2.2 0 0 = σ.2.2 0 0) (h5 : a = 6 → σ'.2.2 6 0 = σ.2.2 6 0 ∧ σ'.2.2 6 1 = σ.2.2 6 1) (h6 : a = 7 → ∀ i, σ'.2.2 7 i = σ.2.2 7 i) (h7 : a = 8 → ∀ i, σ'.2.2 8 i = σ.2.2 8 i) : cellOf G σ' a b = cellOf G σ a b := by
  by_cases hv : 50 ≤ a
  · rw [cell_v G σ b hv, cell_v G σ' b hv, h1 hv]
  by_cases hl : 10 ≤ a
  · rw [cell_l G σ b hl (by omega), cell_l G σ' b hl (by omega)]
    have e : (fun i => em (σ'.2.1 a b i)) = fun i => em (σ.2.1 a b i) := funext fun i => by rw [h2 hl (by omega) i]
    rw [e]
  unfold cellOf
  rw [if_neg hv, if_neg hl, if_neg hv, if_neg hl]
  have ha : a = 0 ∨ a = 1 ∨ a = 2 ∨ a = 3 ∨ a = 4 ∨ a = 5 ∨ a = 6 ∨ a = 7 ∨ a = 8 ∨ a = 9 := by omega
  rcases ha with rfl | rfl | rfl | rfl | rfl | rfl | rfl | rfl | rfl | rfl
  · simp only [flds, h4 rfl]
  · rfl
  · obtain ⟨e1, e2, e3, e4⟩ := h3 rfl
    simp only [flds, e1, e2, e3, e4]
  · rfl
  · rfl
  · rfl
  · obtain ⟨e1, e2⟩ := h5 rfl
    simp only [flds, e1, e2]
  · have e : (fun i => σ'.2.2 7 i) = fun i => σ.2.2 7 i := funext fun i => h6 rfl i
    show (Sum.inl (cIn G, 8, Sum.inl (fun i => σ'.2.2 7 i)) : va_E) = Sum.inl (cIn G, 8, Sum.inl (fun i => σ.2.2 7 i))
    rw [e]
  · have e : (fun i => σ'.2.2 8 i) = fun i => σ.2.2 8 i := funext fun i => h7 rfl i
    show (Sum.inl (cZn G, 8, Sum.inl (fun i => σ'.2.2 8 i)) : va_E) = Sum.inl (cZn G, 8, Sum.inl (fun i => σ.2.2 8 i))
    rw [e]
  · rfl
section CORE
variable {p : Program} {l : Launch} {e : Env} {R : Room} {s : State} {m : MethodId} {args : Array Value} {below : List Frame} {meth : Method} {c : Code} {H : Heap} {locs : List Loc} {cells slots : Nat} {Q : State → Prop}
variable {cc : ByteArray} {pc : Nat} {ls : Array Slot} {rest : List Value} {G : Geo} {own : String} {σ : SS}
theorem put_core (hx : p.tables.exec = Jvm.exec) (hb : c.code = cc) (hts : ∀ w ∈ ltb, w.before args s = true) (hown : s.vm.findClass own = some m.cls) (hK : va_K G.1 vwCl (tysOf G) s) (hG : GeoOK G) (hP : va_P G.1 vwCl (wsOf G σ) H) (hS : va_S (AG G) s.heap H locs)
    {ci : Nat} {C : String} {T : u_T} {N : Nat} {ty0 : Nat → FieldType} (hC : Cls ci C T N ty0) {idx j : Nat} (hj : j < N) (hln : Cond.fieldLink own idx (T j).1 (T j).2.1 (T j).2.2.1 ∈ ltb) (hfin : (T j).2.2.2 = false) {v : Value} (hn : narrow (ty0 j) v = v) (hfit : fits (ty0 j) v = true)
    {kd k : Nat} (hok : (kd, k) ∈ prs) {fs : List Value} (hcell : cellOf G σ kd k = .inr (ci, fs)) (hlen : j < fs.length) {σ' : SS} (h1 : cellOf G σ' kd k = .inr (ci, fs.set j v)) (h2 : ∀ a b, (a, b) ∈ prs → (a, b) ≠ (kd, k) → cellOf G σ' a b = cellOf G σ a b)
    (hd : decode cc pc = .ok (.putfield idx, 3)) (kk : ∀ (H1 : Heap) (locs1 : List Loc), va_P G.1 vwCl (wsOf G σ') H1 → va_S (AG G) s.heap H1 locs1 → W p l e R s m args below meth c H1 locs1 cells slots Q (F0 m (pc + 3) ls rest)) :
    W p l e R s m args below meth c H locs cells slots Q (F0 m pc ls (v :: .ref (G.2.2 kd k) :: rest)) := by
  obtain ⟨hc, hin, hty, hnm⟩ := hC
  obtain ⟨q0, g1, g2⟩ := ws_get G σ hok
  rw [hcell] at g2
  refine va_put hx hb hts hin ty0 hty hnm hown hK hP (ws_D σ hG) hS q0 g2 hc j hj (hts _ hln) (fun _ h9 => h9) hfin (hty j hj) hn hfit hlen hd (fun H1 locs1 hP1 hD1 hS1 => ?_)
  rw [ws_set g1 h1 h2] at hP1
  exact kk H1 locs1 hP1 hS1
theorem get_core (hx : p.tables.exec = Jvm.exec) (hb : c.code = cc) (hts : ∀ w ∈ ltb, w.before args s = true) (hown : s.vm.findClass own = some m.cls) (hK : va_K G.1 vwCl (tysOf G) s) (hP : va_P G.1 vwCl (wsOf G σ) H)
    {ci : Nat} {C : String} {T : u_T} {N : Nat} {ty0 : Nat → FieldType} (hC : Cls ci C T N ty0) {idx j : Nat} (hj : j < N) (hln : Cond.fieldLink own idx (T j).1 (T j).2.1 (T j).2.2.1 ∈ ltb) {v : Value}
    {kd k : Nat} (hok : (kd, k) ∈ prs) {fs : List Value} (hcell : cellOf G σ kd k = .inr (ci, fs)) (hv : fs[j]? = some v)
    (hd : decode cc pc = .ok (.getfield idx, 3)) (kk : W p l e R s m args below meth c H locs cells slots Q (F0 m (pc + 3) ls (v :: rest))) :
    W p l e R s m args below meth c H locs cells slots Q (F0 m pc ls (.ref (G.2.2 kd k) :: rest)) := by
  obtain ⟨hc, hin, hty, hnm⟩ := hC
  obtain ⟨q0, g1, g2⟩ := ws_get G σ hok
  rw [hcell] at g2
  exact va_get hx hb hts hin hown hK hP q0 g2 hc j hj (hts _ hln) (fun _ h9 => h9) hv hd kk
end CORE
section SN
variable {G : Geo} {l : Launch} {own : String} {cc : ByteArray} {nL d : Nat} {ret : Option FieldType} {pc : Nat}
/-- getfield of an object that is no vector -/
def z_get (ci j : Nat) : Tr := fun _ X pc loc stk σ => match stk with
  | .inr (.inr q) :: r => bif Nat.blt q.1 10 && Nat.beq (clx q.1) ci then (match nth (flds q.1 q.2 σ) j with
    | some v => X (pc + 3) loc (v :: r) σ
    | none => False) else False
  | _ => False
theorem zs_get {ci : Nat} {C : String} {T : u_T} {N : Nat} {ty0 : Nat → FieldType} (hC : Cls ci C T N ty0) {idx j : Nat} (hci : ci < 50) (hj : j < N) (hln : Cond.fieldLink own idx (T j).1 (T j).2.1 (T j).2.2.1 ∈ ltb) (hd : decode cc pc = .ok (.getfield idx, 3)) : Sn G l own cc nL d ret pc (z_get ci j) := by
  intro p e s m args below meth c post X C hX loc stk σ ht H locs ls hP hS hl hoL hoS
  obtain ⟨hx, hb, hml, hown, hts, hret, hlk, hK, hG⟩ := C
  unfold z_get at ht
  split at ht
  · rename_i q r
    obtain ⟨kd, k⟩ := q
    cases hg : (Nat.blt kd 10 && Nat.beq (clx kd) ci) with
    | false => rw [hg] at ht; exact ht.elim
    | true =>
      rw [hg] at ht
      dsimp only [cond] at ht
      rw [Bool.and_eq_true] at hg
      have h10 : kd < 10 := by have h9 := hg.1; simp [Nat.blt] at h9; omega
      have hcl : clx kd = ci := Nat.eq_of_beq_eq_true hg.2
      split at ht
      · rename_i v hv
        have hok : (kd, k) ∈ prs := hoS.1
        have h9 : ((flds kd k σ).map (conc G))[j]? = some (conc G v) := by
          rw [List.getElem?_map, ← nth_eq, hv]; rfl
        have hc9 := cell_o G σ k h10 (by rw [hcl]; exact hci)
        rw [hcl] at hc9
        refine get_core hx hb hts hown hK hP hC hj hln hok hc9 h9 hd ?_
        have hvo : okv v := okS_mem.mp (flds_ok σ hok) v (List.mem_of_getElem? (by rw [← nth_eq]; exact hv))
        exact hX _ _ _ _ ht H locs ls hP hS hl hoL ⟨hvo, hoS.2⟩
      · exact ht.elim
  · exact ht.elim
def vco (j : Nat) (v : V3) : ZF := match j with
  | 0 => v.1
  | 1 => v.2.1
  | _ => v.2.2
def vse (j : Nat) (x : ZF) (v : V3) : V3 := match j with
  | 0 => (x, v.2.1, v.2.2)
  | 1 => (v.1, x, v.2.2)
  | _ => (v.1, v.2.1, x)
/-- getfield of a vector -/
def z_vget (j : Nat) : Tr := fun _ X pc loc stk σ => match stk with
  | .inr (.inr q) :: r => 50 ≤ q.1 ∧ X (pc + 3) loc (.inr (.inl (.inr (vco j (σ.1 q.1 q.2)))) :: r) σ
  | _ => False
theorem zs_vget {idx j : Nat} (hj : j < 3) (hln : Cond.fieldLink own idx (TX4 j).1 (TX4 j).2.1 (TX4 j).2.2.1 ∈ ltb) (hd : decode cc pc = .ok (.getfield idx, 3)) : Sn G l own cc nL d ret pc (z_vget j) := by
  intro p e s m args below meth c post X C hX loc stk σ ht H locs ls hP hS hl hoL hoS
  obtain ⟨hx, hb, hml, hown, hts, hret, hlk, hK, hG⟩ := C
  unfold z_vget at ht
  split at ht
  · rename_i q r
    obtain ⟨kd, k⟩ := q
    obtain ⟨h50, ht⟩ := ht
    refine get_core hx hb hts hown hK hP cls3 hj hln hoS.1 (cell_v G σ k h50) (v := .long (em (vco j (σ.1 kd k)))) ?_ hd ?_
    · rcases (show j = 0 ∨ j = 1 ∨ j = 2 by omega) with rfl | rfl | rfl <;> rfl
    · exact hX _ _ _ _ ht H locs ls hP hS hl hoL ⟨trivial, hoS.2⟩
  · exact ht.elim
def z_vput (j : Nat) : Tr := fun _ X pc loc stk σ => match stk with
  | .inr (.inl x) :: .inr (.inr q) :: r => 50 ≤ q.1 ∧ ∃ f : ZF, lv x = em f ∧ X (pc + 3) loc r (sV σ q.1 q.2 (vse j f (σ.1 q.1 q.2)))
  | _ => False
theorem sV_at (σ : SS) (kd k : Nat) (v : V3) : (sV σ kd k v).1 kd k = v := if_pos ⟨rfl, rfl⟩
theorem sV_ne (σ : SS) {kd k a b : Nat} (v : V3) (h : (a, b) ≠ (kd, k)) : (sV σ kd k v).1 a b = σ.1 a b := if_neg (fun q => h (by rw [q.1, q.2]))
theorem cell_sV (G : Geo) (σ : SS) {kd k a b : Nat} (v : V3) (hk : 50 ≤ kd) (h : (a, b) ≠ (kd, k)) : cellOf G (sV σ kd k v) a b = cellOf G σ a b :=
  cell_same (fun _ => sV_ne σ v h) (fun _ _ _ => rfl) (fun _ => ⟨rfl, rfl, rfl, rfl⟩) (fun _ => rfl) (fun _ => ⟨rfl, rfl⟩) (fun _ _ => rfl) (fun _ _ => rfl)
theorem zs_vput {idx j : Nat} (hj : j < 3) (hln : Cond.fieldLink own idx (TX4 j).1 (TX4 j).2.1 (TX4 j).2.2.1 ∈ ltb) (hd : decode cc pc = .ok (.putfield idx, 3)) : Sn G l own cc nL d ret pc (z_vput j) := by
  intro p e s m args below meth c post X C hX loc stk σ ht H locs ls hP hS hl hoL hoS
  obtain ⟨hx, hb, hml, hown, hts, hret, hlk, hK, hG⟩ := C
  unfold z_vput at ht
  split at ht
  · rename_i x q r
    obtain ⟨kd, k⟩ := q
    obtain ⟨h50, f, hxf, ht⟩ := ht
    show W _ _ _ _ _ _ _ _ _ _ _ _ _ _ _ (F0 m pc ls (Value.long (lv x) :: Value.ref (G.2.2 kd k) :: r.map (conc G)))
    rw [hxf]
    have hok : (kd, k) ∈ prs := hoS.2.1
    have hty : ∀ j, j < 3 → tyX4 j = .long := by decide
    have hfi : ∀ j, j < 3 → (TX4 j).2.2.2 = false := by decide
    refine put_core hx hb hts hown hK hG hP hS cls3 hj hln (hfi j hj) (by rw [hty j hj]; rfl) (by rw [hty j hj]; rfl) hok (cell_v G σ k h50) (by show j < 3; exact hj) (σ' := sV σ kd k (vse j f (σ.1 kd k))) ?_ (fun a b _ hne => cell_sV G σ _ h50 hne) hd (fun H1 locs1 hP1 hS1 => ?_)
    · rw [cell_v G _ k h50, sV_at]
      rcases (show j = 0 ∨ j = 1 ∨ j = 2 by omega) with rfl | rfl | rfl <;> rfl
    · exact hX _ _ _ _ ht H1 locs1 ls hP1 hS1 hl hoL hoS.2.2
  · exact ht.elim
theorem sI_n1 (σ : SS) {kd a : Nat} (i j : Nat) {x : Int32} (h : a ≠ kd) : (sI σ kd i x).2.2 a j = σ.2.2 a j := if_neg (fun q => h q.1)
theorem sI_n2 (σ : SS) (kd a : Nat) {i j : Nat} {x : Int32} (h : j ≠ i) : (sI σ kd i x).2.2 a j = σ.2.2 a j := if_neg (fun q => h q.2)
theorem sI_at (σ : SS) (kd i : Nat) (x : Int32) : (sI σ kd i x).2.2 kd i = x := if_pos ⟨rfl, rfl⟩
theorem sL_n1 (σ : SS) {kd a : Nat} (k i b j : Nat) {x : ZF} (h : a ≠ kd) : (sL σ kd k i x).2.1 a b j = σ.2.1 a b j := if_neg (fun q => h q.1)
theorem sL_n2 (σ : SS) (kd a : Nat) {k b : Nat} (i j : Nat) {x : ZF} (h : b ≠ k) : (sL σ kd k i x).2.1 a b j = σ.2.1 a b j := if_neg (fun q => h q.2.1)
theorem sL_n3 (σ : SS) (kd a k b : Nat) {i j : Nat} {x : ZF} (h : j ≠ i) : (sL σ kd k i x).2.1 a b j = σ.2.1 a b j := if_neg (fun q => h q.2.2)
theorem sL_at (σ : SS) (kd k i : Nat) (x : ZF) : (sL σ kd k i x).2.1 kd k i = x := if_pos ⟨rfl, rfl, rfl⟩
def z_bpar : Tr := fun _ X pc loc stk σ => match stk with
  | .inl x :: .inr (.inr q) :: r => q.1 = 2 ∧ X (pc + 3) loc r (sI σ 1 q.2 x)
  | _ => False
theorem zs_bpar {idx : Nat} (hln : Cond.fieldLink own idx (TX0 0).1 (TX0 0).2.1 (TX0 0).2.2.1 ∈ ltb) (hd : decode cc pc = .ok (.putfield idx, 3)) : Sn G l own cc nL d ret pc z_bpar := by
  intro p e s m args below meth c post X C hX loc stk σ ht H locs ls hP hS hl hoL hoS
  obtain ⟨hx, hb, hml, hown, hts, hret, hlk, hK, hG⟩ := C
  unfold z_bpar at ht
  split at ht
  · rename_i x q r
    obtain ⟨kd, k⟩ := q
    obtain ⟨h0, ht⟩ := ht
    have h0 : kd = 2 := h0
    subst h0
    have hok : (2, k) ∈ prs := hoS.2.1
    refine put_core hx hb hts hown hK hG hP hS cls0 (j := 0) (by decide) hln rfl rfl rfl hok (cell_o G σ (kd := 2) k (by decide) (by decide)) (by simp [flds]) (σ' := sI σ 1 k x) ?_ (fun a b hm hne => ?_) hd (fun H1 locs1 hP1 hS1 => ?_)
    · rw [cell_o G _ (kd := 2) k (by decide) (by decide)]
      simp [flds, sI, conc, clx]
    · refine cell_same (fun _ => rfl) (fun _ _ _ => rfl) (fun h => ⟨rfl, rfl, sI_n2 σ _ _ (fun h9 => hne (by rw [h, h9])), sI_n1 σ _ _ (by decide)⟩) (fun h => sI_n1 σ _ _ (by decide)) (fun h => ⟨sI_n1 σ _ _ (by decide), sI_n1 σ _ _ (by decide)⟩) (fun h i => sI_n1 σ _ _ (by decide)) (fun h i => sI_n1 σ _ _ (by decide))
    · exact hX _ _ _ _ ht H1 locs1 ls hP1 hS1 hl hoL hoS.2.2
  · exact ht.elim
def z_bsli : Tr := fun _ X pc loc stk σ => match stk with
  | .inl x :: .inr (.inr q) :: r => q.1 = 2 ∧ (x = 0 ∨ x = 1) ∧ X (pc + 3) loc r (sI σ 2 q.2 x)
  | _ => False
theorem zs_bsli {idx : Nat} (hln : Cond.fieldLink own idx (TX0 1).1 (TX0 1).2.1 (TX0 1).2.2.1 ∈ ltb) (hd : decode cc pc = .ok (.putfield idx, 3)) : Sn G l own cc nL d ret pc z_bsli := by
  intro p e s m args below meth c post X C hX loc stk σ ht H locs ls hP hS hl hoL hoS
  obtain ⟨hx, hb, hml, hown, hts, hret, hlk, hK, hG⟩ := C
  unfold z_bsli at ht
  split at ht
  · rename_i x q r
    obtain ⟨kd, k⟩ := q
    obtain ⟨h0, hs, ht⟩ := ht
    have h0 : kd = 2 := h0
    subst h0
    have hok : (2, k) ∈ prs := hoS.2.1
    refine put_core hx hb hts hown hK hG hP hS cls0 (j := 1) (by decide) hln rfl (by rcases hs with rfl | rfl <;> rfl) (by rcases hs with rfl | rfl <;> rfl) hok (cell_o G σ (kd := 2) k (by decide) (by decide)) (by simp [flds]) (σ' := sI σ 2 k x) ?_ (fun a b hm hne => ?_) hd (fun H1 locs1 hP1 hS1 => ?_)
    · rw [cell_o G _ (kd := 2) k (by decide) (by decide)]
      simp [flds, sI, conc, clx]
    · refine cell_same (fun _ => rfl) (fun _ _ _ => rfl) (fun h => ⟨rfl, rfl, sI_n1 σ _ _ (by decide), sI_n2 σ _ _ (fun h9 => hne (by rw [h, h9]))⟩) (fun h => sI_n1 σ _ _ (by decide)) (fun h => ⟨sI_n1 σ _ _ (by decide), sI_n1 σ _ _ (by decide)⟩) (fun h i => sI_n1 σ _ _ (by decide)) (fun h i => sI_n1 σ _ _ (by decide))
    · exact hX _ _ _ _ ht H1 locs1 ls hP1 hS1 hl hoL hoS.2.2
  · exact ht.elim
def z_cnt : Tr := fun _ X pc loc stk σ => match stk with
  | .inl x :: .inr (.inr q) :: r => q.1 = 0 ∧ X (pc + 3) loc r (sI σ 0 0 x)
  | _ => False
theorem zs_cnt {idx : Nat} (hln : Cond.fieldLink own idx (TX5 1).1 (TX5 1).2.1 (TX5 1).2.2.1 ∈ ltb) (hd : decode cc pc = .ok (.putfield idx, 3)) : Sn G l own cc nL d ret pc z_cnt := by
  intro p e s m args below meth c post X C hX loc stk σ ht H locs ls hP hS hl hoL hoS
  obtain ⟨hx, hb, hml, hown, hts, hret, hlk, hK, hG⟩ := C
  unfold z_cnt at ht
  split at ht
  · rename_i x q r
    obtain ⟨kd, k⟩ := q
    obtain ⟨h0, ht⟩ := ht
    have h0 : kd = 0 := h0
    subst h0
    have hok : (0, k) ∈ prs := hoS.2.1
    have hk0 : k = 0 := by rcases prs_iff.mp hok with ⟨-, h⟩ | ⟨h, -⟩; exact h; exact absurd h (by decide)
    subst hk0
    refine put_core hx hb hts hown hK hG hP hS cls4 (j := 1) (by decide) hln rfl rfl rfl hok (cell_o G σ (kd := 0) 0 (by decide) (by decide)) (by simp [flds]) (σ' := sI σ 0 0 x) ?_ (fun a b hm hne => ?_) hd (fun H1 locs1 hP1 hS1 => ?_)
    · rw [cell_o G _ (kd := 0) 0 (by decide) (by decide)]
      simp [flds, sI, conc, clx]
    · have hne9 : ¬ a = 0 := fun h => by subst h; rcases prs_iff.mp hm with ⟨-, h⟩ | ⟨h, -⟩; exact hne (by rw [h]); exact absurd h (by decide)
      refine cell_same (fun _ => rfl) (fun _ _ _ => rfl) (fun h => ⟨rfl, rfl, sI_n1 σ _ _ (by decide), sI_n1 σ _ _ (by decide)⟩) (fun h => absurd h hne9) (fun h => ⟨sI_n1 σ _ _ (by decide), sI_n1 σ _ _ (by decide)⟩) (fun h i => sI_n1 σ _ _ (by decide)) (fun h i => sI_n1 σ _ _ (by decide))
    · exact hX _ _ _ _ ht H1 locs1 ls hP1 hS1 hl hoL hoS.2.2
  · exact ht.elim
def z_mthr : Tr := fun _ X pc loc stk σ => match stk with
  | .inl x :: .inr (.inr q) :: r => q.1 = 6 ∧ X (pc + 3) loc r (sI σ 6 0 x)
  | _ => False
theorem zs_mthr {idx : Nat} (hln : Cond.fieldLink own idx (TX6 0).1 (TX6 0).2.1 (TX6 0).2.2.1 ∈ ltb) (hd : decode cc pc = .ok (.putfield idx, 3)) : Sn G l own cc nL d ret pc z_mthr := by
  intro p e s m args below meth c post X C hX loc stk σ ht H locs ls hP hS hl hoL hoS
  obtain ⟨hx, hb, hml, hown, hts, hret, hlk, hK, hG⟩ := C
  unfold z_mthr at ht
  split at ht
  · rename_i x q r
    obtain ⟨kd, k⟩ := q
    obtain ⟨h0, ht⟩ := ht
    have h0 : kd = 6 := h0
    subst h0
    have hok : (6, k) ∈ prs := hoS.2.1
    have hk0 : k = 0 := by rcases prs_iff.mp hok with ⟨-, h⟩ | ⟨h, -⟩; exact h; exact absurd h (by decide)
    subst hk0
    refine put_core hx hb hts hown hK hG hP hS cls5 (j := 0) (by decide) hln rfl rfl rfl hok (cell_o G σ (kd := 6) 0 (by decide) (by decide)) (by simp [flds]) (σ' := sI σ 6 0 x) ?_ (fun a b hm hne => ?_) hd (fun H1 locs1 hP1 hS1 => ?_)
    · rw [cell_o G _ (kd := 6) 0 (by decide) (by decide)]
      simp [flds, sI, conc, clx]
    · have hne9 : ¬ a = 6 := fun h => by subst h; rcases prs_iff.mp hm with ⟨-, h⟩ | ⟨h, -⟩; exact hne (by rw [h]); exact absurd h (by decide)
      refine cell_same (fun _ => rfl) (fun _ _ _ => rfl) (fun h => ⟨rfl, rfl, sI_n1 σ _ _ (by decide), sI_n1 σ _ _ (by decide)⟩) (fun h => sI_n1 σ _ _ (by decide)) (fun h => ⟨absurd h hne9, absurd h hne9⟩) (fun h i => sI_n1 σ _ _ (by decide)) (fun h i => sI_n1 σ _ _ (by decide))
    · exact hX _ _ _ _ ht H1 locs1 ls hP1 hS1 hl hoL hoS.2.2
  · exact ht.elim
def z_mbod : Tr := fun _ X pc loc stk σ => match stk with
  | .inl x :: .inr (.inr q) :: r => q.1 = 6 ∧ X (pc + 3) loc r (sI σ 6 1 x)
  | _ => False
theorem zs_mbod {idx : Nat} (hln : Cond.fieldLink own idx (TX6 1).1 (TX6 1).2.1 (TX6 1).2.2.1 ∈ ltb) (hd : decode cc pc = .ok (.putfield idx, 3)) : Sn G l own cc nL d ret pc z_mbod := by
  intro p e s m args below meth c post X C hX loc stk σ ht H locs ls hP hS hl hoL hoS
  obtain ⟨hx, hb, hml, hown, hts, hret, hlk, hK, hG⟩ := C
  unfold z_mbod at ht
  split at ht
  · rename_i x q r
    obtain ⟨kd, k⟩ := q
    obtain ⟨h0, ht⟩ := ht
    have h0 : kd = 6 := h0
    subst h0
    have hok : (6, k) ∈ prs := hoS.2.1
    have hk0 : k = 0 := by rcases prs_iff.mp hok with ⟨-, h⟩ | ⟨h, -⟩; exact h; exact absurd h (by decide)
    subst hk0
    refine put_core hx hb hts hown hK hG hP hS cls5 (j := 1) (by decide) hln rfl rfl rfl hok (cell_o G σ (kd := 6) 0 (by decide) (by decide)) (by simp [flds]) (σ' := sI σ 6 1 x) ?_ (fun a b hm hne => ?_) hd (fun H1 locs1 hP1 hS1 => ?_)
    · rw [cell_o G _ (kd := 6) 0 (by decide) (by decide)]
      simp [flds, sI, conc, clx]
    · have hne9 : ¬ a = 6 := fun h => by subst h; rcases prs_iff.mp hm with ⟨-, h⟩ | ⟨h, -⟩; exact hne (by rw [h]); exact absurd h (by decide)
      refine cell_same (fun _ => rfl) (fun _ _ _ => rfl) (fun h => ⟨rfl, rfl, sI_n1 σ _ _ (by decide), sI_n1 σ _ _ (by decide)⟩) (fun h => sI_n1 σ _ _ (by decide)) (fun h => ⟨absurd h hne9, absurd h hne9⟩) (fun h i => sI_n1 σ _ _ (by decide)) (fun h i => sI_n1 σ _ _ (by decide))
    · exact hX _ _ _ _ ht H1 locs1 ls hP1 hS1 hl hoL hoS.2.2
  · exact ht.elim
end SN
