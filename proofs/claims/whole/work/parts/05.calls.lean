/-! long fields of a body, arrays, returns, calls; a method's contract out of its transformers -/
section SN
variable {G : Geo} {l : Launch} {own : String} {cc : ByteArray} {nL d : Nat} {ret : Option FieldType} {pc : Nat}
def z_btil : Tr := fun _ X pc loc stk σ => match stk with
  | .inr (.inl x) :: .inr (.inr q) :: r => q.1 = 2 ∧ ∃ f : ZF, lv x = em f ∧ X (pc + 3) loc r (sL σ 2 q.2 0 f)
  | _ => False
theorem zs_btil {idx : Nat} (hln : Cond.fieldLink own idx (TX0 3).1 (TX0 3).2.1 (TX0 3).2.2.1 ∈ ltb) (hd : decode cc pc = .ok (.putfield idx, 3)) : Sn G l own cc nL d ret pc z_btil := by
  intro p e s m args below meth c post X C hX loc stk σ ht H locs ls hP hS hl hoL hoS
  obtain ⟨hx, hb, hml, hown, hts, hret, hlk, hK, hG⟩ := C
  unfold z_btil at ht
  split at ht
  · rename_i x q r
    obtain ⟨kd, k⟩ := q
    obtain ⟨h0, f, hxf, ht⟩ := ht
    have h0 : kd = 2 := h0
    subst h0
    show W _ _ _ _ _ _ _ _ _ _ _ _ _ _ _ (F0 m pc ls (Value.long (lv x) :: Value.ref (G.2.2 2 k) :: r.map (conc G)))
    rw [hxf]
    have hok : (2, k) ∈ prs := hoS.2.1
    refine put_core hx hb hts hown hK hG hP hS cls0 (j := 3) (by decide) hln rfl rfl rfl hok (cell_o G σ (kd := 2) k (by decide) (by decide)) (by simp [flds]) (σ' := sL σ 2 k 0 f) ?_ (fun a b hm hne => ?_) hd (fun H1 locs1 hP1 hS1 => ?_)
    · rw [cell_o G _ (kd := 2) k (by decide) (by decide)]
      simp [flds, sL, conc, clx, lv]
    · exact cell_same (fun _ => rfl) (fun h _ i => sL_n1 σ _ _ _ _ (by omega)) (fun h => ⟨sL_n2 σ _ _ _ _ (fun h9 => hne (by rw [h, h9])), sL_n2 σ _ _ _ _ (fun h9 => hne (by rw [h, h9])), rfl, rfl⟩) (fun _ => rfl) (fun _ => ⟨rfl, rfl⟩) (fun _ _ => rfl) (fun _ _ => rfl)
    · exact hX _ _ _ _ ht H1 locs1 ls hP1 hS1 hl hoL hoS.2.2
  · exact ht.elim
def z_bmas : Tr := fun _ X pc loc stk σ => match stk with
  | .inr (.inl x) :: .inr (.inr q) :: r => q.1 = 2 ∧ ∃ f : ZF, lv x = em f ∧ X (pc + 3) loc r (sL σ 2 q.2 1 f)
  | _ => False
theorem zs_bmas {idx : Nat} (hln : Cond.fieldLink own idx (TX0 4).1 (TX0 4).2.1 (TX0 4).2.2.1 ∈ ltb) (hd : decode cc pc = .ok (.putfield idx, 3)) : Sn G l own cc nL d ret pc z_bmas := by
  intro p e s m args below meth c post X C hX loc stk σ ht H locs ls hP hS hl hoL hoS
  obtain ⟨hx, hb, hml, hown, hts, hret, hlk, hK, hG⟩ := C
  unfold z_bmas at ht
  split at ht
  · rename_i x q r
    obtain ⟨kd, k⟩ := q
    obtain ⟨h0, f, hxf, ht⟩ := ht
    have h0 : kd = 2 := h0
    subst h0
    show W _ _ _ _ _ _ _ _ _ _ _ _ _ _ _ (F0 m pc ls (Value.long (lv x) :: Value.ref (G.2.2 2 k) :: r.map (conc G)))
    rw [hxf]
    have hok : (2, k) ∈ prs := hoS.2.1
    refine put_core hx hb hts hown hK hG hP hS cls0 (j := 4) (by decide) hln rfl rfl rfl hok (cell_o G σ (kd := 2) k (by decide) (by decide)) (by simp [flds]) (σ' := sL σ 2 k 1 f) ?_ (fun a b hm hne => ?_) hd (fun H1 locs1 hP1 hS1 => ?_)
    · rw [cell_o G _ (kd := 2) k (by decide) (by decide)]
      simp [flds, sL, conc, clx, lv]
    · exact cell_same (fun _ => rfl) (fun h _ i => sL_n1 σ _ _ _ _ (by omega)) (fun h => ⟨sL_n2 σ _ _ _ _ (fun h9 => hne (by rw [h, h9])), sL_n2 σ _ _ _ _ (fun h9 => hne (by rw [h, h9])), rfl, rfl⟩) (fun _ => rfl) (fun _ => ⟨rfl, rfl⟩) (fun _ _ => rfl) (fun _ _ => rfl)
    · exact hX _ _ _ _ ht H1 locs1 ls hP1 hS1 hl hoL hoS.2.2
  · exact ht.elim
def z_laload : Tr := fun _ X pc loc stk σ => match stk with
  | .inl i :: .inr (.inr q) :: r => (10 ≤ q.1 ∧ q.1 < 50) ∧ ∃ n : Nat, i = nI n ∧ n < alen q.1 ∧ X (pc + 1) loc (.inr (.inl (.inr (σ.2.1 q.1 q.2 n))) :: r) σ
  | _ => False
theorem zs_laload (hd : decode cc pc = .ok (.laload, 1)) : Sn G l own cc nL d ret pc z_laload := by
  intro p e s m args below meth c post X C hX loc stk σ ht H locs ls hP hS hl hoL hoS
  obtain ⟨hx, hb, hml, hown, hts, hret, hlk, hK, hG⟩ := C
  unfold z_laload at ht
  split at ht
  · rename_i i q r
    obtain ⟨kd, k⟩ := q
    obtain ⟨⟨h1, h2⟩, n, rfl, hn, ht⟩ := ht
    obtain ⟨q0, g1, g2⟩ := ws_get G σ (show (kd, k) ∈ prs from hoS.2.1)
    rw [cell_l G σ k h1 h2] at g2
    have ha := alen_lt kd
    have hn : n < alen kd := hn
    refine va_lald hx hb hK hP q0 0 g2 rfl (vp_in_nI hn ha) hd ?_
    have hc : (nI n).toNatClampNeg = n := nI_clamp (Nat.lt_trans hn ha)
    rw [hc]
    exact hX _ _ _ _ ht H locs ls hP hS hl hoL ⟨trivial, hoS.2.2⟩
  · exact ht.elim
def z_lastore : Tr := fun _ X pc loc stk σ => match stk with
  | .inr (.inl x) :: .inl i :: .inr (.inr q) :: r => (10 ≤ q.1 ∧ q.1 < 50) ∧ ∃ (n : Nat) (f : ZF), i = nI n ∧ n < alen q.1 ∧ lv x = em f ∧ X (pc + 1) loc r (sL σ q.1 q.2 n f)
  | _ => False
theorem zs_lastore (hd : decode cc pc = .ok (.lastore, 1)) : Sn G l own cc nL d ret pc z_lastore := by
  intro p e s m args below meth c post X C hX loc stk σ ht H locs ls hP hS hl hoL hoS
  obtain ⟨hx, hb, hml, hown, hts, hret, hlk, hK, hG⟩ := C
  unfold z_lastore at ht
  split at ht
  · rename_i x i q r
    obtain ⟨kd, k⟩ := q
    obtain ⟨⟨h1, h2⟩, n, f, rfl, hn, hxf, ht⟩ := ht
    show W _ _ _ _ _ _ _ _ _ _ _ _ _ _ _ (F0 m pc ls (Value.long (lv x) :: Value.int (nI n) :: Value.ref (G.2.2 kd k) :: r.map (conc G)))
    rw [hxf]
    have h1 : 10 ≤ kd := h1
    have h2 : kd < 50 := h2
    obtain ⟨q0, g1, g2⟩ := ws_get G σ (show (kd, k) ∈ prs from hoS.2.2.1)
    rw [cell_l G σ k h1 h2] at g2
    have ha := alen_lt kd
    have hn : n < alen kd := hn
    refine va_last hx hb hK hP (ws_D σ hG) hS q0 0 g2 rfl (vp_in_nI hn ha) hd (fun H1 locs1 hP1 hD1 hS1 => ?_)
    have hc : (nI n).toNatClampNeg = n := nI_clamp (Nat.lt_trans hn ha)
    rw [hc] at hP1
    rw [ws_set (σ' := sL σ kd k n f) g1 ?_ (fun a b _ hne => ?_)] at hP1
    · exact hX _ _ _ _ ht H1 locs1 ls hP1 hS1 hl hoL hoS.2.2.2
    · rw [cell_l G _ k h1 h2]
      have e : (fun i => em ((sL σ kd k n f).2.1 kd k i)) = vp_updL (fun i => em (σ.2.1 kd k i)) n (em f) := by
        funext i
        unfold vp_updL sL
        by_cases hi : i = n
        · simp [hi]
        · simp [hi]
      rw [e]
    · have hne' : ¬ (a = kd ∧ b = k) := fun h => hne (by rw [h.1, h.2])
      have h9 : ∀ i, (sL σ kd k n f).2.1 a b i = σ.2.1 a b i := fun i => if_neg (fun h => hne' ⟨h.1, h.2.1⟩)
      exact cell_same (fun _ => rfl) (fun _ _ i => h9 i) (fun h => ⟨sL_n1 σ _ _ _ _ (by omega), sL_n1 σ _ _ _ _ (by omega), rfl, rfl⟩) (fun _ => rfl) (fun _ => ⟨rfl, rfl⟩) (fun _ _ => rfl) (fun _ _ => rfl)
  · exact ht.elim
def z_iaload : Tr := fun _ X pc loc stk σ => match stk with
  | .inl i :: .inr (.inr q) :: r => q.1 = 7 ∧ ∃ n : Nat, i = nI n ∧ n < 8 ∧ X (pc + 1) loc (.inl (σ.2.2 7 n) :: r) σ
  | _ => False
theorem zs_iaload (hd : decode cc pc = .ok (.iaload, 1)) : Sn G l own cc nL d ret pc z_iaload := by
  intro p e s m args below meth c post X C hX loc stk σ ht H locs ls hP hS hl hoL hoS
  obtain ⟨hx, hb, hml, hown, hts, hret, hlk, hK, hG⟩ := C
  unfold z_iaload at ht
  split at ht
  · rename_i i q r
    obtain ⟨kd, k⟩ := q
    obtain ⟨h1, n, rfl, hn, ht⟩ := ht
    have h1 : kd = 7 := h1
    subst h1
    obtain ⟨q0, g1, g2⟩ := ws_get G σ (show (7, k) ∈ prs from hoS.2.1)
    refine va_iald hx hb hK hP q0 1 g2 rfl (vp_in_nI hn (by decide)) hd ?_
    have hc : (nI n).toNatClampNeg = n := nI_clamp (by omega)
    rw [hc]
    exact hX _ _ _ _ ht H locs ls hP hS hl hoL ⟨trivial, hoS.2.2⟩
  · exact ht.elim
def z_baload : Tr := fun _ X pc loc stk σ => match stk with
  | .inl i :: .inr (.inr q) :: r => q.1 = 8 ∧ ∃ n : Nat, i = nI n ∧ n < 8 ∧ X (pc + 1) loc (.inl (σ.2.2 8 n) :: r) σ
  | _ => False
theorem zs_baload (hd : decode cc pc = .ok (.baload, 1)) : Sn G l own cc nL d ret pc z_baload := by
  intro p e s m args below meth c post X C hX loc stk σ ht H locs ls hP hS hl hoL hoS
  obtain ⟨hx, hb, hml, hown, hts, hret, hlk, hK, hG⟩ := C
  unfold z_baload at ht
  split at ht
  · rename_i i q r
    obtain ⟨kd, k⟩ := q
    obtain ⟨h1, n, rfl, hn, ht⟩ := ht
    have h1 : kd = 8 := h1
    subst h1
    obtain ⟨q0, g1, g2⟩ := ws_get G σ (show (8, k) ∈ prs from hoS.2.1)
    refine va_zald hx hb hK hP q0 2 g2 rfl (vp_in_nI hn (by decide)) hd ?_
    have hc : (nI n).toNatClampNeg = n := nI_clamp (by omega)
    rw [hc]
    exact hX _ _ _ _ ht H locs ls hP hS hl hoL ⟨trivial, hoS.2.2⟩
  · exact ht.elim
theorem cell_sI {G : Geo} {σ : SS} {kd k n : Nat} {x : Int32} (hkd : kd = 7 ∨ kd = 8) {a b : Nat} (hm : (a, b) ∈ prs) (hne : (a, b) ≠ (kd, k)) (hk : (kd, k) ∈ prs) : cellOf G (sI σ kd n x) a b = cellOf G σ a b := by
  have hk0 : k = 0 := by
    rcases prs_iff.mp hk with ⟨-, h⟩ | ⟨h, -⟩
    · exact h
    · rcases hkd with rfl | rfl <;> exact absurd h (by decide)
  have h9 : ¬ a = kd := fun h => by
    subst h
    rcases prs_iff.mp hm with ⟨-, h⟩ | ⟨h, -⟩
    · exact hne (by rw [h, hk0])
    · rcases hkd with rfl | rfl <;> exact absurd h (by decide)
  exact cell_same (fun _ => rfl) (fun _ _ _ => rfl) (fun h => ⟨rfl, rfl, sI_n1 σ _ _ (by omega), sI_n1 σ _ _ (by omega)⟩) (fun h => sI_n1 σ _ _ (by omega)) (fun h => ⟨sI_n1 σ _ _ (by omega), sI_n1 σ _ _ (by omega)⟩) (fun h i => sI_n1 σ _ _ (by omega)) (fun h i => sI_n1 σ _ _ (by omega))
def z_iastore : Tr := fun _ X pc loc stk σ => match stk with
  | .inl x :: .inl i :: .inr (.inr q) :: r => q.1 = 7 ∧ ∃ n : Nat, i = nI n ∧ n < 8 ∧ X (pc + 1) loc r (sI σ 7 n x)
  | _ => False
theorem zs_iastore (hd : decode cc pc = .ok (.iastore, 1)) : Sn G l own cc nL d ret pc z_iastore := by
  intro p e s m args below meth c post X C hX loc stk σ ht H locs ls hP hS hl hoL hoS
  obtain ⟨hx, hb, hml, hown, hts, hret, hlk, hK, hG⟩ := C
  unfold z_iastore at ht
  split at ht
  · rename_i x i q r
    obtain ⟨kd, k⟩ := q
    obtain ⟨h1, n, rfl, hn, ht⟩ := ht
    have h1 : kd = 7 := h1
    subst h1
    have hok : (7, k) ∈ prs := hoS.2.2.1
    obtain ⟨q0, g1, g2⟩ := ws_get G σ hok
    refine va_iast hx hb hK hP (ws_D σ hG) hS q0 1 g2 rfl (vp_in_nI hn (by decide)) hd (fun H1 locs1 hP1 hD1 hS1 => ?_)
    have hc : (nI n).toNatClampNeg = n := nI_clamp (by omega)
    rw [hc] at hP1
    rw [ws_set (σ' := sI σ 7 n x) g1 ?_ (fun a b hm hne => cell_sI (by decide) hm hne hok)] at hP1
    · exact hX _ _ _ _ ht H1 locs1 ls hP1 hS1 hl hoL hoS.2.2.2
    · show (Sum.inl (cIn G, 8, Sum.inl (fun i => (sI σ 7 n x).2.2 7 i)) : va_E) = _
      have e : (fun i => (sI σ 7 n x).2.2 7 i) = upd (fun i => σ.2.2 7 i) n x := by
        funext i
        unfold upd sI
        by_cases hi : i = n
        · simp [hi]
        · simp [hi]
      rw [e]
  · exact ht.elim
def z_bastore : Tr := fun _ X pc loc stk σ => match stk with
  | .inl x :: .inl i :: .inr (.inr q) :: r => q.1 = 8 ∧ (x = 0 ∨ x = 1) ∧ ∃ n : Nat, i = nI n ∧ n < 8 ∧ X (pc + 1) loc r (sI σ 8 n x)
  | _ => False
theorem zs_bastore (hd : decode cc pc = .ok (.bastore, 1)) : Sn G l own cc nL d ret pc z_bastore := by
  intro p e s m args below meth c post X C hX loc stk σ ht H locs ls hP hS hl hoL hoS
  obtain ⟨hx, hb, hml, hown, hts, hret, hlk, hK, hG⟩ := C
  unfold z_bastore at ht
  split at ht
  · rename_i x i q r
    obtain ⟨kd, k⟩ := q
    obtain ⟨h1, hs, n, rfl, hn, ht⟩ := ht
    have h1 : kd = 8 := h1
    subst h1
    have hok : (8, k) ∈ prs := hoS.2.2.1
    obtain ⟨q0, g1, g2⟩ := ws_get G σ hok
    refine va_zast hx hb hK hP (ws_D σ hG) hS q0 2 g2 rfl (vp_in_nI hn (by decide)) hd (fun H1 locs1 hP1 hD1 hS1 => ?_)
    have hc : (nI n).toNatClampNeg = n := nI_clamp (by omega)
    rw [hc] at hP1
    have hv : vp_nar .boolean x = x := by rcases hs with rfl | rfl <;> rfl
    rw [hv] at hP1
    rw [ws_set (σ' := sI σ 8 n x) g1 ?_ (fun a b hm hne => cell_sI (by decide) hm hne hok)] at hP1
    · exact hX _ _ _ _ ht H1 locs1 ls hP1 hS1 hl hoL hoS.2.2.2
    · show (Sum.inl (cZn G, 8, Sum.inl (fun i => (sI σ 8 n x).2.2 8 i)) : va_E) = _
      have e : (fun i => (sI σ 8 n x).2.2 8 i) = upd (fun i => σ.2.2 8 i) n x := by
        funext i
        unfold upd sI
        by_cases hi : i = n
        · simp [hi]
        · simp [hi]
      rw [e]
  · exact ht.elim
def z_aaload : Tr := fun _ X pc loc stk σ => match stk with
  | .inl i :: .inr (.inr q) :: r => ∃ n : Nat, i = nI n ∧ n < 8 ∧ (match q.1 with
    | 1 => X (pc + 1) loc (.inr (.inr (2, n)) :: r) σ
    | 5 => X (pc + 1) loc (.inr (.inr (19, n)) :: r) σ
    | _ => False)
  | _ => False
theorem zs_aaload (hd : decode cc pc = .ok (.aaload, 1)) : Sn G l own cc nL d ret pc z_aaload := by
  intro p e s m args below meth c post X C hX loc stk σ ht H locs ls hP hS hl hoL hoS
  obtain ⟨hx, hb, hml, hown, hts, hret, hlk, hK, hG⟩ := C
  unfold z_aaload at ht
  split at ht
  · rename_i i q r
    obtain ⟨kd, k⟩ := q
    obtain ⟨n, rfl, hn, ht⟩ := ht
    have hc : (nI n).toNatClampNeg = n := nI_clamp (by omega)
    dsimp only at ht
    split at ht
    · obtain ⟨q0, g1, g2⟩ := ws_get G σ (show (1, k) ∈ prs from hoS.2.1)
      refine va_aldq hx hb hK hP q0 3 g2 rfl (vp_in_nI hn (by decide)) hd ?_
      rw [hc, if_pos hn]
      exact hX _ _ _ _ ht H locs ls hP hS hl hoL ⟨prs_8 (by decide) hn, hoS.2.2⟩
    · obtain ⟨q0, g1, g2⟩ := ws_get G σ (show (5, k) ∈ prs from hoS.2.1)
      have hin : ¬ (nI n < 0 ∨ 8 ≤ (nI n).toNatClampNeg) := vp_in_nI hn (by decide)
      refine W.aald (v := .ref (G.2.2 19 n)) (ty := .array .long) hx hb (hP q0 _ g2) ((hK.2 4 _ rfl).1 8 (fun j => va_rf (if j < 8 then some (G.2.2 19 j) else none))) rfl (fun q => by cases q) (by show ¬ (nI n < 0 ∨ (arrV _ _ _).slots.size ≤ _); rw [arrV_size]; exact hin) (by show (arrV _ _ _).slots[_]? = _; rw [hc, arrV_read _ _ hn]; show some (va_rf (if n < 8 then some (G.2.2 19 n) else none)) = _; rw [if_pos hn]; rfl) rfl rfl hd ?_
      exact hX _ _ _ _ ht H locs ls hP hS hl hoL ⟨prs_8 (by decide) hn, hoS.2.2⟩
    · exact ht.elim
  · exact ht.elim
def z_iret : Tr := fun post _ _ _ stk σ => match stk with
  | [.inl v] => post (some (.inl v)) σ
  | _ => False
def z_zret : Tr := fun post _ _ _ stk σ => match stk with
  | [.inl v] => (v = 0 ∨ v = 1) ∧ post (some (.inl v)) σ
  | _ => False
def z_lret : Tr := fun post _ _ _ stk σ => match stk with
  | [.inr (.inl v)] => ∃ y : LV, lv v = lv y ∧ post (some (.inr (.inl y))) σ
  | _ => False
def z_aret : Tr := fun post _ _ _ stk σ => match stk with
  | [.inr (.inr v)] => post (some (.inr (.inr v))) σ
  | _ => False
def z_vret : Tr := fun post _ _ _ stk σ => match stk with
  | [] => post none σ
  | _ => False
theorem zs_iret (hd : decode cc pc = .ok (.ireturn, 1)) : Sn G l own cc nL d (some .int) pc z_iret := by
  intro p e s m args below meth c post X C hX loc stk σ ht H locs ls hP hS hl hoL hoS
  obtain ⟨hx, hb, hml, hown, hts, hret, hlk, hK, hG⟩ := C
  unfold z_iret at ht
  split at ht
  · rename_i v
    exact W.iret hx hb hret (fun t h hW => ⟨⟨some (.inl v), σ, rfl, trivial, ht, by rw [h]; exact hP, va_K.moved hW.alike hK⟩, hS.F h⟩) hS.2.2 hd hlk
  · exact ht.elim
theorem zs_zret (hd : decode cc pc = .ok (.ireturn, 1)) : Sn G l own cc nL d (some .boolean) pc z_zret := by
  intro p e s m args below meth c post X C hX loc stk σ ht H locs ls hP hS hl hoL hoS
  obtain ⟨hx, hb, hml, hown, hts, hret, hlk, hK, hG⟩ := C
  unfold z_zret at ht
  split at ht
  · rename_i v
    obtain ⟨hs, ht⟩ := ht
    exact W.zret hx hb hret (by rcases hs with rfl | rfl <;> rfl) (fun t h hW => ⟨⟨some (.inl v), σ, rfl, trivial, ht, by rw [h]; exact hP, va_K.moved hW.alike hK⟩, hS.F h⟩) hS.2.2 hd hlk
  · exact ht.elim
theorem zs_lret (hd : decode cc pc = .ok (.lreturn, 1)) : Sn G l own cc nL d (some .long) pc z_lret := by
  intro p e s m args below meth c post X C hX loc stk σ ht H locs ls hP hS hl hoL hoS
  obtain ⟨hx, hb, hml, hown, hts, hret, hlk, hK, hG⟩ := C
  unfold z_lret at ht
  split at ht
  · rename_i v
    obtain ⟨y, hy, ht⟩ := ht
    show W _ _ _ _ _ _ _ _ _ _ _ _ _ _ _ (F0 m pc ls [Value.long (lv v)])
    rw [hy]
    exact W.lret hx hb hret (fun t h hW => ⟨⟨some (.inr (.inl y)), σ, rfl, trivial, ht, by rw [h]; exact hP, va_K.moved hW.alike hK⟩, hS.F h⟩) hS.2.2 hd hlk
  · exact ht.elim
theorem zs_aret {N9 : String} (hd : decode cc pc = .ok (.areturn, 1)) : Sn G l own cc nL d (some (.object N9)) pc z_aret := by
  intro p e s m args below meth c post X C hX loc stk σ ht H locs ls hP hS hl hoL hoS
  obtain ⟨hx, hb, hml, hown, hts, hret, hlk, hK, hG⟩ := C
  unfold z_aret at ht
  split at ht
  · rename_i v
    exact W.aret hx hb hret (Or.inl ⟨_, rfl⟩) (Or.inr ⟨_, rfl⟩) (fun t h hW => ⟨⟨some (.inr (.inr v)), σ, rfl, hoS.1, ht, by rw [h]; exact hP, va_K.moved hW.alike hK⟩, hS.F h⟩) hS.2.2 hd hlk
  · exact ht.elim
theorem zs_vret (hd : decode cc pc = .ok (.return_, 1)) : Sn G l own cc nL d none pc z_vret := by
  intro p e s m args below meth c post X C hX loc stk σ ht H locs ls hP hS hl hoL hoS
  obtain ⟨hx, hb, hml, hown, hts, hret, hlk, hK, hG⟩ := C
  unfold z_vret at ht
  split at ht
  · skip
    exact W.vret hx hb hret (fun t h hW => ⟨⟨none, σ, rfl, trivial, ht, by rw [h]; exact hP, va_K.moved hW.alike hK⟩, hS.F h⟩) hS.2.2 hd hlk
  · exact ht.elim
end SN
abbrev Spc : Type := List AV → SS → (Option AV → SS → Prop) → Prop
/-- a method's contract -/
def Ct (G : Geo) (l : Launch) (y : MethodName) (cc : ByteArray) (maxL : Nat) (ret : Option FieldType) (d : Nat) (sp : Spc) : Prop :=
  ∀ (av : List AV) (σ : SS) (post : Option AV → SS → Prop), okS av → sp av σ post →
    Met l y (.code y cc maxL ret :: ltb) (rmd d) (va_Pc (av.map (conc G)) (fun U => va_P G.1 vwCl (wsOf G σ) U.heap ∧ va_K G.1 vwCl (tysOf G) U)) (Qp G post) 0 0 (AG G)
theorem goodTbl : GoodIn ltb ltb := goodIn_sub (fun _ h => h) (List.all_eq_true.mpr fun _ h => (List.mem_filter.mp h).2)
theorem good_c {w : Cond} {ws : List Cond} (h : w ∈ ltb) (hs : GoodIn ltb ws) : GoodIn ltb (w :: ws) := fun v hv => by
  rcases List.mem_cons.mp hv with e | hv
  · rw [e]; exact goodTbl w h
  · exact hs v hv
def csum : List AV → Nat
  | [] => 0
  | v :: r => (bif isLg v then 2 else 1) + csum r
theorem csum_c (G : Geo) (l : List AV) : ((l.map (conc G)).map fun v => v.category).sum = csum l := by
  induction l with
  | nil => rfl
  | cons a l ih =>
    rw [List.map_cons, List.map_cons, List.sum_cons, ih]
    show _ = (bif isLg a then 2 else 1) + csum l
    rcases a with x | x | x <;> rfl
def z_call (n : Nat) (sp : Spc) : Tr := fun _ X pc loc stk σ =>
  bif Nat.ble (csum (stk.drop n)) 8 && Nat.ble n stk.length then sp (stk.take n).reverse σ (fun r σ' => X (pc + 3) loc (r.toList ++ stk.drop n) σ') else False
def clk (kd : Nat) : Nat := bif Nat.ble 50 kd then 3 else clx kd
def rcv (ci : Nat) : List AV → Bool
  | .inr (.inr q) :: _ => Nat.beq (clk q.1) ci
  | _ => false
def z_callv (n ci : Nat) (sp : Spc) : Tr := fun post X pc loc stk σ =>
  bif rcv ci (stk.drop n) then z_call (n + 1) sp post X pc loc stk σ else False
/-- what the tables say of a method that is called -/
def Mi (y : MethodName) (C : String) (n : Nat) (cc : ByteArray) (maxL : Nat) (ret : Option FieldType) : Prop :=
  (y.cls = C ∧ y.cls ≠ "java/lang/invoke/MethodHandle" ∧ y.cls ≠ "java/lang/invoke/VarHandle" ∧ (parseMethodDescriptor y.desc).map (fun d => d.parameters.length) = some n) ∧ Cond.code y cc maxL ret ∈ ltb ∧ Cond.initialized C ∈ ltb ∧ maxL ≤ 27
theorem run_core {p : Program} {l : Launch} {e : Env} {R : Room} {s : State} {m : MethodId} {args : Array Value} {below : List Frame} {meth : Method} {c : Code} {H : Heap} {locs : List Loc} {Q : State → Prop} {pc : Nat} {ls : Array Slot} {st0 rest : List Value} {a : Array Value} {G : Geo} {post : Option AV → SS → Prop}
    (hr : va_Run p l e R s m args below meth c H locs 0 0 0 0 (F0 m pc ls st0) rest (Qp G post a) (AG G)) (hS : va_S (AG G) s.heap H locs)
    (kk : ∀ (r : Option AV) (σ' : SS) (H1 : Heap) (locs1 : List Loc), okr r → post r σ' → va_P G.1 vwCl (wsOf G σ') H1 → va_S (AG G) s.heap H1 locs1 → W p l e R s m args below meth c H1 locs1 0 0 Q (F0 m (pc + 3) ls ((r.map (conc G)).toList ++ rest))) :
    W p l e R s m args below meth c H locs 0 0 Q (F0 m pc ls st0) := by
  intro T hT X
  obtain ⟨v, st₀, t, T', L, h0, X', hL, e1, e2, ⟨⟨r, σ', hv, hok, hp, hP, hK⟩, hz, hk⟩, st⟩ := hr T hT X
  cases hv
  rw [h0] at hz hk
  obtain ⟨t2, a1, b1⟩ := kk r σ' T'.heap (locs ++ L) hok hp (by rw [e1]; exact hP)
    ⟨Nat.le_trans hS.1 (by rw [e1]; exact hz), fun q h1 h2 => by rw [e1, hk q (Nat.lt_of_lt_of_le h1 hS.1) h2]; exact hS.2.1 q h1 h2, fun q hq => by
      rcases List.mem_append.mp hq with h | h
      · exact hS.2.2 q h
      · exact hL q h⟩ T' rfl X'
  exact ⟨t2, st t2 a1, b1⟩
section CALL
variable {G : Geo} {l : Launch} {own : String} {cc : ByteArray} {nL d : Nat} {ret : Option FieldType} {pc : Nat}
theorem okS_take {l : List AV} (n : Nat) (h : okS l) : okS (l.take n).reverse := okS_mem.mpr fun v hv => okS_mem.mp h v (List.mem_of_mem_take (List.mem_reverse.mp hv))
theorem okS_drop {l : List AV} (n : Nat) (h : okS l) : okS (l.drop n) := okS_mem.mpr fun v hv => okS_mem.mp h v (List.mem_of_mem_drop hv)
theorem pc_blind {G : Geo} {av : List Value} {σ : SS} : FrameBlind (va_Pc av (fun U => va_P G.1 vwCl (wsOf G σ) U.heap ∧ va_K G.1 vwCl (tysOf G) U)) := fun a U g mk q => by
  obtain ⟨q0, qP, qK⟩ := q
  exact ⟨q0, qP, va_K.moved (u := U) (U := U.calling g mk a) (Vm.Alike.refl U.vm) qK⟩
theorem zs_calls {y : MethodName} {C : String} {n : Nat} {c2 : ByteArray} {maxL : Nat} {rt : Option FieldType} {d2 : Nat} {sp : Spc} {idx : Nat} (hM : Ct G l y c2 maxL rt d2 sp) (hI : Mi y C n c2 maxL rt) (hst : Cond.static y ∈ ltb) (hdd : d2 < d) (hln : Cond.methodLink own idx y ∈ ltb) (hd : decode cc pc = .ok (.invokestatic idx, 3)) : Sn G l own cc nL d ret pc (z_call n sp) := by
  intro p e s m args below meth c post X C hX loc stk σ ht H locs ls hP hS hl hoL hoS
  obtain ⟨hx, hb, hml, hown, hts, hret, hlk, hK, hG⟩ := C
  unfold z_call at ht
  obtain ⟨⟨hC, hy1, hy2, hy3⟩, hco, hini, hmx⟩ := hI
  subst hC
  cases hg : (Nat.ble (csum (stk.drop n)) 8 && Nat.ble n stk.length) with
  | false => rw [hg] at ht; exact ht.elim
  | true =>
    rw [hg] at ht
    rw [Bool.and_eq_true] at hg
    have hsum : csum (stk.drop n) ≤ 8 := Nat.le_of_ble_eq_true hg.1
    have hlen : n ≤ stk.length := Nat.le_of_ble_eq_true hg.2
    have hMet := hM _ σ _ (okS_take n hoS) ht
    have hgood : GoodIn ltb (va_wsS own idx y (.code y c2 maxL rt :: ltb)) := good_c hln (good_c hst (good_c hini (good_c hco goodTbl)))
    have hstk : stk.map (conc G) = (((stk.take n).reverse.map (conc G)).reverse) ++ (stk.drop n).map (conc G) := by
      rw [← List.map_reverse, List.reverse_reverse, ← List.map_append, List.take_append_drop]
    refine run_core (va_runS (As := (stk.take n).reverse.map (conc G)) (rest := (stk.drop n).map (conc G)) ⟨hx, hb, hml, hown, hts⟩ hMet (va_cwS n hts hgood rfl rfl rfl ⟨hy1, hy2, hy3⟩ ⟨by show d2 + 1 ≤ d; omega, by show 8 + (maxL + 11) + 46 * d2 ≤ 46 * d; omega⟩)
      ⟨pc_blind, fun U hU hW => ⟨rfl, by rw [hU]; exact hP, va_K.moved hW.alike hK⟩⟩ rfl (by rw [List.length_map, List.length_reverse, List.length_take]; omega) hl.1 hstk (lv_room (by rw [csum_c]; exact hsum)) hd ⟨Nat.zero_le _, Nat.zero_le _⟩) hS (fun r σ' H1 locs1 hokr hp hP1 hS1 => ?_)
    have hgo := hX _ _ _ _ hp H1 locs1 ls hP1 hS1 hl hoL (okS_app (by cases r with | none => trivial | some v => exact ⟨hokr, trivial⟩) (okS_drop n hoS))
    rw [List.map_append] at hgo
    cases r <;> exact hgo
theorem zs_callv {y : MethodName} {C : String} {n ci : Nat} {T : u_T} {N : Nat} {ty0 : Nat → FieldType} (hC : Cls ci C T N ty0) (hci : ci < 50) {c2 : ByteArray} {maxL : Nat} {rt : Option FieldType} {d2 : Nat} {sp : Spc} {idx : Nat} (hM : Ct G l y c2 maxL rt d2 sp) (hI : Mi y C n c2 maxL rt) (hin : Cond.instanceMethod y ∈ ltb) (hse : Cond.selects C y y ∈ ltb) (hdd : d2 < d) (hln : Cond.methodLink own idx y ∈ ltb) (hd : decode cc pc = .ok (.invokevirtual idx, 3)) : Sn G l own cc nL d ret pc (z_callv n ci sp) := by
  intro p e s m args below meth c post X C hX loc stk σ ht H locs ls hP hS hl hoL hoS
  obtain ⟨hx, hb, hml, hown, hts, hret, hlk, hK, hG⟩ := C
  unfold z_callv at ht
  obtain ⟨⟨hyC, hy1, hy2, hy3⟩, hco, hini, hmx⟩ := hI
  cases hg0 : rcv ci (stk.drop n) with
  | false => rw [hg0] at ht; exact ht.elim
  | true =>
    rw [hg0] at ht
    dsimp only [cond] at ht
    unfold z_call at ht
    cases hg : (Nat.ble (csum (stk.drop (n + 1))) 8 && Nat.ble (n + 1) stk.length) with
    | false => rw [hg] at ht; exact ht.elim
    | true =>
      rw [hg] at ht
      dsimp only [cond] at ht
      rw [Bool.and_eq_true] at hg
      have hsum : csum (stk.drop (n + 1)) ≤ 8 := Nat.le_of_ble_eq_true hg.1
      have hlen : n + 1 ≤ stk.length := Nat.le_of_ble_eq_true hg.2
      have hMet := hM _ σ _ (okS_take (n + 1) hoS) ht
      cases hdr : stk.drop n with
      | nil => rw [hdr] at hg0; cases hg0
      | cons v r9 =>
        rw [hdr] at hg0
        have hd1 : stk.drop (n + 1) = r9 := by rw [← List.drop_drop, hdr]; rfl
        have hokd := okS_drop n hoS
        rw [hdr] at hokd
        have htk : (stk.take (n + 1)).reverse = v :: (stk.take n).reverse := by
          have h1 : stk.take (n + 1) = stk.take n ++ [v] := by
            have h2 : stk = stk.take n ++ v :: r9 := by rw [← hdr, List.take_append_drop]
            have h3 : (stk.take n).length = n := by rw [List.length_take]; omega
            have h4 : (stk.take n ++ v :: r9).take (n + 1) = stk.take n ++ [v] := by
              rw [List.take_append, h3]
              rw [List.take_of_length_le (by rw [h3]; omega), Nat.add_sub_cancel_left]
              rfl
            rw [← h2] at h4
            exact h4
          rw [h1, List.reverse_append]
          rfl
        rcases v with v | v | ⟨kd, k⟩
        · cases hg0
        · cases hg0
        have hok : (kd, k) ∈ prs := hokd.1
        have hclk : clk kd = ci := Nat.eq_of_beq_eq_true hg0
        obtain ⟨q0, g1, g2⟩ := ws_get G σ hok
        have hcell : ∃ fs, cellOf G σ kd k = .inr (ci, fs) := by
          by_cases h50 : 50 ≤ kd
          · refine ⟨vfs (σ.1 kd k), ?_⟩
            rw [cell_v G σ k h50]
            have h51 : clk kd = 3 := by unfold clk; rw [Nat.ble_eq.mpr h50]; rfl
            rw [← hclk, h51]
          · have h51 : clk kd = clx kd := by
              unfold clk
              cases h52 : Nat.ble 50 kd with
              | true => exact absurd (Nat.le_of_ble_eq_true h52) h50
              | false => rfl
            have h53 : clx kd = ci := by rw [← h51]; exact hclk
            have h10 : kd < 10 := by
              by_cases h10 : kd < 10
              · exact h10
              · exfalso
                have h54 : clx kd = 99 := by unfold clx; split <;> first | omega | rfl
                omega
            refine ⟨(flds kd k σ).map (conc G), ?_⟩
            rw [cell_o G σ k h10 (by omega), h53]
        obtain ⟨fs, hcell⟩ := hcell
        rw [hcell] at g2
        have hgood : GoodIn ltb (wsV own idx C y (.code y c2 maxL rt :: ltb)) := good_c hln (good_c hin (good_c hse (good_c hini (good_c hco goodTbl))))
        rw [htk] at hMet
        have hstk : stk.map (conc G) = (((stk.take n).reverse.map (conc G)).reverse) ++ .ref (G.2.2 kd k) :: (stk.drop (n + 1)).map (conc G) := by
          rw [← List.map_reverse, List.reverse_reverse, hd1]
          have h2 : stk = stk.take n ++ (.inr (.inr (kd, k))) :: r9 := by rw [← hdr, List.take_append_drop]
          have h3 : stk.map (conc G) = (stk.take n ++ (.inr (.inr (kd, k))) :: r9).map (conc G) := congrArg (List.map (conc G)) h2
          rw [h3, List.map_append]
          rfl
        refine run_core (va_runV (As := (stk.take n).reverse.map (conc G)) (rest := (stk.drop (n + 1)).map (conc G)) (b := G.2.2 kd k) ⟨hx, hb, hml, hown, hts⟩ hMet (cwV n hts hgood rfl rfl rfl ⟨hyC, hy1, hy2, hy3⟩ ⟨by show d2 + 1 ≤ d; omega, by show 8 + (maxL + 11) + 46 * d2 ≤ 46 * d; omega⟩)
          ⟨pc_blind, va_recv hK hP hC.1 g2, fun U hU hW => ⟨rfl, by rw [hU]; exact hP, va_K.moved hW.alike hK⟩⟩ rfl (by rw [List.length_map, List.length_reverse, List.length_take]; omega) hl.1 hstk (lv_room (by rw [csum_c]; exact hsum)) hd ⟨Nat.zero_le _, Nat.zero_le _⟩) hS (fun r σ' H1 locs1 hokr hp hP1 hS1 => ?_)
        have hgo := hX _ _ _ _ hp H1 locs1 ls hP1 hS1 hl hoL (okS_app (by cases r with | none => trivial | some v => exact ⟨hokr, trivial⟩) (okS_drop (n + 1) hoS))
        rw [List.map_append] at hgo
        cases r <;> exact hgo
end CALL
