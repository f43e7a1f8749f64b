/-! A method is a list of (pc, transformer); a transformer says what must hold now so that the rest ends well. -/
/-- the tables' words that every method may rest on -/
def ltb : List Cond := lw_tbl.filter goodWord
theorem ltb_in {w : Cond} (h : w ∈ ltb) : w ∈ lw_tbl := (List.mem_filter.mp h).1
abbrev Loc' : Type := List (Nat × AV)
abbrev Kx : Type := Nat → Loc' → List AV → SS → Prop
abbrev Tr : Type := (Option AV → SS → Prop) → Kx → Nat → Loc' → List AV → SS → Prop
def isLg : AV → Bool
  | .inr (.inl _) => true
  | _ => false
def lk : Loc' → Nat → Option AV
  | [], _ => none
  | q :: r, i => bif Nat.beq q.1 i then some q.2 else lk r i
def so1 (i : Nat) (v : AV) (loc : Loc') : Loc' := (i, v) :: loc.filter (fun q => !(Nat.beq q.1 i) && !(Nat.beq (q.1 + 1) i && isLg q.2))
def so2 (i : Nat) (v : AV) (loc : Loc') : Loc' := (i, v) :: loc.filter (fun q => !(Nat.beq q.1 i) && (!(Nat.beq q.1 (i + 1)) && !(Nat.beq (q.1 + 1) i && isLg q.2)))
def cloc (G : Geo) (loc : Loc') : List (Nat × Value) := loc.map (fun q => (q.1, conc G q.2))
theorem beq_nat (a b : Nat) : (a == b) = Nat.beq a b := Bool.eq_iff_iff.mpr (by rw [beq_iff_eq, Nat.beq_eq])
theorem cat_lg (G : Geo) (v : AV) : ((conc G v).category == 2) = isLg v := by
  rcases v with x | x | x <;> rfl
theorem so1_c (G : Geo) (i : Nat) (v : AV) (loc : Loc') : (i, conc G v) :: (cloc G loc).filter (fun q => !(q.1 == i) && !(q.1 + 1 == i && q.2.category == 2)) = cloc G (so1 i v loc) := by
  unfold cloc so1
  rw [List.filter_map, List.map_cons]
  congr 2
  congr 1
  funext q
  show (!(q.1 == i) && !(q.1 + 1 == i && (conc G q.2).category == 2)) = _
  rw [cat_lg, beq_nat, beq_nat]
theorem so2_c (G : Geo) (i : Nat) (v : AV) (loc : Loc') : (i, conc G v) :: (cloc G loc).filter (fun q => !(q.1 == i) && (!(q.1 == i + 1) && !(q.1 + 1 == i && q.2.category == 2))) = cloc G (so2 i v loc) := by
  unfold cloc so2
  rw [List.filter_map, List.map_cons]
  congr 2
  congr 1
  funext q
  show (!(q.1 == i) && (!(q.1 == i + 1) && !(q.1 + 1 == i && (conc G q.2).category == 2))) = _
  rw [cat_lg, beq_nat, beq_nat, beq_nat]
theorem okL_filter {loc : Loc'} {P : Nat × AV → Bool} (h : okL loc) : okL (loc.filter P) := by
  rw [okL_mem] at *
  exact fun v hv => h v (List.mem_filter.mp hv).1
theorem lk_mem {loc : Loc'} {i : Nat} {v : AV} (h : lk loc i = some v) : (i, v) ∈ loc := by
  induction loc with
  | nil => cases h
  | cons q r ih =>
    unfold lk at h
    cases hb : Nat.beq q.1 i with
    | true =>
      rw [hb] at h
      have h1 : q.2 = v := Option.some.inj h
      have h2 : q.1 = i := Nat.eq_of_beq_eq_true hb
      rw [← h1, ← h2]
      exact List.mem_cons_self
    | false =>
      rw [hb] at h
      exact List.mem_cons_of_mem _ (ih h)
theorem lk_has {G : Geo} {ls : Array Slot} {nL : Nat} {loc : Loc'} {i : Nat} {v : AV} (hl : lv_has ls nL (cloc G loc)) (h : lk loc i = some v) : ls[i]? = some (.val (conc G v)) :=
  hl.2.2 (i, conc G v) (List.mem_map.mpr ⟨(i, v), lk_mem h, rfl⟩)
theorem lk_ok {loc : Loc'} {i : Nat} {v : AV} (hl : okL loc) (h : lk loc i = some v) : okv v := okL_mem.mp hl _ (lk_mem h)
def rmd (d : Nat) : Room := { frames := d, cells := 0, slots := 0, locals := 46 * d }
/-- what a method's end says -/
def Qp (G : Geo) (post : Option AV → SS → Prop) : Array Value → State → Outcome → State → Prop := fun _ st oc t =>
  (∃ (r : Option AV) (σ' : SS), oc = .returned (r.map (conc G)) ∧ okr r ∧ post r σ' ∧ va_P G.1 vwCl (wsOf G σ') t.heap ∧ va_K G.1 vwCl (tysOf G) t) ∧ va_F (AG G) st t
/-- what stands fixed while a method runs -/
def Cx (G : Geo) (own : String) (cc : ByteArray) (nL : Nat) (ret : Option FieldType) (p : Program) (s : State) (m : MethodId) (args : Array Value) (meth : Method) (c : Code) : Prop :=
  p.tables.exec = Jvm.exec ∧ c.code = cc ∧ c.maxLocals = nL ∧ s.vm.findClass own = some m.cls ∧ (∀ w ∈ ltb, w.before args s = true) ∧ meth.sig.returnType = ret ∧ meth.locks = false ∧ va_K G.1 vwCl (tysOf G) s ∧ GeoOK G
/-- the machine at a place of the method comes to the method's end -/
def Hd (G : Geo) (l : Launch) (nL d : Nat) (post : Option AV → SS → Prop) (p : Program) (e : Env) (s : State) (m : MethodId) (args : Array Value) (below : List Frame) (meth : Method) (c : Code) : Kx := fun pc loc stk σ =>
  ∀ (H : Heap) (locs : List Loc) (ls : Array Slot), va_P G.1 vwCl (wsOf G σ) H → va_S (AG G) s.heap H locs → lv_has ls nL (cloc G loc) → okL loc → okS stk →
    W p l e (rmd d) s m args below meth c H locs 0 0 (MQ below (Qp G post) args s 0 0 (AG G)) (F0 m pc ls (stk.map (conc G)))
/-- a transformer is sound at a place of a method's code -/
def Sn (G : Geo) (l : Launch) (own : String) (cc : ByteArray) (nL d : Nat) (ret : Option FieldType) (pc : Nat) (t : Tr) : Prop :=
  ∀ (p : Program) (e : Env) (s : State) (m : MethodId) (args : Array Value) (below : List Frame) (meth : Method) (c : Code) (post : Option AV → SS → Prop) (X : Kx), Cx G own cc nL ret p s m args meth c →
    (∀ pc loc stk σ, X pc loc stk σ → Hd G l nL d post p e s m args below meth c pc loc stk σ) → ∀ loc stk σ, t post X pc loc stk σ → Hd G l nL d post p e s m args below meth c pc loc stk σ
section SN
variable {G : Geo} {l : Launch} {own : String} {cc : ByteArray} {nL d : Nat} {ret : Option FieldType} {pc : Nat}
def z_iadd : Tr := fun _ X pc loc stk σ => match stk with
  | .inl y :: .inl x :: r => X (pc + 1) loc (.inl (x + y) :: r) σ
  | _ => False
theorem zs_iadd (hd : decode cc pc = .ok (.iadd, 1)) : Sn G l own cc nL d ret pc (z_iadd ) := by
  intro p e s m args below meth c post X C hX loc stk σ ht H locs ls hP hS hl hoL hoS
  obtain ⟨hx, hb, hml, hown, hts, hret, hlk, hK, hG⟩ := C
  unfold z_iadd at ht
  split at ht
  · rename_i y x r
    refine lv_iadd hx hb hd ?_
    exact hX _ _ _ _ ht H locs ls hP hS hl hoL (⟨trivial, hoS.2.2⟩)
  · exact ht.elim
def z_isub : Tr := fun _ X pc loc stk σ => match stk with
  | .inl y :: .inl x :: r => X (pc + 1) loc (.inl (x - y) :: r) σ
  | _ => False
theorem zs_isub (hd : decode cc pc = .ok (.isub, 1)) : Sn G l own cc nL d ret pc (z_isub ) := by
  intro p e s m args below meth c post X C hX loc stk σ ht H locs ls hP hS hl hoL hoS
  obtain ⟨hx, hb, hml, hown, hts, hret, hlk, hK, hG⟩ := C
  unfold z_isub at ht
  split at ht
  · rename_i y x r
    refine lv_isub hx hb hd ?_
    exact hX _ _ _ _ ht H locs ls hP hS hl hoL (⟨trivial, hoS.2.2⟩)
  · exact ht.elim
def z_imul : Tr := fun _ X pc loc stk σ => match stk with
  | .inl y :: .inl x :: r => X (pc + 1) loc (.inl (x * y) :: r) σ
  | _ => False
theorem zs_imul (hd : decode cc pc = .ok (.imul, 1)) : Sn G l own cc nL d ret pc (z_imul ) := by
  intro p e s m args below meth c post X C hX loc stk σ ht H locs ls hP hS hl hoL hoS
  obtain ⟨hx, hb, hml, hown, hts, hret, hlk, hK, hG⟩ := C
  unfold z_imul at ht
  split at ht
  · rename_i y x r
    refine lv_imul hx hb hd ?_
    exact hX _ _ _ _ ht H locs ls hP hS hl hoL (⟨trivial, hoS.2.2⟩)
  · exact ht.elim
def z_iand : Tr := fun _ X pc loc stk σ => match stk with
  | .inl y :: .inl x :: r => X (pc + 1) loc (.inl (x &&& y) :: r) σ
  | _ => False
theorem zs_iand (hd : decode cc pc = .ok (.iand, 1)) : Sn G l own cc nL d ret pc (z_iand ) := by
  intro p e s m args below meth c post X C hX loc stk σ ht H locs ls hP hS hl hoL hoS
  obtain ⟨hx, hb, hml, hown, hts, hret, hlk, hK, hG⟩ := C
  unfold z_iand at ht
  split at ht
  · rename_i y x r
    refine lv_iand hx hb hd ?_
    exact hX _ _ _ _ ht H locs ls hP hS hl hoL (⟨trivial, hoS.2.2⟩)
  · exact ht.elim
def z_ladd : Tr := fun _ X pc loc stk σ => match stk with
  | .inr (.inl y) :: .inr (.inl x) :: r => X (pc + 1) loc (.inr (.inl (.inl (lv x + lv y))) :: r) σ
  | _ => False
theorem zs_ladd (hd : decode cc pc = .ok (.ladd, 1)) : Sn G l own cc nL d ret pc (z_ladd ) := by
  intro p e s m args below meth c post X C hX loc stk σ ht H locs ls hP hS hl hoL hoS
  obtain ⟨hx, hb, hml, hown, hts, hret, hlk, hK, hG⟩ := C
  unfold z_ladd at ht
  split at ht
  · rename_i y x r
    refine lv_ladd hx hb hd ?_
    exact hX _ _ _ _ ht H locs ls hP hS hl hoL (⟨trivial, hoS.2.2⟩)
  · exact ht.elim
def z_lsub : Tr := fun _ X pc loc stk σ => match stk with
  | .inr (.inl y) :: .inr (.inl x) :: r => X (pc + 1) loc (.inr (.inl (.inl (lv x - lv y))) :: r) σ
  | _ => False
theorem zs_lsub (hd : decode cc pc = .ok (.lsub, 1)) : Sn G l own cc nL d ret pc (z_lsub ) := by
  intro p e s m args below meth c post X C hX loc stk σ ht H locs ls hP hS hl hoL hoS
  obtain ⟨hx, hb, hml, hown, hts, hret, hlk, hK, hG⟩ := C
  unfold z_lsub at ht
  split at ht
  · rename_i y x r
    refine lv_lsub hx hb hd ?_
    exact hX _ _ _ _ ht H locs ls hP hS hl hoL (⟨trivial, hoS.2.2⟩)
  · exact ht.elim
def z_lmul : Tr := fun _ X pc loc stk σ => match stk with
  | .inr (.inl y) :: .inr (.inl x) :: r => X (pc + 1) loc (.inr (.inl (.inl (lv x * lv y))) :: r) σ
  | _ => False
theorem zs_lmul (hd : decode cc pc = .ok (.lmul, 1)) : Sn G l own cc nL d ret pc (z_lmul ) := by
  intro p e s m args below meth c post X C hX loc stk σ ht H locs ls hP hS hl hoL hoS
  obtain ⟨hx, hb, hml, hown, hts, hret, hlk, hK, hG⟩ := C
  unfold z_lmul at ht
  split at ht
  · rename_i y x r
    refine lv_lmul hx hb hd ?_
    exact hX _ _ _ _ ht H locs ls hP hS hl hoL (⟨trivial, hoS.2.2⟩)
  · exact ht.elim
def z_land : Tr := fun _ X pc loc stk σ => match stk with
  | .inr (.inl y) :: .inr (.inl x) :: r => X (pc + 1) loc (.inr (.inl (.inl (lv x &&& lv y))) :: r) σ
  | _ => False
theorem zs_land (hd : decode cc pc = .ok (.land, 1)) : Sn G l own cc nL d ret pc (z_land ) := by
  intro p e s m args below meth c post X C hX loc stk σ ht H locs ls hP hS hl hoL hoS
  obtain ⟨hx, hb, hml, hown, hts, hret, hlk, hK, hG⟩ := C
  unfold z_land at ht
  split at ht
  · rename_i y x r
    refine lv_land hx hb hd ?_
    exact hX _ _ _ _ ht H locs ls hP hS hl hoL (⟨trivial, hoS.2.2⟩)
  · exact ht.elim
def z_lxor : Tr := fun _ X pc loc stk σ => match stk with
  | .inr (.inl y) :: .inr (.inl x) :: r => X (pc + 1) loc (.inr (.inl (.inl (lv x ^^^ lv y))) :: r) σ
  | _ => False
theorem zs_lxor (hd : decode cc pc = .ok (.lxor, 1)) : Sn G l own cc nL d ret pc (z_lxor ) := by
  intro p e s m args below meth c post X C hX loc stk σ ht H locs ls hP hS hl hoL hoS
  obtain ⟨hx, hb, hml, hown, hts, hret, hlk, hK, hG⟩ := C
  unfold z_lxor at ht
  split at ht
  · rename_i y x r
    refine lv_lxor hx hb hd ?_
    exact hX _ _ _ _ ht H locs ls hP hS hl hoL (⟨trivial, hoS.2.2⟩)
  · exact ht.elim
def z_idiv : Tr := fun _ X pc loc stk σ => match stk with
  | .inl y :: .inl x :: r => (¬ y = 0) ∧ X (pc + 1) loc (.inl (x / y) :: r) σ
  | _ => False
theorem zs_idiv (hd : decode cc pc = .ok (.idiv, 1)) : Sn G l own cc nL d ret pc (z_idiv ) := by
  intro p e s m args below meth c post X C hX loc stk σ ht H locs ls hP hS hl hoL hoS
  obtain ⟨hx, hb, hml, hown, hts, hret, hlk, hK, hG⟩ := C
  unfold z_idiv at ht
  split at ht
  · rename_i y x r
    obtain ⟨hs, ht⟩ := ht
    refine lv_idiv hx hb hd hs ?_
    exact hX _ _ _ _ ht H locs ls hP hS hl hoL (⟨trivial, hoS.2.2⟩)
  · exact ht.elim
def z_irem : Tr := fun _ X pc loc stk σ => match stk with
  | .inl y :: .inl x :: r => (¬ y = 0) ∧ X (pc + 1) loc (.inl (x - x / y * y) :: r) σ
  | _ => False
theorem zs_irem (hd : decode cc pc = .ok (.irem, 1)) : Sn G l own cc nL d ret pc (z_irem ) := by
  intro p e s m args below meth c post X C hX loc stk σ ht H locs ls hP hS hl hoL hoS
  obtain ⟨hx, hb, hml, hown, hts, hret, hlk, hK, hG⟩ := C
  unfold z_irem at ht
  split at ht
  · rename_i y x r
    obtain ⟨hs, ht⟩ := ht
    refine lv_irem hx hb hd hs ?_
    exact hX _ _ _ _ ht H locs ls hP hS hl hoL (⟨trivial, hoS.2.2⟩)
  · exact ht.elim
def z_ldiv : Tr := fun _ X pc loc stk σ => match stk with
  | .inr (.inl y) :: .inr (.inl x) :: r => (¬ lv y = 0) ∧ X (pc + 1) loc (.inr (.inl (.inl (lv x / lv y))) :: r) σ
  | _ => False
theorem zs_ldiv (hd : decode cc pc = .ok (.ldiv, 1)) : Sn G l own cc nL d ret pc (z_ldiv ) := by
  intro p e s m args below meth c post X C hX loc stk σ ht H locs ls hP hS hl hoL hoS
  obtain ⟨hx, hb, hml, hown, hts, hret, hlk, hK, hG⟩ := C
  unfold z_ldiv at ht
  split at ht
  · rename_i y x r
    obtain ⟨hs, ht⟩ := ht
    refine lv_ldiv hx hb hd hs ?_
    exact hX _ _ _ _ ht H locs ls hP hS hl hoL (⟨trivial, hoS.2.2⟩)
  · exact ht.elim
def z_lrem : Tr := fun _ X pc loc stk σ => match stk with
  | .inr (.inl y) :: .inr (.inl x) :: r => (¬ lv y = 0) ∧ X (pc + 1) loc (.inr (.inl (.inl (lv x - lv x / lv y * lv y))) :: r) σ
  | _ => False
theorem zs_lrem (hd : decode cc pc = .ok (.lrem, 1)) : Sn G l own cc nL d ret pc (z_lrem ) := by
  intro p e s m args below meth c post X C hX loc stk σ ht H locs ls hP hS hl hoL hoS
  obtain ⟨hx, hb, hml, hown, hts, hret, hlk, hK, hG⟩ := C
  unfold z_lrem at ht
  split at ht
  · rename_i y x r
    obtain ⟨hs, ht⟩ := ht
    refine lv_lrem hx hb hd hs ?_
    exact hX _ _ _ _ ht H locs ls hP hS hl hoL (⟨trivial, hoS.2.2⟩)
  · exact ht.elim
def z_lneg : Tr := fun _ X pc loc stk σ => match stk with
  | .inr (.inl x) :: r => X (pc + 1) loc (.inr (.inl (.inl (-(lv x)))) :: r) σ
  | _ => False
theorem zs_lneg (hd : decode cc pc = .ok (.lneg, 1)) : Sn G l own cc nL d ret pc (z_lneg ) := by
  intro p e s m args below meth c post X C hX loc stk σ ht H locs ls hP hS hl hoL hoS
  obtain ⟨hx, hb, hml, hown, hts, hret, hlk, hK, hG⟩ := C
  unfold z_lneg at ht
  split at ht
  · rename_i x r
    refine lv_lneg hx hb hd ?_
    exact hX _ _ _ _ ht H locs ls hP hS hl hoL (⟨trivial, hoS.2⟩)
  · exact ht.elim
def z_i2l : Tr := fun _ X pc loc stk σ => match stk with
  | .inl x :: r => X (pc + 1) loc (.inr (.inl (.inl x.toInt64)) :: r) σ
  | _ => False
theorem zs_i2l (hd : decode cc pc = .ok (.i2l, 1)) : Sn G l own cc nL d ret pc (z_i2l ) := by
  intro p e s m args below meth c post X C hX loc stk σ ht H locs ls hP hS hl hoL hoS
  obtain ⟨hx, hb, hml, hown, hts, hret, hlk, hK, hG⟩ := C
  unfold z_i2l at ht
  split at ht
  · rename_i x r
    refine lv_i2l hx hb hd rfl ?_
    exact hX _ _ _ _ ht H locs ls hP hS hl hoL (⟨trivial, hoS.2⟩)
  · exact ht.elim
def z_l2i : Tr := fun _ X pc loc stk σ => match stk with
  | .inr (.inl x) :: r => X (pc + 1) loc (.inl (lv x).toInt32 :: r) σ
  | _ => False
theorem zs_l2i (hd : decode cc pc = .ok (.l2i, 1)) : Sn G l own cc nL d ret pc (z_l2i ) := by
  intro p e s m args below meth c post X C hX loc stk σ ht H locs ls hP hS hl hoL hoS
  obtain ⟨hx, hb, hml, hown, hts, hret, hlk, hK, hG⟩ := C
  unfold z_l2i at ht
  split at ht
  · rename_i x r
    refine lv_l2i hx hb hd rfl ?_
    exact hX _ _ _ _ ht H locs ls hP hS hl hoL (⟨trivial, hoS.2⟩)
  · exact ht.elim
def z_lshr : Tr := fun _ X pc loc stk σ => match stk with
  | .inl y :: .inr (.inl x) :: r => X (pc + 1) loc (.inr (.inl (.inl (lv x >>> (y.toInt64 &&& 63)))) :: r) σ
  | _ => False
theorem zs_lshr (hd : decode cc pc = .ok (.lshr, 1)) : Sn G l own cc nL d ret pc (z_lshr ) := by
  intro p e s m args below meth c post X C hX loc stk σ ht H locs ls hP hS hl hoL hoS
  obtain ⟨hx, hb, hml, hown, hts, hret, hlk, hK, hG⟩ := C
  unfold z_lshr at ht
  split at ht
  · rename_i y x r
    refine lv_lshr hx hb hd rfl ?_
    exact hX _ _ _ _ ht H locs ls hP hS hl hoL (⟨trivial, hoS.2.2⟩)
  · exact ht.elim
def z_lcmp : Tr := fun _ X pc loc stk σ => match stk with
  | .inr (.inl y) :: .inr (.inl x) :: r => X (pc + 1) loc (.inl (lg_cmp (lv x) (lv y)) :: r) σ
  | _ => False
theorem zs_lcmp (hd : decode cc pc = .ok (.lcmp, 1)) : Sn G l own cc nL d ret pc (z_lcmp ) := by
  intro p e s m args below meth c post X C hX loc stk σ ht H locs ls hP hS hl hoL hoS
  obtain ⟨hx, hb, hml, hown, hts, hret, hlk, hK, hG⟩ := C
  unfold z_lcmp at ht
  split at ht
  · rename_i y x r
    refine W.lcmp hx hb hd ?_
    exact hX _ _ _ _ ht H locs ls hP hS hl hoL (⟨trivial, hoS.2.2⟩)
  · exact ht.elim
def z_ic (v : Int32) (n : Nat) : Tr := fun _ X pc loc stk σ => X (pc + n) loc (.inl v :: stk) σ
def z_lc (v : LV) (n : Nat) : Tr := fun _ X pc loc stk σ => X (pc + n) loc (.inr (.inl v) :: stk) σ
theorem zs_iconst {n : Int} {v : Int32} (hd : decode cc pc = .ok (.iconst n, 1)) (hv : Int32.ofInt n = v) : Sn G l own cc nL d ret pc (z_ic v 1) := by
  intro p e s m args below meth c post X C hX loc stk σ ht H locs ls hP hS hl hoL hoS
  obtain ⟨hx, hb, hml, hown, hts, hret, hlk, hK, hG⟩ := C
  refine lv_iconst hx hb hd hv ?_
  exact hX _ _ _ _ ht H locs ls hP hS hl hoL ⟨trivial, hoS⟩
theorem zs_bipush {n : Int} {v : Int32} (hd : decode cc pc = .ok (.bipush n, 2)) (hv : (Int8.ofInt n).toInt32 = v) : Sn G l own cc nL d ret pc (z_ic v 2) := by
  intro p e s m args below meth c post X C hX loc stk σ ht H locs ls hP hS hl hoL hoS
  obtain ⟨hx, hb, hml, hown, hts, hret, hlk, hK, hG⟩ := C
  refine lv_bipush hx hb hd hv ?_
  exact hX _ _ _ _ ht H locs ls hP hS hl hoL ⟨trivial, hoS⟩
theorem zs_sipush {n : Int} {v : Int32} (hd : decode cc pc = .ok (.sipush n, 3)) (hv : (Int16.ofInt n).toInt32 = v) : Sn G l own cc nL d ret pc (z_ic v 3) := by
  intro p e s m args below meth c post X C hX loc stk σ ht H locs ls hP hS hl hoL hoS
  obtain ⟨hx, hb, hml, hown, hts, hret, hlk, hK, hG⟩ := C
  refine lv_sipush hx hb hd hv ?_
  exact hX _ _ _ _ ht H locs ls hP hS hl hoL ⟨trivial, hoS⟩
theorem zs_lconst {n : Fin 2} {v : LV} (hd : decode cc pc = .ok (.lconst n, 1)) (hv : Int64.ofNat (n : Nat) = lv v) : Sn G l own cc nL d ret pc (z_lc v 1) := by
  intro p e s m args below meth c post X C hX loc stk σ ht H locs ls hP hS hl hoL hoS
  obtain ⟨hx, hb, hml, hown, hts, hret, hlk, hK, hG⟩ := C
  refine lv_lconst hx hb hd hv ?_
  exact hX _ _ _ _ ht H locs ls hP hS hl hoL ⟨trivial, hoS⟩
theorem zs_ldc2 {i : Nat} {v : LV} (hd : decode cc pc = .ok (.ldc2_w i, 3)) (hw : Jvm.Cond.constantLong own i (lv v) ∈ ltb) : Sn G l own cc nL d ret pc (z_lc v 3) := by
  intro p e s m args below meth c post X C hX loc stk σ ht H locs ls hP hS hl hoL hoS
  obtain ⟨hx, hb, hml, hown, hts, hret, hlk, hK, hG⟩ := C
  refine lv_ldc2 hx hb hown (hts _ hw) hd ?_
  exact hX _ _ _ _ ht H locs ls hP hS hl hoL ⟨trivial, hoS⟩
def z_iload (i n : Nat) : Tr := fun _ X pc loc stk σ => match lk loc i with
  | some (.inl x) => X (pc + n) loc (.inl x :: stk) σ
  | _ => False
theorem zs_iload_n {k : Fin 4} {i : Nat} (hd : decode cc pc = .ok (.iload_n k, 1)) (hi : (k : Nat) = i) : Sn G l own cc nL d ret pc (z_iload i 1) := by
  intro p e s m args below meth c post X C hX loc stk σ ht H locs ls hP hS hl hoL hoS
  obtain ⟨hx, hb, hml, hown, hts, hret, hlk, hK, hG⟩ := C
  unfold z_iload at ht
  split at ht
  · rename_i x h
    refine lv_iload_n hx hb hd hi (lk_has hl h) ?_
    exact hX _ _ _ _ ht H locs ls hP hS hl hoL ⟨trivial, hoS⟩
  · exact ht.elim
theorem zs_iload {i : Nat} (hd : decode cc pc = .ok (.iload i, 2)) : Sn G l own cc nL d ret pc (z_iload i 2) := by
  intro p e s m args below meth c post X C hX loc stk σ ht H locs ls hP hS hl hoL hoS
  obtain ⟨hx, hb, hml, hown, hts, hret, hlk, hK, hG⟩ := C
  unfold z_iload at ht
  split at ht
  · rename_i x h
    refine lv_iload hx hb hd (lk_has hl h) ?_
    exact hX _ _ _ _ ht H locs ls hP hS hl hoL ⟨trivial, hoS⟩
  · exact ht.elim
def z_lload (i n : Nat) : Tr := fun _ X pc loc stk σ => match lk loc i with
  | some (.inr (.inl x)) => X (pc + n) loc (.inr (.inl x) :: stk) σ
  | _ => False
theorem zs_lload_n {k : Fin 4} {i : Nat} (hd : decode cc pc = .ok (.lload_n k, 1)) (hi : (k : Nat) = i) : Sn G l own cc nL d ret pc (z_lload i 1) := by
  intro p e s m args below meth c post X C hX loc stk σ ht H locs ls hP hS hl hoL hoS
  obtain ⟨hx, hb, hml, hown, hts, hret, hlk, hK, hG⟩ := C
  unfold z_lload at ht
  split at ht
  · rename_i x h
    refine lv_lload_n hx hb hd hi (lk_has hl h) ?_
    exact hX _ _ _ _ ht H locs ls hP hS hl hoL ⟨trivial, hoS⟩
  · exact ht.elim
theorem zs_lload {i : Nat} (hd : decode cc pc = .ok (.lload i, 2)) : Sn G l own cc nL d ret pc (z_lload i 2) := by
  intro p e s m args below meth c post X C hX loc stk σ ht H locs ls hP hS hl hoL hoS
  obtain ⟨hx, hb, hml, hown, hts, hret, hlk, hK, hG⟩ := C
  unfold z_lload at ht
  split at ht
  · rename_i x h
    refine lv_lload hx hb hd (lk_has hl h) ?_
    exact hX _ _ _ _ ht H locs ls hP hS hl hoL ⟨trivial, hoS⟩
  · exact ht.elim
def z_aload (i n : Nat) : Tr := fun _ X pc loc stk σ => match lk loc i with
  | some (.inr (.inr x)) => X (pc + n) loc (.inr (.inr x) :: stk) σ
  | _ => False
theorem zs_aload_n {k : Fin 4} {i : Nat} (hd : decode cc pc = .ok (.aload_n k, 1)) (hi : (k : Nat) = i) : Sn G l own cc nL d ret pc (z_aload i 1) := by
  intro p e s m args below meth c post X C hX loc stk σ ht H locs ls hP hS hl hoL hoS
  obtain ⟨hx, hb, hml, hown, hts, hret, hlk, hK, hG⟩ := C
  unfold z_aload at ht
  split at ht
  · rename_i x h
    refine lv_aload_n hx hb hd hi (lk_has hl h) ?_
    exact hX _ _ _ _ ht H locs ls hP hS hl hoL ⟨lk_ok hoL h, hoS⟩
  · exact ht.elim
theorem zs_aload {i : Nat} (hd : decode cc pc = .ok (.aload i, 2)) : Sn G l own cc nL d ret pc (z_aload i 2) := by
  intro p e s m args below meth c post X C hX loc stk σ ht H locs ls hP hS hl hoL hoS
  obtain ⟨hx, hb, hml, hown, hts, hret, hlk, hK, hG⟩ := C
  unfold z_aload at ht
  split at ht
  · rename_i x h
    refine lv_aload hx hb hd (lk_has hl h) ?_
    exact hX _ _ _ _ ht H locs ls hP hS hl hoL ⟨lk_ok hoL h, hoS⟩
  · exact ht.elim
def z_istore (i n : Nat) : Tr := fun _ X pc loc stk σ => match stk with
  | .inl x :: r => X (pc + n) (so1 i (.inl x) loc) r σ
  | _ => False
theorem zs_istore_n {k : Fin 4} {i : Nat} (hd : decode cc pc = .ok (.istore_n k, 1)) (hi : (k : Nat) = i) (hn : i < nL) : Sn G l own cc nL d ret pc (z_istore i 1) := by
  intro p e s m args below meth c post X C hX loc stk σ ht H locs ls hP hS hl hoL hoS
  obtain ⟨hx, hb, hml, hown, hts, hret, hlk, hK, hG⟩ := C
  unfold z_istore at ht
  split at ht
  · rename_i x r
    refine lv_istore_n hx hb hd hi hl hn (so1_c G i (.inl x) loc) (fun ls hl => ?_)
    exact hX _ _ _ _ ht H locs ls hP hS hl ⟨hoS.1, okL_filter hoL⟩ hoS.2
  · exact ht.elim
theorem zs_istore {i : Nat} (hd : decode cc pc = .ok (.istore i, 2)) (hn : i < nL) : Sn G l own cc nL d ret pc (z_istore i 2) := by
  intro p e s m args below meth c post X C hX loc stk σ ht H locs ls hP hS hl hoL hoS
  obtain ⟨hx, hb, hml, hown, hts, hret, hlk, hK, hG⟩ := C
  unfold z_istore at ht
  split at ht
  · rename_i x r
    refine lv_istore hx hb hd hl hn (so1_c G i (.inl x) loc) (fun ls hl => ?_)
    exact hX _ _ _ _ ht H locs ls hP hS hl ⟨hoS.1, okL_filter hoL⟩ hoS.2
  · exact ht.elim
def z_lstore (i n : Nat) : Tr := fun _ X pc loc stk σ => match stk with
  | .inr (.inl x) :: r => X (pc + n) (so2 i (.inr (.inl x)) loc) r σ
  | _ => False
theorem zs_lstore_n {k : Fin 4} {i : Nat} (hd : decode cc pc = .ok (.lstore_n k, 1)) (hi : (k : Nat) = i) (hn : i + 1 < nL) : Sn G l own cc nL d ret pc (z_lstore i 1) := by
  intro p e s m args below meth c post X C hX loc stk σ ht H locs ls hP hS hl hoL hoS
  obtain ⟨hx, hb, hml, hown, hts, hret, hlk, hK, hG⟩ := C
  unfold z_lstore at ht
  split at ht
  · rename_i x r
    refine lv_lstore_n hx hb hd hi hl hn (so2_c G i (.inr (.inl x)) loc) (fun ls hl => ?_)
    exact hX _ _ _ _ ht H locs ls hP hS hl ⟨hoS.1, okL_filter hoL⟩ hoS.2
  · exact ht.elim
theorem zs_lstore {i : Nat} (hd : decode cc pc = .ok (.lstore i, 2)) (hn : i + 1 < nL) : Sn G l own cc nL d ret pc (z_lstore i 2) := by
  intro p e s m args below meth c post X C hX loc stk σ ht H locs ls hP hS hl hoL hoS
  obtain ⟨hx, hb, hml, hown, hts, hret, hlk, hK, hG⟩ := C
  unfold z_lstore at ht
  split at ht
  · rename_i x r
    refine lv_lstore hx hb hd hl hn (so2_c G i (.inr (.inl x)) loc) (fun ls hl => ?_)
    exact hX _ _ _ _ ht H locs ls hP hS hl ⟨hoS.1, okL_filter hoL⟩ hoS.2
  · exact ht.elim
def z_astore (i n : Nat) : Tr := fun _ X pc loc stk σ => match stk with
  | .inr (.inr x) :: r => X (pc + n) (so1 i (.inr (.inr x)) loc) r σ
  | _ => False
theorem zs_astore_n {k : Fin 4} {i : Nat} (hd : decode cc pc = .ok (.astore_n k, 1)) (hi : (k : Nat) = i) (hn : i < nL) : Sn G l own cc nL d ret pc (z_astore i 1) := by
  intro p e s m args below meth c post X C hX loc stk σ ht H locs ls hP hS hl hoL hoS
  obtain ⟨hx, hb, hml, hown, hts, hret, hlk, hK, hG⟩ := C
  unfold z_astore at ht
  split at ht
  · rename_i x r
    refine lv_astore_n hx hb hd hi hl hn (so1_c G i (.inr (.inr x)) loc) (fun ls hl => ?_)
    exact hX _ _ _ _ ht H locs ls hP hS hl ⟨hoS.1, okL_filter hoL⟩ hoS.2
  · exact ht.elim
theorem zs_astore {i : Nat} (hd : decode cc pc = .ok (.astore i, 2)) (hn : i < nL) : Sn G l own cc nL d ret pc (z_astore i 2) := by
  intro p e s m args below meth c post X C hX loc stk σ ht H locs ls hP hS hl hoL hoS
  obtain ⟨hx, hb, hml, hown, hts, hret, hlk, hK, hG⟩ := C
  unfold z_astore at ht
  split at ht
  · rename_i x r
    refine lv_astore hx hb hd hl hn (so1_c G i (.inr (.inr x)) loc) (fun ls hl => ?_)
    exact hX _ _ _ _ ht H locs ls hP hS hl ⟨hoS.1, okL_filter hoL⟩ hoS.2
  · exact ht.elim
def z_iinc (i : Nat) (n : Int32) : Tr := fun _ X pc loc stk σ => match lk loc i with
  | some (.inl x) => X (pc + 3) (so1 i (.inl (x + n)) loc) stk σ
  | _ => False
theorem zs_iinc {i : Nat} {n : Int} {v : Int32} (hd : decode cc pc = .ok (.iinc i n, 3)) (hv : Int32.ofInt n = v) (hn : i < nL) : Sn G l own cc nL d ret pc (z_iinc i v) := by
  intro p e s m args below meth c post X C hX loc stk σ ht H locs ls hP hS hl hoL hoS
  obtain ⟨hx, hb, hml, hown, hts, hret, hlk, hK, hG⟩ := C
  unfold z_iinc at ht
  split at ht
  · rename_i x h
    obtain ⟨k, hk⟩ := List.getElem?_of_mem (List.mem_map.mpr ⟨(i, .inl x), lk_mem h, rfl⟩ : (i, conc G (.inl x)) ∈ cloc G loc)
    refine lv_iinc hx hb hd hl hk (by rw [hv]) hn (so1_c G i (.inl (x + v)) loc) (fun ls hl => ?_)
    exact hX _ _ _ _ ht H locs ls hP hS hl ⟨trivial, okL_filter hoL⟩ hoS
  · exact ht.elim
def z_dup : Tr := fun _ X pc loc stk σ => match stk with
  | .inl x :: r => X (pc + 1) loc (.inl x :: .inl x :: r) σ
  | .inr (.inr x) :: r => X (pc + 1) loc (.inr (.inr x) :: .inr (.inr x) :: r) σ
  | _ => False
theorem zs_dup (hd : decode cc pc = .ok (.dup, 1)) : Sn G l own cc nL d ret pc z_dup := by
  intro p e s m args below meth c post X C hX loc stk σ ht H locs ls hP hS hl hoL hoS
  obtain ⟨hx, hb, hml, hown, hts, hret, hlk, hK, hG⟩ := C
  unfold z_dup at ht
  split at ht
  · refine lv_dup hx hb hd rfl ?_
    exact hX _ _ _ _ ht H locs ls hP hS hl hoL ⟨trivial, hoS⟩
  · refine lv_dup hx hb hd rfl ?_
    exact hX _ _ _ _ ht H locs ls hP hS hl hoL ⟨hoS.1, hoS⟩
  · exact ht.elim
def z_goto (tgt : Nat) : Tr := fun _ X _ loc stk σ => X tgt loc stk σ
theorem zs_goto {off : Int} {tgt : Nat} (hd : decode cc pc = .ok (.goto off, 3)) (ht' : (pc : Int) + off = (tgt : Int)) : Sn G l own cc nL d ret pc (z_goto tgt) := by
  intro p e s m args below meth c post X C hX loc stk σ ht H locs ls hP hS hl hoL hoS
  obtain ⟨hx, hb, hml, hown, hts, hret, hlk, hK, hG⟩ := C
  refine lv_goto hx hb hd ht' ?_
  exact hX _ _ _ _ ht H locs ls hP hS hl hoL hoS
def z_if1 (P : Int32 → Prop) (tgt : Nat) : Tr := fun _ X pc loc stk σ => match stk with
  | .inl x :: r => (P x → X tgt loc r σ) ∧ (¬ P x → X (pc + 3) loc r σ)
  | _ => False
def z_if2 (P : Int32 → Int32 → Prop) (tgt : Nat) : Tr := fun _ X pc loc stk σ => match stk with
  | .inl y :: .inl x :: r => (P x y → X tgt loc r σ) ∧ (¬ P x y → X (pc + 3) loc r σ)
  | _ => False
theorem zs_if_eq {off : Int} {tgt : Nat} (hd : decode cc pc = .ok (.ifCond .eq off, 3)) (ht' : (pc : Int) + off = (tgt : Int)) : Sn G l own cc nL d ret pc (z_if1 (fun x => x = 0) tgt) := by
  intro p e s m args below meth c post X C hX loc stk σ ht H locs ls hP hS hl hoL hoS
  obtain ⟨hx, hb, hml, hown, hts, hret, hlk, hK, hG⟩ := C
  unfold z_if1 at ht
  split at ht
  · refine lv_if_eq hx hb hd ht' (fun h => ?_) (fun h => ?_)
    · exact hX _ _ _ _ (ht.1 h) H locs ls hP hS hl hoL hoS.2
    · exact hX _ _ _ _ (ht.2 h) H locs ls hP hS hl hoL hoS.2
  · exact ht.elim
theorem zs_icmp_eq {off : Int} {tgt : Nat} (hd : decode cc pc = .ok (.if_icmp .eq off, 3)) (ht' : (pc : Int) + off = (tgt : Int)) : Sn G l own cc nL d ret pc (z_if2 (fun x y => x = y) tgt) := by
  intro p e s m args below meth c post X C hX loc stk σ ht H locs ls hP hS hl hoL hoS
  obtain ⟨hx, hb, hml, hown, hts, hret, hlk, hK, hG⟩ := C
  unfold z_if2 at ht
  split at ht
  · refine lv_icmp_eq hx hb hd ht' (fun h => ?_) (fun h => ?_)
    · exact hX _ _ _ _ (ht.1 h) H locs ls hP hS hl hoL hoS.2.2
    · exact hX _ _ _ _ (ht.2 h) H locs ls hP hS hl hoL hoS.2.2
  · exact ht.elim
theorem zs_if_lt {off : Int} {tgt : Nat} (hd : decode cc pc = .ok (.ifCond .lt off, 3)) (ht' : (pc : Int) + off = (tgt : Int)) : Sn G l own cc nL d ret pc (z_if1 (fun x => x < 0) tgt) := by
  intro p e s m args below meth c post X C hX loc stk σ ht H locs ls hP hS hl hoL hoS
  obtain ⟨hx, hb, hml, hown, hts, hret, hlk, hK, hG⟩ := C
  unfold z_if1 at ht
  split at ht
  · refine lv_if_lt hx hb hd ht' (fun h => ?_) (fun h => ?_)
    · exact hX _ _ _ _ (ht.1 h) H locs ls hP hS hl hoL hoS.2
    · exact hX _ _ _ _ (ht.2 h) H locs ls hP hS hl hoL hoS.2
  · exact ht.elim
theorem zs_icmp_lt {off : Int} {tgt : Nat} (hd : decode cc pc = .ok (.if_icmp .lt off, 3)) (ht' : (pc : Int) + off = (tgt : Int)) : Sn G l own cc nL d ret pc (z_if2 (fun x y => x < y) tgt) := by
  intro p e s m args below meth c post X C hX loc stk σ ht H locs ls hP hS hl hoL hoS
  obtain ⟨hx, hb, hml, hown, hts, hret, hlk, hK, hG⟩ := C
  unfold z_if2 at ht
  split at ht
  · refine lv_icmp_lt hx hb hd ht' (fun h => ?_) (fun h => ?_)
    · exact hX _ _ _ _ (ht.1 h) H locs ls hP hS hl hoL hoS.2.2
    · exact hX _ _ _ _ (ht.2 h) H locs ls hP hS hl hoL hoS.2.2
  · exact ht.elim
theorem zs_if_ge {off : Int} {tgt : Nat} (hd : decode cc pc = .ok (.ifCond .ge off, 3)) (ht' : (pc : Int) + off = (tgt : Int)) : Sn G l own cc nL d ret pc (z_if1 (fun x => 0 ≤ x) tgt) := by
  intro p e s m args below meth c post X C hX loc stk σ ht H locs ls hP hS hl hoL hoS
  obtain ⟨hx, hb, hml, hown, hts, hret, hlk, hK, hG⟩ := C
  unfold z_if1 at ht
  split at ht
  · refine lv_if_ge hx hb hd ht' (fun h => ?_) (fun h => ?_)
    · exact hX _ _ _ _ (ht.1 h) H locs ls hP hS hl hoL hoS.2
    · exact hX _ _ _ _ (ht.2 h) H locs ls hP hS hl hoL hoS.2
  · exact ht.elim
theorem zs_icmp_ge {off : Int} {tgt : Nat} (hd : decode cc pc = .ok (.if_icmp .ge off, 3)) (ht' : (pc : Int) + off = (tgt : Int)) : Sn G l own cc nL d ret pc (z_if2 (fun x y => y ≤ x) tgt) := by
  intro p e s m args below meth c post X C hX loc stk σ ht H locs ls hP hS hl hoL hoS
  obtain ⟨hx, hb, hml, hown, hts, hret, hlk, hK, hG⟩ := C
  unfold z_if2 at ht
  split at ht
  · refine lv_icmp_ge hx hb hd ht' (fun h => ?_) (fun h => ?_)
    · exact hX _ _ _ _ (ht.1 h) H locs ls hP hS hl hoL hoS.2.2
    · exact hX _ _ _ _ (ht.2 h) H locs ls hP hS hl hoL hoS.2.2
  · exact ht.elim
theorem zs_if_gt {off : Int} {tgt : Nat} (hd : decode cc pc = .ok (.ifCond .gt off, 3)) (ht' : (pc : Int) + off = (tgt : Int)) : Sn G l own cc nL d ret pc (z_if1 (fun x => 0 < x) tgt) := by
  intro p e s m args below meth c post X C hX loc stk σ ht H locs ls hP hS hl hoL hoS
  obtain ⟨hx, hb, hml, hown, hts, hret, hlk, hK, hG⟩ := C
  unfold z_if1 at ht
  split at ht
  · refine lv_if_gt hx hb hd ht' (fun h => ?_) (fun h => ?_)
    · exact hX _ _ _ _ (ht.1 h) H locs ls hP hS hl hoL hoS.2
    · exact hX _ _ _ _ (ht.2 h) H locs ls hP hS hl hoL hoS.2
  · exact ht.elim
theorem zs_icmp_gt {off : Int} {tgt : Nat} (hd : decode cc pc = .ok (.if_icmp .gt off, 3)) (ht' : (pc : Int) + off = (tgt : Int)) : Sn G l own cc nL d ret pc (z_if2 (fun x y => y < x) tgt) := by
  intro p e s m args below meth c post X C hX loc stk σ ht H locs ls hP hS hl hoL hoS
  obtain ⟨hx, hb, hml, hown, hts, hret, hlk, hK, hG⟩ := C
  unfold z_if2 at ht
  split at ht
  · refine lv_icmp_gt hx hb hd ht' (fun h => ?_) (fun h => ?_)
    · exact hX _ _ _ _ (ht.1 h) H locs ls hP hS hl hoL hoS.2.2
    · exact hX _ _ _ _ (ht.2 h) H locs ls hP hS hl hoL hoS.2.2
  · exact ht.elim
theorem zs_if_le {off : Int} {tgt : Nat} (hd : decode cc pc = .ok (.ifCond .le off, 3)) (ht' : (pc : Int) + off = (tgt : Int)) : Sn G l own cc nL d ret pc (z_if1 (fun x => x ≤ 0) tgt) := by
  intro p e s m args below meth c post X C hX loc stk σ ht H locs ls hP hS hl hoL hoS
  obtain ⟨hx, hb, hml, hown, hts, hret, hlk, hK, hG⟩ := C
  unfold z_if1 at ht
  split at ht
  · refine lv_if_le hx hb hd ht' (fun h => ?_) (fun h => ?_)
    · exact hX _ _ _ _ (ht.1 h) H locs ls hP hS hl hoL hoS.2
    · exact hX _ _ _ _ (ht.2 h) H locs ls hP hS hl hoL hoS.2
  · exact ht.elim
theorem zs_icmp_le {off : Int} {tgt : Nat} (hd : decode cc pc = .ok (.if_icmp .le off, 3)) (ht' : (pc : Int) + off = (tgt : Int)) : Sn G l own cc nL d ret pc (z_if2 (fun x y => x ≤ y) tgt) := by
  intro p e s m args below meth c post X C hX loc stk σ ht H locs ls hP hS hl hoL hoS
  obtain ⟨hx, hb, hml, hown, hts, hret, hlk, hK, hG⟩ := C
  unfold z_if2 at ht
  split at ht
  · refine lv_icmp_le hx hb hd ht' (fun h => ?_) (fun h => ?_)
    · exact hX _ _ _ _ (ht.1 h) H locs ls hP hS hl hoL hoS.2.2
    · exact hX _ _ _ _ (ht.2 h) H locs ls hP hS hl hoL hoS.2.2
  · exact ht.elim
def z_nf1 (tgt : Nat) : Tr := fun _ X pc loc stk σ => match stk with
  | .inl x :: r => (¬ x = 0 → X tgt loc r σ) ∧ (x = 0 → X (pc + 3) loc r σ)
  | _ => False
def z_nf2 (tgt : Nat) : Tr := fun _ X pc loc stk σ => match stk with
  | .inl y :: .inl x :: r => (¬ x = y → X tgt loc r σ) ∧ (x = y → X (pc + 3) loc r σ)
  | _ => False
theorem zs_if_ne {off : Int} {tgt : Nat} (hd : decode cc pc = .ok (.ifCond .ne off, 3)) (ht' : (pc : Int) + off = (tgt : Int)) : Sn G l own cc nL d ret pc (z_nf1 tgt) := by
  intro p e s m args below meth c post X C hX loc stk σ ht H locs ls hP hS hl hoL hoS
  obtain ⟨hx, hb, hml, hown, hts, hret, hlk, hK, hG⟩ := C
  unfold z_nf1 at ht
  split at ht
  · refine lv_if_ne hx hb hd ht' (fun h => ?_) (fun h => ?_)
    · exact hX _ _ _ _ (ht.1 h) H locs ls hP hS hl hoL hoS.2
    · exact hX _ _ _ _ (ht.2 h) H locs ls hP hS hl hoL hoS.2
  · exact ht.elim
theorem zs_icmp_ne {off : Int} {tgt : Nat} (hd : decode cc pc = .ok (.if_icmp .ne off, 3)) (ht' : (pc : Int) + off = (tgt : Int)) : Sn G l own cc nL d ret pc (z_nf2 tgt) := by
  intro p e s m args below meth c post X C hX loc stk σ ht H locs ls hP hS hl hoL hoS
  obtain ⟨hx, hb, hml, hown, hts, hret, hlk, hK, hG⟩ := C
  unfold z_nf2 at ht
  split at ht
  · refine lv_icmp_ne hx hb hd ht' (fun h => ?_) (fun h => ?_)
    · exact hX _ _ _ _ (ht.1 h) H locs ls hP hS hl hoL hoS.2.2
    · exact hX _ _ _ _ (ht.2 h) H locs ls hP hS hl hoL hoS.2.2
  · exact ht.elim
end SN
