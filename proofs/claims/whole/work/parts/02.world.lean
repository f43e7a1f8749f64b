/-! The world: every object of the class and of the reference by a kind and an index. Numbers of the field are Fin P; the state is three tables: vectors, long arrays, ints. -/
abbrev ZF : Type := Fin 2147483647
def em (f : ZF) : Int64 := lN f.val
/-- a long: any, or a number of the field -/
abbrev LV : Type := Int64 ⊕ ZF
def lv : LV → Int64
  | .inl x => x
  | .inr f => em f
abbrev AV : Type := Int32 ⊕ (LV ⊕ (Nat × Nat))
abbrev ai (x : Int32) : AV := .inl x
abbrev al (x : Int64) : AV := .inr (.inl (.inl x))
abbrev af (f : ZF) : AV := .inr (.inl (.inr f))
abbrev ar (kd k : Nat) : AV := .inr (.inr (kd, k))
abbrev V3 : Type := ZF × ZF × ZF
abbrev SS : Type := (Nat → Nat → V3) × (Nat → Nat → Nat → ZF) × (Nat → Nat → Int32)
def sV (σ : SS) (kd k : Nat) (v : V3) : SS := (fun a b => if a = kd ∧ b = k then v else σ.1 a b, σ.2)
def sL (σ : SS) (kd k i : Nat) (x : ZF) : SS := (σ.1, fun a b j => if a = kd ∧ b = k ∧ j = i then x else σ.2.1 a b j, σ.2.2)
def sI (σ : SS) (kd i : Nat) (x : Int32) : SS := (σ.1, σ.2.1, fun a j => if a = kd ∧ j = i then x else σ.2.2 a j)
/-- the places: (kind, index). 0 LimbWorks, 1 its bodies, 2 a Body, 3 its Inertia, 4 its Frame, 5 entries, 6 the reference, 7, 8 its parents and slides; 10 .. 18 long arrays of LimbWorks, 19 the rows of entries, 20 .. 42 the reference's long arrays; 50 .. 68 a body's vectors, 69 gravity, 70 noGravity -/
def prs1 : List Nat := [0, 1, 5, 6, 7, 8, 10, 11, 12, 13, 14, 15, 16, 17, 18, 20, 21, 22, 23, 24, 25, 26, 27, 28, 29, 30, 31, 32, 33, 34, 35, 36, 37, 38, 39, 40, 41, 42, 69, 70]
def prs8 : List Nat := [2, 3, 4, 19, 50, 51, 52, 53, 54, 55, 56, 57, 58, 59, 60, 61, 62, 63, 64, 65, 66, 67, 68]
def prs : List (Nat × Nat) := prs1.map (fun a => (a, 0)) ++ prs8.flatMap (fun a => (List.range 8).map (fun k => (a, k)))
theorem prs_iff {kd k : Nat} : (kd, k) ∈ prs ↔ (kd ∈ prs1 ∧ k = 0) ∨ (kd ∈ prs8 ∧ k < 8) := by
  unfold prs
  constructor
  · intro h
    rcases List.mem_append.mp h with h | h
    · obtain ⟨a, h1, h2⟩ := List.mem_map.mp h
      cases h2
      exact Or.inl ⟨h1, rfl⟩
    · obtain ⟨a, h1, h2⟩ := List.mem_flatMap.mp h
      obtain ⟨j, h3, h4⟩ := List.mem_map.mp h2
      cases h4
      exact Or.inr ⟨h1, List.mem_range.mp h3⟩
  · intro h
    rcases h with ⟨h, rfl⟩ | ⟨h, hk⟩
    · exact List.mem_append_left _ (List.mem_map.mpr ⟨kd, h, rfl⟩)
    · exact List.mem_append_right _ (List.mem_flatMap.mpr ⟨kd, h, List.mem_map.mpr ⟨k, List.mem_range.mpr hk, rfl⟩⟩)
theorem prs_nd : prs.Nodup := by decide +kernel
theorem prs_inj {i j : Nat} {a : Nat × Nat} (h1 : prs[i]? = some a) (h2 : prs[j]? = some a) : i = j :=
  (List.getElem?_inj (List.getElem?_eq_some_iff.mp h1).1 prs_nd).mp (h1.trans h2.symm)
/-- how long a long array is -/
def alen (kd : Nat) : Nat := match kd with
  | 20 => 128 | 24 => 3 | 27 => 72 | 28 => 24 | 29 => 24 | 30 => 24 | 31 => 24 | 32 => 24 | 33 => 24 | 34 => 24 | 35 => 24 | 36 => 3 | 37 => 3 | 38 => 3 | 39 => 9 | 40 => 9 | 41 => 64 | 42 => 64
  | _ => 8
/-- an object's fields, in the order of the slots (no vectors) -/
def flds (kd k : Nat) (σ : SS) : List AV := match kd with
  | 0 => [ar 1 0, ai (σ.2.2 0 0), ar 69 0, ar 70 0, ar 10 0, ar 11 0, ar 12 0, ar 13 0, ar 14 0, ar 15 0, ar 16 0, ar 5 0, ar 17 0, ar 18 0]
  | 2 => [ai (σ.2.2 1 k), ai (σ.2.2 2 k), ar 50 k, af (σ.2.1 2 k 0), af (σ.2.1 2 k 1), ar 51 k, ar 3 k, ar 4 k, ar 59 k, ar 60 k, ar 61 k, ar 62 k, ar 63 k, ar 64 k, ar 65 k, ar 66 k, ar 67 k, ar 68 k]
  | 3 => [ar 52 k, ar 53 k, ar 54 k]
  | 4 => [ar 55 k, ar 56 k, ar 57 k, ar 58 k]
  | 6 => [ai (σ.2.2 6 0), ai (σ.2.2 6 1), ar 7 0, ar 8 0, ar 20 0, ar 21 0, ar 22 0, ar 23 0, ar 24 0, ar 25 0, ar 26 0, ar 27 0, ar 28 0, ar 29 0, ar 30 0, ar 31 0, ar 32 0, ar 33 0, ar 34 0, ar 35 0, ar 36 0, ar 37 0, ar 38 0, ar 39 0, ar 40 0, ar 41 0, ar 42 0]
  | _ => []
/-- which class of vwCl an object is of -/
def clx (kd : Nat) : Nat := match kd with
  | 0 => 4 | 2 => 0 | 3 => 2 | 4 => 1 | 6 => 5 | _ => 99
abbrev Geo : Type := va_G × (ClassId × ClassId × ClassId × ClassId × ClassId) × (Nat → Nat → Nat)
def conc (G : Geo) : AV → Value
  | .inl x => .int x
  | .inr (.inl x) => .long (lv x)
  | .inr (.inr q) => .ref (G.2.2 q.1 q.2)
def cJ (G : Geo) : ClassId := G.2.1.1
def cIn (G : Geo) : ClassId := G.2.1.2.1
def cZn (G : Geo) : ClassId := G.2.1.2.2.1
def cBo (G : Geo) : ClassId := G.2.1.2.2.2.1
def cJJ (G : Geo) : ClassId := G.2.1.2.2.2.2
def tysOf (G : Geo) : List (ClassId × FieldType) := [(cJ G, .long), (cIn G, .int), (cZn G, .boolean), (cBo G, .object "LimbWorks$Body"), (cJJ G, .array .long)]
def vfs (v : V3) : List Value := [.long (em v.1), .long (em v.2.1), .long (em v.2.2)]
def cellOf (G : Geo) (σ : SS) (kd k : Nat) : va_E :=
  if 50 ≤ kd then .inr (3, vfs (σ.1 kd k))
  else if 10 ≤ kd then .inl (cJ G, alen kd, .inr (.inl (fun i => em (σ.2.1 kd k i))))
  else match kd with
    | 1 => .inl (cBo G, 8, .inr (.inr (.inr (.inr (fun i => if i < 8 then some (G.2.2 2 i) else none)))))
    | 5 => .inl (cJJ G, 8, .inr (.inr (.inr (.inr (fun i => if i < 8 then some (G.2.2 19 i) else none)))))
    | 7 => .inl (cIn G, 8, .inl (fun i => σ.2.2 7 i))
    | 8 => .inl (cZn G, 8, .inl (fun i => σ.2.2 8 i))
    | n => .inr (clx n, (flds n k σ).map (conc G))
def wsOf (G : Geo) (σ : SS) : va_W := prs.map (fun q => (G.2.2 q.1 q.2, cellOf G σ q.1 q.2))
def AG (G : Geo) : Nat → Prop := fun q => ∃ x ∈ prs, q = G.2.2 x.1 x.2
def GeoOK (G : Geo) : Prop := ∀ (i j : Nat) (a b : Nat × Nat), prs[i]? = some a → prs[j]? = some b → G.2.2 a.1 a.2 = G.2.2 b.1 b.2 → i = j
theorem ws_at {G : Geo} {σ : SS} {q0 : Nat} {q : Nat × va_E} (h : (wsOf G σ)[q0]? = some q) : ∃ x, prs[q0]? = some x ∧ q = (G.2.2 x.1 x.2, cellOf G σ x.1 x.2) := by
  unfold wsOf at h
  rw [List.getElem?_map] at h
  cases hx : prs[q0]? with
  | none => rw [hx] at h; cases h
  | some x => rw [hx] at h; exact ⟨x, rfl, (Option.some.inj h).symm⟩
theorem ws_get (G : Geo) (σ : SS) {kd k : Nat} (h : (kd, k) ∈ prs) : ∃ q0 : Nat, prs[q0]? = some (kd, k) ∧ (wsOf G σ)[q0]? = some (G.2.2 kd k, cellOf G σ kd k) := by
  obtain ⟨q0, h0⟩ := List.getElem?_of_mem h
  exact ⟨q0, h0, by unfold wsOf; rw [List.getElem?_map, h0]; rfl⟩
theorem ws_set {G : Geo} {σ σ' : SS} {q0 kd k : Nat} {e : va_E} (h : prs[q0]? = some (kd, k)) (h1 : cellOf G σ' kd k = e) (h2 : ∀ a b, (a, b) ∈ prs → (a, b) ≠ (kd, k) → cellOf G σ' a b = cellOf G σ a b) :
    (wsOf G σ).set q0 (G.2.2 kd k, e) = wsOf G σ' := by
  apply List.ext_getElem?
  intro i
  by_cases hi : q0 = i
  · subst hi
    have hlt : q0 < (wsOf G σ).length := by
      unfold wsOf
      rw [List.length_map]
      exact (List.getElem?_eq_some_iff.mp h).1
    rw [List.getElem?_set_self hlt]
    unfold wsOf
    rw [List.getElem?_map, h, ← h1]
    rfl
  · rw [List.getElem?_set_ne hi]
    unfold wsOf
    rw [List.getElem?_map, List.getElem?_map]
    cases hx : prs[i]? with
    | none => rfl
    | some x =>
      obtain ⟨a, b⟩ := x
      show some (G.2.2 a b, cellOf G σ a b) = some (G.2.2 a b, cellOf G σ' a b)
      rw [h2 a b (List.mem_of_getElem? hx) (fun q => hi (prs_inj h (q ▸ hx)))]
theorem ws_D {G : Geo} (σ : SS) (hG : GeoOK G) : va_D (AG G) (wsOf G σ) := by
  refine ⟨fun i j p q hi hj hpq => ?_, fun k q hk => ?_⟩
  · obtain ⟨x, h1, rfl⟩ := ws_at hi
    obtain ⟨y, h2, rfl⟩ := ws_at hj
    exact hG i j x y h1 h2 hpq
  · obtain ⟨x, h1, rfl⟩ := ws_at hk
    exact ⟨x, List.mem_of_getElem? h1, rfl⟩
def okv : AV → Prop
  | .inr (.inr q) => q ∈ prs
  | _ => True
def okS : List AV → Prop
  | [] => True
  | v :: r => okv v ∧ okS r
def okL : List (Nat × AV) → Prop
  | [] => True
  | q :: r => okv q.2 ∧ okL r
def okr : Option AV → Prop
  | none => True
  | some v => okv v
theorem okS_mem {l : List AV} : okS l ↔ ∀ v ∈ l, okv v := by
  induction l with
  | nil => simp [okS]
  | cons a l ih => simp [okS, ih]
theorem okS_app {a b : List AV} (ha : okS a) (hb : okS b) : okS (a ++ b) := by
  rw [okS_mem] at *
  intro v hv
  rcases List.mem_append.mp hv with h | h
  · exact ha v h
  · exact hb v h
theorem okL_mem {l : List (Nat × AV)} : okL l ↔ ∀ v ∈ l, okv v.2 := by
  induction l with
  | nil => simp [okL]
  | cons a l ih => simp [okL, ih]
def nth {α : Type} : List α → Nat → Option α
  | [], _ => none
  | a :: _, 0 => some a
  | _ :: r, n + 1 => nth r n
theorem nth_eq {α : Type} (l : List α) (n : Nat) : nth l n = l[n]? := by
  induction l generalizing n with
  | nil => simp [nth]
  | cons a l ih => cases n with
    | zero => simp [nth]
    | succ n => simp [nth, ih]
theorem prs_lt8 {kd k : Nat} (h : (kd, k) ∈ prs) : k < 8 := by
  rcases prs_iff.mp h with ⟨-, rfl⟩ | ⟨-, h2⟩
  · omega
  · exact h2
theorem prs_0 {a : Nat} (h : a ∈ prs1) : (a, 0) ∈ prs := prs_iff.mpr (Or.inl ⟨h, rfl⟩)
theorem prs_8 {a k : Nat} (h : a ∈ prs8) (hk : k < 8) : (a, k) ∈ prs := prs_iff.mpr (Or.inr ⟨h, hk⟩)
theorem flds_ok {kd k : Nat} (σ : SS) (h : (kd, k) ∈ prs) : okS (flds kd k σ) := by
  have h8 := prs_lt8 h
  unfold flds
  split
  all_goals repeat' apply And.intro
  all_goals first
    | trivial
    | exact prs_0 (by decide)
    | exact prs_8 (by decide) h8
