/-! A method: its program, what it is to be closed under it, and its contract -/
abbrev Prg : Type := List (Nat × Tr)
def lkp : Prg → Nat → Option Tr
  | [], _ => none
  | q :: r, i => bif Nat.beq q.1 i then some q.2 else lkp r i
def stp (pr : Prg) (post : Option AV → SS → Prop) (X : Kx) : Kx := fun pc loc stk σ => match lkp pr pc with
  | some t => t post X pc loc stk σ
  | none => False
/-- two values that the machine can't tell apart -/
def eqv (v w : AV) : Prop := v = w ∨ ∃ a b, v = .inr (.inl a) ∧ w = .inr (.inl b) ∧ lv a = lv b
/-- what the first list says of the locals the second says too -/
def subL : Loc' → Loc' → Prop
  | [], _ => True
  | q :: r, l => (∃ w, lk l q.1 = some w ∧ eqv q.2 w) ∧ subL r l
theorem eqv_c (G : Geo) {v w : AV} (h : eqv v w) : conc G v = conc G w := by
  rcases h with rfl | ⟨a, b, rfl, rfl, h⟩
  · rfl
  · show Value.long (lv a) = Value.long (lv b)
    rw [h]
theorem eqv_ok {v w : AV} (h : eqv v w) (hw : okv w) : okv v := by
  rcases h with rfl | ⟨a, b, rfl, rfl, h⟩
  · exact hw
  · trivial
theorem subL_has {G : Geo} {ls : Array Slot} {nL : Nat} {l' : Loc'} (hl : lv_has ls nL (cloc G l')) : ∀ {l : Loc'}, subL l l' → lv_has ls nL (cloc G l)
  | [], _ => ⟨hl.1, hl.2.1, fun q h => by cases h⟩
  | q :: r, h => by
    obtain ⟨⟨w, h1, h2⟩, h3⟩ := h
    have ih := subL_has hl h3
    refine ⟨hl.1, hl.2.1, fun x hx => ?_⟩
    rcases List.mem_cons.mp hx with rfl | hx
    · show ls[q.1]? = some (.val (conc G q.2))
      rw [eqv_c G h2]
      exact lk_has hl h1
    · exact ih.2.2 x hx
theorem subL_ok {l' : Loc'} (hl : okL l') : ∀ {l : Loc'}, subL l l' → okL l
  | [], _ => trivial
  | _ :: _, h => ⟨eqv_ok h.1.choose_spec.2 (lk_ok hl h.1.choose_spec.1), subL_ok hl h.2⟩
/-- X holds wherever one step comes to where a part of X holds, and where more is known of the locals -/
def Closed (pr : Prg) (post : Option AV → SS → Prop) (X : Kx) : Prop :=
  (∀ Y : Kx, (∀ pc loc stk σ, Y pc loc stk σ → X pc loc stk σ) → ∀ pc loc stk σ, stp pr post Y pc loc stk σ → X pc loc stk σ) ∧
  ∀ pc loc loc' stk σ, X pc loc stk σ → subL loc loc' → X pc loc' stk σ
theorem wk {pr : Prg} {post : Option AV → SS → Prop} {X : Kx} (hC : Closed pr post X) {pc : Nat} {loc loc' : Loc'} {stk : List AV} {σ : SS} (h : X pc loc stk σ) (hs : subL loc loc') : X pc loc' stk σ := hC.2 pc loc loc' stk σ h hs
def memb : Nat → List Nat → Bool
  | _, [] => false
  | a, b :: r => bif Nat.beq a b then true else memb a r
def runN (pr : Prg) (post : Option AV → SS → Prop) (stops : List Nat) (X : Kx) : Nat → Kx
  | 0 => X
  | n + 1 => fun pc loc stk σ => bif memb pc stops then X pc loc stk σ else stp pr post (runN pr post stops X n) pc loc stk σ
theorem runN_le {pr : Prg} {post : Option AV → SS → Prop} {stops : List Nat} {X : Kx} (hC : Closed pr post X) : ∀ (n pc : Nat) (loc : Loc') (stk : List AV) (σ : SS), runN pr post stops X n pc loc stk σ → X pc loc stk σ
  | 0, _, _, _, _, h => h
  | n + 1, pc, loc, stk, σ, h => by
    unfold runN at h
    cases hm : memb pc stops with
    | true => rw [hm] at h; exact h
    | false => rw [hm] at h; exact hC.1 _ (runN_le hC n) pc loc stk σ h
/-- from here, up to n steps, up to the stops -/
theorem go {pr : Prg} {post : Option AV → SS → Prop} {X : Kx} (hC : Closed pr post X) (stops : List Nat) (n : Nat) {pc : Nat} {loc : Loc'} {stk : List AV} {σ : SS} (h : stp pr post (runN pr post stops X n) pc loc stk σ) : X pc loc stk σ :=
  hC.1 _ (runN_le hC n) pc loc stk σ h
def argl : Nat → List AV → Loc'
  | _, [] => []
  | i, v :: vs => (i, v) :: argl (bif isLg v then i + 2 else i + 1) vs
theorem argl_c (G : Geo) : ∀ (av : List AV) (i : Nat), lv_args i (av.map (conc G)) = cloc G (argl i av)
  | [], _ => rfl
  | v :: vs, i => by
    show (i, conc G v) :: lv_args (if (conc G v).category = 2 then i + 2 else i + 1) (vs.map (conc G)) = (i, conc G v) :: cloc G (argl (bif isLg v then i + 2 else i + 1) vs)
    have e : (if (conc G v).category = 2 then i + 2 else i + 1) = (bif isLg v then i + 2 else i + 1) := by
      rcases v with x | x | x <;> rfl
    rw [e, argl_c G vs]
theorem sl_len (G : Geo) : ∀ (av : List AV), (lg_sl (av.map (conc G))).length = csum av
  | [] => rfl
  | v :: vs => by
    have h := sl_len G vs
    unfold lg_sl at h ⊢
    rw [List.map_cons, List.flatMap_cons, List.length_append, h]
    show _ = (bif isLg v then 2 else 1) + csum vs
    rcases v with x | x | x <;> rfl
theorem argl_ok : ∀ (av : List AV) (i : Nat), okS av → okL (argl i av)
  | [], _, _ => trivial
  | _ :: vs, _, h => ⟨h.1, argl_ok vs _ h.2⟩
theorem ltb_code {w : Cond} {ws : List Cond} {args : Array Value} {s : State} (h : ∀ c ∈ (w :: ws), c.before args s = true) : ∀ c ∈ ws, c.before args s = true := fun c hc => h c (List.mem_cons_of_mem _ hc)
theorem Ct.of {G : Geo} {l : Launch} {y : MethodName} {cc : ByteArray} {maxL : Nat} {ret : Option FieldType} {d : Nat} {sp : Spc} (pr : Prg) (hG : GeoOK G) (hy : plainFor y = true) (hsn : ∀ q ∈ pr, Sn G l y.cls cc maxL d ret q.1 q.2)
    (body : ∀ (av : List AV) (σ : SS) (post : Option AV → SS → Prop), okS av → sp av σ post → csum av ≤ maxL ∧ ∀ X : Kx, Closed pr post X → X 0 (argl 0 av) [] σ) : Ct G l y cc maxL ret d sp := by
  intro av σ post hok hsp
  refine va_MetF (cc := cc) (maxL := maxL) (ret := ret) hy rfl ?_
  intro p e s m args below meth c s₁ B hml hv
  obtain ⟨rfl, hP, hK⟩ := hv
  have hts := ltb_code (atoms_spec (ws := .code y cc maxL ret :: ltb) B.pre)
  have hcx : Cx G y.cls cc maxL ret p s m (av.map (conc G)).toArray meth c := ⟨B.exec, B.bytes, hml, findClass_of_methodNamed B.named, hts, B.returns, B.notSynchronized, hK, hG⟩
  obtain ⟨hlen, hb⟩ := body av σ post hok hsp
  have hcl : Closed pr post (Hd G l maxL d post p e s m (av.map (conc G)).toArray below meth c) := by
    refine ⟨?_, fun pc loc loc' stk σ' h hs H locs ls hP hS hl hoL hoS => h H locs ls hP hS (subL_has hl hs) (subL_ok hoL hs) hoS⟩
    intro Y hY pc loc stk σ' h
    unfold stp at h
    split at h
    · rename_i t ht
      have hmem : (pc, t) ∈ pr := by
        clear h hb hsn body
        induction pr with
        | nil => cases ht
        | cons q r ih =>
          unfold lkp at ht
          cases hbq : Nat.beq q.1 pc with
          | true =>
            rw [hbq] at ht
            have h1 : q.2 = t := Option.some.inj ht
            have h2 : q.1 = pc := Nat.eq_of_beq_eq_true hbq
            rw [← h1, ← h2]
            exact List.mem_cons_self
          | false =>
            rw [hbq] at ht
            exact List.mem_cons_of_mem _ (ih ht)
      exact hsn (pc, t) hmem p e s m _ below meth c post Y hcx hY loc stk σ' h
    · exact h.elim
  have hl := lv_entry (av.map (conc G)) (n := maxL) (by rw [sl_len]; exact hlen)
  rw [lg_entry_eq]
  rw [argl_c G av 0] at hl
  exact hb _ hcl s.heap [] _ hP va_S.rf hl (argl_ok av 0 hok) trivial
