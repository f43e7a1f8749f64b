/-! Constructors: what a new object is, and how one is made -/
theorem va_AOA.moved {t : FieldType} {u U : State} (hvm : u.vm.Alike U.vm) (h : va_AOA t u) : va_AOA t U := by
  obtain ⟨comp, c, k, h1, h2, h3, h4, h5⟩ := arrayOverA_spec h
  obtain ⟨k', hk', he⟩ := hvm.2.2 _ _ h3
  have hi : (U.vm.classes.findIdx? fun (x : Class) => match x.kind with | .array component _ => component == comp | _ => false) = some c := by
    have e1 := va_idx_bare U.vm comp
    have e2 := va_idx_bare u.vm comp
    have hbe : U.vm.bare = u.vm.bare := by first | exact hvm.bare_eq | exact hvm.bare_eq.symm
    rw [hbe] at e1
    exact e1.symm.trans (e2.trans h2)
  have hkind : k'.kind = .array comp (.array t) := by rw [he]; exact h4
  have f1 : U.vm.findClass (FieldType.array t).toString = some comp := by rw [hvm.findClass]; exact h1
  have f2 : U.vm.findClass ("[" ++ (FieldType.array t).toString) = some c := by rw [hvm.findClass]; exact h5
  unfold va_AOA Cond.before Cond.holds
  simp only [Cond.value]
  rw [f1, Option.bind_some]
  refine (congrArg (fun o : Option Nat => (o.bind (fun c => (U.vm.classes[c]?).map fun (k : Class) => match k.kind with | .array _ ty => decide (ty = FieldType.array t) && decide (U.vm.findClass ("[" ++ (FieldType.array t).toString) = some c) | _ => false) == some true)) hi).trans ?_
  simp [hk', hkind, f2]
def rmb (d c n : Nat) : Room := { frames := d, cells := c, slots := n, locals := 46 * d }
abbrev C5 : Type := ClassId × ClassId × ClassId × ClassId × ClassId
def tys5 (c : C5) : List (ClassId × FieldType) := [(c.1, .long), (c.2.1, .int), (c.2.2.1, .boolean), (c.2.2.2.1, .object "LimbWorks$Body"), (c.2.2.2.2, .array .long)]
def nwA (h0 sz : Nat) : Nat → Prop := fun q => q = h0 ∨ sz ≤ q
/-- the words of private constructors -/
def XN (U : State) : Prop := va_Nw (.methodLinkNest RX5 15 yX0_init RX5) U ∧ va_Nw (.methodLinkNest RX0 23 yX3_init RX5) U ∧ va_Nw (.methodLinkNest RX0 30 yX2_init RX5) U
theorem XN.same {u U : State} (h : u.vm = U.vm) (x : XN u) : XN U := ⟨va_Nw.same rfl h x.1, va_Nw.same rfl h x.2.1, va_Nw.same rfl h x.2.2⟩
theorem XN.warm {s U : State} (h : s.WarmedH U.vm) (x : XN s) : XN U := ⟨va_Nw.warmM h x.1, va_Nw.warmM h x.2.1, va_Nw.warmM h x.2.2⟩
def XA (U : State) : Prop := va_AO "LimbWorks$Body" U ∧ va_AOA .long U
theorem XA.moved {u U : State} (h : u.vm.Alike U.vm) (x : XA u) : XA U := ⟨va_AO.moved h x.1, va_AOA.moved h x.2⟩
def QB (D : va_G) (Sh : va_W → Prop) (h0 sz : Nat) : Array Value → State → Outcome → State → Prop := fun _ st oc t =>
  (oc = .returned none ∧ ∃ ws, Sh ws ∧ va_P D vwCl ws t.heap ∧ va_D (nwA h0 sz) ws) ∧ va_F (nwA h0 sz) st t
def PB (D : va_G) (c5 : C5) (h0 sz ci : Nat) (fs0 As : List Value) : Array Value → State → Prop := va_Pc (.ref h0 :: As) (fun U => U.heap.size = sz ∧ va_P D vwCl [(h0, .inr (ci, fs0))] U.heap ∧ va_K D vwCl (tys5 c5) U ∧ XN U ∧ XA U)
def Cn (l : Launch) (y : MethodName) (cc : ByteArray) (maxL : Nat) (rm : Room) (ci : Nat) (fs0 As : List Value) (mc ms : Nat) (Sh : C5 → Nat → va_W → Prop) : Prop :=
  ∀ (D : va_G) (c5 : C5) (h0 sz : Nat), Met l y (.code y cc maxL none :: ltb) rm (PB D c5 h0 sz ci fs0 As) (QB D (Sh c5 h0) h0 sz) mc ms (nwA h0 sz)
theorem pb_blind {D : va_G} {c5 : C5} {h0 sz ci : Nat} {fs0 As : List Value} : FrameBlind (PB D c5 h0 sz ci fs0 As) := fun a U g mk q => by
  obtain ⟨q0, q1, qP, qK, qN, qA⟩ := q
  exact ⟨q0, q1, qP, va_K.moved (u := U) (U := U.calling g mk a) (Vm.Alike.refl U.vm) qK, XN.same (u := U) rfl qN, XA.moved (u := U) (U := U.calling g mk a) (Vm.Alike.refl U.vm) qA⟩
theorem D_app {A : Nat → Prop} {ws ws' : va_W} (h1 : va_D A ws) (h2 : va_D A ws') (h : ∀ (i j : Nat) (x y : Nat × va_E), ws[i]? = some x → ws'[j]? = some y → x.1 ≠ y.1) : va_D A (ws ++ ws') := by
  have cut : ∀ (i : Nat) (x : Nat × va_E), (ws ++ ws')[i]? = some x → (i < ws.length ∧ ws[i]? = some x) ∨ (ws.length ≤ i ∧ ws'[i - ws.length]? = some x) := fun i x hx => by
    by_cases hl : i < ws.length
    · rw [List.getElem?_append_left hl] at hx
      exact Or.inl ⟨hl, hx⟩
    · rw [List.getElem?_append_right (by omega)] at hx
      exact Or.inr ⟨by omega, hx⟩
  refine ⟨fun i j x y hi hj e => ?_, fun k x hk => ?_⟩
  · rcases cut i x hi with ⟨a, b⟩ | ⟨a, b⟩ <;> rcases cut j y hj with ⟨a', b'⟩ | ⟨a', b'⟩
    · exact h1.1 i j x y b b' e
    · exact absurd e (h _ _ _ _ b b')
    · exact absurd e.symm (h _ _ _ _ b' b)
    · have := h2.1 _ _ x y b b' e
      omega
  · rcases cut k x hk with ⟨a, b⟩ | ⟨a, b⟩
    · exact h1.2 k x b
    · exact h2.2 _ x b
/-- what stands fixed in a constructor -/
def CB (D : va_G) (c5 : C5) (own : String) (cc : ByteArray) (nL : Nat) (p : Program) (s : State) (m : MethodId) (args : Array Value) (c : Code) : Prop :=
  p.tables.exec = Jvm.exec ∧ c.code = cc ∧ c.maxLocals = nL ∧ s.vm.findClass own = some m.cls ∧ (∀ w ∈ ltb, w.before args s = true) ∧ va_K D vwCl (tys5 c5) s ∧ XN s ∧ XA s
section BD
variable {p : Program} {l : Launch} {e : Env} {R : Room} {s : State} {m : MethodId} {args : Array Value} {below : List Frame} {meth : Method} {c : Code} {Q : State → Prop} {H H0 : Heap} {locs : List Loc} {cells slots pc : Nat} {ls : Array Slot} {rest : List Value} {D : va_G} {c5 : C5} {A : Nat → Prop} {ws : va_W} {own : String} {cc : ByteArray} {nL : Nat}
theorem cn_run {st0 : List Value} {mc ms q : Nat} {e0 : va_E} {Sh : va_W → Prop} {a : Array Value} (hr : va_Run p l e R s m args below meth c H locs cells slots mc ms (F0 m pc ls st0) rest (QB D Sh q H.size a) (nwA q H.size)) (hP : va_P D vwCl (ws ++ [(q, e0)]) H) (hD : va_D A (ws ++ [(q, e0)])) (hS : va_S A H0 H locs) (hA : ∀ x, H0.size ≤ x → A x)
    (kk : ∀ (ws' : va_W) (H1 : Heap) (locs1 : List Loc), Sh ws' → va_P D vwCl (ws ++ ws') H1 → va_D A (ws ++ ws') → va_S A H0 H1 locs1 → W p l e R s m args below meth c H1 locs1 (cells + mc) (slots + ms) Q (F0 m (pc + 3) ls rest)) :
    W p l e R s m args below meth c H locs cells slots Q (F0 m pc ls st0) := by
  intro T hT X
  obtain ⟨v, st₀, t, T', L, h0, X', hL, e1, e2, ⟨⟨hv, ws', hSh, hP', hD'⟩, hz, hk⟩, st⟩ := hr T hT X
  cases hv
  rw [h0] at hz hk
  have hlast : (ws ++ [(q, e0)])[ws.length]? = some (q, e0) := by simp
  have hq : A q := hD.2 ws.length (q, e0) hlast
  have hqlt : q < H.size := (hP ws.length (q, e0) hlast).lt
  have hle : ∀ (k : Nat) (x : Nat × va_E), ws[k]? = some x → (ws ++ [(q, e0)])[k]? = some x := fun k x hx => by
    rw [List.getElem?_append_left (List.getElem?_eq_some_iff.mp hx).1]
    exact hx
  have hne : ∀ (k : Nat) (x : Nat × va_E), ws[k]? = some x → x.1 ≠ q := fun k x hx e => by
    have h1 := hD.1 k ws.length x (q, e0) (hle k x hx) hlast e
    have h2 := (List.getElem?_eq_some_iff.mp hx).1
    omega
  have hlt : ∀ (k : Nat) (x : Nat × va_E), ws[k]? = some x → x.1 < H.size := fun k x hx => (hP k x (hle k x hx)).lt
  have hP1 : va_P D vwCl ws T'.heap := fun k x hx => (hP k x (hle k x hx)).kept (by
    rw [e1]
    exact hk x.1 (hlt k x hx) (fun h => by
      rcases h with h | h
      · exact hne k x hx h
      · have := hlt k x hx
        omega))
  have hD1 : va_D A ws := ⟨fun i j x y hi hj e => hD.1 i j x y (hle i x hi) (hle j y hj) e, fun k x hx => hD.2 k x (hle k x hx)⟩
  have hn : ∀ x, nwA q H.size x → A x := fun x h => by
    rcases h with h | h
    · rw [h]; exact hq
    · exact hA x (Nat.le_trans hS.1 h)
  have hD2 : va_D A ws' := ⟨hD'.1, fun k x hx => hn _ (hD'.2 k x hx)⟩
  obtain ⟨t2, a1, b1⟩ := kk ws' T'.heap (locs ++ L) hSh (hP1.app (fun k x hx => by rw [e1]; exact hP' k x hx)) (D_app hD1 hD2 (fun i j x y hi hj e => by
      have h1 := hD'.2 j y hj
      rw [← e] at h1
      rcases h1 with h1 | h1
      · exact hne i x hi h1
      · have := hlt i x hi
        omega))
    ⟨Nat.le_trans hS.1 (by rw [e1]; exact hz), fun x h1 h2 => by rw [e1, hk x (Nat.lt_of_lt_of_le h1 hS.1) (fun h => h2 (hn x h))]; exact hS.2.1 x h1 h2, fun x hx => by
      rcases List.mem_append.mp hx with h | h
      · exact hS.2.2 x h
      · exact hn _ (hL x h)⟩ T' rfl X'
  exact ⟨t2, st t2 a1, b1⟩
theorem bd_new (C : CB D c5 own cc nL p s m args c) {ci N idx : Nat} {Cs : String} {T : u_T} {ty0 : Nat → FieldType} (hC : Cls ci Cs T N ty0) (w1 : Cond.classLink own idx Cs ∈ ltb) (w2 : Cond.instantiable Cs N ∈ ltb) (w3 : Cond.initialized Cs ∈ ltb) {fs0 : List Value} (hfs : ∀ j, j < N → defaultValue (ty0 j) = vp_V fs0 j)
    (hP : va_P D vwCl ws H) (hD : va_D A ws) (hS : va_S A H0 H locs) (hA : ∀ x, H0.size ≤ x → A x) (hcells : cells + 1 ≤ R.cells) (hslots : slots + N ≤ R.slots) (hd : decode cc pc = .ok (.new idx, 3))
    (kk : ∀ (q : Nat) (H1 : Heap), va_P D vwCl (ws ++ [(q, .inr (ci, fs0))]) H1 → va_D A (ws ++ [(q, .inr (ci, fs0))]) → va_S A H0 H1 locs → W p l e R s m args below meth c H1 locs (cells + 1) (slots + N) Q (F0 m (pc + 3) ls (.ref q :: rest))) : W p l e R s m args below meth c H locs cells slots Q (F0 m pc ls rest) := by
  obtain ⟨hx, hb, hml, hown, hts, hK, -, -⟩ := C
  obtain ⟨hc, hin, hty, hnm⟩ := hC
  exact va_new hx hb hts hin ty0 hty hown (hts _ w1) (hts _ w2) (hts _ w3) hK hP hD hS hA hc hfs hcells hslots hd kk
theorem bd_pre (C : CB D c5 own cc nL p s m args c) {q ci : Nat} {fs0 As : List Value} (hP : va_P D vwCl (ws ++ [(q, .inr (ci, fs0))]) H) : PreS s H (PB D c5 q H.size ci fs0 As) (.ref q :: As) := by
  obtain ⟨hx, hb, hml, hown, hts, hK, hN, hXA⟩ := C
  refine ⟨pb_blind, fun U hU hW => ⟨rfl, by rw [hU], fun k x hk => ?_, va_K.moved hW.alike hK, hN.warm hW, hXA.moved hW.alike⟩⟩
  have h0 : k < 1 := (List.getElem?_eq_some_iff.mp hk).1
  rw [show k = 0 by omega] at hk
  cases hk
  rw [hU]
  exact hP ws.length (q, .inr (ci, fs0)) (by simp)
/-- a constructor that may be called from anywhere -/
theorem bd_init (C : CB D c5 own cc nL p s m args c) {y : MethodName} {c2 : ByteArray} {maxL d2 mc ms q ci idx n : Nat} {fs0 As : List Value} {Sh : C5 → Nat → va_W → Prop} (hM : Cn l y c2 maxL (rmb d2 mc ms) ci fs0 As mc ms Sh) (hI : Mi y y.cls n c2 maxL none) (wi : Cond.instanceMethod y ∈ ltb) (wl : Cond.methodLink own idx y ∈ ltb) (hy : y.name = "<init>") (hn : As.length = n) (hr : d2 + 1 ≤ R.frames ∧ 8 + (maxL + 11) + 46 * d2 ≤ R.locals)
    (hrest : (rest.map fun v => v.category).sum ≤ 8) (hP : va_P D vwCl (ws ++ [(q, .inr (ci, fs0))]) H) (hD : va_D A (ws ++ [(q, .inr (ci, fs0))])) (hS : va_S A H0 H locs) (hA : ∀ x, H0.size ≤ x → A x) (hls : ls.size = nL) (hcells : cells + mc ≤ R.cells) (hslots : slots + ms ≤ R.slots) {st0 : List Value} (hst : st0 = As.reverse ++ .ref q :: rest) (hd : decode cc pc = .ok (.invokespecial idx, 3))
    (kk : ∀ (ws' : va_W) (H1 : Heap) (locs1 : List Loc), Sh c5 q ws' → va_P D vwCl (ws ++ ws') H1 → va_D A (ws ++ ws') → va_S A H0 H1 locs1 → W p l e R s m args below meth c H1 locs1 (cells + mc) (slots + ms) Q (F0 m (pc + 3) ls rest)) :
    W p l e R s m args below meth c H locs cells slots Q (F0 m pc ls st0) := by
  have hp := bd_pre (As := As) C hP
  obtain ⟨hx, hb, hml, hown, hts, hK, hN, hXA⟩ := C
  obtain ⟨⟨-, hy1, hy2, hy3⟩, hco, hini, hmx⟩ := hI
  have hgood : GoodIn ltb (.code y c2 maxL none :: ltb) := good_c hco goodTbl
  exact cn_run (va_runI (As := As) (rest := rest) ⟨hx, hb, hml, hown, hts⟩ (hM D c5 q H.size) (cwI n hts hgood rfl rfl rfl (hts _ hini) (hts _ wl) (hts _ wi) hy ⟨hy1, hy2, hy3⟩ hr) hp rfl hn hls hst (lv_room hrest) hd ⟨hcells, hslots⟩) hP hD hS hA kk
/-- a private one, of a nest mate -/
theorem bd_initN (C : CB D c5 own cc nL p s m args c) {y : MethodName} {host : String} {c2 : ByteArray} {maxL d2 mc ms q ci idx n : Nat} {fs0 As : List Value} {Sh : C5 → Nat → va_W → Prop} (hM : Cn l y c2 maxL (rmb d2 mc ms) ci fs0 As mc ms Sh) (hI : Mi y y.cls n c2 maxL none) (wi : Cond.instanceMethod y ∈ ltb) (wl : va_Nw (.methodLinkNest own idx y host) s) (hy : y.name = "<init>") (hn : As.length = n) (hr : d2 + 1 ≤ R.frames ∧ 8 + (maxL + 11) + 46 * d2 ≤ R.locals)
    (hrest : (rest.map fun v => v.category).sum ≤ 8) (hP : va_P D vwCl (ws ++ [(q, .inr (ci, fs0))]) H) (hD : va_D A (ws ++ [(q, .inr (ci, fs0))])) (hS : va_S A H0 H locs) (hA : ∀ x, H0.size ≤ x → A x) (hls : ls.size = nL) (hcells : cells + mc ≤ R.cells) (hslots : slots + ms ≤ R.slots) {st0 : List Value} (hst : st0 = As.reverse ++ .ref q :: rest) (hd : decode cc pc = .ok (.invokespecial idx, 3))
    (kk : ∀ (ws' : va_W) (H1 : Heap) (locs1 : List Loc), Sh c5 q ws' → va_P D vwCl (ws ++ ws') H1 → va_D A (ws ++ ws') → va_S A H0 H1 locs1 → W p l e R s m args below meth c H1 locs1 (cells + mc) (slots + ms) Q (F0 m (pc + 3) ls rest)) :
    W p l e R s m args below meth c H locs cells slots Q (F0 m pc ls st0) := by
  have hp := bd_pre (As := As) C hP
  obtain ⟨hx, hb, hml, hown, hts, hK, hN, hXA⟩ := C
  obtain ⟨⟨-, hy1, hy2, hy3⟩, hco, hini, hmx⟩ := hI
  have hgood : GoodIn ltb (.code y c2 maxL none :: ltb) := good_c hco goodTbl
  exact cn_run (va_runIN (host := host) (As := As) (rest := rest) ⟨hx, hb, hml, hown, hts⟩ (hM D c5 q H.size) ⟨va_cnB n hts hgood rfl rfl rfl wl (hts _ hini) ⟨hy1, hy2, hy3⟩ hr, hy, hts _ wi⟩ hp rfl hn hls hst (lv_room hrest) hd ⟨hcells, hslots⟩) hP hD hS hA kk
/-- a final field of the object at the list's head -/
theorem bd_putF (C : CB D c5 own cc nL p s m args c) (hin2 : meth.name = "<init>") {ci N idx k h0 : Nat} {Cs : String} {T : u_T} {ty0 : Nat → FieldType} (hC : Cls ci Cs T N ty0) (hk : k < N) (wf : Cond.fieldLink own idx (T k).1 (T k).2.1 (T k).2.2.1 ∈ ltb) (hfin : (T k).2.2.2 = true) (hdecl : (T k).1 = own) {v : Value} (hn : narrow (ty0 k) v = v) (hfit : fits (ty0 k) v = true) {fs : List Value} (hl : k < fs.length)
    (hP : va_P D vwCl ((h0, .inr (ci, fs)) :: ws) H) (hD : va_D A ((h0, .inr (ci, fs)) :: ws)) (hS : va_S A H0 H locs) (hd : decode cc pc = .ok (.putfield idx, 3))
    (kk : ∀ (H1 : Heap) (locs1 : List Loc), va_P D vwCl ((h0, .inr (ci, fs.set k v)) :: ws) H1 → va_D A ((h0, .inr (ci, fs.set k v)) :: ws) → va_S A H0 H1 locs1 → W p l e R s m args below meth c H1 locs1 cells slots Q (F0 m (pc + 3) ls rest)) :
    W p l e R s m args below meth c H locs cells slots Q (F0 m pc ls (v :: .ref h0 :: rest)) := by
  obtain ⟨hx, hb, hml, hown, hts, hK, -, -⟩ := C
  obtain ⟨hc, hin, hty, hnm⟩ := hC
  exact va_putF hx hb hts hin ty0 hty hnm hown hK hP hD hS 0 rfl hc k hk (hts _ wf) (fun _ h => h) hfin hin2 hdecl (hty k hk) hn hfit hl hd (fun H1 locs1 hP1 hD1 hS1 => kk H1 locs1 hP1 hD1 hS1)
theorem bd_put (C : CB D c5 own cc nL p s m args c) {ci N idx k h0 : Nat} {Cs : String} {T : u_T} {ty0 : Nat → FieldType} (hC : Cls ci Cs T N ty0) (hk : k < N) (wf : Cond.fieldLink own idx (T k).1 (T k).2.1 (T k).2.2.1 ∈ ltb) (hfin : (T k).2.2.2 = false) {v : Value} (hn : narrow (ty0 k) v = v) (hfit : fits (ty0 k) v = true) {fs : List Value} (hl : k < fs.length)
    (hP : va_P D vwCl ((h0, .inr (ci, fs)) :: ws) H) (hD : va_D A ((h0, .inr (ci, fs)) :: ws)) (hS : va_S A H0 H locs) (hd : decode cc pc = .ok (.putfield idx, 3))
    (kk : ∀ (H1 : Heap) (locs1 : List Loc), va_P D vwCl ((h0, .inr (ci, fs.set k v)) :: ws) H1 → va_D A ((h0, .inr (ci, fs.set k v)) :: ws) → va_S A H0 H1 locs1 → W p l e R s m args below meth c H1 locs1 cells slots Q (F0 m (pc + 3) ls rest)) :
    W p l e R s m args below meth c H locs cells slots Q (F0 m pc ls (v :: .ref h0 :: rest)) := by
  obtain ⟨hx, hb, hml, hown, hts, hK, -, -⟩ := C
  obtain ⟨hc, hin, hty, hnm⟩ := hC
  exact va_put hx hb hts hin ty0 hty hnm hown hK hP hD hS 0 rfl hc k hk (hts _ wf) (fun _ h => h) hfin (hty k hk) hn hfit hl hd (fun H1 locs1 hP1 hD1 hS1 => kk H1 locs1 hP1 hD1 hS1)
end BD
