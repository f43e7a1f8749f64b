/-! new T[n][m], out of the model's own words: a row of pushes and stores. mn_o: the outer array when i rows are there; mn_i: a row; mn_st: the state then -/
def va_AOA (ty : FieldType) (U : State) : Prop := (Cond.arrayOver (.array ty)).before #[] U = true
def mn_o (cA : ClassId) (a N i : Nat) : Cell := arrV cA N (fun j => va_rf (if j < i then some (a + 1 + j) else none))
def mn_i (cy : ClassId) (K : Nat) (d : Value) : Cell := arrV cy K (fun _ => d)
theorem mn_o_zero (cA : ClassId) (a N : Nat) : ({ cls := cA, slots := Array.replicate N .null, vm := .none } : Cell) = mn_o cA a N 0 :=
  (arrV_new cA N .null).trans (congrArg (arrV cA N) (funext fun j => by rw [if_neg (Nat.not_lt_zero j)]; rfl))
theorem mn_o_succ (cA : ClassId) (a N i : Nat) : (mn_o cA a N i).setSlot i (.ref (a + 1 + i)) = mn_o cA a N (i + 1) :=
  (arrV_store cA N i _ _).trans (congrArg (arrV cA N) (funext fun j => by
    show (if j = i then Value.ref (a + 1 + i) else va_rf (if j < i then some (a + 1 + j) else none)) = va_rf (if j < i + 1 then some (a + 1 + j) else none)
    by_cases h : j = i
    · rw [if_pos h, if_pos (by omega), h]
      rfl
    · by_cases h2 : j < i
      · rw [if_neg h, if_pos h2, if_pos (by omega)]
      · rw [if_neg h, if_neg h2, if_neg (by omega)]))
def mn_st (V : State) (cA cy : ClassId) (N K : Nat) (d : Value) : Nat → State
  | 0 => V.pushCell (mn_o cA V.heap.size N 0)
  | i + 1 => ((mn_st V cA cy N K d i).pushCell (mn_i cy K d)).setCell V.heap.size (mn_o cA V.heap.size N (i + 1))
def mn_F (V : State) (cA cy : ClassId) (N K : Nat) (d : Value) (i : Nat) (U : State) : Prop :=
  U.vm = V.vm ∧ U.heap.size = V.heap.size + 1 + i ∧ U.slotsUsed = V.slotsUsed + N + i * K ∧ (∀ x : Nat, x < V.heap.size → U.heap[x]? = V.heap[x]?) ∧
    U.heap[V.heap.size]? = some (mn_o cA V.heap.size N i) ∧ ∀ j : Nat, j < i → U.heap[V.heap.size + 1 + j]? = some (mn_i cy K d)
theorem mn_F.old {V U : State} {cA cy : ClassId} {N K i : Nat} {d : Value} (h : mn_F V cA cy N K d i U) : (U.pushCell (mn_i cy K d)).heap[V.heap.size]? = some (mn_o cA V.heap.size N i) := by
  obtain ⟨-, h2, -, -, h5, -⟩ := h
  rw [State.heap_pushCell_of_lt _ _ (show V.heap.size < U.heap.size by omega)]
  exact h5
theorem mn_has (V : State) (cA cy : ClassId) (N K : Nat) (d : Value) : ∀ i : Nat, mn_F V cA cy N K d i (mn_st V cA cy N K d i)
  | 0 => by
    refine ⟨rfl, ?_, ?_, fun x hx => State.heap_pushCell_of_lt _ _ hx, State.heap_pushCell_size _ _, fun j h => absurd h (Nat.not_lt_zero j)⟩
    · show (V.heap.push _).size = _
      rw [Array.size_push]
    · show V.slotsUsed + (mn_o cA V.heap.size N 0).slots.size = _
      rw [mn_o, arrV_size, Nat.zero_mul, Nat.add_zero]
  | i + 1 => by
    have hF := mn_has V cA cy N K d i
    have hp := hF.old
    obtain ⟨h1, h2, h3, h4, h5, h6⟩ := hF
    show mn_F V cA cy N K d (i + 1) (((mn_st V cA cy N K d i).pushCell (mn_i cy K d)).setCell V.heap.size (mn_o cA V.heap.size N (i + 1)))
    generalize mn_st V cA cy N K d i = U at *
    refine ⟨h1, ?_, ?_, fun x hx => ?_, State.heap_setCell_self hp, fun j hj => ?_⟩
    · show (Array.setIfInBounds (U.heap.push _) _ _).size = _
      rw [Array.size_setIfInBounds, Array.size_push, h2]
      rfl
    · show U.slotsUsed + (mn_i cy K d).slots.size = _
      rw [h3, mn_i, arrV_size, Nat.succ_mul]
      omega
    · show (State.setCell _ _ _).heap[x]? = _
      rw [State.heap_setCell_other (Nat.ne_of_gt hx), State.heap_pushCell_of_lt _ _ (show x < U.heap.size by omega)]
      exact h4 x hx
    · show (State.setCell _ _ _).heap[_]? = _
      rw [State.heap_setCell_other (show V.heap.size ≠ V.heap.size + 1 + j by omega)]
      by_cases e : j < i
      · rw [State.heap_pushCell_of_lt _ _ (show V.heap.size + 1 + j < U.heap.size by omega)]
        exact h6 j e
      · rw [show V.heap.size + 1 + j = U.heap.size by omega]
        exact State.heap_pushCell_size _ _
theorem mn_top (V : State) (g : JFrame) (cA cy : ClassId) (N K : Nat) (d : Value) : ∀ i : Nat, mn_st (V.setTop g) cA cy N K d i = (mn_st V cA cy N K d i).setTop g
  | 0 => rfl
  | i + 1 => by
    show ((mn_st (V.setTop g) cA cy N K d i).pushCell _).setCell _ _ = _
    rw [mn_top V g cA cy N K d i]
    rfl
section MNS
variable {p : Program} {l : Launch} {e : Env} {R : Room} {s : State} {m : MethodId} {args : Array Value} {below : List Frame} {meth : Method} {c : Code} {V : State} {locs : List Loc} {cells slots : Nat}
theorem mn_X (X : Stand p l e R s m args below meth c V locs cells slots) (cA cy : ClassId) (N K : Nat) (d : Value) : ∀ i : Nat, Stand p l e R s m args below meth c (mn_st V cA cy N K d i) locs (cells + 1 + i) (slots + N + i * K)
  | 0 => by
    have h := X.pushed (mn_o cA V.heap.size N 0)
    rw [show (mn_o cA V.heap.size N 0).slots.size = N from arrV_size _ _ _] at h
    rw [Nat.zero_mul]
    exact h
  | i + 1 => by
    have h := ((mn_X X cA cy N K d i).pushed (mn_i cy K d)).stored (mn_has V cA cy N K d i).old i (.ref (V.heap.size + 1 + i))
    rw [mn_o_succ, show (mn_i cy K d).slots.size = K from arrV_size _ _ _] at h
    have h2 := h.dropFresh (fun x hx => by rw [List.mem_singleton.mp hx]; exact X.heapGrown)
    rw [Nat.succ_mul, ← Nat.add_assoc (slots + N)]
    exact h2
end MNS
section MNW
variable {E : CtlPost} {e : Env} {b : Bool} {acts : List Action} {cA cy cc : ClassId} {kA kC : Class} {ty : FieldType} {n k : Int32}
/-- one row -/
theorem mn_wp1 {S : State} {Q : Addr → Pre} (h1 : S.vm.classes[cy]? = some kC) (h2 : kC.kind = .array cc ty) (hk : ¬ k < 0) (hl : ¬ k.toNatClampNeg > e.platform.arrayLengthLimit) (hh : ¬ k.toNatClampNeg * componentBytes ty > e.platform.maxHeapBytes)
    (hc : S.heap.size < e.platform.maxCells) (hs : S.slotsUsed + k.toNatClampNeg ≤ e.platform.maxSlots) (hf : fits ty (defaultValue ty) = true)
    (hq : ∀ a', Q S.heap.size b a' (S.pushCell (mn_i cy k.toNatClampNeg (defaultValue ty)))) : wp (Jvm.Op.multianewarray.make cy [k]) Q E e b acts S := by
  unfold Jvm.Op.multianewarray.make
  simp only [wp_bind', W.ite, hk, if_false, wp_pure', W.theClass, h1, h2, Option.some.injEq, exists_eq_left']
  refine W.newArray_of h1 h2 hl hh hc hs hf (fun a' => ?_)
  rw [arrV_new]
  exact hq a'
/-- all of them -/
theorem mn_wp2 {V : State} {Q : Addr → Pre} (hkA : V.vm.classes[cA]? = some kA) (hA : kA.kind = .array cy (.array ty)) (hkC : V.vm.classes[cy]? = some kC) (hC : kC.kind = .array cc ty) (hn : ¬ n < 0) (hk : ¬ k < 0) (hz : (n == 0) = false)
    (hl1 : ¬ n.toNatClampNeg > e.platform.arrayLengthLimit) (hh1 : ¬ n.toNatClampNeg * componentBytes (.array ty) > e.platform.maxHeapBytes) (hl2 : ¬ k.toNatClampNeg > e.platform.arrayLengthLimit) (hh2 : ¬ k.toNatClampNeg * componentBytes ty > e.platform.maxHeapBytes)
    (hf : fits ty (defaultValue ty) = true) (hc : V.heap.size + (1 + n.toNatClampNeg) ≤ e.platform.maxCells) (hs : V.slotsUsed + (n.toNatClampNeg + n.toNatClampNeg * k.toNatClampNeg) ≤ e.platform.maxSlots)
    (hq : ∀ b' a', Q V.heap.size b' a' (mn_st V cA cy n.toNatClampNeg k.toNatClampNeg (defaultValue ty) n.toNatClampNeg)) : wp (Jvm.Op.multianewarray.make cA [n, k]) Q E e b acts V := by
  unfold Jvm.Op.multianewarray.make
  simp only [wp_bind', W.ite, hn, if_false, wp_pure', W.theClass, hkA, hA, Option.some.injEq, exists_eq_left']
  refine W.newArray_of hkA hA hl1 hh1 (by omega) (by omega) rfl (fun a' => ?_)
  simp only [hz, Bool.false_eq_true, if_false]
  rw [wp_bind', Std.Legacy.Range.forIn_eq_forIn_range']
  have hsz : ([:n.toNatClampNeg] : Std.Legacy.Range).size = n.toNatClampNeg := by simp [Std.Legacy.Range.size]
  rw [hsz]
  refine wp_forIn_inv (fun rest S => ∃ i : Nat, i ≤ n.toNatClampNeg ∧ rest = List.range' i (n.toNatClampNeg - i) ∧ S = mn_st V cA cy n.toNatClampNeg k.toNatClampNeg (defaultValue ty) i) _ _ ⟨0, Nat.zero_le _, rfl, ?_⟩ ?_ ?_
  · show V.pushCell _ = V.pushCell _
    rw [← mn_o_zero]
  · rintro x rest S b1 a1 Q1 ⟨i, hi, hr, rfl⟩ nx
    have hlt : i < n.toNatClampNeg := by
      by_cases h : i < n.toNatClampNeg
      · exact h
      · rw [show n.toNatClampNeg - i = 0 by omega] at hr
        cases hr
    rw [show n.toNatClampNeg - i = (n.toNatClampNeg - (i + 1)) + 1 by omega, List.range'_succ] at hr
    obtain ⟨rfl, hr⟩ := List.cons.inj hr
    have hF := mn_has V cA cy n.toNatClampNeg k.toNatClampNeg (defaultValue ty) x
    have hp := hF.old
    obtain ⟨f1, f2, f3, -, -, -⟩ := hF
    have hm : x * k.toNatClampNeg + k.toNatClampNeg ≤ n.toNatClampNeg * k.toNatClampNeg := by
      rw [← Nat.succ_mul]
      exact Nat.mul_le_mul_right _ hlt
    simp only [wp_bind']
    refine mn_wp1 (by rw [f1]; exact hkC) hC hk hl2 hh2 (by omega) (by omega) hf (fun a2 => ?_)
    simp only [wp_bind', W.writeLoc, wp_pure']
    refine ⟨_, hp, (fun h => by cases h), ?_, ?_, nx _ _ _ ⟨x + 1, hlt, hr, ?_⟩⟩
    · rw [mn_o, arrV_size]
      exact hlt
    · show State.fitsSlot _ cA .none x (.ref _) = true
      simp [State.fitsSlot, State.slotType?, f1, hkA, hA, fits]
    · rw [f2, mn_o_succ]
      rfl
  · rintro S b1 a1 ⟨i, hi, hr, rfl⟩
    have e9 : i = n.toNatClampNeg := by
      by_cases h : i < n.toNatClampNeg
      · rw [show n.toNatClampNeg - i = (n.toNatClampNeg - (i + 1)) + 1 by omega, List.range'_succ] at hr
        cases hr
      · omega
    rw [e9]
    exact hq _ _
end MNW
theorem mn_at {N a i : Nat} {x : va_E} {q : Nat × va_E} (h : ((List.range N).map (fun j => ((a + 1 + j, x) : Nat × va_E)))[i]? = some q) : q.1 = a + 1 + i := by
  rw [List.getElem?_map] at h
  obtain ⟨j, hj, rfl⟩ := Option.map_eq_some_iff.mp h
  obtain ⟨hl, rfl⟩ := List.getElem?_eq_some_iff.mp hj
  show a + 1 + (List.range N)[i] = _
  rw [List.getElem_range]
section MNR
variable {p : Program} {l : Launch} {e : Env} {R : Room} {s : State} {m : MethodId} {args : Array Value} {below : List Frame} {meth : Method} {c : Code} {H : Heap} {locs : List Loc} {cells slots : Nat} {Q : State → Prop}
variable {pc : Nat} {ls : Array Slot} {rest : List Value} {D : va_G} {cl : List vw_C} {A : Nat → Prop} {ws : va_W} {H0 : Heap}
set_option maxHeartbeats 4000000 in
theorem mn_row {cb : ByteArray} (hx : p.tables.exec = Jvm.exec) (hb : c.code = cb) {own : String} {index : Nat} {ty : FieldType} {cy : ClassId} (hown : s.vm.findClass own = some m.cls) (hcl : (Cond.classLink own index ("[" ++ (FieldType.array ty).toString)).before args s = true)
    (hov : va_AOA ty s) (har : (Cond.arrayClass ty).before args s = true) (hcy : s.vm.findClass (FieldType.array ty).toString = some cy) (hP : va_P D cl ws H) (hD : va_D A ws) (hS : va_S A H0 H locs) (hA : ∀ q, H0.size ≤ q → A q)
    {n k : Int32} {N K : Nat} {z : vp_A} (hn : ¬ n < 0) (hk : ¬ k < 0) (hN : n.toNatClampNeg = N) (hK : k.toNatClampNeg = K) (hz : (n == 0) = false) (b1 : N * 4 ≤ 536870912) (b2 : K * componentBytes ty ≤ 536870912) (b3 : K ≤ 536870912) (hf : fits ty (defaultValue ty) = true)
    (hcells : cells + (1 + N) ≤ R.cells) (hslots : slots + (N + N * K) ≤ R.slots) (hzc : ∀ q : ClassId, mn_i q K (defaultValue ty) = vp_cell q z) (hd : decode cb pc = .ok (.multianewarray index 2, 4))
    (kk : ∀ (q : Nat) (r : Nat → Nat) (cA : ClassId) (H1 : Heap), s.vm.findClass ("[" ++ (FieldType.array ty).toString) = some cA →
      va_P D cl ((ws ++ [(q, .inl (cA, N, .inr (.inr (.inr (.inr (fun i => if i < N then some (r i) else none))))))]) ++ (List.range N).map (fun j => (r j, .inl (cy, z)))) H1 →
      va_D A ((ws ++ [(q, .inl (cA, N, .inr (.inr (.inr (.inr (fun i => if i < N then some (r i) else none))))))]) ++ (List.range N).map (fun j => (r j, .inl (cy, z)))) → va_S A H0 H1 locs →
      W p l e R s m args below meth c H1 locs (cells + 1 + N) (slots + N + N * K) Q (F0 m (pc + 4) ls (.ref q :: rest))) : W p l e R s m args below meth c H locs cells slots Q (F0 m pc ls (.int k :: .int n :: rest)) := by
  subst hN
  subst hK
  subst hb
  intro T hT X
  subst hT
  have hpl : e.platform.magicAccessors = ({} : Platform).magicAccessors := by rw [X.admits.platform]
  obtain ⟨cy1, cA, kA, o1, -, o2, o3, o4⟩ := arrayOverA_spec hov
  cases Option.some.inj (o1.symm.trans hcy)
  obtain ⟨cy2, kC, cc, q1, q2, q3⟩ := Cond.arrayClass_spec har
  cases Option.some.inj (q1.symm.trans hcy)
  obtain ⟨c0, l1, l2⟩ := Cond.classLink_spec hown hcl e.platform hpl
  cases Option.some.inj (o4.symm.trans l1)
  obtain ⟨g1, w1, -⟩ := State.classEntry (e := e) X.warmed l2
  generalize T.vm.noted m.cls index (.cls cA) = v1 at g1 w1
  obtain ⟨kA1, p1, e1⟩ := w1.alike.2.2 _ _ o2
  obtain ⟨kC1, p2, e2⟩ := w1.alike.2.2 _ _ q2
  have t1 : kA1.kind = .array cy (.array ty) := by rw [e1]; exact o3
  have t2 : kC1.kind = .array cc ty := by rw [e2]; exact q3
  obtain ⟨r1, r2⟩ := X.roomAbove hcells hslots
  have X2 := mn_X (X.noted w1) cA cy n.toNatClampNeg k.toNatClampNeg (defaultValue ty) n.toNatClampNeg
  obtain ⟨f1, f2, f3, f4, f5, f6⟩ := mn_has (T.setVm v1) cA cy n.toNatClampNeg k.toNatClampNeg (defaultValue ty) n.toNatClampNeg
  have y1 : ∀ x ∈ ws, x.1 < T.heap.size := fun x hx => by
    obtain ⟨i, hi⟩ := List.getElem?_of_mem hx
    exact (hP i x hi).lt
  have hP2 := ((hP.kept (H1 := (mn_st (T.setVm v1) cA cy n.toNatClampNeg k.toNatClampNeg (defaultValue ty) n.toNatClampNeg).heap) (fun i x hi => f4 x.1 (hP i x hi).lt)).app (w2 := [(T.heap.size, .inl (cA, n.toNatClampNeg, .inr (.inr (.inr (.inr (fun i => if i < n.toNatClampNeg then some (T.heap.size + 1 + i) else none))))))]) (fun i x hi => by
    cases List.mem_singleton.mp (List.mem_of_getElem? hi)
    exact f5)).app (w2 := (List.range n.toNatClampNeg).map (fun j => (T.heap.size + 1 + j, .inl (cy, z)))) (fun i x hi => by
    obtain ⟨j, hj, rfl⟩ := List.mem_map.mp (List.mem_of_getElem? hi)
    show (mn_st (T.setVm v1) cA cy n.toNatClampNeg k.toNatClampNeg (defaultValue ty) n.toNatClampNeg).heap[T.heap.size + 1 + j]? = some (vp_cell cy z)
    rw [← hzc]
    exact f6 j (List.mem_range.mp hj))
  have hD2 := (hD.push (e := .inl (cA, n.toNatClampNeg, .inr (.inr (.inr (.inr (fun i => if i < n.toNatClampNeg then some (T.heap.size + 1 + i) else none)))))) hP rfl (hA _ hS.1)).app (w2 := (List.range n.toNatClampNeg).map (fun j => (T.heap.size + 1 + j, .inl (cy, z)))) ⟨fun i j x y hi hj h => by
      have := mn_at hi
      have := mn_at hj
      omega, fun i x hi => by
      have := mn_at hi
      have := hS.1
      exact hA _ (by omega)⟩ (fun i j x y hi hj => by
      have := mn_at hj
      rcases List.mem_append.mp (List.mem_of_getElem? hi) with h | h
      · have := y1 x h
        omega
      · have h9 : x.1 = T.heap.size := congrArg Prod.fst (List.mem_singleton.mp h)
        omega)
  obtain ⟨t, st, hQ⟩ := kk T.heap.size (fun j => T.heap.size + 1 + j) cA _ o4 hP2 hD2 ⟨by have h8 : _ = T.heap.size + 1 + _ := f2; have := hS.1; omega, fun x h1 h2 => (f4 x (Nat.lt_of_lt_of_le h1 hS.1)).trans (hS.2.1 x h1 h2), hS.2.2⟩ _ rfl X2
  refine ⟨t, ?_, hQ⟩
  have hl1 : ¬ n.toNatClampNeg > e.platform.arrayLengthLimit := by rw [Launch.admits_arrayLengthLimit X.admits]; omega
  have hh1 : ¬ n.toNatClampNeg * componentBytes (.array ty) > e.platform.maxHeapBytes := by
    rw [Launch.admits_maxHeapBytes X.admits]
    show ¬ n.toNatClampNeg * 4 > 536870912
    omega
  have hl2 : ¬ k.toNatClampNeg > e.platform.arrayLengthLimit := by rw [Launch.admits_arrayLengthLimit X.admits]; omega
  have hh2 : ¬ k.toNatClampNeg * componentBytes ty > e.platform.maxHeapBytes := by rw [Launch.admits_maxHeapBytes X.admits]; omega
  jvm_step X.here [hx, hd]
  simp only [Jvm.Op.multianewarray.sem, wp_bind', W.resolveClassAt_links (State.method?_setTop (F0 m pc ls (.int k :: .int n :: rest)) X.here.top) g1]
  rw [W.popN, if_neg (by decide)]
  refine ⟨F0 m pc ls (.int k :: .int n :: rest), State.topJava?_setTop' (s := T.setVm v1) _ X.here.top, [.int n, .int k], rest, rfl, rfl, ?_⟩
  simp only [List.mapM_cons, List.mapM_nil, wp_bind', wp_pure']
  refine mn_wp2 (kA := kA1) (kC := kC1) (cy := cy) (cc := cc) (ty := ty) p1 t1 p2 t2 hn hk hz hl1 hh1 hl2 hh2 hf r1 r2 (fun b' a' => ?_)
  have eS : ((T.setTop (F0 m pc ls (.int k :: .int n :: rest))).setVm v1).setTop (F0 m pc ls rest) = (T.setVm v1).setTop (F0 m pc ls rest) := State.setTop_setTop (T.setVm v1) _ _
  rw [eS, mn_top]
  simp only [wp_bind', W.mark, W.pushRef, State.topJava?_setTop' _ X2.here.top, Option.some.injEq, exists_eq_left', State.setTop_setTop, State.heap_setTop]
  intro a3
  simp [jvm, X2.here.top]
  exact st
end MNR
