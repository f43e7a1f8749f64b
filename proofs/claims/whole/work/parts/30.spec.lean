/-! What a body is, out of its parent: the document's rules, over vectors -/
theorem v3_ext {a b : V3} (h0 : a.1 = b.1) (h1 : a.2.1 = b.2.1) (h2 : a.2.2 = b.2.2) : a = b := Prod.ext h0 (Prod.ext h1 h2)
/-- the frame's columns x, y, z; origin, axis, lever; turning, change, acceleration; force and moment of the body alone -/
abbrev Tup : Type := (V3 × V3 × V3) × (V3 × V3 × V3) × (V3 × V3 × V3) × (V3 × V3)
/-- tilt, position, speed, acceleration, mass; turns; place, centre; rows of the inertia -/
abbrev Par' : Type := (ZF × ZF × ZF × ZF × ZF) × Bool × (V3 × V3) × (V3 × V3 × V3)
/-- turn a pair of columns: C a + S b, C b - S a -/
def tp1 (a b : V3) (c s : ZF) : V3 := v_adt (v_sca a c) b s
def tp2 (a b : V3) (c s : ZF) : V3 := v_adt (v_sca b c) a (0 - s)
def lin (x y z d : V3) : V3 := v_add (v_add (v_sca x d.1) (v_sca y d.2.1)) (v_sca z d.2.2)
/-- the frame's rows times a vector -/
def inw (x y z d : V3) : V3 := (v_dot x d, v_dot y d, v_dot z d)
noncomputable def nx_fr (D : Tup) (P : Par') : V3 × V3 × V3 :=
  let y := tp1 D.1.2.1 D.1.2.2 (cosz P.1.1) (sinz P.1.1)
  let z := tp2 D.1.2.1 D.1.2.2 (cosz P.1.1) (sinz P.1.1)
  bif P.2.1 then (tp1 D.1.1 y (cosz P.1.2.1) (sinz P.1.2.1), tp2 D.1.1 y (cosz P.1.2.1) (sinz P.1.2.1), z) else (D.1.1, y, z)
noncomputable def nx_u (D : Tup) (P : Par') : V3 := tp2 D.1.2.1 D.1.2.2 (cosz P.1.1) (sinz P.1.1)
noncomputable def nx_s (D : Tup) (P : Par') : V3 :=
  bif P.2.1 then lin D.1.1 D.1.2.1 D.1.2.2 P.2.2.1.1 else v_adt (lin D.1.1 D.1.2.1 D.1.2.2 P.2.2.1.1) (nx_u D P) P.1.2.1
noncomputable def nx_o (D : Tup) (P : Par') : V3 := v_add D.2.1.1 (nx_s D P)
noncomputable def nx_e (D : Tup) (P : Par') : V3 := lin (nx_fr D P).1 (nx_fr D P).2.1 (nx_fr D P).2.2 P.2.2.1.2
noncomputable def nx_c (D : Tup) (P : Par') : V3 := v_sca (v_crs D.2.2.1.1 (nx_u D P)) P.1.2.2.1
noncomputable def nx_w (D : Tup) (P : Par') : V3 := bif P.2.1 then v_adt D.2.2.1.1 (nx_u D P) P.1.2.2.1 else D.2.2.1.1
noncomputable def nx_b (D : Tup) (P : Par') : V3 := bif P.2.1 then v_add (v_adt D.2.2.1.2.1 (nx_u D P) P.1.2.2.2.1) (nx_c D P) else D.2.2.1.2.1
/-- the acceleration of a point at an arm -/
def acc (A b w r : V3) : V3 := v_add (v_add A (v_crs b r)) (v_crs w (v_crs w r))
noncomputable def nx_A (D : Tup) (P : Par') : V3 :=
  bif P.2.1 then acc D.2.2.1.2.2 D.2.2.1.2.1 D.2.2.1.1 (nx_s D P) else v_adt (v_adt (acc D.2.2.1.2.2 D.2.2.1.2.1 D.2.2.1.1 (nx_s D P)) (nx_c D P) 2) (nx_u D P) P.1.2.2.2.1
noncomputable def nx_F (D : Tup) (P : Par') : V3 := v_sca (acc (nx_A D P) (nx_b D P) (nx_w D P) (nx_e D P)) P.1.2.2.2.2
/-- J x -/
def jx (R : V3 × V3 × V3) (I : V3 × V3 × V3) (x : V3) : V3 :=
  lin R.1 R.2.1 R.2.2 (inw I.1 I.2.1 I.2.2 (inw R.1 R.2.1 R.2.2 x))
noncomputable def nx_N (D : Tup) (P : Par') : V3 := v_add (jx (nx_fr D P) P.2.2.2 (nx_b D P)) (v_crs (nx_w D P) (jx (nx_fr D P) P.2.2.2 (nx_w D P)))
noncomputable def nxt (D : Tup) (P : Par') : Tup := (nx_fr D P, (nx_o D P, nx_u D P, nx_e D P), (nx_w D P, nx_b D P, nx_A D P), (nx_F D P, nx_N D P))
theorem uniq {D E : Nat → Tup} {par : Nat → Nat} {P : Nat → Par'} {n : Nat} (hp : ∀ k, 1 ≤ k → k ≤ n → par k < k) (h0 : nxt (D 0) = nxt (E 0)) (hD : ∀ k, 1 ≤ k → k ≤ n → D k = nxt (D (par k)) (P k)) (hE : ∀ k, 1 ≤ k → k ≤ n → E k = nxt (E (par k)) (P k)) : ∀ k, 1 ≤ k → k ≤ n → D k = E k := by
  intro k
  induction k using Nat.strongRecOn with
  | ind k ih =>
    intro h1 h2
    rw [hD k h1 h2, hE k h1 h2]
    have hk := hp k h1 h2
    by_cases h : par k = 0
    · rw [h, h0]
    · rw [ih (par k) hk (by omega) (by omega)]
/-! the reference's arrays, by body -/
def mX (s : SS) (i : Nat) : V3 := (s.2.1 27 0 (9 * i), s.2.1 27 0 (9 * i + 3), s.2.1 27 0 (9 * i + 6))
def mY (s : SS) (i : Nat) : V3 := (s.2.1 27 0 (9 * i + 1), s.2.1 27 0 (9 * i + 4), s.2.1 27 0 (9 * i + 7))
def mZ (s : SS) (i : Nat) : V3 := (s.2.1 27 0 (9 * i + 2), s.2.1 27 0 (9 * i + 5), s.2.1 27 0 (9 * i + 8))
def mW (s : SS) (i : Nat) : V3 := g3 s (30, 0) (3 * i)
def mB (s : SS) (i : Nat) : V3 := g3 s (31, 0) (3 * i)
def mL (s : SS) (i : Nat) : V3 := g3 s (32, 0) (3 * i)
def Dm (s : SS) (i : Nat) : Tup := ((mX s i, mY s i, mZ s i), (mO s i, mU s i, mA s i), (mW s i, mB s i, mL s i), (mF s i, mN s i))
def mIr (s : SS) (k : Nat) : V3 × V3 × V3 :=
  ((s.2.1 20 0 (16 * k + 8), s.2.1 20 0 (16 * k + 11), s.2.1 20 0 (16 * k + 12)), (s.2.1 20 0 (16 * k + 11), s.2.1 20 0 (16 * k + 9), s.2.1 20 0 (16 * k + 13)), (s.2.1 20 0 (16 * k + 12), s.2.1 20 0 (16 * k + 13), s.2.1 20 0 (16 * k + 10)))
def Pm (s : SS) (k : Nat) : Par' :=
  ((s.2.1 20 0 (16 * k + 3), s.2.1 21 0 k, s.2.1 25 0 k, s.2.1 26 0 k, s.2.1 20 0 (16 * k + 4)), decide (s.2.2 8 k = 0), (g3 s (20, 0) (16 * k), g3 s (20, 0) (16 * k + 5)), mIr s k)
/-! reading through a stretch -/
theorem g3_fk (s : SS) (t q : Nat × Nat) (b n c : Nat) (f : Nat → ZF) (h : q.1 ≠ t.1) : g3 (fl s t b n f) q c = g3 s q c := by
  unfold g3
  rw [fl_n _ _ _ _ _ _ _ h, fl_n _ _ _ _ _ _ _ h, fl_n _ _ _ _ _ _ _ h]
theorem g3_fo (s : SS) (t q : Nat × Nat) (b n c : Nat) (f : Nat → ZF) (h : c + 3 ≤ b ∨ b + n ≤ c) : g3 (fl s t b n f) q c = g3 s q c := by
  unfold g3
  rw [fl_o _ _ _ _ _ _ _ (by omega), fl_o _ _ _ _ _ _ _ (by omega), fl_o _ _ _ _ _ _ _ (by omega)]
theorem g3_p (s : SS) (t : Nat × Nat) (b : Nat) (v : V3) : g3 (p3 s t b v) t b = v := by
  unfold g3 p3
  rw [fl_i _ _ _ _ _ (by omega), fl_i _ _ _ _ _ (by omega), fl_i _ _ _ _ _ (by omega)]
  rw [Nat.sub_self, Nat.add_sub_cancel_left, Nat.add_sub_cancel_left]
  rfl
theorem g3_pk (s : SS) (t q : Nat × Nat) (b c : Nat) (v : V3) (h : q.1 ≠ t.1) : g3 (p3 s t b v) q c = g3 s q c := g3_fk s t q b 3 c _ h
theorem g3_po (s : SS) (t q : Nat × Nat) (b c : Nat) (v : V3) (h : c + 3 ≤ b ∨ b + 3 ≤ c) : g3 (p3 s t b v) q c = g3 s q c := g3_fo s t q b 3 c _ h
theorem l_pk (s : SS) (t : Nat × Nat) {a : Nat} (b j c : Nat) (v : V3) (h : a ≠ t.1) : (p3 s t c v).2.1 a b j = s.2.1 a b j := fl_n _ _ _ _ _ _ _ h
