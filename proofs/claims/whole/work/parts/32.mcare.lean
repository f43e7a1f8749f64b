/-! carry makes of a body what the rules say -/
theorem lod_n (s : SS) (k : Nat) {x : Nat} (j : Nat) (h : x < 33) : (m_lod s k).2.1 x 0 j = s.2.1 x 0 j := by
  unfold m_lod m_l9 m_l7 m_l5 m_l3 m_l2 m_l1
  rw [l_pk _ _ _ _ _ _ (by show x ≠ 35; omega), hvy_n _ _ _ _ _ (by omega), l_pk _ _ _ _ _ _ (by show x ≠ 35; omega), hvy_n _ _ _ _ _ (by omega), l_pk _ _ _ _ _ _ (by show x ≠ 34; omega), swg_n _ _ _ _ _ _ (by omega) (by omega), l_pk _ _ _ _ _ _ (by show x ≠ 34; omega), l_pk _ _ _ _ _ _ (by show x ≠ 36; omega), l_pk _ _ _ _ _ _ (by show x ≠ 33; omega)]
theorem g3_eq {u v : SS} {x : Nat} {j : Nat} (h : ∀ j, u.2.1 x 0 j = v.2.1 x 0 j) : g3 u (x, 0) j = g3 v (x, 0) j := by
  unfold g3
  rw [h, h, h]
theorem v_add_c (a b : V3) : v_add a b = v_add b a := by
  unfold v_add
  refine v3_ext ?_ ?_ ?_ <;> (dsimp only; grind)
theorem vc3 {v : V3} {a b c : ZF} (h0 : a = v.1) (h1 : b = v.2.1) (h2 : c = v.2.2) : ((a, b, c) : V3) = v := by
  rw [h0, h1, h2]
/-- the tilted frame -/
theorem til_e (s : SS) (k p : Nat) : (let t := fun n => (m_c2 (m_c1 s k) p).2.1 39 0 n
    ((t 0, t 3, t 6) : V3) = mX s p ∧ ((t 1, t 4, t 7) : V3) = tp1 (mY s p) (mZ s p) (cosz (s.2.1 20 0 (16 * k + 3))) (sinz (s.2.1 20 0 (16 * k + 3))) ∧ ((t 2, t 5, t 8) : V3) = tp2 (mY s p) (mZ s p) (cosz (s.2.1 20 0 (16 * k + 3))) (sinz (s.2.1 20 0 (16 * k + 3)))) := by
  generalize ht : s.2.1 20 0 (16 * k + 3) = t9
  have e27 : ∀ j, (m_c1 s k).2.1 27 0 j = s.2.1 27 0 j := fun j => fl_n _ _ _ _ _ _ _ (by decide)
  have e40 : ∀ j, j < 9 → (m_c1 s k).2.1 40 0 j = rotf true t9 j := fun j hj => by
    rw [← ht]
    exact (fl_i s (40, 0) 0 9 _ (by omega)).trans (by rw [Nat.sub_zero])
  have T : ∀ n, n < 9 → (m_c2 (m_c1 s k) p).2.1 39 0 n = s.2.1 27 0 (9 * p + 3 * (n / 3)) * rotf true t9 (n % 3) + s.2.1 27 0 (9 * p + 3 * (n / 3) + 1) * rotf true t9 (3 + n % 3) + s.2.1 27 0 (9 * p + 3 * (n / 3) + 2) * rotf true t9 (6 + n % 3) := fun n hn => by
    refine (fl_i (m_c1 s k) (39, 0) 0 9 _ (by omega)).trans ?_
    rw [Nat.sub_zero]
    unfold mm
    dsimp only
    rw [e27, e27, e27, e40 _ (by omega), e40 _ (by omega), e40 _ (by omega), Nat.zero_add, Nat.zero_add]
  have r0 : rotf true t9 0 = 1 := rfl
  have r1 : rotf true t9 1 = 0 := rfl
  have r2 : rotf true t9 2 = 0 := rfl
  have r3 : rotf true t9 3 = 0 := rfl
  have r4 : rotf true t9 4 = cosz t9 := rfl
  have r5 : rotf true t9 5 = -sinz t9 := rfl
  have r6 : rotf true t9 6 = 0 := rfl
  have r7 : rotf true t9 7 = sinz t9 := rfl
  have r8 : rotf true t9 8 = cosz t9 := rfl
  dsimp only
  rw [T 0 (by decide), T 1 (by decide), T 2 (by decide), T 3 (by decide), T 4 (by decide), T 5 (by decide), T 6 (by decide), T 7 (by decide), T 8 (by decide)]
  simp only [Nat.reduceDiv, Nat.reduceMod, Nat.reduceMul, Nat.reduceAdd, Nat.add_zero, Nat.add_assoc, r0, r1, r2, r3, r4, r5, r6, r7, r8]
  unfold tp1 tp2 mX mY mZ v_adt v_sca
  generalize cosz t9 = C
  generalize sinz t9 = S
  refine ⟨vc3 ?_ ?_ ?_, vc3 ?_ ?_ ?_, vc3 ?_ ?_ ?_⟩ <;> (dsimp only; grind)
/-- a matrix in an array times Z, by columns -/
theorem mmz_e (s : SS) (q : ZF) (x y z : V3) (h40 : ∀ j, j < 9 → s.2.1 40 0 j = rotf false q j) (hx : ((s.2.1 39 0 0, s.2.1 39 0 3, s.2.1 39 0 6) : V3) = x) (hy : ((s.2.1 39 0 1, s.2.1 39 0 4, s.2.1 39 0 7) : V3) = y) (hz : ((s.2.1 39 0 2, s.2.1 39 0 5, s.2.1 39 0 8) : V3) = z) :
    ((mm s (39, 0) 0 (40, 0) 0 0, mm s (39, 0) 0 (40, 0) 0 3, mm s (39, 0) 0 (40, 0) 0 6) : V3) = tp1 x y (cosz q) (sinz q) ∧ ((mm s (39, 0) 0 (40, 0) 0 1, mm s (39, 0) 0 (40, 0) 0 4, mm s (39, 0) 0 (40, 0) 0 7) : V3) = tp2 x y (cosz q) (sinz q) ∧ ((mm s (39, 0) 0 (40, 0) 0 2, mm s (39, 0) 0 (40, 0) 0 5, mm s (39, 0) 0 (40, 0) 0 8) : V3) = z := by
  have r0 : rotf false q 0 = cosz q := rfl
  have r1 : rotf false q 1 = -sinz q := rfl
  have r2 : rotf false q 2 = 0 := rfl
  have r3 : rotf false q 3 = sinz q := rfl
  have r4 : rotf false q 4 = cosz q := rfl
  have r5 : rotf false q 5 = 0 := rfl
  have r6 : rotf false q 6 = 0 := rfl
  have r7 : rotf false q 7 = 0 := rfl
  have r8 : rotf false q 8 = 1 := rfl
  unfold mm
  simp only [Nat.reduceDiv, Nat.reduceMod, Nat.reduceMul, Nat.reduceAdd, Nat.add_zero, Nat.zero_add, h40 0 (by decide), h40 1 (by decide), h40 2 (by decide), h40 3 (by decide), h40 4 (by decide), h40 5 (by decide), h40 6 (by decide), h40 7 (by decide), h40 8 (by decide), r0, r1, r2, r3, r4, r5, r6, r7, r8]
  subst hx hy hz
  unfold tp1 tp2 v_adt v_sca
  generalize cosz q = C
  generalize sinz q = S
  refine ⟨vc3 ?_ ?_ ?_, vc3 ?_ ?_ ?_, vc3 ?_ ?_ ?_⟩ <;> (dsimp only; grind)
theorem lin_mv (s : SS) (p : Nat) (d : V3) : v_mv (g3 s (27, 0) (9 * p)) (g3 s (27, 0) (9 * p + 3)) (g3 s (27, 0) (9 * p + 6)) d = lin (mX s p) (mY s p) (mZ s p) d := by
  refine v3_ext ?_ ?_ ?_
  · rfl
  · show v_dot (g3 s (27, 0) (9 * p + 3)) _ = _
    unfold g3 v_dot
    rw [show 9 * p + 3 + 1 = 9 * p + 4 by omega, show 9 * p + 3 + 2 = 9 * p + 5 by omega]
    rfl
  · show v_dot (g3 s (27, 0) (9 * p + 6)) _ = _
    unfold g3 v_dot
    rw [show 9 * p + 6 + 1 = 9 * p + 7 by omega, show 9 * p + 6 + 2 = 9 * p + 8 by omega]
    rfl
theorem s5_e (s : SS) (k p : Nat) (hp : p < k) : g3 (m_s5 s k p) (29, 0) (3 * k) = nx_u (Dm s p) (Pm s k) ∧ g3 (m_s5 s k p) (36, 0) 0 = nx_s (Dm s p) (Pm s k) ∧ ∀ n, (m_s5 s k p).2.1 39 0 n = (m_c2 (m_c1 s k) p).2.1 39 0 n := by
  have ht := til_e s k p
  dsimp only at ht
  have e2 : ∀ {x : Nat} (j : Nat), x ≠ 39 → x ≠ 40 → (m_c2 (m_c1 s k) p).2.1 x 0 j = s.2.1 x 0 j := fun {x} j h h' => by
    unfold m_c2 m_c1
    rw [fl_n _ _ _ _ _ _ _ h, fl_n _ _ _ _ _ _ _ h']
  have i2 : (m_c2 (m_c1 s k) p).2.2 = s.2.2 := rfl
  unfold m_s5
  generalize m_c2 (m_c1 s k) p = s2 at ht e2 i2
  have u3 : g3 (m_c3 s2 k) (29, 0) (3 * k) = nx_u (Dm s p) (Pm s k) := (g3_p _ _ _ _).trans ht.2.2
  have e3 : ∀ {x : Nat} (j : Nat), x ≠ 29 → (m_c3 s2 k).2.1 x 0 j = s2.2.1 x 0 j := fun j h => l_pk _ _ _ _ _ _ h
  have i3 : (m_c3 s2 k).2.2 = s2.2.2 := rfl
  generalize m_c3 s2 k = s3 at u3 e3 i3
  have x4 : g3 (m_c4 s3 k p) (36, 0) 0 = lin (mX s p) (mY s p) (mZ s p) (g3 s (20, 0) (16 * k)) := by
    refine (g3_p _ _ _ _).trans ?_
    rw [lin_mv]
    unfold mX mY mZ g3
    simp only [e3 _ (show 27 ≠ 29 by decide), e3 _ (show 20 ≠ 29 by decide), e2 _ (show 27 ≠ 39 by decide) (show 27 ≠ 40 by decide), e2 _ (show 20 ≠ 39 by decide) (show 20 ≠ 40 by decide)]
  have e4 : ∀ {x : Nat} (j : Nat), x ≠ 36 → (m_c4 s3 k p).2.1 x 0 j = s3.2.1 x 0 j := fun j h => l_pk _ _ _ _ _ _ h
  have i4 : (m_c4 s3 k p).2.2 = s3.2.2 := rfl
  generalize m_c4 s3 k p = s4 at x4 e4 i4
  have u4 : g3 s4 (29, 0) (3 * k) = nx_u (Dm s p) (Pm s k) := (g3_eq (fun j => e4 j (by decide))).trans u3
  have q4 : s4.2.1 21 0 k = s.2.1 21 0 k := by rw [e4 _ (by decide), e3 _ (by decide), e2 _ (by decide) (by decide)]
  have hS : s4.2.2 8 k = s.2.2 8 k := by rw [i4, i3, i2]
  have hP1 : (Pm s k).2.1 = decide (s.2.2 8 k = 0) := rfl
  unfold m_c5 nx_s
  rw [hS, hP1]
  by_cases h0 : s.2.2 8 k = 0
  · rw [if_pos h0, decide_eq_true h0]
    exact ⟨u4, x4, fun n => by rw [e4 _ (by decide), e3 _ (by decide)]⟩
  · rw [if_neg h0, decide_eq_false h0]
    refine ⟨?_, ?_, fun n => ?_⟩
    · rw [g3_pk _ _ _ _ _ _ (by decide)]
      exact u4
    · rw [g3_p, x4, u4, q4]
      rfl
    · rw [l_pk _ _ _ _ _ _ (by decide), e4 _ (by decide), e3 _ (by decide)]
/-- before the body turns or slides -/
theorem s8_e (s : SS) (k p : Nat) (hp : p < k) : g3 (m_s8 s k p) (28, 0) (3 * k) = nx_o (Dm s p) (Pm s k) ∧ g3 (m_s8 s k p) (29, 0) (3 * k) = nx_u (Dm s p) (Pm s k) ∧ g3 (m_s8 s k p) (30, 0) (3 * k) = mW s p ∧ g3 (m_s8 s k p) (31, 0) (3 * k) = mB s p ∧ g3 (m_s8 s k p) (32, 0) (3 * k) = mL s p
    ∧ g3 (m_s8 s k p) (36, 0) 0 = nx_s (Dm s p) (Pm s k) ∧ g3 (m_s8 s k p) (37, 0) 0 = nx_c (Dm s p) (Pm s k) ∧ ∀ n, (m_s8 s k p).2.1 39 0 n = (m_c2 (m_c1 s k) p).2.1 39 0 n := by
  obtain ⟨f1, f2, f3⟩ := s5_e s k p hp
  have hL := Lc_s5 s k p
  unfold m_s8
  generalize m_s5 s k p = s5 at f1 f2 f3 hL
  have par : ∀ {x : Nat}, 28 ≤ x → x ≤ 35 → g3 s5 (x, 0) (3 * p) = g3 s (x, 0) (3 * p) := fun {x} h1 h2 => by
    unfold g3
    rw [hL.2 x _ (by omega), hL.2 x _ (by omega), hL.2 x _ (by omega)]
  have o6 : g3 (m_c6 s5 k p) (28, 0) (3 * k) = v_add (g3 s5 (28, 0) (3 * p)) (g3 s5 (36, 0) 0) := by
    unfold m_c6 m_q4
    rw [g3_fk _ _ _ _ _ _ _ (by decide), g3_fk _ _ _ _ _ _ _ (by decide), g3_fk _ _ _ _ _ _ _ (by decide)]
    exact g3_p _ _ _ _
  have w6 : g3 (m_c6 s5 k p) (30, 0) (3 * k) = g3 s5 (30, 0) (3 * p) := by
    unfold m_c6 m_q4
    rw [g3_fk _ _ _ _ _ _ _ (by decide), g3_fk _ _ _ _ _ _ _ (by decide)]
    exact g3_p _ _ _ _
  have b6 : g3 (m_c6 s5 k p) (31, 0) (3 * k) = g3 s5 (31, 0) (3 * p) := by
    unfold m_c6 m_q4
    rw [g3_fk _ _ _ _ _ _ _ (by decide)]
    exact g3_p _ _ _ _
  have l6 : g3 (m_c6 s5 k p) (32, 0) (3 * k) = g3 s5 (32, 0) (3 * p) := by
    unfold m_c6 m_q4
    exact g3_p _ _ _ _
  have e6 : ∀ {x : Nat} (j : Nat), x ≠ 28 → x ≠ 30 → x ≠ 31 → x ≠ 32 → (m_c6 s5 k p).2.1 x 0 j = s5.2.1 x 0 j := fun {x} j h1 h2 h3 h4 => by
    unfold m_c6 m_q4
    rw [fl_n _ _ _ _ _ _ _ h4, fl_n _ _ _ _ _ _ _ h3, fl_n _ _ _ _ _ _ _ h2, fl_n _ _ _ _ _ _ _ h1]
  have w6p : g3 (m_c6 s5 k p) (30, 0) (3 * p) = g3 s5 (30, 0) (3 * p) := by
    unfold m_c6 m_q4
    rw [g3_fo _ _ _ _ _ _ _ (by omega), g3_fo _ _ _ _ _ _ _ (by omega), g3_fo _ _ _ _ _ _ _ (by omega), g3_fo _ _ _ _ _ _ _ (by omega)]
  generalize m_c6 s5 k p = s6 at o6 w6 b6 l6 e6 w6p
  have y7 : g3 (m_c7 s6 k) (37, 0) 0 = v_sca (g3 s6 (29, 0) (3 * k)) (s6.2.1 25 0 k) := g3_p _ _ _ _
  have e7 : ∀ {x : Nat} (j : Nat), x ≠ 37 → (m_c7 s6 k).2.1 x 0 j = s6.2.1 x 0 j := fun j h => l_pk _ _ _ _ _ _ h
  generalize m_c7 s6 k = s7 at y7 e7
  have y8 : g3 (m_c8 s7 p) (37, 0) 0 = v_crs (g3 s7 (30, 0) (3 * p)) (g3 s7 (37, 0) 0) := g3_p _ _ _ _
  have e8 : ∀ {x : Nat} (j : Nat), x ≠ 37 → (m_c8 s7 p).2.1 x 0 j = s7.2.1 x 0 j := fun j h => l_pk _ _ _ _ _ _ h
  generalize m_c8 s7 p = s8 at y8 e8
  have g87 : ∀ {x : Nat} {j : Nat}, x ≠ 37 → g3 s8 (x, 0) j = g3 s6 (x, 0) j := fun {x j} h => g3_eq (fun j => (e8 j h).trans (e7 j h))
  have u6 : g3 s6 (29, 0) (3 * k) = nx_u (Dm s p) (Pm s k) := (g3_eq (fun j => e6 j (by decide) (by decide) (by decide) (by decide))).trans f1
  refine ⟨?_, ?_, ?_, ?_, ?_, ?_, ?_, ?_⟩
  · rw [g87 (by decide), o6, f2, par (by decide) (by decide)]
    rfl
  · rw [g87 (by decide), u6]
  · rw [g87 (by decide), w6, par (by decide) (by decide)]
    rfl
  · rw [g87 (by decide), b6, par (by decide) (by decide)]
    rfl
  · rw [g87 (by decide), l6, par (by decide) (by decide)]
    rfl
  · rw [g87 (by decide), g3_eq (fun j => e6 j (by decide) (by decide) (by decide) (by decide)), f2]
  · rw [y8, y7, g3_eq (fun j => e7 j (show 30 ≠ 37 by decide)), w6p, par (by decide) (by decide), u6, e6 _ (by decide) (by decide) (by decide) (by decide), hL.2 25 _ (by omega)]
    show v_crs (mW s p) (v_sca (nx_u (Dm s p) (Pm s k)) (s.2.1 25 0 k)) = v_sca (v_crs (mW s p) (nx_u (Dm s p) (Pm s k))) (s.2.1 25 0 k)
    generalize mW s p = W
    generalize nx_u (Dm s p) (Pm s k) = U
    generalize s.2.1 25 0 k = f
    unfold v_crs v_sca
    refine v3_ext ?_ ?_ ?_ <;> (dsimp only; grind)
  · intro n
    rw [e8 _ (by decide), e7 _ (by decide), e6 _ (by decide) (by decide) (by decide) (by decide), f3]
theorem mXYZ_f {u : SS} {k : Nat} {f : Nat → ZF} (h : ∀ c, c < 9 → u.2.1 27 0 (9 * k + c) = f c) : mX u k = (f 0, f 3, f 6) ∧ mY u k = (f 1, f 4, f 7) ∧ mZ u k = (f 2, f 5, f 8) := by
  unfold mX mY mZ
  have h0 := h 0 (by decide)
  rw [Nat.add_zero] at h0
  rw [h0, h 1 (by decide), h 2 (by decide), h 3 (by decide), h 4 (by decide), h 5 (by decide), h 6 (by decide), h 7 (by decide), h 8 (by decide)]
  exact ⟨rfl, rfl, rfl⟩
/-- the body as carry leaves it, but for its loads -/
theorem c10_e (s : SS) (k p : Nat) (hp : p < k) : (let u := m_c10 (m_s8 s k p) k
    (mX u k, mY u k, mZ u k) = nx_fr (Dm s p) (Pm s k) ∧ g3 u (28, 0) (3 * k) = nx_o (Dm s p) (Pm s k) ∧ g3 u (29, 0) (3 * k) = nx_u (Dm s p) (Pm s k) ∧ g3 u (30, 0) (3 * k) = nx_w (Dm s p) (Pm s k) ∧ g3 u (31, 0) (3 * k) = nx_b (Dm s p) (Pm s k) ∧ g3 u (36, 0) 0 = nx_s (Dm s p) (Pm s k)
    ∧ acc (g3 u (32, 0) (3 * k)) (mB s p) (mW s p) (nx_s (Dm s p) (Pm s k)) = nx_A (Dm s p) (Pm s k)) := by
  obtain ⟨f1, f2, f3, f4, f5, f6, f7, f8⟩ := s8_e s k p hp
  have ht := til_e s k p
  dsimp only at ht
  have hL := Lc_s8 s k p
  dsimp only
  generalize hs8 : m_s8 s k p = s8 at f1 f2 f3 f4 f5 f6 f7 f8 hL
  simp only [← f8] at ht
  have hS : s8.2.2 8 k = s.2.2 8 k := by rw [hL.1]
  have hP1 : (Pm s k).2.1 = decide (s.2.2 8 k = 0) := rfl
  have hq : s8.2.1 21 0 k = s.2.1 21 0 k := hL.2 21 _ (by omega)
  have hv : s8.2.1 25 0 k = s.2.1 25 0 k := hL.2 25 _ (by omega)
  have ha : s8.2.1 26 0 k = s.2.1 26 0 k := hL.2 26 _ (by omega)
  unfold m_c10
  rw [hS]
  by_cases h0 : s.2.2 8 k = 0
  · rw [if_pos h0]
    unfold nx_fr nx_w nx_b nx_A
    rw [hP1, decide_eq_true h0]
    dsimp only [cond]
    unfold m_ct
    dsimp only
    have e1 : ∀ {x : Nat} (j : Nat), x ≠ 40 → (fl s8 (40, 0) 0 9 (rotf false (s8.2.1 21 0 k))).2.1 x 0 j = s8.2.1 x 0 j := fun j h => fl_n _ _ _ _ _ _ _ h
    have e40 : ∀ j, j < 9 → (fl s8 (40, 0) 0 9 (rotf false (s8.2.1 21 0 k))).2.1 40 0 j = rotf false (s.2.1 21 0 k) j := fun j hj => by
      rw [← hq]
      exact (fl_i s8 (40, 0) 0 9 _ (by omega)).trans (by rw [Nat.sub_zero])
    generalize fl s8 (40, 0) 0 9 (rotf false (s8.2.1 21 0 k)) = s9 at e1 e40
    have hmm := mmz_e s9 (s.2.1 21 0 k) (mX s p) (tp1 (mY s p) (mZ s p) (cosz (s.2.1 20 0 (16 * k + 3))) (sinz (s.2.1 20 0 (16 * k + 3)))) (tp2 (mY s p) (mZ s p) (cosz (s.2.1 20 0 (16 * k + 3))) (sinz (s.2.1 20 0 (16 * k + 3)))) e40 (by rw [e1 _ (by decide), e1 _ (by decide), e1 _ (by decide)]; exact ht.1) (by rw [e1 _ (by decide), e1 _ (by decide), e1 _ (by decide)]; exact ht.2.1) (by rw [e1 _ (by decide), e1 _ (by decide), e1 _ (by decide)]; exact ht.2.2)
    have e27 : ∀ c, c < 9 → (fl s9 (27, 0) (9 * k) 9 (mm s9 (39, 0) 0 (40, 0) 0)).2.1 27 0 (9 * k + c) = mm s9 (39, 0) 0 (40, 0) 0 c := fun c hc => (fl_i s9 (27, 0) (9 * k) 9 _ (by omega)).trans (by rw [Nat.add_sub_cancel_left])
    have e2 : ∀ {x : Nat} (j : Nat), x ≠ 27 → (fl s9 (27, 0) (9 * k) 9 (mm s9 (39, 0) 0 (40, 0) 0)).2.1 x 0 j = s9.2.1 x 0 j := fun j h => fl_n _ _ _ _ _ _ _ h
    generalize fl s9 (27, 0) (9 * k) 9 (mm s9 (39, 0) 0 (40, 0) 0) = s10 at e2 e27
    have g10 : ∀ {x : Nat} {j : Nat}, x ≠ 27 → x ≠ 40 → g3 s10 (x, 0) j = g3 s8 (x, 0) j := fun {x j} h h' => g3_eq (fun j => (e2 j h).trans (e1 j h'))
    have v10 : s10.2.1 25 0 k = s.2.1 25 0 k := by rw [e2 _ (by decide), e1 _ (by decide), hv]
    have a10 : s10.2.1 26 0 k = s.2.1 26 0 k := by rw [e2 _ (by decide), e1 _ (by decide), ha]
    refine ⟨?_, ?_, ?_, ?_, ?_, ?_, ?_⟩
    · have q9 : ∀ c, c < 9 → (p3 (p3 (p3 s10 (30, 0) (3 * k) (v_adt (g3 s10 (30, 0) (3 * k)) (g3 s10 (29, 0) (3 * k)) (s10.2.1 25 0 k))) (31, 0) (3 * k) (v_adt (g3 (p3 s10 (30, 0) (3 * k) (v_adt (g3 s10 (30, 0) (3 * k)) (g3 s10 (29, 0) (3 * k)) (s10.2.1 25 0 k))) (31, 0) (3 * k)) (g3 (p3 s10 (30, 0) (3 * k) (v_adt (g3 s10 (30, 0) (3 * k)) (g3 s10 (29, 0) (3 * k)) (s10.2.1 25 0 k))) (29, 0) (3 * k)) ((p3 s10 (30, 0) (3 * k) (v_adt (g3 s10 (30, 0) (3 * k)) (g3 s10 (29, 0) (3 * k)) (s10.2.1 25 0 k))).2.1 26 0 k))) (31, 0) (3 * k) (v_adt (g3 (p3 (p3 s10 (30, 0) (3 * k) (v_adt (g3 s10 (30, 0) (3 * k)) (g3 s10 (29, 0) (3 * k)) (s10.2.1 25 0 k))) (31, 0) (3 * k) (v_adt (g3 (p3 s10 (30, 0) (3 * k) (v_adt (g3 s10 (30, 0) (3 * k)) (g3 s10 (29, 0) (3 * k)) (s10.2.1 25 0 k))) (31, 0) (3 * k)) (g3 (p3 s10 (30, 0) (3 * k) (v_adt (g3 s10 (30, 0) (3 * k)) (g3 s10 (29, 0) (3 * k)) (s10.2.1 25 0 k))) (29, 0) (3 * k)) ((p3 s10 (30, 0) (3 * k) (v_adt (g3 s10 (30, 0) (3 * k)) (g3 s10 (29, 0) (3 * k)) (s10.2.1 25 0 k))).2.1 26 0 k))) (31, 0) (3 * k)) (g3 (p3 (p3 s10 (30, 0) (3 * k) (v_adt (g3 s10 (30, 0) (3 * k)) (g3 s10 (29, 0) (3 * k)) (s10.2.1 25 0 k))) (31, 0) (3 * k) (v_adt (g3 (p3 s10 (30, 0) (3 * k) (v_adt (g3 s10 (30, 0) (3 * k)) (g3 s10 (29, 0) (3 * k)) (s10.2.1 25 0 k))) (31, 0) (3 * k)) (g3 (p3 s10 (30, 0) (3 * k) (v_adt (g3 s10 (30, 0) (3 * k)) (g3 s10 (29, 0) (3 * k)) (s10.2.1 25 0 k))) (29, 0) (3 * k)) ((p3 s10 (30, 0) (3 * k) (v_adt (g3 s10 (30, 0) (3 * k)) (g3 s10 (29, 0) (3 * k)) (s10.2.1 25 0 k))).2.1 26 0 k))) (37, 0) 0) 1)).2.1 27 0 (9 * k + c) = mm s9 (39, 0) 0 (40, 0) 0 c := fun c hc => by
        rw [l_pk _ _ _ _ _ _ (by decide), l_pk _ _ _ _ _ _ (by decide), l_pk _ _ _ _ _ _ (by decide)]
        exact e27 c hc
      obtain ⟨h1, h2, h3⟩ := mXYZ_f q9
      rw [h1, h2, h3, hmm.1, hmm.2.1, hmm.2.2]
      rfl
    · simp (disch := decide) only [g3_pk, g3_p]
      rw [g10 (by decide) (by decide), f1]
    · simp (disch := decide) only [g3_pk, g3_p]
      rw [g10 (by decide) (by decide), f2]
    · simp (disch := decide) only [g3_pk, g3_p]
      rw [g10 (by decide) (by decide), g10 (by decide) (by decide), f2, f3, v10]
      rfl
    · simp (disch := decide) only [g3_pk, g3_p, l_pk, v_adt_1]
      rw [g10 (by decide) (by decide), g10 (by decide) (by decide), g10 (by decide) (by decide), f2, f4, f7, a10]
      rfl
    · simp (disch := decide) only [g3_pk, g3_p]
      rw [g10 (by decide) (by decide), f6]
    · simp (disch := decide) only [g3_pk, g3_p]
      rw [g10 (by decide) (by decide), f5]
      rfl
  · rw [if_neg h0]
    unfold nx_fr nx_w nx_b nx_A
    rw [hP1, decide_eq_false h0]
    dsimp only [cond]
    unfold m_c9
    dsimp only
    have e27 : ∀ c, c < 9 → (fl s8 (27, 0) (9 * k) 9 (fun c => s8.2.1 39 0 c)).2.1 27 0 (9 * k + c) = s8.2.1 39 0 c := fun c hc => (fl_i s8 (27, 0) (9 * k) 9 _ (by omega)).trans (by rw [Nat.add_sub_cancel_left])
    have e2 : ∀ {x : Nat} (j : Nat), x ≠ 27 → (fl s8 (27, 0) (9 * k) 9 (fun c => s8.2.1 39 0 c)).2.1 x 0 j = s8.2.1 x 0 j := fun j h => fl_n _ _ _ _ _ _ _ h
    generalize fl s8 (27, 0) (9 * k) 9 (fun c => s8.2.1 39 0 c) = s10 at e2 e27
    have g10 : ∀ {x : Nat} {j : Nat}, x ≠ 27 → g3 s10 (x, 0) j = g3 s8 (x, 0) j := fun {x j} h => g3_eq (fun j => e2 j h)
    have a10 : s10.2.1 26 0 k = s.2.1 26 0 k := by rw [e2 _ (by decide), ha]
    refine ⟨?_, ?_, ?_, ?_, ?_, ?_, ?_⟩
    · have q9 : ∀ (v w : V3) c, c < 9 → (p3 (p3 s10 (32, 0) (3 * k) v) (32, 0) (3 * k) w).2.1 27 0 (9 * k + c) = s8.2.1 39 0 c := fun v w c hc => by
        rw [l_pk _ _ _ _ _ _ (by decide), l_pk _ _ _ _ _ _ (by decide)]
        exact e27 c hc
      obtain ⟨h1, h2, h3⟩ := mXYZ_f (q9 _ _)
      rw [h1, h2, h3, ht.1, ht.2.1, ht.2.2]
      rfl
    · simp (disch := decide) only [g3_pk, g3_p]
      rw [g10 (by decide), f1]
    · simp (disch := decide) only [g3_pk, g3_p]
      rw [g10 (by decide), f2]
    · simp (disch := decide) only [g3_pk, g3_p]
      rw [g10 (by decide), f3]
      rfl
    · simp (disch := decide) only [g3_pk, g3_p]
      rw [g10 (by decide), f4]
      rfl
    · simp (disch := decide) only [g3_pk, g3_p]
      rw [g10 (by decide), f6]
    · simp (disch := decide) only [g3_pk, g3_p, l_pk]
      rw [g10 (by decide), g10 (by decide), g10 (by decide), f5, f2, f7, a10]
      show acc (v_adt (v_adt (mL s p) (nx_c (Dm s p) (Pm s k)) 2) (nx_u (Dm s p) (Pm s k)) (s.2.1 26 0 k)) (mB s p) (mW s p) (nx_s (Dm s p) (Pm s k)) = v_adt (v_adt (acc (mL s p) (mB s p) (mW s p) (nx_s (Dm s p) (Pm s k))) (nx_c (Dm s p) (Pm s k)) 2) (nx_u (Dm s p) (Pm s k)) (s.2.1 26 0 k)
      generalize mL s p = A
      generalize v_crs (mW s p) (v_crs (mW s p) (nx_s (Dm s p) (Pm s k))) = q1 at *
      unfold acc
      generalize nx_c (Dm s p) (Pm s k) = c
      generalize nx_u (Dm s p) (Pm s k) = U
      generalize s.2.1 26 0 k = f
      generalize v_crs (mB s p) (nx_s (Dm s p) (Pm s k)) = q2
      generalize v_crs (mW s p) (v_crs (mW s p) (nx_s (Dm s p) (Pm s k))) = q3
      unfold v_adt v_add
      refine v3_ext ?_ ?_ ?_ <;> (dsimp only; grind)
theorem car_e (s : SS) (k p : Nat) (hp : p < k) : Dm (m_car s k p) k = nxt (Dm s p) (Pm s k) := by
  have h := c10_e s k p hp
  have hL : Lc k s (m_c10 (m_s8 s k p) k) := Lc_tr (Lc_s8 s k p) (Lc_c10 _ _)
  dsimp only at h
  show Dm (m_lod (m_swg (m_c10 (m_s8 s k p) k) (32, 0) (3 * k) p (36, 0)) k) k = _
  generalize m_c10 (m_s8 s k p) k = u at h hL
  obtain ⟨h1, h2, h3, h4, h5, h6, h7⟩ := h
  have hwp : mW u p = mW s p := by
    unfold mW g3
    rw [hL.2 30 _ (by omega), hL.2 30 _ (by omega), hL.2 30 _ (by omega)]
  have hbp : mB u p = mB s p := by
    unfold mB g3
    rw [hL.2 31 _ (by omega), hL.2 31 _ (by omega), hL.2 31 _ (by omega)]
  have l1 := swg_32 u (3 * k) p
  rw [h6, hwp, hbp, h7] at l1
  have e1 : ∀ {x : Nat} (j : Nat), x ≠ 32 → x ≠ 38 → (m_swg u (32, 0) (3 * k) p (36, 0)).2.1 x 0 j = u.2.1 x 0 j := fun j h h' => swg_n u 32 _ _ _ _ h h'
  generalize m_swg u (32, 0) (3 * k) p (36, 0) = t at l1 e1
  have eP : ∀ j, t.2.1 20 0 j = s.2.1 20 0 j := fun j => (e1 j (by decide) (by decide)).trans (hL.2 20 _ (by omega))
  have tX : mX t k = mX u k := by unfold mX; rw [e1 _ (by decide) (by decide), e1 _ (by decide) (by decide), e1 _ (by decide) (by decide)]
  have tY : mY t k = mY u k := by unfold mY; rw [e1 _ (by decide) (by decide), e1 _ (by decide) (by decide), e1 _ (by decide) (by decide)]
  have tZ : mZ t k = mZ u k := by unfold mZ; rw [e1 _ (by decide) (by decide), e1 _ (by decide) (by decide), e1 _ (by decide) (by decide)]
  have tI : mIr t k = mIr s k := by unfold mIr; simp only [eP]
  have tc : g3 t (20, 0) (16 * k + 5) = g3 s (20, 0) (16 * k + 5) := g3_eq eP
  have tW : mW t k = nx_w (Dm s p) (Pm s k) := (g3_eq (fun j => e1 j (by decide) (by decide))).trans h4
  have tB : mB t k = nx_b (Dm s p) (Pm s k) := (g3_eq (fun j => e1 j (by decide) (by decide))).trans h5
  have tL : mL t k = nx_A (Dm s p) (Pm s k) := l1
  have tO : mO t k = nx_o (Dm s p) (Pm s k) := (g3_eq (fun j => e1 j (by decide) (by decide))).trans h2
  have tU : mU t k = nx_u (Dm s p) (Pm s k) := (g3_eq (fun j => e1 j (by decide) (by decide))).trans h3
  obtain ⟨q1, q2, q3⟩ := lod_e t k
  have n : ∀ {x : Nat} (j : Nat), x < 33 → (m_lod t k).2.1 x 0 j = t.2.1 x 0 j := fun j h => lod_n t k j h
  have dX : mX (m_lod t k) k = mX t k := by unfold mX; rw [n _ (by decide), n _ (by decide), n _ (by decide)]
  have dY : mY (m_lod t k) k = mY t k := by unfold mY; rw [n _ (by decide), n _ (by decide), n _ (by decide)]
  have dZ : mZ (m_lod t k) k = mZ t k := by unfold mZ; rw [n _ (by decide), n _ (by decide), n _ (by decide)]
  have dO : mO (m_lod t k) k = mO t k := g3_eq (fun j => n j (by decide))
  have dU : mU (m_lod t k) k = mU t k := g3_eq (fun j => n j (by decide))
  have dW : mW (m_lod t k) k = mW t k := g3_eq (fun j => n j (by decide))
  have dB : mB (m_lod t k) k = mB t k := g3_eq (fun j => n j (by decide))
  have dL : mL (m_lod t k) k = mL t k := g3_eq (fun j => n j (by decide))
  have hX : mX u k = (nx_fr (Dm s p) (Pm s k)).1 := congrArg Prod.fst h1
  have hY : mY u k = (nx_fr (Dm s p) (Pm s k)).2.1 := congrArg (fun z => z.2.1) h1
  have hZ : mZ u k = (nx_fr (Dm s p) (Pm s k)).2.2 := congrArg (fun z => z.2.2) h1
  unfold Dm
  rw [dX, dY, dZ, dO, dU, dW, dB, dL, q1, q2, q3, tX, tY, tZ, tI, tc, tW, tB, tL, tO, tU, eP, hX, hY, hZ]
  refine Prod.ext rfl (Prod.ext rfl (Prod.ext rfl (Prod.ext rfl ?_)))
  exact v_add_c _ _
