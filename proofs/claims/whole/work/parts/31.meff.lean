/-! What carry does to the arrays -/
/-- only body k's places, and scratch, have changed -/
def Lc (k : Nat) (s s' : SS) : Prop := s'.2.2 = s.2.2 ∧ ∀ a j, (a < 27 ∨ a = 27 ∧ (j < 9 * k ∨ 9 * k + 9 ≤ j) ∨ 28 ≤ a ∧ a ≤ 35 ∧ (j < 3 * k ∨ 3 * k + 3 ≤ j)) → s'.2.1 a 0 j = s.2.1 a 0 j
theorem Lc_rf (k : Nat) (s : SS) : Lc k s s := ⟨rfl, fun _ _ _ => rfl⟩
theorem Lc_tr {k : Nat} {a b c : SS} (h : Lc k a b) (g : Lc k b c) : Lc k a c := ⟨g.1.trans h.1, fun x j hx => (g.2 x j hx).trans (h.2 x j hx)⟩
theorem Lc_fl {k : Nat} (s : SS) (t b n : Nat) (f : Nat → ZF) (ht : 36 ≤ t ∨ (t = 27 ∧ b = 9 * k ∧ n = 9) ∨ (28 ≤ t ∧ t ≤ 35 ∧ b = 3 * k ∧ n = 3)) : Lc k s (fl s (t, 0) b n f) := by
  refine ⟨rfl, fun a j ha => if_neg (fun q => ?_)⟩
  have q1 : a = t := q.1
  have q2 := q.2.2
  omega
theorem Lc_p3 {k : Nat} (s : SS) (t b : Nat) (v : V3) (ht : 36 ≤ t ∨ (28 ≤ t ∧ t ≤ 35 ∧ b = 3 * k)) : Lc k s (p3 s (t, 0) b v) := Lc_fl s t b 3 _ (by omega)
theorem Lc_swg {k : Nat} (s : SS) (t p : Nat) (q : Nat × Nat) (ht : 28 ≤ t ∧ t ≤ 35) : Lc k s (m_swg s (t, 0) (3 * k) p q) := by
  unfold m_swg
  exact Lc_tr (Lc_p3 s _ _ _ (by omega)) (Lc_tr (Lc_p3 _ _ _ _ (by omega)) (Lc_tr (Lc_p3 _ _ _ _ (by omega)) (Lc_tr (Lc_p3 _ _ _ _ (by omega)) (Lc_p3 _ _ _ _ (by omega)))))
theorem Lc_hvy {k : Nat} (s : SS) (l : Nat × Nat) (i : Nat) : Lc k s (m_hvy s k l i) := by
  unfold m_hvy m_h3 m_h2 m_h1
  exact Lc_tr (Lc_fl s _ _ _ _ (by omega)) (Lc_tr (Lc_fl _ _ _ _ _ (by omega)) (Lc_p3 _ _ _ _ (by omega)))
theorem Lc_lod (s : SS) (k : Nat) : Lc k s (m_lod s k) := by
  unfold m_lod m_l9 m_l7 m_l5 m_l3 m_l2 m_l1
  exact Lc_tr (Lc_p3 s _ _ _ (by omega)) (Lc_tr (Lc_p3 _ _ _ _ (by omega)) (Lc_tr (Lc_p3 _ _ _ _ (by omega)) (Lc_tr (Lc_swg _ _ _ _ (by omega)) (Lc_tr (Lc_p3 _ _ _ _ (by omega)) (Lc_tr (Lc_hvy _ _ _) (Lc_tr (Lc_p3 _ _ _ _ (by omega)) (Lc_tr (Lc_hvy _ _ _) (Lc_p3 _ _ _ _ (by omega)))))))))
theorem Lc_c5 (s : SS) (k : Nat) : Lc k s (m_c5 s k) := by
  unfold m_c5
  split
  · exact Lc_rf k s
  · exact Lc_p3 _ _ _ _ (by omega)
theorem Lc_c10 (s : SS) (k : Nat) : Lc k s (m_c10 s k) := by
  unfold m_c10
  split
  · unfold m_ct
    exact Lc_tr (Lc_fl s _ _ _ _ (by omega)) (Lc_tr (Lc_fl _ _ _ _ _ (by omega)) (Lc_tr (Lc_p3 _ _ _ _ (by omega)) (Lc_tr (Lc_p3 _ _ _ _ (by omega)) (Lc_p3 _ _ _ _ (by omega)))))
  · unfold m_c9
    exact Lc_tr (Lc_fl s _ _ _ _ (by omega)) (Lc_tr (Lc_p3 _ _ _ _ (by omega)) (Lc_p3 _ _ _ _ (by omega)))
theorem Lc_c6 (s : SS) (k p : Nat) : Lc k s (m_c6 s k p) := by
  unfold m_c6 m_q4
  exact Lc_tr (Lc_fl s _ _ _ _ (by omega)) (Lc_tr (Lc_fl _ _ _ _ _ (by omega)) (Lc_tr (Lc_fl _ _ _ _ _ (by omega)) (Lc_fl _ _ _ _ _ (by omega))))
noncomputable def m_s5 (s : SS) (k p : Nat) : SS := m_c5 (m_c4 (m_c3 (m_c2 (m_c1 s k) p) k) k p) k
noncomputable def m_s8 (s : SS) (k p : Nat) : SS := m_c8 (m_c7 (m_c6 (m_s5 s k p) k p) k) p
theorem Lc_s5 (s : SS) (k p : Nat) : Lc k s (m_s5 s k p) := by
  unfold m_s5 m_c4 m_c3 m_c2 m_c1
  exact Lc_tr (Lc_fl s _ _ _ _ (by omega)) (Lc_tr (Lc_fl _ _ _ _ _ (by omega)) (Lc_tr (Lc_p3 _ _ _ _ (by omega)) (Lc_tr (Lc_p3 _ _ _ _ (by omega)) (Lc_c5 _ _))))
theorem Lc_s8 (s : SS) (k p : Nat) : Lc k s (m_s8 s k p) := by
  unfold m_s8 m_c8 m_c7
  exact Lc_tr (Lc_s5 s k p) (Lc_tr (Lc_c6 _ _ _) (Lc_tr (Lc_p3 _ _ _ _ (by omega)) (Lc_p3 _ _ _ _ (by omega))))
theorem Lc_car (s : SS) (k p : Nat) : Lc k s (m_car s k p) := by
  show Lc k s (m_end (m_c10 (m_s8 s k p) k) k p)
  unfold m_end
  exact Lc_tr (Lc_s8 s k p) (Lc_tr (Lc_c10 _ _) (Lc_tr (Lc_swg _ _ _ _ (by omega)) (Lc_lod _ _)))
theorem Lc_D {k i : Nat} {s s' : SS} (h : Lc k s s') (hi : i ≠ k) : Dm s' i = Dm s i := by
  have h3 : ∀ a, 28 ≤ a → a ≤ 35 → g3 s' (a, 0) (3 * i) = g3 s (a, 0) (3 * i) := fun a h1 h2 => by
    unfold g3
    rw [h.2 a _ (by omega), h.2 a _ (by omega), h.2 a _ (by omega)]
  have h9 : ∀ c, c < 9 → s'.2.1 27 0 (9 * i + c) = s.2.1 27 0 (9 * i + c) := fun c hc => h.2 27 _ (by omega)
  have h0 := h9 0 (by decide)
  rw [Nat.add_zero] at h0
  unfold Dm mX mY mZ mO mU mA mW mB mL mF mN
  rw [h3 28 (by decide) (by decide), h3 29 (by decide) (by decide), h3 30 (by decide) (by decide), h3 31 (by decide) (by decide), h3 32 (by decide) (by decide), h3 33 (by decide) (by decide), h3 34 (by decide) (by decide), h3 35 (by decide) (by decide), h0, h9 1 (by decide), h9 2 (by decide), h9 3 (by decide), h9 4 (by decide), h9 5 (by decide), h9 6 (by decide), h9 7 (by decide), h9 8 (by decide)]
theorem Lc_P {k i : Nat} {s s' : SS} (h : Lc k s s') : Pm s' i = Pm s i := by
  have h1 : ∀ a j, a < 27 → s'.2.1 a 0 j = s.2.1 a 0 j := fun a j ha => h.2 a j (Or.inl ha)
  unfold Pm mIr g3
  simp only [h.1, h1 20 _ (by decide), h1 21 _ (by decide), h1 25 _ (by decide), h1 26 _ (by decide)]
theorem v_adt_1 (a b : V3) : v_adt a b 1 = v_add a b := by
  refine v3_ext ?_ ?_ ?_ <;> (unfold v_adt v_add; grind)
theorem swg_32 (s : SS) (a p : Nat) : g3 (m_swg s (32, 0) a p (36, 0)) (32, 0) a = acc (g3 s (32, 0) a) (mB s p) (mW s p) (g3 s (36, 0) 0) := by
  unfold m_swg acc mB mW
  dsimp only
  simp (disch := decide) only [g3_p, g3_pk, v_adt_1]
theorem swg_34 (s : SS) (a p : Nat) : g3 (m_swg s (34, 0) a p (36, 0)) (34, 0) a = acc (g3 s (34, 0) a) (mB s p) (mW s p) (g3 s (36, 0) 0) := by
  unfold m_swg acc mB mW
  dsimp only
  simp (disch := decide) only [g3_p, g3_pk, v_adt_1]
theorem swg_n (s : SS) (t a p : Nat) (q : Nat × Nat) {x : Nat} (j : Nat) (h1 : x ≠ t) (h2 : x ≠ 38) : (m_swg s (t, 0) a p q).2.1 x 0 j = s.2.1 x 0 j := by
  unfold m_swg
  dsimp only
  rw [l_pk _ _ _ _ _ _ h1, l_pk _ _ _ _ _ _ h2, l_pk _ _ _ _ _ _ h2, l_pk _ _ _ _ _ _ h1, l_pk _ _ _ _ _ _ h2]
theorem swg_g (s : SS) (t a p : Nat) (q : Nat × Nat) {x : Nat} (j : Nat) (h1 : x ≠ t) (h2 : x ≠ 38) : g3 (m_swg s (t, 0) a p q) (x, 0) j = g3 s (x, 0) j := by
  unfold g3
  rw [swg_n s t a p q _ h1 h2, swg_n s t a p q _ h1 h2, swg_n s t a p q _ h1 h2]
/-- heavy: J times a vector, to x -/
theorem hvy_x (s : SS) (k : Nat) (l : Nat × Nat) (i : Nat) (hl : l.1 = 30 ∨ l.1 = 31) : g3 (m_hvy s k l i) (36, 0) 0 = jx (mX s k, mY s k, mZ s k) (mIr s k) (g3 s l i) := by
  have h3 : g3 (m_hvy s k l i) (36, 0) 0 = v_mv (g3 (m_h2 (m_h1 s k l i) k) (27, 0) (9 * k)) (g3 (m_h2 (m_h1 s k l i) k) (27, 0) (9 * k + 3)) (g3 (m_h2 (m_h1 s k l i) k) (27, 0) (9 * k + 6)) (g3 (m_h2 (m_h1 s k l i) k) (38, 0) 0) := g3_p _ _ _ _
  rw [h3]
  have e27 : ∀ j, g3 (m_h2 (m_h1 s k l i) k) (27, 0) j = g3 s (27, 0) j := fun j => by
    unfold m_h2 m_h1
    rw [g3_fk _ _ _ _ _ _ _ (by decide), g3_fk _ _ _ _ _ _ _ (by decide)]
  have e38 : g3 (m_h2 (m_h1 s k l i) k) (38, 0) 0 = (hps (m_h1 s k l i) k 0 3, hps (m_h1 s k l i) k 1 3, hps (m_h1 s k l i) k 2 3) := rfl
  have e20 : ∀ j, (m_h1 s k l i).2.1 20 0 j = s.2.1 20 0 j := fun j => fl_n _ _ _ _ _ _ _ (by decide)
  have y0 : (m_h1 s k l i).2.1 37 0 0 = v_dot (mX s k) (g3 s l i) := rfl
  have y1 : (m_h1 s k l i).2.1 37 0 1 = v_dot (mY s k) (g3 s l i) := by
    show hy1 s k l i 1 = _
    unfold hy1 v_dot mY g3
    rw [show 9 * k + 3 + 1 = 9 * k + 4 by omega, show 9 * k + 6 + 1 = 9 * k + 7 by omega]
  have y2 : (m_h1 s k l i).2.1 37 0 2 = v_dot (mZ s k) (g3 s l i) := by
    show hy1 s k l i 2 = _
    unfold hy1 v_dot mZ g3
    rw [show 9 * k + 3 + 2 = 9 * k + 5 by omega, show 9 * k + 6 + 2 = 9 * k + 8 by omega]
  have z : ∀ r, hps (m_h1 s k l i) k r 3 = s.2.1 20 0 (16 * k + iA r 0) * v_dot (mX s k) (g3 s l i) + s.2.1 20 0 (16 * k + iA r 1) * v_dot (mY s k) (g3 s l i) + s.2.1 20 0 (16 * k + iA r 2) * v_dot (mZ s k) (g3 s l i) := fun r => by
    show (0 + (m_h1 s k l i).2.1 20 0 (16 * k + iA r 0) * (m_h1 s k l i).2.1 37 0 0) + (m_h1 s k l i).2.1 20 0 (16 * k + iA r 1) * (m_h1 s k l i).2.1 37 0 1 + (m_h1 s k l i).2.1 20 0 (16 * k + iA r 2) * (m_h1 s k l i).2.1 37 0 2 = _
    rw [e20, e20, e20, y0, y1, y2]
    grind
  rw [e27, e27, e27, e38, z, z, z]
  have i00 : iA 0 0 = 8 := rfl
  have i01 : iA 0 1 = 11 := rfl
  have i02 : iA 0 2 = 12 := rfl
  have i10 : iA 1 0 = 11 := rfl
  have i11 : iA 1 1 = 9 := rfl
  have i12 : iA 1 2 = 13 := rfl
  have i20 : iA 2 0 = 12 := rfl
  have i21 : iA 2 1 = 13 := rfl
  have i22 : iA 2 2 = 10 := rfl
  rw [i00, i01, i02, i10, i11, i12, i20, i21, i22]
  refine v3_ext ?_ ?_ ?_
  · rfl
  · show v_dot (g3 s (27, 0) (9 * k + 3)) _ = _
    unfold g3 v_dot
    rw [show 9 * k + 3 + 1 = 9 * k + 4 by omega, show 9 * k + 3 + 2 = 9 * k + 5 by omega]
    rfl
  · show v_dot (g3 s (27, 0) (9 * k + 6)) _ = _
    unfold g3 v_dot
    rw [show 9 * k + 6 + 1 = 9 * k + 7 by omega, show 9 * k + 6 + 2 = 9 * k + 8 by omega]
    rfl
theorem hvy_n (s : SS) (k : Nat) (l : Nat × Nat) (i : Nat) {x : Nat} (j : Nat) (h : x < 36 ∨ 38 < x) : (m_hvy s k l i).2.1 x 0 j = s.2.1 x 0 j := by
  unfold m_hvy m_h3 m_h2 m_h1
  rw [l_pk _ _ _ _ _ _ (by show x ≠ 36; omega), fl_n _ _ _ _ _ _ _ (by show x ≠ 38; omega), fl_n _ _ _ _ _ _ _ (by show x ≠ 37; omega)]
theorem hvy_g (s : SS) (k : Nat) (l : Nat × Nat) (i : Nat) {x : Nat} (j : Nat) (h : x < 36 ∨ 38 < x) : g3 (m_hvy s k l i) (x, 0) j = g3 s (x, 0) j := by
  unfold g3
  rw [hvy_n s k l i _ h, hvy_n s k l i _ h, hvy_n s k l i _ h]
/-- loads: lever, force and moment of the body alone -/
theorem lod_e (s : SS) (k : Nat) : mA (m_lod s k) k = lin (mX s k) (mY s k) (mZ s k) (g3 s (20, 0) (16 * k + 5)) ∧ mF (m_lod s k) k = v_sca (acc (mL s k) (mB s k) (mW s k) (lin (mX s k) (mY s k) (mZ s k) (g3 s (20, 0) (16 * k + 5)))) (s.2.1 20 0 (16 * k + 4))
    ∧ mN (m_lod s k) k = v_add (v_crs (mW s k) (jx (mX s k, mY s k, mZ s k) (mIr s k) (mW s k))) (jx (mX s k, mY s k, mZ s k) (mIr s k) (mB s k)) := by
  have e1 : ∀ {x : Nat} (j : Nat), x ≠ 33 → (m_l1 s k).2.1 x 0 j = s.2.1 x 0 j := fun j h => l_pk _ _ _ _ _ _ h
  have a1 : g3 (m_l1 s k) (33, 0) (3 * k) = lin (mX s k) (mY s k) (mZ s k) (g3 s (20, 0) (16 * k + 5)) := by
    refine (g3_p _ _ _ _).trans ?_
    refine v3_ext ?_ ?_ ?_
    · rfl
    · show v_dot (g3 s (27, 0) (9 * k + 3)) _ = _
      unfold g3 v_dot
      rw [show 9 * k + 3 + 1 = 9 * k + 4 by omega, show 9 * k + 3 + 2 = 9 * k + 5 by omega]
      rfl
    · show v_dot (g3 s (27, 0) (9 * k + 6)) _ = _
      unfold g3 v_dot
      rw [show 9 * k + 6 + 1 = 9 * k + 7 by omega, show 9 * k + 6 + 2 = 9 * k + 8 by omega]
      rfl
  generalize hs1 : m_l1 s k = s1 at e1 a1
  have x2 : g3 (m_l2 s1 k) (36, 0) 0 = g3 s1 (33, 0) (3 * k) := g3_p _ _ _ _
  have e2 : ∀ {x : Nat} (j : Nat), x ≠ 36 → (m_l2 s1 k).2.1 x 0 j = s1.2.1 x 0 j := fun j h => l_pk _ _ _ _ _ _ h
  generalize hs2 : m_l2 s1 k = s2 at e2 x2
  have f3 : g3 (m_l3 s2 k) (34, 0) (3 * k) = g3 s2 (32, 0) (3 * k) := g3_p _ _ _ _
  have e3 : ∀ {x : Nat} (j : Nat), x ≠ 34 → (m_l3 s2 k).2.1 x 0 j = s2.2.1 x 0 j := fun j h => l_pk _ _ _ _ _ _ h
  generalize hs3 : m_l3 s2 k = s3 at e3 f3
  have f4 := swg_34 s3 (3 * k) k
  have e4 : ∀ {x : Nat} (j : Nat), x ≠ 34 → x ≠ 38 → (m_swg s3 (34, 0) (3 * k) k (36, 0)).2.1 x 0 j = s3.2.1 x 0 j := fun j h h' => swg_n s3 34 _ _ _ _ h h'
  generalize hs4 : m_swg s3 (34, 0) (3 * k) k (36, 0) = s4 at e4 f4
  have f5 : g3 (m_l5 s4 k) (34, 0) (3 * k) = v_sca (g3 s4 (34, 0) (3 * k)) (s4.2.1 20 0 (16 * k + 4)) := g3_p _ _ _ _
  have e5 : ∀ {x : Nat} (j : Nat), x ≠ 34 → (m_l5 s4 k).2.1 x 0 j = s4.2.1 x 0 j := fun j h => l_pk _ _ _ _ _ _ h
  generalize hs5 : m_l5 s4 k = s5 at e5 f5
  have x6 := hvy_x s5 k (30, 0) (3 * k) (Or.inl rfl)
  have e6 : ∀ {x : Nat} (j : Nat), x < 36 → (m_hvy s5 k (30, 0) (3 * k)).2.1 x 0 j = s5.2.1 x 0 j := fun j h => hvy_n s5 k _ _ _ (Or.inl h)
  generalize hs6 : m_hvy s5 k (30, 0) (3 * k) = s6 at e6 x6
  have n7 : g3 (m_l7 s6 k) (35, 0) (3 * k) = v_crs (g3 s6 (30, 0) (3 * k)) (g3 s6 (36, 0) 0) := g3_p _ _ _ _
  have e7 : ∀ {x : Nat} (j : Nat), x ≠ 35 → (m_l7 s6 k).2.1 x 0 j = s6.2.1 x 0 j := fun j h => l_pk _ _ _ _ _ _ h
  generalize hs7 : m_l7 s6 k = s7 at e7 n7
  have x8 := hvy_x s7 k (31, 0) (3 * k) (Or.inr rfl)
  have e8 : ∀ {x : Nat} (j : Nat), x < 36 → (m_hvy s7 k (31, 0) (3 * k)).2.1 x 0 j = s7.2.1 x 0 j := fun j h => hvy_n s7 k _ _ _ (Or.inl h)
  generalize hs8 : m_hvy s7 k (31, 0) (3 * k) = s8 at e8 x8
  have n9 : g3 (m_l9 s8 k) (35, 0) (3 * k) = v_adt (g3 s8 (35, 0) (3 * k)) (g3 s8 (36, 0) 0) 1 := g3_p _ _ _ _
  have e9 : ∀ {x : Nat} (j : Nat), x ≠ 35 → (m_l9 s8 k).2.1 x 0 j = s8.2.1 x 0 j := fun j h => l_pk _ _ _ _ _ _ h
  have hm : m_lod s k = m_l9 s8 k := by rw [← hs8, ← hs7, ← hs6, ← hs5, ← hs4, ← hs3, ← hs2, ← hs1]; rfl
  rw [hm]
  have r5 : ∀ {x : Nat} (j : Nat), x < 33 → s5.2.1 x 0 j = s.2.1 x 0 j := fun {x} j h => by
    rw [e5 j (by omega), e4 j (by omega) (by omega), e3 j (by omega), e2 j (by omega), e1 j (by omega)]
  have r7 : ∀ {x : Nat} (j : Nat), x < 33 → s7.2.1 x 0 j = s.2.1 x 0 j := fun {x} j h => by
    rw [e7 j (by omega), e6 j (by omega), r5 j h]
  have r3 : ∀ {x : Nat} (j : Nat), x < 33 → s3.2.1 x 0 j = s.2.1 x 0 j := fun {x} j h => by
    rw [e3 j (by omega), e2 j (by omega), e1 j (by omega)]
  have gg : ∀ {u v : SS} {x : Nat} {j : Nat}, (∀ j, u.2.1 x 0 j = v.2.1 x 0 j) → g3 u (x, 0) j = g3 v (x, 0) j := fun {u v x j} h => by
    unfold g3
    rw [h, h, h]
  have D : ∀ {u : SS}, (∀ {x : Nat} (j : Nat), x < 33 → u.2.1 x 0 j = s.2.1 x 0 j) → mX u k = mX s k ∧ mY u k = mY s k ∧ mZ u k = mZ s k ∧ mIr u k = mIr s k ∧ mW u k = mW s k ∧ mB u k = mB s k ∧ mL u k = mL s k := fun {u} h => by
    unfold mX mY mZ mIr mW mB mL g3
    dsimp only
    refine ⟨?_, ?_, ?_, ?_, ?_, ?_, ?_⟩ <;> simp only [h _ (show 27 < 33 by decide), h _ (show 20 < 33 by decide), h _ (show 30 < 33 by decide), h _ (show 31 < 33 by decide), h _ (show 32 < 33 by decide)]
  have D3 := D (u := s3) (fun j h => r3 j h)
  have D5 := D (u := s5) (fun j h => r5 j h)
  have D7 := D (u := s7) (fun j h => r7 j h)
  refine ⟨?_, ?_, ?_⟩
  · unfold mA
    rw [gg (fun j => (e9 j (by decide)).trans ((e8 j (by decide)).trans ((e7 j (by decide)).trans ((e6 j (by decide)).trans ((e5 j (by decide)).trans ((e4 j (by decide) (by decide)).trans ((e3 j (by decide)).trans (e2 j (by decide)))))))))]
    exact a1
  · unfold mF
    rw [gg (fun j => (e9 j (by decide)).trans ((e8 j (by decide)).trans ((e7 j (by decide)).trans (e6 j (by decide)))))]
    rw [f5, f4, f3]
    have q36 : g3 s3 (36, 0) 0 = g3 s1 (33, 0) (3 * k) := (gg (fun j => e3 j (by decide))).trans x2
    have q32 : g3 s2 (32, 0) (3 * k) = mL s k := by
      unfold mL
      exact gg (fun j => (e2 j (by decide)).trans (e1 j (by decide)))
    rw [q36, a1, q32, D3.2.2.2.2.1, D3.2.2.2.2.2.1, e4 _ (by decide) (by decide), r3 _ (by decide)]
  · unfold mN
    rw [n9, v_adt_1, x8, gg (fun j => e8 j (by decide)), n7, x6]
    have q30 : g3 s6 (30, 0) (3 * k) = mW s k := by
      unfold mW
      exact gg (fun j => (e6 j (by decide)).trans (r5 j (by decide)))
    have q30' : g3 s5 (30, 0) (3 * k) = mW s k := by
      unfold mW
      exact gg (fun j => r5 j (by decide))
    have q31 : g3 s7 (31, 0) (3 * k) = mB s k := by
      unfold mB
      exact gg (fun j => r7 j (by decide))
    rw [q30, q30', q31, D5.1, D5.2.1, D5.2.2.1, D5.2.2.2.1, D7.1, D7.2.1, D7.2.2.1, D7.2.2.2.1]
