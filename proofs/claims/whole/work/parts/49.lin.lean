/-! With joints at rest and no gravity the torques are linear in the accelerations -/
section LN
variable {t : ZF}
theorem L_add (x1 x2 y1 y2 : V3) : v_add (v_adt x1 x2 t) (v_adt y1 y2 t) = v_adt (v_add x1 y1) (v_add x2 y2) t := by
  refine v3_ext ?_ ?_ ?_ <;> (unfold v_add v_adt; dsimp only; grind)
theorem L_crs (x1 x2 r : V3) : v_crs (v_adt x1 x2 t) r = v_adt (v_crs x1 r) (v_crs x2 r) t := by
  refine v3_ext ?_ ?_ ?_ <;> (unfold v_crs v_adt; dsimp only; grind)
theorem L_crs2 (r x1 x2 : V3) : v_crs r (v_adt x1 x2 t) = v_adt (v_crs r x1) (v_crs r x2) t := by
  refine v3_ext ?_ ?_ ?_ <;> (unfold v_crs v_adt; dsimp only; grind)
theorem L_sca (x1 x2 : V3) (c : ZF) : v_sca (v_adt x1 x2 t) c = v_adt (v_sca x1 c) (v_sca x2 c) t := by
  refine v3_ext ?_ ?_ ?_ <;> (unfold v_sca v_adt; dsimp only; grind)
theorem L_adt (x1 x2 u : V3) (a1 a2 : ZF) : v_adt (v_adt x1 x2 t) u (a1 + a2 * t) = v_adt (v_adt x1 u a1) (v_adt x2 u a2) t := by
  refine v3_ext ?_ ?_ ?_ <;> (unfold v_adt; dsimp only; grind)
theorem L_inw (x y z p q : V3) : inw x y z (v_adt p q t) = v_adt (inw x y z p) (inw x y z q) t := by
  refine v3_ext ?_ ?_ ?_ <;> (unfold inw v_adt v_dot; dsimp only; grind)
theorem L_lin (x y z p q : V3) : lin x y z (v_adt p q t) = v_adt (lin x y z p) (lin x y z q) t := by
  refine v3_ext ?_ ?_ ?_ <;> (unfold lin v_adt v_sca v_add; dsimp only; grind)
theorem L_jx (R I : V3 × V3 × V3) (p q : V3) : jx R I (v_adt p q t) = v_adt (jx R I p) (jx R I q) t := by
  unfold jx
  rw [L_inw, L_inw, L_lin]
theorem L_dot (u x y : V3) : v_dot u (v_adt x y t) = v_dot u x + v_dot u y * t := by
  unfold v_dot v_adt
  dsimp only
  grind
end LN
theorem z_crs (r : V3) : v_crs (0, 0, 0) r = (0, 0, 0) := by
  refine v3_ext ?_ ?_ ?_ <;> (unfold v_crs; dsimp only; grind)
theorem z_sca0 (c : ZF) : v_sca (0, 0, 0) c = (0, 0, 0) := by
  refine v3_ext ?_ ?_ ?_ <;> (unfold v_sca; dsimp only; grind)
theorem z_add0 (x : V3) : v_add x (0, 0, 0) = x := by
  refine v3_ext ?_ ?_ ?_ <;> (unfold v_add; dsimp only; grind)
theorem z_adt0 (x u : V3) : v_adt x u 0 = x := by
  refine v3_ext ?_ ?_ ?_ <;> (unfold v_adt; dsimp only; grind)
theorem z_adtz (x : V3) (c : ZF) : v_adt x (0, 0, 0) c = x := by
  refine v3_ext ?_ ?_ ?_ <;> (unfold v_adt; dsimp only; grind)
theorem acc_0 (A b r : V3) : acc A b (0, 0, 0) r = v_add A (v_crs b r) := by
  unfold acc
  rw [z_crs, z_add0]
def Q3 (t : ZF) (D1 D2 D3 : Tup) : Prop := (D1.1 = D3.1 ∧ D2.1 = D3.1) ∧ (D1.2.1.1 = D3.2.1.1 ∧ D2.2.1.1 = D3.2.1.1) ∧ (D1.2.2.1.1 = (0, 0, 0) ∧ D2.2.2.1.1 = (0, 0, 0) ∧ D3.2.2.1.1 = (0, 0, 0)) ∧ D3.2.2.1.2.1 = v_adt D1.2.2.1.2.1 D2.2.2.1.2.1 t ∧ D3.2.2.1.2.2 = v_adt D1.2.2.1.2.2 D2.2.2.1.2.2 t
def Q5 (t : ZF) (D1 D2 D3 : Tup) : Prop := (D1.2.1 = D3.2.1 ∧ D2.2.1 = D3.2.1) ∧ D3.2.2.2.1 = v_adt D1.2.2.2.1 D2.2.2.2.1 t ∧ D3.2.2.2.2 = v_adt D1.2.2.2.2 D2.2.2.2.2 t
theorem nxt_lin {t : ZF} {D1 D2 D3 : Tup} (h : Q3 t D1 D2 D3) (ti po ma a1 a2 : ZF) (sl : Bool) (pl : V3 × V3) (I : V3 × V3 × V3) :
    Q3 t (nxt D1 ((ti, po, 0, a1, ma), sl, pl, I)) (nxt D2 ((ti, po, 0, a2, ma), sl, pl, I)) (nxt D3 ((ti, po, 0, a1 + a2 * t, ma), sl, pl, I)) ∧ Q5 t (nxt D1 ((ti, po, 0, a1, ma), sl, pl, I)) (nxt D2 ((ti, po, 0, a2, ma), sl, pl, I)) (nxt D3 ((ti, po, 0, a1 + a2 * t, ma), sl, pl, I)) := by
  obtain ⟨f1, ⟨o1, u1, e1⟩, ⟨w1, b1, A1⟩, ⟨F1, N1⟩⟩ := D1
  obtain ⟨f2, ⟨o2, u2, e2⟩, ⟨w2, b2, A2⟩, ⟨F2, N2⟩⟩ := D2
  obtain ⟨f3, ⟨o3, u3, e3⟩, ⟨w3, b3, A3⟩, ⟨F3, N3⟩⟩ := D3
  obtain ⟨⟨h1, h2⟩, ⟨h3, h4⟩, ⟨h5, h6, h7⟩, h8, h9⟩ := h
  dsimp only at h1 h2 h3 h4 h5 h6 h7 h8 h9
  subst h1 h2 h3 h4 h5 h6 h7 h8 h9
  obtain ⟨U, hU⟩ : ∃ U, U = nx_u (f2, (o2, u3, e3), ((0, 0, 0), b1, A1), (F3, N3)) ((ti, po, 0, a1, ma), sl, pl, I) := ⟨_, rfl⟩
  obtain ⟨S, hS⟩ : ∃ S, S = nx_s (f2, (o2, u3, e3), ((0, 0, 0), b1, A1), (F3, N3)) ((ti, po, 0, a1, ma), sl, pl, I) := ⟨_, rfl⟩
  obtain ⟨E, hE⟩ : ∃ E, E = nx_e (f2, (o2, u3, e3), ((0, 0, 0), b1, A1), (F3, N3)) ((ti, po, 0, a1, ma), sl, pl, I) := ⟨_, rfl⟩
  obtain ⟨R, hR⟩ : ∃ R, R = nx_fr (f2, (o2, u3, e3), ((0, 0, 0), b1, A1), (F3, N3)) ((ti, po, 0, a1, ma), sl, pl, I) := ⟨_, rfl⟩
  have ku : ∀ a u e b A FN, nx_u (f2, (o2, u, e), ((0, 0, 0), b, A), FN) ((ti, po, 0, a, ma), sl, pl, I) = U := fun _ _ _ _ _ _ => hU.symm
  have ks : ∀ a u e b A FN, nx_s (f2, (o2, u, e), ((0, 0, 0), b, A), FN) ((ti, po, 0, a, ma), sl, pl, I) = S := fun _ _ _ _ _ _ => hS.symm
  have ke : ∀ a u e b A FN, nx_e (f2, (o2, u, e), ((0, 0, 0), b, A), FN) ((ti, po, 0, a, ma), sl, pl, I) = E := fun _ _ _ _ _ _ => hE.symm
  have kr : ∀ a u e b A FN, nx_fr (f2, (o2, u, e), ((0, 0, 0), b, A), FN) ((ti, po, 0, a, ma), sl, pl, I) = R := fun _ _ _ _ _ _ => hR.symm
  have ko : ∀ a u e b A FN, nx_o (f2, (o2, u, e), ((0, 0, 0), b, A), FN) ((ti, po, 0, a, ma), sl, pl, I) = v_add o2 S := fun a u e b A FN => by
    unfold nx_o
    rw [ks]
  have kc : ∀ a u e b A FN, nx_c (f2, (o2, u, e), ((0, 0, 0), b, A), FN) ((ti, po, 0, a, ma), sl, pl, I) = (0, 0, 0) := fun a u e b A FN => by
    unfold nx_c
    dsimp only
    rw [z_crs, z_sca0]
  have kw : ∀ a u e b A FN, nx_w (f2, (o2, u, e), ((0, 0, 0), b, A), FN) ((ti, po, 0, a, ma), sl, pl, I) = (0, 0, 0) := fun a u e b A FN => by
    unfold nx_w
    dsimp only
    cases sl
    · rfl
    · exact z_adt0 _ _
  have kb : ∀ a u e b A FN, nx_b (f2, (o2, u, e), ((0, 0, 0), b, A), FN) ((ti, po, 0, a, ma), sl, pl, I) = bif sl then v_adt b U a else b := fun a u e b A FN => by
    unfold nx_b
    rw [kc, ku, z_add0]
  have kA : ∀ a u e b A FN, nx_A (f2, (o2, u, e), ((0, 0, 0), b, A), FN) ((ti, po, 0, a, ma), sl, pl, I) = bif sl then v_add A (v_crs b S) else v_adt (v_add A (v_crs b S)) U a := fun a u e b A FN => by
    unfold nx_A
    rw [kc, ku, ks]
    dsimp only
    rw [acc_0, z_adtz]
  have kF : ∀ a u e b A FN, nx_F (f2, (o2, u, e), ((0, 0, 0), b, A), FN) ((ti, po, 0, a, ma), sl, pl, I) = v_sca (v_add (bif sl then v_add A (v_crs b S) else v_adt (v_add A (v_crs b S)) U a) (v_crs (bif sl then v_adt b U a else b) E)) ma := fun a u e b A FN => by
    unfold nx_F
    rw [kA, kb, kw, ke, acc_0]
  have kN : ∀ a u e b A FN, nx_N (f2, (o2, u, e), ((0, 0, 0), b, A), FN) ((ti, po, 0, a, ma), sl, pl, I) = jx R I (bif sl then v_adt b U a else b) := fun a u e b A FN => by
    unfold nx_N
    rw [kr, kb, kw, z_crs, z_add0]
  have lb : (bif sl then v_adt (v_adt b1 b2 t) U (a1 + a2 * t) else v_adt b1 b2 t) = v_adt (bif sl then v_adt b1 U a1 else b1) (bif sl then v_adt b2 U a2 else b2) t := by
    cases sl
    · rfl
    · exact L_adt _ _ _ _ _
  have lA : (bif sl then v_add (v_adt A1 A2 t) (v_crs (v_adt b1 b2 t) S) else v_adt (v_add (v_adt A1 A2 t) (v_crs (v_adt b1 b2 t) S)) U (a1 + a2 * t)) = v_adt (bif sl then v_add A1 (v_crs b1 S) else v_adt (v_add A1 (v_crs b1 S)) U a1) (bif sl then v_add A2 (v_crs b2 S) else v_adt (v_add A2 (v_crs b2 S)) U a2) t := by
    rw [L_crs, L_add]
    cases sl
    · exact L_adt _ _ _ _ _
    · rfl
  unfold Q3 Q5 nxt
  dsimp only
  refine ⟨⟨⟨?_, ?_⟩, ⟨?_, ?_⟩, ⟨?_, ?_, ?_⟩, ?_, ?_⟩, ⟨?_, ?_⟩, ?_, ?_⟩
  · rw [kr, kr]
  · rw [kr, kr]
  · rw [ko, ko]
  · rw [ko, ko]
  · rw [kw]
  · rw [kw]
  · rw [kw]
  · rw [kb, kb, kb, lb]
  · rw [kA, kA, kA, lA]
  · rw [ko, ko, ku, ku, ke, ke]
  · rw [ko, ko, ku, ku, ke, ke]
  · rw [kF, kF, kF, lA, lb, L_crs, L_add, L_sca]
  · rw [kN, kN, kN, lb, L_jx]
/-- the torques of three runs, the third's accelerations made of those of the others -/
theorem tq_lin {m1 m2 m3 : SS} {t : ZF} (hM : MI m3) (e1 : m1.2.2 = m3.2.2) (e2 : m2.2.2 = m3.2.2) (hL1 : ∀ a j, 20 ≤ a → a < 25 → m1.2.1 a 0 j = m3.2.1 a 0 j) (hL2 : ∀ a j, 20 ≤ a → a < 25 → m2.2.1 a 0 j = m3.2.1 a 0 j)
    (hv : ∀ k, 1 ≤ k → k ≤ mn m3 → m1.2.1 25 0 k = 0 ∧ m2.2.1 25 0 k = 0 ∧ m3.2.1 25 0 k = 0) (ha : ∀ k, 1 ≤ k → k ≤ mn m3 → m3.2.1 26 0 k = m1.2.1 26 0 k + m2.2.1 26 0 k * t) :
    ∀ j, 1 ≤ j → j ≤ mn m3 → tq (m_mov m3 false) j = tq (m_mov m1 false) j + tq (m_mov m2 false) j * t := by
  have n1 := mn_of e1
  have n2 := mn_of e2
  have r1 := mov_rec (m_ini m1 false) (MI_of (s := m_ini m1 false) (σ := m3) e1 hM)
  have r2 := mov_rec (m_ini m2 false) (MI_of (s := m_ini m2 false) (σ := m3) e2 hM)
  have r3 := mov_rec (m_ini m3 false) (MI_of (s := m_ini m3 false) (σ := m3) rfl hM)
  have x1 : m_mov m1 false = upf m_cfn (m_ini m1 false) (mn m1) := rfl
  have x2 : m_mov m2 false = upf m_cfn (m_ini m2 false) (mn m2) := rfl
  have x3 : m_mov m3 false = upf m_cfn (m_ini m3 false) (mn m3) := rfl
  have k1 : mn (m_ini m1 false) = mn m1 := rfl
  have k2 : mn (m_ini m2 false) = mn m2 := rfl
  have k3 : mn (m_ini m3 false) = mn m3 := rfl
  rw [k1, ← x1] at r1
  rw [k2, ← x2] at r2
  rw [k3, ← x3] at r3
  have d1 : Dm (m_mov m1 false) 0 = Dm (m_ini m1 false) 0 := upf_D _ _ _ (Or.inr rfl)
  have d2 : Dm (m_mov m2 false) 0 = Dm (m_ini m2 false) 0 := upf_D _ _ _ (Or.inr rfl)
  have d3 : Dm (m_mov m3 false) 0 = Dm (m_ini m3 false) 0 := upf_D _ _ _ (Or.inr rfl)
  have i1 := m_mov_I m1 false
  have i2 := m_mov_I m2 false
  have i3 := m_mov_I m3 false
  generalize m_mov m1 false = s1 at *
  generalize m_mov m2 false = s2 at *
  generalize m_mov m3 false = s3 at *
  have hP : ∀ k, 1 ≤ k → k ≤ mn m3 → Pm m1 k = ((m3.2.1 20 0 (16 * k + 3), m3.2.1 21 0 k, 0, m1.2.1 26 0 k, m3.2.1 20 0 (16 * k + 4)), decide (m3.2.2 8 k = 0), (g3 m3 (20, 0) (16 * k), g3 m3 (20, 0) (16 * k + 5)), mIr m3 k) ∧ Pm m2 k = ((m3.2.1 20 0 (16 * k + 3), m3.2.1 21 0 k, 0, m2.2.1 26 0 k, m3.2.1 20 0 (16 * k + 4)), decide (m3.2.2 8 k = 0), (g3 m3 (20, 0) (16 * k), g3 m3 (20, 0) (16 * k + 5)), mIr m3 k) ∧ Pm m3 k = ((m3.2.1 20 0 (16 * k + 3), m3.2.1 21 0 k, 0, m1.2.1 26 0 k + m2.2.1 26 0 k * t, m3.2.1 20 0 (16 * k + 4)), decide (m3.2.2 8 k = 0), (g3 m3 (20, 0) (16 * k), g3 m3 (20, 0) (16 * k + 5)), mIr m3 k) := fun k q1 q2 => by
    obtain ⟨v1, v2, v3⟩ := hv k q1 q2
    have ak := ha k q1 q2
    have g1 : ∀ j, g3 m1 (20, 0) j = g3 m3 (20, 0) j := fun j => g3_eq (fun j => hL1 20 j (by decide) (by decide))
    have g2 : ∀ j, g3 m2 (20, 0) j = g3 m3 (20, 0) j := fun j => g3_eq (fun j => hL2 20 j (by decide) (by decide))
    have h1 : mIr m1 k = mIr m3 k := by unfold mIr; simp only [hL1 20 _ (by decide) (by decide)]
    have h2 : mIr m2 k = mIr m3 k := by unfold mIr; simp only [hL2 20 _ (by decide) (by decide)]
    unfold Pm
    rw [g1, g1, h1, v1, e1, hL1 20 _ (by decide) (by decide), hL1 20 _ (by decide) (by decide), hL1 21 _ (by decide) (by decide), g2, g2, h2, v2, e2, hL2 20 _ (by decide) (by decide), hL2 20 _ (by decide) (by decide), hL2 21 _ (by decide) (by decide), v3, ak]
    exact ⟨rfl, rfl, rfl⟩
  have p1 : ∀ k, mp (m_ini m1 false) k = mp m3 k := fun k => mp_of (s := m_ini m1 false) e1 k
  have p2 : ∀ k, mp (m_ini m2 false) k = mp m3 k := fun k => mp_of (s := m_ini m2 false) e2 k
  have p3 : ∀ k, mp (m_ini m3 false) k = mp m3 k := fun k => rfl
  have all : ∀ k, k ≤ mn m3 → Q3 t (Dm s1 k) (Dm s2 k) (Dm s3 k) ∧ (1 ≤ k → Q5 t (Dm s1 k) (Dm s2 k) (Dm s3 k)) := by
    intro k
    induction k using Nat.strongRecOn with
    | ind k ih =>
      intro hk
      by_cases h0 : k = 0
      · subst h0
        refine ⟨?_, fun h => by omega⟩
        obtain ⟨a1, a2, a3⟩ := ini_0 m1 false
        obtain ⟨b1, b2, b3⟩ := ini_0 m2 false
        obtain ⟨c1, c2, c3⟩ := ini_0 m3 false
        unfold Q3
        rw [d1, d2, d3, a1, a2, a3, b1, b2, b3, c1, c2, c3]
        refine ⟨⟨rfl, rfl⟩, ⟨rfl, rfl⟩, ⟨rfl, rfl, rfl⟩, ?_, ?_⟩ <;> (refine v3_ext ?_ ?_ ?_ <;> (unfold v_adt; dsimp only [cond]; grind))
      · have hp := (hM.2.2 k (by omega) hk).2
        obtain ⟨P1, P2, P3⟩ := hP k (by omega) hk
        have q1 := r1 k (by omega) (by omega)
        have q2 := r2 k (by omega) (by omega)
        have q3 := r3 k (by omega) (by omega)
        rw [p1, ini_P, P1] at q1
        rw [p2, ini_P, P2] at q2
        rw [p3, ini_P, P3] at q3
        have := nxt_lin (ih (mp m3 k) hp (by omega)).1 (m3.2.1 20 0 (16 * k + 3)) (m3.2.1 21 0 k) (m3.2.1 20 0 (16 * k + 4)) (m1.2.1 26 0 k) (m2.2.1 26 0 k) (decide (m3.2.2 8 k = 0)) (g3 m3 (20, 0) (16 * k), g3 m3 (20, 0) (16 * k + 5)) (mIr m3 k)
        rw [q1, q2, q3]
        exact ⟨this.1, fun _ => this.2⟩
  have hc : ∀ j i, 1 ≤ j → j ≤ mn m3 → 1 ≤ i → i ≤ mn m3 → tqc s3 j i = tqc s1 j i + tqc s2 j i * t := fun j i j1 j2 h1 h2 => by
    have qj := (all j j2).2 j1
    have qi := (all i h2).2 h1
    have o1j : mO s1 j = mO s3 j := congrArg (fun z => z.1) qj.1.1
    have o2j : mO s2 j = mO s3 j := congrArg (fun z => z.1) qj.1.2
    have u1j : mU s1 j = mU s3 j := congrArg (fun z => z.2.1) qj.1.1
    have u2j : mU s2 j = mU s3 j := congrArg (fun z => z.2.1) qj.1.2
    have o1 : mO s1 i = mO s3 i := congrArg (fun z => z.1) qi.1.1
    have o2 : mO s2 i = mO s3 i := congrArg (fun z => z.1) qi.1.2
    have l1 : mA s1 i = mA s3 i := congrArg (fun z => z.2.2) qi.1.1
    have l2 : mA s2 i = mA s3 i := congrArg (fun z => z.2.2) qi.1.2
    have f3 : mF s3 i = v_adt (mF s1 i) (mF s2 i) t := qi.2.1
    have n3 : mN s3 i = v_adt (mN s1 i) (mN s2 i) t := qi.2.2
    unfold tqc
    rw [i1, i2, i3, e1, e2, o1j, o2j, u1j, u2j, o1, o2, l1, l2, f3, n3]
    split
    · rw [L_crs2, v_adt_1, v_adt_1, v_adt_1, L_add, L_dot]
    · rw [L_dot]
  intro j j1 j2
  have ht : ∀ m, m ≤ mn m3 + 1 - j → tsum s3 j m = tsum s1 j m + tsum s2 j m * t := by
    intro m
    induction m with
    | zero => intro _; show (0 : ZF) = 0 + 0 * t; grind
    | succ m ih =>
      intro hm
      show tsum s3 j m + _ = tsum s1 j m + _ + (tsum s2 j m + _) * t
      rw [ih (by omega), hng_of (i1.trans (e1.trans i3.symm)), hng_of (i2.trans (e2.trans i3.symm)), hc j (j + m) j1 j2 (by omega) (by omega)]
      cases hng s3 (j + m) j
      · dsimp only [cond]; grind
      · dsimp only [cond]; grind
  unfold tq
  rw [mn_of i1, mn_of i2, mn_of i3, n1, n2]
  exact ht _ (Nat.le_refl _)
