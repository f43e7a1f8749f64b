/-! The reference's arrays after move: every body is what the rules make of its parent -/
theorem upf_D (s : SS) : ∀ (k i : Nat), k < i ∨ i = 0 → Dm (upf m_cfn s k) i = Dm s i
  | 0, _, _ => rfl
  | k + 1, i, h => (Lc_D (Lc_car (upf m_cfn s k) (k + 1) _) (by omega)).trans (upf_D s k i (by omega))
theorem upf_P (s : SS) (i : Nat) : ∀ (k : Nat), Pm (upf m_cfn s k) i = Pm s i
  | 0 => rfl
  | k + 1 => (Lc_P (Lc_car (upf m_cfn s k) (k + 1) _)).trans (upf_P s i k)
theorem upf_keep (s : SS) {i : Nat} : ∀ (d k : Nat), i ≤ k → Dm (upf m_cfn s (k + d)) i = Dm (upf m_cfn s k) i
  | 0, _, _ => rfl
  | d + 1, k, h => (Lc_D (Lc_car (upf m_cfn s (k + d)) (k + d + 1) _) (by omega)).trans (upf_keep s d k h)
theorem mov_rec (s : SS) (hI : MI s) : ∀ k, 1 ≤ k → k ≤ mn s → Dm (upf m_cfn s (mn s)) k = nxt (Dm (upf m_cfn s (mn s)) (mp s k)) (Pm s k) := by
  intro k h1 h2
  obtain ⟨k, rfl⟩ : ∃ j, k = j + 1 := ⟨k - 1, by omega⟩
  have hI0 : (upf m_cfn s k).2.2 = s.2.2 := upf_I (f := m_cfn) (fun s k => m_car_I s k _) _ _
  have hp := (hI.2.2 (k + 1) h1 h2).2
  have e1 : Dm (upf m_cfn s (mn s)) (k + 1) = Dm (upf m_cfn s (k + 1)) (k + 1) := by
    have := upf_keep s (i := k + 1) (mn s - (k + 1)) (k + 1) (Nat.le_refl _)
    rw [show k + 1 + (mn s - (k + 1)) = mn s by omega] at this
    exact this
  have e2 : Dm (upf m_cfn s (mn s)) (mp s (k + 1)) = Dm (upf m_cfn s k) (mp s (k + 1)) := by
    have := upf_keep s (i := mp s (k + 1)) (mn s - k) k (by omega)
    rw [show k + (mn s - k) = mn s by omega] at this
    exact this
  rw [e1, e2]
  show Dm (m_car (upf m_cfn s k) (k + 1) (mp (upf m_cfn s k) (k + 1))) (k + 1) = _
  rw [mp_of hI0, car_e _ _ _ hp, upf_P]
/-- the ground, with the acceleration g -/
def gnd (A F N o9 u9 e9 : V3) : Tup := (((1, 0, 0), (0, 1, 0), (0, 0, 1)), ((0, 0, 0), u9, e9), ((0, 0, 0), (0, 0, 0), A), (F, N))
theorem nxt_g (D E : Tup) (h1 : D.1 = E.1) (h2 : D.2.1.1 = E.2.1.1) (h3 : D.2.2.1 = E.2.2.1) : nxt D = nxt E := by
  obtain ⟨d1, ⟨d2, d3, d4⟩, d5, d6⟩ := D
  obtain ⟨e1, ⟨e2, e3, e4⟩, e5, e6⟩ := E
  dsimp only at h1 h2 h3
  subst h1 h2 h3
  rfl
theorem ini_0 (s : SS) (h : Bool) : (Dm (m_ini s h) 0).1 = ((1, 0, 0), (0, 1, 0), (0, 0, 1)) ∧ (Dm (m_ini s h) 0).2.1.1 = (0, 0, 0) ∧ (Dm (m_ini s h) 0).2.2.1 = ((0, 0, 0), (0, 0, 0), bif h then (-(s.2.1 24 0 0), -(s.2.1 24 0 1), -(s.2.1 24 0 2)) else (0, 0, 0)) := by
  refine ⟨rfl, rfl, ?_⟩
  cases h <;> rfl
theorem ini_P (s : SS) (h : Bool) (k : Nat) : Pm (m_ini s h) k = Pm s k := by
  have h1 : ∀ a j, a < 27 → (m_ini s h).2.1 a 0 j = s.2.1 a 0 j := fun a j ha => by
    unfold m_ini Q4
    rw [fl_n _ _ _ _ _ _ _ (by show a ≠ 32; omega), fl_n _ _ _ _ _ _ _ (by show a ≠ 31; omega), fl_n _ _ _ _ _ _ _ (by show a ≠ 30; omega), fl_n _ _ _ _ _ _ _ (by show a ≠ 28; omega), fl_n _ _ _ _ _ _ _ (by show a ≠ 27; omega)]
  have h2 : (m_ini s h).2.2 = s.2.2 := rfl
  unfold Pm mIr g3
  simp only [h2, h1 20 _ (by decide), h1 21 _ (by decide), h1 25 _ (by decide), h1 26 _ (by decide)]
/-- what the joints' numbers are while the reference moves -/
def Pv (s : SS) (v a : Nat → ZF) (k : Nat) : Par' :=
  ((s.2.1 20 0 (16 * k + 3), s.2.1 21 0 k, v k, a k, s.2.1 20 0 (16 * k + 4)), decide (s.2.2 8 k = 0), (g3 s (20, 0) (16 * k), g3 s (20, 0) (16 * k + 5)), mIr s k)
/-- two runs over the same joints agree in what torques are made of -/
theorem tq_cg {s s' : SS} (hI : s'.2.2 = s.2.2) (hM : MI s) (h : ∀ k, 1 ≤ k → k ≤ mn s → Dm s k = Dm s' k) : ∀ j, 1 ≤ j → j ≤ mn s → tq s j = tq s' j := by
  intro j h1 h2
  have hn := mn_of hI
  have hD : ∀ k, 1 ≤ k → k ≤ mn s → mO s k = mO s' k ∧ mU s k = mU s' k ∧ mA s k = mA s' k ∧ mF s k = mF s' k ∧ mN s k = mN s' k := fun k q1 q2 => by
    have e := h k q1 q2
    exact ⟨congrArg (fun z => z.2.1.1) e, congrArg (fun z => z.2.1.2.1) e, congrArg (fun z => z.2.1.2.2) e, congrArg (fun z => z.2.2.2.1) e, congrArg (fun z => z.2.2.2.2) e⟩
  have ht : ∀ m, m ≤ mn s + 1 - j → tsum s j m = tsum s' j m := by
    intro m
    induction m with
    | zero => intro _; rfl
    | succ m ih =>
      intro hm
      show tsum s j m + _ = tsum s' j m + _
      rw [ih (by omega), hng_of hI]
      unfold tqc
      obtain ⟨o1, u1, a1, f1, n1⟩ := hD j h1 h2
      obtain ⟨o2, u2, a2, f2, n2⟩ := hD (j + m) (by omega) (by omega)
      rw [o1, u1, o2, a2, f2, n2, hI]
  unfold tq
  rw [hn]
  exact ht _ (Nat.le_refl _)
