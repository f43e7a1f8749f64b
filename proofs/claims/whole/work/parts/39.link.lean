/-! The torques of the class and of the reference are the same -/
def gok (s : SS) : Prop := s.1 55 0 = (1, 0, 0) ∧ s.1 56 0 = (0, 1, 0) ∧ s.1 57 0 = (0, 0, 1) ∧ s.1 59 0 = (0, 0, 0) ∧ s.1 63 0 = (0, 0, 0) ∧ s.1 64 0 = (0, 0, 0)
theorem ned_all (s m : SS) (q u v : Nat × Nat) (h : Bool) (hI : CI s) (hS : ∀ k, 1 ≤ k → k ≤ nn s → StOK s k (pa s k)) (hg : gok s) (hq : q.1 = 69 ∨ q.1 = 70) (hM : MI m) (hn : mn m = nn s) (hpar : ∀ k, 1 ≤ k → k ≤ nn s → mp m k = pa s k) (hsl : ∀ k, 1 ≤ k → k ≤ nn s → m.2.2 8 k = s.2.2 2 k)
    (hP : ∀ k, 1 ≤ k → k ≤ nn s → Pm m k = Ps s (s.2.1 u.1 u.2 k) (s.2.1 v.1 v.2 k) k) (hA : v_sub (0, 0, 0) (s.1 q.1 q.2) = bif h then (-(m.2.1 24 0 0), -(m.2.1 24 0 1), -(m.2.1 24 0 2)) else (0, 0, 0)) :
    (∀ j, 1 ≤ j → j ≤ nn s → (c_ned s q u v).2.1 16 0 j = tq (m_mov m h) j) ∧ (∀ k, 1 ≤ k → k ≤ nn s → ((s.1 55 k, s.1 56 k, s.1 57 k), (s.1 59 k, s.1 57 k, s.1 61 k)) = ((Dm (m_mov m h) k).1, (Dm (m_mov m h) k).2.1)) := by
  have g0 : ∀ x j, (x, j) ≠ (65, 0) → (x, j) ≠ (66, 0) → (x, j) ≠ (67, 0) → (b_agn s 0 q).1 x j = s.1 x j := fun x j h1 h2 h3 => by
    unfold b_agn o_clr o_sub
    dsimp only
    rw [sV_ne _ _ h3, sV_ne _ _ h2, sV_ne _ _ h1, sV_ne _ _ h1]
  have g65 : (b_agn s 0 q).1 65 0 = v_sub (0, 0, 0) (s.1 q.1 q.2) := by
    unfold b_agn o_clr o_sub
    dsimp only
    rw [sV_k _ _ _ _ _ _ (by decide), sV_k _ _ _ _ _ _ (by decide), sV_at, sV_at, sV_k _ _ _ q.1 _ _ (by rcases hq with e | e <;> rw [e] <;> decide)]
  have g2 : (b_agn s 0 q).2 = s.2 := rfl
  have hn1 : nn (b_agn s 0 q) = nn s := rfl
  have hp1 : ∀ k, pa (b_agn s 0 q) k = pa s k := fun _ => rfl
  have hlow : ∀ x j, x < 63 → (b_agn s 0 q).1 x j = s.1 x j := fun x j hx => g0 x j (fun e => absurd (Prod.mk.inj e).1 (by omega)) (fun e => absurd (Prod.mk.inj e).1 (by omega)) (fun e => absurd (Prod.mk.inj e).1 (by omega))
  have hc : c_ned s q u v = dnf n_dn (nn s) (upf (n_up u v) (b_agn s 0 q) (nn s)) := rfl
  have hI1 : CI (b_agn s 0 q) := CI_of rfl hI
  have hS1 : ∀ k, 1 ≤ k → k ≤ nn (b_agn s 0 q) → StOK (b_agn s 0 q) k (pa (b_agn s 0 q) k) := fun k h1 h2 => StOK_cg (fun v a => Ps_cg v a g2 (fun x hx => hlow x k (by omega))) hlow (hS k h1 h2)
  have hPs : ∀ k v a, Ps (b_agn s 0 q) v a k = Ps s v a k := fun k v a => Ps_cg v a g2 (fun x hx => hlow x k (by omega))
  have e63 : (b_agn s 0 q).1 63 0 = s.1 63 0 := g0 _ _ (by simp) (by simp) (by simp)
  have e64 : (b_agn s 0 q).1 64 0 = s.1 64 0 := g0 _ _ (by simp) (by simp) (by simp)
  obtain ⟨u1, u2, u3⟩ := up_rec u v (b_agn s 0 q) hI1 hS1
  rw [hn1] at u1 u2 u3
  rw [hc]
  generalize b_agn s 0 q = s1 at *
  generalize upf (n_up u v) s1 (nn s) = s2 at u1 u2 u3
  have hI2 : CI s2 := CI_of (congrArg Prod.snd (u2.trans g2)) hI
  have hn2 : nn s2 = nn s := nn_of (congrArg Prod.snd (u2.trans g2))
  have hp2 : ∀ k, pa s2 k = pa s k := fun k => pa_of (congrArg Prod.snd (u2.trans g2)) k
  have hpl : ∀ k, 1 ≤ k → k ≤ nn s → pa s k < k := fun k h1 h2 => (hI.2.2 k h1 h2).2
  have hMi : MI (m_ini m h) := MI_of rfl hM
  have hmn : mn (m_ini m h) = nn s := hn
  have hmp : ∀ k, mp (m_ini m h) k = mp m k := fun _ => rfl
  have hmr := mov_rec (m_ini m h) hMi
  rw [hmn] at hmr
  have hmm : m_mov m h = upf m_cfn (m_ini m h) (nn s) := by unfold m_mov; rw [hn]
  have hD0 : Dm (upf m_cfn (m_ini m h) (nn s)) 0 = Dm (m_ini m h) 0 := upf_D _ _ _ (Or.inr rfl)
  rw [hmm]
  have hEI : (upf m_cfn (m_ini m h) (nn s)).2.2 = m.2.2 := upf_I (f := m_cfn) (fun s k => m_car_I s k _) _ _
  generalize upf m_cfn (m_ini m h) (nn s) = e at hmr hD0 hEI
  have hD : ∀ k, 1 ≤ k → k ≤ nn s → Ds s2 k = Dm e k := by
    refine uniq (par := pa s) (P := fun k => Ps s (s.2.1 u.1 u.2 k) (s.2.1 v.1 v.2 k) k) hpl ?_ (fun k h1 h2 => ?_) (fun k h1 h2 => ?_)
    · obtain ⟨i1, i2, i3⟩ := ini_0 m h
      rw [hD0]
      refine nxt_g _ _ ?_ ?_ ?_
      · rw [i1]
        show (s2.1 55 0, s2.1 56 0, s2.1 57 0) = _
        rw [u1 _ _ (by decide) (Or.inl rfl), u1 _ _ (by decide) (Or.inl rfl), u1 _ _ (by decide) (Or.inl rfl), hlow _ _ (by decide), hlow _ _ (by decide), hlow _ _ (by decide), hg.1, hg.2.1, hg.2.2.1]
      · rw [i2]
        show s2.1 59 0 = _
        rw [u1 _ _ (by decide) (Or.inl rfl), hlow _ _ (by decide), hg.2.2.2.1]
      · rw [i3]
        show (s2.1 63 0, s2.1 64 0, s2.1 65 0) = _
        rw [u1 _ _ (by decide) (Or.inl rfl), u1 _ _ (by decide) (Or.inl rfl), u1 _ _ (by decide) (Or.inl rfl), e63, e64, g65, hg.2.2.2.2.1, hg.2.2.2.2.2, hA]
    · have := u3 k h1 h2
      rw [hp1, hPs, g2] at this
      exact this
    · have := hmr k h1 h2
      rw [hmp, ini_P, hP k h1 h2, hpar k h1 h2] at this
      exact this
  have h62 : ∀ k, 1 ≤ k → k ≤ nn s → s2.1 62 k = v_add (s2.1 59 k) (s2.1 61 k) := fun k h1 h2 => by
    rw [u1 62 _ (by decide) (by omega), u1 59 _ (by decide) (by omega), u1 61 _ (by decide) (by omega), hlow _ _ (by decide), hlow _ _ (by decide), hlow _ _ (by decide)]
    exact (hS k h1 h2 0 0).2.2.2.2.2
  refine ⟨fun j h1 h2 => ?_, fun k h1 h2 => ?_⟩
  · have hd := (dn_all s2 hI2).1 j h1 (by rw [hn2]; exact h2)
    rw [hn2] at hd
    rw [hd]
    have hpe : pa s2 = pa s := funext hp2
    rw [hpe]
    refine dval_tq s2 e (nn s) (pa s) hpl ?_ (fun k a b => ?_) (fun k a b => ?_) hD h62 j h1 h2
    · rw [mn_of hEI, hn]
    · rw [mp_of hEI, hpar k a b]
    · rw [hEI, hsl k a b, u2, g2]
  · have hh := hD k h1 h2
    have k1 : (Ds s2 k).1 = (Dm e k).1 := congrArg Prod.fst hh
    have k2 : (Ds s2 k).2.1 = (Dm e k).2.1 := congrArg (fun z => z.2.1) hh
    rw [← k1, ← k2]
    unfold Ds
    dsimp only
    rw [u1 55 _ (by decide) (by omega), u1 56 _ (by decide) (by omega), u1 57 _ (by decide) (by omega), u1 59 _ (by decide) (by omega), u1 61 _ (by decide) (by omega), hlow _ _ (by decide), hlow _ _ (by decide), hlow _ _ (by decide), hlow _ _ (by decide), hlow _ _ (by decide)]
