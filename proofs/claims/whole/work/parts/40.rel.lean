/-! What ties the class's state to the reference's -/
def Rel (σ : SS) : Prop := (CI σ ∧ MI σ ∧ mn σ = nn σ ∧ gok σ) ∧ (∀ k, 1 ≤ k → k ≤ nn σ → mp σ k = pa σ k ∧ σ.2.2 8 k = σ.2.2 2 k)
  ∧ (∀ k, k < 8 → σ.2.1 20 0 (16 * k + 3) = σ.2.1 2 k 0 ∧ σ.2.1 20 0 (16 * k + 4) = σ.2.1 2 k 1 ∧ σ.2.1 20 0 (16 * k + 14) = σ.2.1 13 0 k ∧ g3 σ (20, 0) (16 * k) = σ.1 50 k ∧ g3 σ (20, 0) (16 * k + 5) = σ.1 51 k ∧ mIr σ k = (σ.1 52 k, σ.1 53 k, σ.1 54 k))
  ∧ (∀ k, k < 8 → σ.2.1 21 0 k = σ.2.1 10 0 k ∧ σ.2.1 22 0 k = σ.2.1 11 0 k ∧ σ.2.1 23 0 k = σ.2.1 12 0 k ∧ σ.2.1 14 0 k = 0 ∧ σ.2.1 15 0 k = 0)
  ∧ (g3 σ (24, 0) 0 = σ.1 69 0 ∧ σ.1 70 0 = (0, 0, 0))
theorem Pm_Ps {s σ m : SS} {v a : ZF} {k : Nat} (hR : Rel σ) (hk : k < 8) (h1 : 1 ≤ k) (hk2 : k ≤ nn σ) (h2 : ∀ a b j, a < 15 → s.2.1 a b j = σ.2.1 a b j) (h3 : s.2.2 = σ.2.2) (h4 : ∀ x, x < 55 → s.1 x k = σ.1 x k)
    (m1 : ∀ a j, a < 25 → m.2.1 a 0 j = σ.2.1 a 0 j) (m2 : m.2.2 8 k = σ.2.2 8 k) (mv : m.2.1 25 0 k = v) (ma : m.2.1 26 0 k = a) : Pm m k = Ps s v a k := by
  obtain ⟨-, r2, r3, r4, -⟩ := hR
  obtain ⟨a1, a2, a3, a4, a5, a6⟩ := r3 k hk
  obtain ⟨b1, -⟩ := r4 k hk
  have hg : ∀ j, g3 m (20, 0) j = g3 σ (20, 0) j := fun j => g3_eq (fun j => m1 20 j (by decide))
  have hi : mIr m k = mIr σ k := by unfold mIr; simp only [m1 20 _ (by decide)]
  unfold Pm Ps
  rw [hg, hg, hi, a4, a5, a6, m1 20 _ (by decide), m1 20 _ (by decide), m1 21 _ (by decide), a1, a2, b1, mv, ma, m2, (r2 k h1 hk2).2, h3, h2 2 _ _ (by decide), h2 2 _ _ (by decide), h2 10 _ _ (by decide), h4 50 (by decide), h4 51 (by decide), h4 52 (by decide), h4 53 (by decide), h4 54 (by decide)]
theorem std_ok {σ : SS} (hR : Rel σ) : CI (c_std σ) ∧ nn (c_std σ) = nn σ ∧ (∀ k, pa (c_std σ) k = pa σ k) ∧ gok (c_std σ) ∧ (∀ k, 1 ≤ k → k ≤ nn σ → StOK (c_std σ) k (pa σ k)) ∧ (∀ x j, (j = 0 ∨ x < 55 ∨ 62 < x) → (c_std σ).1 x j = σ.1 x j) := by
  obtain ⟨⟨hI, -, -, hg⟩, -⟩ := hR
  obtain ⟨h1, h2⟩ := std_rec σ hI
  refine ⟨CI_of (c_std_I σ) hI, nn_of (c_std_I σ), fun k => pa_of (c_std_I σ) k, ?_, h2, h1⟩
  unfold gok
  rw [h1 55 0 (Or.inl rfl), h1 56 0 (Or.inl rfl), h1 57 0 (Or.inl rfl), h1 59 0 (Or.inl rfl), h1 63 0 (Or.inl rfl), h1 64 0 (Or.inl rfl)]
  exact hg
/-- a pass over a state s that stands as σ does -/
theorem ned_rel {σ s m : SS} (hR : Rel σ) (u v : Nat × Nat) (h : Bool) (hs1 : s.1 = (c_std σ).1) (hs2 : s.2.2 = σ.2.2) (hs3 : ∀ a b j, a < 15 → s.2.1 a b j = σ.2.1 a b j)
    (m0 : m.2.2 = (s60 σ).2.2 ∨ m.2.2 = σ.2.2) (m1 : ∀ a j, a < 25 → m.2.1 a 0 j = σ.2.1 a 0 j) (mv : ∀ k, 1 ≤ k → k ≤ nn σ → m.2.1 25 0 k = s.2.1 u.1 u.2 k) (ma : ∀ k, 1 ≤ k → k ≤ nn σ → m.2.1 26 0 k = s.2.1 v.1 v.2 k) :
    (∀ j, 1 ≤ j → j ≤ nn σ → (c_ned s (bif h then 69 else 70, 0) u v).2.1 16 0 j = tq (m_mov m h) j) ∧ (∀ k, 1 ≤ k → k ≤ nn σ → ((s.1 55 k, s.1 56 k, s.1 57 k), (s.1 59 k, s.1 57 k, s.1 61 k)) = ((Dm (m_mov m h) k).1, (Dm (m_mov m h) k).2.1)) := by
  obtain ⟨c1, c2, c3, c4, c5, c6⟩ := std_ok hR
  have hR' := hR
  obtain ⟨⟨hI, hM, hn, hg⟩, r2, r3, r4, r5⟩ := hR'
  have h7 := hI.2.1
  have hsn : nn s = nn σ := nn_of hs2
  have hsp : ∀ k, pa s k = pa σ k := fun k => pa_of hs2 k
  have hPs : ∀ k v a, Ps s v a k = Ps (c_std σ) v a k := fun k v a => by
    unfold Ps
    rw [hs1, hs2, c_std_I, c_std_2, hs3 2 _ _ (by decide), hs3 2 _ _ (by decide), hs3 10 _ _ (by decide)]
  have hMm : MI m ∧ mn m = mn σ ∧ (∀ k, mp m k = mp σ k) ∧ ∀ k, m.2.2 8 k = σ.2.2 8 k := by
    rcases m0 with e | e
    · exact ⟨MI_of e (s60_MI hM), (mn_of e).trans (s60_n σ), fun k => (mp_of e k).trans (s60_p σ k), fun k => by rw [e]; exact sI_n1 σ _ _ (by decide)⟩
    · exact ⟨MI_of e hM, mn_of e, fun k => mp_of e k, fun k => by rw [e]⟩
  obtain ⟨q1, q2, q3, q4⟩ := hMm
  have key := ned_all s m (bif h then 69 else 70, 0) u v h (CI_of hs2 hI) (fun k a b => ?_) ?_ ?_ q1 ?_ (fun k a b => ?_) (fun k a b => ?_) (fun k a b => ?_) ?_
  · rw [hsn] at key
    exact key
  · rw [hsn] at b
    rw [hsp]
    exact StOK_cg (fun v a => hPs k v a) (fun x j _ => by rw [hs1]) (c5 k a b)
  · unfold gok
    rw [hs1]
    exact c4
  · cases h
    · exact Or.inr rfl
    · exact Or.inl rfl
  · rw [q2, hn, hsn]
  · rw [hsn] at b
    rw [q3, (r2 k a b).1, hsp]
  · rw [hsn] at b
    rw [q4, (r2 k a b).2, hs2]
  · rw [hsn] at b
    refine Pm_Ps hR (by omega) a b hs3 hs2 (fun x hx => ?_) m1 (q4 k) (mv k a b) (ma k a b)
    rw [hs1]
    exact c6 x k (Or.inr (Or.inl hx))
  · have hgr : g3 m (24, 0) 0 = g3 σ (24, 0) 0 := g3_eq (fun j => m1 24 j (by decide))
    cases h with
    | false =>
      show v_sub (0, 0, 0) (s.1 70 0) = (0, 0, 0)
      rw [hs1, c6 70 0 (Or.inl rfl), r5.2]
      unfold v_sub
      refine v3_ext ?_ ?_ ?_ <;> (dsimp only; grind)
    | true =>
      show v_sub (0, 0, 0) (s.1 69 0) = (-(m.2.1 24 0 0), -(m.2.1 24 0 1), -(m.2.1 24 0 2))
      rw [hs1, c6 69 0 (Or.inl rfl), ← r5.1, ← hgr]
      unfold v_sub g3
      refine v3_ext ?_ ?_ ?_ <;> (dsimp only; grind)
theorem as1_e (b : Bool) (σ : SS) : ∀ n, (upf (as1 b) σ n).2.2 = σ.2.2 ∧ (∀ a j, a < 25 → (upf (as1 b) σ n).2.1 a 0 j = σ.2.1 a 0 j) ∧ ∀ k, 1 ≤ k → k ≤ n → (upf (as1 b) σ n).2.1 25 0 k = σ.2.1 22 0 k ∧ (upf (as1 b) σ n).2.1 26 0 k = bif b then σ.2.1 23 0 k else 0
  | 0 => ⟨rfl, fun _ _ _ => rfl, fun k h1 h2 => by omega⟩
  | n + 1 => by
    obtain ⟨h1, h2, h3⟩ := as1_e b σ n
    refine ⟨h1, fun a j ha => ?_, fun k k1 k2 => ?_⟩
    · show (sL (sL _ 25 0 (n + 1) _) 26 0 (n + 1) _).2.1 a 0 j = _
      rw [sL_n1 _ _ _ _ _ (by omega), sL_n1 _ _ _ _ _ (by omega)]
      exact h2 a j ha
    · show (sL (sL (upf (as1 b) σ n) 25 0 (n + 1) ((upf (as1 b) σ n).2.1 22 0 (n + 1))) 26 0 (n + 1) (bif b then (sL (upf (as1 b) σ n) 25 0 (n + 1) ((upf (as1 b) σ n).2.1 22 0 (n + 1))).2.1 23 0 (n + 1) else 0)).2.1 25 0 k = _ ∧ (sL (sL (upf (as1 b) σ n) 25 0 (n + 1) ((upf (as1 b) σ n).2.1 22 0 (n + 1))) 26 0 (n + 1) (bif b then (sL (upf (as1 b) σ n) 25 0 (n + 1) ((upf (as1 b) σ n).2.1 22 0 (n + 1))).2.1 23 0 (n + 1) else 0)).2.1 26 0 k = _
      by_cases hk : k = n + 1
      · subst hk
        rw [sL_n1 _ _ _ _ _ (by decide), sL_at, sL_at, sL_n1 _ _ _ _ _ (by decide), h2 22 _ (by decide), h2 23 _ (by decide)]
        exact ⟨rfl, rfl⟩
      · rw [sL_n1 _ _ _ _ _ (by decide), sL_n3 _ _ _ _ _ hk, sL_n3 _ _ _ _ _ hk, sL_n1 _ _ _ _ _ (by decide)]
        exact h3 k k1 (by omega)
theorem al1_e (i : Nat) (σ : SS) : ∀ n, (upf (al1 i) σ n).2.2 = σ.2.2 ∧ (∀ a j, a < 25 → (upf (al1 i) σ n).2.1 a 0 j = σ.2.1 a 0 j) ∧ ∀ k, 1 ≤ k → k ≤ n → (upf (al1 i) σ n).2.1 25 0 k = 0 ∧ (upf (al1 i) σ n).2.1 26 0 k = if k = i then 1 else 0
  | 0 => ⟨rfl, fun _ _ _ => rfl, fun k h1 h2 => by omega⟩
  | n + 1 => by
    obtain ⟨h1, h2, h3⟩ := al1_e i σ n
    refine ⟨h1, fun a j ha => ?_, fun k k1 k2 => ?_⟩
    · show (sL (sL _ 25 0 (n + 1) _) 26 0 (n + 1) _).2.1 a 0 j = _
      rw [sL_n1 _ _ _ _ _ (by omega), sL_n1 _ _ _ _ _ (by omega)]
      exact h2 a j ha
    · show (sL (sL (upf (al1 i) σ n) 25 0 (n + 1) 0) 26 0 (n + 1) (if n + 1 = i then 1 else 0)).2.1 25 0 k = _ ∧ (sL (sL (upf (al1 i) σ n) 25 0 (n + 1) 0) 26 0 (n + 1) (if n + 1 = i then 1 else 0)).2.1 26 0 k = _
      by_cases hk : k = n + 1
      · subst hk
        rw [sL_n1 _ _ _ _ _ (by decide), sL_at, sL_at]
        exact ⟨rfl, rfl⟩
      · rw [sL_n1 _ _ _ _ _ (by decide), sL_n3 _ _ _ _ _ hk, sL_n3 _ _ _ _ _ hk, sL_n1 _ _ _ _ _ (by decide)]
        exact h3 k k1 (by omega)
theorem s60_l (σ : SS) : (s60 σ).2.1 = σ.2.1 := rfl
/-- needs, bias -/
theorem nds_tq {σ : SS} (hR : Rel σ) (b : Bool) (k : Nat) (h1 : 1 ≤ k) (h2 : k ≤ nn σ) : (c_ned (c_std σ) (69, 0) (11, 0) (bif b then 12 else 14, 0)).2.1 16 0 k = tq (m_asi (s60 σ) b) k := by
  obtain ⟨⟨hI, hM, hn, hg⟩, r2, r3, r4, r5⟩ := hR
  have h7 := hI.2.1
  obtain ⟨e1, e2, e3⟩ := as1_e b (s60 σ) (mn (s60 σ))
  have hmn : mn (s60 σ) = nn σ := (s60_n σ).trans hn
  refine (ned_rel (s := c_std σ) (m := upf (as1 b) (s60 σ) (mn (s60 σ))) ⟨⟨hI, hM, hn, hg⟩, r2, r3, r4, r5⟩ (11, 0) (bif b then 12 else 14, 0) true rfl (c_std_I σ) (fun a b j _ => by rw [c_std_2]) (Or.inl e1) (fun a j ha => e2 a j ha) (fun k a b' => ?_) (fun k a b' => ?_)).1 k h1 h2
  · rw [(e3 k a (by omega)).1, c_std_2, s60_l, (r4 k (by omega)).2.1]
  · rw [(e3 k a (by omega)).2, c_std_2]
    cases b with
    | false => exact (r4 k (by omega)).2.2.2.1.symm
    | true => exact (r4 k (by omega)).2.2.1
/-- a column of the matrix, over any state that stands as σ does -/
theorem col_tq {σ s : SS} (hR : Rel σ) (hs1 : s.1 = (c_std σ).1) (hs2 : s.2.2 = σ.2.2) (hs3 : ∀ a b j, a < 15 → s.2.1 a b j = σ.2.1 a b j) (hs4 : ∀ k, 1 ≤ k → k ≤ nn σ → s.2.1 15 0 k = 0) {m : SS} (hm : K25 (s60 σ) m ∨ K25 σ m) (c k : Nat) (h1 : 1 ≤ k) (h2 : k ≤ nn σ) :
    (c_ned (sL s 15 0 c 1) (70, 0) (14, 0) (15, 0)).2.1 16 0 k = tq (m_alo m c) k := by
  obtain ⟨⟨hI, hM, hn, hg⟩, r2, r3, r4, r5⟩ := hR
  have h7 := hI.2.1
  obtain ⟨e1, e2, e3⟩ := al1_e c m (mn m)
  have hmn : mn m = nn σ := by
    rcases hm with h | h
    · rw [mn_of h.2.1, s60_n, hn]
    · rw [mn_of h.2.1, hn]
  have hmI : (upf (al1 c) m (mn m)).2.2 = (s60 σ).2.2 ∨ (upf (al1 c) m (mn m)).2.2 = σ.2.2 := by
    rcases hm with h | h
    · exact Or.inl (e1.trans h.2.1)
    · exact Or.inr (e1.trans h.2.1)
  have hml : ∀ a j, a < 25 → m.2.1 a 0 j = σ.2.1 a 0 j := fun a j ha => by
    rcases hm with h | h
    · exact h.2.2 a 0 j ha
    · exact h.2.2 a 0 j ha
  refine (ned_rel (s := sL s 15 0 c 1) (m := upf (al1 c) m (mn m)) ⟨⟨hI, hM, hn, hg⟩, r2, r3, r4, r5⟩ (14, 0) (15, 0) false hs1 hs2 (fun a b j ha => (sL_n1 _ _ _ _ _ (by omega)).trans (hs3 a b j ha)) hmI (fun a j ha => (e2 a j ha).trans (hml a j ha)) (fun k a b' => ?_) (fun k a b' => ?_)).1 k h1 h2
  · rw [(e3 k a (by omega)).1]
    show _ = (sL s 15 0 c 1).2.1 14 0 k
    rw [sL_n1 _ _ _ _ _ (by decide), hs3 14 _ _ (by decide), (r4 k (by omega)).2.2.2.1]
  · rw [(e3 k a (by omega)).2]
    show _ = (sL s 15 0 c 1).2.1 15 0 k
    by_cases hk : k = c
    · rw [if_pos hk, hk, sL_at]
    · rw [if_neg hk, sL_n3 _ _ _ _ _ hk, hs4 k a b']
