/-! The class's system is the reference's -/
theorem ned_rel2 {σ s m : SS} (hR : Rel σ) (u v : Nat × Nat) (h : Bool) (hSt : ∀ k, 1 ≤ k → k ≤ nn σ → StOK s k (pa σ k)) (hv : ∀ x j, (x < 55 ∨ 69 ≤ x ∨ (j = 0 ∧ x < 65)) → s.1 x j = σ.1 x j) (hs2 : s.2.2 = σ.2.2) (hs3 : ∀ a b j, a < 15 → s.2.1 a b j = σ.2.1 a b j)
    (m0 : m.2.2 = (s60 σ).2.2) (m1 : ∀ a j, 20 ≤ a → a < 25 → m.2.1 a 0 j = σ.2.1 a 0 j) (mv : ∀ k, 1 ≤ k → k ≤ nn σ → m.2.1 25 0 k = s.2.1 u.1 u.2 k) (ma : ∀ k, 1 ≤ k → k ≤ nn σ → m.2.1 26 0 k = s.2.1 v.1 v.2 k) :
    ∀ j, 1 ≤ j → j ≤ nn σ → (c_ned s (bif h then 69 else 70, 0) u v).2.1 16 0 j = tq (m_mov m h) j := by
  obtain ⟨⟨hI, hM, hn, hg⟩, r2, r3, r4, r5⟩ := hR
  have h7 := hI.2.1
  have hsn : nn s = nn σ := nn_of hs2
  have hsp : ∀ k, pa s k = pa σ k := fun k => pa_of hs2 k
  have q1 : MI m := MI_of m0 (s60_MI hM)
  have q2 : mn m = mn σ := (mn_of m0).trans (s60_n σ)
  have q3 : ∀ k, mp m k = mp σ k := fun k => (mp_of m0 k).trans (s60_p σ k)
  have q4 : ∀ k, m.2.2 8 k = σ.2.2 8 k := fun k => by rw [m0]; exact sI_n1 σ _ _ (by decide)
  have hgr : ∀ j, g3 m (20, 0) j = g3 σ (20, 0) j := fun j => g3_eq (fun j => m1 20 j (by decide) (by decide))
  have hgg : g3 m (24, 0) 0 = g3 σ (24, 0) 0 := g3_eq (fun j => m1 24 j (by decide) (by decide))
  have hi : ∀ k, mIr m k = mIr σ k := fun k => by unfold mIr; simp only [m1 20 _ (by decide) (by decide)]
  have key := ned_all s m (bif h then 69 else 70, 0) u v h (CI_of hs2 hI) (fun k a b => ?_) ?_ ?_ q1 ?_ (fun k a b => ?_) (fun k a b => ?_) (fun k a b => ?_) ?_
  · rw [hsn] at key
    exact key.1
  · rw [hsn] at b
    rw [hsp]
    exact hSt k a b
  · unfold gok
    rw [hv 55 0 (by omega), hv 56 0 (by omega), hv 57 0 (by omega), hv 59 0 (by omega), hv 63 0 (by omega), hv 64 0 (by omega)]
    exact hg
  · cases h
    · exact Or.inr rfl
    · exact Or.inl rfl
  · rw [q2, hn, hsn]
  · rw [hsn] at b
    rw [q3, (r2 k a b).1, hsp]
  · rw [hsn] at b
    rw [q4, (r2 k a b).2, hs2]
  · rw [hsn] at b
    obtain ⟨a1, a2, a3, a4, a5, a6⟩ := r3 k (by omega)
    obtain ⟨b1, -⟩ := r4 k (by omega)
    unfold Pm Ps
    rw [hgr, hgr, hi, a4, a5, a6, m1 20 _ (by decide) (by decide), m1 20 _ (by decide) (by decide), m1 21 _ (by decide) (by decide), a1, a2, b1, mv k a b, ma k a b, q4, (r2 k a b).2, hs2, hs3 2 _ _ (by decide), hs3 2 _ _ (by decide), hs3 10 _ _ (by decide), hv 50 _ (by omega), hv 51 _ (by omega), hv 52 _ (by omega), hv 53 _ (by omega), hv 54 _ (by omega)]
  · cases h with
    | false =>
      show v_sub (0, 0, 0) (s.1 70 0) = (0, 0, 0)
      rw [hv 70 0 (by omega), r5.2]
      unfold v_sub
      refine v3_ext ?_ ?_ ?_ <;> (dsimp only; grind)
    | true =>
      show v_sub (0, 0, 0) (s.1 69 0) = (-(m.2.1 24 0 0), -(m.2.1 24 0 1), -(m.2.1 24 0 2))
      rw [hv 69 0 (by omega), ← r5.1, ← hgg]
      unfold v_sub g3
      refine v3_ext ?_ ?_ ?_ <;> (dsimp only; grind)
/-- what stays while the class works on its system -/
def CS (σ s : SS) : Prop := (∀ x j, (x < 55 ∨ 69 ≤ x ∨ (j = 0 ∧ x < 65)) → s.1 x j = σ.1 x j) ∧ s.2.2 = σ.2.2 ∧ (∀ a b j, (a < 15 ∨ 20 ≤ a) → s.2.1 a b j = σ.2.1 a b j) ∧ (∀ k, k < 8 → s.2.1 15 0 k = σ.2.1 15 0 k) ∧ ∀ k, 1 ≤ k → k ≤ nn σ → StOK s k (pa σ k)
theorem CS_KR {σ s : SS} (h : CS σ s) : KR σ s := ⟨fun a j _ => by rw [h.2.1], fun a b j q => h.2.2.1 a b j (by omega), h.2.2.2.1, h.1⟩
theorem CS_std {σ : SS} (hR : Rel σ) : CS σ (c_std σ) := by
  obtain ⟨-, -, -, -, c5, c6⟩ := std_ok hR
  exact ⟨fun x j h => c6 x j (by omega), c_std_I σ, fun a b j _ => by rw [c_std_2], fun k _ => by rw [c_std_2], c5⟩
theorem StOK_L {s s' : SS} {k p : Nat} (h1 : s'.1 = s.1) (h2 : s'.2.2 = s.2.2) (h3 : ∀ a b j, a < 15 → s'.2.1 a b j = s.2.1 a b j) (h : StOK s k p) : StOK s' k p := by
  refine StOK_cg (fun v a => ?_) (fun x j _ => by rw [h1]) h
  unfold Ps
  rw [h1, h2, h3 2 _ _ (by decide), h3 2 _ _ (by decide), h3 10 _ _ (by decide)]
theorem CS_L {σ s s' : SS} (h : CS σ s) (h1 : s'.1 = s.1) (h2 : s'.2.2 = s.2.2) (h3 : ∀ a b j, (a < 15 ∨ 20 ≤ a) → s'.2.1 a b j = s.2.1 a b j) (h4 : ∀ k, k < 8 → s'.2.1 15 0 k = s.2.1 15 0 k) : CS σ s' :=
  ⟨fun x j q => by rw [h1]; exact h.1 x j q, h2.trans h.2.1, fun a b j q => (h3 a b j q).trans (h.2.2.1 a b j q), fun k q => (h4 k q).trans (h.2.2.2.1 k q), fun k q1 q2 => StOK_L h1 h2 (fun a b j q => h3 a b j (Or.inl q)) (h.2.2.2.2 k q1 q2)⟩
/-- a pass keeps all but the torques that it finds -/
theorem ned_CS {σ s : SS} (q u v : Nat × Nat) (hI : CI σ) (h2 : s.2.2 = σ.2.2) (hS : ∀ k, 1 ≤ k → k ≤ nn σ → StOK s k (pa σ k)) : (∀ a b i, a ≠ 16 → (c_ned s q u v).2.1 a b i = s.2.1 a b i) ∧ (∀ x j, (x < 63 ∨ 68 < x ∨ (j = 0 ∧ x < 65)) → (c_ned s q u v).1 x j = s.1 x j) ∧ ∀ k, 1 ≤ k → k ≤ nn σ → StOK (c_ned s q u v) k (pa σ k) := by
  have hS2 : ∀ k, 1 ≤ k → k ≤ nn s → StOK s k (pa s k) := fun k a b => by
    rw [nn_of h2] at b
    rw [pa_of h2]
    exact hS k a b
  obtain ⟨h3, h4⟩ := ned_keep q u v (CI_of h2 hI) hS2
  refine ⟨h3, h4, fun k a b => ?_⟩
  rw [← pa_of h2]
  exact StOK_ned q u v (CI_of h2 hI) hS2 k a (by rw [nn_of h2]; exact b)
theorem CS_ned {σ s : SS} (q u v : Nat × Nat) (hI : CI σ) (h : CS σ s) : CS σ (c_ned s q u v) := by
  obtain ⟨h3, h4, h5⟩ := ned_CS q u v hI h.2.1 h.2.2.2.2
  exact ⟨fun x j q => (h4 x j (by omega)).trans (h.1 x j q), (c_ned_I _ _ _ _).trans h.2.1, fun a b j q => (h3 a b j (by omega)).trans (h.2.2.1 a b j q), fun k q => (h3 15 0 k (by decide)).trans (h.2.2.2.1 k q), h5⟩
theorem StOK_15 {s : SS} {k p : Nat} (c : Nat) (x : ZF) (h : StOK s k p) : StOK (sL s 15 0 c x) k p := StOK_L (s := s) rfl rfl (fun a b j q => sL_n1 (kd := 15) _ _ _ _ _ (by omega)) h
theorem col_tq2 {σ s m : SS} (hR : Rel σ) (h : CS σ s) (m0 : m.2.2 = (s60 σ).2.2) (m1 : ∀ a j, 20 ≤ a → a < 25 → m.2.1 a 0 j = σ.2.1 a 0 j) (c k : Nat) (h1 : 1 ≤ k) (h2 : k ≤ nn σ) : (c_ned (sL s 15 0 c 1) (70, 0) (14, 0) (15, 0)).2.1 16 0 k = tq (m_alo m c) k := by
  have hR' := hR
  obtain ⟨⟨hI, hM, hn, hg⟩, r2, r3, r4, r5⟩ := hR'
  have h7 := hI.2.1
  obtain ⟨e1, e2, e3⟩ := al1_e c m (mn m)
  have hmn : mn m = nn σ := by rw [mn_of m0, s60_n, hn]
  refine ned_rel2 (s := sL s 15 0 c 1) (m := upf (al1 c) m (mn m)) hR (14, 0) (15, 0) false (fun k a b => StOK_15 c 1 (h.2.2.2.2 k a b)) h.1 h.2.1 (fun a b j q => (sL_n1 _ _ _ _ _ (by omega)).trans (h.2.2.1 a b j (Or.inl q))) (e1.trans m0) (fun a j q1 q2 => (e2 a j (by omega)).trans (m1 a j q1 q2)) (fun k a b' => ?_) (fun k a b' => ?_) k h1 h2
  · rw [(e3 k a (by omega)).1]
    show _ = (sL s 15 0 c 1).2.1 14 0 k
    rw [sL_n1 _ _ _ _ _ (by decide), h.2.2.1 14 _ _ (by omega), (r4 k (by omega)).2.2.2.1]
  · rw [(e3 k a (by omega)).2]
    show _ = (sL s 15 0 c 1).2.1 15 0 k
    by_cases hk : k = c
    · rw [if_pos hk, hk, sL_at]
    · rw [if_neg hk, sL_n3 _ _ _ _ _ hk, h.2.2.2.1 k (by omega), (r4 k (by omega)).2.2.2.2]
/-- the matrix and what the torques leave: the same for all states of the reference over σ -/
noncomputable def mtx (σ : SS) (j i : Nat) : ZF := tq (m_alo (s60 σ) i) j
noncomputable def lfo (σ : SS) (j : Nat) : ZF := σ.2.1 20 0 (16 * j + 14) - tq (m_asi (s60 σ) false) j
theorem mtx_e {σ m : SS} (hR : Rel σ) (m0 : m.2.2 = (s60 σ).2.2) (m1 : ∀ a j, 20 ≤ a → a < 25 → m.2.1 a 0 j = σ.2.1 a 0 j) (i j : Nat) (h1 : 1 ≤ j) (h2 : j ≤ nn σ) : tq (m_alo m i) j = mtx σ j i :=
  (col_tq2 hR (CS_std hR) m0 m1 i j h1 h2).symm.trans (col_tq2 (m := s60 σ) hR (CS_std hR) rfl (fun _ _ _ _ => rfl) i j h1 h2)
theorem bia_tq2 {σ s m : SS} (hR : Rel σ) (h : CS σ s) (m0 : m.2.2 = (s60 σ).2.2) (m1 : ∀ a j, 20 ≤ a → a < 25 → m.2.1 a 0 j = σ.2.1 a 0 j) (k : Nat) (h1 : 1 ≤ k) (h2 : k ≤ nn σ) : (c_ned s (69, 0) (11, 0) (14, 0)).2.1 16 0 k = tq (m_asi m false) k := by
  have hR' := hR
  obtain ⟨⟨hI, hM, hn, hg⟩, r2, r3, r4, r5⟩ := hR'
  have h7 := hI.2.1
  obtain ⟨e1, e2, e3⟩ := as1_e false m (mn m)
  have hmn : mn m = nn σ := by rw [mn_of m0, s60_n, hn]
  refine ned_rel2 (s := s) (m := upf (as1 false) m (mn m)) hR (11, 0) (14, 0) true h.2.2.2.2 h.1 h.2.1 (fun a b j q => h.2.2.1 a b j (Or.inl q)) (e1.trans m0) (fun a j q1 q2 => (e2 a j (by omega)).trans (m1 a j q1 q2)) (fun k a b' => ?_) (fun k a b' => ?_) k h1 h2
  · rw [(e3 k a (by omega)).1, m1 22 _ (by decide) (by decide), (r4 k (by omega)).2.1]
    exact (h.2.2.1 11 0 k (by omega)).symm
  · rw [(e3 k a (by omega)).2]
    exact ((h.2.2.1 14 0 k (by omega)).trans (r4 k (by omega)).2.2.2.1).symm
theorem lfo_e {σ m : SS} (hR : Rel σ) (m0 : m.2.2 = (s60 σ).2.2) (m1 : ∀ a j, 20 ≤ a → a < 25 → m.2.1 a 0 j = σ.2.1 a 0 j) (j : Nat) (h1 : 1 ≤ j) (h2 : j ≤ nn σ) : σ.2.1 20 0 (16 * j + 14) - tq (m_asi m false) j = lfo σ j := by
  unfold lfo
  rw [← bia_tq2 hR (CS_std hR) m0 m1 j h1 h2, ← bia_tq2 (m := s60 σ) hR (CS_std hR) rfl (fun _ _ _ _ => rfl) j h1 h2]
/-! the columns -/
theorem col_u (c : Nat) (s : SS) : ∀ m, (upf (col1 c) s m).1 = s.1 ∧ (∀ a b j, a ≠ 19 → (upf (col1 c) s m).2.1 a b j = s.2.1 a b j) ∧ ∀ j i, (upf (col1 c) s m).2.1 19 j i = if i = c ∧ 1 ≤ j ∧ j ≤ m then s.2.1 16 0 j else s.2.1 19 j i
  | 0 => ⟨rfl, fun _ _ _ _ => rfl, fun j i => (if_neg (by omega)).symm⟩
  | m + 1 => by
    obtain ⟨h1, h2, h3⟩ := col_u c s m
    have hu : upf (col1 c) s (m + 1) = sL (upf (col1 c) s m) 19 (m + 1) c ((upf (col1 c) s m).2.1 16 0 (m + 1)) := rfl
    rw [hu, h2 16 0 _ (by decide)]
    refine ⟨h1, fun a b j q => (sL_n1 _ _ _ _ _ q).trans (h2 a b j q), fun j i => ?_⟩
    by_cases e : j = m + 1
    · subst e
      by_cases e2 : i = c
      · subst e2
        rw [sL_at, if_pos ⟨rfl, by omega, by omega⟩]
      · rw [sL_n3 _ _ _ _ _ e2, h3, if_neg (by omega), if_neg (by omega)]
    · rw [sL_n2 _ _ _ _ _ e, h3]
      by_cases q : i = c ∧ 1 ≤ j ∧ j ≤ m
      · rw [if_pos q, if_pos (by omega)]
      · rw [if_neg q, if_neg (by omega)]
theorem col_CS {σ s : SS} (hR : Rel σ) (h : CS σ s) (c : Nat) : CS σ (c_col s c) ∧ ∀ j i, (c_col s c).2.1 19 j i = if i = c ∧ 1 ≤ j ∧ j ≤ nn σ then mtx σ j c else s.2.1 19 j i := by
  have hI := hR.1.1
  obtain ⟨n3, n4, n5⟩ := ned_CS (s := sL s 15 0 c 1) (70, 0) (14, 0) (15, 0) hI h.2.1 (fun k a b => StOK_15 c 1 (h.2.2.2.2 k a b))
  have ht : ∀ k, 1 ≤ k → k ≤ nn σ → (c_ned (sL s 15 0 c 1) (70, 0) (14, 0) (15, 0)).2.1 16 0 k = mtx σ k c := fun k a b => col_tq2 (m := s60 σ) hR h rfl (fun _ _ _ _ => rfl) c k a b
  obtain ⟨u1, u2, u3⟩ := col_u c (sL (c_ned (sL s 15 0 c 1) (70, 0) (14, 0) (15, 0)) 15 0 c 0) (nn s)
  have hc : c_col s c = upf (col1 c) (sL (c_ned (sL s 15 0 c 1) (70, 0) (14, 0) (15, 0)) 15 0 c 0) (nn s) := rfl
  rw [nn_of h.2.1] at hc u1 u2 u3
  have hcI : (c_col s c).2.2 = σ.2.2 := (c_col_I s c).trans h.2.1
  rw [hc] at hcI ⊢
  obtain ⟨-, -, -, r4, -⟩ := hR
  have htI : (c_ned (sL s 15 0 c 1) (70, 0) (14, 0) (15, 0)).2.2 = σ.2.2 := (c_ned_I (sL s 15 0 c 1) _ _ _).trans h.2.1
  generalize c_ned (sL s 15 0 c 1) (70, 0) (14, 0) (15, 0) = t at n3 n4 n5 ht u1 u2 u3 hcI htI
  generalize upf (col1 c) (sL t 15 0 c 0) (nn σ) = z at u1 u2 u3 hcI
  refine ⟨⟨fun x j q => ?_, hcI, fun a b j q => ?_, fun k q => ?_, fun k a b => ?_⟩, fun j i => ?_⟩
  · rw [u1]
    exact (n4 x j (by omega)).trans (h.1 x j q)
  · rw [u2 a b j (by omega), sL_n1 _ _ _ _ _ (by omega), n3 a b j (by omega), sL_n1 _ _ _ _ _ (by omega)]
    exact h.2.2.1 a b j q
  · rw [u2 15 0 k (by decide)]
    by_cases e : k = c
    · subst e
      rw [sL_at, (r4 k q).2.2.2.2]
    · rw [sL_n3 _ _ _ _ _ e, n3 15 0 k (by decide), sL_n3 _ _ _ _ _ e]
      exact h.2.2.2.1 k q
  · refine StOK_cg (fun v a => ?_) (fun x j _ => by rw [u1]; rfl) (n5 k a b)
    have eL : ∀ a b j, a < 15 → z.2.1 a b j = t.2.1 a b j := fun a b j q => (u2 a b j (by omega)).trans (sL_n1 _ _ _ _ _ (by omega))
    have hz1 : z.1 = t.1 := u1
    unfold Ps
    rw [hz1, eL 2 _ _ (by decide), eL 2 _ _ (by decide), eL 10 _ _ (by decide), hcI, htI]
  · rw [u3]
    show (if _ then (sL t 15 0 c 0).2.1 16 0 j else (sL t 15 0 c 0).2.1 19 j i) = _
    rw [sL_n1 _ _ _ _ _ (by decide), sL_n1 _ _ _ _ _ (by decide)]
    by_cases e : i = c ∧ 1 ≤ j ∧ j ≤ nn σ
    · rw [if_pos e, if_pos e]
      exact ht j e.2.1 e.2.2
    · rw [if_neg e, if_neg e, n3 19 j i (by decide), sL_n1 _ _ _ _ _ (by decide)]
theorem cols_CS {σ : SS} (hR : Rel σ) : ∀ m, CS σ (upf c_col (c_std σ) m) ∧ ∀ i j, 1 ≤ i → i ≤ m → 1 ≤ j → j ≤ nn σ → (upf c_col (c_std σ) m).2.1 19 j i = mtx σ j i
  | 0 => ⟨CS_std hR, fun i j h1 h2 => by omega⟩
  | m + 1 => by
    obtain ⟨h1, h2⟩ := cols_CS hR m
    obtain ⟨h3, h4⟩ := col_CS hR h1 (m + 1)
    refine ⟨h3, fun i j q1 q2 q3 q4 => ?_⟩
    show (c_col (upf c_col (c_std σ) m) (m + 1)).2.1 19 j i = _
    rw [h4]
    by_cases e : i = m + 1
    · rw [if_pos ⟨e, q3, q4⟩, e]
    · rw [if_neg (fun p => e p.1)]
      exact h2 i j q1 (by omega) q3 q4
theorem gap_u (s : SS) : ∀ m, (upf gap1 s m).1 = s.1 ∧ (∀ a b j, (a ≠ 17 ∨ b ≠ 0 ∨ m < j) → (upf gap1 s m).2.1 a b j = s.2.1 a b j) ∧ ∀ j, 1 ≤ j → j ≤ m → (upf gap1 s m).2.1 17 0 j = s.2.1 13 0 j - s.2.1 16 0 j
  | 0 => ⟨rfl, fun _ _ _ _ => rfl, fun j h1 h2 => by omega⟩
  | m + 1 => by
    obtain ⟨h1, h2, h3⟩ := gap_u s m
    have hu : upf gap1 s (m + 1) = sL (upf gap1 s m) 17 0 (m + 1) ((upf gap1 s m).2.1 13 0 (m + 1) - (upf gap1 s m).2.1 16 0 (m + 1)) := rfl
    rw [hu, h2 13 0 _ (by omega), h2 16 0 _ (by omega)]
    refine ⟨h1, fun a b j q => ?_, fun j q1 q2 => ?_⟩
    · have e : ¬ (a = 17 ∧ b = 0 ∧ j = m + 1) := by omega
      show (if a = 17 ∧ b = 0 ∧ j = m + 1 then _ else (upf gap1 s m).2.1 a b j) = _
      rw [if_neg e]
      exact h2 a b j (by omega)
    · by_cases e : j = m + 1
      · subst e
        exact sL_at _ _ _ _ _
      · rw [sL_n3 _ _ _ _ _ e]
        exact h3 j q1 (by omega)
theorem sys_CS {σ : SS} (hR : Rel σ) : CS σ (c_sys σ) ∧ (∀ i j, (1 ≤ i ∧ i ≤ nn σ) → (1 ≤ j ∧ j ≤ nn σ) → cE (c_sys σ) j i = mtx σ j i) ∧ ∀ j, (1 ≤ j ∧ j ≤ nn σ) → cg (c_sys σ) j = lfo σ j := by
  obtain ⟨h1, h2⟩ := cols_CS hR (nn σ)
  have hI := hR.1.1
  have h7 := hI.2.1
  have hS : c_sys σ = upf gap1 (c_ned (upf c_col (c_std σ) (nn σ)) (69, 0) (11, 0) (14, 0)) (nn (upf c_col (c_std σ) (nn σ))) := rfl
  rw [nn_of h1.2.1] at hS
  have hb := bia_tq2 (m := s60 σ) hR h1 rfl (fun _ _ _ _ => rfl)
  have hN := CS_ned (69, 0) (11, 0) (14, 0) hI h1
  obtain ⟨n3, n4, n5⟩ := ned_CS (69, 0) (11, 0) (14, 0) hI h1.2.1 h1.2.2.2.2
  generalize c_ned (upf c_col (c_std σ) (nn σ)) (69, 0) (11, 0) (14, 0) = t at hb hN n3 n4 n5 hS
  obtain ⟨g1, g2, g3⟩ := gap_u t (nn σ)
  have hsI : (c_sys σ).2.2 = σ.2.2 := c_sys_I σ
  rw [hS] at hsI ⊢
  refine ⟨CS_L hN g1 (hsI.trans hN.2.1.symm) (fun a b j q => g2 a b j (by omega)) (fun k q => g2 15 0 k (by omega)), fun i j hi hj => ?_, fun j hj => ?_⟩
  · show (upf gap1 t (nn σ)).2.1 19 j i = _
    rw [g2 19 j i (by omega), n3 19 j i (by decide)]
    exact h2 i j hi.1 hi.2 hj.1 hj.2
  · show (upf gap1 t (nn σ)).2.1 17 0 j = _
    rw [g3 j hj.1 hj.2, hb j hj.1 hj.2, hN.2.2.1 13 0 j (by omega), ← (hR.2.2.1 j (by omega)).2.2.1]
    rfl
/-- the class's forward: its answer, and what it leaves -/
noncomputable def c_fwe (σ : SS) : SS := bif c_fwb σ then c_sol (c_fwd σ) else c_fwd σ
theorem fwd_e {σ : SS} (hR : Rel σ) {A : Nat → ZF} (hA : kpt A (mtx σ) (nn σ) (nn σ)) (hB : kpg A (lfo σ) (nn σ)) : c_fwb σ = icls A (nn σ) (nn σ) ∧ (∀ x j, (x < 55 ∨ 69 ≤ x ∨ (j = 0 ∧ x < 65)) → (c_fwe σ).1 x j = σ.1 x j) ∧ (c_fwe σ).2.2 = σ.2.2 ∧ (∀ a b j, (a < 15 ∧ a ≠ 12 ∨ 20 ≤ a) → (c_fwe σ).2.1 a b j = σ.2.1 a b j) ∧ (∀ k, k < 8 → (c_fwe σ).2.1 15 0 k = σ.2.1 15 0 k) ∧ ∀ j, j < 8 → (c_fwe σ).2.1 12 0 j = if 1 ≤ j ∧ j ≤ (bif c_fwb σ then nn σ else 0) then xsl A (nn σ) (j - 1) else σ.2.1 12 0 j := by
  have hI := hR.1.1
  have h7 := hI.2.1
  obtain ⟨s1, s2, s3⟩ := sys_CS hR
  have hg := gauss h7 (s := c_sys σ) (A := A) (fun i j hi hj => (hA i j hi hj).trans (s2 i j hi hj).symm) (fun j hj => (hB j hj).trans (s3 j hj).symm)
  obtain ⟨-, k2, k3, k4⟩ := clr_e (n := nn σ) (nn σ) (c_sys σ) (Nat.le_refl _) (fun r i h1 h2 h3 h4 => by omega) (fun r h1 h2 => by omega)
  have hfI : (c_fwd σ).2.2 = σ.2.2 := c_fwd_I σ
  have hb : c_fwb σ = (c_clr (nn σ) (c_sys σ)).1 := rfl
  have hf : c_fwd σ = (c_clr (nn σ) (c_sys σ)).2 := rfl
  have hfL : ∀ a b j, (a < 15 ∨ 20 ≤ a) → (c_fwd σ).2.1 a b j = σ.2.1 a b j := fun a b j q => (k4 a b j (by omega) (by omega) (by omega)).trans (s1.2.2.1 a b j q)
  have hf15 : ∀ k, k < 8 → (c_fwd σ).2.1 15 0 k = σ.2.1 15 0 k := fun k q => (k4 15 0 k (by omega) (by omega) (by omega)).trans (s1.2.2.2.1 k q)
  have hfV : ∀ x j, (x < 55 ∨ 69 ≤ x ∨ (j = 0 ∧ x < 65)) → (c_fwd σ).1 x j = σ.1 x j := fun x j q => by
    have e : (c_fwd σ).1 = (c_sys σ).1 := k3
    rw [e]
    exact s1.1 x j q
  refine ⟨hg.1, ?_⟩
  unfold c_fwe
  cases hB2 : c_fwb σ with
  | false =>
    refine ⟨hfV, hfI, fun a b j q => hfL a b j (by omega), hf15, fun j _ => ?_⟩
    show _ = if 1 ≤ j ∧ j ≤ 0 then _ else _
    rw [if_neg (by omega)]
    exact hfL 12 0 j (by omega)
  | true =>
    have hB3 := hb.symm.trans hB2
    obtain ⟨k5, k6, -⟩ := k2 hB3
    have hx := hg.2 hB3
    obtain ⟨u1, u2, -⟩ := sol_u (c_clr (nn σ) (c_sys σ)).2 k6 (nn σ) (Nat.le_refl _)
    have hs : c_sol (c_fwd σ) = upf sol1 (c_clr (nn σ) (c_sys σ)).2 (nn σ) := by
      unfold c_sol
      rw [nn_of hfI]
      rfl
    have hsI : (c_sol (c_fwd σ)).2.2 = σ.2.2 := (c_sol_I _).trans hfI
    show (∀ x j, _ → (c_sol (c_fwd σ)).1 x j = _) ∧ (c_sol (c_fwd σ)).2.2 = _ ∧ (∀ a b j, _ → (c_sol (c_fwd σ)).2.1 a b j = _) ∧ (∀ k, _ → (c_sol (c_fwd σ)).2.1 15 0 k = _) ∧ ∀ j, _ → (c_sol (c_fwd σ)).2.1 12 0 j = _
    refine ⟨fun x j q => ?_, hsI, fun a b j q => ?_, fun k q => ?_, fun j hj => ?_⟩
    · rw [hs, u1, ← hf]
      exact hfV x j q
    · rw [hs, u2 a b j (by omega), ← hf]
      exact hfL a b j (by omega)
    · rw [hs, u2 15 0 k (by omega), ← hf]
      exact hf15 k q
    · rw [hs]
      show _ = if 1 ≤ j ∧ j ≤ nn σ then _ else _
      by_cases q : 1 ≤ j ∧ j ≤ nn σ
      · rw [if_pos q]
        exact hx j q.1 q.2
      · rw [if_neg q, u2 12 0 j (by omega), ← hf]
        exact hfL 12 0 j (by omega)
