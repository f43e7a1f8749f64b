/-! What the class's passes make of a body -/
theorem sV_k (σ : SS) (kd k a b : Nat) (v : V3) (h : a ≠ kd) : (sV σ kd k v).1 a b = σ.1 a b := if_neg (fun q => h q.1)
theorem sV_i (σ : SS) (kd k a b : Nat) (v : V3) (h : b ≠ k) : (sV σ kd k v).1 a b = σ.1 a b := if_neg (fun q => h q.2)
theorem lin_o (x y z d : V3) : v_adt (v_adt (v_adt (0, 0, 0) x d.1) y d.2.1) z d.2.2 = lin x y z d := by
  unfold lin v_adt v_add v_sca
  refine v3_ext ?_ ?_ ?_ <;> (dsimp only; grind)
theorem fout_r (σ : SS) (k : Nat) (q : Nat × Nat) (r j : Nat) (h1 : r ≠ 55) (h2 : r ≠ 56) (h3 : r ≠ 57) : f_out σ k q (r, j) = sV σ r j (lin (σ.1 55 k) (σ.1 56 k) (σ.1 57 k) (σ.1 q.1 q.2)) := by
  unfold f_out o_adt o_clr
  dsimp only
  simp only [sV_at, sV_sV, sV_k _ _ _ _ _ _ (Ne.symm h1), sV_k _ _ _ _ _ _ (Ne.symm h2), sV_k _ _ _ _ _ _ (Ne.symm h3)]
  rw [lin_o]
theorem pair_r (σ : SS) (k a b : Nat) (t : ZF) (h1 : a ≠ b) (h2 : a ≠ 58) (h3 : b ≠ 58) : f_pair σ k (a, k) (b, k) t = sV (sV (sV σ 58 k (σ.1 a k)) a k (tp1 (σ.1 a k) (σ.1 b k) (cosz t) (sinz t))) b k (tp2 (σ.1 a k) (σ.1 b k) (cosz t) (sinz t)) := by
  unfold f_pair o_adt o_sca o_cpy tp1 tp2
  dsimp only
  simp only [sV_at, sV_sV, sV_k _ _ _ _ _ _ h1, sV_k _ _ _ _ _ _ (Ne.symm h1), sV_k _ _ _ _ _ _ h2, sV_k _ _ _ _ _ _ (Ne.symm h2), sV_k _ _ _ _ _ _ h3, sV_k _ _ _ _ _ _ (Ne.symm h3)]
def Ds (s : SS) (i : Nat) : Tup := ((s.1 55 i, s.1 56 i, s.1 57 i), (s.1 59 i, s.1 57 i, s.1 61 i), (s.1 63 i, s.1 64 i, s.1 65 i), (s.1 66 i, v_sub (s.1 67 i) (v_crs (s.1 62 i) (s.1 66 i))))
def Ps (s : SS) (v a : ZF) (k : Nat) : Par' :=
  ((s.2.1 2 k 0, s.2.1 10 0 k, v, a, s.2.1 2 k 1), decide (s.2.2 2 k = 0), (s.1 50 k, s.1 51 k), (s.1 52 k, s.1 53 k, s.1 54 k))
/-- stand, in one view -/
theorem std_e (s : SS) (k p : Nat) (v a : ZF) (hp : p ≠ k) : (let u := b_std s k p (s.2.1 10 0 k)
    (u.1 55 k, u.1 56 k, u.1 57 k) = nx_fr (Ds s p) (Ps s v a k) ∧ u.1 57 k = nx_u (Ds s p) (Ps s v a k) ∧ u.1 59 k = nx_o (Ds s p) (Ps s v a k) ∧ u.1 60 k = nx_s (Ds s p) (Ps s v a k) ∧ u.1 61 k = nx_e (Ds s p) (Ps s v a k) ∧ u.1 62 k = v_add (u.1 59 k) (u.1 61 k)
    ∧ ∀ x j, (j ≠ k ∨ x < 55 ∨ 62 < x) → u.1 x j = s.1 x j) := by
  have hp' : k ≠ p := fun h => hp h.symm
  have hfin : ∀ σ1 : SS, σ1 = f_cpy s k p → σ1.1 55 k = s.1 55 p ∧ σ1.1 56 k = s.1 56 p ∧ σ1.1 57 k = s.1 57 p ∧ σ1.2 = s.2 ∧ ∀ x j, (j ≠ k ∨ x < 55 ∨ 57 < x) → σ1.1 x j = s.1 x j := by
    intro σ1 h
    subst h
    unfold f_cpy o_cpy
    dsimp only
    refine ⟨?_, ?_, ?_, rfl, fun x j h => ?_⟩
    · simp (disch := first | decide | assumption) only [sV_at, sV_k, sV_i]
    · simp (disch := first | decide | assumption) only [sV_at, sV_k, sV_i]
    · simp (disch := first | decide | assumption) only [sV_at, sV_k, sV_i]
    · rcases h with h | h
      · rw [sV_i _ _ _ _ _ _ h, sV_i _ _ _ _ _ _ h, sV_i _ _ _ _ _ _ h]
      · rw [sV_k _ _ _ _ _ _ (by omega), sV_k _ _ _ _ _ _ (by omega), sV_k _ _ _ _ _ _ (by omega)]
  obtain ⟨a1, a2, a3, a4, a5⟩ := hfin _ rfl
  unfold b_std
  dsimp only
  generalize f_cpy s k p = s1 at a1 a2 a3 a4 a5
  clear hfin
  have t1 : s1.2.1 2 k 0 = s.2.1 2 k 0 := by rw [a4]
  rw [t1]
  have h2 : ∀ σ2 : SS, σ2 = f_pair s1 k (56, k) (57, k) (s.2.1 2 k 0) → σ2.1 55 k = s.1 55 p ∧ σ2.1 56 k = tp1 (s.1 56 p) (s.1 57 p) (cosz (s.2.1 2 k 0)) (sinz (s.2.1 2 k 0)) ∧ σ2.1 57 k = nx_u (Ds s p) (Ps s v a k) ∧ σ2.2 = s.2 ∧ ∀ x j, (j ≠ k ∨ x < 55 ∨ 58 < x) → σ2.1 x j = s.1 x j := by
    intro σ2 h
    subst h
    rw [pair_r _ _ _ _ _ (by decide) (by decide) (by decide), a2, a3]
    refine ⟨?_, ?_, ?_, a4, fun x j h => ?_⟩
    · rw [sV_k _ _ _ _ _ _ (by decide), sV_k _ _ _ _ _ _ (by decide), sV_k _ _ _ _ _ _ (by decide), a1]
    · rw [sV_k _ _ _ _ _ _ (by decide), sV_at]
    · rw [sV_at]
      rfl
    · rcases h with h | h
      · rw [sV_i _ _ _ _ _ _ h, sV_i _ _ _ _ _ _ h, sV_i _ _ _ _ _ _ h, a5 _ _ (Or.inl h)]
      · rw [sV_k _ _ _ _ _ _ (by omega), sV_k _ _ _ _ _ _ (by omega), sV_k _ _ _ _ _ _ (by omega), a5 _ _ (Or.inr (by omega))]
  obtain ⟨b1, b2, b3, b4, b5⟩ := h2 _ rfl
  generalize f_pair s1 k (56, k) (57, k) (s.2.1 2 k 0) = s2 at b1 b2 b3 b4 b5
  clear h2 a1 a2 a3 a4 a5 t1
  rw [fout_r s2 p (50, k) 60 k (by decide) (by decide) (by decide)]
  have c60 : (sV s2 60 k (lin (s2.1 55 p) (s2.1 56 p) (s2.1 57 p) (s2.1 50 k))).1 60 k = lin (s.1 55 p) (s.1 56 p) (s.1 57 p) (s.1 50 k) := by
    rw [sV_at, b5 _ _ (Or.inl hp), b5 _ _ (Or.inl hp), b5 _ _ (Or.inl hp), b5 _ _ (Or.inr (by omega))]
  have c0 : ∀ x j, (x, j) ≠ (60, k) → (sV s2 60 k (lin (s2.1 55 p) (s2.1 56 p) (s2.1 57 p) (s2.1 50 k))).1 x j = s2.1 x j := fun x j h => sV_ne _ _ h
  have c2 : (sV s2 60 k (lin (s2.1 55 p) (s2.1 56 p) (s2.1 57 p) (s2.1 50 k))).2 = s.2 := b4
  generalize sV s2 60 k (lin (s2.1 55 p) (s2.1 56 p) (s2.1 57 p) (s2.1 50 k)) = s3 at c60 c0 c2
  have hS : s3.2.2 2 k = s.2.2 2 k := by rw [c2]
  rw [hS]
  have h4 : ∀ σ4 : SS, σ4 = (if s.2.2 2 k = 0 then f_pair s3 k (55, k) (56, k) (s.2.1 10 0 k) else o_adt s3 (60, k) (57, k) (s.2.1 10 0 k)) → (σ4.1 55 k, σ4.1 56 k, σ4.1 57 k) = nx_fr (Ds s p) (Ps s v a k) ∧ σ4.1 57 k = nx_u (Ds s p) (Ps s v a k) ∧ σ4.1 60 k = nx_s (Ds s p) (Ps s v a k) ∧ ∀ x j, (j ≠ k ∨ x < 55 ∨ 60 < x ∨ x = 59) → σ4.1 x j = s.1 x j := by
    intro σ4 h
    subst h
    have hP1 : (Ps s v a k).2.1 = decide (s.2.2 2 k = 0) := rfl
    have e55 : s3.1 55 k = s.1 55 p := (c0 _ _ (by simp)).trans b1
    have e56 : s3.1 56 k = tp1 (s.1 56 p) (s.1 57 p) (cosz (s.2.1 2 k 0)) (sinz (s.2.1 2 k 0)) := (c0 _ _ (by simp)).trans b2
    have e57 : s3.1 57 k = nx_u (Ds s p) (Ps s v a k) := (c0 _ _ (by simp)).trans b3
    unfold nx_fr nx_s
    rw [hP1]
    by_cases h0 : s.2.2 2 k = 0
    · rw [decide_eq_true h0, if_pos h0, pair_r _ _ _ _ _ (by decide) (by decide) (by decide), e55, e56]
      dsimp only [cond]
      refine ⟨?_, ?_, ?_, fun x j h => ?_⟩
      · rw [sV_k _ _ _ 55 _ _ (by decide), sV_at, sV_at, sV_k _ _ _ 57 _ _ (by decide), sV_k _ _ _ 57 _ _ (by decide), sV_k _ _ _ 57 _ _ (by decide), e57]
        rfl
      · rw [sV_k _ _ _ _ _ _ (by decide), sV_k _ _ _ _ _ _ (by decide), sV_k _ _ _ _ _ _ (by decide), e57]
      · rw [sV_k _ _ _ _ _ _ (by decide), sV_k _ _ _ _ _ _ (by decide), sV_k _ _ _ _ _ _ (by decide), c60]
        rfl
      · rcases h with h | h
        · rw [sV_i _ _ _ _ _ _ h, sV_i _ _ _ _ _ _ h, sV_i _ _ _ _ _ _ h, c0 _ _ (fun e => h (Prod.mk.inj e).2), b5 _ _ (Or.inl h)]
        · rw [sV_k _ _ _ _ _ _ (by omega), sV_k _ _ _ _ _ _ (by omega), sV_k _ _ _ _ _ _ (by omega), c0 _ _ (fun e => absurd (Prod.mk.inj e).1 (by omega)), b5 _ _ (Or.inr (by omega))]
    · rw [decide_eq_false h0, if_neg h0]
      unfold o_adt
      dsimp only [cond]
      refine ⟨?_, ?_, ?_, fun x j h => ?_⟩
      · rw [sV_k _ _ _ 55 _ _ (by decide), sV_k _ _ _ 56 _ _ (by decide), sV_k _ _ _ 57 _ _ (by decide), e55, e56, e57]
        rfl
      · rw [sV_k _ _ _ _ _ _ (by decide), e57]
      · rw [sV_at, c60, e57]
        rfl
      · rcases h with h | h
        · rw [sV_i _ _ _ _ _ _ h, c0 _ _ (fun e => h (Prod.mk.inj e).2), b5 _ _ (Or.inl h)]
        · rw [sV_k _ _ _ _ _ _ (by omega), c0 _ _ (fun e => absurd (Prod.mk.inj e).1 (by omega)), b5 _ _ (Or.inr (by omega))]
  obtain ⟨d1, d2, d3, d4⟩ := h4 _ rfl
  generalize (if s.2.2 2 k = 0 then f_pair s3 k (55, k) (56, k) (s.2.1 10 0 k) else o_adt s3 (60, k) (57, k) (s.2.1 10 0 k)) = s4 at d1 d2 d3 d4
  clear h4 c60 c0 c2 b1 b2 b3 b4 b5
  have e59 : (o_add (o_cpy s4 (59, k) (59, p)) (59, k) (60, k)).1 59 k = nx_o (Ds s p) (Ps s v a k) := by
    unfold o_add o_cpy
    dsimp only
    rw [sV_at, sV_at, sV_k _ _ _ _ _ _ (by decide), d3, d4 _ _ (Or.inl hp)]
    rfl
  have e0 : ∀ x j, (x, j) ≠ (59, k) → (o_add (o_cpy s4 (59, k) (59, p)) (59, k) (60, k)).1 x j = s4.1 x j := fun x j h => by
    unfold o_add o_cpy
    dsimp only
    rw [sV_ne _ _ h, sV_ne _ _ h]
  generalize o_add (o_cpy s4 (59, k) (59, p)) (59, k) (60, k) = s5 at e59 e0
  rw [fout_r s5 k (51, k) 61 k (by decide) (by decide) (by decide)]
  have g61 : (sV s5 61 k (lin (s5.1 55 k) (s5.1 56 k) (s5.1 57 k) (s5.1 51 k))).1 61 k = nx_e (Ds s p) (Ps s v a k) := by
    rw [sV_at, e0 _ _ (by simp), e0 _ _ (by simp), e0 _ _ (by simp), e0 _ _ (by simp)]
    unfold nx_e
    rw [← d1, d4 51 k (Or.inr (by omega))]
    rfl
  have g0 : ∀ x j, (x, j) ≠ (61, k) → (sV s5 61 k (lin (s5.1 55 k) (s5.1 56 k) (s5.1 57 k) (s5.1 51 k))).1 x j = s5.1 x j := fun x j h => sV_ne _ _ h
  generalize sV s5 61 k (lin (s5.1 55 k) (s5.1 56 k) (s5.1 57 k) (s5.1 51 k)) = s6 at g61 g0
  have k62 : (o_add (o_cpy s6 (62, k) (59, k)) (62, k) (61, k)).1 62 k = v_add (s6.1 59 k) (s6.1 61 k) := by
    unfold o_add o_cpy
    dsimp only
    rw [sV_at, sV_at, sV_k _ _ _ _ _ _ (by decide)]
  have k0 : ∀ x j, (x, j) ≠ (62, k) → (o_add (o_cpy s6 (62, k) (59, k)) (62, k) (61, k)).1 x j = s6.1 x j := fun x j h => by
    unfold o_add o_cpy
    dsimp only
    rw [sV_ne _ _ h, sV_ne _ _ h]
  generalize o_add (o_cpy s6 (62, k) (59, k)) (62, k) (61, k) = s7 at k62 k0
  have up : ∀ x, x ≠ 62 → x ≠ 61 → x ≠ 59 → s7.1 x k = s4.1 x k := fun x h1 h2 h3 => by
    rw [k0 _ _ (fun e => h1 (Prod.mk.inj e).1), g0 _ _ (fun e => h2 (Prod.mk.inj e).1), e0 _ _ (fun e => h3 (Prod.mk.inj e).1)]
  refine ⟨?_, ?_, ?_, ?_, ?_, ?_, fun x j h => ?_⟩
  · rw [up 55 (by decide) (by decide) (by decide), up 56 (by decide) (by decide) (by decide), up 57 (by decide) (by decide) (by decide), d1]
  · rw [up 57 (by decide) (by decide) (by decide), d2]
  · rw [k0 _ _ (by simp), g0 _ _ (by simp), e59]
  · rw [up 60 (by decide) (by decide) (by decide), d3]
  · rw [k0 _ _ (by simp), g61]
  · rw [k62, k0 _ _ (by simp), k0 _ _ (by simp)]
  · rcases h with h | h
    · rw [k0 _ _ (fun e => h (Prod.mk.inj e).2), g0 _ _ (fun e => h (Prod.mk.inj e).2), e0 _ _ (fun e => h (Prod.mk.inj e).2), d4 _ _ (Or.inl h)]
    · rw [k0 _ _ (fun e => absurd (Prod.mk.inj e).1 (by omega)), g0 _ _ (fun e => absurd (Prod.mk.inj e).1 (by omega)), e0 _ _ (fun e => absurd (Prod.mk.inj e).1 (by omega)), d4 _ _ (Or.inr (by omega))]
/-- the acceleration at an arm, in one view -/
theorem acc_r (σ : SS) (k x i r j : Nat) (hx : x ≠ 68) (hr : r ≠ 68) (hr2 : (65, k) ≠ (r, j)) (hr3 : (64, k) ≠ (r, j)) (hr4 : (63, k) ≠ (r, j)) (hr5 : (x, i) ≠ (r, j)) : (b_acc σ k (x, i) (r, j)).1 r j = acc (σ.1 65 k) (σ.1 64 k) (σ.1 63 k) (σ.1 x i) ∧ (b_acc σ k (x, i) (r, j)).2 = σ.2 ∧ ∀ y m, (y, m) ≠ (r, j) → (y, m) ≠ (68, k) → (b_acc σ k (x, i) (r, j)).1 y m = σ.1 y m := by
  unfold b_acc o_cpy o_crs o_add
  dsimp only
  refine ⟨?_, rfl, fun y m h1 h2 => ?_⟩
  · simp only [sV_at, sV_k _ _ _ _ _ _ hr, sV_k _ _ _ _ _ _ (Ne.symm hr), sV_k _ _ _ _ _ _ hx, sV_ne _ _ hr3, sV_ne _ _ hr4, sV_ne _ _ hr5, sV_k _ _ _ _ _ _ (show 64 ≠ 68 by decide), sV_k _ _ _ _ _ _ (show 63 ≠ 68 by decide)]
    rfl
  · rw [sV_ne _ _ h1, sV_ne _ _ h2, sV_ne _ _ h2, sV_ne _ _ h1, sV_ne _ _ h2, sV_ne _ _ h1]
/-- move, in one view -/
theorem mov_e (s : SS) (k p : Nat) (v a : ZF) (hp : p ≠ k) (hu : s.1 57 k = nx_u (Ds s p) (Ps s v a k)) (hs : s.1 60 k = nx_s (Ds s p) (Ps s v a k)) : (let u := b_mov s k p v a
    u.1 63 k = nx_w (Ds s p) (Ps s v a k) ∧ u.1 64 k = nx_b (Ds s p) (Ps s v a k) ∧ u.1 65 k = nx_A (Ds s p) (Ps s v a k) ∧ ∀ x j, x ≠ 68 → (j ≠ k ∨ x < 63 ∨ 65 < x) → u.1 x j = s.1 x j) := by
  have hp' : k ≠ p := fun h => hp h.symm
  have q : ∀ {x y : Nat}, (x, p) ≠ (y, k) := fun {x y} h => hp (Prod.mk.inj h).2
  unfold b_mov
  dsimp only
  have hs0 : ∀ σ : SS, σ = o_cpy (o_cpy s (63, k) (63, p)) (64, k) (64, p) → σ.1 65 p = s.1 65 p ∧ σ.1 64 p = s.1 64 p ∧ σ.1 63 p = s.1 63 p ∧ σ.1 60 k = s.1 60 k ∧ σ.1 63 k = s.1 63 p ∧ σ.1 64 k = s.1 64 p ∧ σ.2 = s.2 ∧ ∀ x j, (j ≠ k ∨ (x ≠ 63 ∧ x ≠ 64)) → σ.1 x j = s.1 x j := by
    intro σ h
    subst h
    unfold o_cpy
    dsimp only
    simp (disch := first | decide | assumption) only [sV_at, sV_k, sV_i, true_and]
    refine ⟨rfl, fun x j h => ?_⟩
    rcases h with h | h
    · rw [sV_i _ _ _ _ _ _ h, sV_i _ _ _ _ _ _ h]
    · rw [sV_k _ _ _ _ _ _ h.2, sV_k _ _ _ _ _ _ h.1]
  obtain ⟨c1, c2, c3, c4, c5, c6, c7, c8⟩ := hs0 _ rfl
  generalize o_cpy (o_cpy s (63, k) (63, p)) (64, k) (64, p) = s1 at c1 c2 c3 c4 c5 c6 c7 c8
  obtain ⟨d1, d2, d3⟩ := acc_r s1 p 60 k 65 k (by decide) (by decide) q q q (by simp)
  rw [c1, c2, c3, c4] at d1
  generalize b_acc s1 p (60, k) (65, k) = s2 at d1 d2 d3
  have e63p : s2.1 63 p = s.1 63 p := by rw [d3 _ _ q (by simp), c3]
  have e57 : s2.1 57 k = s.1 57 k := by rw [d3 _ _ (by simp) (by simp), c8 _ _ (Or.inr ⟨by decide, by decide⟩)]
  have e63 : s2.1 63 k = s.1 63 p := by rw [d3 _ _ (by simp) (by simp), c5]
  have e64 : s2.1 64 k = s.1 64 p := by rw [d3 _ _ (by simp) (by simp), c6]
  have f2 : (o_sca (o_crs s2 (68, k) (63, p) (57, k)) (68, k) v).2.2 2 k = s.2.2 2 k := by
    show s2.2.2 2 k = _
    rw [d2, c7]
  have g1 : ∀ x j, (x, j) ≠ (68, k) → (o_sca (o_crs s2 (68, k) (63, p) (57, k)) (68, k) v).1 x j = s2.1 x j := fun x j h => by
    unfold o_sca o_crs
    dsimp only
    rw [sV_ne _ _ h, sV_ne _ _ h]
  have g2 : (o_sca (o_crs s2 (68, k) (63, p) (57, k)) (68, k) v).1 68 k = nx_c (Ds s p) (Ps s v a k) := by
    unfold o_sca o_crs
    dsimp only
    rw [sV_at, sV_at, e63p, e57, hu]
    rfl
  rw [f2]
  generalize o_sca (o_crs s2 (68, k) (63, p) (57, k)) (68, k) v = s3 at g1 g2 f2
  have hP1 : (Ps s v a k).2.1 = decide (s.2.2 2 k = 0) := rfl
  unfold nx_w nx_b nx_A
  rw [hP1]
  by_cases h0 : s.2.2 2 k = 0
  · rw [decide_eq_true h0, if_pos h0]
    dsimp only [cond]
    unfold o_add o_adt
    dsimp only
    simp (disch := decide) only [sV_at, sV_k]
    rw [g1 63 k (by simp), g1 57 k (by simp), g1 64 k (by simp), g1 65 k (by simp), g2, e63, e64, e57, d1, hu, hs]
    refine ⟨rfl, rfl, rfl, fun x j hx h => ?_⟩
    rcases h with h | h
    · rw [sV_i _ _ _ _ _ _ h, sV_i _ _ _ _ _ _ h, sV_i _ _ _ _ _ _ h, g1 _ _ (fun e => hx (Prod.mk.inj e).1), d3 _ _ (fun e => h (Prod.mk.inj e).2) (fun e => hx (Prod.mk.inj e).1), c8 _ _ (Or.inl h)]
    · rw [sV_k _ _ _ _ _ _ (by omega), sV_k _ _ _ _ _ _ (by omega), sV_k _ _ _ _ _ _ (by omega), g1 _ _ (fun e => hx (Prod.mk.inj e).1), d3 _ _ (fun e => absurd (Prod.mk.inj e).1 (by omega)) (fun e => hx (Prod.mk.inj e).1), c8 _ _ (Or.inr ⟨by omega, by omega⟩)]
  · rw [decide_eq_false h0, if_neg h0]
    dsimp only [cond]
    unfold o_adt
    dsimp only
    simp (disch := decide) only [sV_at, sV_k]
    rw [g1 63 k (by simp), g1 57 k (by simp), g1 64 k (by simp), g1 65 k (by simp), g2, e63, e64, e57, d1, hu, hs]
    refine ⟨rfl, rfl, rfl, fun x j hx h => ?_⟩
    rcases h with h | h
    · rw [sV_i _ _ _ _ _ _ h, sV_i _ _ _ _ _ _ h, g1 _ _ (fun e => hx (Prod.mk.inj e).1), d3 _ _ (fun e => h (Prod.mk.inj e).2) (fun e => hx (Prod.mk.inj e).1), c8 _ _ (Or.inl h)]
    · rw [sV_k _ _ _ _ _ _ (by omega), sV_k _ _ _ _ _ _ (by omega), g1 _ _ (fun e => hx (Prod.mk.inj e).1), d3 _ _ (fun e => absurd (Prod.mk.inj e).1 (by omega)) (fun e => hx (Prod.mk.inj e).1), c8 _ _ (Or.inr ⟨by omega, by omega⟩)]
