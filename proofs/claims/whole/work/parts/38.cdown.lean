/-! The down pass: each joint's torque is the sum over what hangs on it -/
theorem vsum_orb {N : Nat} (P Q R : Nat → Bool) (f : Nat → V3) (h : ∀ i, 1 ≤ i → i ≤ N → (R i = (P i || Q i)) ∧ (P i && Q i) = false) (n : Nat) (hn : n ≤ N) : vsum R f n = v_add (vsum P f n) (vsum Q f n) := by
  induction n with
  | zero =>
    show ((0, 0, 0) : V3) = v_add (0, 0, 0) (0, 0, 0)
    unfold v_add
    refine v3_ext ?_ ?_ ?_ <;> (dsimp only; grind)
  | succ n ih =>
    unfold vsum
    rw [ih (by omega), (h (n + 1) (by omega) hn).1]
    have h2 := (h (n + 1) (by omega) hn).2
    generalize vsum P f n = a
    generalize vsum Q f n = b
    generalize f (n + 1) = c
    cases hp : P (n + 1) <;> cases hq : Q (n + 1) <;> rw [hp, hq] at h2
    · show v_add (v_add a b) (0, 0, 0) = v_add (v_add a (0, 0, 0)) (v_add b (0, 0, 0))
      unfold v_add
      refine v3_ext ?_ ?_ ?_ <;> (dsimp only; grind)
    · show v_add (v_add a b) c = v_add (v_add a (0, 0, 0)) (v_add b c)
      unfold v_add
      refine v3_ext ?_ ?_ ?_ <;> (dsimp only; grind)
    · show v_add (v_add a b) c = v_add (v_add a c) (v_add b (0, 0, 0))
      unfold v_add
      refine v3_ext ?_ ?_ ?_ <;> (dsimp only; grind)
    · cases h2
theorem vsum_cg {N : Nat} {P Q : Nat → Bool} (f : Nat → V3) (h : ∀ i, 1 ≤ i → i ≤ N → P i = Q i) (n : Nat) (hn : n ≤ N) : vsum P f n = vsum Q f n := by
  induction n with
  | zero => rfl
  | succ n ih =>
    unfold vsum
    rw [ih (by omega), h (n + 1) (by omega) hn]
def pk9 (par : Nat → Nat) (k j i : Nat) : Bool := Nat.beq (cbp par k i i) j
theorem beq_f {a b : Nat} (h : a ≠ b) : Nat.beq a b = false := by
  cases hq : Nat.beq a b with
  | false => rfl
  | true => exact absurd (Nat.eq_of_beq_eq_true hq) h
/-- what joint j needs, out of the sums -/
def dval (s : SS) (par : Nat → Nat) (n j : Nat) : ZF :=
  if s.2.2 2 j = 0 then v_dot (s.1 57 j) (vsum (pk9 par j j) (s.1 67) n) - v_dot (s.1 57 j) (v_crs (s.1 59 j) (vsum (pk9 par j j) (s.1 66) n)) else v_dot (s.1 57 j) (vsum (pk9 par j j) (s.1 66) n)
theorem dn_inv (s : SS) (hI : CI s) : ∀ (k : Nat) (t : SS), k ≤ nn s → t.2.2 = s.2.2 → (∀ x j, x < 66 → t.1 x j = s.1 x j) → (∀ j, 1 ≤ j → j ≤ k → t.1 66 j = vsum (pk9 (pa s) k j) (s.1 66) (nn s) ∧ t.1 67 j = vsum (pk9 (pa s) k j) (s.1 67) (nn s)) → (∀ j, k < j → j ≤ nn s → t.2.1 16 0 j = dval s (pa s) (nn s) j) → (∀ a b i, a ≠ 16 → t.2.1 a b i = s.2.1 a b i) →
    (∀ j, 1 ≤ j → j ≤ nn s → (dnf n_dn k t).2.1 16 0 j = dval s (pa s) (nn s) j) ∧ (∀ a b i, a ≠ 16 → (dnf n_dn k t).2.1 a b i = s.2.1 a b i) ∧ ∀ x j, x < 66 → (dnf n_dn k t).1 x j = s.1 x j := by
  have hp : ∀ k, 1 ≤ k → k ≤ nn s → pa s k < k := fun k h1 h2 => (hI.2.2 k h1 h2).2
  intro k
  induction k with
  | zero => intro t _ _ h1 _ h3 h4; exact ⟨fun j a b => h3 j (by omega) b, h4, h1⟩
  | succ k ih =>
    intro t hk h0 h1 h2 h3 h4
    have hpk := hp (k + 1) (by omega) hk
    have hpa : pa t (k + 1) = pa s (k + 1) := pa_of h0 _
    have hsl : t.2.2 2 (k + 1) = s.2.2 2 (k + 1) := by rw [h0]
    have hval : b_ntq t (k + 1) = dval s (pa s) (nn s) (k + 1) := by
      unfold b_ntq dval
      rw [hsl, h1 57 _ (by decide), h1 59 _ (by decide), (h2 (k + 1) (by omega) (Nat.le_refl _)).1, (h2 (k + 1) (by omega) (Nat.le_refl _)).2]
    have hn : ∀ x j, x ≠ 68 → (b_nst t (k + 1)).1 x j = t.1 x j := fun x j hx => by
      unfold b_nst
      split
      · exact sV_k _ _ _ _ _ _ hx
      · rfl
    show _ ∧ _
    have e : dnf n_dn (k + 1) t = dnf n_dn k (n_dn t (k + 1)) := rfl
    rw [e]
    have f66 : ∀ j, j ≠ pa s (k + 1) → (n_dn t (k + 1)).1 66 j = t.1 66 j := fun j hj => by
      unfold n_dn b_pas o_add
      rw [hpa]
      dsimp only
      rw [sV_k _ _ _ _ _ _ (by decide), sV_i _ _ _ _ _ _ hj]
      exact hn _ _ (by decide)
    have f67 : ∀ j, j ≠ pa s (k + 1) → (n_dn t (k + 1)).1 67 j = t.1 67 j := fun j hj => by
      unfold n_dn b_pas o_add
      rw [hpa]
      dsimp only
      rw [sV_i _ _ _ _ _ _ hj, sV_k _ _ _ _ _ _ (by decide)]
      exact hn _ _ (by decide)
    have g66 : (n_dn t (k + 1)).1 66 (pa s (k + 1)) = v_add (t.1 66 (pa s (k + 1))) (t.1 66 (k + 1)) := by
      unfold n_dn b_pas o_add
      rw [hpa]
      dsimp only
      rw [sV_k _ _ _ _ _ _ (by decide), sV_at]
      show v_add ((b_nst t (k + 1)).1 66 _) ((b_nst t (k + 1)).1 66 _) = _
      rw [hn _ _ (by decide), hn _ _ (by decide)]
    have g67 : (n_dn t (k + 1)).1 67 (pa s (k + 1)) = v_add (t.1 67 (pa s (k + 1))) (t.1 67 (k + 1)) := by
      unfold n_dn b_pas o_add
      rw [hpa]
      dsimp only
      rw [sV_at, sV_k _ _ _ _ _ _ (by decide), sV_k _ _ _ _ _ _ (by decide)]
      show v_add ((b_nst t (k + 1)).1 67 _) ((b_nst t (k + 1)).1 67 _) = _
      rw [hn _ _ (by decide), hn _ _ (by decide)]
    refine ih (n_dn t (k + 1)) (by omega) ((n_dn_I t (k + 1)).trans h0) ?_ ?_ ?_ ?_
    · intro x j hx
      unfold n_dn b_pas o_add
      dsimp only
      rw [sV_k _ _ _ _ _ _ (by omega), sV_k _ _ _ _ _ _ (by omega)]
      exact (hn x j (by omega)).trans (h1 x j hx)
    · intro j hj1 hj2
      have hstep : ∀ i, i ≤ nn s → cbp (pa s) k i i = if cbp (pa s) (k + 1) i i = k + 1 then pa s (k + 1) else cbp (pa s) (k + 1) i i := fun i hi => cbp_step hp (by omega) hk i i (Nat.le_refl _) hi
      by_cases hpj : j = pa s (k + 1)
      · have hor : ∀ i, 1 ≤ i → i ≤ nn s → (pk9 (pa s) k j i = (pk9 (pa s) (k + 1) j i || pk9 (pa s) (k + 1) (k + 1) i)) ∧ (pk9 (pa s) (k + 1) j i && pk9 (pa s) (k + 1) (k + 1) i) = false := fun i _ hi => by
          unfold pk9
          rw [hstep i hi]
          by_cases hc : cbp (pa s) (k + 1) i i = k + 1
          · rw [if_pos hc, hc, ← hpj, Nat.beq_refl, Nat.beq_refl, Bool.or_true, beq_f (show k + 1 ≠ j by omega)]
            exact ⟨rfl, rfl⟩
          · rw [if_neg hc, beq_f hc, Bool.or_false, Bool.and_false]
            exact ⟨rfl, rfl⟩
        rw [hpj, g66, g67, ← hpj, (h2 j hj1 (by omega)).1, (h2 j hj1 (by omega)).2, (h2 (k + 1) (by omega) (Nat.le_refl _)).1, (h2 (k + 1) (by omega) (Nat.le_refl _)).2]
        exact ⟨(vsum_orb _ _ _ _ hor (nn s) (Nat.le_refl _)).symm, (vsum_orb _ _ _ _ hor (nn s) (Nat.le_refl _)).symm⟩
      · have heq : ∀ i, 1 ≤ i → i ≤ nn s → pk9 (pa s) (k + 1) j i = pk9 (pa s) k j i := fun i _ hi => by
          unfold pk9
          rw [hstep i hi]
          by_cases hc : cbp (pa s) (k + 1) i i = k + 1
          · rw [if_pos hc, hc, beq_f (show k + 1 ≠ j by omega), beq_f (fun e => hpj e.symm)]
          · rw [if_neg hc]
        rw [f66 j hpj, f67 j hpj, (h2 j hj1 (by omega)).1, (h2 j hj1 (by omega)).2]
        exact ⟨vsum_cg _ heq (nn s) (Nat.le_refl _), vsum_cg _ heq (nn s) (Nat.le_refl _)⟩
    · intro j hj1 hj2
      show (sL (b_nst t (k + 1)) 16 0 (k + 1) (b_ntq t (k + 1))).2.1 16 0 j = _
      by_cases hjk : j = k + 1
      · rw [hjk, sL_at, hval]
      · rw [sL_n3 _ _ _ _ _ hjk, b_nst_2]
        exact h3 j (by omega) hj2
    · intro a b i ha
      show (sL (b_nst t (k + 1)) 16 0 (k + 1) (b_ntq t (k + 1))).2.1 a b i = _
      rw [sL_n1 _ _ _ _ _ ha, b_nst_2]
      exact h4 a b i ha
theorem pk9_self (par : Nat → Nat) {k i : Nat} (j : Nat) (h : i ≤ k) : pk9 par k j i = Nat.beq i j := by
  unfold pk9
  rw [cbp_self i i h]
/-- the down pass from the up pass's end -/
theorem dn_all (s : SS) (hI : CI s) : (∀ j, 1 ≤ j → j ≤ nn s → (dnf n_dn (nn s) s).2.1 16 0 j = dval s (pa s) (nn s) j) ∧ (∀ a b i, a ≠ 16 → (dnf n_dn (nn s) s).2.1 a b i = s.2.1 a b i) ∧ ∀ x j, x < 66 → (dnf n_dn (nn s) s).1 x j = s.1 x j := by
  refine dn_inv s hI (nn s) s (Nat.le_refl _) rfl (fun _ _ _ => rfl) (fun j h1 h2 => ?_) (fun j h1 h2 => by omega) (fun _ _ _ _ => rfl)
  have e : ∀ f : Nat → V3, vsum (pk9 (pa s) (nn s) j) f (nn s) = f j := fun f => by
    rw [vsum_cg (Q := fun i => Nat.beq i j) f (fun i _ hi => pk9_self (pa s) j hi) (nn s) (Nat.le_refl _), vsum_one, if_pos ⟨h1, h2⟩]
  exact ⟨(e _).symm, (e _).symm⟩
theorem zsum_none {P : Nat → Bool} (g : Nat → ZF) : ∀ n, (∀ i, 1 ≤ i → i ≤ n → P i = false) → zsum P g n = 0
  | 0, _ => rfl
  | n + 1, h => by
    unfold zsum
    rw [zsum_none g n (fun i a b => h i a (by omega)), h (n + 1) (by omega) (Nat.le_refl _)]
    show (0 : ZF) + 0 = 0
    grind
theorem tsum_z (m : SS) (j : Nat) (hj : 1 ≤ j) : ∀ r, tsum m j r = zsum (fun i => hng m i j) (fun i => tqc m j i) (j - 1 + r)
  | 0 => by
    rw [zsum_none]
    · rfl
    · intro i h1 h2
      show Nat.beq (clb m j i i) j = false
      rw [clb_p, cbp_self i i (by omega)]
      exact beq_f (by omega)
  | r + 1 => by
    show tsum m j r + _ = zsum _ _ (j - 1 + r + 1)
    unfold zsum
    rw [← tsum_z m j hj r, show j - 1 + r + 1 = j + r by omega]
theorem mom_e (m a3 a5 a6 : V3) : v_adt (v_crs (v_sub m a3) a5) (v_sub a6 (v_crs m a5)) 1 = v_sub a6 (v_crs a3 a5) := by
  unfold v_adt v_crs v_sub
  refine v3_ext ?_ ?_ ?_ <;> (dsimp only; grind)
theorem dot_sub (u a b : V3) : v_dot u (v_sub a b) = v_dot u a - v_dot u b := by
  unfold v_dot v_sub
  dsimp only
  grind
theorem cbp_cg {f g : Nat → Nat} {n j : Nat} (hp : ∀ k, 1 ≤ k → k ≤ n → g k < k) (h : ∀ k, 1 ≤ k → k ≤ n → f k = g k) : ∀ r k, k ≤ r → k ≤ n → cbp f j r k = cbp g j r k := by
  intro r
  induction r with
  | zero => intro k _ _; rfl
  | succ r ih =>
    intro k hk hkn
    unfold cbp
    by_cases hjk : j < k
    · have := hp k (by omega) hkn
      rw [if_pos hjk, if_pos hjk, h k (by omega) hkn, ih _ (by omega) (by omega)]
    · rw [if_neg hjk, if_neg hjk]
theorem Ds_m {s m : SS} {k : Nat} (h : Ds s k = Dm m k) : s.1 59 k = mO m k ∧ s.1 57 k = mU m k ∧ s.1 61 k = mA m k ∧ s.1 66 k = mF m k ∧ v_sub (s.1 67 k) (v_crs (s.1 62 k) (s.1 66 k)) = mN m k := by
  unfold Ds Dm at h
  simp only [Prod.mk.injEq] at h
  obtain ⟨-, ⟨h1, h2, h3⟩, -, h4, h5⟩ := h
  exact ⟨h1, h2, h3, h4, h5⟩
theorem tqc_t {s m : SS} {j i : Nat} (h0 : s.2.2 2 j = 0) (hsl : m.2.2 8 j = s.2.2 2 j) (hj : Ds s j = Dm m j) (hi : Ds s i = Dm m i) (h62 : s.1 62 i = v_add (s.1 59 i) (s.1 61 i)) : v_dot (s.1 57 j) (s.1 67 i) - v_dot (s.1 57 j) (v_crs (s.1 59 j) (s.1 66 i)) = tqc m j i := by
  obtain ⟨oj, uj, -, -, -⟩ := Ds_m hj
  obtain ⟨oi, ui, ai, fi', ni⟩ := Ds_m hi
  unfold tqc
  rw [if_pos (hsl.trans h0), ← oj, ← uj, ← oi, ← ai, ← fi', ← ni, h62, mom_e, dot_sub]
theorem tqc_s {s m : SS} {j i : Nat} (h0 : ¬ s.2.2 2 j = 0) (hsl : m.2.2 8 j = s.2.2 2 j) (hj : Ds s j = Dm m j) (hi : Ds s i = Dm m i) : v_dot (s.1 57 j) (s.1 66 i) = tqc m j i := by
  obtain ⟨oj, uj, -, -, -⟩ := Ds_m hj
  obtain ⟨oi, ui, ai, fi', ni⟩ := Ds_m hi
  unfold tqc
  rw [if_neg (fun q => h0 (hsl.symm.trans q)), ← uj, ← fi']
/-- the class's torque is the reference's, where the bodies are -/
theorem dval_tq (s m : SS) (n : Nat) (par : Nat → Nat) (hp : ∀ k, 1 ≤ k → k ≤ n → par k < k) (hn : mn m = n) (hpar : ∀ k, 1 ≤ k → k ≤ n → mp m k = par k) (hsl : ∀ k, 1 ≤ k → k ≤ n → m.2.2 8 k = s.2.2 2 k) (hD : ∀ k, 1 ≤ k → k ≤ n → Ds s k = Dm m k) (h62 : ∀ k, 1 ≤ k → k ≤ n → s.1 62 k = v_add (s.1 59 k) (s.1 61 k)) : ∀ j, 1 ≤ j → j ≤ n → dval s par n j = tq m j := by
  intro j h1 h2
  have hP : ∀ i, 1 ≤ i → i ≤ n → pk9 par j j i = hng m i j := fun i _ hi => by
    unfold pk9 hng
    rw [clb_p, cbp_cg hp hpar i i (Nat.le_refl _) hi]
  have hT : tq m j = zsum (fun i => hng m i j) (fun i => tqc m j i) n := by
    unfold tq
    rw [tsum_z m j h1, hn, show j - 1 + (n + 1 - j) = n by omega]
  rw [hT]
  unfold dval
  by_cases h0 : s.2.2 2 j = 0
  · rw [if_pos h0, crs_sum, dot_sum, dot_sum, zsum_sub]
    exact zsum_cg n hP (fun i q1 q2 _ => tqc_t h0 (hsl j h1 h2) (hD j h1 h2) (hD i q1 q2) (h62 i q1 q2))
  · rw [if_neg h0, dot_sum]
    exact zsum_cg n hP (fun i q1 q2 _ => tqc_s h0 (hsl j h1 h2) (hD j h1 h2) (hD i q1 q2))
