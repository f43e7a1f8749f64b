/-! The class's passes up and down, and the torques -/
theorem StOK_cg {s s' : SS} {k p : Nat} (hP : ∀ v a, Ps s' v a k = Ps s v a k) (h : ∀ x j, x < 63 → s'.1 x j = s.1 x j) (hS : StOK s k p) : StOK s' k p := by
  intro v a
  have hs := hS v a
  rw [hP]
  unfold nx_e nx_s nx_o nx_fr nx_u Ds at hs ⊢
  dsimp only at hs ⊢
  rw [h 55 k (by decide), h 56 k (by decide), h 57 k (by decide), h 59 k (by decide), h 60 k (by decide), h 61 k (by decide), h 62 k (by decide), h 55 p (by decide), h 56 p (by decide), h 57 p (by decide), h 59 p (by decide)]
  exact hs
/-- the up pass: every body by the rules -/
theorem up_rec (u9 v9 : Nat × Nat) (s : SS) (hI : CI s) (hS : ∀ k, 1 ≤ k → k ≤ nn s → StOK s k (pa s k)) :
    (∀ x j, x ≠ 68 → (j = 0 ∨ x < 63 ∨ 68 < x) → (upf (n_up u9 v9) s (nn s)).1 x j = s.1 x j) ∧ (upf (n_up u9 v9) s (nn s)).2 = s.2 ∧ ∀ k, 1 ≤ k → k ≤ nn s → Ds (upf (n_up u9 v9) s (nn s)) k = nxt (Ds (upf (n_up u9 v9) s (nn s)) (pa s k)) (Ps s (s.2.1 u9.1 u9.2 k) (s.2.1 v9.1 v9.2 k) k) := by
  have h2 : ∀ k, (upf (n_up u9 v9) s k).2 = s.2 := fun k => upf_2 (f := n_up u9 v9) (fun s k => n_up_2 u9 v9 s k) s k
  have hpa : ∀ k j, pa (upf (n_up u9 v9) s k) j = pa s j := fun k j => pa_of (congrArg Prod.snd (h2 k)) j
  have hpk : ∀ k, k < nn s → pa s (k + 1) < k + 1 := fun k hk => (hI.2.2 (k + 1) (by omega) (by omega)).2
  have key : ∀ k, k ≤ nn s → (∀ x j, x ≠ 68 → (j = 0 ∨ k < j ∨ x < 63 ∨ 68 < x) → (upf (n_up u9 v9) s k).1 x j = s.1 x j) := by
    intro k
    induction k with
    | zero => intro _ x j _ _; rfl
    | succ k ih =>
      intro hk x j hx h
      have ihk := ih (by omega)
      have hst : StOK (upf (n_up u9 v9) s k) (k + 1) (pa s (k + 1)) := StOK_cg (fun v a => Ps_cg v a (h2 k) (fun x hx => ihk x (k + 1) (by omega) (by omega))) (fun x j hx => ihk x j (by omega) (by omega)) (hS (k + 1) (by omega) hk)
      have hp := hpk k (by omega)
      exact ((nup_e u9 v9 (upf (n_up u9 v9) s k) (k + 1) (pa s (k + 1)) (by omega) (hpa k _) hst).2 x j hx (by omega)).trans (ihk x j hx (by omega))
  have hstk : ∀ k, k < nn s → StOK (upf (n_up u9 v9) s k) (k + 1) (pa s (k + 1)) := fun k hk =>
    StOK_cg (fun v a => Ps_cg v a (h2 k) (fun x hx => key k (by omega) x (k + 1) (by omega) (by omega))) (fun x j hx => key k (by omega) x j (by omega) (by omega)) (hS (k + 1) (by omega) (by omega))
  have stepL : ∀ k, k < nn s → ∀ x j, x ≠ 68 → (j ≠ k + 1 ∨ x < 63 ∨ 68 < x) → (upf (n_up u9 v9) s (k + 1)).1 x j = (upf (n_up u9 v9) s k).1 x j := fun k hk => (nup_e u9 v9 (upf (n_up u9 v9) s k) (k + 1) (pa s (k + 1)) (by have := hpk k hk; omega) (hpa k _) (hstk k hk)).2
  have stepD : ∀ k, k < nn s → Ds (upf (n_up u9 v9) s (k + 1)) (k + 1) = nxt (Ds (upf (n_up u9 v9) s k) (pa s (k + 1))) (Ps (upf (n_up u9 v9) s k) ((upf (n_up u9 v9) s k).2.1 u9.1 u9.2 (k + 1)) ((upf (n_up u9 v9) s k).2.1 v9.1 v9.2 (k + 1)) (k + 1)) := fun k hk => (nup_e u9 v9 (upf (n_up u9 v9) s k) (k + 1) (pa s (k + 1)) (by have := hpk k hk; omega) (hpa k _) (hstk k hk)).1
  clear hstk
  have later : ∀ d k, k + d ≤ nn s → ∀ x j, x ≠ 68 → j ≤ k → (upf (n_up u9 v9) s (k + d)).1 x j = (upf (n_up u9 v9) s k).1 x j := by
    intro d
    induction d with
    | zero => intro k _ x j _ _; rw [Nat.add_zero]
    | succ d ih =>
      intro k hk x j hx h
      rw [← Nat.add_assoc, stepL (k + d) (by omega) x j hx (Or.inl (by omega))]
      exact ih k (by omega) x j hx h
  refine ⟨fun x j hx h => key (nn s) (Nat.le_refl _) x j hx (by omega), h2 _, fun k h1 hk => ?_⟩
  obtain ⟨k, rfl⟩ : ∃ j, k = j + 1 := ⟨k - 1, by omega⟩
  have hp := hpk k (by omega)
  have e1 : Ds (upf (n_up u9 v9) s (nn s)) (k + 1) = Ds (upf (n_up u9 v9) s (k + 1)) (k + 1) := Ds_cg (fun x hx => by
    have := later (nn s - (k + 1)) (k + 1) (by omega) x (k + 1) hx (Nat.le_refl _)
    rw [show k + 1 + (nn s - (k + 1)) = nn s by omega] at this
    exact this)
  have e2 : Ds (upf (n_up u9 v9) s (nn s)) (pa s (k + 1)) = Ds (upf (n_up u9 v9) s k) (pa s (k + 1)) := Ds_cg (fun x hx => by
    have := later (nn s - k) k (by omega) x (pa s (k + 1)) hx (by omega)
    rw [show k + (nn s - k) = nn s by omega] at this
    exact this)
  rw [e1, e2]
  rw [stepD k (by omega), h2 k]
  rw [Ps_cg _ _ (h2 k) (fun x hx => key k (by omega) x (k + 1) (by omega) (by omega))]
/-! sums over the bodies that a test picks -/
def vsum (P : Nat → Bool) (f : Nat → V3) : Nat → V3
  | 0 => (0, 0, 0)
  | i + 1 => v_add (vsum P f i) (bif P (i + 1) then f (i + 1) else (0, 0, 0))
def zsum (P : Nat → Bool) (f : Nat → ZF) : Nat → ZF
  | 0 => 0
  | i + 1 => zsum P f i + (bif P (i + 1) then f (i + 1) else 0)
theorem dot_sum (u : V3) (P : Nat → Bool) (f : Nat → V3) : ∀ n, v_dot u (vsum P f n) = zsum P (fun i => v_dot u (f i)) n
  | 0 => by show v_dot u (0, 0, 0) = 0; unfold v_dot; dsimp only; grind
  | n + 1 => by
    unfold vsum zsum
    rw [← dot_sum u P f n]
    generalize vsum P f n = a
    cases P (n + 1)
    · show v_dot u (v_add a (0, 0, 0)) = v_dot u a + 0
      unfold v_dot v_add
      dsimp only
      grind
    · show v_dot u (v_add a (f (n + 1))) = v_dot u a + v_dot u (f (n + 1))
      unfold v_dot v_add
      dsimp only
      grind
theorem crs_sum (u : V3) (P : Nat → Bool) (f : Nat → V3) : ∀ n, v_crs u (vsum P f n) = vsum P (fun i => v_crs u (f i)) n
  | 0 => by
    show v_crs u (0, 0, 0) = (0, 0, 0)
    unfold v_crs
    refine v3_ext ?_ ?_ ?_ <;> (dsimp only; grind)
  | n + 1 => by
    unfold vsum
    rw [← crs_sum u P f n]
    generalize vsum P f n = a
    cases P (n + 1)
    · show v_crs u (v_add a (0, 0, 0)) = v_add (v_crs u a) (0, 0, 0)
      unfold v_crs v_add
      refine v3_ext ?_ ?_ ?_ <;> (dsimp only; grind)
    · show v_crs u (v_add a (f (n + 1))) = v_add (v_crs u a) (v_crs u (f (n + 1)))
      unfold v_crs v_add
      refine v3_ext ?_ ?_ ?_ <;> (dsimp only; grind)
theorem zsum_sub (P : Nat → Bool) (f g : Nat → ZF) : ∀ n, zsum P f n - zsum P g n = zsum P (fun i => f i - g i) n
  | 0 => by show (0 : ZF) - 0 = 0; grind
  | n + 1 => by
    unfold zsum
    rw [← zsum_sub P f g n]
    cases P (n + 1)
    · show zsum P f n + 0 - (zsum P g n + 0) = zsum P f n - zsum P g n + 0
      grind
    · show zsum P f n + f (n + 1) - (zsum P g n + g (n + 1)) = zsum P f n - zsum P g n + (f (n + 1) - g (n + 1))
      grind
theorem zsum_cg {P Q : Nat → Bool} {f g : Nat → ZF} : ∀ n, (∀ i, 1 ≤ i → i ≤ n → P i = Q i) → (∀ i, 1 ≤ i → i ≤ n → P i = true → f i = g i) → zsum P f n = zsum Q g n
  | 0, _, _ => rfl
  | n + 1, h, h' => by
    unfold zsum
    rw [zsum_cg n (fun i a b => h i a (by omega)) (fun i a b => h' i a (by omega)), ← h (n + 1) (by omega) (by omega)]
    cases hp : P (n + 1) with
    | false => rfl
    | true => rw [h' (n + 1) (by omega) (by omega) hp]
theorem vsum_one (f : Nat → V3) (j : Nat) : ∀ n, vsum (fun i => Nat.beq i j) f n = if 1 ≤ j ∧ j ≤ n then f j else (0, 0, 0)
  | 0 => by rw [if_neg (by omega)]; rfl
  | n + 1 => by
    unfold vsum
    rw [vsum_one f j n]
    by_cases h : n + 1 = j
    · subst h
      rw [if_neg (by omega), if_pos (by omega), Nat.beq_refl]
      show v_add (0, 0, 0) (f (n + 1)) = f (n + 1)
      unfold v_add
      refine v3_ext ?_ ?_ ?_ <;> (dsimp only; grind)
    · have hb : Nat.beq (n + 1) j = false := by
        cases hq : Nat.beq (n + 1) j with
        | false => rfl
        | true => exact absurd (Nat.eq_of_beq_eq_true hq) h
      rw [hb]
      show v_add _ (0, 0, 0) = _
      by_cases h2 : 1 ≤ j ∧ j ≤ n
      · rw [if_pos h2, if_pos (by omega)]
        unfold v_add
        refine v3_ext ?_ ?_ ?_ <;> (dsimp only; grind)
      · rw [if_neg h2, if_neg (by omega)]
        unfold v_add
        refine v3_ext ?_ ?_ ?_ <;> (dsimp only; grind)
theorem vsum_or (P Q R : Nat → Bool) (f : Nat → V3) (h : ∀ i, (R i = (P i || Q i)) ∧ (P i && Q i) = false) : ∀ n, vsum R f n = v_add (vsum P f n) (vsum Q f n)
  | 0 => by
    show ((0, 0, 0) : V3) = v_add (0, 0, 0) (0, 0, 0)
    unfold v_add
    refine v3_ext ?_ ?_ ?_ <;> (dsimp only; grind)
  | n + 1 => by
    unfold vsum
    rw [vsum_or P Q R f h n, (h (n + 1)).1]
    have h2 := (h (n + 1)).2
    generalize vsum P f n = a
    generalize vsum Q f n = b
    generalize f (n + 1) = c
    cases hp : P (n + 1) <;> cases hq : Q (n + 1) <;> rw [hp, hq] at h2
    · show v_add (v_add a b) (0, 0, 0) = v_add (v_add a (0, 0, 0)) (v_add b (0, 0, 0))
      unfold v_add
      refine v3_ext ?_ ?_ ?_ <;> (dsimp only; grind)
    · show v_add (v_add a b) c = v_add (v_add a (0, 0, 0)) (v_add b c)
      unfold v_add
      refine v3_ext ?_ ?_ ?_ <;> (dsimp only; grind)
    · show v_add (v_add a b) c = v_add (v_add a c) (v_add b (0, 0, 0))
      unfold v_add
      refine v3_ext ?_ ?_ ?_ <;> (dsimp only; grind)
    · cases h2
theorem vsum_none (P : Nat → Bool) (f : Nat → V3) (h : ∀ i, P i = false) : ∀ n, vsum P f n = (0, 0, 0)
  | 0 => rfl
  | n + 1 => by
    unfold vsum
    rw [vsum_none P f h n, h]
    show v_add (0, 0, 0) (0, 0, 0) = (0, 0, 0)
    unfold v_add
    refine v3_ext ?_ ?_ ?_ <;> (dsimp only; grind)
/-! climbing -/
def cbp (par : Nat → Nat) (j : Nat) : Nat → Nat → Nat
  | 0, k => k
  | n + 1, k => if j < k then cbp par j n (par k) else k
theorem clb_p (σ : SS) (j : Nat) : ∀ n k, clb σ j n k = cbp (mp σ) j n k
  | 0, _ => rfl
  | n + 1, k => by
    unfold clb cbp
    rw [clb_p σ j n]
theorem cbp_le {par : Nat → Nat} {N j : Nat} (hp : ∀ k, 1 ≤ k → k ≤ N → par k < k) : ∀ n k, k ≤ n → k ≤ N → cbp par j n k ≤ j ∨ cbp par j n k = 0
  | 0, k, h, _ => Or.inr (by show k = 0; omega)
  | n + 1, k, h, hN => by
    unfold cbp
    by_cases hj : j < k
    · rw [if_pos hj]
      have := hp k (by omega) hN
      exact cbp_le hp n (par k) (by omega) (by omega)
    · rw [if_neg hj]
      omega
theorem cbp_self {par : Nat → Nat} {j : Nat} : ∀ n k, k ≤ j → cbp par j n k = k
  | 0, _, _ => rfl
  | n + 1, k, h => by
    unfold cbp
    rw [if_neg (by omega)]
theorem cbp_step {par : Nat → Nat} {N j : Nat} (hp : ∀ k, 1 ≤ k → k ≤ N → par k < k) (hj1 : 1 ≤ j + 1) (hjN : j + 1 ≤ N) : ∀ n k, k ≤ n → k ≤ N → cbp par j n k = if cbp par (j + 1) n k = j + 1 then par (j + 1) else cbp par (j + 1) n k
  | 0, k, h, _ => by
    show k = if k = j + 1 then _ else k
    rw [if_neg (by omega)]
  | n + 1, k, h, hN => by
    unfold cbp
    have hpj := hp (j + 1) hj1 hjN
    by_cases h1 : j + 1 < k
    · have hpk := hp k (by omega) hN
      rw [if_pos (show j < k by omega), if_pos h1]
      exact cbp_step hp hj1 hjN n (par k) (by omega) (by omega)
    · rw [if_neg h1]
      by_cases h2 : k = j + 1
      · subst h2
        rw [if_pos (show j < j + 1 by omega), if_pos rfl]
        exact cbp_self n _ (by omega)
      · rw [if_neg (show ¬ j < k by omega), if_neg h2]
