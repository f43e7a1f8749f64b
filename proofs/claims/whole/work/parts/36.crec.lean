/-! The class's bodies follow the same rules -/
theorem ine_r (σ : SS) (k x r : Nat) (h : 57 < r) : b_ine σ k (x, k) (r, k) = sV σ r k (jx (σ.1 55 k, σ.1 56 k, σ.1 57 k) (σ.1 52 k, σ.1 53 k, σ.1 54 k) (σ.1 x k)) := by
  unfold b_ine
  rw [fout_r _ _ _ _ _ (by omega) (by omega) (by omega)]
  unfold i_app f_inw
  dsimp only
  rw [sV_sV, sV_sV, sV_at, sV_at, sV_k _ _ _ 55 _ _ (by omega), sV_k _ _ _ 55 _ _ (by omega), sV_k _ _ _ 56 _ _ (by omega), sV_k _ _ _ 56 _ _ (by omega), sV_k _ _ _ 57 _ _ (by omega), sV_k _ _ _ 57 _ _ (by omega), sV_k _ _ _ 52 _ _ (by omega), sV_k _ _ _ 53 _ _ (by omega), sV_k _ _ _ 54 _ _ (by omega)]
  rfl
theorem lod_c (s : SS) (k : Nat) : (let u := b_lod s k
    u.1 66 k = v_sca (acc (s.1 65 k) (s.1 64 k) (s.1 63 k) (s.1 61 k)) (s.2.1 2 k 1)
    ∧ u.1 67 k = v_add (v_add (jx (s.1 55 k, s.1 56 k, s.1 57 k) (s.1 52 k, s.1 53 k, s.1 54 k) (s.1 64 k)) (v_crs (s.1 63 k) (jx (s.1 55 k, s.1 56 k, s.1 57 k) (s.1 52 k, s.1 53 k, s.1 54 k) (s.1 63 k)))) (v_crs (s.1 62 k) (u.1 66 k))
    ∧ u.2 = s.2 ∧ ∀ x j, x ≠ 68 → (j ≠ k ∨ x < 66 ∨ 67 < x) → u.1 x j = s.1 x j) := by
  unfold b_lod
  dsimp only
  obtain ⟨d1, d2, d3⟩ := acc_r s k 61 k 66 k (by decide) (by decide) (by simp) (by simp) (by simp) (by simp)
  generalize b_acc s k (61, k) (66, k) = s1 at d1 d2 d3
  have m1 : s1.2.1 2 k 1 = s.2.1 2 k 1 := by rw [d2]
  rw [m1]
  have a66 : (o_sca s1 (66, k) (s.2.1 2 k 1)).1 66 k = v_sca (acc (s.1 65 k) (s.1 64 k) (s.1 63 k) (s.1 61 k)) (s.2.1 2 k 1) := by
    unfold o_sca
    dsimp only
    rw [sV_at, d1]
  have a0 : ∀ x j, (x, j) ≠ (66, k) → x ≠ 68 → (o_sca s1 (66, k) (s.2.1 2 k 1)).1 x j = s.1 x j := fun x j h h' => by
    unfold o_sca
    dsimp only
    rw [sV_ne _ _ h, d3 _ _ h (fun e => h' (Prod.mk.inj e).1)]
  have a2 : (o_sca s1 (66, k) (s.2.1 2 k 1)).2 = s.2 := d2
  generalize o_sca s1 (66, k) (s.2.1 2 k 1) = s2 at a66 a0 a2
  have q : ∀ x, x ≠ 66 → x ≠ 68 → s2.1 x k = s.1 x k := fun x h1 h2 => a0 x k (fun e => h1 (Prod.mk.inj e).1) h2
  rw [ine_r s2 k 64 67 (by decide), q 55 (by decide) (by decide), q 56 (by decide) (by decide), q 57 (by decide) (by decide), q 52 (by decide) (by decide), q 53 (by decide) (by decide), q 54 (by decide) (by decide), q 64 (by decide) (by decide)]
  generalize hj : jx (s.1 55 k, s.1 56 k, s.1 57 k) (s.1 52 k, s.1 53 k, s.1 54 k) (s.1 64 k) = j1
  rw [ine_r _ _ _ _ (by decide)]
  simp (disch := decide) only [sV_k]
  rw [q 55 (by decide) (by decide), q 56 (by decide) (by decide), q 57 (by decide) (by decide), q 52 (by decide) (by decide), q 53 (by decide) (by decide), q 54 (by decide) (by decide), q 63 (by decide) (by decide)]
  generalize hj2 : jx (s.1 55 k, s.1 56 k, s.1 57 k) (s.1 52 k, s.1 53 k, s.1 54 k) (s.1 63 k) = j2
  unfold o_add o_crs
  dsimp only
  simp (disch := decide) only [sV_k, sV_at]
  rw [a66, q 63 (by decide) (by decide), q 62 (by decide) (by decide)]
  refine ⟨rfl, rfl, a2, fun x j hx h => ?_⟩
  have h68 : ∀ {y : Nat}, (x, j) ≠ (68, y) := fun e => hx (Prod.mk.inj e).1
  have h67 : (x, j) ≠ (67, k) := fun e => by
    have e1 := (Prod.mk.inj e).1
    have e2 := (Prod.mk.inj e).2
    omega
  have h66 : (x, j) ≠ (66, k) := fun e => by
    have e1 := (Prod.mk.inj e).1
    have e2 := (Prod.mk.inj e).2
    omega
  rw [sV_ne _ _ h67, sV_ne _ _ h68, sV_ne _ _ h67, sV_ne _ _ h68, sV_ne _ _ h68, sV_ne _ _ h67, a0 _ _ h66 hx]
theorem Ds_cg {s s' : SS} {i : Nat} (h : ∀ x, x ≠ 68 → s'.1 x i = s.1 x i) : Ds s' i = Ds s i := by
  unfold Ds
  rw [h 55 (by decide), h 56 (by decide), h 57 (by decide), h 59 (by decide), h 61 (by decide), h 62 (by decide), h 63 (by decide), h 64 (by decide), h 65 (by decide), h 66 (by decide), h 67 (by decide)]
theorem Ps_cg {s s' : SS} {k : Nat} (v a : ZF) (h2 : s'.2 = s.2) (h : ∀ x, x < 55 → s'.1 x k = s.1 x k) : Ps s' v a k = Ps s v a k := by
  unfold Ps
  rw [h2, h 50 (by decide), h 51 (by decide), h 52 (by decide), h 53 (by decide), h 54 (by decide)]
/-- a body stands where the rules put it -/
def StOK (s : SS) (k p : Nat) : Prop := ∀ v a, (s.1 55 k, s.1 56 k, s.1 57 k) = nx_fr (Ds s p) (Ps s v a k) ∧ s.1 57 k = nx_u (Ds s p) (Ps s v a k) ∧ s.1 59 k = nx_o (Ds s p) (Ps s v a k) ∧ s.1 60 k = nx_s (Ds s p) (Ps s v a k) ∧ s.1 61 k = nx_e (Ds s p) (Ps s v a k) ∧ s.1 62 k = v_add (s.1 59 k) (s.1 61 k)
theorem c_stf_l (s : SS) (k : Nat) (hp : pa s k ≠ k) : ∀ x j, (j ≠ k ∨ x < 55 ∨ 62 < x) → (c_stf s k).1 x j = s.1 x j := (std_e s k (pa s k) 0 0 hp).2.2.2.2.2.2
theorem std_rec (σ : SS) (hI : CI σ) : (∀ x j, (j = 0 ∨ x < 55 ∨ 62 < x) → (c_std σ).1 x j = σ.1 x j) ∧ ∀ k, 1 ≤ k → k ≤ nn σ → StOK (c_std σ) k (pa σ k) := by
  have h2 : ∀ k, (upf c_stf σ k).2 = σ.2 := fun k => upf_2 c_stf_2 σ k
  have hpa : ∀ k j, pa (upf c_stf σ k) j = pa σ j := fun k j => pa_of (congrArg Prod.snd (h2 k)) j
  have hpk : ∀ k, k < nn σ → pa σ (k + 1) < k + 1 := fun k hk => (hI.2.2 (k + 1) (by omega) (by omega)).2
  have hpn : ∀ k, k < nn σ → pa (upf c_stf σ k) (k + 1) ≠ k + 1 := fun k hk => by rw [hpa]; have := hpk k hk; omega
  have keep : ∀ k, k ≤ nn σ → ∀ x j, (j = 0 ∨ k < j ∨ x < 55 ∨ 62 < x) → (upf c_stf σ k).1 x j = σ.1 x j := by
    intro k
    induction k with
    | zero => intro _ x j _; rfl
    | succ k ih =>
      intro hk x j h
      exact (c_stf_l (upf c_stf σ k) (k + 1) (hpn k (by omega)) x j (by omega)).trans (ih (by omega) x j (by omega))
  have later : ∀ d k, k + d ≤ nn σ → ∀ x j, j ≤ k → (upf c_stf σ (k + d)).1 x j = (upf c_stf σ k).1 x j := by
    intro d
    induction d with
    | zero => intro k _ x j _; rfl
    | succ d ih =>
      intro k hk x j h
      exact (c_stf_l (upf c_stf σ (k + d)) (k + d + 1) (hpn (k + d) (by omega)) x j (Or.inl (by omega))).trans (ih k (by omega) x j h)
  refine ⟨fun x j h => keep (nn σ) (Nat.le_refl _) x j (by omega), fun k h1 hk v a => ?_⟩
  obtain ⟨k, rfl⟩ : ∃ j, k = j + 1 := ⟨k - 1, by omega⟩
  have hs := std_e (upf c_stf σ k) (k + 1) (pa (upf c_stf σ k) (k + 1)) v a (hpn k (by omega))
  dsimp only at hs
  have eu : b_std (upf c_stf σ k) (k + 1) (pa (upf c_stf σ k) (k + 1)) ((upf c_stf σ k).2.1 10 0 (k + 1)) = upf c_stf σ (k + 1) := rfl
  rw [eu, hpa] at hs
  have hp := hpk k (by omega)
  have fin : ∀ x j, j ≤ k + 1 → (c_std σ).1 x j = (upf c_stf σ (k + 1)).1 x j := fun x j hj => by
    have := later (nn σ - (k + 1)) (k + 1) (by omega) x j hj
    rw [show k + 1 + (nn σ - (k + 1)) = nn σ by omega] at this
    exact this
  have eD : Ds (c_std σ) (pa σ (k + 1)) = Ds (upf c_stf σ k) (pa σ (k + 1)) := Ds_cg (fun x _ => by
    have := later (nn σ - k) k (by omega) x (pa σ (k + 1)) (by omega)
    rw [show k + (nn σ - k) = nn σ by omega] at this
    exact this)
  have eP : Ps (c_std σ) v a (k + 1) = Ps (upf c_stf σ k) v a (k + 1) := Ps_cg v a ((c_std_2 σ).trans (h2 k).symm) (fun x hx => by
    rw [fin x _ (Nat.le_refl _)]
    exact c_stf_l (upf c_stf σ k) (k + 1) (hpn k (by omega)) x (k + 1) (Or.inr (Or.inl hx)))
  rw [eD, eP, fin _ _ (Nat.le_refl _), fin _ _ (Nat.le_refl _), fin _ _ (Nat.le_refl _), fin _ _ (Nat.le_refl _), fin _ _ (Nat.le_refl _), fin _ _ (Nat.le_refl _), fin _ _ (Nat.le_refl _)]
  exact ⟨hs.1, hs.2.1, hs.2.2.1, hs.2.2.2.1, hs.2.2.2.2.1, hs.2.2.2.2.2.1⟩
theorem v_sub_add (a b : V3) : v_sub (v_add a b) b = a := by
  unfold v_sub v_add
  refine v3_ext ?_ ?_ ?_ <;> (dsimp only; grind)
/-- one body of the up pass -/
theorem nup_e (u9 v9 : Nat × Nat) (s : SS) (k p : Nat) (hp : p ≠ k) (hpa : pa s k = p) (hS : StOK s k p) : Ds (n_up u9 v9 s k) k = nxt (Ds s p) (Ps s (s.2.1 u9.1 u9.2 k) (s.2.1 v9.1 v9.2 k) k) ∧ ∀ x j, x ≠ 68 → (j ≠ k ∨ x < 63 ∨ 68 < x) → (n_up u9 v9 s k).1 x j = s.1 x j := by
  unfold n_up
  rw [hpa]
  generalize s.2.1 u9.1 u9.2 k = v
  generalize s.2.1 v9.1 v9.2 k = a
  obtain ⟨h1, h2, h3, h4, h5, h6⟩ := hS v a
  obtain ⟨m1, m2, m3, m4⟩ := mov_e s k p v a hp h2 h4
  have m5 := b_mov_2 s k p v a
  generalize b_mov s k p v a = t at m1 m2 m3 m4 m5
  obtain ⟨l1, l2, l3, l4⟩ := lod_c t k
  generalize b_lod t k = u at l1 l2 l3 l4
  have q : ∀ x, x ≠ 68 → (x < 63 ∨ 65 < x) → t.1 x k = s.1 x k := fun x h h' => m4 x k h (Or.inr h')
  have r : ∀ x, x ≠ 68 → x < 66 → u.1 x k = t.1 x k := fun x h h' => l4 x k h (Or.inr (Or.inl h'))
  have mm9 : t.2.1 2 k 1 = s.2.1 2 k 1 := by rw [m5]
  refine ⟨?_, fun x j hx h => ?_⟩
  · unfold Ds
    rw [l2, r 62 (by decide) (by decide), v_sub_add, l1, r 55 (by decide) (by decide), r 56 (by decide) (by decide), r 57 (by decide) (by decide), r 59 (by decide) (by decide), r 61 (by decide) (by decide), r 63 (by decide) (by decide), r 64 (by decide) (by decide), r 65 (by decide) (by decide)]
    rw [q 55 (by decide) (by decide), q 56 (by decide) (by decide), q 57 (by decide) (by decide), q 59 (by decide) (by decide), q 61 (by decide) (by decide), q 52 (by decide) (by decide), q 53 (by decide) (by decide), q 54 (by decide) (by decide), m1, m2, m3, mm9, h1, h3, h5]
    rw [show s.1 57 k = nx_u (Ds s p) (Ps s v a k) from h2]
    rfl
  · rcases h with h | h
    · rw [l4 x j hx (Or.inl h), m4 x j hx (Or.inl h)]
    · rw [l4 x j hx (Or.inr (by omega)), m4 x j hx (Or.inr (by omega))]
