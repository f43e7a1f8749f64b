/-! Energy: the class's sum is the reference's -/
theorem ssum_ad (f g : Nat → ZF) (a : Nat) : ∀ m, ssum (fun c => f c + g c) a m = ssum f a m + ssum g a m
  | 0 => by show (0 : ZF) = 0 + 0; grind
  | m + 1 => by
    unfold ssum
    rw [ssum_ad f g a m]
    grind
theorem ssum_mu (t : ZF) (f : Nat → ZF) (a : Nat) : ∀ m, ssum (fun c => t * f c) a m = t * ssum f a m
  | 0 => by show (0 : ZF) = t * 0; grind
  | m + 1 => by
    unfold ssum
    rw [ssum_mu t f a m]
    grind
theorem ssum_cm (F : Nat → Nat → ZF) (a b n : Nat) : ∀ m, ssum (fun k => ssum (fun i => F k i) a n) b m = ssum (fun i => ssum (fun k => F k i) b m) a n
  | 0 => (ssum_0 (fun _ _ _ => rfl)).symm
  | m + 1 => by
    show ssum (fun k => ssum (fun i => F k i) a n) b m + ssum (fun i => F (b + m) i) a n = ssum (fun i => ssum (fun k => F k i) b m + F (b + m) i) a n
    rw [ssum_cm F a b n m, ssum_ad]
/-- the reference's state with the accelerations f, joints at rest -/
def mq (σ : SS) (f : Nat → ZF) : SS := (σ.1, fun a b j => if a = 25 then 0 else if a = 26 then f j else σ.2.1 a b j, (s60 σ).2.2)
theorem mq_L (σ : SS) (f : Nat → ZF) (a j : Nat) (h1 : 20 ≤ a) (h2 : a < 25) : (mq σ f).2.1 a 0 j = σ.2.1 a 0 j := by
  show (if a = 25 then (0 : ZF) else if a = 26 then f j else σ.2.1 a 0 j) = _
  rw [if_neg (by omega), if_neg (by omega)]
theorem mtx_q {σ : SS} (hR : Rel σ) (i k : Nat) (h1 : 1 ≤ k) (h2 : k ≤ nn σ) : mtx σ k i = tq (m_mov (mq σ (fun j => if j = i then 1 else 0)) false) k := by
  have h := CS_std hR
  have h7 := hR.1.1.2.1
  rw [← mtx_e (m := s60 σ) hR rfl (fun _ _ _ _ => rfl) i k h1 h2, ← col_tq2 (m := s60 σ) hR h rfl (fun _ _ _ _ => rfl) i k h1 h2]
  refine ned_rel2 (s := sL (c_std σ) 15 0 i 1) (m := mq σ (fun j => if j = i then 1 else 0)) hR (14, 0) (15, 0) false (fun k a b => StOK_15 i 1 (h.2.2.2.2 k a b)) h.1 h.2.1 (fun a b j q => (sL_n1 _ _ _ _ _ (by omega)).trans (h.2.2.1 a b j (Or.inl q))) rfl (fun a j q1 q2 => mq_L σ _ a j q1 q2) (fun k a b' => ?_) (fun k a b' => ?_) k h1 h2
  · show (0 : ZF) = (sL (c_std σ) 15 0 i 1).2.1 14 0 k
    rw [sL_n1 _ _ _ _ _ (by decide), h.2.2.1 14 _ _ (by omega), (hR.2.2.2.1 k (by omega)).2.2.2.1]
  · show (if k = i then (1 : ZF) else 0) = (sL (c_std σ) 15 0 i 1).2.1 15 0 k
    by_cases hk : k = i
    · rw [if_pos hk, hk, sL_at]
    · rw [if_neg hk, sL_n3 _ _ _ _ _ hk, h.2.2.2.1 k (by omega), (hR.2.2.2.1 k (by omega)).2.2.2.2]
theorem ene_q {σ : SS} (hR : Rel σ) (k : Nat) (h1 : 1 ≤ k) (h2 : k ≤ nn σ) : (c_ene σ).2.1 16 0 k = tq (m_mov (mq σ (σ.2.1 11 0)) false) k := by
  have h := CS_std hR
  have h7 := hR.1.1.2.1
  refine ned_rel2 (s := c_std σ) (m := mq σ (σ.2.1 11 0)) hR (14, 0) (11, 0) false h.2.2.2.2 h.1 h.2.1 (fun a b j q => h.2.2.1 a b j (Or.inl q)) rfl (fun a j q1 q2 => mq_L σ _ a j q1 q2) (fun k a b' => ?_) (fun k a b' => ?_) k h1 h2
  · show (0 : ZF) = (c_std σ).2.1 14 0 k
    rw [h.2.2.1 14 _ _ (by omega), (hR.2.2.2.1 k (by omega)).2.2.2.1]
  · show σ.2.1 11 0 k = (c_std σ).2.1 11 0 k
    rw [h.2.2.1 11 _ _ (by omega)]
theorem mq_sum {σ : SS} (hR : Rel σ) (f : Nat → ZF) (k : Nat) (h1 : 1 ≤ k) (h2 : k ≤ nn σ) : ∀ m, tq (m_mov (mq σ (fun j => if j ≤ m then f j else 0)) false) k = ssum (fun i => mtx σ k i * f i) 1 m := by
  have hM : ∀ g, MI (mq σ g) := fun g => MI_of (s := mq σ g) (σ := s60 σ) rfl (s60_MI hR.1.2.1)
  have hn : ∀ g, mn (mq σ g) = nn σ := fun g => ((mn_of (s := mq σ g) (σ := s60 σ) rfl).trans (s60_n σ)).trans hR.1.2.2.1
  have hz : ∀ g j, (mq σ g).2.1 25 0 j = 0 := fun g j => rfl
  have ha : ∀ g j, (mq σ g).2.1 26 0 j = g j := fun g j => rfl
  intro m
  induction m with
  | zero =>
    have h := tq_lin (m1 := mq σ (fun j => if j ≤ 0 then f j else 0)) (m2 := mq σ (fun j => if j ≤ 0 then f j else 0)) (m3 := mq σ (fun j => if j ≤ 0 then f j else 0)) (t := 1) (hM _) rfl rfl (fun _ _ _ _ => rfl) (fun _ _ _ _ => rfl) (fun k _ _ => ⟨rfl, rfl, rfl⟩) (fun k q1 _ => by
      rw [ha, if_neg (by omega)]
      grind) k h1 (by rw [hn]; exact h2)
    show _ = (0 : ZF)
    generalize tq (m_mov (mq σ (fun j => if j ≤ 0 then f j else 0)) false) k = x at h ⊢
    grind
  | succ m ih =>
    have h := tq_lin (m1 := mq σ (fun j => if j ≤ m then f j else 0)) (m2 := mq σ (fun j => if j = m + 1 then 1 else 0)) (m3 := mq σ (fun j => if j ≤ m + 1 then f j else 0)) (t := f (m + 1)) (hM _) rfl rfl (fun a j q1 q2 => by rw [mq_L σ _ a j q1 q2, mq_L σ _ a j q1 q2]) (fun a j q1 q2 => by rw [mq_L σ _ a j q1 q2, mq_L σ _ a j q1 q2]) (fun k _ _ => ⟨rfl, rfl, rfl⟩) (fun k q1 _ => by
      rw [ha, ha, ha]
      by_cases e : k = m + 1
      · subst e
        rw [if_pos (Nat.le_refl _), if_neg (by omega), if_pos rfl]
        grind
      · rw [if_neg e]
        by_cases e2 : k ≤ m
        · rw [if_pos e2, if_pos (by omega)]
          grind
        · rw [if_neg e2, if_neg (by omega)]
          grind) k h1 (by rw [hn]; exact h2)
    rw [h, ih, ← mtx_q hR (m + 1) k h1 h2]
    show _ = ssum (fun i => mtx σ k i * f i) 1 m + mtx σ k (1 + m) * f (1 + m)
    rw [Nat.add_comm 1 m]
theorem ene_s {σ : SS} (hR : Rel σ) (k : Nat) (h1 : 1 ≤ k) (h2 : k ≤ nn σ) : (c_ene σ).2.1 16 0 k = ssum (fun i => mtx σ k i * σ.2.1 11 0 i) 1 (nn σ) := by
  have hM : ∀ g, MI (mq σ g) := fun g => MI_of (s := mq σ g) (σ := s60 σ) rfl (s60_MI hR.1.2.1)
  have hn : ∀ g, mn (mq σ g) = nn σ := fun g => ((mn_of (s := mq σ g) (σ := s60 σ) rfl).trans (s60_n σ)).trans hR.1.2.2.1
  rw [ene_q hR k h1 h2, ← mq_sum hR (σ.2.1 11 0) k h1 h2 (nn σ)]
  have h0 := mq_sum hR (fun _ => 0) k h1 h2 0
  have h := tq_lin (m1 := mq σ (fun j => if j ≤ nn σ then σ.2.1 11 0 j else 0)) (m2 := mq σ (fun j => if j ≤ 0 then (fun _ => 0) j else 0)) (m3 := mq σ (σ.2.1 11 0)) (t := 0) (hM _) rfl rfl (fun a j q1 q2 => by rw [mq_L σ _ a j q1 q2, mq_L σ _ a j q1 q2]) (fun a j q1 q2 => by rw [mq_L σ _ a j q1 q2, mq_L σ _ a j q1 q2]) (fun k _ _ => ⟨rfl, rfl, rfl⟩) (fun k q1 q2 => by
    show σ.2.1 11 0 k = (if k ≤ nn σ then σ.2.1 11 0 k else 0) + _ * 0
    rw [hn] at q2
    rw [if_pos q2]
    grind) k h1 (by rw [hn]; exact h2)
  rw [h]
  grind
theorem esum_e (s : SS) : ∀ k, esum s k = ssum (fun k => s.2.1 11 0 k * s.2.1 16 0 k) 1 k
  | 0 => rfl
  | k + 1 => by
    unfold esum ssum
    rw [esum_e s k, Nat.add_comm 1 k]
theorem mej_e (σ : SS) (M : Nat → Nat → ZF) (i : Nat) (a : ZF) : ∀ j, mej σ M i a j = a + ssum (fun j => σ.2.1 22 0 i * σ.2.1 22 0 j * M j i) 1 j
  | 0 => by show a = a + 0; grind
  | j + 1 => by
    unfold mej ssum
    rw [mej_e σ M i a j, Nat.add_comm 1 j]
    grind
theorem men_e (σ : SS) (M : Nat → Nat → ZF) (n : Nat) : ∀ i, men σ M n i = ssum (fun i => ssum (fun j => σ.2.1 22 0 i * σ.2.1 22 0 j * M j i) 1 n) 1 i
  | 0 => rfl
  | i + 1 => by
    unfold men ssum
    rw [men_e σ M n i, mej_e, Nat.add_comm 1 i]
/-- the same energy; s is any state with the same speeds -/
theorem energy_e {σ s : SS} (hR : Rel σ) (hs : ∀ j, j < 8 → s.2.1 22 0 j = σ.2.1 11 0 j) : esum (c_ene σ) (nn σ) = men s (mtx σ) (nn σ) (nn σ) := by
  have h7 := hR.1.1.2.1
  have hC : CS σ (c_ene σ) := CS_ned _ _ _ hR.1.1 (CS_std hR)
  rw [esum_e, men_e]
  have e1 : ssum (fun k => (c_ene σ).2.1 11 0 k * (c_ene σ).2.1 16 0 k) 1 (nn σ) = ssum (fun k => ssum (fun i => σ.2.1 11 0 i * σ.2.1 11 0 k * mtx σ k i) 1 (nn σ)) 1 (nn σ) := by
    refine ssum_cg (fun k q1 q2 => ?_)
    rw [ene_s hR k q1 (by omega), hC.2.2.1 11 0 k (by omega), ← ssum_mu]
    refine ssum_cg (fun i p1 p2 => ?_)
    grind
  rw [e1, ssum_cm (fun k i => σ.2.1 11 0 i * σ.2.1 11 0 k * mtx σ k i)]
  refine ssum_cg (fun i p1 p2 => ssum_cg (fun k q1 q2 => ?_))
  rw [hs i (by omega), hs k (by omega)]
