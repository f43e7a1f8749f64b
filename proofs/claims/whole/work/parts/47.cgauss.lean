/-! The class's elimination, from the last column on -/
theorem tak_u (row piv : Nat) (f : ZF) (s : SS) (h : row ≠ piv) : ∀ m, (upf (tak1 row piv f) s m).1 = s.1 ∧ ∀ a b j, (upf (tak1 row piv f) s m).2.1 a b j = if a = 19 ∧ b = row ∧ 1 ≤ j ∧ j ≤ m then s.2.1 19 row j - f * s.2.1 19 piv j else s.2.1 a b j
  | 0 => ⟨rfl, fun a b j => (if_neg (by omega)).symm⟩
  | m + 1 => by
    obtain ⟨h1, h2⟩ := tak_u row piv f s h m
    refine ⟨h1, fun a b j => ?_⟩
    show (sL (upf (tak1 row piv f) s m) 19 row (m + 1) _).2.1 a b j = _
    by_cases e : a = 19 ∧ b = row ∧ j = m + 1
    · obtain ⟨rfl, rfl, rfl⟩ := e
      rw [sL_at, h2, h2, if_neg (by omega), if_neg (by omega), if_pos ⟨rfl, rfl, by omega, by omega⟩]
    · have e2 : (sL (upf (tak1 row piv f) s m) 19 row (m + 1) ((upf (tak1 row piv f) s m).2.1 19 row (m + 1) - f * (upf (tak1 row piv f) s m).2.1 19 piv (m + 1))).2.1 a b j = (upf (tak1 row piv f) s m).2.1 a b j := if_neg e
      rw [e2, h2]
      by_cases q : a = 19 ∧ b = row ∧ 1 ≤ j ∧ j ≤ m
      · rw [if_pos q, if_pos (by omega)]
      · rw [if_neg q, if_neg (by omega)]
theorem tak_e {row piv : Nat} (f : ZF) (s : SS) (h : row ≠ piv) : (c_tak s row piv f).1 = s.1 ∧ ∀ a b j, (c_tak s row piv f).2.1 a b j = if a = 19 ∧ b = row ∧ 1 ≤ j ∧ j ≤ piv then s.2.1 19 row j - f * s.2.1 19 piv j else if a = 17 ∧ b = 0 ∧ j = row then s.2.1 17 0 row - f * s.2.1 17 0 piv else s.2.1 a b j := by
  obtain ⟨h1, h2⟩ := tak_u row piv f s h piv
  refine ⟨h1, fun a b j => ?_⟩
  show (sL (upf (tak1 row piv f) s piv) 17 0 row ((upf (tak1 row piv f) s piv).2.1 17 0 row - f * (upf (tak1 row piv f) s piv).2.1 17 0 piv)).2.1 a b j = _
  by_cases e : a = 17 ∧ b = 0 ∧ j = row
  · obtain ⟨rfl, rfl, rfl⟩ := e
    rw [sL_at, h2, h2, if_neg (by omega), if_neg (by omega), if_neg (by omega), if_pos ⟨rfl, rfl, rfl⟩]
  · have e2 : (sL (upf (tak1 row piv f) s piv) 17 0 row ((upf (tak1 row piv f) s piv).2.1 17 0 row - f * (upf (tak1 row piv f) s piv).2.1 17 0 piv)).2.1 a b j = (upf (tak1 row piv f) s piv).2.1 a b j := if_neg e
    rw [e2, h2, if_neg e]
theorem piv_u (s : SS) (k : Nat) (x : ZF) : ∀ m, m < k → (upf (clr1 k) (sL s 18 0 k x) m).1 = s.1 ∧ ∀ a b j, (upf (clr1 k) (sL s 18 0 k x) m).2.1 a b j = if a = 19 ∧ (1 ≤ b ∧ b ≤ m) ∧ 1 ≤ j ∧ j ≤ k then s.2.1 19 b j - s.2.1 19 b k * x * s.2.1 19 k j else if a = 17 ∧ b = 0 ∧ 1 ≤ j ∧ j ≤ m then s.2.1 17 0 j - s.2.1 19 j k * x * s.2.1 17 0 k else if a = 18 ∧ b = 0 ∧ j = k then x else s.2.1 a b j
  | 0, _ => ⟨rfl, fun a b j => by rw [if_neg (by omega), if_neg (by omega)]; rfl⟩
  | m + 1, hm => by
    obtain ⟨h1, h2⟩ := piv_u s k x m (by omega)
    have hu : upf (clr1 k) (sL s 18 0 k x) (m + 1) = c_tak (upf (clr1 k) (sL s 18 0 k x) m) (m + 1) k ((upf (clr1 k) (sL s 18 0 k x) m).2.1 19 (m + 1) k * (upf (clr1 k) (sL s 18 0 k x) m).2.1 18 0 k) := rfl
    rw [hu]
    obtain ⟨t1, t2⟩ := tak_e ((upf (clr1 k) (sL s 18 0 k x) m).2.1 19 (m + 1) k * (upf (clr1 k) (sL s 18 0 k x) m).2.1 18 0 k) (upf (clr1 k) (sL s 18 0 k x) m) (show m + 1 ≠ k by omega)
    refine ⟨t1.trans h1, fun a b j => ?_⟩
    rw [t2]
    have e1 : ∀ j, (upf (clr1 k) (sL s 18 0 k x) m).2.1 19 (m + 1) j = s.2.1 19 (m + 1) j := fun j => by rw [h2, if_neg (by omega), if_neg (by omega), if_neg (by omega)]
    have e2 : ∀ j, (upf (clr1 k) (sL s 18 0 k x) m).2.1 19 k j = s.2.1 19 k j := fun j => by rw [h2, if_neg (by omega), if_neg (by omega), if_neg (by omega)]
    have e3 : (upf (clr1 k) (sL s 18 0 k x) m).2.1 18 0 k = x := by rw [h2, if_neg (by omega), if_neg (by omega), if_pos ⟨rfl, rfl, rfl⟩]
    have e4 : (upf (clr1 k) (sL s 18 0 k x) m).2.1 17 0 (m + 1) = s.2.1 17 0 (m + 1) := by rw [h2, if_neg (by omega), if_neg (by omega), if_neg (by omega)]
    have e5 : (upf (clr1 k) (sL s 18 0 k x) m).2.1 17 0 k = s.2.1 17 0 k := by rw [h2, if_neg (by omega), if_neg (by omega), if_neg (by omega)]
    rw [e1, e1, e2, e3, e4, e5, h2 a b j]
    by_cases q1 : a = 19 ∧ b = m + 1 ∧ 1 ≤ j ∧ j ≤ k
    · obtain ⟨rfl, rfl, q1⟩ := q1
      rw [if_pos ⟨rfl, rfl, q1⟩, if_pos ⟨rfl, by omega, q1⟩]
    · rw [if_neg q1]
      by_cases q2 : a = 17 ∧ b = 0 ∧ j = m + 1
      · obtain ⟨rfl, rfl, rfl⟩ := q2
        rw [if_pos ⟨rfl, rfl, rfl⟩, if_neg (by omega), if_pos ⟨rfl, rfl, by omega, by omega⟩]
      · rw [if_neg q2]
        by_cases q3 : a = 19 ∧ (1 ≤ b ∧ b ≤ m) ∧ 1 ≤ j ∧ j ≤ k
        · rw [if_pos q3, if_pos (by omega)]
        · rw [if_neg q3]
          by_cases q4 : a = 17 ∧ b = 0 ∧ 1 ≤ j ∧ j ≤ m
          · rw [if_pos q4, if_neg (by omega), if_pos (by omega)]
          · have n1 : ¬ (a = 19 ∧ (1 ≤ b ∧ b ≤ m + 1) ∧ 1 ≤ j ∧ j ≤ k) := by omega
            have n2 : ¬ (a = 17 ∧ b = 0 ∧ 1 ≤ j ∧ j ≤ m + 1) := by omega
            rw [if_neg q4, if_neg n1, if_neg n2]
theorem piv_e (s : SS) (k : Nat) (hk : 1 ≤ k) : (c_piv s k).1 = s.1 ∧ ∀ a b j, (c_piv s k).2.1 a b j = if a = 19 ∧ (1 ≤ b ∧ b ≤ k - 1) ∧ 1 ≤ j ∧ j ≤ k then s.2.1 19 b j - s.2.1 19 b k * zinv (s.2.1 19 k k) * s.2.1 19 k j else if a = 17 ∧ b = 0 ∧ 1 ≤ j ∧ j ≤ k - 1 then s.2.1 17 0 j - s.2.1 19 j k * zinv (s.2.1 19 k k) * s.2.1 17 0 k else if a = 18 ∧ b = 0 ∧ j = k then zinv (s.2.1 19 k k) else s.2.1 a b j := piv_u s k (zinv (s.2.1 19 k k)) (k - 1) (by omega)
/-! triangular systems -/
theorem tri_s {W : Nat → Nat → ZF} {x : Nat → ZF} {e k r : Nat} (h1 : k ≤ r) (h2 : r < e) (hL : ∀ i, r < i → i < e → W r i = 0) : ssum (fun c => W r c * x c) k (e - k) = ssum (fun c => W r c * x c) k (r - k) + W r r * x r := by
  have e1 : e - k = (r - k) + (1 + (e - r - 1)) := by omega
  rw [e1, ssum_sp, ssum_sp, ssum_0 (a := k + (r - k) + 1) (fun c q1 q2 => by rw [hL c (by omega) (by omega)]; grind)]
  show _ + (0 + W r (k + (r - k) + 0) * x (k + (r - k) + 0) + 0) = _
  rw [show k + (r - k) + 0 = r by omega]
  grind
theorem tri_x {W : Nat → Nat → ZF} {e k : Nat} (h0 : W k k = 0) (hP : ∀ r, k < r → r < e → W r r ≠ 0) : ∀ m, k + m < e → ∃ x : Nat → ZF, x k = 1 ∧ ∀ r, k ≤ r → r ≤ k + m → ssum (fun c => W r c * x c) k (r - k) + W r r * x r = 0
  | 0, _ => ⟨fun _ => 1, rfl, fun r h1 h2 => by
    have e1 : r = k := by omega
    subst e1
    rw [Nat.sub_self, h0]
    show (0 : ZF) + 0 * 1 = 0
    grind⟩
  | m + 1, h => by
    obtain ⟨x, x1, x2⟩ := tri_x h0 hP m (by omega)
    refine ⟨fun c => if c = k + m + 1 then -(ssum (fun c => W (k + m + 1) c * x c) k (m + 1) * zinv (W (k + m + 1) (k + m + 1))) else x c, ?_, fun r h1 h2 => ?_⟩
    · dsimp only
      rw [if_neg (by omega)]
      exact x1
    · have e1 : ssum (fun c => W r c * (if c = k + m + 1 then -(ssum (fun c => W (k + m + 1) c * x c) k (m + 1) * zinv (W (k + m + 1) (k + m + 1))) else x c)) k (r - k) = ssum (fun c => W r c * x c) k (r - k) := ssum_cg (fun c q1 q2 => by rw [if_neg (by omega)])
      rw [e1]
      dsimp only
      by_cases hr : r = k + m + 1
      · subst hr
        rw [if_pos rfl, show k + m + 1 - k = m + 1 by omega]
        have hm := zinv_m (hP (k + m + 1) (by omega) (by omega))
        grind
      · rw [if_neg hr]
        exact x2 r h1 (by omega)
theorem tri_inj {W : Nat → Nat → ZF} {e k : Nat} (hk : k < e) (hL : ∀ r i, k ≤ r → r < i → i < e → W r i = 0) (hP : ∀ r, k < r → r < e → W r r ≠ 0) : Inj W e k ↔ W k k ≠ 0 := by
  constructor
  · intro hi h0
    obtain ⟨x, x1, x2⟩ := tri_x h0 hP (e - 1 - k) (by omega)
    have g := hi x (fun r h1 h2 => by rw [tri_s h1 h2 (fun i q1 q2 => hL r i h1 q1 q2), x2 r h1 (by omega)]; grind) k (Nat.le_refl _) hk
    rw [x1] at g
    exact absurd g (by decide)
  · intro h0 x hx
    have st : ∀ m c, k ≤ c → c < e → c < k + m → x c = 0 := by
      intro m
      induction m with
      | zero => intro c h1 h2 h3; omega
      | succ m ih =>
        intro c h1 h2 h3
        have g := hx c h1 h2
        rw [tri_s h1 h2 (fun i q1 q2 => hL c i h1 q1 q2), ssum_0 (fun c' q1 q2 => by rw [ih c' q1 (by omega) (by omega)]; grind)] at g
        have g2 : W c c * x c = 0 := by grind
        refine (nzd g2).resolve_left ?_
        by_cases e1 : c = k
        · rw [e1]; exact h0
        · exact hP c (by omega) h2
    intro c h1 h2
    exact st (e - k) c h1 h2 (by omega)
/-! the class -/
def cE (s : SS) (r c : Nat) : ZF := s.2.1 19 r c
def cg (s : SS) (r : Nat) : ZF := s.2.1 17 0 r
def LTs (s : SS) (m n : Nat) : Prop := ∀ r i, 1 ≤ r → r < i → m < i → i ≤ n → cE s r i = 0
def PVs (s : SS) (m n : Nat) : Prop := ∀ r, m < r → r ≤ n → cE s r r ≠ 0 ∧ s.2.1 18 0 r = zinv (cE s r r)
theorem clr_e {n : Nat} : ∀ (m : Nat) (s : SS), m ≤ n → LTs s m n → PVs s m n → ((c_clr m s).1 = true ↔ ∀ k, 1 ≤ k → k ≤ m → Inj (cE s) (n + 1) k) ∧ ((c_clr m s).1 = true → LTs (c_clr m s).2 0 n ∧ PVs (c_clr m s).2 0 n ∧ ∀ t x, SO (cE (c_clr m s).2) (cg (c_clr m s).2) (n + 1) 1 t x ↔ SO (cE s) (cg s) (n + 1) 1 t x) ∧ ((c_clr m s).2.1 = s.1 ∧ ∀ a b j, a ≠ 17 → a ≠ 18 → a ≠ 19 → (c_clr m s).2.2.1 a b j = s.2.1 a b j) := by
  intro m
  induction m with
  | zero =>
    intro s hm hL hP
    exact ⟨⟨fun _ k h1 h2 => by omega, fun _ => rfl⟩, fun _ => ⟨hL, hP, fun t x => Iff.rfl⟩, rfl, fun _ _ _ _ _ _ => rfl⟩
  | succ m ih =>
    intro s hm hL hP
    have tri := tri_inj (W := cE s) (e := n + 1) (k := m + 1) (by omega) (fun r i h1 h2 h3 => hL r i (by omega) h2 (by omega) (by omega)) (fun r h1 h2 => (hP r (by omega) (by omega)).1)
    unfold c_clr
    by_cases h0 : s.2.1 19 (m + 1) (m + 1) = 0
    · rw [if_pos h0]
      refine ⟨⟨fun q => absurd q Bool.false_ne_true, fun q => absurd h0 (tri.mp (q (m + 1) (by omega) (by omega)))⟩, fun q => absurd q Bool.false_ne_true, rfl, fun _ _ _ _ _ _ => rfl⟩
    · rw [if_neg h0]
      have hi := zinv_m h0
      obtain ⟨p1, p2⟩ := piv_e s (m + 1) (by omega)
      generalize hv : zinv (s.2.1 19 (m + 1) (m + 1)) = v at p2 hi
      generalize c_piv s (m + 1) = s' at p1 p2
      have hE : ∀ r c, cE s' r c = if (1 ≤ r ∧ r ≤ m) ∧ 1 ≤ c ∧ c ≤ m + 1 then cE s r c - cE s r (m + 1) * v * cE s (m + 1) c else cE s r c := fun r c => by
        unfold cE
        rw [p2]
        by_cases q : (1 ≤ r ∧ r ≤ m) ∧ 1 ≤ c ∧ c ≤ m + 1
        · rw [if_pos ⟨rfl, q⟩, if_pos q]
        · rw [if_neg (fun p => q p.2), if_neg q, if_neg (by omega), if_neg (by omega)]
      have hg : ∀ r, cg s' r = if 1 ≤ r ∧ r ≤ m then cg s r - cE s r (m + 1) * v * cg s (m + 1) else cg s r := fun r => by
        unfold cg cE
        rw [p2]
        by_cases q : 1 ≤ r ∧ r ≤ m
        · rw [if_neg (by omega), if_pos ⟨rfl, rfl, q⟩, if_pos q]
        · rw [if_neg (by omega), if_neg (fun p => q p.2.2), if_neg q, if_neg (by omega)]
      have hv2 : ∀ r, s'.2.1 18 0 r = if r = m + 1 then v else s.2.1 18 0 r := fun r => by
        rw [p2, if_neg (by omega), if_neg (by omega)]
        by_cases q : r = m + 1
        · rw [if_pos ⟨rfl, rfl, q⟩, if_pos q]
        · rw [if_neg (fun p => q p.2.2), if_neg q]
      have hL' : LTs s' m n := fun r i h1 h2 h3 h4 => by
        rw [hE]
        by_cases q : i = m + 1
        · subst q
          rw [if_pos (by omega)]
          have hi : cE s (m + 1) (m + 1) * v = 1 := hi
          grind
        · rw [if_neg (by omega)]
          exact hL r i h1 h2 (by omega) h4
      have hP' : PVs s' m n := fun r h1 h2 => by
        rw [hE, if_neg (by omega), hv2]
        by_cases q : r = m + 1
        · subst q
          rw [if_pos rfl]
          exact ⟨h0, hv.symm⟩
        · rw [if_neg q]
          exact hP r (by omega) h2
      have hS : ∀ a, 1 ≤ a → a ≤ m + 1 → ∀ t x, SO (cE s') (cg s') (n + 1) a t x ↔ SO (cE s) (cg s) (n + 1) a t x := fun a ha1 ha2 t x => by
        refine SO_op (p := m + 1) (f := fun r => if r ≤ m then cE s r (m + 1) * v else 0) ha2 (by omega) (if_neg (by omega)) (fun r c q1 q2 q3 q4 => ?_) (fun r q1 q2 => ?_) t x
        · rw [hE]
          by_cases q : r ≤ m
          · rw [if_pos q]
            by_cases q5 : c ≤ m + 1
            · rw [if_pos (by omega)]
            · rw [if_neg (by omega), hL (m + 1) c (by omega) (by omega) (by omega) (by omega)]
              grind
          · rw [if_neg q, if_neg (by omega)]
            grind
        · rw [hg]
          by_cases q : r ≤ m
          · rw [if_pos q, if_pos (by omega)]
          · rw [if_neg q, if_neg (by omega)]
            grind
      obtain ⟨i1, i2, i3, i4⟩ := ih s' (by omega) hL' hP'
      refine ⟨i1.trans ⟨fun g k k1 k2 => ?_, fun g k k1 k2 x hx => g k k1 (by omega) x (SO_0 ((hS k k1 (by omega) 0 x).mp (SO_0 hx)))⟩, fun g => ⟨(i2 g).1, (i2 g).2.1, fun t x => ((i2 g).2.2 t x).trans (hS 1 (Nat.le_refl 1) (by omega) t x)⟩, i3.trans p1, fun a b j h1 h2 h3 => ?_⟩
      · by_cases q : k = m + 1
        · subst q
          exact tri.mpr h0
        · exact fun x hx => g k k1 (by omega) x (SO_0 ((hS k k1 (by omega) 0 x).mpr (SO_0 hx)))
      · rw [i4 a b j h1 h2 h3, p2, if_neg (by omega), if_neg (by omega), if_neg (by omega)]
theorem lft_e (s : SS) (k : Nat) : ∀ i, lft s k i = cg s k - ssum (fun c => cE s k c * s.2.1 12 0 c) 1 i
  | 0 => by show cg s k = cg s k - 0; grind
  | i + 1 => by
    show lft s k i - s.2.1 19 k (i + 1) * s.2.1 12 0 (i + 1) = cg s k - (ssum (fun c => cE s k c * s.2.1 12 0 c) 1 i + cE s k (1 + i) * s.2.1 12 0 (1 + i))
    rw [lft_e s k i, Nat.add_comm 1 i]
    unfold cE
    grind
theorem sol_u {n : Nat} (σ : SS) (hP : PVs σ 0 n) : ∀ m, m ≤ n → (upf sol1 σ m).1 = σ.1 ∧ (∀ a b j, (a ≠ 12 ∨ b ≠ 0 ∨ j = 0 ∨ m < j) → (upf sol1 σ m).2.1 a b j = σ.2.1 a b j) ∧ ∀ r, 1 ≤ r → r ≤ m → ssum (fun c => cE σ r c * (upf sol1 σ m).2.1 12 0 c) 1 (r - 1) + cE σ r r * (upf sol1 σ m).2.1 12 0 r = cg σ r
  | 0, _ => ⟨rfl, fun _ _ _ _ => rfl, fun r h1 h2 => by omega⟩
  | m + 1, hm => by
    obtain ⟨h1, h2, h3⟩ := sol_u σ hP m (by omega)
    have hu : upf sol1 σ (m + 1) = sL (upf sol1 σ m) 12 0 (m + 1) (lft (upf sol1 σ m) (m + 1) m * (upf sol1 σ m).2.1 18 0 (m + 1)) := rfl
    have hl := lft_e (upf sol1 σ m) (m + 1) m
    have e1 : cg (upf sol1 σ m) (m + 1) = cg σ (m + 1) := h2 17 0 _ (Or.inl (by decide))
    have e2 : ∀ r c, cE (upf sol1 σ m) r c = cE σ r c := fun r c => h2 19 _ _ (Or.inl (by decide))
    have e3 : (upf sol1 σ m).2.1 18 0 (m + 1) = zinv (cE σ (m + 1) (m + 1)) := (h2 18 0 _ (Or.inl (by decide))).trans (hP (m + 1) (by omega) hm).2
    have hz := zinv_m (hP (m + 1) (by omega) hm).1
    rw [e1] at hl
    simp only [e2] at hl
    rw [hu, hl, e3]
    generalize upf sol1 σ m = s at *
    refine ⟨h1, fun a b j q => ?_, fun r q1 q2 => ?_⟩
    · have e : ¬ (a = 12 ∧ b = 0 ∧ j = m + 1) := by omega
      show (if a = 12 ∧ b = 0 ∧ j = m + 1 then _ else s.2.1 a b j) = _
      rw [if_neg e]
      exact h2 a b j (by omega)
    · have es : ∀ c, c ≠ m + 1 → (sL s 12 0 (m + 1) ((cg σ (m + 1) - ssum (fun c => cE σ (m + 1) c * s.2.1 12 0 c) 1 m) * zinv (cE σ (m + 1) (m + 1)))).2.1 12 0 c = s.2.1 12 0 c := fun c hc => sL_n3 _ _ _ _ _ hc
      rw [ssum_cg (g := fun c => cE σ r c * s.2.1 12 0 c) (fun c c1 c2 => by rw [es c (by omega)])]
      by_cases q : r = m + 1
      · subst q
        rw [sL_at, Nat.add_sub_cancel]
        grind
      · rw [es r q]
        exact h3 r q1 (by omega)
theorem sol_so {n : Nat} (σ : SS) (hL : LTs σ 0 n) (hP : PVs σ 0 n) : SO (cE σ) (cg σ) (n + 1) 1 1 ((upf sol1 σ n).2.1 12 0) := fun r h1 h2 => by
  rw [tri_s h1 h2 (fun i q1 q2 => hL r i h1 q1 (by omega) (by omega)), (sol_u σ hP n (Nat.le_refl n)).2.2 r h1 (by omega)]
  grind
/-- class and reference: the same answer, and the same accelerations -/
theorem gauss {n : Nat} (hn : n ≤ 7) {s : SS} {A : Nat → ZF} (hM : ∀ i j, (1 ≤ i ∧ i ≤ n) → (1 ≤ j ∧ j ≤ n) → A (8 * (j - 1) + i - 1) = cE s j i) (hB : ∀ j, (1 ≤ j ∧ j ≤ n) → A (8 * (j - 1) + 7) = cg s j) :
    (c_clr n s).1 = icls A n n ∧ ((c_clr n s).1 = true → ∀ k, 1 ≤ k → k ≤ n → (upf sol1 (c_clr n s).2 n).2.1 12 0 k = xsl A n (k - 1)) := by
  obtain ⟨c1, c2, -⟩ := clr_e (n := n) n s (Nat.le_refl n) (fun r i h1 h2 h3 h4 => by omega) (fun r h1 h2 => by omega)
  have i1 := icls_e hn A n (Nat.le_refl n)
  have lk : ∀ a b t (x : Nat → ZF), (∀ r, a ≤ r → r < n → b r = ab A r) → (SO (aW A) b n a t (fun c => x (c + 1)) ↔ SO (cE s) (cg s) (n + 1) (a + 1) t x) := fun a b t x hb => by
    have key : ∀ r, a ≤ r → r < n → ssum (fun c => aW A r c * x (c + 1)) a (n - a) = ssum (fun c => cE s (r + 1) c * x c) (a + 1) (n - a) := fun r h1 h2 => by
      rw [← ssum_sh (fun c => cE s (r + 1) c * x c)]
      refine ssum_cg (fun c q1 q2 => ?_)
      unfold aW
      rw [← hM (c + 1) (r + 1) ⟨by omega, by omega⟩ ⟨by omega, by omega⟩, show 8 * (r + 1 - 1) + (c + 1) - 1 = 8 * r + c by omega]
    have kb : ∀ r, r < n → ab A r = cg s (r + 1) := fun r h => by
      unfold ab
      rw [← hB (r + 1) ⟨by omega, by omega⟩, Nat.add_sub_cancel]
    constructor
    · intro g r h1 h2
      have g2 := g (r - 1) (by omega) (by omega)
      rw [key (r - 1) (by omega) (by omega), hb (r - 1) (by omega) (by omega), kb (r - 1) (by omega), show r - 1 + 1 = r by omega] at g2
      rw [show n + 1 - (a + 1) = n - a by omega]
      exact g2
    · intro g r h1 h2
      have g2 := g (r + 1) (by omega) (by omega)
      rw [show n + 1 - (a + 1) = n - a by omega] at g2
      rw [key r h1 h2, hb r h1 h2, kb r h2]
      exact g2
  have inj : ∀ a, Inj (aW A) n a ↔ Inj (cE s) (n + 1) (a + 1) := fun a => by
    constructor
    · intro g x hx c h1 h2
      have g2 := g (fun c => x (c + 1)) (SO_0 ((lk a (ab A) 0 x (fun _ _ _ => rfl)).mpr (SO_0 hx))) (c - 1) (by omega) (by omega)
      rw [show c - 1 + 1 = c by omega] at g2
      exact g2
    · intro g x hx c h1 h2
      have ex : (fun c => (fun c => x (c - 1)) (c + 1)) = x := by
        funext c
        rfl
      have g2 := g (fun c => x (c - 1)) (SO_0 ((lk a (ab A) 0 (fun c => x (c - 1)) (fun _ _ _ => rfl)).mp (by rw [ex]; exact SO_0 hx))) (c + 1) (by omega) (by omega)
      exact g2
  have hall : (∀ fr, fr < n → Inj (aW A) n fr) ↔ ∀ k, 1 ≤ k → k ≤ n → Inj (cE s) (n + 1) k := by
    constructor
    · intro g k h1 h2
      have g2 := (inj (k - 1)).mp (g (k - 1) (by omega))
      rw [show k - 1 + 1 = k by omega] at g2
      exact g2
    · intro g fr h
      exact (inj fr).mpr (g (fr + 1) (by omega) (by omega))
  refine ⟨?_, fun g k h1 h2 => ?_⟩
  · have := c1.trans (hall.symm.trans i1.symm)
    cases hc : (c_clr n s).1 <;> cases hd : icls A n n
    · rfl
    · exact absurd (hc.symm.trans (this.mpr hd)) Bool.false_ne_true
    · exact absurd (hd.symm.trans (this.mp hc)) Bool.false_ne_true
    · rfl
  · obtain ⟨q1, q2, q3⟩ := c2 g
    have hi := c1.mp g
    have s1 := (q3 1 _).mp (sol_so _ q1 q2)
    have hi0 : Inj (aW A) n 0 := (hall.mpr hi) 0 (by omega)
    have s2 := (lk 0 (ab A) 1 _ (fun _ _ _ => rfl)).mpr s1
    have u := uniq_so hi0 s2 (xsl_so hn hi0) (k - 1) (by omega) (by omega)
    rw [show k - 1 + 1 = k by omega] at u
    exact u
