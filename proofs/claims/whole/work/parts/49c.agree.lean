/-! Each call, made of both: the same answer, and the two stay tied -/
def EQ (r r' : Option AV) : Prop := ∃ v, r = some (ai v) ∧ r' = some (ai v)
def NO (r r' : Option AV) : Prop := r = none ∧ r' = none
theorem Rel_00 {σ : SS} (hR : Rel σ) : σ.2.2 6 1 = σ.2.2 0 0 := by
  rw [hR.1.1.1, hR.1.2.1.1, hR.1.2.2.1]
theorem mbt_e {σ s : SS} (hR : Rel σ) (h : s.2.2 6 1 = σ.2.2 6 1) (x : Int32) : mbt s x = bt σ x := by
  unfold mbt bt
  rw [h, Rel_00 hR]
theorem s60_cg {s σ : SS} (h : s.2.2 = σ.2.2) : (s60 s).2.2 = (s60 σ).2.2 := by
  unfold s60 sI
  dsimp only
  rw [h]
theorem s60_o (s : SS) (a j : Nat) (h : (a, j) ≠ (6, 0)) : (s60 s).2.2 a j = s.2.2 a j := if_neg (fun e => h (by rw [e.1, e.2]))
/-- what a body is told, in both -/
def T3 (s : SS) (k : Nat) : Prop := s.2.1 20 0 (16 * k + 3) = s.2.1 2 k 0 ∧ s.2.1 20 0 (16 * k + 4) = s.2.1 2 k 1 ∧ s.2.1 20 0 (16 * k + 14) = s.2.1 13 0 k ∧ g3 s (20, 0) (16 * k) = s.1 50 k ∧ g3 s (20, 0) (16 * k + 5) = s.1 51 k ∧ mIr s k = (s.1 52 k, s.1 53 k, s.1 54 k)
def T4 (s : SS) (k : Nat) : Prop := s.2.1 21 0 k = s.2.1 10 0 k ∧ s.2.1 22 0 k = s.2.1 11 0 k ∧ s.2.1 23 0 k = s.2.1 12 0 k ∧ s.2.1 14 0 k = 0 ∧ s.2.1 15 0 k = 0
theorem Rel_set {σ s : SS} (hR : Rel σ) (hI : ∀ a j, (a, j) ≠ (6, 0) → s.2.2 a j = σ.2.2 a j) (hg : gok s) (h3 : ∀ k, k < 8 → T3 s k) (h4 : ∀ k, k < 8 → T4 s k) (h5 : g3 s (24, 0) 0 = s.1 69 0 ∧ s.1 70 0 = (0, 0, 0)) : Rel s := by
  obtain ⟨⟨hC, hM, hn, -⟩, r2, -⟩ := hR
  have k1 : nn s = nn σ := by unfold nn; rw [hI 0 0 (by simp)]
  have k2 : mn s = mn σ := by unfold mn; rw [hI 6 1 (by simp)]
  have k3 : ∀ k, pa s k = pa σ k := fun k => by unfold pa; rw [hI 1 k (by simp)]
  have k4 : ∀ k, mp s k = mp σ k := fun k => by unfold mp; rw [hI 7 k (by simp)]
  refine ⟨⟨⟨?_, ?_, fun k q1 q2 => ?_⟩, ⟨?_, ?_, fun k q1 q2 => ?_⟩, ?_, hg⟩, fun k q1 q2 => ?_, h3, h4, h5⟩
  · rw [k1, hI 0 0 (by simp)]; exact hC.1
  · rw [k1]; exact hC.2.1
  · rw [k1] at q2; rw [k3, hI 1 k (by simp)]; exact hC.2.2 k q1 q2
  · rw [k2, hI 6 1 (by simp)]; exact hM.1
  · rw [k2]; exact hM.2.1
  · rw [k2] at q2; rw [k4, hI 7 k (by simp)]; exact hM.2.2 k q1 q2
  · rw [k1, k2]; exact hn
  · rw [k1] at q2
    rw [k3, k4, hI 8 k (by simp), hI 2 k (by simp)]
    exact r2 k q1 q2
theorem Rel_cg {σ s : SS} (hR : Rel σ) (hI : ∀ a j, (a, j) ≠ (6, 0) → s.2.2 a j = σ.2.2 a j) (hV : ∀ x j, (x < 55 ∨ 69 ≤ x ∨ (j = 0 ∧ x < 65)) → s.1 x j = σ.1 x j) (hL : ∀ a b j, (a = 2 ∨ a = 13 ∨ a = 20 ∨ a = 24) → s.2.1 a b j = σ.2.1 a b j) (h4 : ∀ k, k < 8 → T4 s k) : Rel s := by
  obtain ⟨⟨hC, hM, hn, hg⟩, r2, r3, r4, r5⟩ := id hR
  refine Rel_set hR hI ?_ (fun k hk => ?_) h4 ?_
  · unfold gok
    rw [hV 55 0 (by omega), hV 56 0 (by omega), hV 57 0 (by omega), hV 59 0 (by omega), hV 63 0 (by omega), hV 64 0 (by omega)]
    exact hg
  · have g20 : ∀ j, g3 s (20, 0) j = g3 σ (20, 0) j := fun j => g3_eq (fun j => hL 20 0 j (by omega))
    have hi : mIr s k = mIr σ k := by unfold mIr; simp only [hL 20 0 _ (Or.inr (Or.inr (Or.inl rfl)))]
    unfold T3
    rw [g20, g20, hi, hL 20 0 _ (by omega), hL 20 0 _ (by omega), hL 20 0 _ (by omega), hL 2 k _ (by omega), hL 2 k _ (by omega), hL 13 0 _ (by omega), hV 50 k (by omega), hV 51 k (by omega), hV 52 k (by omega), hV 53 k (by omega), hV 54 k (by omega)]
    exact r3 k hk
  · have g24 : g3 s (24, 0) 0 = g3 σ (24, 0) 0 := g3_eq (fun j => hL 24 0 j (by omega))
    rw [g24, hV 69 0 (by omega), hV 70 0 (by omega)]
    exact r5
theorem T3_of {s : SS} {k : Nat} {f : Nat → ZF} (hf : ∀ i, i < 16 → s.2.1 20 0 (16 * k + i) = f i) (h : f 3 = s.2.1 2 k 0 ∧ f 4 = s.2.1 2 k 1 ∧ f 14 = s.2.1 13 0 k ∧ (f 0, f 1, f 2) = s.1 50 k ∧ (f 5, f 6, f 7) = s.1 51 k ∧ ((f 8, f 11, f 12), (f 11, f 9, f 13), (f 12, f 13, f 10)) = (s.1 52 k, s.1 53 k, s.1 54 k)) : T3 s k := by
  obtain ⟨h1, h2, h3, h4, h5, h6⟩ := h
  refine ⟨(hf 3 (by decide)).trans h1, (hf 4 (by decide)).trans h2, (hf 14 (by decide)).trans h3, ?_, ?_, ?_⟩
  · show (s.2.1 20 0 (16 * k + 0), s.2.1 20 0 (16 * k + 1), s.2.1 20 0 (16 * k + 2)) = _
    rw [hf 0 (by decide), hf 1 (by decide), hf 2 (by decide)]
    exact h4
  · show (s.2.1 20 0 (16 * k + 5), s.2.1 20 0 (16 * k + 6), s.2.1 20 0 (16 * k + 7)) = _
    rw [hf 5 (by decide), hf 6 (by decide), hf 7 (by decide)]
    exact h5
  · unfold mIr
    rw [hf 8 (by decide), hf 9 (by decide), hf 10 (by decide), hf 11 (by decide), hf 12 (by decide), hf 13 (by decide)]
    exact h6
theorem T3_to {s : SS} {k : Nat} (h : T3 s k) : s.2.1 20 0 (16 * k + 3) = s.2.1 2 k 0 ∧ s.2.1 20 0 (16 * k + 4) = s.2.1 2 k 1 ∧ s.2.1 20 0 (16 * k + 14) = s.2.1 13 0 k ∧ (s.2.1 20 0 (16 * k), s.2.1 20 0 (16 * k + 1), s.2.1 20 0 (16 * k + 2)) = s.1 50 k ∧ (s.2.1 20 0 (16 * k + 5), s.2.1 20 0 (16 * k + 6), s.2.1 20 0 (16 * k + 7)) = s.1 51 k ∧ ((s.2.1 20 0 (16 * k + 8), s.2.1 20 0 (16 * k + 11), s.2.1 20 0 (16 * k + 12)), (s.2.1 20 0 (16 * k + 11), s.2.1 20 0 (16 * k + 9), s.2.1 20 0 (16 * k + 13)), (s.2.1 20 0 (16 * k + 12), s.2.1 20 0 (16 * k + 13), s.2.1 20 0 (16 * k + 10))) = (s.1 52 k, s.1 53 k, s.1 54 k) := h
theorem p3_20 (s : SS) (K o : Nat) (v : V3) (ho : o + 3 ≤ 16) (k i : Nat) (hi : i < 16) : (p3 s (20, 0) (16 * K + o) v).2.1 20 0 (16 * k + i) = if k = K ∧ o ≤ i ∧ i < o + 3 then vco (i - o) v else s.2.1 20 0 (16 * k + i) := by
  by_cases h : k = K ∧ o ≤ i ∧ i < o + 3
  · rw [if_pos h]
    obtain ⟨rfl, h1, h2⟩ := h
    have e := fl_i s (20, 0) (16 * k + o) 3 (fun c => vco c v) (j := 16 * k + i) ⟨by omega, by omega⟩
    exact e.trans (congrArg (fun c => vco c v) (by omega))
  · rw [if_neg h]
    exact fl_o _ _ _ _ _ _ _ (by omega)
theorem sL_20 (s : SS) (K o : Nat) (x : ZF) (ho : o < 16) (k i : Nat) (hi : i < 16) : (sL s 20 0 (16 * K + o) x).2.1 20 0 (16 * k + i) = if k = K ∧ i = o then x else s.2.1 20 0 (16 * k + i) := by
  by_cases h : k = K ∧ i = o
  · rw [if_pos h]
    obtain ⟨rfl, rfl⟩ := h
    exact sL_at _ _ _ _ _
  · rw [if_neg h]
    exact sL_n3 _ _ _ _ _ (by omega)
theorem p3_n (s : SS) (K : Nat) (v : V3) {t a : Nat} (b j : Nat) (h : a ≠ t) : (p3 s (t, 0) K v).2.1 a b j = s.2.1 a b j := fl_n _ _ _ _ _ _ _ h
theorem sV_e (σ : SS) (kd k a b : Nat) (v : V3) : (sV σ kd k v).1 a b = if a = kd ∧ b = k then v else σ.1 a b := rfl
theorem sL_e (σ : SS) (kd k i a b j : Nat) (x : ZF) : (sL σ kd k i x).2.1 a b j = if a = kd ∧ b = k ∧ j = i then x else σ.2.1 a b j := rfl
theorem gok_0 {σ s : SS} (h : ∀ x, s.1 x 0 = σ.1 x 0) (hg : gok σ) : gok s := by
  unfold gok
  rw [h, h, h, h, h, h]
  exact hg
/-- a setter of a body, in both -/
theorem ag_set {σ : SS} (hR : Rel σ) (x : Int32) (f g : SS → SS) (h1 : (f σ).2.2 = σ.2.2) (hfg : 1 ≤ ix x → Rel (g (f σ))) :
    CI σ ∧ MI (bif bt σ x then f σ else σ) ∧ EQ (some (ai (bz (bt σ x)))) (some (ai (bz (mbt (bif bt σ x then f σ else σ) x)))) ∧ Rel (bif mbt (bif bt σ x then f σ else σ) x then g (bif bt σ x then f σ else σ) else s60 (bif bt σ x then f σ else σ)) := by
  refine ⟨hR.1.1, ?_⟩
  cases hb : bt σ x with
  | false =>
    have hm : mbt σ x = false := (mbt_e hR rfl x).trans hb
    show MI σ ∧ EQ (some (ai (bz false))) (some (ai (bz (mbt σ x)))) ∧ Rel (bif mbt σ x then g σ else s60 σ)
    rw [hm]
    exact ⟨hR.1.2.1, ⟨_, rfl, rfl⟩, KR_Rel (KR_K25 (K25_rf _)) hR⟩
  | true =>
    have hm : mbt (f σ) x = true := (mbt_e hR (by rw [h1]) x).trans hb
    show MI (f σ) ∧ EQ (some (ai (bz true))) (some (ai (bz (mbt (f σ) x)))) ∧ Rel (bif mbt (f σ) x then g (f σ) else s60 (f σ))
    rw [hm]
    obtain ⟨k, q1, q2, rfl⟩ := bt_k hR.1.1 hb
    have h7 := hR.1.1.2.1
    exact ⟨MI_of h1 hR.1.2.1, ⟨_, rfl, rfl⟩, hfg (by rw [ix_k (by omega)]; exact q1)⟩
theorem nzK {K : Nat} (h : 1 ≤ K) : ¬ (0 = K) := by omega
theorem ag_place {σ : SS} (hR : Rel σ) (x a b c : Int32) : sp_X5_place [ar 0 0, ai x, ai a, ai b, ai c] σ (fun r s => sp_X6_place [ar 6 0, ai x, ai a, ai b, ai c] s (fun r' s' => EQ r r' ∧ Rel s')) := by
  refine ag_set hR x (fun s => sV s 50 (ix x) (fi a, fi b, fi c)) (fun s => p3 (s60 s) (20, 0) (16 * ix x + 0) (fi a, fi b, fi c)) rfl (fun hK => ?_)
  generalize ix x = K at hK
  obtain ⟨⟨hC, hM, hn, hg⟩, r2, r3, r4, r5⟩ := id hR
  refine Rel_set hR (fun a j q => s60_o _ a j q) (gok_0 (fun y => if_neg (fun e => nzK hK e.2)) hg) (fun k hk => ?_) (fun k hk => ?_) ?_
  · refine T3_of (fun i hi => p3_20 _ K 0 _ (by decide) k i hi) ?_
    obtain ⟨a1, a2, a3, a4, a5, a6⟩ := T3_to (r3 k hk)
    by_cases e : k = K
    · subst e
      simp [p3, fl, s60, sI, sV, vco, a1, a2, a3, a5, a6]
    · simp [p3, fl, s60, sI, sV, vco, e, a1, a2, a3, a4, a5, a6]
  · exact r4 k hk
  · exact ⟨r5.1, r5.2⟩
theorem ag_centre {σ : SS} (hR : Rel σ) (x a b c : Int32) : sp_X5_centre [ar 0 0, ai x, ai a, ai b, ai c] σ (fun r s => sp_X6_centre [ar 6 0, ai x, ai a, ai b, ai c] s (fun r' s' => EQ r r' ∧ Rel s')) := by
  refine ag_set hR x (fun s => sV s 51 (ix x) (fi a, fi b, fi c)) (fun s => p3 (s60 s) (20, 0) (16 * ix x + 5) (fi a, fi b, fi c)) rfl (fun hK => ?_)
  generalize ix x = K at hK
  obtain ⟨⟨hC, hM, hn, hg⟩, r2, r3, r4, r5⟩ := id hR
  refine Rel_set hR (fun a j q => s60_o _ a j q) (gok_0 (fun y => if_neg (fun e => nzK hK e.2)) hg) (fun k hk => ?_) (fun k hk => ?_) ?_
  · refine T3_of (fun i hi => p3_20 _ K 5 _ (by decide) k i hi) ?_
    obtain ⟨a1, a2, a3, a4, a5, a6⟩ := T3_to (r3 k hk)
    by_cases e : k = K
    · subst e
      simp [p3, fl, s60, sI, sV, vco, a1, a2, a3, a4, a6]
      all_goals exact a4
    · simp [p3, fl, s60, sI, sV, vco, e, a1, a2, a3, a5, a6]
      all_goals exact a4
  · exact r4 k hk
  · exact ⟨r5.1, r5.2⟩
theorem ag_inertia {σ : SS} (hR : Rel σ) (x a b c : Int32) : sp_X5_inertia [ar 0 0, ai x, ai a, ai b, ai c] σ (fun r s => sp_X6_inertia [ar 6 0, ai x, ai a, ai b, ai c] s (fun r' s' => EQ r r' ∧ Rel s')) := by
  refine ag_set hR x (fun s => sV (sV (sV s 52 (ix x) (vse 0 (fi a) (s.1 52 (ix x)))) 53 (ix x) (vse 1 (fi b) (s.1 53 (ix x)))) 54 (ix x) (vse 2 (fi c) (s.1 54 (ix x)))) (fun s => p3 (s60 s) (20, 0) (16 * ix x + 8) (fi a, fi b, fi c)) rfl (fun hK => ?_)
  generalize ix x = K at hK
  obtain ⟨⟨hC, hM, hn, hg⟩, r2, r3, r4, r5⟩ := id hR
  refine Rel_set hR (fun a j q => s60_o _ a j q) (gok_0 (fun y => (if_neg (fun e => nzK hK e.2)).trans ((if_neg (fun e => nzK hK e.2)).trans (if_neg (fun e => nzK hK e.2)))) hg) (fun k hk => ?_) (fun k hk => ?_) ?_
  · refine T3_of (fun i hi => p3_20 _ K 8 _ (by decide) k i hi) ?_
    obtain ⟨a1, a2, a3, a4, a5, a6⟩ := T3_to (r3 k hk)
    by_cases e : k = K
    · subst e
      simp only [Prod.mk.injEq] at a6
      obtain ⟨b1, b2, b3⟩ := a6
      simp [p3, fl, s60, sI, sV, vco, vse, a1, a2, a3, a5, ← b1, ← b2, ← b3]
      all_goals exact a4
    · simp [p3, fl, s60, sI, sV, vco, vse, e, a1, a2, a3, a5, a6]
      all_goals exact a4
  · exact r4 k hk
  · exact ⟨r5.1, r5.2⟩
theorem ag_products {σ : SS} (hR : Rel σ) (x a b c : Int32) : sp_X5_products [ar 0 0, ai x, ai a, ai b, ai c] σ (fun r s => sp_X6_products [ar 6 0, ai x, ai a, ai b, ai c] s (fun r' s' => EQ r r' ∧ Rel s')) := by
  refine ag_set hR x (fun s => i_oth s (ix x) (fi a) (fi b) (fi c)) (fun s => p3 (s60 s) (20, 0) (16 * ix x + 11) (fi a, fi b, fi c)) rfl (fun hK => ?_)
  generalize ix x = K at hK
  obtain ⟨⟨hC, hM, hn, hg⟩, r2, r3, r4, r5⟩ := id hR
  have e0 : ∀ y, (i_oth σ K (fi a) (fi b) (fi c)).1 y 0 = σ.1 y 0 := fun y => by
    unfold i_oth
    simp [sV, nzK hK]
  have e9 : ∀ y, 69 ≤ y → (i_oth σ K (fi a) (fi b) (fi c)).1 y 0 = σ.1 y 0 := fun y _ => e0 y
  refine Rel_set hR (fun a j q => s60_o _ a j q) (gok_0 e0 hg) (fun k hk => ?_) (fun k hk => ?_) ?_
  · refine T3_of (fun i hi => p3_20 _ K 11 _ (by decide) k i hi) ?_
    obtain ⟨a1, a2, a3, a4, a5, a6⟩ := T3_to (r3 k hk)
    by_cases e : k = K
    · subst e
      simp only [Prod.mk.injEq] at a6
      obtain ⟨b1, b2, b3⟩ := a6
      simp [p3, fl, s60, sI, sV, vco, vse, i_oth, a1, a2, a3, a5, ← b1, ← b2, ← b3]
      all_goals exact a4
    · simp [p3, fl, s60, sI, sV, vco, vse, i_oth, e, a1, a2, a3, a5, a6]
      all_goals exact a4
  · exact r4 k hk
  · exact ⟨r5.1.trans (e9 69 (by decide)).symm, (e9 70 (by decide)).trans r5.2⟩
theorem ag_tilt {σ : SS} (hR : Rel σ) (x a : Int32) : sp_X5_tilt [ar 0 0, ai x, ai a] σ (fun r s => sp_X6_tilt [ar 6 0, ai x, ai a] s (fun r' s' => EQ r r' ∧ Rel s')) := by
  refine ag_set hR x (fun s => sL s 2 (ix x) 0 (fi a)) (fun s => sL (s60 s) 20 0 (16 * ix x + 3) (fi a)) rfl (fun hK => ?_)
  generalize ix x = K at hK
  obtain ⟨⟨hC, hM, hn, hg⟩, r2, r3, r4, r5⟩ := id hR
  refine Rel_set hR (fun a j q => s60_o _ a j q) hg (fun k hk => ?_) (fun k hk => r4 k hk) r5
  refine T3_of (fun i hi => sL_20 _ K 3 _ (by decide) k i hi) ?_
  obtain ⟨a1, a2, a3, a4, a5, a6⟩ := T3_to (r3 k hk)
  by_cases e : k = K
  · subst e
    simp [s60, sI, sL, a2, a3, a5, a6]
    all_goals exact a4
  · simp [s60, sI, sL, e, a1, a2, a3, a5, a6]
    all_goals exact a4
theorem ag_mass {σ : SS} (hR : Rel σ) (x a : Int32) : sp_X5_mass [ar 0 0, ai x, ai a] σ (fun r s => sp_X6_mass [ar 6 0, ai x, ai a] s (fun r' s' => EQ r r' ∧ Rel s')) := by
  refine ag_set hR x (fun s => sL s 2 (ix x) 1 (fi a)) (fun s => sL (s60 s) 20 0 (16 * ix x + 4) (fi a)) rfl (fun hK => ?_)
  generalize ix x = K at hK
  obtain ⟨⟨hC, hM, hn, hg⟩, r2, r3, r4, r5⟩ := id hR
  refine Rel_set hR (fun a j q => s60_o _ a j q) hg (fun k hk => ?_) (fun k hk => r4 k hk) r5
  refine T3_of (fun i hi => sL_20 _ K 4 _ (by decide) k i hi) ?_
  obtain ⟨a1, a2, a3, a4, a5, a6⟩ := T3_to (r3 k hk)
  by_cases e : k = K
  · subst e
    simp [s60, sI, sL, a1, a3, a5, a6]
    all_goals exact a4
  · simp [s60, sI, sL, e, a1, a2, a3, a5, a6]
    all_goals exact a4
theorem ag_torque {σ : SS} (hR : Rel σ) (x a : Int32) : sp_X5_torque [ar 0 0, ai x, ai a] σ (fun r s => sp_X6_torque [ar 6 0, ai x, ai a] s (fun r' s' => EQ r r' ∧ Rel s')) := by
  refine ag_set hR x (fun s => sL s 13 0 (ix x) (fi a)) (fun s => sL (s60 s) 20 0 (16 * ix x + 14) (fi a)) rfl (fun hK => ?_)
  generalize ix x = K at hK
  obtain ⟨⟨hC, hM, hn, hg⟩, r2, r3, r4, r5⟩ := id hR
  refine Rel_set hR (fun a j q => s60_o _ a j q) hg (fun k hk => ?_) (fun k hk => r4 k hk) r5
  refine T3_of (fun i hi => sL_20 _ K 14 _ (by decide) k i hi) ?_
  obtain ⟨a1, a2, a3, a4, a5, a6⟩ := T3_to (r3 k hk)
  by_cases e : k = K
  · subst e
    simp [s60, sI, sL, a1, a2, a5, a6]
    all_goals exact a4
  · simp [s60, sI, sL, e, a1, a2, a3, a5, a6]
    all_goals exact a4
theorem ag_joint {σ : SS} (hR : Rel σ) (x a b c : Int32) : sp_X5_joint [ar 0 0, ai x, ai a, ai b, ai c] σ (fun r s => sp_X6_joint [ar 6 0, ai x, ai a, ai b, ai c] s (fun r' s' => EQ r r' ∧ Rel s')) := by
  refine ag_set hR x (fun s => sL (sL (sL s 10 0 (ix x) (fi a)) 11 0 (ix x) (fi b)) 12 0 (ix x) (fi c)) (fun s => sL (sL (sL (s60 s) 21 0 (ix x) (fi a)) 22 0 (ix x) (fi b)) 23 0 (ix x) (fi c)) rfl (fun hK => ?_)
  generalize ix x = K at hK
  obtain ⟨⟨hC, hM, hn, hg⟩, r2, r3, r4, r5⟩ := id hR
  refine Rel_set hR (fun a j q => s60_o _ a j q) hg (fun k hk => r3 k hk) (fun k hk => ?_) r5
  obtain ⟨a1, a2, a3, a4, a5⟩ := r4 k hk
  unfold T4
  simp [s60, sI, sL, a1, a2, a3, a4, a5]
theorem ag_gravity {σ : SS} (hR : Rel σ) (a b c : Int32) : sp_X5_gravity [ar 0 0, ai a, ai b, ai c] σ (fun r s => sp_X6_gravity [ar 6 0, ai a, ai b, ai c] s (fun r' s' => NO r r' ∧ Rel s')) := by
  show NO none none ∧ Rel (p3 (s60 (sV σ 69 0 (fi a, fi b, fi c))) (24, 0) 0 (fi a, fi b, fi c))
  refine ⟨⟨rfl, rfl⟩, ?_⟩
  obtain ⟨⟨hC, hM, hn, hg⟩, r2, r3, r4, r5⟩ := id hR
  refine Rel_set hR (fun a j q => s60_o _ a j q) hg (fun k hk => r3 k hk) (fun k hk => r4 k hk) ⟨?_, r5.2⟩
  exact g3_p _ _ _ _
/-! those that ask -/
theorem Rel_ask {σ s t : SS} (hR : Rel σ) (h : KR σ s) (h2 : K25 (s60 s) t) : Rel t := KR_Rel (KR_tr h (KR_K25 h2)) hR
theorem nds_tq2 {σ s m : SS} (hR : Rel σ) (h : CS σ s) (m0 : m.2.2 = (s60 σ).2.2) (m1 : ∀ a j, 20 ≤ a → a < 25 → m.2.1 a 0 j = σ.2.1 a 0 j) (k : Nat) (h1 : 1 ≤ k) (h2 : k ≤ nn σ) : (c_ned s (69, 0) (11, 0) (12, 0)).2.1 16 0 k = tq (m_asi m true) k := by
  have hR' := hR
  obtain ⟨⟨hI, hM, hn, hg⟩, r2, r3, r4, r5⟩ := hR'
  have h7 := hI.2.1
  obtain ⟨e1, e2, e3⟩ := as1_e true m (mn m)
  have hmn : mn m = nn σ := by rw [mn_of m0, s60_n, hn]
  refine ned_rel2 (s := s) (m := upf (as1 true) m (mn m)) hR (11, 0) (12, 0) true h.2.2.2.2 h.1 h.2.1 (fun a b j q => h.2.2.1 a b j (Or.inl q)) (e1.trans m0) (fun a j q1 q2 => (e2 a j (by omega)).trans (m1 a j q1 q2)) (fun k a b' => ?_) (fun k a b' => ?_) k h1 h2
  · rw [(e3 k a (by omega)).1, m1 22 _ (by decide) (by decide), (r4 k (by omega)).2.1]
    exact (h.2.2.1 11 0 k (by omega)).symm
  · rw [(e3 k a (by omega)).2]
    show m.2.1 23 0 k = _
    rw [m1 23 _ (by decide) (by decide), (r4 k (by omega)).2.2.1]
    exact (h.2.2.1 12 0 k (by omega)).symm
/-- an answer about one body -/
theorem ag_ask {σ : SS} (hR : Rel σ) (b : Bool) (m : SS → Bool) (c : SS) (u : ZF) (v : SS → ZF) (hb : ∀ s, s.2.2 = σ.2.2 → m s = b) (hC : CS σ c) (he : b = true → u = v c) :
    CI σ ∧ MI (bif b then c else σ) ∧ ∀ t, K25 (s60 (bif b then c else σ)) t → EQ (some (ai (bif b then nI u.val else (-1)))) (some (ai (bif m (bif b then c else σ) then nI (v (bif b then c else σ)).val else (-1)))) ∧ Rel t := by
  cases b with
  | false =>
    refine ⟨hR.1.1, hR.1.2.1, fun t ht => ⟨?_, Rel_ask hR (KR_rf σ) ht⟩⟩
    show EQ (some (ai (-1))) (some (ai (bif m σ then nI (v σ).val else (-1))))
    rw [hb σ rfl]
    exact ⟨_, rfl, rfl⟩
  | true =>
    refine ⟨hR.1.1, MI_of hC.2.1 hR.1.2.1, fun t ht => ⟨?_, Rel_ask hR (CS_KR hC) ht⟩⟩
    show EQ (some (ai (nI u.val))) (some (ai (bif m c then nI (v c).val else (-1))))
    rw [hb c hC.2.1, he rfl]
    exact ⟨_, rfl, rfl⟩
theorem bt_n {σ : SS} (hR : Rel σ) {x : Int32} (h : bt σ x = true) : 1 ≤ ix x ∧ ix x ≤ nn σ := by
  obtain ⟨k, q1, q2, rfl⟩ := bt_k hR.1.1 h
  have h7 := hR.1.1.2.1
  rw [ix_k (by omega)]
  exact ⟨q1, q2⟩
theorem CS_m0 {σ c : SS} (h : CS σ c) : (s60 c).2.2 = (s60 σ).2.2 := s60_cg h.2.1
theorem CS_m1 {σ c : SS} (h : CS σ c) : ∀ a j, 20 ≤ a → a < 25 → (s60 c).2.1 a 0 j = σ.2.1 a 0 j := fun a j q _ => h.2.2.1 a 0 j (Or.inr q)
theorem ag_needs {σ : SS} (hR : Rel σ) (x : Int32) : sp_X5_needs [ar 0 0, ai x] σ (fun r s => sp_X6_needs [ar 6 0, ai x] s (fun r' s' => EQ r r' ∧ Rel s')) := by
  have hC : CS σ (c_nds σ) := CS_ned _ _ _ hR.1.1 (CS_std hR)
  exact ag_ask hR (bt σ x) (fun s => mbt s x) (c_nds σ) ((c_nds σ).2.1 16 0 (ix x)) (fun s => tq (m_asi (s60 s) true) (ix x)) (fun s h => mbt_e hR (by rw [h]) x) hC (fun h => nds_tq2 hR (CS_std hR) (CS_m0 hC) (CS_m1 hC) _ (bt_n hR h).1 (bt_n hR h).2)
theorem ag_bias {σ : SS} (hR : Rel σ) (x : Int32) : sp_X5_bias [ar 0 0, ai x] σ (fun r s => sp_X6_bias [ar 6 0, ai x] s (fun r' s' => EQ r r' ∧ Rel s')) := by
  have hC : CS σ (c_bia σ) := CS_ned _ _ _ hR.1.1 (CS_std hR)
  exact ag_ask hR (bt σ x) (fun s => mbt s x) (c_bia σ) ((c_bia σ).2.1 16 0 (ix x)) (fun s => tq (m_asi (s60 s) false) (ix x)) (fun s h => mbt_e hR (by rw [h]) x) hC (fun h => bia_tq2 hR (CS_std hR) (CS_m0 hC) (CS_m1 hC) _ (bt_n hR h).1 (bt_n hR h).2)
theorem and_t {a b : Bool} (h : (a && b) = true) : a = true ∧ b = true := by rwa [Bool.and_eq_true] at h
theorem ag_matrix {σ : SS} (hR : Rel σ) (x y : Int32) : sp_X5_matrix [ar 0 0, ai x, ai y] σ (fun r s => sp_X6_matrix [ar 6 0, ai x, ai y] s (fun r' s' => EQ r r' ∧ Rel s')) := by
  obtain ⟨hC, hv⟩ := col_CS hR (CS_std hR) (ix y)
  refine ag_ask hR (bt σ x && bt σ y) (fun s => mbt s x && mbt s y) (c_col (c_std σ) (ix y)) ((c_col (c_std σ) (ix y)).2.1 19 (ix x) (ix y)) (fun s => tq (m_alo (s60 s) (ix y)) (ix x)) (fun s h => by rw [mbt_e hR (by rw [h]) x, mbt_e hR (by rw [h]) y]) hC (fun h => ?_)
  obtain ⟨h1, h2⟩ := and_t h
  have n1 := bt_n hR h1
  rw [hv, if_pos ⟨rfl, n1⟩, mtx_e hR (CS_m0 hC) (CS_m1 hC) _ _ n1.1 n1.2]
theorem std_D2 {σ m : SS} (hR : Rel σ) (hm : m.2 = (s60 σ).2) (k : Nat) (h1 : 1 ≤ k) (h2 : k ≤ nn σ) : (c_std σ).1 59 k = mO (m_asi m true) k ∧ (c_std σ).1 57 k = mU (m_asi m true) k ∧ (c_std σ).1 61 k = mA (m_asi m true) k ∧ (c_std σ).1 62 k = v_add (mO (m_asi m true) k) (mA (m_asi m true) k) := by
  have hR' := hR
  obtain ⟨⟨hI, hM, hn, hg⟩, r2, r3, r4, r5⟩ := hR'
  have h7 := hI.2.1
  obtain ⟨e1, e2, e3⟩ := as1_e true m (mn m)
  have hmI : m.2.2 = (s60 σ).2.2 := congrArg Prod.snd hm
  have hmL : m.2.1 = σ.2.1 := (congrArg Prod.fst hm).trans (s60_l σ)
  have hmn : mn m = nn σ := by rw [mn_of hmI, s60_n, hn]
  have key := (ned_rel (s := c_std σ) (m := upf (as1 true) m (mn m)) hR (11, 0) (12, 0) true rfl (c_std_I σ) (fun a b j _ => by rw [c_std_2]) (Or.inl (e1.trans hmI)) (fun a j ha => (e2 a j ha).trans (by rw [hmL])) (fun k a b' => by rw [(e3 k a (by omega)).1, c_std_2, hmL, (r4 k (by omega)).2.1]) (fun k a b' => by rw [(e3 k a (by omega)).2, c_std_2, hmL]; exact (r4 k (by omega)).2.2.1)).2 k h1 h2
  have hm2 : m_mov (upf (as1 true) m (mn m)) true = m_asi m true := rfl
  rw [hm2] at key
  unfold Dm at key
  simp only [Prod.mk.injEq] at key
  obtain ⟨-, k1, k2, k3⟩ := key
  refine ⟨k1, k2, k3, ?_⟩
  obtain ⟨-, -, -, -, c5, -⟩ := std_ok hR
  rw [(c5 k h1 h2 0 0).2.2.2.2.2, k1, k3]
theorem where_e2 {σ m : SS} (hR : Rel σ) (hm : m.2 = (s60 σ).2) (k w : Nat) (h1 : 1 ≤ k) (h2 : k ≤ nn σ) (hw : w ≤ 8) : wan (c_std σ) k w = mwa (m_asi m true) k w := by
  obtain ⟨d1, d2, d3, d4⟩ := std_D2 hR hm k h1 h2
  unfold wan mwa wvk
  by_cases w1 : w < 3
  · rw [if_pos w1, if_pos (by omega), d1]
    exact prt_g _ _ _ _ (by omega)
  · rw [if_neg w1, if_neg (by omega)]
    by_cases w2 : w < 6
    · rw [if_pos w2, if_pos (by omega), d4, prt_add]
      unfold mO mA
      rw [prt_g _ _ _ _ (by omega), prt_g _ _ _ _ (by omega)]
    · rw [if_neg w2, if_neg (by omega), d2]
      exact prt_g _ _ _ _ (by omega)
theorem weight_e2 {σ m : SS} (hR : Rel σ) (hm : m.2 = (s60 σ).2) (w : Nat) (hw : w ≤ 3) : ∀ n, n ≤ nn σ → wsum (c_std σ) (nI w) n = mws (m_asi m true) (nI w) n
  | 0, _ => rfl
  | n + 1, h => by
    have hR' := hR
    obtain ⟨⟨hI, hM, hn, hg⟩, r2, r3, r4, r5⟩ := hR'
    have h7 := hI.2.1
    have hmL : m.2.1 = σ.2.1 := (congrArg Prod.fst hm).trans (s60_l σ)
    obtain ⟨d1, d2, d3, d4⟩ := std_D2 hR hm (n + 1) (by omega) h
    unfold wsum mws
    rw [weight_e2 hR hm w hw n (by omega), c_std_2, (K25_asi m true).2.2 20 0 _ (by decide), hmL, (r3 (n + 1) (by omega)).2.1]
    unfold wfa mfa
    by_cases q : nI w = nI 3
    · rw [if_pos q, if_pos q]
    · have q2 : ¬ w = 3 := fun e => q (by rw [e])
      rw [if_neg q, if_neg q, d4, prt_add, show ix (nI w) = w from nI_clamp (by omega)]
      unfold mO mA
      rw [prt_g _ _ _ _ (by omega), prt_g _ _ _ _ (by omega)]
theorem std_m (σ : SS) : (s60 (c_std σ)).2 = (s60 σ).2 := by
  have h1 : (s60 (c_std σ)).2.2 = (s60 σ).2.2 := s60_cg (c_std_I σ)
  have h2 : (s60 (c_std σ)).2.1 = (s60 σ).2.1 := by rw [s60_l, s60_l, c_std_2]
  exact Prod.ext h2 h1
theorem ag_where {σ : SS} (hR : Rel σ) (x w : Int32) : sp_X5_where [ar 0 0, ai x, ai w] σ (fun r s => sp_X6_where [ar 6 0, ai x, ai w] s (fun r' s' => EQ r r' ∧ Rel s')) := by
  refine ag_ask hR (bt σ x && wok w) (fun s => mbt s x && wok w) (c_std σ) (wan (c_std σ) (ix x) (ix w)) (fun s => mwa (m_asi (s60 s) true) (ix x) (ix w)) (fun s h => by rw [mbt_e hR (by rw [h]) x]) (CS_std hR) (fun h => ?_)
  obtain ⟨h1, h2⟩ := and_t h
  have n1 := bt_n hR h1
  obtain ⟨j, hj, rfl⟩ := wok_k h2
  have ej : ix (nI j) = j := nI_clamp (by omega)
  rw [ej]
  exact where_e2 hR (std_m σ) _ _ n1.1 n1.2 hj
theorem aok_k {w : Int32} (h : aok w = true) : ∃ j, j ≤ 3 ∧ w = nI j := by
  unfold aok at h
  rw [Bool.and_eq_true, decide_eq_true_iff, decide_eq_true_iff] at h
  obtain ⟨h1, h2⟩ := h
  obtain ⟨j, hj, rfl⟩ := nI_of h1
  rw [nI_ltI (by decide) hj] at h2
  exact ⟨j, by omega, rfl⟩
theorem ag_weight {σ : SS} (hR : Rel σ) (w : Int32) : sp_X5_weight [ar 0 0, ai w] σ (fun r s => sp_X6_weight [ar 6 0, ai w] s (fun r' s' => EQ r r' ∧ Rel s')) := by
  refine ag_ask hR (aok w) (fun _ => aok w) (c_std σ) (wsum (c_std σ) w (nn σ)) (fun s => mws (m_asi (s60 s) true) w (mn s)) (fun _ _ => rfl) (CS_std hR) (fun h => ?_)
  obtain ⟨j, hj, rfl⟩ := aok_k h
  rw [weight_e2 hR (std_m σ) j hj (nn σ) (Nat.le_refl _), mn_of (c_std_I σ), hR.1.2.2.1]
theorem ag_acceleration {σ : SS} (hR : Rel σ) (x : Int32) : sp_X5_acceleration [ar 0 0, ai x] σ (fun r s => sp_X6_acceleration [ar 6 0, ai x] s (fun r' s' => EQ r r' ∧ Rel s')) := by
  show CI σ ∧ MI σ ∧ EQ (some (ai (bif bt σ x then nI (σ.2.1 12 0 (ix x)).val else (-1)))) (some (ai (bif mbt σ x then nI (σ.2.1 23 0 (ix x)).val else (-1)))) ∧ Rel (s60 σ)
  refine ⟨hR.1.1, hR.1.2.1, ?_, KR_Rel (KR_K25 (K25_rf _)) hR⟩
  rw [mbt_e hR rfl x]
  cases hb : bt σ x with
  | false => exact ⟨_, rfl, rfl⟩
  | true =>
    have n1 := bt_n hR hb
    have h7 := hR.1.1.2.1
    rw [(hR.2.2.2.1 (ix x) (by omega)).2.2.1]
    exact ⟨_, rfl, rfl⟩
theorem ag_energy {σ : SS} (hR : Rel σ) : sp_X5_energy [ar 0 0] σ (fun r s => sp_X6_energy [ar 6 0] s (fun r' s' => EQ r r' ∧ Rel s')) := by
  have hC : CS σ (c_ene σ) := CS_ned _ _ _ hR.1.1 (CS_std hR)
  have hn : mn (c_ene σ) = nn σ := (mn_of hC.2.1).trans hR.1.2.2.1
  show CI σ ∧ MI (c_ene σ) ∧ ∃ M : Nat → Nat → ZF, (∀ s, K25 (s60 (c_ene σ)) s → ∀ i j, (1 ≤ i ∧ i ≤ mn (c_ene σ)) → (1 ≤ j ∧ j ≤ mn (c_ene σ)) → tq (m_alo s i) j = M j i) ∧ ∀ s, K25 (s60 (c_ene σ)) s → EQ (some (ai (nI (esum (c_ene σ) (nn σ)).val))) (some (ai (nI (men (c_ene σ) M (mn (c_ene σ)) (mn (c_ene σ))).val))) ∧ Rel s
  refine ⟨hR.1.1, MI_of hC.2.1 hR.1.2.1, mtx σ, fun s hs i j hi hj => ?_, fun s hs => ⟨?_, Rel_ask hR (CS_KR hC) hs⟩⟩
  · rw [hn] at hj
    exact mtx_e hR (hs.2.1.trans (CS_m0 hC)) (fun a j q1 q2 => (hs.2.2 a 0 j q2).trans (CS_m1 hC a j q1 q2)) i j hj.1 hj.2
  · rw [hn, energy_e (s := c_ene σ) hR (fun j hj => (hC.2.2.1 22 0 j (by omega)).trans (hR.2.2.2.1 j hj).2.1)]
    exact ⟨_, rfl, rfl⟩
theorem ag_forward {σ : SS} (hR : Rel σ) : sp_X5_forward [ar 0 0] σ (fun r s => sp_X6_forward [ar 6 0] s (fun r' s' => EQ r r' ∧ Rel s')) := by
  have hR' := hR
  obtain ⟨⟨hI, hM, hn, hg⟩, r2, r3, r4, r5⟩ := hR'
  have h7 := hI.2.1
  obtain ⟨A0, hA0, hB0⟩ : ∃ A, kpt A (mtx σ) (nn σ) (nn σ) ∧ kpg A (lfo σ) (nn σ) := by
    refine ⟨fun q => if q % 8 = 7 then lfo σ (q / 8 + 1) else mtx σ (q / 8 + 1) (q % 8 + 1), fun i j hi hj => ?_, fun j hj => ?_⟩
    · dsimp only
      rw [if_neg (by omega), show (8 * (j - 1) + i - 1) / 8 + 1 = j by omega, show (8 * (j - 1) + i - 1) % 8 + 1 = i by omega]
    · dsimp only
      rw [if_pos (by omega), show (8 * (j - 1) + 7) / 8 + 1 = j by omega]
  obtain ⟨-, c1, c2, c3, c4, -⟩ := fwd_e hR hA0 hB0
  have hn1 : mn (c_fwe σ) = nn σ := (mn_of c2).trans hn
  have m0 : (s60 (c_fwe σ)).2.2 = (s60 σ).2.2 := s60_cg c2
  show CI σ ∧ MI (c_fwe σ) ∧ ∃ (M : Nat → Nat → ZF) (B : Nat → ZF), (∀ s, K25 (s60 (c_fwe σ)) s → ∀ i j, (1 ≤ i ∧ i ≤ mn (c_fwe σ)) → (1 ≤ j ∧ j ≤ mn (c_fwe σ)) → tq (m_alo s i) j = M j i) ∧ (∀ s, K25 (s60 (c_fwe σ)) s → ∀ j, (1 ≤ j ∧ j ≤ mn (c_fwe σ)) → (c_fwe σ).2.1 20 0 (16 * j + 14) - tq (m_asi s false) j = B j) ∧ ∀ A s, kpt A M (mn (c_fwe σ)) (mn (c_fwe σ)) → kpg A B (mn (c_fwe σ)) → FW (s60 (c_fwe σ)) (xsl A (mn (c_fwe σ))) (bif icls A (mn (c_fwe σ)) (mn (c_fwe σ)) then mn (c_fwe σ) else 0) s → EQ (some (ai (bz (c_fwb σ)))) (some (ai (bz (icls A (mn (c_fwe σ)) (mn (c_fwe σ)))))) ∧ Rel s
  rw [hn1]
  refine ⟨hI, MI_of c2 hM, mtx σ, lfo σ, fun s hs i j hi hj => ?_, fun s hs j hj => ?_, fun A s hA hB hF => ?_⟩
  · exact mtx_e hR (hs.2.1.trans m0) (fun a j q1 q2 => (hs.2.2 a 0 j q2).trans (c3 a 0 j (Or.inr q1))) i j hj.1 hj.2
  · rw [c3 20 0 _ (by omega)]
    exact lfo_e hR (hs.2.1.trans m0) (fun a j q1 q2 => (hs.2.2 a 0 j q2).trans (c3 a 0 j (Or.inr q1))) j hj.1 hj.2
  · obtain ⟨w1, -, -, -, -, w6⟩ := fwd_e hR hA hB
    obtain ⟨f1, f2, f3, f4⟩ := hF
    refine ⟨by rw [w1]; exact ⟨_, rfl, rfl⟩, ?_⟩
    refine Rel_cg hR (fun a j q => ?_) (fun y j q => ?_) (fun a b j q => ?_) (fun k hk => ?_)
    · rw [f2, m0]
      exact s60_o _ _ _ q
    · rw [f1]
      exact c1 y j q
    · rw [f3 a b j (by omega) (by omega)]
      exact c3 a b j (by omega)
    · obtain ⟨a1, a2, a3, a4, a5⟩ := r4 k hk
      unfold T4
      rw [f3 10 0 k (by decide) (by decide), f3 11 0 k (by decide) (by decide), f3 12 0 k (by decide) (by decide), f3 14 0 k (by decide) (by decide), f3 15 0 k (by decide) (by decide), f3 21 0 k (by decide) (by decide), f3 22 0 k (by decide) (by decide), f4, s60_l, w6 k hk, w1, c3 10 0 k (by omega), c3 11 0 k (by omega), c3 14 0 k (by omega), c3 21 0 k (by omega), c3 22 0 k (by omega), c3 23 0 k (by omega), c4 k hk]
      refine ⟨a1, a2, ?_, a4, a5⟩
      by_cases q : 1 ≤ k ∧ k ≤ (bif icls A (nn σ) (nn σ) then nn σ else 0)
      · rw [if_pos q, if_pos ⟨rfl, q⟩]
      · rw [if_neg q, if_neg (fun e => q e.2)]
        exact a3
theorem bok_k {σ : SS} (hI : CI σ) {p : Int32} (h : bok σ p = true) : ∃ j, j ≤ nn σ ∧ nn σ < 7 ∧ p = nI j := by
  unfold bok at h
  rw [Bool.and_eq_true, Bool.and_eq_true, decide_eq_true_iff, decide_eq_true_iff, decide_eq_true_iff, hI.1] at h
  obtain ⟨h1, h2, h3⟩ := h
  have h7 := hI.2.1
  obtain ⟨j, hj, rfl⟩ := nI_of h1
  rw [nI_ltI (by omega) hj] at h2
  rw [nI_ltI (by omega) (by decide)] at h3
  exact ⟨j, by omega, h3, rfl⟩
theorem mbo_e {σ s : SS} (hR : Rel σ) (h : s.2.2 6 1 = σ.2.2 6 1) (p : Int32) : mbo s p = bok σ p := by
  have h7 := hR.1.1.2.1
  unfold mbo bok
  rw [h, Rel_00 hR, hR.1.1.1]
  have e : decide (¬ nI (nn σ) = nI 7) = decide (nI (nn σ) < nI 7) := by
    rw [decide_eq_decide, nI_ltI (by omega) (by decide)]
    constructor
    · intro q
      have : nn σ ≠ 7 := fun e => q (by rw [e])
      omega
    · intro q e
      have e2 := congrArg Int32.toNatClampNeg e
      rw [nI_clamp (by omega), nI_clamp (by decide)] at e2
      omega
  rw [e]
theorem ag_body {σ : SS} (hR : Rel σ) (p s : Int32) (hs : s = 0 ∨ s = 1) : sp_X5_body [ar 0 0, ai p, ai s] σ (fun r t => sp_X6_body [ar 6 0, ai p, ai s] t (fun r' s' => EQ r r' ∧ Rel s')) := by
  show CI σ ∧ (s = 0 ∨ s = 1) ∧ MI (bif bok σ p then c_bod σ p s else σ) ∧ (s = 0 ∨ s = 1) ∧ EQ (some (ai (bif bok σ p then σ.2.2 0 0 + nI 1 else (-1)))) (some (ai (bif mbo (bif bok σ p then c_bod σ p s else σ) p then (bif bok σ p then c_bod σ p s else σ).2.2 6 1 + nI 1 else (-1)))) ∧ Rel (bif mbo (bif bok σ p then c_bod σ p s else σ) p then m_bod (bif bok σ p then c_bod σ p s else σ) p s else s60 (bif bok σ p then c_bod σ p s else σ))
  refine ⟨hR.1.1, hs, ?_⟩
  cases hb : bok σ p with
  | false =>
    show MI σ ∧ (s = 0 ∨ s = 1) ∧ EQ (some (ai (-1))) (some (ai (bif mbo σ p then σ.2.2 6 1 + nI 1 else (-1)))) ∧ Rel (bif mbo σ p then m_bod σ p s else s60 σ)
    rw [(mbo_e hR rfl p).trans hb]
    exact ⟨hR.1.2.1, hs, ⟨_, rfl, rfl⟩, KR_Rel (KR_K25 (K25_rf _)) hR⟩
  | true =>
    have e61 : (c_bod σ p s).2.2 6 1 = σ.2.2 6 1 := by
      unfold c_bod
      rw [sI_n1 _ _ _ (by decide), sI_n1 _ _ _ (by decide), sI_n1 _ _ _ (by decide)]
    show MI (c_bod σ p s) ∧ (s = 0 ∨ s = 1) ∧ EQ (some (ai (σ.2.2 0 0 + nI 1))) (some (ai (bif mbo (c_bod σ p s) p then (c_bod σ p s).2.2 6 1 + nI 1 else (-1)))) ∧ Rel (bif mbo (c_bod σ p s) p then m_bod (c_bod σ p s) p s else s60 (c_bod σ p s))
    rw [(mbo_e hR e61 p).trans hb]
    have emn : mn (c_bod σ p s) = mn σ := by unfold mn; rw [e61]
    have hR' := hR
    obtain ⟨⟨hI, hM, hn, hg⟩, r2, r3, r4, r5⟩ := hR'
    obtain ⟨j, hj, hn7, rfl⟩ := bok_k hI hb
    have e7 : ∀ k, (c_bod σ (nI j) s).2.2 7 k = σ.2.2 7 k := fun k => by
      unfold c_bod
      rw [sI_n1 _ _ _ (by decide), sI_n1 _ _ _ (by decide), sI_n1 _ _ _ (by decide)]
    have e8 : ∀ k, (c_bod σ (nI j) s).2.2 8 k = σ.2.2 8 k := fun k => by
      unfold c_bod
      rw [sI_n1 _ _ _ (by decide), sI_n1 _ _ _ (by decide), sI_n1 _ _ _ (by decide)]
    refine ⟨⟨?_, ?_, fun k q1 q2 => ?_⟩, hs, ⟨_, rfl, ?_⟩, ?_⟩
    · rw [emn, e61]; exact hM.1
    · rw [emn]; exact hM.2.1
    · rw [emn] at q2
      unfold mp
      rw [e7]
      exact hM.2.2 k q1 q2
    · show some (ai ((c_bod σ (nI j) s).2.2 6 1 + nI 1)) = _
      rw [e61, Rel_00 hR]
    · show Rel (m_bod (c_bod σ (nI j) s) (nI j) s)
      have f1 : ∀ a k, (m_bod (c_bod σ (nI j) s) (nI j) s).2.2 a k = if a = 8 ∧ k = nn σ + 1 then s else if a = 7 ∧ k = nn σ + 1 then nI j else if a = 6 ∧ k = 1 then nI (nn σ + 1) else if a = 6 ∧ k = 0 then nI 0 else if a = 2 ∧ k = nn σ + 1 then s else if a = 1 ∧ k = nn σ + 1 then nI j else if a = 0 ∧ k = 0 then nI (nn σ + 1) else σ.2.2 a k := fun a k => by
        unfold m_bod
        rw [emn, e61, Rel_00 hR, hn, hI.1, nI_add]
        unfold c_bod
        rw [hI.1, nI_add]
        rfl
      have hjc : (nI j).toNatClampNeg = j := nI_clamp (by omega)
      have hnc : (nI (nn σ + 1)).toNatClampNeg = nn σ + 1 := nI_clamp (by omega)
      have hV : (m_bod (c_bod σ (nI j) s) (nI j) s).1 = σ.1 := rfl
      have hL : (m_bod (c_bod σ (nI j) s) (nI j) s).2.1 = σ.2.1 := rfl
      generalize m_bod (c_bod σ (nI j) s) (nI j) s = t at *
      have f00 : t.2.2 0 0 = nI (nn σ + 1) := by rw [f1]; simp
      have f61 : t.2.2 6 1 = nI (nn σ + 1) := by rw [f1]; simp
      have fa : ∀ k, t.2.2 1 k = if k = nn σ + 1 then nI j else σ.2.2 1 k := fun k => by rw [f1]; simp
      have fb : ∀ k, t.2.2 2 k = if k = nn σ + 1 then s else σ.2.2 2 k := fun k => by rw [f1]; simp
      have fc : ∀ k, t.2.2 7 k = if k = nn σ + 1 then nI j else σ.2.2 7 k := fun k => by rw [f1]; simp
      have fd : ∀ k, t.2.2 8 k = if k = nn σ + 1 then s else σ.2.2 8 k := fun k => by rw [f1]; simp
      have g1 : nn t = nn σ + 1 := by unfold nn; rw [f00]; exact hnc
      have g2 : mn t = nn σ + 1 := by unfold mn; rw [f61]; exact hnc
      have ga : ∀ k, pa t k = if k = nn σ + 1 then j else pa σ k := fun k => by
        unfold pa
        rw [fa]
        by_cases q : k = nn σ + 1
        · rw [if_pos q, if_pos q]; exact hjc
        · rw [if_neg q, if_neg q]
      have gc : ∀ k, mp t k = if k = nn σ + 1 then j else mp σ k := fun k => by
        unfold mp
        rw [fc]
        by_cases q : k = nn σ + 1
        · rw [if_pos q, if_pos q]; exact hjc
        · rw [if_neg q, if_neg q]
      refine ⟨⟨⟨?_, ?_, fun k q1 q2 => ?_⟩, ⟨?_, ?_, fun k q1 q2 => ?_⟩, ?_, ?_⟩, fun k q1 q2 => ?_, fun k hk => ?_, fun k hk => ?_, ?_⟩
      · rw [g1, f00]
      · rw [g1]; omega
      · rw [g1] at q2
        rw [ga, fa]
        by_cases q : k = nn σ + 1
        · rw [if_pos q, if_pos q]
          exact ⟨rfl, by omega⟩
        · rw [if_neg q, if_neg q]
          exact hI.2.2 k q1 (by omega)
      · rw [g2, f61]
      · rw [g2]; omega
      · rw [g2] at q2
        rw [gc, fc]
        by_cases q : k = nn σ + 1
        · rw [if_pos q, if_pos q]
          exact ⟨rfl, by omega⟩
        · rw [if_neg q, if_neg q]
          exact hM.2.2 k q1 (by omega)
      · rw [g1, g2]
      · unfold gok
        rw [hV]
        exact hg
      · rw [g1] at q2
        rw [ga, gc, fb, fd]
        by_cases q : k = nn σ + 1
        · rw [if_pos q, if_pos q, if_pos q, if_pos q]
          exact ⟨rfl, rfl⟩
        · rw [if_neg q, if_neg q, if_neg q, if_neg q]
          exact r2 k q1 (by omega)
      · unfold g3 mIr
        rw [hV, hL]
        exact r3 k hk
      · rw [hL]
        exact r4 k hk
      · unfold g3
        rw [hV, hL]
        exact r5
theorem stp_e (t : ZF) (σ : SS) : ∀ n, (upf (stp1 t) σ n).1 = σ.1 ∧ (upf (stp1 t) σ n).2.2 = σ.2.2 ∧ (∀ a b j, a ≠ 10 → a ≠ 11 → (upf (stp1 t) σ n).2.1 a b j = σ.2.1 a b j) ∧ ∀ j, (upf (stp1 t) σ n).2.1 11 0 j = (if 1 ≤ j ∧ j ≤ n then σ.2.1 11 0 j + σ.2.1 12 0 j * t else σ.2.1 11 0 j) ∧ (upf (stp1 t) σ n).2.1 10 0 j = (if 1 ≤ j ∧ j ≤ n then σ.2.1 10 0 j + (σ.2.1 11 0 j + σ.2.1 12 0 j * t) * t else σ.2.1 10 0 j)
  | 0 => ⟨rfl, rfl, fun _ _ _ _ _ => rfl, fun j => ⟨(if_neg (by omega)).symm, (if_neg (by omega)).symm⟩⟩
  | n + 1 => by
    obtain ⟨h1, h2, h3, h4⟩ := stp_e t σ n
    have e : upf (stp1 t) σ (n + 1) = sL (sL (upf (stp1 t) σ n) 11 0 (n + 1) ((upf (stp1 t) σ n).2.1 11 0 (n + 1) + (upf (stp1 t) σ n).2.1 12 0 (n + 1) * t)) 10 0 (n + 1) ((sL (upf (stp1 t) σ n) 11 0 (n + 1) ((upf (stp1 t) σ n).2.1 11 0 (n + 1) + (upf (stp1 t) σ n).2.1 12 0 (n + 1) * t)).2.1 10 0 (n + 1) + (sL (upf (stp1 t) σ n) 11 0 (n + 1) ((upf (stp1 t) σ n).2.1 11 0 (n + 1) + (upf (stp1 t) σ n).2.1 12 0 (n + 1) * t)).2.1 11 0 (n + 1) * t) := rfl
    rw [sL_n1 _ _ _ _ _ (show (10 : Nat) ≠ 11 by decide), sL_at, h3 12 _ _ (by decide) (by decide), (h4 (n + 1)).1, (h4 (n + 1)).2, if_neg (by omega), if_neg (by omega)] at e
    rw [e]
    refine ⟨h1, h2, fun a b j q1 q2 => ?_, fun j => ?_⟩
    · rw [sL_n1 _ _ _ _ _ q1, sL_n1 _ _ _ _ _ q2]
      exact h3 a b j q1 q2
    · rw [sL_n1 _ _ _ _ _ (show (11 : Nat) ≠ 10 by decide)]
      by_cases hj : j = n + 1
      · subst hj
        rw [sL_at, sL_at, if_pos (by omega), if_pos (by omega)]
        exact ⟨rfl, rfl⟩
      · rw [sL_n3 _ _ _ _ _ hj, sL_n3 _ _ _ _ _ hj, sL_n1 _ _ _ _ _ (show (10 : Nat) ≠ 11 by decide), (h4 j).1, (h4 j).2]
        have hiff : (1 ≤ j ∧ j ≤ n + 1) ↔ (1 ≤ j ∧ j ≤ n) := by omega
        simp only [hiff]
        exact ⟨trivial, trivial⟩
theorem mst_e (t : ZF) (σ : SS) : ∀ n, (upf (mst1 t) σ n).1 = σ.1 ∧ (upf (mst1 t) σ n).2.2 = σ.2.2 ∧ (∀ a b j, a ≠ 21 → a ≠ 22 → (upf (mst1 t) σ n).2.1 a b j = σ.2.1 a b j) ∧ ∀ j, (upf (mst1 t) σ n).2.1 22 0 j = (if 1 ≤ j ∧ j ≤ n then σ.2.1 22 0 j + σ.2.1 23 0 j * t else σ.2.1 22 0 j) ∧ (upf (mst1 t) σ n).2.1 21 0 j = (if 1 ≤ j ∧ j ≤ n then σ.2.1 21 0 j + (σ.2.1 22 0 j + σ.2.1 23 0 j * t) * t else σ.2.1 21 0 j)
  | 0 => ⟨rfl, rfl, fun _ _ _ _ _ => rfl, fun j => ⟨(if_neg (by omega)).symm, (if_neg (by omega)).symm⟩⟩
  | n + 1 => by
    obtain ⟨h1, h2, h3, h4⟩ := mst_e t σ n
    have e : upf (mst1 t) σ (n + 1) = sL (sL (upf (mst1 t) σ n) 22 0 (n + 1) ((upf (mst1 t) σ n).2.1 22 0 (n + 1) + (upf (mst1 t) σ n).2.1 23 0 (n + 1) * t)) 21 0 (n + 1) ((sL (upf (mst1 t) σ n) 22 0 (n + 1) ((upf (mst1 t) σ n).2.1 22 0 (n + 1) + (upf (mst1 t) σ n).2.1 23 0 (n + 1) * t)).2.1 21 0 (n + 1) + (sL (upf (mst1 t) σ n) 22 0 (n + 1) ((upf (mst1 t) σ n).2.1 22 0 (n + 1) + (upf (mst1 t) σ n).2.1 23 0 (n + 1) * t)).2.1 22 0 (n + 1) * t) := rfl
    rw [sL_n1 _ _ _ _ _ (show (21 : Nat) ≠ 22 by decide), sL_at, h3 23 _ _ (by decide) (by decide), (h4 (n + 1)).1, (h4 (n + 1)).2, if_neg (by omega), if_neg (by omega)] at e
    rw [e]
    refine ⟨h1, h2, fun a b j q1 q2 => ?_, fun j => ?_⟩
    · rw [sL_n1 _ _ _ _ _ q1, sL_n1 _ _ _ _ _ q2]
      exact h3 a b j q1 q2
    · rw [sL_n1 _ _ _ _ _ (show (22 : Nat) ≠ 21 by decide)]
      by_cases hj : j = n + 1
      · subst hj
        rw [sL_at, sL_at, if_pos (by omega), if_pos (by omega)]
        exact ⟨rfl, rfl⟩
      · rw [sL_n3 _ _ _ _ _ hj, sL_n3 _ _ _ _ _ hj, sL_n1 _ _ _ _ _ (show (21 : Nat) ≠ 22 by decide), (h4 j).1, (h4 j).2]
        have hiff : (1 ≤ j ∧ j ≤ n + 1) ↔ (1 ≤ j ∧ j ≤ n) := by omega
        simp only [hiff]
        exact ⟨trivial, trivial⟩
theorem ag_step {σ : SS} (hR : Rel σ) (x : Int32) : sp_X5_step [ar 0 0, ai x] σ (fun r s => sp_X6_step [ar 6 0, ai x] s (fun r' s' => NO r r' ∧ Rel s')) := by
  show CI σ ∧ MI (c_stp σ (fi x)) ∧ NO none none ∧ Rel (m_stp (c_stp σ (fi x)) (fi x))
  generalize fi x = t
  obtain ⟨c1, c2, c3, c4⟩ := stp_e t σ (nn σ)
  have hn : mn (upf (stp1 t) σ (nn σ)) = nn σ := (mn_of c2).trans hR.1.2.2.1
  refine ⟨hR.1.1, MI_of c2 hR.1.2.1, ⟨rfl, rfl⟩, ?_⟩
  unfold m_stp c_stp
  rw [hn]
  generalize upf (stp1 t) σ (nn σ) = s at *
  obtain ⟨m1, m2, m3, m4⟩ := mst_e t (s60 s) (nn σ)
  generalize upf (mst1 t) (s60 s) (nn σ) = u at *
  obtain ⟨⟨hC, hM, hn, hg⟩, r2, r3, r4, r5⟩ := id hR
  refine Rel_cg hR (fun a j q => ?_) (fun y j _ => ?_) (fun a b j q => ?_) (fun k hk => ?_)
  · rw [m2, s60_o _ _ _ q, c2]
  · rw [m1]
    show s.1 y j = _
    rw [c1]
  · rw [m3 a b j (by omega) (by omega), s60_l, c3 a b j (by omega) (by omega)]
  · obtain ⟨a1, a2, a3, a4, a5⟩ := r4 k hk
    unfold T4
    rw [(m4 k).1, (m4 k).2, m3 10 0 k (by decide) (by decide), m3 11 0 k (by decide) (by decide), m3 12 0 k (by decide) (by decide), m3 14 0 k (by decide) (by decide), m3 15 0 k (by decide) (by decide), m3 23 0 k (by decide) (by decide), s60_l, (c4 k).1, (c4 k).2, c3 12 0 k (by decide) (by decide), c3 14 0 k (by decide) (by decide), c3 15 0 k (by decide) (by decide), c3 21 0 k (by decide) (by decide), c3 22 0 k (by decide) (by decide), c3 23 0 k (by decide) (by decide), a1, a2, a3]
    exact ⟨rfl, rfl, rfl, a4, a5⟩
