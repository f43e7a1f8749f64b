/-! What the asking methods keep; where and weight -/
def KR (σ s : SS) : Prop := (∀ a j, (a, j) ≠ (6, 0) → s.2.2 a j = σ.2.2 a j) ∧ (∀ a b j, (a < 15 ∨ 20 ≤ a ∧ a < 25) → s.2.1 a b j = σ.2.1 a b j) ∧ (∀ k, k < 8 → s.2.1 15 0 k = σ.2.1 15 0 k) ∧ (∀ x j, (x < 55 ∨ 69 ≤ x ∨ (j = 0 ∧ x < 65)) → s.1 x j = σ.1 x j)
theorem KR_rf (σ : SS) : KR σ σ := ⟨fun _ _ _ => rfl, fun _ _ _ _ => rfl, fun _ _ => rfl, fun _ _ _ => rfl⟩
theorem KR_tr {a b c : SS} (h : KR a b) (g : KR b c) : KR a c := ⟨fun x j q => (g.1 x j q).trans (h.1 x j q), fun x y j q => (g.2.1 x y j q).trans (h.2.1 x y j q), fun k q => (g.2.2.1 k q).trans (h.2.2.1 k q), fun x j q => (g.2.2.2 x j q).trans (h.2.2.2 x j q)⟩
theorem KR_n {σ s : SS} (h : KR σ s) : nn s = nn σ ∧ mn s = mn σ ∧ (∀ k, pa s k = pa σ k) ∧ ∀ k, mp s k = mp σ k := by
  unfold nn mn pa mp
  rw [h.1 0 0 (by simp), h.1 6 1 (by simp)]
  exact ⟨rfl, rfl, fun k => by rw [h.1 1 k (by simp)], fun k => by rw [h.1 7 k (by simp)]⟩
theorem KR_Rel {σ s : SS} (h : KR σ s) (hR : Rel σ) : Rel s := by
  obtain ⟨⟨hI, hM, hn, hg⟩, r2, r3, r4, r5⟩ := hR
  obtain ⟨k1, k2, k3, k4⟩ := KR_n h
  obtain ⟨a1, a2, a3, a4⟩ := h
  have g20 : ∀ j, g3 s (20, 0) j = g3 σ (20, 0) j := fun j => g3_eq (fun j => a2 20 0 j (by omega))
  have g24 : g3 s (24, 0) 0 = g3 σ (24, 0) 0 := g3_eq (fun j => a2 24 0 j (by omega))
  refine ⟨⟨⟨?_, ?_, fun k q1 q2 => ?_⟩, ⟨?_, ?_, fun k q1 q2 => ?_⟩, ?_, ?_⟩, fun k q1 q2 => ?_, fun k q => ?_, fun k q => ?_, ?_⟩
  · rw [k1, a1 0 0 (by simp)]; exact hI.1
  · rw [k1]; exact hI.2.1
  · rw [k1] at q2; rw [k3, a1 1 k (by simp)]; exact hI.2.2 k q1 q2
  · rw [k2, a1 6 1 (by simp)]; exact hM.1
  · rw [k2]; exact hM.2.1
  · rw [k2] at q2; rw [k4, a1 7 k (by simp)]; exact hM.2.2 k q1 q2
  · rw [k1, k2]; exact hn
  · unfold gok
    rw [a4 55 0 (by omega), a4 56 0 (by omega), a4 57 0 (by omega), a4 59 0 (by omega), a4 63 0 (by omega), a4 64 0 (by omega)]
    exact hg
  · rw [k1] at q2
    rw [k3, k4, a1 8 k (by simp), a1 2 k (by simp)]
    exact r2 k q1 q2
  · rw [g20, g20, a2 20 0 _ (by omega), a2 20 0 _ (by omega), a2 20 0 _ (by omega), a2 2 k _ (by omega), a2 2 k _ (by omega), a2 13 0 _ (by omega), a4 50 k (by omega), a4 51 k (by omega), a4 52 k (by omega), a4 53 k (by omega), a4 54 k (by omega)]
    have hi : mIr s k = mIr σ k := by unfold mIr; simp only [a2 20 0 _ (Or.inr ⟨by decide, by decide⟩)]
    rw [hi]
    exact r3 k q
  · rw [a2 21 0 _ (by omega), a2 22 0 _ (by omega), a2 23 0 _ (by omega), a2 10 0 _ (by omega), a2 11 0 _ (by omega), a2 12 0 _ (by omega), a2 14 0 _ (by omega), a3 k q]
    exact r4 k q
  · rw [g24, a4 69 0 (by omega), a4 70 0 (by omega)]
    exact r5
theorem KR_K25 {σ s : SS} (h : K25 (s60 σ) s) : KR σ s := by
  refine ⟨fun a j q => ?_, fun a b j q => h.2.2 a b j (by omega), fun k q => h.2.2 15 0 k (by decide), fun x j _ => by rw [h.1]; rfl⟩
  rw [h.2.1]
  exact if_neg (fun e => q (by rw [e.1, e.2]))
theorem KR_std {σ : SS} (hR : Rel σ) : KR σ (c_std σ) := by
  obtain ⟨-, -, -, -, -, c6⟩ := std_ok hR
  refine ⟨fun a j _ => by rw [c_std_I], fun a b j _ => by rw [c_std_2], fun k _ => by rw [c_std_2], fun x j h => c6 x j (by omega)⟩
theorem dn_V : ∀ (k : Nat) (t : SS) (x j : Nat), (x < 66 ∨ 68 < x) → (dnf n_dn k t).1 x j = t.1 x j
  | 0, _, _, _, _ => rfl
  | k + 1, t, x, j, h => by
    show (dnf n_dn k (n_dn t (k + 1))).1 x j = _
    rw [dn_V k _ x j h]
    unfold n_dn b_pas o_add
    dsimp only
    rw [sV_k _ _ _ _ _ _ (by omega), sV_k _ _ _ _ _ _ (by omega)]
    show (b_nst t (k + 1)).1 x j = _
    unfold b_nst
    split
    · exact sV_k _ _ _ _ _ _ (by omega)
    · rfl
/-- a pass changes only what belongs to it -/
theorem ned_keep {s : SS} (q u v : Nat × Nat) (hI : CI s) (hS : ∀ k, 1 ≤ k → k ≤ nn s → StOK s k (pa s k)) : (∀ a b i, a ≠ 16 → (c_ned s q u v).2.1 a b i = s.2.1 a b i) ∧ ∀ x j, (x < 63 ∨ 68 < x ∨ (j = 0 ∧ x < 65)) → (c_ned s q u v).1 x j = s.1 x j := by
  have g0 : ∀ x j, (x, j) ≠ (65, 0) → (x, j) ≠ (66, 0) → (x, j) ≠ (67, 0) → (b_agn s 0 q).1 x j = s.1 x j := fun x j h1 h2 h3 => by
    unfold b_agn o_clr o_sub
    dsimp only
    rw [sV_ne _ _ h3, sV_ne _ _ h2, sV_ne _ _ h1, sV_ne _ _ h1]
  have g2 : (b_agn s 0 q).2 = s.2 := rfl
  have hlow : ∀ x j, x < 63 → (b_agn s 0 q).1 x j = s.1 x j := fun x j hx => g0 x j (fun e => absurd (Prod.mk.inj e).1 (by omega)) (fun e => absurd (Prod.mk.inj e).1 (by omega)) (fun e => absurd (Prod.mk.inj e).1 (by omega))
  have hI1 : CI (b_agn s 0 q) := CI_of rfl hI
  have hS1 : ∀ k, 1 ≤ k → k ≤ nn (b_agn s 0 q) → StOK (b_agn s 0 q) k (pa (b_agn s 0 q) k) := fun k h1 h2 => StOK_cg (fun v a => Ps_cg v a g2 (fun x hx => hlow x k (by omega))) hlow (hS k h1 h2)
  have hn1 : nn (b_agn s 0 q) = nn s := rfl
  have hc : c_ned s q u v = dnf n_dn (nn s) (upf (n_up u v) (b_agn s 0 q) (nn s)) := rfl
  obtain ⟨u1, u2, -⟩ := up_rec u v (b_agn s 0 q) hI1 hS1
  rw [hn1] at u1 u2
  rw [hc]
  have hI2 : CI (upf (n_up u v) (b_agn s 0 q) (nn s)) := CI_of (congrArg Prod.snd (u2.trans g2)) hI
  have hn2 : nn (upf (n_up u v) (b_agn s 0 q) (nn s)) = nn s := nn_of (congrArg Prod.snd (u2.trans g2))
  have hd := (dn_all _ hI2).2.1
  rw [hn2] at hd
  refine ⟨fun a b i ha => by rw [hd a b i ha, u2, g2], fun x j h => ?_⟩
  rw [dn_V _ _ _ _ (by omega), u1 _ _ (by omega) (by omega)]
  exact g0 x j (fun e => by have e1 := (Prod.mk.inj e).1; have e2 := (Prod.mk.inj e).2; omega) (fun e => by have e1 := (Prod.mk.inj e).1; have e2 := (Prod.mk.inj e).2; omega) (fun e => by have e1 := (Prod.mk.inj e).1; have e2 := (Prod.mk.inj e).2; omega)
theorem KR_ned {s : SS} (q u v : Nat × Nat) (hI : CI s) (hS : ∀ k, 1 ≤ k → k ≤ nn s → StOK s k (pa s k)) : KR s (c_ned s q u v) := by
  obtain ⟨h1, h2⟩ := ned_keep q u v hI hS
  exact ⟨fun a j _ => by rw [c_ned_I], fun a b j h => h1 a b j (by omega), fun k _ => h1 15 0 k (by decide), fun x j h => h2 x j (by omega)⟩
theorem StOK_ned {s : SS} (q u v : Nat × Nat) (hI : CI s) (hS : ∀ k, 1 ≤ k → k ≤ nn s → StOK s k (pa s k)) : ∀ k, 1 ≤ k → k ≤ nn s → StOK (c_ned s q u v) k (pa s k) := by
  obtain ⟨h1, h2⟩ := ned_keep q u v hI hS
  intro k a b
  refine StOK_cg (fun v a => ?_) (fun x j hx => h2 x j (Or.inl hx)) (hS k a b)
  unfold Ps
  rw [c_ned_I, h1 2 _ _ (by decide), h1 2 _ _ (by decide), h1 10 _ _ (by decide), h2 50 _ (by omega), h2 51 _ (by omega), h2 52 _ (by omega), h2 53 _ (by omega), h2 54 _ (by omega)]
theorem std_St {σ : SS} (hR : Rel σ) : ∀ k, 1 ≤ k → k ≤ nn (c_std σ) → StOK (c_std σ) k (pa (c_std σ) k) := by
  obtain ⟨-, c2, c3, -, c5, -⟩ := std_ok hR
  intro k a b
  rw [c2] at b
  rw [c3]
  exact c5 k a b
/-- where a body is, and its centre, and its axis -/
theorem std_D {σ : SS} (hR : Rel σ) (k : Nat) (h1 : 1 ≤ k) (h2 : k ≤ nn σ) : (c_std σ).1 59 k = mO (m_asi (s60 σ) true) k ∧ (c_std σ).1 57 k = mU (m_asi (s60 σ) true) k ∧ (c_std σ).1 61 k = mA (m_asi (s60 σ) true) k ∧ (c_std σ).1 62 k = v_add (mO (m_asi (s60 σ) true) k) (mA (m_asi (s60 σ) true) k) := by
  have hR' := hR
  obtain ⟨⟨hI, hM, hn, hg⟩, r2, r3, r4, r5⟩ := hR'
  have h7 := hI.2.1
  obtain ⟨e1, e2, e3⟩ := as1_e true (s60 σ) (mn (s60 σ))
  have hmn : mn (s60 σ) = nn σ := (s60_n σ).trans hn
  have key := (ned_rel (s := c_std σ) (m := upf (as1 true) (s60 σ) (mn (s60 σ))) hR (11, 0) (12, 0) true rfl (c_std_I σ) (fun a b j _ => by rw [c_std_2]) (Or.inl e1) (fun a j ha => e2 a j ha) (fun k a b' => by rw [(e3 k a (by omega)).1, c_std_2, s60_l, (r4 k (by omega)).2.1]) (fun k a b' => by rw [(e3 k a (by omega)).2, c_std_2]; exact (r4 k (by omega)).2.2.1)).2 k h1 h2
  have hm : m_mov (upf (as1 true) (s60 σ) (mn (s60 σ))) true = m_asi (s60 σ) true := rfl
  rw [hm] at key
  unfold Dm at key
  simp only [Prod.mk.injEq] at key
  obtain ⟨-, k1, k2, k3⟩ := key
  refine ⟨k1, k2, k3, ?_⟩
  obtain ⟨-, -, -, -, c5, -⟩ := std_ok hR
  rw [(c5 k h1 h2 0 0).2.2.2.2.2, k1, k3]
theorem prt_g (s : SS) (q : Nat × Nat) (b w : Nat) (h : w < 3) : v_prt (g3 s q b) (nI w) = s.2.1 q.1 q.2 (b + w) := by
  rcases (show w = 0 ∨ w = 1 ∨ w = 2 by omega) with rfl | rfl | rfl <;> rfl
theorem prt_add (a b : V3) (x : Int32) : v_prt (v_add a b) x = v_prt a x + v_prt b x := by
  unfold v_prt v_add
  split
  · rfl
  · split <;> rfl
theorem where_e {σ : SS} (hR : Rel σ) (k w : Nat) (h1 : 1 ≤ k) (h2 : k ≤ nn σ) (hw : w ≤ 8) : wan (c_std σ) k w = mwa (m_asi (s60 σ) true) k w := by
  obtain ⟨d1, d2, d3, d4⟩ := std_D hR k h1 h2
  unfold wan mwa wvk
  by_cases w1 : w < 3
  · rw [if_pos w1, if_pos (by omega), d1]
    exact prt_g _ _ _ _ (by omega)
  · rw [if_neg w1, if_neg (by omega)]
    by_cases w2 : w < 6
    · rw [if_pos w2, if_pos (by omega), d4, prt_add]
      unfold mO mA
      rw [prt_g _ _ _ _ (by omega), prt_g _ _ _ _ (by omega)]
    · rw [if_neg w2, if_neg (by omega), d2]
      exact prt_g _ _ _ _ (by omega)
theorem weight_e {σ : SS} (hR : Rel σ) (w : Nat) (hw : w ≤ 3) : ∀ n, n ≤ nn σ → wsum (c_std σ) (nI w) n = mws (m_asi (s60 σ) true) (nI w) n
  | 0, _ => rfl
  | n + 1, h => by
    have hR' := hR
    obtain ⟨⟨hI, hM, hn, hg⟩, r2, r3, r4, r5⟩ := hR'
    have h7 := hI.2.1
    obtain ⟨d1, d2, d3, d4⟩ := std_D hR (n + 1) (by omega) h
    unfold wsum mws
    rw [weight_e hR w hw n (by omega), c_std_2, (K25_asi (s60 σ) true).2.2 20 0 _ (by decide), s60_l, (r3 (n + 1) (by omega)).2.1]
    unfold wfa mfa
    by_cases q : nI w = nI 3
    · rw [if_pos q, if_pos q]
    · have q2 : ¬ w = 3 := fun e => q (by rw [e])
      rw [if_neg q, if_neg q, d4, prt_add, show ix (nI w) = w from nI_clamp (by omega)]
      unfold mO mA
      rw [prt_g _ _ _ _ (by omega), prt_g _ _ _ _ (by omega)]
