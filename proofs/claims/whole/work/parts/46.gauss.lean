/-! Systems of equations: what row operations keep; the reference's elimination -/
def ssum (f : Nat → ZF) (a : Nat) : Nat → ZF
  | 0 => 0
  | m + 1 => ssum f a m + f (a + m)
theorem ssum_cg {f g : Nat → ZF} {a : Nat} : ∀ {m : Nat}, (∀ c, a ≤ c → c < a + m → f c = g c) → ssum f a m = ssum g a m
  | 0, _ => rfl
  | m + 1, h => by
    unfold ssum
    rw [ssum_cg (fun c h1 h2 => h c h1 (by omega)), h (a + m) (by omega) (by omega)]
theorem ssum_0 {f : Nat → ZF} {a : Nat} : ∀ {m : Nat}, (∀ c, a ≤ c → c < a + m → f c = 0) → ssum f a m = 0
  | 0, _ => rfl
  | m + 1, h => by
    unfold ssum
    rw [ssum_0 (fun c h1 h2 => h c h1 (by omega)), h (a + m) (by omega) (by omega)]
    grind
theorem ssum_sp (f : Nat → ZF) (a m : Nat) : ∀ k, ssum f a (m + k) = ssum f a m + ssum f (a + m) k
  | 0 => by show ssum f a m = ssum f a m + 0; grind
  | k + 1 => by
    show ssum f a (m + k) + f (a + (m + k)) = ssum f a m + (ssum f (a + m) k + f (a + m + k))
    rw [ssum_sp f a m k, Nat.add_assoc]
    grind
theorem ssum_sh (f : Nat → ZF) (a : Nat) : ∀ m, ssum (fun c => f (c + 1)) a m = ssum f (a + 1) m
  | 0 => rfl
  | m + 1 => by
    unfold ssum
    rw [ssum_sh f a m, show a + m + 1 = a + 1 + m by omega]
theorem ssum_1 {f : Nat → ZF} {a m c0 : Nat} (h1 : a ≤ c0) (h2 : c0 < a + m) (h : ∀ c, a ≤ c → c < a + m → c ≠ c0 → f c = 0) : ssum f a m = f c0 := by
  have e : m = (c0 - a) + (1 + (a + m - c0 - 1)) := by omega
  rw [e, ssum_sp, ssum_sp, ssum_0 (a := a) (fun c q1 q2 => h c q1 (by omega) (by omega)), ssum_0 (a := a + (c0 - a) + 1) (fun c q1 q2 => h c (by omega) (by omega) (by omega))]
  show 0 + ((0 + f (a + (c0 - a) + 0)) + 0) = f c0
  rw [show a + (c0 - a) + 0 = c0 by omega]
  grind
theorem ssum_li (u v x : Nat → ZF) (f : ZF) (a : Nat) : ∀ m, ssum (fun c => (u c - f * v c) * x c) a m = ssum (fun c => u c * x c) a m - f * ssum (fun c => v c * x c) a m
  | 0 => by show (0 : ZF) = 0 - f * 0; grind
  | m + 1 => by
    unfold ssum
    rw [ssum_li u v x f a m]
    grind
theorem ssum_df (u x y : Nat → ZF) (a : Nat) : ∀ m, ssum (fun c => u c * (x c - y c)) a m = ssum (fun c => u c * x c) a m - ssum (fun c => u c * y c) a m
  | 0 => by show (0 : ZF) = 0 - 0; grind
  | m + 1 => by
    unfold ssum
    rw [ssum_df u x y a m]
    grind
/-- x solves the rows a .. e - 1, in the columns a .. e - 1, with the right side t times -/
def SO (W : Nat → Nat → ZF) (b : Nat → ZF) (e a : Nat) (t : ZF) (x : Nat → ZF) : Prop := ∀ r, a ≤ r → r < e → ssum (fun c => W r c * x c) a (e - a) = b r * t
def Inj (W : Nat → Nat → ZF) (e a : Nat) : Prop := ∀ x, SO W (fun _ => 0) e a 0 x → ∀ c, a ≤ c → c < e → x c = 0
theorem SO_0 {W : Nat → Nat → ZF} {b b' : Nat → ZF} {e a : Nat} {x : Nat → ZF} (h : SO W b e a 0 x) : SO W b' e a 0 x := fun r h1 h2 => by
  rw [h r h1 h2]
  grind
theorem SO_cg {W W' : Nat → Nat → ZF} {b b' : Nat → ZF} {e a : Nat} {t : ZF} {x : Nat → ZF} (hW : ∀ r c, a ≤ r → r < e → a ≤ c → c < e → W' r c = W r c) (hb : ∀ r, a ≤ r → r < e → b' r = b r) (h : SO W b e a t x) : SO W' b' e a t x := fun r h1 h2 => by
  rw [hb r h1 h2, ← h r h1 h2]
  exact ssum_cg (fun c q1 q2 => by rw [hW r c h1 h2 q1 (by omega)])
theorem SO_op {W W' : Nat → Nat → ZF} {b b' : Nat → ZF} {e a p : Nat} {f : Nat → ZF} (hp1 : a ≤ p) (hp2 : p < e) (hf : f p = 0) (hW : ∀ r c, a ≤ r → r < e → a ≤ c → c < e → W' r c = W r c - f r * W p c) (hb : ∀ r, a ≤ r → r < e → b' r = b r - f r * b p) (t : ZF) (x : Nat → ZF) : SO W' b' e a t x ↔ SO W b e a t x := by
  have key : ∀ r, a ≤ r → r < e → ssum (fun c => W' r c * x c) a (e - a) = ssum (fun c => W r c * x c) a (e - a) - f r * ssum (fun c => W p c * x c) a (e - a) := fun r h1 h2 => by
    rw [← ssum_li]
    exact ssum_cg (fun c q1 q2 => by rw [hW r c h1 h2 q1 (by omega)])
  constructor
  · intro h r h1 h2
    have k1 := key r h1 h2
    have k2 := key p hp1 hp2
    rw [h r h1 h2, hb r h1 h2] at k1
    rw [h p hp1 hp2, hb p hp1 hp2, hf] at k2
    grind
  · intro h r h1 h2
    rw [key r h1 h2, h r h1 h2, h p hp1 hp2, hb r h1 h2]
    grind
theorem SO_sw {W W' : Nat → Nat → ZF} {b b' : Nat → ZF} {e a p q : Nat} (hp : a ≤ p ∧ p < e) (hq : a ≤ q ∧ q < e) (hW : ∀ r c, a ≤ r → r < e → a ≤ c → c < e → W' r c = if r = p then W q c else if r = q then W p c else W r c) (hb : ∀ r, a ≤ r → r < e → b' r = if r = p then b q else if r = q then b p else b r) (t : ZF) (x : Nat → ZF) : SO W' b' e a t x ↔ SO W b e a t x := by
  have key : ∀ r, a ≤ r → r < e → ssum (fun c => W' r c * x c) a (e - a) = if r = p then ssum (fun c => W q c * x c) a (e - a) else if r = q then ssum (fun c => W p c * x c) a (e - a) else ssum (fun c => W r c * x c) a (e - a) := fun r h1 h2 => by
    by_cases e1 : r = p
    · rw [if_pos e1]
      exact ssum_cg (fun c q1 q2 => by rw [hW r c h1 h2 q1 (by omega), if_pos e1])
    · rw [if_neg e1]
      by_cases e2 : r = q
      · rw [if_pos e2]
        exact ssum_cg (fun c q1 q2 => by rw [hW r c h1 h2 q1 (by omega), if_neg e1, if_pos e2])
      · rw [if_neg e2]
        exact ssum_cg (fun c q1 q2 => by rw [hW r c h1 h2 q1 (by omega), if_neg e1, if_neg e2])
  constructor
  · intro h r h1 h2
    by_cases e1 : r = p
    · subst e1
      have k := key q hq.1 hq.2
      rw [h q hq.1 hq.2, hb q hq.1 hq.2] at k
      by_cases e2 : q = r
      · subst e2
        rw [if_pos rfl, if_pos rfl] at k
        exact k.symm
      · rw [if_neg e2, if_pos rfl, if_neg e2, if_pos rfl] at k
        exact k.symm
    · by_cases e2 : r = q
      · subst e2
        have k := key p hp.1 hp.2
        rw [h p hp.1 hp.2, hb p hp.1 hp.2, if_pos rfl, if_pos rfl] at k
        exact k.symm
      · have k := key r h1 h2
        rw [h r h1 h2, hb r h1 h2, if_neg e1, if_neg e2, if_neg e1, if_neg e2] at k
        exact k.symm
  · intro h r h1 h2
    rw [key r h1 h2, hb r h1 h2]
    by_cases e1 : r = p
    · rw [if_pos e1, if_pos e1]
      exact h q hq.1 hq.2
    · rw [if_neg e1, if_neg e1]
      by_cases e2 : r = q
      · rw [if_pos e2, if_pos e2]
        exact h p hp.1 hp.2
      · rw [if_neg e2, if_neg e2]
        exact h r h1 h2
theorem uniq_so {W : Nat → Nat → ZF} {b : Nat → ZF} {e a : Nat} {x y : Nat → ZF} (hi : Inj W e a) (hx : SO W b e a 1 x) (hy : SO W b e a 1 y) : ∀ c, a ≤ c → c < e → x c = y c := by
  intro c h1 h2
  have h := hi (fun c => x c - y c) (fun r q1 q2 => by rw [ssum_df, hx r q1 q2, hy r q1 q2]; grind) c h1 h2
  grind
/-! the reference -/
def aW (A : Nat → ZF) (r c : Nat) : ZF := A (8 * r + c)
def ab (A : Nat → ZF) (r : Nat) : ZF := A (8 * r + 7)
theorem swk_e (A : Nat → ZF) {r c : Nat} (q k : Nat) (hk : k < 8) : swk A r c 8 (8 * q + k) = if q = r then A (8 * c + k) else if q = c then A (8 * r + k) else A (8 * q + k) := by
  unfold swk
  rw [if_pos (by omega), show (8 * q + k) / 8 = q by omega, show (8 * q + k) % 8 = k by omega]
theorem elk_e (A : Nat → ZF) (c r : Nat) (f : ZF) (q k : Nat) (hk : k < 8) : elk A c r f 8 (8 * q + k) = if q = r then A (8 * q + k) - f * A (8 * c + k) else A (8 * q + k) := by
  unfold elk
  rw [show (8 * q + k) / 8 = q by omega, show (8 * q + k) % 8 = k by omega]
  by_cases h : q = r
  · rw [if_pos ⟨h, hk⟩, if_pos h]
  · rw [if_neg (fun p => h p.1), if_neg h]
theorem elm_e (A : Nat → ZF) {c : Nat} (b : ZF) (fr : Nat) (hc : c < 8) : ∀ m q k, k < 8 → elm A c b fr m (8 * q + k) = if fr ≤ q ∧ q < fr + m ∧ q ≠ c then A (8 * q + k) - A (8 * q + c) * b * A (8 * c + k) else A (8 * q + k)
  | 0, q, k, _ => by rw [if_neg (by omega)]; rfl
  | m + 1, q, k, hk => by
    unfold elm
    by_cases h : fr + m = c
    · rw [if_pos h, elm_e A b fr hc m q k hk]
      by_cases h2 : fr ≤ q ∧ q < fr + m ∧ q ≠ c
      · rw [if_pos h2, if_pos (by omega)]
      · rw [if_neg h2, if_neg (by omega)]
    · rw [if_neg h, elk_e _ _ _ _ _ _ hk]
      by_cases h3 : q = fr + m
      · subst h3
        rw [if_pos rfl, elm_e A b fr hc m _ k hk, elm_e A b fr hc m _ c hc, elm_e A b fr hc m c k hk, if_neg (by omega), if_neg (by omega), if_neg (by omega), if_pos (by omega)]
      · rw [if_neg h3, elm_e A b fr hc m q k hk]
        by_cases h2 : fr ≤ q ∧ q < fr + m ∧ q ≠ c
        · rw [if_pos h2, if_pos (by omega)]
        · rw [if_neg h2, if_neg (by omega)]
theorem fnd_z (A : Nat → ZF) (c : Nat) : ∀ m r q, r ≤ q → q < fnd A c m r → A (8 * q + c) = 0
  | 0, r, q, h1, h2 => by
    have h2 : q < r := h2
    omega
  | m + 1, r, q, h1, h2 => by
    unfold fnd at h2
    by_cases h : A (8 * r + c) = 0
    · rw [if_pos h] at h2
      by_cases e : q = r
      · rw [e]; exact h
      · exact fnd_z A c m (r + 1) q (by omega) h2
    · rw [if_neg h] at h2
      omega
theorem fnd_n (A : Nat → ZF) (c : Nat) : ∀ m r, fnd A c m r < r + m → A (8 * fnd A c m r + c) ≠ 0
  | 0, r, h => by
    have h : r < r + 0 := h
    omega
  | m + 1, r, h => by
    unfold fnd at h ⊢
    by_cases h0 : A (8 * r + c) = 0
    · rw [if_pos h0] at h ⊢
      exact fnd_n A c m (r + 1) (by omega)
    · rw [if_neg h0]
      exact h0
/-- columns a .. c - 1 are cleared -/
def Dg (A : Nat → ZF) (a c e : Nat) : Prop := ∀ c', a ≤ c' → c' < c → A (8 * c' + c') ≠ 0 ∧ ∀ r, a ≤ r → r < e → r ≠ c' → A (8 * r + c') = 0
theorem Dg_so {A : Nat → ZF} {a e : Nat} (h : Dg A a e e) (t : ZF) (x : Nat → ZF) : SO (aW A) (ab A) e a t x ↔ ∀ r, a ≤ r → r < e → A (8 * r + r) * x r = A (8 * r + 7) * t := by
  have key : ∀ r, a ≤ r → r < e → ssum (fun c => aW A r c * x c) a (e - a) = A (8 * r + r) * x r := fun r h1 h2 => by
    refine ssum_1 h1 (by omega) (fun c q1 q2 q3 => ?_)
    unfold aW
    rw [(h c q1 (by omega)).2 r h1 h2 (fun e => q3 e.symm)]
    grind
  constructor
  · intro g r h1 h2
    rw [← key r h1 h2]
    exact g r h1 h2
  · intro g r h1 h2
    rw [key r h1 h2]
    exact g r h1 h2
theorem Dg_inj {A : Nat → ZF} {a e : Nat} (h : Dg A a e e) : Inj (aW A) e a := fun x hx c h1 h2 => by
  have g := (Dg_so h 0 x).mp (SO_0 hx) c h1 h2
  have g2 : A (8 * c + c) * x c = 0 := by rw [g]; grind
  exact (nzd g2).resolve_left (h c h1 h2).1
/-- a column of zeros from its diagonal down: there is a solution that isn't 0 -/
theorem Dg_ninj {A : Nat → ZF} {a c e : Nat} (hc1 : a ≤ c) (hc2 : c < e) (h : Dg A a c e) (hz : ∀ r, c ≤ r → r < e → A (8 * r + c) = 0) : ¬ Inj (aW A) e a := by
  intro hi
  have hx := hi (fun c' => if c' = c then 1 else if c' < c then -(A (8 * c' + c) * zinv (A (8 * c' + c'))) else 0) (fun r h1 h2 => ?_) c hc1 hc2
  · rw [if_pos rfl] at hx
    exact absurd hx (by decide)
  · show _ = (0 : ZF) * 0
    by_cases hr : r < c
    · have e1 : e - a = (c - a) + (1 + (e - c - 1)) := by omega
      rw [e1, ssum_sp, ssum_sp, ssum_1 (c0 := r) (a := a) h1 (by omega) (fun c' q1 q2 q3 => ?_), ssum_0 (a := a + (c - a) + 1) (fun c' q1 q2 => ?_)]
      · show _ + (0 + _ + 0) = _
        dsimp only
        rw [if_neg (by omega), if_pos hr, show a + (c - a) + 0 = c by omega, if_pos rfl]
        unfold aW
        have hm := zinv_m (h r h1 hr).1
        grind
      · dsimp only
        rw [if_neg (by omega), if_neg (by omega)]
        grind
      · dsimp only
        unfold aW
        rw [(h c' q1 (by omega)).2 r h1 h2 (fun e => q3 e.symm)]
        grind
    · refine (ssum_0 (fun c' q1 q2 => ?_)).trans (by grind)
      dsimp only
      by_cases e1 : c' = c
      · rw [e1]
        unfold aW
        rw [hz r (by omega) h2]
        grind
      · rw [if_neg e1]
        by_cases e2 : c' < c
        · unfold aW
          rw [(h c' q1 e2).2 r h1 h2 (by omega)]
          grind
        · rw [if_neg e2]
          grind
theorem icl_e {fr e : Nat} (he : e ≤ 7) : ∀ (m c : Nat) (A : Nat → ZF), fr ≤ c → c + m = e → Dg A fr c e → (((icl fr m c A).1 = true ↔ Inj (aW A) e fr) ∧ ((icl fr m c A).1 = true → Dg (icl fr m c A).2 fr e e ∧ ∀ t x, SO (aW (icl fr m c A).2) (ab (icl fr m c A).2) e fr t x ↔ SO (aW A) (ab A) e fr t x)) := by
  intro m
  induction m with
  | zero =>
    intro c A hc hm h
    have e1 : c = e := by omega
    subst e1
    exact ⟨⟨fun _ => Dg_inj h, fun _ => rfl⟩, fun _ => ⟨h, fun t x => Iff.rfl⟩⟩
  | succ m ih =>
    intro c A hc hm h
    obtain ⟨hr1, hr2⟩ := fnd_le A c (m + 1) c
    have hz := fnd_z A c (m + 1) c
    have hnz := fnd_n A c (m + 1) c
    unfold icl
    generalize fnd A c (m + 1) c = r at hr1 hr2 hz hnz
    by_cases hr : r = c + (m + 1)
    · rw [if_pos hr]
      refine ⟨⟨fun q => absurd q Bool.false_ne_true, fun q => absurd q (Dg_ninj hc (by omega) h (fun q h1 h2 => hz q h1 (by omega)))⟩, fun q => absurd q Bool.false_ne_true⟩
    · rw [if_neg hr]
      have hnz := hnz (by omega)
      have hA1 : ∀ q k, k < 8 → swk A r c 8 (8 * q + k) = if q = r then A (8 * c + k) else if q = c then A (8 * r + k) else A (8 * q + k) := fun q k hk => swk_e A q k hk
      generalize swk A r c 8 = A1 at hA1
      have hp : A1 (8 * c + c) ≠ 0 := by
        rw [hA1 c c (by omega)]
        by_cases q : c = r
        · rw [if_pos q, q]
          rw [q] at hnz
          exact hnz
        · rw [if_neg q, if_pos rfl]
          exact hnz
      have D1 : Dg A1 fr c e := fun c' q1 q2 => by
        refine ⟨?_, fun q q3 q4 q5 => ?_⟩
        · rw [hA1 c' c' (by omega), if_neg (by omega), if_neg (by omega)]
          exact (h c' q1 q2).1
        · rw [hA1 q c' (by omega)]
          by_cases e1 : q = r
          · rw [if_pos e1]
            exact (h c' q1 q2).2 c (by omega) (by omega) (by omega)
          · rw [if_neg e1]
            by_cases e2 : q = c
            · rw [if_pos e2]
              exact (h c' q1 q2).2 r (by omega) (by omega) (by omega)
            · rw [if_neg e2]
              exact (h c' q1 q2).2 q q3 q4 q5
      have S1 : ∀ t x, SO (aW A1) (ab A1) e fr t x ↔ SO (aW A) (ab A) e fr t x := fun t x => by
        refine SO_sw (p := r) (q := c) ⟨by omega, by omega⟩ ⟨by omega, by omega⟩ (fun q k _ _ _ _ => hA1 q k (by omega)) (fun q _ _ => hA1 q 7 (by omega)) t x
      have hA2 : ∀ q k, k < 8 → elm A1 c (zinv (A1 (8 * c + c))) fr (c + (m + 1) - fr) (8 * q + k) = _ := fun q k hk => elm_e A1 (zinv (A1 (8 * c + c))) fr (show c < 8 by omega) (c + (m + 1) - fr) q k hk
      generalize elm A1 c (zinv (A1 (8 * c + c))) fr (c + (m + 1) - fr) = A2 at hA2
      have hi := zinv_m hp
      generalize zinv (A1 (8 * c + c)) = b at hA2 hi
      have S2 : ∀ t x, SO (aW A2) (ab A2) e fr t x ↔ SO (aW A1) (ab A1) e fr t x := fun t x => by
        refine SO_op (p := c) (f := fun q => if q = c then 0 else A1 (8 * q + c) * b) hc (by omega) (if_pos rfl) (fun q k q1 q2 _ _ => ?_) (fun q q1 q2 => ?_) t x
        · unfold aW
          rw [hA2 q k (by omega)]
          by_cases e1 : q = c
          · rw [if_neg (by omega), if_pos e1]
            grind
          · rw [if_pos (by omega), if_neg e1]
        · unfold ab
          rw [hA2 q 7 (by omega)]
          by_cases e1 : q = c
          · rw [if_neg (by omega), if_pos e1]
            grind
          · rw [if_pos (by omega), if_neg e1]
      have D2 : Dg A2 fr (c + 1) e := fun c' q1 q2 => by
        by_cases e1 : c' = c
        · subst e1
          refine ⟨?_, fun q q3 q4 q5 => ?_⟩
          · rw [hA2 c' c' (by omega), if_neg (by omega)]
            exact hp
          · rw [hA2 q c' (by omega), if_pos (by omega)]
            grind
        · have d := D1 c' q1 (by omega)
          have z := d.2 c (by omega) (by omega) (by omega)
          refine ⟨?_, fun q q3 q4 q5 => ?_⟩
          · rw [hA2 c' c' (by omega)]
            split
            · rw [z]
              intro g
              refine d.1 ?_
              grind
            · exact d.1
          · rw [hA2 q c' (by omega), d.2 q q3 q4 q5]
            split
            · rw [z]
              grind
            · rfl
      obtain ⟨i1, i2⟩ := ih (c + 1) A2 (by omega) (by omega) D2
      have S12 : ∀ t x, SO (aW A2) (ab A2) e fr t x ↔ SO (aW A) (ab A) e fr t x := fun t x => (S2 t x).trans (S1 t x)
      refine ⟨i1.trans ⟨fun g x hx => g x (SO_0 ((S12 0 x).mpr (SO_0 hx))), fun g x hx => g x (SO_0 ((S12 0 x).mp (SO_0 hx)))⟩, fun g => ⟨(i2 g).1, fun t x => ((i2 g).2 t x).trans (S12 t x)⟩⟩
theorem icls_e {n : Nat} (hn : n ≤ 7) (A : Nat → ZF) : ∀ k, k ≤ n → (icls A n k = true ↔ ∀ fr, fr < k → Inj (aW A) n fr)
  | 0, _ => ⟨fun _ fr h => by omega, fun _ => rfl⟩
  | k + 1, h => by
    have e := (icl_e hn (n - k) k A (Nat.le_refl k) (by omega) (fun c' h1 h2 => by omega)).1
    have ih := icls_e hn A k (by omega)
    unfold icls
    cases hb : (icl k (n - k) k A).1 with
    | false =>
      rw [hb] at e
      refine ⟨fun q => absurd q Bool.false_ne_true, fun q => absurd (e.mpr (q k (by omega))) Bool.false_ne_true⟩
    | true =>
      have e := e.mp hb
      refine ⟨fun q fr hf => ?_, fun q => ih.mpr (fun fr hf => q fr (by omega))⟩
      by_cases e1 : fr = k
      · rw [e1]; exact e
      · exact ih.mp q fr (by omega)
/-- the reference's pushes solve the system -/
theorem xsl_so {n : Nat} (hn : n ≤ 7) {A : Nat → ZF} (h : Inj (aW A) n 0) : SO (aW A) (ab A) n 0 1 (xsl A n) := by
  obtain ⟨e1, e2⟩ := icl_e hn n 0 A (Nat.le_refl 0) (by omega) (fun c' h1 h2 => by omega)
  obtain ⟨d, s⟩ := e2 (e1.mpr h)
  refine (s 1 _).mp ((Dg_so d 1 _).mpr (fun r h1 h2 => ?_))
  have hm := zinv_m (d r h1 h2).1
  unfold xsl
  grind
