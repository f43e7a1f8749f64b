/-! P is a prime; x^P = x; the inverse is one -/
def chk (p : Nat) : Nat → Nat → Bool
  | 0, lo => !(Nat.beq (p % lo) 0)
  | d + 1, lo => chk p d lo && chk p d (lo + 2 ^ d)
theorem chk_e (p : Nat) : ∀ d lo, chk p d lo = true → ∀ x, lo ≤ x → x < lo + 2 ^ d → p % x ≠ 0
  | 0, lo, h, x, h1, h2 => by
    have e : x = lo := by
      have : (2 : Nat) ^ 0 = 1 := rfl
      omega
    subst e
    intro q
    unfold chk at h
    rw [q] at h
    exact absurd h (by decide)
  | d + 1, lo, h, x, h1, h2 => by
    unfold chk at h
    rw [Bool.and_eq_true] at h
    have e : (2 : Nat) ^ (d + 1) = 2 ^ d + 2 ^ d := by rw [Nat.pow_succ]; omega
    by_cases hx : x < lo + 2 ^ d
    · exact chk_e p d lo h.1 x h1 hx
    · exact chk_e p d (lo + 2 ^ d) h.2 x (by omega) (by omega)
set_option maxRecDepth 100000 in
theorem chk_P : chk 2147483647 16 2 = true := by decide +kernel
theorem pr_dvd {k : Nat} (h0 : 0 < k) (hk : k < 2147483647) : Nat.gcd 2147483647 k = 1 := by
  have hd := Nat.gcd_dvd_left 2147483647 k
  have hk2 := Nat.gcd_le_right 2147483647 h0
  have hp : 0 < Nat.gcd 2147483647 k := Nat.gcd_pos_of_pos_right _ h0
  generalize Nat.gcd 2147483647 k = g at hd hk2 hp
  by_cases h1 : g = 1
  · exact h1
  · exfalso
    obtain ⟨q, hq⟩ := hd
    have hq2 : ¬ q ≤ 1 := fun h => by
      have : g * q ≤ g * 1 := Nat.mul_le_mul_left g h
      omega
    by_cases hg : g < 65538
    · exact chk_e _ 16 2 chk_P g (by omega) (by omega) (Nat.mod_eq_zero_of_dvd ⟨q, hq⟩)
    · by_cases hq3 : q < 65538
      · exact chk_e _ 16 2 chk_P q (by omega) (by omega) (Nat.mod_eq_zero_of_dvd ⟨g, hq.trans (Nat.mul_comm _ _)⟩)
      · have : 65538 * 65538 ≤ g * q := Nat.mul_le_mul (by omega) (by omega)
        omega
theorem zf_dv {x : ZF} (h : x ≠ 0) {m : Nat} (hd : 2147483647 ∣ x.val * m) : 2147483647 ∣ m := by
  have hx : 0 < x.val := by
    rcases Nat.eq_zero_or_pos x.val with e | e
    · exact absurd (Fin.ext e) h
    · exact e
  exact Nat.Coprime.dvd_of_dvd_mul_left (pr_dvd hx x.isLt) hd
theorem nzd {x y : ZF} (h : x * y = 0) : x = 0 ∨ y = 0 := by
  by_cases hx : x = 0
  · exact Or.inl hx
  · refine Or.inr (Fin.ext ?_)
    have e : (x * y).val = 0 := by rw [h]; rfl
    rw [Fin.val_mul] at e
    have hd := zf_dv hx (Nat.dvd_of_mod_eq_zero e)
    have := y.isLt
    exact Nat.eq_zero_of_dvd_of_lt hd this
def cN : Nat → Nat → Nat
  | _, 0 => 1
  | 0, _ + 1 => 0
  | n + 1, k + 1 => cN n k + cN n (k + 1)
theorem cN_0 (n : Nat) : cN n 0 = 1 := by cases n <;> rfl
theorem cN_s (n k : Nat) : cN (n + 1) (k + 1) = cN n k + cN n (k + 1) := rfl
theorem cN_big : ∀ n k, n < k → cN n k = 0
  | 0, 0, h => by omega
  | 0, _ + 1, _ => rfl
  | _ + 1, 0, h => by omega
  | n + 1, k + 1, h => by rw [cN_s, cN_big n k (by omega), cN_big n (k + 1) (by omega)]
theorem cN_nn : ∀ n, cN n n = 1
  | 0 => rfl
  | n + 1 => by rw [cN_s, cN_nn n, cN_big n (n + 1) (by omega)]
theorem cN_ab : ∀ n k, (k + 1) * cN (n + 1) (k + 1) = (n + 1) * cN n k
  | 0, 0 => rfl
  | 0, k + 1 => by
    rw [cN_s, cN_big 0 (k + 1) (by omega), cN_big 0 (k + 1 + 1) (by omega)]
    omega
  | n + 1, 0 => by
    have h := cN_ab n 0
    rw [cN_s, cN_0]
    rw [cN_0] at h
    omega
  | n + 1, k + 1 => by
    have h1 := cN_ab n k
    have h2 := cN_ab n (k + 1)
    have h3 := cN_s n k
    rw [cN_s (n + 1) (k + 1)]
    generalize cN (n + 1) (k + 1) = a at *
    generalize cN (n + 1) (k + 1 + 1) = b at *
    generalize cN n k = c at *
    generalize cN n (k + 1) = d at *
    subst h3
    grind
def nz (n : Nat) : ZF := zi (n : Int)
theorem nz_add (a b : Nat) : nz (a + b) = nz a + nz b := zi_add a b
theorem nz_1 : nz 1 = 1 := by decide
theorem nz_0 : nz 0 = 0 := by decide
theorem nz_v (x : ZF) : nz x.val = x := zi_val x
theorem nz_d {n : Nat} (h : 2147483647 ∣ n) : nz n = 0 := by
  obtain ⟨q, rfl⟩ := h
  refine zf_ext ?_
  show ((zi ((2147483647 * q : Nat) : Int)).val : Int) = 0
  rw [zi_v]
  omega
/-- the sum of the first m + 1 terms -/
def bs (x : ZF) (n : Nat) : Nat → ZF
  | 0 => nz (cN n 0)
  | m + 1 => bs x n m + nz (cN n (m + 1)) * zp x (m + 1)
theorem bs_s (x : ZF) (n : Nat) : ∀ m, bs x (n + 1) (m + 1) = bs x n (m + 1) + x * bs x n m
  | 0 => by
    show nz (cN (n + 1) 0) + nz (cN (n + 1) (0 + 1)) * zp x (0 + 1) = nz (cN n 0) + nz (cN n (0 + 1)) * zp x (0 + 1) + x * nz (cN n 0)
    rw [cN_s, nz_add, cN_0, cN_0, zp_one]
    grind
  | m + 1 => by
    have h := bs_s x n m
    show bs x (n + 1) (m + 1) + nz (cN (n + 1) (m + 1 + 1)) * (zp x (m + 1) * x) = bs x n (m + 1) + nz (cN n (m + 1 + 1)) * (zp x (m + 1) * x) + x * (bs x n m + nz (cN n (m + 1)) * zp x (m + 1))
    rw [cN_s, nz_add, h]
    grind
theorem bin (x : ZF) : ∀ n, zp (x + 1) n = bs x n n
  | 0 => by show (1 : ZF) = nz 1; rw [nz_1]
  | n + 1 => by
    rw [bs_s]
    show zp (x + 1) n * (x + 1) = bs x n n + nz (cN n (n + 1)) * zp x (n + 1) + x * bs x n n
    rw [bin x n, cN_big n (n + 1) (by omega), nz_0]
    grind
theorem bs_p (x : ZF) (p : Nat) (hp : ∀ k, 0 < k → k < p → nz (cN p k) = 0) : ∀ m, m < p → bs x p m = 1
  | 0, _ => by show nz (cN p 0) = 1; rw [cN_0, nz_1]
  | m + 1, h => by
    show bs x p m + nz (cN p (m + 1)) * zp x (m + 1) = 1
    rw [bs_p x p hp m (by omega), hp (m + 1) (by omega) h]
    grind
theorem fro (x : ZF) (q : Nat) (hp : ∀ k, 0 < k → k < q + 1 → nz (cN (q + 1) k) = 0) : zp (x + 1) (q + 1) = zp x (q + 1) + 1 := by
  rw [bin]
  show bs x (q + 1) q + nz (cN (q + 1) (q + 1)) * zp x (q + 1) = _
  rw [bs_p x (q + 1) hp q (by omega), cN_nn, nz_1]
  grind
theorem fer (q : Nat) (hp : ∀ k, 0 < k → k < q + 1 → nz (cN (q + 1) k) = 0) : ∀ n, zp (nz n) (q + 1) = nz n
  | 0 => by
    rw [nz_0]
    show zp 0 q * 0 = 0
    grind
  | n + 1 => by rw [nz_add, nz_1, fro (nz n) q hp, fer q hp n]
theorem cN_P (q : Nat) (hq : q + 1 = 2147483647) : ∀ k, 0 < k → k < q + 1 → nz (cN (q + 1) k) = 0
  | 0, h, _ => by omega
  | k + 1, _, h => by
    refine nz_d ?_
    have hab := cN_ab q k
    have hd : 2147483647 ∣ (k + 1) * cN (q + 1) (k + 1) := ⟨cN q k, by rw [hab, hq]⟩
    exact Nat.Coprime.dvd_of_dvd_mul_left (pr_dvd (by omega) (by omega)) hd
theorem fer_q (q : Nat) (hq : q + 1 = 2147483647) (x : ZF) : zp x (q + 1) = x := by
  have h := fer q (cN_P q hq) x.val
  rw [nz_v] at h
  exact h
theorem inv_q (q r : Nat) (hq : q + 1 = 2147483647) (hr : r + 1 = q) {x : ZF} (hx : x ≠ 0) : x * zp x r = 1 := by
  have h := fer_q q hq x
  subst hr
  have h2 : zp x r * x * x = x := h
  have h3 : x * (x * zp x r - 1) = 0 := by grind
  rcases nzd h3 with h4 | h4
  · exact absurd h4 hx
  · grind
theorem zinv_m {x : ZF} (hx : x ≠ 0) : x * zinv x = 1 := by
  rw [zinv_e]
  exact inv_q 2147483646 2147483645 (by decide) (by decide) hx
