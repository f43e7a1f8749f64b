/-! Powers, and the inverse that both programs compute: the power P - 2 -/
def zp (a : ZF) : Nat → ZF
  | 0 => 1
  | n + 1 => zp a n * a
theorem zp_add (a : ZF) (m : Nat) : ∀ n, zp a (m + n) = zp a m * zp a n
  | 0 => by show zp a m = zp a m * 1; grind
  | n + 1 => by
    show zp a (m + n) * a = zp a m * (zp a n * a)
    rw [zp_add a m n]
    grind
theorem zp_two (a : ZF) (n : Nat) : zp a (2 * n) = zp a n * zp a n := by rw [Nat.two_mul, zp_add]
theorem zp_one (a : ZF) : zp a 1 = a := by show 1 * a = a; grind
theorem zp_sq (a : ZF) : ∀ n, zp (a * a) n = zp a (2 * n)
  | 0 => rfl
  | n + 1 => by
    show zp (a * a) n * (a * a) = zp a (2 * n) * a * a
    rw [zp_sq a n]
    grind
/-- the power P - 2, as a name that the kernel does not open -/
theorem zinv_x (a : ZF) : ∃ x, x = zp a 2147483645 := ⟨_, rfl⟩
noncomputable def zinv (a : ZF) : ZF := Classical.choose (zinv_x a)
theorem zinv_e (a : ZF) : zinv a = zp a 2147483645 := Classical.choose_spec (zinv_x a)
theorem inv_bit : ∀ b : Fin 31, ((2147483645 : Int64) >>> ((nI b.val).toInt64 &&& 63)) &&& 1 = if b.val = 1 then 0 else 1 := by decide +kernel
theorem inv_e : ∀ b : Fin 31, 2147483645 % 2 ^ (b.val + 1) = (if b.val = 1 then 0 else 2 ^ b.val) + 2147483645 % 2 ^ b.val := by decide +kernel
