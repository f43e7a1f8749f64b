/-! Numbers: longs that are numbers of the field, and what the program's arithmetic does with them -/
def zi (z : Int) : ZF := ⟨(z % 2147483647).toNat, by
  have h1 := Int.emod_nonneg z (show (2147483647 : Int) ≠ 0 by decide)
  have h2 := Int.emod_lt_of_pos z (show (0 : Int) < 2147483647 by decide)
  omega⟩
theorem zi_v (z : Int) : ((zi z).val : Int) = z % 2147483647 := by
  have h1 := Int.emod_nonneg z (show (2147483647 : Int) ≠ 0 by decide)
  show (((z % 2147483647).toNat : Nat) : Int) = _
  omega
theorem zf_ext {a b : ZF} (h : (a.val : Int) = (b.val : Int)) : a = b := Fin.ext (by omega)
theorem zi_val (f : ZF) : zi (f.val : Int) = f := by
  have := f.isLt
  refine zf_ext ?_
  rw [zi_v]
  omega
theorem zi_add (a b : Int) : zi (a + b) = zi a + zi b := by
  refine zf_ext ?_
  rw [Fin.val_add, zi_v, Int.natCast_emod, Int.natCast_add, zi_v, zi_v]
  omega
theorem zi_mul (a b : Int) : zi (a * b) = zi a * zi b := by
  refine zf_ext ?_
  rw [Fin.val_mul, zi_v, Int.natCast_emod, Int.natCast_mul, zi_v, zi_v]
  exact Int.mul_emod a b _
theorem zi_sub (a b : Int) : zi (a - b) = zi a - zi b := by
  refine zf_ext ?_
  rw [Fin.sub_def, zi_v]
  show _ = ((((2147483647 - (zi b).val + (zi a).val) % 2147483647 : Nat)) : Int)
  have hb := (zi b).isLt
  have ha := zi_v a
  have hb2 := zi_v b
  omega
theorem zi_neg (a : Int) : zi (-a) = -zi a := by
  have h := zi_sub 0 a
  rw [Int.zero_sub] at h
  rw [h]
  refine zf_ext ?_
  rw [Fin.sub_def, Fin.neg_def]
  show ((((2147483647 - (zi a).val + (zi 0).val) % 2147483647 : Nat)) : Int) = (((2147483647 - (zi a).val) % 2147483647 : Nat) : Int)
  have h0 : (zi 0).val = 0 := rfl
  rw [h0]
  rfl
theorem em_i (f : ZF) : (em f).toInt = (f.val : Int) := pk_lT (Nat.lt_trans f.isLt (by decide))
theorem em_of {x : Int64} {z : Int} (h : x.toInt = z % 2147483647) : x = em (zi z) := by
  apply Int64.toInt_inj.mp
  rw [em_i, zi_v, h]
theorem em_inj {a b : ZF} (h : em a = em b) : a = b := zf_ext (by rw [← em_i, ← em_i, h])
theorem em_eq {a b : ZF} : em a = em b ↔ a = b := ⟨em_inj, fun h => by rw [h]⟩
theorem bm {x : Int} (h1 : -9223372036854775808 ≤ x) (h2 : x < 9223372036854775808) : x.bmod (2 ^ 64) = x := Int.bmod_eq_of_le (by omega) (by omega)
theorem l_add {a b : Int64} (h1 : -9223372036854775808 ≤ a.toInt + b.toInt) (h2 : a.toInt + b.toInt < 9223372036854775808) : (a + b).toInt = a.toInt + b.toInt := by rw [Int64.toInt_add, bm h1 h2]
theorem l_sub {a b : Int64} (h1 : -9223372036854775808 ≤ a.toInt - b.toInt) (h2 : a.toInt - b.toInt < 9223372036854775808) : (a - b).toInt = a.toInt - b.toInt := by rw [Int64.toInt_sub, bm h1 h2]
theorem l_mul {a b : Int64} (h1 : -9223372036854775808 ≤ a.toInt * b.toInt) (h2 : a.toInt * b.toInt < 9223372036854775808) : (a * b).toInt = a.toInt * b.toInt := by rw [Int64.toInt_mul, bm h1 h2]
theorem l_lim (a : Int64) : -9223372036854775808 ≤ a.toInt ∧ a.toInt < 9223372036854775808 := ⟨Int64.le_toInt a, Int64.toInt_lt a⟩
/-- x % P as the machine has it -/
def rP (x : Int64) : Int64 := x - x / 2147483647 * 2147483647
theorem rP_i (x : Int64) : (rP x).toInt = x.toInt.tmod 2147483647 := by
  have hP : (2147483647 : Int64).toInt = 2147483647 := by decide
  obtain ⟨h1, h2⟩ := l_lim x
  have hd : (x / 2147483647).toInt = x.toInt.tdiv 2147483647 := by
    rw [Int64.toInt_div, hP]
    have h3 := Int.tmod_add_mul_tdiv x.toInt 2147483647
    by_cases h0 : 0 ≤ x.toInt
    · have h4 := Int.tmod_nonneg (2147483647 : Int) h0
      have h5 := Int.tmod_lt_of_pos x.toInt (show (0 : Int) < 2147483647 by decide)
      exact bm (by omega) (by omega)
    · have h6 : x.toInt = -(-x.toInt) := by omega
      have h4 := Int.tmod_nonneg (2147483647 : Int) (show 0 ≤ -x.toInt by omega)
      have h5 := Int.tmod_lt_of_pos (-x.toInt) (show (0 : Int) < 2147483647 by decide)
      rw [Int.neg_tmod] at h4 h5
      exact bm (by omega) (by omega)
  have h3 := Int.tmod_add_mul_tdiv x.toInt 2147483647
  have h7 : x.toInt.tmod 2147483647 < 2147483647 := Int.tmod_lt_of_pos x.toInt (by decide)
  have h8 : -2147483647 < x.toInt.tmod 2147483647 := by
    have h5 := Int.tmod_lt_of_pos (-x.toInt) (show (0 : Int) < 2147483647 by decide)
    rw [Int.neg_tmod] at h5
    omega
  have hp : 0 ≤ x.toInt → 0 ≤ x.toInt.tmod 2147483647 := fun h => Int.tmod_nonneg (2147483647 : Int) h
  have hq : ¬ 0 ≤ x.toInt → x.toInt.tmod 2147483647 ≤ 0 := fun h => by
    have h4 := Int.tmod_nonneg (2147483647 : Int) (show 0 ≤ -x.toInt by omega)
    rw [Int.neg_tmod] at h4
    omega
  have hm : (x / 2147483647 * 2147483647).toInt = x.toInt.tdiv 2147483647 * 2147483647 := by
    rw [l_mul] <;> rw [hd, hP] <;> omega
  unfold rP
  rw [l_sub] <;> rw [hm] <;> omega
theorem rP_em {x : Int64} (h : 0 ≤ x.toInt) : rP x = em (zi x.toInt) := by
  apply em_of
  rw [rP_i]
  exact Int.tmod_eq_emod_of_nonneg h
/-- x % P, and P more if that is below 0 -/
theorem oP_em (x : Int64) : (if rP x < 0 then rP x + 2147483647 else rP x) = em (zi x.toInt) := by
  apply em_of
  have hP : (2147483647 : Int64).toInt = 2147483647 := by decide
  have h0 : (0 : Int64).toInt = 0 := by decide
  have h1 := rP_i x
  have h5 := Int.tmod_lt_of_pos x.toInt (show (0 : Int) < 2147483647 by decide)
  have h8 : -2147483647 < x.toInt.tmod 2147483647 := by
    have h5 := Int.tmod_lt_of_pos (-x.toInt) (show (0 : Int) < 2147483647 by decide)
    rw [Int.neg_tmod] at h5
    omega
  have h3 := Int.tmod_add_mul_tdiv x.toInt 2147483647
  by_cases h : rP x < 0
  · rw [if_pos h]
    rw [Int64.lt_iff_toInt_lt, h0, h1] at h
    rw [l_add] <;> rw [h1, hP] <;> omega
  · rw [if_neg h]
    rw [Int64.lt_iff_toInt_lt, h0, h1] at h
    rw [h1]
    omega
theorem mul_b (a b : ZF) : 0 ≤ (a.val : Int) * (b.val : Int) ∧ (a.val : Int) * (b.val : Int) ≤ 4611686009837453316 := by
  have h1 : a.val * b.val ≤ 2147483646 * 2147483646 := Nat.mul_le_mul (by omega) (by omega)
  have h2 : ((a.val * b.val : Nat) : Int) = (a.val : Int) * (b.val : Int) := Int.natCast_mul _ _
  omega
theorem em_mul (a b : ZF) : (em a * em b).toInt = (a.val : Int) * (b.val : Int) := by
  have := mul_b a b
  rw [l_mul] <;> rw [em_i, em_i] <;> omega
theorem n_times (a b : ZF) : rP (em a * em b) = em (a * b) := by
  have h := mul_b a b
  rw [rP_em (by rw [em_mul]; omega), em_mul, zi_mul, zi_val, zi_val]
theorem n_plus (a b : ZF) : rP (em a + em b) = em (a + b) := by
  have e : (em a + em b).toInt = (a.val : Int) + b.val := by rw [l_add] <;> rw [em_i, em_i] <;> omega
  rw [rP_em (by rw [e]; omega), e, zi_add, zi_val, zi_val]
theorem n_minus (a b : ZF) : rP (em a - em b + 2147483647) = em (a - b) := by
  have hP : (2147483647 : Int64).toInt = 2147483647 := by decide
  have e1 : (em a - em b).toInt = (a.val : Int) - b.val := by rw [l_sub] <;> rw [em_i, em_i] <;> omega
  have e : (em a - em b + 2147483647).toInt = (a.val : Int) - b.val + 2147483647 := by rw [l_add] <;> rw [e1, hP] <;> omega
  have z : zi 2147483647 = 0 := by decide
  rw [rP_em (by rw [e]; omega), e, zi_add, zi_sub, zi_val, zi_val, z, Fin.add_zero]
theorem n_addt (x a f : ZF) : rP (em x + em a * em f) = em (x + a * f) := by
  have h := mul_b a f
  have e : (em x + em a * em f).toInt = (x.val : Int) + (a.val : Int) * f.val := by rw [l_add] <;> rw [em_mul, em_i] <;> omega
  rw [rP_em (by rw [e]; omega), e, zi_add, zi_mul, zi_val, zi_val, zi_val]
theorem n_dot2 (x a y b : ZF) : rP (em x * em a + em y * em b) = em (x * a + y * b) := by
  have h := mul_b x a
  have h2 := mul_b y b
  have e : (em x * em a + em y * em b).toInt = (x.val : Int) * a.val + (y.val : Int) * b.val := by rw [l_add] <;> rw [em_mul, em_mul] <;> omega
  rw [rP_em (by rw [e]; omega), e, zi_add, zi_mul, zi_mul, zi_val, zi_val, zi_val, zi_val]
theorem n_crs (a b c d : ZF) : (em a * em b - em c * em d).toInt = (a.val : Int) * b.val - (c.val : Int) * d.val := by
  have h := mul_b a b
  have h2 := mul_b c d
  rw [l_sub] <;> rw [em_mul, em_mul] <;> omega
theorem zi_crs (a b c d : ZF) : zi ((a.val : Int) * b.val - (c.val : Int) * d.val) = a * b - c * d := by
  rw [zi_sub, zi_mul, zi_mul, zi_val, zi_val, zi_val, zi_val]
theorem ne_P : ¬ (2147483647 : Int64) = 0 := by decide
theorem i2l_i (x : Int32) : x.toInt64.toInt = x.toInt := Int32.toInt_toInt64 x
/-- how an int is told -/
def fi (x : Int32) : ZF := zi x.toInt
theorem l2i_em (f : ZF) : (em f).toInt32 = nI f.val := lN_i f.val
