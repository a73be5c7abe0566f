/-! ===== ints as numbers ===== -/
theorem i_rng (x : Int32) : -2147483648 ≤ x.toInt ∧ x.toInt ≤ 2147483647 := by
  have h1 := Int32.le_toInt x
  have h2 := Int32.toInt_lt x
  omega
theorem i_add {x y : Int32} {A B : Int} (hx : x.toInt = A) (hy : y.toInt = B) (h1 : -2147483648 ≤ A + B) (h2 : A + B ≤ 2147483647) : (x + y).toInt = A + B := by
  subst hx; subst hy
  rw [Int32.toInt_add, Int.bmod_def]; omega
theorem i_sub {x y : Int32} {A B : Int} (hx : x.toInt = A) (hy : y.toInt = B) (h1 : -2147483648 ≤ A - B) (h2 : A - B ≤ 2147483647) : (x - y).toInt = A - B := by
  subst hx; subst hy
  rw [Int32.toInt_sub, Int.bmod_def]; omega
theorem i_mul {x y : Int32} {A B : Int} (hx : x.toInt = A) (hy : y.toInt = B) (h1 : -2147483648 ≤ A * B) (h2 : A * B ≤ 2147483647) : (x * y).toInt = A * B := by
  subst hx; subst hy
  rw [Int32.toInt_mul, Int.bmod_def]
  generalize x.toInt * y.toInt = t at h1 h2 ⊢
  omega
theorem i_neg {x : Int32} {A : Int} (hx : x.toInt = A) (h1 : -2147483648 < A) : (-x).toInt = -A := by
  subst hx
  have := i_rng x
  rw [Int32.toInt_neg, Int.bmod_def]; omega
theorem i_div {x y : Int32} {A B : Int} (hx : x.toInt = A) (hy : y.toInt = B) (h0 : 0 ≤ A) (h1 : 0 < B) : (x / y).toInt = A / B := by
  subst hx; subst hy
  have hr := i_rng x
  rw [Int32.toInt_div, Int.tdiv_eq_ediv_of_nonneg h0, Int.bmod_def]
  have h2 : 0 ≤ x.toInt / y.toInt := Int.ediv_nonneg h0 (by omega)
  have h3 : x.toInt / y.toInt ≤ x.toInt := Int.ediv_le_self _ h0
  generalize x.toInt / y.toInt = t at h2 h3 ⊢
  omega
theorem i_rem {x y : Int32} {A B : Int} (hx : x.toInt = A) (hy : y.toInt = B) (h0 : 0 ≤ A) (h1 : 0 < B) : (x - x / y * y).toInt = A % B := by
  have hd := i_div hx hy h0 h1
  have e : A / B * B = A - A % B := by
    have := Int.mul_ediv_add_emod A B
    rw [Int.mul_comm] at this
    omega
  have g1 := Int.emod_nonneg A (show B ≠ 0 by omega)
  have g2 := Int.emod_lt_of_pos A h1
  have g3 := i_rng x
  have g4 : A % B ≤ A := by
    by_cases hl : A < B
    · rw [Int.emod_eq_of_lt h0 hl]; omega
    · omega
  have hm := i_mul hd hy (by omega) (by omega)
  have hs := i_sub hx hm (by omega) (by omega)
  rw [hs]; omega
theorem i_lt {x y : Int32} {A B : Int} (hx : x.toInt = A) (hy : y.toInt = B) : x < y ↔ A < B := by
  subst hx; subst hy; exact Int32.lt_iff_toInt_lt
theorem i_le {x y : Int32} {A B : Int} (hx : x.toInt = A) (hy : y.toInt = B) : x ≤ y ↔ A ≤ B := by
  subst hx; subst hy; exact Int32.le_iff_toInt_le
theorem i_eq {x y : Int32} {A B : Int} (hx : x.toInt = A) (hy : y.toInt = B) : x = y ↔ A = B := by
  subst hx; subst hy; exact ⟨fun h => by rw [h], fun h => Int32.toInt_inj.mp h⟩
theorem i_max {x y : Int32} {A B : Int} (hx : x.toInt = A) (hy : y.toInt = B) : (if x < y then y else x).toInt = max A B := by
  have := i_lt hx hy
  by_cases h : x < y
  · rw [if_pos h, hy]; have := this.mp h; omega
  · rw [if_neg h, hx]; have := (not_congr this).mp h; omega
theorem i_min {x y : Int32} {A B : Int} (hx : x.toInt = A) (hy : y.toInt = B) : (if y < x then y else x).toInt = min A B := by
  have := i_lt hy hx
  by_cases h : y < x
  · rw [if_pos h, hy]; have := this.mp h; omega
  · rw [if_neg h, hx]; have := (not_congr this).mp h; omega
theorem i_nI {n : Nat} (h : n ≤ 2147483647) : (nI n).toInt = (n : Int) := by
  show (Int32.ofNat n).toInt = _
  first | exact Int32.toInt_ofNat_of_lt (by omega) | exact Int32.toInt_ofNat_small (by omega) | (rw [Int32.toInt_ofNat', Int.bmod_def]; omega)
theorem vi_of {x : Int32} {A : Int} {n : Nat} (hx : x.toInt = A) (h0 : 0 ≤ A) (h1 : A < (n : Int)) : vp_in x n := vp_in_iff.mpr (by rw [hx]; exact ⟨h0, h1⟩)
theorem i_nat {x : Int32} {A : Int} (hx : x.toInt = A) (h0 : 0 ≤ A) : ((x.toNatClampNeg : Nat) : Int) = A := by
  show ((x.toInt.toNat : Nat) : Int) = A
  omega
theorem i_and {x : Int32} {n : Nat} (h : n < 31) : 0 ≤ (x &&& Int32.ofNat (2 ^ n - 1)).toInt ∧ (x &&& Int32.ofNat (2 ^ n - 1)).toInt < 2 ^ n := by
  have e : ∀ a b : Int32, (a &&& b).toBitVec = a.toBitVec &&& b.toBitVec := fun _ _ => rfl
  have h2 : 2 ^ n < 2 ^ 31 := Nat.pow_lt_pow_right (by omega) h
  have hm : (Int32.ofNat (2 ^ n - 1)).toBitVec.toNat = 2 ^ n - 1 := by
    show (BitVec.ofNat 32 (2 ^ n - 1)).toNat = _
    rw [BitVec.toNat_ofNat]; omega
  have hN : (x &&& Int32.ofNat (2 ^ n - 1)).toBitVec.toNat < 2 ^ n := by
    rw [e, BitVec.toNat_and, hm]
    have := Nat.and_le_right (n := x.toBitVec.toNat) (m := 2 ^ n - 1)
    have h3 : 0 < 2 ^ n := Nat.two_pow_pos n
    omega
  have hi : (x &&& Int32.ofNat (2 ^ n - 1)).toInt = (((x &&& Int32.ofNat (2 ^ n - 1)).toBitVec.toNat : Nat) : Int) := by
    show (x &&& Int32.ofNat (2 ^ n - 1)).toBitVec.toInt = _
    rw [BitVec.toInt_eq_toNat_of_lt (by omega)]
  rw [hi]
  constructor
  · omega
  · exact_mod_cast hN
