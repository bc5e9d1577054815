/-! BITS: masks, remainders -/
def p2 (b : Int) : Int := 2 ^ b.toNat
theorem p2_pos (b : Int) : 0 < p2 b := Int.pow_pos (by decide)
theorem shl_1 : ∀ n : Fin 33, llshl 1 (n.val : Int) = (2 : Int) ^ n.val := by decide +kernel
theorem llshl_1 {b : Int} (h1 : 0 ≤ b) (h2 : b ≤ 32) : llshl 1 b = p2 b := by
  have h := shl_1 ⟨b.toNat, by omega⟩
  have e : ((b.toNat : Nat) : Int) = b := by omega
  simp only [e] at h
  exact h
theorem ofInt_nat {v : Int} (n : Nat) : (BitVec.ofInt n v).toNat = (v % (2 ^ n : Nat)).toNat := BitVec.toNat_ofInt _
theorem lland_m (v : Int) (n : Nat) (hn : n ≤ 32) : lland v ((2 : Int) ^ n - 1) = v % (2 : Int) ^ n := by
  unfold lland
  have hp : (2 : Nat) ^ n ≤ 2 ^ 32 := Nat.pow_le_pow_right (by decide) hn
  have hp1 : 0 < (2 : Nat) ^ n := Nat.pow_pos (by decide)
  have hcast : ((2 : Int) ^ n) = (((2 : Nat) ^ n : Nat) : Int) := by simp
  have hm : ((2 : Int) ^ n - 1) = (((2 : Nat) ^ n - 1 : Nat) : Int) := by rw [hcast]; omega
  show (Int64.ofInt v &&& Int64.ofInt ((2 : Int) ^ n - 1)).toBitVec.toInt = _
  rw [Int64.toBitVec_and, Int64.toBitVec_ofInt, Int64.toBitVec_ofInt]
  have hnat : (BitVec.ofInt 64 v &&& BitVec.ofInt 64 ((2 : Int) ^ n - 1)).toNat = (v % (2 : Int) ^ n).toNat := by
    rw [BitVec.toNat_and, ofInt_nat, ofInt_nat, hm]
    have e1 : ((((2 : Nat) ^ n - 1 : Nat) : Int) % ((2 ^ 64 : Nat) : Int)).toNat = 2 ^ n - 1 := by
      have : (2 : Nat) ^ n - 1 < 2 ^ 64 := by omega
      omega
    rw [e1, Nat.and_two_pow_sub_one_eq_mod]
    have hd : ((2 : Nat) ^ n) ∣ 2 ^ 64 := Nat.pow_dvd_pow 2 (by omega)
    have h3 : (v % ((2 ^ 64 : Nat) : Int)) % (((2 : Nat) ^ n : Nat) : Int) = v % (((2 : Nat) ^ n : Nat) : Int) := Int.emod_emod_of_dvd v (Int.natCast_dvd_natCast.mpr hd)
    rw [hcast, ← h3]
    have h4 : 0 ≤ v % ((2 ^ 64 : Nat) : Int) := Int.emod_nonneg _ (by decide)
    generalize v % ((2 ^ 64 : Nat) : Int) = w at h4
    obtain ⟨m, rfl⟩ := Int.eq_ofNat_of_zero_le h4
    rw [← Int.natCast_emod, Int.toNat_natCast, Int.toNat_natCast]
  have hlt : v % (2 : Int) ^ n < (2 : Int) ^ n := Int.emod_lt_of_pos _ (by rw [hcast]; omega)
  have hge : 0 ≤ v % (2 : Int) ^ n := Int.emod_nonneg _ (by rw [hcast]; omega)
  rw [BitVec.toInt_eq_toNat_of_lt (by rw [hnat]; omega), hnat]
  omega
theorem cut_eq {v b : Int} (h1 : 0 ≤ b) (h2 : b ≤ 32) : lland v (llshl 1 b - 1) = v % p2 b := by
  rw [llshl_1 h1 h2]
  exact lland_m v b.toNat (by omega)
theorem lland_n {x y : Int} (x1 : 0 ≤ x) (x2 : x < 4294967296) (y1 : 0 ≤ y) (y2 : y < 4294967296) : lland x y = ((x.toNat &&& y.toNat : Nat) : Int) := by
  unfold lland
  show (Int64.ofInt x &&& Int64.ofInt y).toBitVec.toInt = _
  rw [Int64.toBitVec_and, Int64.toBitVec_ofInt, Int64.toBitVec_ofInt]
  have e1 : (x % ((2 ^ 64 : Nat) : Int)).toNat = x.toNat := by omega
  have e2 : (y % ((2 ^ 64 : Nat) : Int)).toNat = y.toNat := by omega
  have hle : x.toNat &&& y.toNat ≤ x.toNat := Nat.and_le_left
  have hnat : (BitVec.ofInt 64 x &&& BitVec.ofInt 64 y).toNat = x.toNat &&& y.toNat := by
    rw [BitVec.toNat_and, ofInt_nat, ofInt_nat, e1, e2]
  rw [BitVec.toInt_eq_toNat_of_lt (by rw [hnat]; omega), hnat]
theorem lland_lt {x y b : Int} (h1 : 0 ≤ b) (h2 : b ≤ 32) (x1 : 0 ≤ x) (x2 : x < p2 b) (y1 : 0 ≤ y) (y2 : y < p2 b) : 0 ≤ lland x y ∧ lland x y < p2 b := by
  have hp : p2 b ≤ 4294967296 := by
    have : (2 : Nat) ^ b.toNat ≤ 2 ^ 32 := Nat.pow_le_pow_right (by decide) (by omega)
    have e : p2 b = (((2 : Nat) ^ b.toNat : Nat) : Int) := by simp [p2]
    omega
  rw [lland_n x1 (by omega) y1 (by omega)]
  have hle : x.toNat &&& y.toNat ≤ x.toNat := Nat.and_le_left
  omega
theorem p2_le {b : Int} (h2 : b ≤ 32) : p2 b ≤ 4294967296 := by
  have : (2 : Nat) ^ b.toNat ≤ 2 ^ 32 := Nat.pow_le_pow_right (by decide) (by omega)
  have e : p2 b = (((2 : Nat) ^ b.toNat : Nat) : Int) := by simp [p2]
  omega
theorem mod_p2 (v : Int) {b : Int} (h2 : b ≤ 32) : 0 ≤ v % p2 b ∧ v % p2 b < p2 b ∧ v % p2 b < 4294967296 := by
  have h3 := p2_le h2
  have h4 := Int.emod_nonneg v (Int.ne_of_gt (p2_pos b))
  have h5 := Int.emod_lt_of_pos v (p2_pos b)
  omega
theorem tmod_tmod {v m : Int} (hm : 0 < m) : (v.tmod m + m).tmod m = v % m := by
  by_cases hv : 0 ≤ v
  · rw [Int.tmod_eq_emod_of_nonneg hv, Int.tmod_eq_emod_of_nonneg (by have := Int.emod_nonneg v (Int.ne_of_gt hm); omega)]
    simp
  · have h1 : v.tmod m = -((-v) % m) := by
      have : v.tmod m = -((-v).tmod m) := by rw [Int.neg_tmod, Int.neg_neg]
      rw [this, Int.tmod_eq_emod_of_nonneg (by omega)]
    have h2 := Int.emod_nonneg (-v) (Int.ne_of_gt hm)
    have h3 := Int.emod_lt_of_pos (-v) hm
    rw [h1, Int.tmod_eq_emod_of_nonneg (by omega)]
    have h4 : v = -((-v) % m) - m * ((-v) / m) := by have := Int.emod_add_mul_ediv (-v) m; omega
    have h5 : (-((-v) % m) + m) % m = (-((-v) % m)) % m := by simp
    rw [h5]
    conv => rhs; rw [h4]
    rw [Int.sub_eq_add_neg, Int.neg_mul_eq_mul_neg, Int.add_mul_emod_self_left]
theorem tmod_nn {v m : Int} (hv : 0 ≤ v) : v.tmod m = v % m := Int.tmod_eq_emod_of_nonneg hv
theorem mod_b {v m : Int} (hm : 0 < m) : 0 ≤ v % m ∧ v % m < m := ⟨Int.emod_nonneg v (Int.ne_of_gt hm), Int.emod_lt_of_pos v hm⟩
theorem tmod_b {v m : Int} (hm : 0 < m) : -m < v.tmod m ∧ v.tmod m < m := ⟨Int.lt_tmod_of_pos v hm, Int.tmod_lt_of_pos v hm⟩
