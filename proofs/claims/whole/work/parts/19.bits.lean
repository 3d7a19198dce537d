/-! ===== bits ===== -/
theorem oI_nI (n : Nat) : Int32.ofInt (n : Int) = nI n := Int32.ofInt_eq_ofNat
theorem oI_bits (x : Int) : (Int32.ofInt x).toBitVec.toNat = (x % 4294967296).toNat := by
  show (BitVec.ofInt 32 x).toNat = _
  rw [BitVec.toNat_ofInt]
  rfl
theorem and_mask (x : Int) (k : Nat) (hk : k ≤ 31) : Int32.ofInt x &&& Int32.ofInt (((2 ^ k - 1 : Nat)) : Int) = Int32.ofInt (x % ((2 ^ k : Nat) : Int)) := by
  have h2 : 2 ^ k ≤ 2 ^ 31 := Nat.pow_le_pow_right (by decide) hk
  have h1 : 0 < 2 ^ k := Nat.pow_pos (by decide)
  have hm : (Int32.ofInt (((2 ^ k - 1 : Nat)) : Int)).toBitVec.toNat = 2 ^ k - 1 := by
    rw [oI_bits]
    omega
  rw [pk_and _ k hm, oI_bits, ← oI_nI]
  congr 1
  have hd : ((2 ^ k : Nat) : Int) ∣ ((2 ^ 32 : Nat) : Int) := Int.natCast_dvd_natCast.mpr (Nat.pow_dvd_pow 2 (Nat.le_succ_of_le hk))
  have e : x % 4294967296 % ((2 ^ k : Nat) : Int) = x % ((2 ^ k : Nat) : Int) := Int.emod_emod_of_dvd x hd
  rw [← e]
  have hn : 0 ≤ x % 4294967296 := Int.emod_nonneg _ (by decide)
  obtain ⟨j, hj⟩ := Int.eq_ofNat_of_zero_le hn
  rw [hj, Int.toNat_natCast, Int.natCast_emod]
theorem and_255 (x : Int) : Int32.ofInt x &&& Int32.ofInt 255 = Int32.ofInt (x % 256) := and_mask x 8 (by decide)
theorem and_15 (x : Int) : Int32.ofInt x &&& Int32.ofInt 15 = Int32.ofInt (x % 16) := and_mask x 4 (by decide)
theorem and_63 (x : Int) : Int32.ofInt x &&& Int32.ofInt 63 = Int32.ofInt (x % 64) := and_mask x 6 (by decide)
theorem and_1 (x : Int) : Int32.ofInt x &&& Int32.ofInt 1 = Int32.ofInt (x % 2) := and_mask x 1 (by decide)
/-- added without carries -/
def xr (a b : Int) : Int := ((a.toNat ^^^ b.toNat : Nat) : Int)
theorem nI_xor (a b : Nat) : nI a ^^^ nI b = nI (a ^^^ b) := by
  apply Int32.toBitVec_inj.mp
  show BitVec.ofNat 32 a ^^^ BitVec.ofNat 32 b = BitVec.ofNat 32 (a ^^^ b)
  exact (BitVec.ofNat_xor).symm
theorem xor_xr {a b : Int} (ha : 0 ≤ a) (hb : 0 ≤ b) : Int32.ofInt a ^^^ Int32.ofInt b = Int32.ofInt (xr a b) := by
  obtain ⟨m, rfl⟩ := Int.eq_ofNat_of_zero_le ha
  obtain ⟨k, rfl⟩ := Int.eq_ofNat_of_zero_le hb
  unfold xr
  rw [oI_nI, oI_nI, oI_nI, nI_xor, Int.toNat_natCast, Int.toNat_natCast]
theorem xr_rg {a b : Int} (ha : 0 ≤ a ∧ a ≤ 255) (hb : 0 ≤ b ∧ b ≤ 255) : 0 ≤ xr a b ∧ xr a b ≤ 255 := by
  unfold xr
  have h : a.toNat ^^^ b.toNat < 2 ^ 8 := Nat.xor_lt_two_pow (by omega) (by omega)
  omega
theorem bit32 : ∀ n : Nat, n < 256 → nI n &&& nI 32 = nI (32 * (n / 32 % 2)) := by decide +kernel
theorem bit16 : ∀ n : Nat, n < 256 → nI n &&& nI 16 = nI (16 * (n / 16 % 2)) := by decide +kernel
theorem and_32 {x : Int} (h : 0 ≤ x ∧ x ≤ 255) : Int32.ofInt x &&& Int32.ofInt 32 = Int32.ofInt (32 * (x / 32 % 2)) := by
  obtain ⟨m, rfl⟩ := Int.eq_ofNat_of_zero_le h.1
  have := bit32 m (by omega)
  rw [← oI_nI, ← oI_nI, ← oI_nI] at this
  rw [show (32 : Int) * ((m : Int) / 32 % 2) = ((32 * (m / 32 % 2) : Nat) : Int) by omega]
  exact this
theorem and_16 {x : Int} (h : 0 ≤ x ∧ x ≤ 255) : Int32.ofInt x &&& Int32.ofInt 16 = Int32.ofInt (16 * (x / 16 % 2)) := by
  obtain ⟨m, rfl⟩ := Int.eq_ofNat_of_zero_le h.1
  have := bit16 m (by omega)
  rw [← oI_nI, ← oI_nI, ← oI_nI] at this
  rw [show (16 : Int) * ((m : Int) / 16 % 2) = ((16 * (m / 16 % 2) : Nat) : Int) by omega]
  exact this
theorem shl1N : ∀ n : Nat, n < 256 → nI n <<< (nI 1 &&& 31) = nI (2 * n) := by decide +kernel
theorem shl_1 {x : Int} (h : 0 ≤ x ∧ x ≤ 255) : Int32.ofInt x <<< (Int32.ofInt 1 &&& 31) = Int32.ofInt (2 * x) := by
  obtain ⟨m, rfl⟩ := Int.eq_ofNat_of_zero_le h.1
  have := shl1N m (by omega)
  rw [← oI_nI, ← oI_nI, ← oI_nI] at this
  rw [show (2 : Int) * (m : Int) = ((2 * m : Nat) : Int) by omega]
  exact this
theorem shr_k {x : Int} (h : -2147483648 ≤ x ∧ x ≤ 2147483647) (k : Nat) (hk : ((Int32.ofInt (k : Int) &&& 31).toBitVec.smod 32).toNat = k) : Int32.ofInt x >>> (Int32.ofInt (k : Int) &&& 31) = Int32.ofInt (x / ((2 ^ k : Nat) : Int)) := by
  apply Int32.toInt_inj.mp
  rw [pk_shr _ _ k hk, rI h, Int.shiftRight_eq_div_pow]
  have h1 : 0 < 2 ^ k := Nat.pow_pos (by decide)
  have hp : (1 : Int) ≤ ((2 ^ k : Nat) : Int) := by omega
  rw [rI]
  refine ⟨?_, ?_⟩
  · refine Int.le_ediv_of_mul_le (by omega) ?_
    have : (-2147483648 : Int) * ((2 ^ k : Nat) : Int) ≤ -2147483648 * 1 := Int.mul_le_mul_of_nonpos_left (by decide) hp
    omega
  · refine Int.le_trans (b := if 0 ≤ x then x else -1) ?_ (by split <;> omega)
    split
    · exact Int.ediv_le_self _ (by assumption)
    · have : x / ((2 ^ k : Nat) : Int) < 0 := Int.ediv_neg_of_neg_of_pos (by omega) (by omega)
      omega
