/-! INTEGERS. Every int of the machine is written iI z, every long lI z, with z a whole number: + - * need no premise. -/
def iI (z : Int) : Int32 := Int32.ofInt z
def lI (z : Int) : Int64 := Int64.ofInt z
theorem iI_add (a b : Int) : iI a + iI b = iI (a + b) := (Int32.ofInt_add a b).symm
theorem iI_sub (a b : Int) : iI a - iI b = iI (a - b) := (Int32.ofInt_sub a b).symm
theorem iI_mul (a b : Int) : iI a * iI b = iI (a * b) := (Int32.ofInt_mul a b).symm
theorem lI_add (a b : Int) : lI a + lI b = lI (a + b) := (Int64.ofInt_add a b).symm
theorem lI_sub (a b : Int) : lI a - lI b = lI (a - b) := (Int64.ofInt_sub a b).symm
theorem lI_mul (a b : Int) : lI a * lI b = lI (a * b) := (Int64.ofInt_mul a b).symm
theorem iI_t {z : Int} (h : -2147483648 ≤ z ∧ z < 2147483648) : (iI z).toInt = z := Int32.toInt_ofInt_of_le (by omega) (by omega)
theorem lI_t {z : Int} (h : -9223372036854775808 ≤ z ∧ z < 9223372036854775808) : (lI z).toInt = z := Int64.toInt_ofInt_of_le (by omega) (by omega)
theorem iI_of (x : Int32) : ∃ z : Int, x = iI z ∧ -2147483648 ≤ z ∧ z < 2147483648 := ⟨x.toInt, (Int32.ofInt_toInt x).symm, by have := x.le_toInt; omega, by have := x.toInt_lt; omega⟩
theorem iI_lt {a b : Int} (ha : -2147483648 ≤ a ∧ a < 2147483648) (hb : -2147483648 ≤ b ∧ b < 2147483648) : iI a < iI b ↔ a < b := by rw [Int32.lt_iff_toInt_lt, iI_t ha, iI_t hb]
theorem iI_le {a b : Int} (ha : -2147483648 ≤ a ∧ a < 2147483648) (hb : -2147483648 ≤ b ∧ b < 2147483648) : iI a ≤ iI b ↔ a ≤ b := by rw [Int32.le_iff_toInt_le, iI_t ha, iI_t hb]
theorem iI_eq {a b : Int} (ha : -2147483648 ≤ a ∧ a < 2147483648) (hb : -2147483648 ≤ b ∧ b < 2147483648) : iI a = iI b ↔ a = b := by rw [← Int32.toInt_inj, iI_t ha, iI_t hb]
theorem lI_lt {a b : Int} (ha : -9223372036854775808 ≤ a ∧ a < 9223372036854775808) (hb : -9223372036854775808 ≤ b ∧ b < 9223372036854775808) : lI a < lI b ↔ a < b := by rw [Int64.lt_iff_toInt_lt, lI_t ha, lI_t hb]
theorem lI_le {a b : Int} (ha : -9223372036854775808 ≤ a ∧ a < 9223372036854775808) (hb : -9223372036854775808 ≤ b ∧ b < 9223372036854775808) : lI a ≤ lI b ↔ a ≤ b := by rw [Int64.le_iff_toInt_le, lI_t ha, lI_t hb]
theorem lI_eq {a b : Int} (ha : -9223372036854775808 ≤ a ∧ a < 9223372036854775808) (hb : -9223372036854775808 ≤ b ∧ b < 9223372036854775808) : lI a = lI b ↔ a = b := by rw [← Int64.toInt_inj, lI_t ha, lI_t hb]
theorem iI_cl {z : Int} (h : 0 ≤ z ∧ z < 2147483648) : (iI z).toNatClampNeg = z.toNat := by
  show (iI z).toInt.toNat = _
  rw [iI_t (by omega)]
theorem iI_in {z : Int} {n : Nat} (h : 0 ≤ z ∧ z < n) (hn : n ≤ 2147483647) : vp_in (iI z) n := vp_in_iff.mpr (by rw [iI_t (by omega)]; exact h)
theorem iI_l {z : Int} (h : -2147483648 ≤ z ∧ z < 2147483648) : (iI z).toInt64 = lI z := by
  rw [← Int64.ofInt_int32ToInt, iI_t h]; rfl
theorem lI_i (z : Int) : (lI z).toInt32 = iI z := Int64.toInt32_ofInt
theorem nI_iI (n : Nat) : nI n = iI n := (Int32.ofInt_eq_ofNat).symm
theorem lN_lI (n : Nat) : lN n = lI n := (Int64.ofInt_eq_ofNat).symm
-- shifts
theorem sh32 : ∀ n : Fin 32, ((iI (n.val : Int) &&& 31).toBitVec.smod 32).toNat = n.val := by decide +kernel
theorem sh64 : ∀ n : Fin 64, (((iI (n.val : Int)).toInt64 &&& 63).toBitVec.smod 64).toNat = n.val := by decide +kernel
theorem tp32 : ∀ n : Fin 32, BitVec.twoPow 32 n.val = BitVec.ofInt 32 ((2 : Int) ^ n.val) := by decide +kernel
theorem tp64 : ∀ n : Fin 64, BitVec.twoPow 64 n.val = BitVec.ofInt 64 ((2 : Int) ^ n.val) := by decide +kernel
theorem iI_shl (z : Int) (n : Nat) (hn : n < 32) : iI z <<< (iI (n : Int) &&& 31) = iI (z * 2 ^ n) := by
  apply Int32.toBitVec_inj.mp
  show (iI z).toBitVec <<< ((iI (n : Int) &&& 31).toBitVec.smod 32).toNat = BitVec.ofInt 32 (z * 2 ^ n)
  rw [sh32 ⟨n, hn⟩, BitVec.shiftLeft_eq_mul_twoPow, BitVec.ofInt_mul, tp32 ⟨n, hn⟩]; rfl
theorem lI_shl (z : Int) (n : Nat) (hn : n < 64) : lI z <<< ((iI (n : Int)).toInt64 &&& 63) = lI (z * 2 ^ n) := by
  apply Int64.toBitVec_inj.mp
  show (lI z).toBitVec <<< (((iI (n : Int)).toInt64 &&& 63).toBitVec.smod 64).toNat = BitVec.ofInt 64 (z * 2 ^ n)
  rw [sh64 ⟨n, hn⟩, BitVec.shiftLeft_eq_mul_twoPow, BitVec.ofInt_mul, tp64 ⟨n, hn⟩]; rfl
theorem zdiv_le {z : Int} (n : Nat) {lo hi : Int} (h : lo ≤ z ∧ z < hi) (h0 : lo ≤ 0) (h1 : 0 < hi) : lo ≤ z / 2 ^ n ∧ z / 2 ^ n < hi := by
  have hp : (0 : Int) < 2 ^ n := Int.pow_pos (by decide)
  rcases Int.le_total 0 z with hz | hz
  · have := Int.ediv_le_self (2 ^ n) hz
    have h2 := Int.ediv_nonneg hz (Int.le_of_lt hp)
    omega
  · have h1 : z / 2 ^ n ≤ 0 := by
      have h3 : z / 2 ^ n < 1 := Int.ediv_lt_of_lt_mul hp (by omega)
      omega
    have h2 : z ≤ z / 2 ^ n := by
      apply (Int.le_ediv_iff_mul_le hp).mpr
      have : z * 2 ^ n ≤ z * 1 := Int.mul_le_mul_of_nonpos_left hz (by omega)
      omega
    omega
theorem iI_shr {z : Int} (h : -2147483648 ≤ z ∧ z < 2147483648) (n : Nat) (hn : n < 32) : iI z >>> (iI (n : Int) &&& 31) = iI (z / 2 ^ n) := by
  apply Int32.toInt_inj.mp
  rw [pk_shr _ _ n (sh32 ⟨n, hn⟩), iI_t h, Int.shiftRight_eq_div_pow, iI_t (by have := zdiv_le n h (by omega) (by omega); simpa using this)]
  simp
theorem lI_shr {z : Int} (h : -9223372036854775808 ≤ z ∧ z < 9223372036854775808) (n : Nat) (hn : n < 64) : lI z >>> ((iI (n : Int)).toInt64 &&& 63) = lI (z / 2 ^ n) := by
  apply Int64.toInt_inj.mp
  have e : (lI z >>> ((iI (n : Int)).toInt64 &&& 63)).toInt = (lI z).toInt >>> n := by
    show ((lI z).toBitVec.sshiftRight (((iI (n : Int)).toInt64 &&& 63).toBitVec.smod 64).toNat).toInt = _
    rw [sh64 ⟨n, hn⟩, BitVec.toInt_sshiftRight]; rfl
  rw [e, lI_t h, Int.shiftRight_eq_div_pow, lI_t (by have := zdiv_le n h (by omega) (by omega); simpa using this)]
  simp
-- masks
theorem lI_mask (z : Int) : lI z &&& lI 2147483647 = lI (z % 2147483648) := by
  apply Int64.toBitVec_inj.mp
  apply BitVec.eq_of_toNat_eq
  rw [Int64.toBitVec_and, BitVec.toNat_and]
  show (BitVec.ofInt 64 z).toNat &&& (BitVec.ofInt 64 2147483647).toNat = (BitVec.ofInt 64 (z % 2147483648)).toNat
  rw [BitVec.toNat_ofInt, BitVec.toNat_ofInt, BitVec.toNat_ofInt, show ((2147483647 : Int) % ((2 ^ 64 : Nat) : Int)).toNat = 2 ^ 31 - 1 from by decide, Nat.and_two_pow_sub_one_eq_mod]
  omega
theorem iI_one (z : Int) : iI z &&& iI 1 = iI (z % 2) := by
  apply Int32.toBitVec_inj.mp
  apply BitVec.eq_of_toNat_eq
  rw [Int32.toBitVec_and, BitVec.toNat_and]
  show (BitVec.ofInt 32 z).toNat &&& (BitVec.ofInt 32 1).toNat = (BitVec.ofInt 32 (z % 2)).toNat
  rw [BitVec.toNat_ofInt, BitVec.toNat_ofInt, BitVec.toNat_ofInt, show ((1 : Int) % ((2 ^ 32 : Nat) : Int)).toNat = 2 ^ 1 - 1 from by decide, Nat.and_two_pow_sub_one_eq_mod]
  omega
/-- or of a multiple of 2^k and a number below 2^k -/
theorem lI_or {a b : Int} (k : Nat) (hk : k < 63) {c : Int} (ha : a = c * 2 ^ k) (hc : 0 ≤ c) (hb : 0 ≤ b ∧ b < 2 ^ k) (h : a + b < 9223372036854775808) : lI a ||| lI b = lI (a + b) := by
  obtain ⟨cn, rfl⟩ := Int.eq_ofNat_of_zero_le hc
  obtain ⟨bn, rfl⟩ := Int.eq_ofNat_of_zero_le hb.1
  have hbn : bn < 2 ^ k := by have := hb.2; exact_mod_cast this
  have hcast : a = ((cn * 2 ^ k : Nat) : Int) := by rw [ha]; push_cast; rfl
  subst hcast
  have h' : cn * 2 ^ k + bn < 2 ^ 63 := by
    generalize cn * 2 ^ k = y at *
    omega
  apply Int64.toBitVec_inj.mp
  apply BitVec.eq_of_toNat_eq
  rw [Int64.toBitVec_or, BitVec.toNat_or]
  show (BitVec.ofInt 64 ((cn * 2 ^ k : Nat) : Int)).toNat ||| (BitVec.ofInt 64 (bn : Int)).toNat = (BitVec.ofInt 64 (((cn * 2 ^ k : Nat) : Int) + (bn : Int))).toNat
  rw [BitVec.toNat_ofInt, BitVec.toNat_ofInt, BitVec.toNat_ofInt]
  have e1 : (((cn * 2 ^ k : Nat) : Int) % ((2 ^ 64 : Nat) : Int)).toNat = cn * 2 ^ k := by omega
  have e2 : ((bn : Int) % ((2 ^ 64 : Nat) : Int)).toNat = bn := by omega
  have e3 : ((((cn * 2 ^ k : Nat) : Int) + (bn : Int)) % ((2 ^ 64 : Nat) : Int)).toNat = cn * 2 ^ k + bn := by omega
  rw [e1, e2, e3, Nat.mul_comm cn, ← Nat.two_pow_add_eq_or_of_lt hbn]
theorem iI_xor (a b : Nat) : iI (a : Int) ^^^ iI (b : Int) = iI ((a ^^^ b : Nat) : Int) := by
  rw [← nI_iI, ← nI_iI, ← nI_iI]
  apply Int32.toBitVec_inj.mp
  apply BitVec.eq_of_toNat_eq
  rw [Int32.toBitVec_xor, BitVec.toNat_xor]
  show (BitVec.ofNat 32 a).toNat ^^^ (BitVec.ofNat 32 b).toNat = (BitVec.ofNat 32 (a ^^^ b)).toNat
  rw [BitVec.toNat_ofNat, BitVec.toNat_ofNat, BitVec.toNat_ofNat, Nat.xor_mod_two_pow]
theorem lI_div {a b : Int} (ha : 0 ≤ a ∧ a < 9223372036854775808) (hb : 0 < b ∧ b < 9223372036854775808) : lI a / lI b = lI (a / b) := by
  have := Int64.ofInt_tdiv (a := a) (b := b) (by show (-9223372036854775808 : Int) ≤ a; omega) (by show a ≤ (9223372036854775807 : Int); omega) (by show (-9223372036854775808 : Int) ≤ b; omega) (by show b ≤ (9223372036854775807 : Int); omega)
  rw [Int.tdiv_eq_ediv_of_nonneg ha.1] at this
  exact this.symm
theorem iI_div {a b : Int} (ha : 0 ≤ a ∧ a < 2147483648) (hb : 0 < b ∧ b < 2147483648) : iI a / iI b = iI (a / b) := by
  have := Int32.ofInt_tdiv (a := a) (b := b) (by show (-2147483648 : Int) ≤ a; omega) (by show a ≤ (2147483647 : Int); omega) (by show (-2147483648 : Int) ≤ b; omega) (by show b ≤ (2147483647 : Int); omega)
  rw [Int.tdiv_eq_ediv_of_nonneg ha.1] at this
  exact this.symm
