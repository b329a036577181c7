/-! THE GUESS, in numbers: the top limbs of a number moved up by s bits -/
def lb (f : Nat → Int) (a r k : Nat) : Int := if k < r then f (a + (r - (k + 1))) else 0
theorem lb_in {f : Nat → Int} {a r : Nat} (h : lim f a r) (k : Nat) : 0 ≤ lb f a r k ∧ lb f a r k < 2147483648 := by
  unfold lb
  by_cases c : k < r
  · rw [if_pos c]; exact h _ (by omega)
  · rw [if_neg c]; omega
theorem mc (x P c : Int) : x * (P * c) = x * P * c := (Int.mul_assoc x P c).symm
theorem mcP (x c P : Int) : x * c * P = x * P * c := by rw [Int.mul_assoc, Int.mul_comm c P, ← Int.mul_assoc]
theorem mcc (x c P d : Int) : x * c * (P * d) = x * P * (c * d) := by rw [Int.mul_assoc x c, ← Int.mul_assoc c P, Int.mul_comm c P, Int.mul_assoc P c, ← Int.mul_assoc x P]
theorem top3 {f : Nat → Int} {a r : Nat} (h : lim f a r) (hr : 0 < r) : ∃ R : Int, 0 ≤ R ∧ R < 2147483648 ^ (r - 1) ∧ nv f a r * 4611686018427387904 = (lb f a r 0 * 4611686018427387904 + lb f a r 1 * 2147483648 + lb f a r 2) * 2147483648 ^ (r - 1) + R := by
  rcases (show r = 1 ∨ r = 2 ∨ 3 ≤ r by omega) with rfl | rfl | hr3
  · refine ⟨0, by decide, by decide, ?_⟩
    simp [lb, nv]
  · refine ⟨0, by decide, by decide, ?_⟩
    simp [lb, nv]; omega
  · obtain ⟨k, rfl⟩ : ∃ k, r = k + 3 := ⟨r - 3, by omega⟩
    have h0 := nv_ge (h.mono (show k ≤ k + 3 by omega))
    have h1 := nv_lt (h.mono (show k ≤ k + 3 by omega))
    have e : (2147483648 : Int) ^ (k + 3 - 1) = 2147483648 ^ k * 4611686018427387904 := by
      rw [show k + 3 - 1 = k + 2 by omega, Int.pow_add]; rfl
    refine ⟨nv f a k * 4611686018427387904, by omega, by rw [e]; omega, ?_⟩
    have e1 : (2147483648 : Int) ^ (k + 1) = 2147483648 ^ k * 2147483648 := bp_s k
    have e2 : (2147483648 : Int) ^ (k + 1 + 1) = 2147483648 ^ k * 4611686018427387904 := by rw [bp_s, bp_s, Int.mul_assoc]; rfl
    rw [e, nv_s, nv_s, nv_s, e2, e1]
    simp only [lb, show (0 : Nat) < k + 3 by omega, show 1 < k + 3 by omega, show 2 < k + 3 by omega, if_true, show k + 3 - (0 + 1) = k + 2 by omega, show k + 3 - (1 + 1) = k + 1 by omega, show k + 3 - (2 + 1) = k by omega]
    rw [show a + (k + 1 + 1) = a + (k + 2) by omega]
    generalize f (a + (k + 2)) = x; generalize f (a + (k + 1)) = y; generalize f (a + k) = z; generalize nv f a k = w; generalize (2147483648 : Int) ^ k = P
    rw [Int.add_mul (x * 4611686018427387904 + y * 2147483648) z, Int.add_mul (x * 4611686018427387904), mcc x 4611686018427387904 P 4611686018427387904, mcc y 2147483648 P 4611686018427387904, mc x, mc y, mc z]
    omega
theorem p31 {s : Nat} (h : s ≤ 31) : (2 : Int) ^ (31 - s) * 2 ^ s = 2147483648 := by
  rw [← Int.pow_add, show 31 - s + s = 31 by omega]; decide
theorem zp_pos (s : Nat) : (0 : Int) < 2 ^ s := Int.pow_pos (by decide)
/-- a limb moved up by s bits -/
theorem mvup {x : Int} {s : Nat} (hs : s ≤ 31) (hx : 0 ≤ x ∧ x < 2147483648) : x * 2 ^ s = x / 2 ^ (31 - s) * 2147483648 + x % 2 ^ (31 - s) * 2 ^ s ∧ 0 ≤ x / 2 ^ (31 - s) ∧ x / 2 ^ (31 - s) < 2 ^ s ∧ 0 ≤ x % 2 ^ (31 - s) * 2 ^ s ∧ x % 2 ^ (31 - s) * 2 ^ s + 2 ^ s ≤ 2147483648 := by
  have hp := zp_pos (31 - s); have hq := zp_pos s; have h31 := p31 hs
  have h1 := Int.mul_ediv_add_emod x (2 ^ (31 - s))
  have h2 := Int.emod_nonneg x (show (2 : Int) ^ (31 - s) ≠ 0 by omega)
  have h3 := Int.emod_lt_of_pos x hp
  refine ⟨?_, Int.ediv_nonneg hx.1 (by omega), ?_, Int.mul_nonneg h2 (by omega), ?_⟩
  · have h4 := congrArg (fun z => z * (2 : Int) ^ s) h1
    simp only [Int.add_mul] at h4
    rw [← h4, Int.mul_comm (2 ^ (31 - s)) (x / 2 ^ (31 - s)), Int.mul_assoc, h31]
  · exact Int.ediv_lt_of_lt_mul hp (by rw [Int.mul_comm, h31]; exact hx.2)
  · have h4 : (x % 2 ^ (31 - s) + 1) * 2 ^ s ≤ 2 ^ (31 - s) * 2 ^ s := Int.mul_le_mul_of_nonneg_right (by omega) (by omega)
    rw [Int.add_mul, h31] at h4; omega
/-- the divisor's three top limbs, moved up -/
theorem dv_up {f : Nat → Int} {a r s : Nat} (h : lim f a r) (hr : 0 < r) (hs : s ≤ 31) : ∃ v0 : Int, 0 ≤ v0 ∧ v0 < 2147483648 ^ r ∧ nv f a r * (4611686018427387904 * 2 ^ s) = ((lb f a r 0 * 2147483648 + lb f a r 1) * 2 ^ s + lb f a r 2 / 2 ^ (31 - s)) * 2147483648 ^ r + v0 := by
  obtain ⟨R, h1, h2, h3⟩ := top3 h hr
  obtain ⟨m1, m2, m3, m4, m5⟩ := mvup hs (lb_in h 2)
  have hq := zp_pos s
  have hP := bp_pos (r - 1)
  have er : (2147483648 : Int) ^ r = 2147483648 ^ (r - 1) * 2147483648 := by rw [← bp_s, show r - 1 + 1 = r by omega]
  generalize lb f a r 0 = t1 at *; generalize lb f a r 1 = t2 at *; generalize lb f a r 2 = t3 at *
  generalize t3 / 2 ^ (31 - s) = d3 at *; generalize t3 % 2 ^ (31 - s) * 2 ^ s = x3 at *
  rw [er]
  generalize (2147483648 : Int) ^ (r - 1) = P at *; generalize (2 : Int) ^ s = S at *
  refine ⟨x3 * P + R * S, ?_, ?_, ?_⟩
  · have a1 := Int.mul_nonneg m4 (Int.le_of_lt hP); have a2 := Int.mul_nonneg h1 (Int.le_of_lt hq); omega
  · have a1 : x3 * P + S * P ≤ 2147483648 * P := by rw [← Int.add_mul]; exact Int.mul_le_mul_of_nonneg_right m5 (by omega)
    have a2 : R * S < P * S := Int.mul_lt_mul_of_pos_right h2 hq
    rw [Int.mul_comm P S] at a2; omega
  · rw [← Int.mul_assoc, h3, Int.add_mul, Int.mul_assoc _ P S, Int.mul_comm P S, ← Int.mul_assoc _ S P]
    have e1 : (t1 * 4611686018427387904 + t2 * 2147483648 + t3) * S = ((t1 * 2147483648 + t2) * S + d3) * 2147483648 + x3 := by
      rw [Int.add_mul (t1 * 4611686018427387904 + t2 * 2147483648) t3, m1, show t1 * 4611686018427387904 + t2 * 2147483648 = (t1 * 2147483648 + t2) * 2147483648 by omega, Int.mul_assoc _ 2147483648 S, Int.mul_comm 2147483648 S, ← Int.mul_assoc]
      omega
    rw [e1, Int.add_mul (((t1 * 2147483648 + t2) * S + d3) * 2147483648), Int.mul_assoc _ 2147483648 P, Int.mul_comm 2147483648 P]
    omega
/-- the dividend's, with the limb above -/
theorem dd_up {f : Nat → Int} {u r s : Nat} (h : lim f u (r + 1)) (hr : 0 < r) (hs : s ≤ 31) : ∃ w0 : Int, 0 ≤ w0 ∧ w0 < 2147483648 ^ r ∧ nv f u (r + 1) * (4611686018427387904 * 2 ^ s) = (((f (u + r) * 2147483648 + lb f u r 0) * 2 ^ s + lb f u r 1 / 2 ^ (31 - s)) * 2147483648 + (lb f u r 1 % 2 ^ (31 - s) * 2 ^ s + lb f u r 2 / 2 ^ (31 - s))) * 2147483648 ^ r + w0 := by
  have hl := h.mono (show r ≤ r + 1 by omega)
  obtain ⟨R, h1, h2, h3⟩ := top3 hl hr
  obtain ⟨m1, m2, m3, m4, m5⟩ := mvup hs (lb_in hl 2)
  obtain ⟨l1, l2, l3, l4, l5⟩ := mvup hs (lb_in hl 1)
  have hq := zp_pos s
  have hP := bp_pos (r - 1)
  have er : (2147483648 : Int) ^ r = 2147483648 ^ (r - 1) * 2147483648 := by rw [← bp_s, show r - 1 + 1 = r by omega]
  rw [nv_s, er]
  generalize nv f u r = N at *
  generalize lb f u r 0 = t1 at *; generalize lb f u r 1 = t2 at *; generalize lb f u r 2 = t3 at *; generalize f (u + r) = t0 at *
  generalize t3 / 2 ^ (31 - s) = d3 at *; generalize t3 % 2 ^ (31 - s) * 2 ^ s = x3 at *
  generalize t2 / 2 ^ (31 - s) = d2 at *; generalize t2 % 2 ^ (31 - s) * 2 ^ s = x2 at *
  generalize (2147483648 : Int) ^ (r - 1) = P at *; generalize (2 : Int) ^ s = S at *
  refine ⟨x3 * P + R * S, ?_, ?_, ?_⟩
  · have a1 := Int.mul_nonneg m4 (Int.le_of_lt hP); have a2 := Int.mul_nonneg h1 (Int.le_of_lt hq); omega
  · have a1 : x3 * P + S * P ≤ 2147483648 * P := by rw [← Int.add_mul]; exact Int.mul_le_mul_of_nonneg_right m5 (by omega)
    have a2 : R * S < P * S := Int.mul_lt_mul_of_pos_right h2 hq
    rw [Int.mul_comm P S] at a2; omega
  · have e0 : (N + t0 * (P * 2147483648)) * 4611686018427387904 = (t0 * 9903520314283042199192993792 + t1 * 4611686018427387904 + t2 * 2147483648 + t3) * P + R := by
      rw [Int.add_mul, h3, show t0 * 9903520314283042199192993792 + t1 * 4611686018427387904 + t2 * 2147483648 + t3 = t0 * 9903520314283042199192993792 + (t1 * 4611686018427387904 + t2 * 2147483648 + t3) by omega, Int.add_mul (t0 * 9903520314283042199192993792), mc, mcP t0 9903520314283042199192993792 P]
      omega
    rw [← Int.mul_assoc, e0, Int.add_mul, Int.mul_assoc _ P S, Int.mul_comm P S, ← Int.mul_assoc _ S P]
    have e1 : (t0 * 9903520314283042199192993792 + t1 * 4611686018427387904 + t2 * 2147483648 + t3) * S = (((t0 * 2147483648 + t1) * S + d2) * 2147483648 + (x2 + d3)) * 2147483648 + x3 := by
      rw [Int.add_mul _ t3, m1, Int.add_mul _ (t2 * 2147483648), Int.mul_assoc t2, Int.mul_comm 2147483648 S, ← Int.mul_assoc t2, l1, show t0 * 9903520314283042199192993792 + t1 * 4611686018427387904 = (t0 * 2147483648 + t1) * 4611686018427387904 by omega, Int.mul_assoc _ 4611686018427387904 S, Int.mul_comm 4611686018427387904 S, ← Int.mul_assoc]
      omega
    rw [e1, Int.add_mul ((((t0 * 2147483648 + t1) * S + d2) * 2147483648 + (x2 + d3)) * 2147483648), Int.mul_assoc _ 2147483648 P, Int.mul_comm 2147483648 P]
    omega
