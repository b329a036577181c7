/-! NUMBERS OF LIMBS: nv f a n is the number that the n limbs of f from a on stand for; lim f a n: they are limbs. -/
def nv (f : Nat → Int) (a : Nat) : Nat → Int
  | 0 => 0
  | n + 1 => nv f a n + f (a + n) * 2147483648 ^ n
def lim (f : Nat → Int) (a n : Nat) : Prop := ∀ i, i < n → 0 ≤ f (a + i) ∧ f (a + i) < 2147483648
theorem bp_pos (n : Nat) : (0 : Int) < 2147483648 ^ n := Int.pow_pos (by decide)
theorem bp_s (n : Nat) : (2147483648 : Int) ^ (n + 1) = 2147483648 ^ n * 2147483648 := Int.pow_succ _ _
theorem nv_0 (f : Nat → Int) (a : Nat) : nv f a 0 = 0 := rfl
theorem nv_s (f : Nat → Int) (a n : Nat) : nv f a (n + 1) = nv f a n + f (a + n) * 2147483648 ^ n := rfl
theorem lim.mono {f : Nat → Int} {a n m : Nat} (h : lim f a n) (hm : m ≤ n) : lim f a m := fun i hi => h i (by omega)
theorem lim.sub {f : Nat → Int} {a n b m : Nat} (h : lim f a n) (h1 : a ≤ b) (h2 : b + m ≤ a + n) : lim f b m := fun i hi => by
  have := h (b - a + i) (by omega)
  rwa [show a + (b - a + i) = b + i by omega] at this
theorem nv_ge {f : Nat → Int} {a : Nat} : ∀ {n : Nat}, lim f a n → 0 ≤ nv f a n
  | 0, _ => Int.le_refl 0
  | n + 1, h => by
    have h1 := nv_ge (h.mono (Nat.le_succ n))
    have h2 := Int.mul_nonneg (h n (Nat.lt_succ_self n)).1 (Int.le_of_lt (bp_pos n))
    rw [nv_s]; omega
theorem nv_lt {f : Nat → Int} {a : Nat} : ∀ {n : Nat}, lim f a n → nv f a n < 2147483648 ^ n
  | 0, _ => by show (0 : Int) < 1; decide
  | n + 1, h => by
    have h1 := nv_lt (h.mono (Nat.le_succ n))
    have h2 : f (a + n) * 2147483648 ^ n ≤ 2147483647 * 2147483648 ^ n := Int.mul_le_mul_of_nonneg_right (by have := (h n (Nat.lt_succ_self n)).2; omega) (Int.le_of_lt (bp_pos n))
    rw [nv_s, bp_s]; omega
theorem nv_ext {f g : Nat → Int} {a b : Nat} : ∀ {n : Nat}, (∀ i, i < n → f (a + i) = g (b + i)) → nv f a n = nv g b n
  | 0, _ => rfl
  | n + 1, h => by rw [nv_s, nv_s, nv_ext (fun i hi => h i (by omega)), h n (by omega)]
theorem nv_zero {f : Nat → Int} {a : Nat} : ∀ {n : Nat}, (∀ i, i < n → f (a + i) = 0) → nv f a n = 0
  | 0, _ => rfl
  | n + 1, h => by rw [nv_s, nv_zero (fun i hi => h i (by omega)), h n (by omega)]; omega
theorem nv_add (f : Nat → Int) (a n : Nat) : ∀ m : Nat, nv f a (n + m) = nv f a n + 2147483648 ^ n * nv f (a + n) m
  | 0 => by simp [nv_0]
  | m + 1 => by
    rw [← Nat.add_assoc, nv_s, nv_s, nv_add f a n m, Int.mul_add, show a + (n + m) = a + n + m by omega, Int.pow_add, Int.add_assoc]
    congr 2
    rw [← Int.mul_assoc, ← Int.mul_assoc, Int.mul_comm (f (a + n + m))]
theorem nv_1 (f : Nat → Int) (a : Nat) : nv f a 1 = f a := by simp [nv]
theorem nv_inj {f g : Nat → Int} {a b : Nat} : ∀ {n : Nat}, lim f a n → lim g b n → nv f a n = nv g b n → ∀ i, i < n → f (a + i) = g (b + i)
  | 0, _, _, _ => fun i hi => absurd hi (by omega)
  | n + 1, hf, hg, h => by
    have f1 := nv_lt (hf.mono (Nat.le_succ n)); have f0 := nv_ge (hf.mono (Nat.le_succ n))
    have g1 := nv_lt (hg.mono (Nat.le_succ n)); have g0 := nv_ge (hg.mono (Nat.le_succ n))
    rw [nv_s, nv_s] at h
    have key : f (a + n) = g (b + n) := by
      rcases Int.lt_trichotomy (f (a + n)) (g (b + n)) with q | q | q
      · have := Int.mul_le_mul_of_nonneg_right (show f (a + n) + 1 ≤ g (b + n) by omega) (Int.le_of_lt (bp_pos n))
        rw [Int.add_mul] at this; omega
      · exact q
      · have := Int.mul_le_mul_of_nonneg_right (show g (b + n) + 1 ≤ f (a + n) by omega) (Int.le_of_lt (bp_pos n))
        rw [Int.add_mul] at this; omega
    have ih := nv_inj (hf.mono (Nat.le_succ n)) (hg.mono (Nat.le_succ n)) (by rw [key] at h; omega)
    intro i hi
    rcases Nat.lt_succ_iff_lt_or_eq.mp hi with q | q
    · exact ih i q
    · rw [q]; exact key
/-- zeros at the top add nothing -/
theorem nv_top {f : Nat → Int} {a n m : Nat} (hm : m ≤ n) (h : ∀ i, m ≤ i → i < n → f (a + i) = 0) : nv f a n = nv f a m := by
  obtain ⟨d, rfl⟩ : ∃ d, n = m + d := ⟨n - m, by omega⟩
  rw [nv_add, nv_zero (n := d) (f := f) (a := a + m) (fun i hi => by rw [show a + m + i = a + (m + i) by omega]; exact h (m + i) (by omega) (by omega))]; simp
/-! the guess of a digit -/
theorem knuth {v1 v2 v0 h l w0 P q : Int} (hv1 : 2147483648 ≤ 2 * v1) (hv2 : 0 ≤ v2 ∧ v2 < 2147483648) (hv0 : 0 ≤ v0 ∧ v0 < P) (hh : 0 ≤ h) (hl : 0 ≤ l ∧ l < 2147483648) (hw : 0 ≤ w0 ∧ w0 < P)
    (hq : 0 ≤ q ∧ q < 2147483648) (h1 : q * ((v1 * 2147483648 + v2) * P + v0) ≤ (h * 2147483648 + l) * P + w0) (h2 : (h * 2147483648 + l) * P + w0 < (q + 1) * ((v1 * 2147483648 + v2) * P + v0)) :
    q ≤ h / v1 ∧ h / v1 ≤ q + 2 ∧ (h / v1 * v2 > h % v1 * 2147483648 + l → q ≤ h / v1 - 1) ∧ (¬ h / v1 * v2 > h % v1 * 2147483648 + l → h / v1 < 2147483648 → h / v1 ≤ q + 1) := by
  have hP : 0 < P := by omega
  have hv : 0 < v1 := by omega
  have hdm : v1 * (h / v1) + h % v1 = h := Int.mul_ediv_add_emod h v1
  have hr0 := Int.emod_nonneg h (show v1 ≠ 0 by omega)
  have hr1 := Int.emod_lt_of_pos h hv
  have hd0 : 0 ≤ h / v1 := Int.ediv_nonneg hh (by omega)
  generalize h / v1 = d at *
  generalize h % v1 = r at *
  -- cancel P
  have a1 : q * (v1 * 2147483648 + v2) < h * 2147483648 + l + 1 := by
    have e1 : q * ((v1 * 2147483648 + v2) * P + v0) = q * (v1 * 2147483648 + v2) * P + q * v0 := by rw [Int.mul_add, Int.mul_assoc]
    have e2 : 0 ≤ q * v0 := Int.mul_nonneg hq.1 hv0.1
    have e3 : (h * 2147483648 + l + 1) * P = (h * 2147483648 + l) * P + P := by rw [Int.add_mul, Int.one_mul]
    have e4 : q * (v1 * 2147483648 + v2) * P < (h * 2147483648 + l + 1) * P := by omega
    exact Int.lt_of_mul_lt_mul_right e4 (by omega)
  have a2 : h * 2147483648 + l < (q + 1) * (v1 * 2147483648 + v2 + 1) := by
    have e1 : (q + 1) * ((v1 * 2147483648 + v2) * P + v0) ≤ (q + 1) * ((v1 * 2147483648 + v2 + 1) * P) := by
      apply Int.mul_le_mul_of_nonneg_left _ (by omega)
      rw [Int.add_mul (v1 * 2147483648 + v2) 1 P, Int.one_mul]; omega
    have e4 : (h * 2147483648 + l) * P < (q + 1) * (v1 * 2147483648 + v2 + 1) * P := by rw [Int.mul_assoc]; omega
    exact Int.lt_of_mul_lt_mul_right e4 (by omega)
  have b1 : q ≤ d := by
    have e1 : q * (v1 * 2147483648 + v2) = q * v1 * 2147483648 + q * v2 := by rw [Int.mul_add, Int.mul_assoc]
    have e2 : 0 ≤ q * v2 := Int.mul_nonneg hq.1 hv2.1
    have e3 : q * v1 ≤ h := by omega
    rcases Int.lt_or_le d q with c | c
    · have := Int.mul_le_mul_of_nonneg_right (show d + 1 ≤ q by omega) (show 0 ≤ v1 by omega)
      rw [Int.add_mul, Int.mul_comm d v1] at this; omega
    · exact c
  have b2 : d ≤ q + 2 := by
    rcases Int.lt_or_le (q + 2) d with c | c
    · have e1 := Int.mul_le_mul_of_nonneg_right (show q + 3 ≤ d by omega) (show 0 ≤ v1 by omega)
      have e2 : (q + 1) * (v1 * 2147483648 + v2 + 1) ≤ (q + 1) * ((v1 + 1) * 2147483648) := Int.mul_le_mul_of_nonneg_left (by omega) (by omega)
      rw [← Int.mul_assoc] at e2
      have e3 : (q + 1) * (v1 + 1) = q * v1 + v1 + q + 1 := by rw [Int.mul_add, Int.add_mul, Int.add_mul]; omega
      rw [Int.add_mul, Int.mul_comm d v1] at e1
      omega
    · exact c
  refine ⟨b1, b2, fun c => ?_, fun c c2 => ?_⟩
  · -- d (v1 B + v2) > h B + l, so d > q
    rcases Int.lt_or_le q d with g | g
    · omega
    · have e : q = d := by omega
      subst e
      have e1 : q * (v1 * 2147483648 + v2) = v1 * q * 2147483648 + q * v2 := by rw [Int.mul_add, ← Int.mul_assoc, Int.mul_comm q v1]
      omega
  · rcases Int.lt_or_le (q + 1) d with g | g
    · exfalso
      have e : d = q + 2 := by omega
      have e1 : d * ((v1 * 2147483648 + v2) * P + v0) = (v1 * d * 2147483648 + d * v2) * P + d * v0 := by
        rw [Int.mul_add, ← Int.mul_assoc, Int.mul_add, ← Int.mul_assoc, Int.mul_comm d v1]
      have e2 : (v1 * d * 2147483648 + d * v2) * P ≤ (h * 2147483648 + l) * P := Int.mul_le_mul_of_nonneg_right (by omega) (by omega)
      have e3 : d * v0 ≤ 2147483647 * v0 := Int.mul_le_mul_of_nonneg_right (by omega) hv0.1
      have e4 : (q + 1) * ((v1 * 2147483648 + v2) * P + v0) = d * ((v1 * 2147483648 + v2) * P + v0) - ((v1 * 2147483648 + v2) * P + v0) := by
        rw [show q + 1 = d - 1 by omega, Int.sub_mul, Int.one_mul]
      have e5 : 2147483648 * P ≤ (v1 * 2147483648 + v2) * P := Int.mul_le_mul_of_nonneg_right (by omega) (by omega)
      omega
    · exact g
