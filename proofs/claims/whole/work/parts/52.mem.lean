/-! MEMORY, as numbers: f a is the order of the free block that begins at a, -1 where none begins. cnt: how many of an order begin below n. -/
def cnt (f : Nat → Int) (o : Int) : Nat → Int
  | 0 => 0
  | n + 1 => cnt f o n + (if f n = o then 1 else 0)
theorem cnt_s (f : Nat → Int) (o : Int) (n : Nat) : cnt f o (n + 1) = cnt f o n + (if f n = o then 1 else 0) := rfl
theorem cnt_ge (f : Nat → Int) (o : Int) : ∀ n, 0 ≤ cnt f o n
  | 0 => Int.le_refl 0
  | n + 1 => by have := cnt_ge f o n; rw [cnt_s]; split <;> omega
theorem cnt_le (f : Nat → Int) (o : Int) : ∀ n, cnt f o n ≤ n
  | 0 => by simp [cnt]
  | n + 1 => by have := cnt_le f o n; rw [cnt_s]; split <;> omega
theorem cnt_mono (f : Nat → Int) (o : Int) {m : Nat} : ∀ {n : Nat}, m ≤ n → cnt f o m ≤ cnt f o n
  | 0, h => by rw [Nat.le_zero.mp h]; exact Int.le_refl _
  | n + 1, h => by
    rcases Nat.lt_or_ge m (n + 1) with c | c
    · have := cnt_mono f o (show m ≤ n by omega); rw [cnt_s]; split <;> omega
    · rw [show m = n + 1 by omega]; exact Int.le_refl _
theorem cnt_gap (f : Nat → Int) (o : Int) {m : Nat} : ∀ {n : Nat}, m ≤ n → (∀ b, m ≤ b → b < n → f b ≠ o) → cnt f o n = cnt f o m
  | 0, h, _ => by rw [Nat.le_zero.mp h]
  | n + 1, h, hf => by
    rcases Nat.lt_or_ge m (n + 1) with c | c
    · rw [cnt_s, if_neg (hf n (by omega) (by omega)), cnt_gap f o (show m ≤ n by omega) (fun b h1 h2 => hf b h1 (by omega))]; omega
    · rw [show m = n + 1 by omega]
theorem cnt_ext {f f' : Nat → Int} (o : Int) : ∀ {n : Nat}, (∀ b, b < n → f' b = f b) → cnt f' o n = cnt f o n
  | 0, _ => rfl
  | n + 1, h => by rw [cnt_s, cnt_s, cnt_ext o (fun b hb => h b (by omega)), h n (by omega)]
theorem cnt_up (f : Nat → Int) (o : Int) (a : Nat) (x : Int) : ∀ {n : Nat}, a < n → cnt (zup f a x) o n = cnt f o n - (if f a = o then 1 else 0) + (if x = o then 1 else 0)
  | 0, h => by omega
  | n + 1, h => by
    rcases Nat.lt_or_ge a n with c | c
    · rw [cnt_s, cnt_s, cnt_up f o a x c, zup_n (by omega)]; omega
    · have e : a = n := by omega
      subst e
      rw [cnt_s, cnt_s, zup_s, cnt_ext o (f := f) (fun b hb => zup_n (by omega))]; omega
theorem cnt_pos {f : Nat → Int} {o : Int} : ∀ {n : Nat}, 0 < cnt f o n → ∃ a, a < n ∧ f a = o ∧ cnt f o a = 0
  | 0, h => by simp [cnt] at h
  | n + 1, h => by
    rcases Int.lt_or_le 0 (cnt f o n) with c | c
    · obtain ⟨a, h1, h2⟩ := cnt_pos c
      exact ⟨a, by omega, h2⟩
    · have h0 := cnt_ge f o n
      rw [cnt_s] at h
      by_cases q : f n = o
      · exact ⟨n, by omega, q, by omega⟩
      · rw [if_neg q] at h; omega
theorem cnt_no {f : Nat → Int} {o : Int} {n : Nat} (h : cnt f o n = 0) {a : Nat} (ha : a < n) : f a ≠ o := by
  intro e
  have h1 := cnt_mono f o (show a + 1 ≤ n by omega)
  have h2 := cnt_ge f o a
  rw [cnt_s, if_pos e] at h1
  omega
/-- halving: from a block of order k + d at a, whose upper halves come to be free -/
def splF (f : Nat → Int) (a k : Nat) : Nat → (Nat → Int)
  | 0 => f
  | d + 1 => splF (zup f (a + 2 ^ (k + d)) ((k + d : Nat) : Int)) a k d
/-- joining: a block of order o at a comes to be free -/
def jnF (pl : Nat) : Nat → (Nat → Int) → Nat → Nat → (Nat → Int)
  | 0, f, a, o => zup f a (o : Int)
  | n + 1, f, a, o => if o < pl ∧ f (a ^^^ 2 ^ o) = (o : Int) then jnF pl n (zup f (a ^^^ 2 ^ o) (-1)) (if a < a ^^^ 2 ^ o then a else a ^^^ 2 ^ o) (o + 1) else zup f a (o : Int)
/-- what a memory keeps: orders in range; blocks begin at multiples of their sizes, lie in the pool, hold no other's beginning; no two free buddies -/
def MI (pl : Nat) (f : Nat → Int) : Prop := (∀ a, a < 2 ^ pl → -1 ≤ f a ∧ f a ≤ pl) ∧ (∀ a o : Nat, a < 2 ^ pl → f a = (o : Int) → 2 ^ o ∣ a ∧ a + 2 ^ o ≤ 2 ^ pl ∧ ∀ b, a < b → b < a + 2 ^ o → f b = -1) ∧ ∀ a o : Nat, a < 2 ^ pl → o < pl → f a = (o : Int) → f (a ^^^ 2 ^ o) ≠ (o : Int)
def budT (k a : Nat) : Bool := bif Nat.beq (a / 2 ^ k % 2) 0 then Nat.beq (a ^^^ 2 ^ k) (a + 2 ^ k) else Nat.beq ((a ^^^ 2 ^ k) + 2 ^ k) a
def budA (k : Nat) : Nat → Bool
  | 0 => true
  | a + 1 => budT k a && budA k a
def budK : Nat → Bool
  | 0 => true
  | k + 1 => budA k 2048 && budK k
theorem budA_of {k : Nat} : ∀ {n a : Nat}, budA k n = true → a < n → budT k a = true
  | 0, _, _, h => absurd h (Nat.not_lt_zero _)
  | n + 1, a, h, hl => by
    simp only [budA, Bool.and_eq_true] at h
    rcases Nat.lt_succ_iff_lt_or_eq.mp hl with q | q
    · exact budA_of h.2 q
    · rw [q]; exact h.1
theorem budK_of : ∀ {n k : Nat}, budK n = true → k < n → budA k 2048 = true
  | 0, _, _, h => absurd h (Nat.not_lt_zero _)
  | n + 1, k, h, hl => by
    simp only [budK, Bool.and_eq_true] at h
    rcases Nat.lt_succ_iff_lt_or_eq.mp hl with q | q
    · exact budK_of h.2 q
    · rw [q]; exact h.1
set_option maxRecDepth 100000 in
theorem budAll : budK 11 = true := by decide +kernel
theorem bud {k a : Nat} (hk : k < 11) (ha : a < 2048) : (a / 2 ^ k % 2 = 0 ∧ a ^^^ 2 ^ k = a + 2 ^ k) ∨ (a / 2 ^ k % 2 = 1 ∧ (a ^^^ 2 ^ k) + 2 ^ k = a) := by
  have h := budA_of (budK_of budAll hk) ha
  unfold budT at h
  cases hb : Nat.beq (a / 2 ^ k % 2) 0 with
  | true =>
    rw [hb] at h
    exact Or.inl ⟨Nat.eq_of_beq_eq_true hb, Nat.eq_of_beq_eq_true h⟩
  | false =>
    rw [hb] at h
    have := Nat.ne_of_beq_eq_false hb
    exact Or.inr ⟨by omega, Nat.eq_of_beq_eq_true h⟩
theorem bud_lt {pl k a : Nat} (hk : k < pl) (ha : a < 2 ^ pl) : a ^^^ 2 ^ k < 2 ^ pl := Nat.xor_lt_two_pow ha (Nat.pow_lt_pow_right (by decide) hk)
