/-! MEMORY OF BOTH: they agree on the pool; giving then freeing restores; can both be given; the sum of what is free -/
def AG (pl : Nat) (f f' : Nat → Int) : Prop := ∀ a, a < 2 ^ pl → f' a = f a
theorem AG.z {pl : Nat} {f f' : Nat → Int} (h : AG pl f f') (a : Nat) (x : Int) : AG pl (zup f a x) (zup f' a x) := by
  intro b hb
  by_cases c : b = a
  · rw [c, zup_s, zup_s]
  · rw [zup_n c, zup_n c]; exact h b hb
theorem AG.spl {pl a k : Nat} : ∀ {d : Nat} {f f' : Nat → Int}, AG pl f f' → AG pl (splF f a k d) (splF f' a k d)
  | 0, _, _, h => h
  | d + 1, f, f', h => by
    show AG pl (splF (zup f (a + 2 ^ (k + d)) ((k + d : Nat) : Int)) a k d) (splF (zup f' (a + 2 ^ (k + d)) ((k + d : Nat) : Int)) a k d)
    exact AG.spl (h.z _ _)
theorem AG.jn {pl : Nat} : ∀ {n a o : Nat} {f f' : Nat → Int}, a < 2 ^ pl → AG pl f f' → AG pl (jnF pl n f a o) (jnF pl n f' a o)
  | 0, _, _, _, _, _, h => h.z _ _
  | n + 1, a, o, f, f', ha, h => by
    unfold jnF
    by_cases c : o < pl ∧ f (a ^^^ 2 ^ o) = (o : Int)
    · have hb := bud_lt c.1 ha
      have c' : o < pl ∧ f' (a ^^^ 2 ^ o) = (o : Int) := ⟨c.1, by rw [h _ hb]; exact c.2⟩
      rw [if_pos c, if_pos c']
      have hlt : (if a < a ^^^ 2 ^ o then a else a ^^^ 2 ^ o) < 2 ^ pl := by split <;> assumption
      exact AG.jn hlt (h.z _ _)
    · rw [if_neg c, if_neg (fun q => c ⟨q.1, by rw [← h _ (bud_lt q.1 ha)]; exact q.2⟩)]
      exact h.z _ _
theorem AG.mi {pl : Nat} (hpl : pl ≤ 11) {f f' : Nat → Int} (h : AG pl f f') (hM : MI pl f) : MI pl f' := by
  obtain ⟨h1, h2, h3⟩ := hM
  refine ⟨fun a ha => by rw [h a ha]; exact h1 a ha, fun a o ha he => ?_, fun a o ha ho he => ?_⟩
  · rw [h a ha] at he
    obtain ⟨q1, q2, q3⟩ := h2 a o ha he
    exact ⟨q1, q2, fun b hb1 hb2 => by rw [h b (by omega)]; exact q3 b hb1 hb2⟩
  · rw [h a ha] at he
    rw [h _ (bud_lt ho ha)]
    exact h3 a o ha ho he
theorem AG.hb {pl : Nat} {f f' : Nat → Int} (h : AG pl f f') {a m : Nat} (hB : HB pl f a m) : HB pl f' a m := by
  obtain ⟨h1, h2, h3, h4⟩ := hB
  exact ⟨h1, h2, fun b b1 b2 => by rw [h b (by omega)]; exact h3 b b1 b2, fun b o hb he => h4 b o hb (by rw [← h b hb]; exact he)⟩
theorem AG.sym {pl : Nat} {f f' : Nat → Int} (h : AG pl f f') : AG pl f' f := fun a ha => (h a ha).symm
/-- the same block is given -/
theorem give_eq {g : Nat × Nat × Nat × Nat} (hnp : g.2.1 = 2 ^ g.1) {σ σ' ρ ρ' : St} {k : Nat} {r r' : Int} (hA : AG g.1 (σ 4) (ρ 5)) (h1 : gvP g σ σ' k r) (h2 : rgP g ρ ρ' k r') : r = r' ∧ AG g.1 (σ' 4) (ρ' 5) := by
  rcases h1 with ⟨rfl, rfl, n1⟩ | ⟨a, d, rfl, ha, hf, hmin, hfst, e4, -, -⟩
  · rcases h2 with ⟨rfl, rfl, -⟩ | ⟨a', d', rfl, ha', hf', -⟩
    · exact ⟨rfl, hA⟩
    · exact absurd (by rw [← hA a' (by omega), hf']; omega) (n1 a' ha')
  · rcases h2 with ⟨rfl, rfl, n2⟩ | ⟨a', d', rfl, ha', hf', hmin', hfst', rfl⟩
    · exact absurd (by rw [hA a (by omega), hf]; omega) (n2 a ha)
    · have e1 := hmin a' ha' (by rw [← hA a' (by omega), hf']; omega)
      have e2 := hmin' a ha (by rw [hA a (by omega), hf]; omega)
      rw [← hA a' (by omega), hf'] at e1
      rw [hA a (by omega), hf] at e2
      obtain rfl : d = d' := by omega
      obtain rfl : a = a' := by
        rcases Nat.lt_trichotomy a a' with c | c | c
        · exact absurd (by rw [hA a (by omega)]; exact hf) (hfst' a c)
        · exact c
        · exact absurd (by rw [← hA a' (by omega)]; exact hf') (hfst a' c)
      refine ⟨rfl, ?_⟩
      rw [e4, upr_s]
      exact (hA.z _ _).spl
theorem spl_at {a k : Nat} : ∀ {d : Nat} {f : Nat → Int} {b : Nat}, (∀ i, k ≤ i → i < k + d → b ≠ a + 2 ^ i) → splF f a k d b = f b
  | 0, _, _, _ => rfl
  | d + 1, f, b, h => by
    show splF (zup f (a + 2 ^ (k + d)) ((k + d : Nat) : Int)) a k d b = f b
    rw [spl_at (fun i h1 h2 => h i h1 (by omega)), zup_n (h (k + d) (by omega) (by omega))]
theorem spl_low {a k : Nat} : ∀ {d : Nat} {f : Nat → Int}, splF f a k (d + 1) = zup (splF f a (k + 1) d) (a + 2 ^ k) (k : Int)
  | 0, _ => rfl
  | d + 1, f => by
    show splF (zup f (a + 2 ^ (k + (d + 1))) ((k + (d + 1) : Nat) : Int)) a k (d + 1) = zup (splF (zup f (a + 2 ^ (k + 1 + d)) ((k + 1 + d : Nat) : Int)) a (k + 1) d) (a + 2 ^ k) (k : Int)
    rw [spl_low, show k + (d + 1) = k + 1 + d by omega]
theorem zup_zup (f : Nat → Int) (a : Nat) (x y : Int) : zup (zup f a x) a y = zup f a y := by
  funext b
  by_cases c : b = a
  · rw [c, zup_s, zup_s]
  · rw [zup_n c, zup_n c, zup_n c]
theorem zup_same {f : Nat → Int} {a : Nat} {x : Int} (h : f a = x) : zup f a x = f := by
  funext b
  by_cases c : b = a
  · rw [c, zup_s, h]
  · rw [zup_n c]
theorem pw_inj {i j : Nat} (h : 2 ^ i = 2 ^ j) : i = j := by
  rcases Nat.lt_trichotomy i j with c | c | c
  · have := Nat.pow_lt_pow_right (a := 2) (by decide) c; omega
  · exact c
  · have := Nat.pow_lt_pow_right (a := 2) (by decide) c; omega
/-- giving a block and taking it back restores the memory -/
theorem give_back {pl a : Nat} (hpl : pl ≤ 11) {f : Nat → Int} (hM : MI pl f) (ha : a < 2 ^ pl) : ∀ {d k n : Nat}, pl - k < n → f a = ((k + d : Nat) : Int) → jnF pl n (splF (zup f a (-1)) a k d) a k = f
  | 0, k, n, hn, hf => by
    rw [Nat.add_zero] at hf
    have hk : (k : Int) ≤ pl := by have := (hM.1 a ha).2; rw [hf] at this; omega
    have e : zup (zup f a (-1)) a (k : Int) = f := by rw [zup_zup, zup_same hf]
    show jnF pl n (zup f a (-1)) a k = f
    cases n with
    | zero => omega
    | succ n =>
      unfold jnF
      rw [if_neg, e]
      rintro ⟨c1, c2⟩
      have hne : a ^^^ 2 ^ k ≠ a := by
        have hp : 0 < 2 ^ k := Nat.two_pow_pos k
        have h2 : 2 ^ pl ≤ 2048 := Nat.pow_le_pow_right (n := 2) (by decide) hpl
        rcases bud (k := k) (a := a) (by omega) (by omega) with ⟨-, q⟩ | ⟨-, q⟩ <;> omega
      rw [zup_n hne] at c2
      exact hM.2.2 a k ha c1 hf c2
  | d + 1, k, n, hn, hf => by
    obtain ⟨q1, q2, q3⟩ := hM.2.1 a (k + (d + 1)) ha hf
    have hp : 0 < 2 ^ k := Nat.two_pow_pos k
    have hkp : k + (d + 1) ≤ pl := by have := (hM.1 a ha).2; rw [hf] at this; omega
    have hle : 2 ^ (k + 1) ≤ 2 ^ (k + (d + 1)) := Nat.pow_le_pow_right (by decide) (by omega)
    have hps := ps k
    have h2 : 2 ^ pl ≤ 2048 := Nat.pow_le_pow_right (n := 2) (by decide) hpl
    have hx : a ^^^ 2 ^ k = a + 2 ^ k := by
      rcases bud (k := k) (a := a) (by omega) (by omega) with ⟨-, q⟩ | ⟨q0, -⟩
      · exact q
      · have hdv : 2 ^ (k + 1) ∣ a := Nat.dvd_trans (Nat.pow_dvd_pow 2 (by omega)) q1
        obtain ⟨c, rfl⟩ := hdv
        rw [hps, show 2 * 2 ^ k * c = 2 ^ k * (2 * c) by rw [Nat.mul_comm 2, Nat.mul_assoc], Nat.mul_div_cancel_left _ hp, Nat.mul_mod_right] at q0
        omega
    have hne : a + 2 ^ k ≠ a := by omega
    have hlow : splF (zup f a (-1)) a (k + 1) d (a + 2 ^ k) = -1 := by
      rw [spl_at (fun i h1 h2 e => by have := pw_inj (show 2 ^ k = 2 ^ i by omega); omega), zup_n hne]
      exact q3 _ (by omega) (by omega)
    cases n with
    | zero => omega
    | succ n =>
      rw [spl_low]
      unfold jnF
      rw [hx, zup_s, if_pos ⟨by omega, rfl⟩, zup_zup, zup_same hlow, if_pos (by omega)]
      exact give_back hpl hM ha (by omega) (by rw [hf]; omega)
/-- how many free blocks of an order there are when one was halved -/
theorem cnt_spl {a k N : Nat} {o : Int} (ho : 0 ≤ o) : ∀ {d : Nat} {f : Nat → Int}, (∀ i, k ≤ i → i < k + d → a + 2 ^ i < N ∧ f (a + 2 ^ i) = -1) → cnt (splF f a k d) o N = cnt f o N + (if (k : Int) ≤ o ∧ o < ((k + d : Nat) : Int) then 1 else 0)
  | 0, f, _ => by
    show cnt f o N = _
    rw [if_neg (by omega)]; omega
  | d + 1, f, h => by
    show cnt (splF (zup f (a + 2 ^ (k + d)) ((k + d : Nat) : Int)) a k d) o N = _
    have hd := h (k + d) (by omega) (by omega)
    rw [cnt_spl ho (fun i h1 h2 => ⟨(h i h1 (by omega)).1, by rw [zup_n (fun e => by have := pw_inj (show 2 ^ i = 2 ^ (k + d) by omega); omega)]; exact (h i h1 (by omega)).2⟩), cnt_up _ _ _ _ hd.1, hd.2, if_neg (by omega)]
    by_cases c1 : ((k + d : Nat) : Int) = o
    · rw [if_pos c1, if_neg (by omega), if_pos (by omega)]; omega
    · rw [if_neg c1]
      by_cases c2 : (k : Int) ≤ o ∧ o < ((k + d : Nat) : Int)
      · rw [if_pos c2, if_pos (by omega)]; omega
      · rw [if_neg c2, if_neg (by omega)]; omega
theorem cnt_some {f : Nat → Int} {o : Int} {N : Nat} (h : 0 < cnt f o N) : ∃ a, a < N ∧ f a = o := by
  obtain ⟨a, h1, h2, -⟩ := cnt_pos h
  exact ⟨a, h1, h2⟩
theorem cnt_one {f : Nat → Int} {o : Int} {N a : Nat} (ha : a < N) (h : f a = o) : 0 < cnt f o N := by
  have h1 := cnt_ge f o N
  rcases Int.lt_or_eq_of_le h1 with c | c
  · exact c
  · exact absurd h (cnt_no c.symm ha)
/-- both can be given: in the words of what is free -/
theorem cg_iff {g : Nat × Nat × Nat × Nat} (hnp : g.2.1 = 2 ^ g.1) {σ : St} (hM : MI g.1 (σ 4)) (hC : CN g σ) {k a d : Nat} {k2 : Int} (ha : a < g.2.1) (hf : σ 4 a = ((k + d : Nat) : Int)) (hmin : ∀ b, b < g.2.1 → (k : Int) ≤ σ 4 b → ((k + d : Nat) : Int) ≤ σ 4 b) (hk2 : -1 ≤ k2) : cgP σ g.1 k k2 ↔ (k2 = -1 ∨ ∃ b, b < g.2.1 ∧ k2 ≤ splF (zup (σ 4) a (-1)) a k d b) := by
  have ha' : a < 2 ^ g.1 := by omega
  have hkd : k + d ≤ g.1 := by have := (hM.1 a ha').2; rw [hf] at this; omega
  have hl : lfo σ g.1 k ((k + d : Nat) : Int) := by
    refine Or.inr ⟨by omega, by omega, ?_, ?_⟩
    · rw [Int.toNat_natCast, hC _ hkd]; exact cnt_one ha hf
    · intro o h1 h2 h3
      rw [hC o.toNat (by omega), show ((o.toNat : Nat) : Int) = o by omega] at h3
      obtain ⟨b, b1, b2⟩ := cnt_some h3
      have := hmin b b1 (by omega)
      omega
  obtain ⟨q1, q2, q3⟩ := hM.2.1 a (k + d) ha' hf
  have hlft : ∀ o : Int, 0 ≤ o → o ≤ g.1 → lft σ k ((k + d : Nat) : Int) o = cnt (splF (zup (σ 4) a (-1)) a k d) o g.2.1 := by
    intro o h0 h1
    unfold lft
    rw [hC o.toNat (by omega), show ((o.toNat : Nat) : Int) = o by omega, cnt_spl h0, cnt_up _ _ _ _ ha, hf, if_neg (show ¬ (-1 : Int) = o by omega)]
    · by_cases c1 : o = ((k + d : Nat) : Int)
      · rw [if_pos c1, if_pos c1.symm, if_neg (by omega)]; omega
      · rw [if_neg c1, if_neg (show ¬ ((k + d : Nat) : Int) = o from fun e => c1 e.symm)]; omega
    · intro i h2 h3
      have h4 : 2 ^ i < 2 ^ (k + d) := Nat.pow_lt_pow_right (by decide) h3
      have h5 : 0 < 2 ^ i := Nat.two_pow_pos i
      exact ⟨by omega, by rw [zup_n (by omega)]; exact q3 _ (by omega) (by omega)⟩
  have hM1 := (HB.spl (pl := g.1) (a := a) (k := k) (d := d) (f := zup (σ 4) a (-1)))
  constructor
  · rintro ⟨h, h1, h2, h3⟩
    obtain rfl := lfo_u h1 hl
    rcases h3 with h3 | ⟨o, o1, o2, o3⟩
    · exact Or.inl h3
    · by_cases c : k2 = -1
      · exact Or.inl c
      · refine Or.inr ?_
        rw [hlft o (by omega) o2] at o3
        obtain ⟨b, b1, b2⟩ := cnt_some o3
        exact ⟨b, b1, by omega⟩
  · intro h
    refine ⟨_, hl, by omega, ?_⟩
    rcases h with h | ⟨b, b1, b2⟩
    · exact Or.inl h
    · by_cases c : k2 = -1
      · exact Or.inl c
      · have hrg : splF (zup (σ 4) a (-1)) a k d b ≤ g.1 := by
          by_cases hex : ∃ i, k ≤ i ∧ i < k + d ∧ b = a + 2 ^ i
          · obtain ⟨i, i1, i2, rfl⟩ := hex
            clear hM1 b2
            have : ∀ (dd : Nat) (f : Nat → Int), dd ≤ d → (∀ b, b < 2 ^ g.1 → f b ≤ g.1) → ∀ b, b < 2 ^ g.1 → splF f a k dd b ≤ g.1 := by
              intro dd
              induction dd with
              | zero => exact fun f _ h => h
              | succ dd ih =>
                intro f hdd h
                refine ih _ (by omega) (fun b hb => ?_)
                by_cases c : b = a + 2 ^ (k + dd)
                · rw [c, zup_s]; omega
                · rw [zup_n c]; exact h b hb
            refine this d _ (Nat.le_refl d) (fun b hb => ?_) _ (by omega)
            by_cases c : b = a
            · rw [c, zup_s]; omega
            · rw [zup_n c]; exact (hM.1 b hb).2
          · rw [spl_at (fun i h1 h2 e => hex ⟨i, h1, h2, e⟩)]
            by_cases c : b = a
            · rw [c, zup_s]; omega
            · rw [zup_n c]; exact (hM.1 b (by omega)).2
        refine Or.inr ⟨_, b2, hrg, ?_⟩
        rw [hlft _ (by omega) hrg]
        exact cnt_one b1 rfl
theorem cg_no {g : Nat × Nat × Nat × Nat} {σ : St} (hC : CN g σ) {k : Nat} {k2 : Int} (h : ∀ b, b < g.2.1 → ¬ (k : Int) ≤ σ 4 b) : ¬ cgP σ g.1 k k2 := fun q => by
  obtain ⟨a, h1, h2⟩ := q.some hC
  exact h a h1 h2
theorem sumF_ext {f f' : Nat → Int} : ∀ {n : Nat}, (∀ k, k < n → f' k = f k) → sumF f' n = sumF f n
  | 0, _ => rfl
  | n + 1, h => by
    show sumF f' n + f' n * 2 ^ n = sumF f n + f n * 2 ^ n
    rw [sumF_ext (fun k hk => h k (by omega)), h n (by omega)]
theorem sumF_add (f : Nat → Int) (x : Int) : ∀ n : Nat, sumF (fun k => f k + (if x = (k : Int) then 1 else 0)) n = sumF f n + (if 0 ≤ x ∧ x < n then 2 ^ x.toNat else 0)
  | 0 => by
    show (0 : Int) = 0 + _
    rw [if_neg (by omega)]; omega
  | n + 1 => by
    show sumF _ n + (f n + (if x = (n : Int) then 1 else 0)) * 2 ^ n = (sumF f n + f n * 2 ^ n) + _
    rw [sumF_add f x n, Int.add_mul]
    by_cases c : x = (n : Int)
    · rw [if_pos c, if_neg (by omega), if_pos (by omega), c, Int.toNat_natCast]; omega
    · rw [if_neg c]
      by_cases c2 : 0 ≤ x ∧ x < n
      · rw [if_pos c2, if_pos (by omega)]; omega
      · rw [if_neg c2, if_neg (by omega)]; omega
theorem sum_cnt {pl : Nat} {f : Nat → Int} : ∀ {n : Nat}, (∀ a, a < n → -1 ≤ f a ∧ f a ≤ pl) → sumF (fun k => cnt f k n) (pl + 1) = sumA f n
  | 0, _ => by
    have : ∀ m, sumF (fun k => cnt f (k : Nat) 0) m = 0 := by
      intro m
      induction m with
      | zero => rfl
      | succ m ih =>
        show sumF (fun k => cnt f (k : Nat) 0) m + (0 : Int) * 2 ^ m = 0
        rw [ih]; omega
    exact this _
  | n + 1, h => by
    have e : (fun k : Nat => cnt f (k : Int) (n + 1)) = fun k : Nat => cnt f (k : Int) n + (if f n = (k : Int) then 1 else 0) := rfl
    rw [e, sumF_add, sum_cnt (fun a ha => h a (by omega))]
    show sumA f n + _ = sumA f n + _
    have := h n (by omega)
    by_cases c : 0 ≤ f n
    · rw [if_pos (by omega), if_pos c]
    · rw [if_neg (by omega), if_neg c]
theorem freeCells_eq {g : Nat × Nat × Nat × Nat} (hnp : g.2.1 = 2 ^ g.1) {σ ρ : St} (hM : MI g.1 (σ 4)) (hC : CN g σ) (hA : AG g.1 (σ 4) (ρ 5)) : sumF (σ 3) (g.1 + 1) = sumA (ρ 5) g.2.1 := by
  have e : ∀ n, n ≤ g.2.1 → sumA (ρ 5) n = sumA (σ 4) n := by
    intro n
    induction n with
    | zero => exact fun _ => rfl
    | succ n ih =>
      intro hn
      show sumA (ρ 5) n + _ = sumA (σ 4) n + _
      rw [ih (by omega), hA n (by omega)]
  rw [e _ (Nat.le_refl _), ← sum_cnt (pl := g.1) (fun a ha => hM.1 a (by omega))]
  exact sumF_ext (fun k hk => hC k (by omega))
theorem adP_u {f f' : Nat → Int} {N : Nat} {o k r r' : Int} (hf : ∀ a, a < N → f' a = f a) (h : adP f N o k r) (h' : adP f' N o k r') : r = r' := by
  have hc : cnt f' o N = cnt f o N := cnt_ext o hf
  have key : ∀ a a' : Nat, a < N → a' < N → f a = o → f a' = o → cnt f o a = k → cnt f o a' = k → ¬ a < a' := by
    intro a a' ha ha' h1 h2 h3 h4 c
    have := cnt_mono f o (show a + 1 ≤ a' from c)
    rw [cnt_s, if_pos h1] at this
    omega
  rcases h with ⟨e, n1⟩ | ⟨a, e, a1, a2, a3⟩ <;> rcases h' with ⟨e', n2⟩ | ⟨a', e', b1, b2, b3⟩
  · omega
  · rw [hf a' b1] at b2
    rw [cnt_ext o (fun b hb => hf b (by omega))] at b3
    have h1 := cnt_mono f o (show a' + 1 ≤ N from b1)
    rw [cnt_s, if_pos b2] at h1
    have h2 := cnt_ge f o a'
    exact absurd ⟨by omega, by omega⟩ n1
  · have h1 := cnt_mono f o (show a + 1 ≤ N from a1)
    rw [cnt_s, if_pos a2] at h1
    have h2 := cnt_ge f o a
    rw [hc] at n2
    exact absurd ⟨by omega, by omega⟩ n2
  · rw [hf a' b1] at b2
    rw [cnt_ext o (fun b hb => hf b (by omega))] at b3
    have h1 := key a a' a1 b1 a2 b2 a3 b3
    have h2 := key a' a b1 a1 b2 a2 b3 a3
    omega
theorem fb_eq {g : Nat × Nat × Nat × Nat} (hnp : g.2.1 = 2 ^ g.1) {σ ρ : St} (hA : AG g.1 (σ 4) (ρ 5)) {o k r r' : Int} (h : fbP g σ o k r) (h' : fbR g (ρ 5) o k r') : r = r' := by
  have hf : ∀ a, a < g.2.1 → ρ 5 a = σ 4 a := fun a ha => hA a (by omega)
  rcases h with ⟨n1, e⟩ | ⟨y1, ⟨k1, e⟩ | ⟨k1, e⟩⟩ <;> rcases h' with ⟨n2, e'⟩ | ⟨y2, ⟨k2, e'⟩ | ⟨k2, e'⟩⟩
  · omega
  · exact absurd y2 n1
  · exact absurd y2 n1
  · exact absurd y1 n2
  · rw [e, e', cnt_ext o hf]
  · exact absurd k1 k2
  · exact absurd y1 n2
  · exact absurd k2 k1
  · exact adP_u hf e e'
