/-! BLOCKS THAT ARE HELD. HB pl f a m: the block of order m at a is no free one's part, and none is its part. -/
def HB (pl : Nat) (f : Nat → Int) (a m : Nat) : Prop := 2 ^ m ∣ a ∧ a + 2 ^ m ≤ 2 ^ pl ∧ (∀ b, a ≤ b → b < a + 2 ^ m → f b = -1) ∧ ∀ b o : Nat, b < 2 ^ pl → f b = (o : Int) → b + 2 ^ o ≤ a ∨ a + 2 ^ m ≤ b
theorem ps (m : Nat) : 2 ^ (m + 1) = 2 * 2 ^ m := by rw [Nat.pow_succ]; omega
theorem HB.lt {pl a m : Nat} {f : Nat → Int} (h : HB pl f a m) : a < 2 ^ pl ∧ m ≤ pl := by
  have h0 := Nat.two_pow_pos m
  have := h.2.1
  refine ⟨by omega, ?_⟩
  rcases Nat.lt_or_ge pl m with q | q
  · have := pw_lt q; omega
  · exact q
/-- a free block that is taken -/
theorem HB.take {pl a m : Nat} {f : Nat → Int} (hM : MI pl f) (ha : a < 2 ^ pl) (hf : f a = (m : Int)) : HB pl (zup f a (-1)) a m := by
  obtain ⟨h1, h2, h3⟩ := hM.2.1 a m ha hf
  refine ⟨h1, h2, fun b e1 e2 => ?_, fun b o hb e => ?_⟩
  · by_cases c : b = a
    · rw [c, zup_s]
    · rw [zup_n c]; exact h3 b (by omega) e2
  · by_cases c : b = a
    · rw [c, zup_s] at e; omega
    · rw [zup_n c] at e
      obtain ⟨g1, g2, g3⟩ := hM.2.1 b o hb e
      rcases Nat.lt_or_ge b a with q | q
      · left
        rcases Nat.lt_or_ge a (b + 2 ^ o) with q2 | q2
        · have := g3 a q q2; omega
        · exact q2
      · right
        rcases Nat.lt_or_ge b (a + 2 ^ m) with q2 | q2
        · have := h3 b (by omega) q2; omega
        · exact q2
theorem xor_back (b k : Nat) : (b ^^^ 2 ^ k) ^^^ 2 ^ k = b := by rw [Nat.xor_assoc, Nat.xor_self, Nat.xor_zero]
/-- a held block is halved: its upper half is free -/
theorem HB.half {pl a m : Nat} {f : Nat → Int} (hpl : pl ≤ 11) (hM : MI pl f) (h : HB pl f a (m + 1)) : MI pl (zup f (a + 2 ^ m) (m : Int)) ∧ HB pl (zup f (a + 2 ^ m) (m : Int)) a m := by
  have hlt := h.lt
  obtain ⟨h1, h2, h3, h4⟩ := h
  have h11 : 2 ^ pl ≤ 2048 := Nat.le_trans (Nat.pow_le_pow_right (by decide) hpl) (by decide)
  have p0 := Nat.two_pow_pos m
  rw [ps] at h1 h2 h3 h4
  have hdm : 2 ^ m ∣ a := Nat.dvd_trans ⟨2, by omega⟩ h1
  have hbx : (a + 2 ^ m) ^^^ 2 ^ m = a := by
    obtain ⟨x, hx⟩ := h1
    have hdiv : (a + 2 ^ m) / 2 ^ m = 2 * x + 1 := by
      rw [Nat.add_div_right _ p0, show a = 2 ^ m * (2 * x) by rw [hx, Nat.mul_comm 2 (2 ^ m), Nat.mul_assoc], Nat.mul_div_cancel_left _ p0]
    rcases bud (show m < 11 by omega) (show a + 2 ^ m < 2048 by omega) with ⟨e1, e2⟩ | ⟨e1, e2⟩
    · rw [hdiv] at e1; omega
    · omega
  refine ⟨⟨fun b hb => ?_, fun b o hb e => ?_, fun b o hb ho e => ?_⟩, hdm, by omega, fun b e1 e2 => ?_, fun b o hb e => ?_⟩
  · by_cases c : b = a + 2 ^ m
    · rw [c, zup_s]; omega
    · rw [zup_n c]; exact hM.1 b hb
  · by_cases c : b = a + 2 ^ m
    · rw [c, zup_s] at e
      have e : o = m := by omega
      subst e
      rw [c]
      refine ⟨Nat.dvd_add hdm (Nat.dvd_refl _), by omega, fun b1 g1 g2 => ?_⟩
      rw [zup_n (by omega)]; exact h3 b1 (by omega) (by omega)
    · rw [zup_n c] at e
      obtain ⟨g1, g2, g3⟩ := hM.2.1 b o hb e
      refine ⟨g1, g2, fun b1 e1 e2 => ?_⟩
      have hnd := h4 b o hb e
      rw [zup_n (by omega)]; exact g3 b1 e1 e2
  · by_cases c : b = a + 2 ^ m
    · rw [c, zup_s] at e
      have e : o = m := by omega
      subst e
      rw [c, hbx, zup_n (by omega), h3 a (by omega) (by omega)]; omega
    · rw [zup_n c] at e
      by_cases c1 : b ^^^ 2 ^ o = a + 2 ^ m
      · rw [c1, zup_s]
        intro e2
        have e2 : m = o := by omega
        subst e2
        have e3 : b = a := by rw [← xor_back b m, c1, hbx]
        rw [e3, h3 a (by omega) (by omega)] at e; omega
      · rw [zup_n c1]; exact hM.2.2 b o hb ho e
  · rw [zup_n (by omega)]; exact h3 b e1 (by omega)
  · by_cases c : b = a + 2 ^ m
    · right; omega
    · rw [zup_n c] at e
      have := h4 b o hb e; omega
theorem HB.spl {pl a k : Nat} (hpl : pl ≤ 11) : ∀ {d : Nat} {f : Nat → Int}, MI pl f → HB pl f a (k + d) → MI pl (splF f a k d) ∧ HB pl (splF f a k d) a k
  | 0, _, hM, h => ⟨hM, h⟩
  | d + 1, f, hM, h => by
    obtain ⟨h1, h2⟩ := HB.half hpl hM (m := k + d) h
    exact HB.spl (d := d) (f := zup f (a + 2 ^ (k + d)) ((k + d : Nat) : Int)) hpl h1 h2
/-- other held blocks stay held -/
theorem HB.other {pl a m x y : Nat} {f : Nat → Int} (hx : HB pl f x y) (hd : x + 2 ^ y ≤ a ∨ a + 2 ^ m ≤ x) : HB pl (zup f a (m : Int)) x y := by
  have p0 := Nat.two_pow_pos m; have p1 := Nat.two_pow_pos y
  obtain ⟨h1, h2, h3, h4⟩ := hx
  refine ⟨h1, h2, fun b e1 e2 => ?_, fun b o hb e => ?_⟩
  · rw [zup_n (by omega)]; exact h3 b e1 e2
  · by_cases c : b = a
    · rw [c, zup_s] at e
      have e : o = m := by omega
      subst e; omega
    · rw [zup_n c] at e; exact h4 b o hb e
theorem HB.rem {pl a x y : Nat} {f : Nat → Int} (hx : HB pl f x y) : HB pl (zup f a (-1)) x y := by
  obtain ⟨h1, h2, h3, h4⟩ := hx
  refine ⟨h1, h2, fun b e1 e2 => ?_, fun b o hb e => ?_⟩
  · by_cases c : b = a
    · rw [c, zup_s]
    · rw [zup_n c]; exact h3 b e1 e2
  · by_cases c : b = a
    · rw [c, zup_s] at e; omega
    · rw [zup_n c] at e; exact h4 b o hb e
theorem HB.splO {pl a k x y : Nat} : ∀ {d : Nat} {f : Nat → Int}, HB pl f x y → (x + 2 ^ y ≤ a ∨ a + 2 ^ (k + d) ≤ x) → HB pl (splF f a k d) x y
  | 0, _, hx, _ => hx
  | d + 1, f, hx, hd => by
    rw [show k + (d + 1) = k + d + 1 by omega, ps] at hd
    have p0 := Nat.two_pow_pos (k + d)
    exact HB.splO (d := d) (f := zup f (a + 2 ^ (k + d)) ((k + d : Nat) : Int)) (HB.other (a := a + 2 ^ (k + d)) (m := k + d) hx (by omega)) (by omega)
/-- a held block comes to be free: joined with its free buddies -/
theorem HB.join {pl : Nat} (hpl : pl ≤ 11) : ∀ {n a o : Nat} {f : Nat → Int}, pl - o < n → MI pl f → HB pl f a o → MI pl (jnF pl n f a o) ∧ ∀ x y, HB pl f x y → (x + 2 ^ y ≤ a ∨ a + 2 ^ o ≤ x) → HB pl (jnF pl n f a o) x y
  | 0, _, _, _, h, _, _ => by omega
  | n + 1, a, o, f, hn, hM, h => by
    have hlt := h.lt
    have h11 : 2 ^ pl ≤ 2048 := Nat.le_trans (Nat.pow_le_pow_right (by decide) hpl) (by decide)
    by_cases c : o < pl ∧ f (a ^^^ 2 ^ o) = (o : Int)
    · rw [jnF_s c]
      have hjb := jn_blk hpl hM c.1 h.1 h.2.1 c.2 h.2.2.1
      have hbl := bud_lt c.1 hlt.1
      obtain ⟨m1, m2, m3⟩ := hM.2.1 _ o hbl c.2
      have p0 := Nat.two_pow_pos o
      have hpso := ps o
      have hun : (a ^^^ 2 ^ o = a + 2 ^ o ∧ (if a < a ^^^ 2 ^ o then a else a ^^^ 2 ^ o) = a) ∨ ((a ^^^ 2 ^ o) + 2 ^ o = a ∧ (if a < a ^^^ 2 ^ o then a else a ^^^ 2 ^ o) = a ^^^ 2 ^ o) := by
        rcases bud (show o < 11 by omega) (show a < 2048 by omega) with ⟨-, e2⟩ | ⟨-, e2⟩
        · exact Or.inl ⟨e2, if_pos (by omega)⟩
        · exact Or.inr ⟨e2, if_neg (by omega)⟩
      generalize (if a < a ^^^ 2 ^ o then a else a ^^^ 2 ^ o) = a1 at *
      generalize a ^^^ 2 ^ o = bd at *
      have hdisj : ∀ b w : Nat, b < 2 ^ pl → b ≠ bd → f b = (w : Int) → (b + 2 ^ w ≤ bd ∨ bd + 2 ^ o ≤ b) := by
        intro b w hb hne e
        obtain ⟨g1, g2, g3⟩ := hM.2.1 b w hb e
        rcases Nat.lt_or_ge b bd with q | q
        · left
          rcases Nat.lt_or_ge bd (b + 2 ^ w) with q2 | q2
          · have := g3 bd q q2; omega
          · exact q2
        · right
          rcases Nat.lt_or_ge b (bd + 2 ^ o) with q2 | q2
          · have := m3 b (by omega) q2; omega
          · exact q2
      have hnew : HB pl (zup f bd (-1)) a1 (o + 1) := by
        refine ⟨hjb.1, hjb.2.1, hjb.2.2, fun b w hb e => ?_⟩
        by_cases q : b = bd
        · rw [q, zup_s] at e; omega
        · rw [zup_n q] at e
          have e1 := hdisj b w hb q e
          have e2 := h.2.2.2 b w hb e
          have p1 := Nat.two_pow_pos w
          rw [hpso]; omega
      obtain ⟨r1, r2⟩ := HB.join hpl (show pl - (o + 1) < n by omega) hM.rem hnew
      refine ⟨r1, fun x y hx hd => r2 x y hx.rem ?_⟩
      have e1 := hx.2.2.2 bd o hbl c.2
      have p1 := Nat.two_pow_pos y
      rw [hpso]; omega
    · have e : jnF pl (n + 1) f a o = zup f a (o : Int) := by
        show (if o < pl ∧ f (a ^^^ 2 ^ o) = (o : Int) then _ else _) = _
        rw [if_neg c]
      rw [e]
      have p0 := Nat.two_pow_pos o
      refine ⟨⟨fun b hb => ?_, fun b w hb e => ?_, fun b w hb hw e => ?_⟩, fun x y hx hd => hx.other hd⟩
      · by_cases q : b = a
        · rw [q, zup_s]; omega
        · rw [zup_n q]; exact hM.1 b hb
      · by_cases q : b = a
        · rw [q, zup_s] at e
          have e : w = o := by omega
          subst e
          rw [q]
          refine ⟨h.1, h.2.1, fun b1 g1 g2 => ?_⟩
          rw [zup_n (by omega)]; exact h.2.2.1 b1 (by omega) g2
        · rw [zup_n q] at e
          obtain ⟨g1, g2, g3⟩ := hM.2.1 b w hb e
          have hnd := h.2.2.2 b w hb e
          refine ⟨g1, g2, fun b1 e1 e2 => ?_⟩
          rw [zup_n (by omega)]; exact g3 b1 e1 e2
      · by_cases q : b = a
        · rw [q, zup_s] at e
          have e : w = o := by omega
          subst e
          rw [q]
          have hself : a ^^^ 2 ^ w ≠ a := by
            rcases bud (show w < 11 by omega) (show a < 2048 by omega) with ⟨-, e2⟩ | ⟨-, e2⟩ <;> omega
          rw [zup_n hself]
          exact fun z => c ⟨hw, z⟩
        · rw [zup_n q] at e
          by_cases q1 : b ^^^ 2 ^ w = a
          · rw [q1, zup_s]
            intro z
            have z : o = w := by omega
            subst z
            have e3 : b = a ^^^ 2 ^ o := by rw [← xor_back b o, q1]
            rw [e3] at e
            exact c ⟨hw, e⟩
          · rw [zup_n q1]; exact hM.2.2 b w hb hw e
theorem HB.blk {g : Nat × Nat × Nat × Nat} {σ : St} {a o : Nat} (h : HB g.1 (σ 4) a o) : BLK g σ a o := ⟨h.lt.2, h.1, h.2.1, h.2.2.1⟩
