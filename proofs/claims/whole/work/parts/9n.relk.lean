/-! REL IS KEPT: a limb, a number that comes, one that goes, init, forget -/
section RL
variable {g : Nat × Nat × Nat × Nat} {σ σ' ρ ρ' : St} {q : List Int}
theorem RNm.row {x : Nat} (h : RNm σ ρ x) (hs : ∀ k, 1 ≤ k → k ≤ 5 → σ' (10 + x) k = σ (10 + x) k) (hr : ∀ n, 7 ≤ n → n ≤ 11 → ρ' n x = ρ n x) (hl : ∀ i : Nat, i < (σ (10 + x) 2).toNat → ρ 4 ((σ (10 + x) 3).toNat + i) = σ 2 ((σ (10 + x) 3).toNat + i) → ρ' 4 ((σ (10 + x) 3).toNat + i) = σ' 2 ((σ (10 + x) 3).toNat + i)) : RNm σ' ρ' x := by
  obtain ⟨h1, h2, h3, h4, h5, h6⟩ := h
  unfold RNm
  rw [hs 1 (by decide) (by decide), hs 2 (by decide) (by decide), hs 3 (by decide) (by decide), hs 4 (by decide) (by decide), hs 5 (by decide) (by decide), hr 7 (by decide) (by decide), hr 8 (by decide) (by decide), hr 9 (by decide) (by decide), hr 10 (by decide) (by decide), hr 11 (by decide) (by decide)]
  exact ⟨h1, h2, h3, h4, h5, fun i hi => hl i hi (h6 i hi)⟩
theorem RJb.row {j : Nat} (h : RJb σ ρ j) (hs : ∀ k, σ' (40 + j) k = σ (40 + j) k) (hr : ∀ n, 13 ≤ n → n ≤ 20 → ρ' n j = ρ n j) : RJb σ' ρ' j := by
  unfold RJb RRm at *
  simp only [hs, hr 13 (by decide) (by decide), hr 14 (by decide) (by decide), hr 15 (by decide) (by decide), hr 16 (by decide) (by decide), hr 17 (by decide) (by decide), hr 18 (by decide) (by decide), hr 19 (by decide) (by decide), hr 20 (by decide) (by decide)]
  exact h
theorem set_iff (h : REL g σ ρ q) (hI : IN g σ) (hg : GG g) (x i w : Int) : bSet g ρ x i w ↔ setOk g σ x i w := by
  unfold bSet
  rw [nd, h.nm_iff]
  constructor
  · rintro ⟨a, b, c, d, e⟩
    have hx : x.toNat < g.2.2.1 := by have := a.1; have := a.2.1; omega
    obtain ⟨r1, r2, r3, r4, -⟩ := h.nm _ hx a.2.2
    exact ⟨a, by omega, ⟨d, by omega⟩, b⟩
  · rintro ⟨a, b, ⟨c, d⟩, e⟩
    have hx : x.toNat < g.2.2.1 := by have := a.1; have := a.2.1; omega
    obtain ⟨r1, r2, r3, r4, -⟩ := h.nm _ hx a.2.2
    have := hI.pinr hg hx a.2.2
    exact ⟨a, e, by omega, c, by omega⟩
theorem REL.setLimb (h : REL g σ ρ q) {x i w : Int} (hw : w < 2147483648) (hP : setOk g σ x i w) : REL g (up σ 2 (σ (10 + x.toNat) 3 + i).toNat w) (up ρ 4 (ρ 8 x.toNat + i).toNat w) q := by
  have hx : x.toNat < g.2.2.1 := by have := hP.1.1; have := hP.1.2.1; omega
  have r2 := (h.nm _ hx hP.1.2.2).2.1
  rw [r2]
  generalize (σ (10 + x.toNat) 3 + i).toNat = p
  have hw0 := hP.2.2.2
  obtain ⟨a1, a2, a3, ⟨n1, n2, n3, n4⟩, ⟨j1, j2, j3⟩, a6⟩ := h
  have eN : ∀ k, up σ 2 p w (10 + k) = σ (10 + k) := fun k => up_n (by omega)
  have eJ : ∀ k, up σ 2 p w (40 + k) = σ (40 + k) := fun k => up_n (by omega)
  have eR : ∀ n, n ≠ 4 → up ρ 4 p w n = ρ n := fun n hn => up_n hn
  refine ⟨?_, ?_, ?_, ⟨?_, ?_, ?_, ?_⟩, ⟨?_, ?_, ?_⟩, a6.row (by rw [eR 0 (by decide)]) (eR 21 (by decide))⟩
  · unfold RS; rw [eR 0 (by decide), up_n (by decide)]; exact a1
  · rw [eR 5 (by decide), up_n (by decide)]; exact a2
  · intro k hk
    rw [up_s]
    by_cases c : k = p
    · rw [c, zup_s]; exact ⟨hw0, hw⟩
    · rw [zup_n c]; exact a3 k hk
  · rw [eR 11 (by decide)]; exact n1
  · intro y hy; rw [eR 6 (by decide), eN]; exact n2 y hy
  · rw [eR 6 (by decide)]; exact n3
  · intro y hy hu
    rw [eN] at hu
    refine (n4 y hy hu).row (fun k _ _ => by rw [eN]) (fun n _ _ => by rw [eR n (by omega)]) (fun i _ e => ?_)
    rw [up_s, up_s]
    by_cases c : (σ (10 + y) 3).toNat + i = p
    · rw [c, zup_s, zup_s]
    · rw [zup_n c, zup_n c]; exact e
  · intro j hj; rw [eR 12 (by decide), eJ]; exact j1 j hj
  · rw [eR 12 (by decide)]; exact j2
  · intro j hj hs
    rw [eJ] at hs
    exact (j3 j hj hs).row (fun k => by rw [eJ]) (fun n _ _ => by rw [eR n (by omega)])
/-- a number comes -/
theorem REL.occ (h : REL g σ ρ q) (hI : IN g σ) (hg : GG g) (hnp : g.2.1 = 2 ^ g.1) {σ1 ρ1 : St} {x n o A : Nat} (hx : x < g.2.2.1) (hu : σ (10 + x) 0 = 0) (hv : gvP g σ σ1 o A) (hv' : rgP g ρ ρ1 o A) (hO : OCC σ1 σ' x n o A) (hn : A + n ≤ 2048) : REL g σ' (MAK ρ1 x n A o) q := by
  have hAG := (give_eq hnp h.ag hv hv').2
  obtain ⟨m1, m2, m3, m4, m5⟩ := hv.mi hg.2.1 hnp hI.mi
  obtain ⟨o0, o1, o2, o3, o4, o5, e2, e0, hr⟩ := hO
  have r5 : ∀ k, k ≠ 5 → ρ1 k = ρ k := fun k hk => hv'.row hk
  have eN : ∀ k, k ≠ x → σ' (10 + k) = σ (10 + k) := fun k hk => by rw [hr _ (by omega) (by omega) (by omega), m5 _ (by omega) (by omega)]
  have eJ : ∀ k, σ' (40 + k) = σ (40 + k) := fun k => by rw [hr _ (by omega) (by omega) (by omega), m5 _ (by omega) (by omega)]
  have e22 : σ' 2 = fl (σ 2) A (A + n) 0 := by rw [e2, m5 2 (by decide) (by decide)]
  have e00 : σ' 0 = zup (σ 0) 6 (σ 0 6 + 1) := by rw [e0, m5 0 (by decide) (by decide)]
  have w4 : MAK ρ1 x n A o 4 = fl (ρ 4) A (A + n) 0 := by unfold MAK; rw [upr_s, r5 4 (by decide)]
  have w6 : MAK ρ1 x n A o 6 = zup (ρ 6) x 1 := by unfold MAK mkF; rw [upr_n (by decide), up_n (by decide), up_n (by decide), up_n (by decide), up_n (by decide), up_n (by decide), up_s, r5 6 (by decide)]
  have w7 : MAK ρ1 x n A o 7 = zup (ρ 7) x n := by unfold MAK mkF; rw [upr_n (by decide), up_n (by decide), up_n (by decide), up_n (by decide), up_s, up_n (by decide), up_n (by decide), r5 7 (by decide)]
  have w8 : MAK ρ1 x n A o 8 = zup (ρ 8) x A := by unfold MAK mkF; rw [upr_n (by decide), up_n (by decide), up_n (by decide), up_s, up_n (by decide), up_n (by decide), up_n (by decide), r5 8 (by decide)]
  have w9 : MAK ρ1 x n A o 9 = zup (ρ 9) x o := by unfold MAK mkF; rw [upr_n (by decide), up_n (by decide), up_s, up_n (by decide), up_n (by decide), up_n (by decide), up_n (by decide), r5 9 (by decide)]
  have w10 : MAK ρ1 x n A o 10 = zup (ρ 10) x 0 := by unfold MAK mkF; rw [upr_n (by decide), up_s, up_n (by decide), up_n (by decide), up_n (by decide), up_n (by decide), up_n (by decide), r5 10 (by decide)]
  have w11 : MAK ρ1 x n A o 11 = zup (ρ 11) x 0 := by unfold MAK mkF; rw [upr_n (by decide), up_n (by decide), up_n (by decide), up_n (by decide), up_n (by decide), up_s, up_n (by decide), r5 11 (by decide)]
  have wR : ∀ k, k ≠ 5 → (k < 4 ∨ 11 < k) → MAK ρ1 x n A o k = ρ k := fun k h5 hk => by rw [MAK.row (by omega) (by omega) (by omega) (by omega) (by omega) (by omega) (by omega), r5 k h5]
  have w5 : MAK ρ1 x n A o 5 = ρ1 5 := MAK.row (by decide) (by decide) (by decide) (by decide) (by decide) (by decide) (by decide)
  generalize MAK ρ1 x n A o = τ at w4 w5 w6 w7 w8 w9 w10 w11 wR ⊢
  obtain ⟨a1, a2, a3, ⟨n1, n2, n3, n4⟩, ⟨j1, j2, j3⟩, a6⟩ := h
  refine ⟨?_, ?_, ?_, ⟨?_, ?_, ?_, ?_⟩, ⟨?_, ?_, ?_⟩, a6.row (by rw [wR 0 (by decide) (by decide)]) (wR 21 (by decide) (by decide))⟩
  · unfold RS; rw [wR 0 (by decide) (by decide), e00, zup_n (by decide), zup_n (by decide)]; exact a1
  · rw [w5, hr 4 (by decide) (by decide) (by omega)]; exact hAG
  · intro k hk
    rw [w4]; unfold fl
    split
    · decide
    · exact a3 k hk
  · intro y hy
    rw [w11]
    by_cases c : y = x
    · rw [c, zup_s]; exact Or.inl rfl
    · rw [zup_n c]; exact n1 y hy
  · intro y hy
    rw [w6]
    by_cases c : y = x
    · rw [c, zup_s, o0]
    · rw [zup_n c, eN y c]; exact n2 y hy
  · intro y h1 h2
    rw [w6, zup_n (by omega)]; exact n3 y h1 h2
  · intro y hy hyu
    by_cases c : y = x
    · subst c
      refine ⟨by rw [w7, zup_s, o2], by rw [w8, zup_s, o3], by rw [w9, zup_s, o4], by rw [w10, zup_s, o5], by rw [w11, zup_s, o1], fun i hi => ?_⟩
      rw [o2, Int.toNat_natCast] at hi
      rw [o3, Int.toNat_natCast, w4, e22]
      unfold fl
      rw [if_pos (by omega), if_pos (by omega)]
    · rw [eN y c] at hyu
      refine (n4 y hy hyu).row (fun k _ _ => by rw [eN y c]) (fun k k1 k2 => ?_) (fun i _ e => ?_)
      · rcases (show k = 7 ∨ k = 8 ∨ k = 9 ∨ k = 10 ∨ k = 11 by omega) with rfl | rfl | rfl | rfl | rfl
        · rw [w7, zup_n c]
        · rw [w8, zup_n c]
        · rw [w9, zup_n c]
        · rw [w10, zup_n c]
        · rw [w11, zup_n c]
      · rw [w4, e22]; unfold fl
        split
        · rfl
        · exact e
  · intro j hj; rw [wR 12 (by decide) (by decide), eJ]; exact j1 j hj
  · rw [wR 12 (by decide) (by decide)]; exact j2
  · intro j hj hs
    rw [eJ] at hs
    exact (j3 j hj hs).row (fun k => by rw [eJ]) (fun k k1 k2 => by rw [wR k (by omega) (by omega)])
theorem lst_eq {x y : Nat} {P Q : Nat → Prop} (hx : P x) (hx' : ∀ i, i < x → ¬ P i) (hy : Q y) (hy' : ∀ i, i < y → ¬ Q i) (h1 : P y → Q y → True) (hPQ : Q x) (hQP : P y) : x = y := by
  rcases Nat.lt_trichotomy x y with c | c | c
  · exact absurd hPQ (hy' x c)
  · exact c
  · exact absurd hQP (hx' y c)
theorem REL.newNumber (h : REL g σ ρ q) (hI : IN g σ) (hg : GG g) (hnp : g.2.1 = 2 ^ g.1) {n v v' : Int} (hP : nnP g σ σ' n v) (hP' : rnP g ρ ρ' n v') : v = v' ∧ REL g σ' ρ' q := by
  have u6 := h.u6
  rcases hP with ⟨b, rfl, rfl⟩ | ⟨b, hP⟩
  · rcases hP' with ⟨-, rfl, rfl⟩ | ⟨b', -⟩
    · exact ⟨rfl, h⟩
    · exact absurd b' b
  · rcases hP' with ⟨b', -⟩ | ⟨-, hP'⟩
    · exact absurd b b'
    · rcases hP with ⟨c, rfl, rfl⟩ | ⟨x, o, ⟨hx, hu, hl⟩, ho, hP⟩
      · rcases hP' with ⟨-, rfl, rfl⟩ | ⟨x', o', hx', hu', -⟩
        · exact ⟨rfl, h⟩
        · exact absurd (by rw [← u6 x' hx']; exact hu') (c x' hx')
      · rcases hP' with ⟨c, -⟩ | ⟨x', o', hx', hu', hl', ho', -, r, ρ1, hv', hP'⟩
        · exact absurd (by rw [u6 x hx]; exact hu) (c x hx)
        · obtain rfl : x = x' := by
            rcases Nat.lt_trichotomy x x' with c | c | c
            · exact absurd (by rw [u6 x hx]; exact hu) (hl' x c)
            · exact c
            · exact absurd (by rw [← u6 x' hx']; exact hu') (hl x' c)
          obtain rfl := ord_u ho ho'
          rcases hP with ⟨hv, rfl, rfl⟩ | ⟨A, σ1, hv, hA, hO, rfl⟩
          · obtain ⟨e, -⟩ := give_eq hnp h.ag hv hv'
            rcases hP' with ⟨-, rfl, rfl⟩ | ⟨a, e', -⟩
            · exact ⟨rfl, h⟩
            · omega
          · obtain ⟨e, -⟩ := give_eq hnp h.ag hv hv'
            rcases hP' with ⟨e', -⟩ | ⟨a, e', rfl, rfl⟩
            · omega
            · obtain rfl : A = a := by omega
              rw [e'] at hv'
              exact ⟨rfl, h.occ hI hg hnp hx hu hv hv' hO (by omega)⟩
/-- a number goes -/
theorem REL.release (h : REL g σ ρ q) (hI : IN g σ) (hg : GG g) (hnp : g.2.1 = 2 ^ g.1) {x A o : Nat} (hx : x < g.2.2.1) (hu : σ (10 + x) 0 = 1) (hA : σ (10 + x) 3 = A) (ho : σ (10 + x) 4 = o) (hV : VAC g (clrU σ x g.2.2.2) σ' x A o) : REL g σ' (GO g ρ x A o) q := by
  obtain ⟨v4, vC, vx, v0, hr⟩ := hV
  obtain ⟨A', n', o', c1, c2, c3, -, -, -, hB, -, -⟩ := hI.num hnp hx hu
  obtain rfl : A = A' := by omega
  have l : ∀ n, n < 40 → clrU σ x g.2.2.2 n = σ n := fun n hn => clrU_lo (by omega)
  have eN : ∀ k, k < g.2.2.1 → k ≠ x → σ' (10 + k) = σ (10 + k) := fun k hk hkx => by rw [hr _ (by omega) (by omega) (by omega) (by omega), l _ (by omega)]
  have eJ : ∀ k, σ' (40 + k) = clrU σ x g.2.2.2 (40 + k) := fun k => hr _ (by omega) (by omega) (by omega) (by omega)
  have eJk : ∀ j k, k ≠ 5 → σ' (40 + j) k = σ (40 + j) k := fun j k hk => by
    rw [eJ]; unfold clrU
    split
    · rw [zup_n hk]
    · rfl
  have u0 : σ' (10 + x) 0 = 0 := by rw [vx, zup_s]
  have e2 : σ' 2 = σ 2 := by rw [hr 2 (by decide) (by decide) (by decide) (by omega), l 2 (by decide)]
  have g6 : GO g ρ x A o 6 = zup (ρ 6) x 0 := by unfold GO; rw [upr_n (by decide), upr_n (by decide), up_n (by decide), up_s]
  have g11 : GO g ρ x A o 11 = zup (ρ 11) x 0 := by unfold GO; rw [upr_n (by decide), upr_n (by decide), up_s, up_n (by decide)]
  have g5 : GO g ρ x A o 5 = jnF g.1 12 (ρ 5) A o := by unfold GO; rw [upr_n (by decide), upr_s]
  have g18 : GO g ρ x A o 18 = clr (ρ 12) (ρ 18) x 12 := by unfold GO; rw [upr_s]
  have gR : ∀ n, n ≠ 5 → n ≠ 6 → n ≠ 11 → n ≠ 18 → GO g ρ x A o n = ρ n := fun n h5 h6 h11 h18 => by unfold GO; rw [upr_n h18, upr_n h5, up_n h11, up_n h6]
  generalize GO g ρ x A o = τ at g5 g6 g11 g18 gR ⊢
  obtain ⟨a1, a2, a3, ⟨n1, n2, n3, n4⟩, ⟨j1, j2, j3⟩, a6⟩ := h
  refine ⟨?_, ?_, ?_, ⟨?_, ?_, ?_, ?_⟩, ⟨?_, ?_, ?_⟩, a6.row (by rw [gR 0 (by decide) (by decide) (by decide) (by decide)]) (gR 21 (by decide) (by decide) (by decide) (by decide))⟩
  · unfold RS; rw [gR 0 (by decide) (by decide) (by decide) (by decide), v0, l 0 (by decide), zup_n (by decide), zup_n (by decide)]; exact a1
  · rw [g5, v4, l 4 (by decide)]; exact a2.jn hB.lt.1
  · intro k hk; rw [gR 4 (by decide) (by decide) (by decide) (by decide)]; exact a3 k hk
  · intro y hy
    rw [g11]
    by_cases c : y = x
    · rw [c, zup_s]; exact Or.inl rfl
    · rw [zup_n c]; exact n1 y hy
  · intro y hy
    rw [g6]
    by_cases c : y = x
    · rw [c, zup_s, u0]
    · rw [zup_n c, eN y hy c]; exact n2 y hy
  · intro y h1 h2
    rw [g6, zup_n (by omega)]; exact n3 y h1 h2
  · intro y hy hyu
    have c : y ≠ x := fun e => by rw [e, u0] at hyu; omega
    rw [eN y hy c] at hyu
    refine (n4 y hy hyu).row (fun k _ _ => by rw [eN y hy c]) (fun k k1 k2 => ?_) (fun i _ e => by rw [gR 4 (by decide) (by decide) (by decide) (by decide), e2]; exact e)
    by_cases d : k = 11
    · rw [d, g11, zup_n c]
    · rw [gR k (by omega) (by omega) d (by omega)]
  · intro j hj; rw [gR 12 (by decide) (by decide) (by decide) (by decide), eJk j 0 (by decide)]; exact j1 j hj
  · rw [gR 12 (by decide) (by decide) (by decide) (by decide)]; exact j2
  · intro j hj hs
    rw [eJk j 0 (by decide)] at hs
    obtain ⟨b1, b2, b3⟩ := j3 j hj hs
    unfold RJb RRm at *
    rw [eJk j 0 (by decide), eJk j 1 (by decide), eJk j 2 (by decide), eJk j 3 (by decide), eJk j 4 (by decide), eJk j 8 (by decide), eJk j 9 (by decide), eJk j 10 (by decide), gR 13 (by decide) (by decide) (by decide) (by decide), gR 14 (by decide) (by decide) (by decide) (by decide), gR 15 (by decide) (by decide) (by decide) (by decide), gR 16 (by decide) (by decide) (by decide) (by decide), gR 17 (by decide) (by decide) (by decide) (by decide), gR 19 (by decide) (by decide) (by decide) (by decide), gR 20 (by decide) (by decide) (by decide) (by decide)]
    refine ⟨?_, b2, b3⟩
    rw [g18, eJ]
    unfold clr clrU
    by_cases c : σ (40 + j) 5 = x
    · rw [if_pos ⟨by omega, by rw [j1 j hj]; exact hs, by rw [b1]; exact c⟩, if_pos ⟨by omega, by omega, c⟩, zup_s]
    · rw [if_neg (fun q => c (by rw [← b1]; exact q.2.2)), if_neg (fun q => c q.2.2)]; exact b1
theorem REL.forget (h : REL g σ ρ q) (hg : GG g) {j : Nat} (hj : j < g.2.2.2) : REL g (up (up (up (up σ (40 + j) 0 (-1)) (40 + j) 5 (-1)) (40 + j) 8 (-1)) 0 7 (σ 0 7 - 1)) (up ρ 12 j (-1)) q := by
  have hr : ∀ n, n ≠ 0 → n ≠ 40 + j → up (up (up (up σ (40 + j) 0 (-1)) (40 + j) 5 (-1)) (40 + j) 8 (-1)) 0 7 (σ 0 7 - 1) n = σ n := fun n h0 h1 => by rw [up_n h0, up_n h1, up_n h1, up_n h1]
  have hj' : up (up (up (up σ (40 + j) 0 (-1)) (40 + j) 5 (-1)) (40 + j) 8 (-1)) 0 7 (σ 0 7 - 1) (40 + j) 0 = -1 := by rw [up_n (by omega), up_s, zup_n (by decide), up_s, zup_n (by decide), up_s, zup_s]
  have h0' : up (up (up (up σ (40 + j) 0 (-1)) (40 + j) 5 (-1)) (40 + j) 8 (-1)) 0 7 (σ 0 7 - 1) 0 = zup (σ 0) 7 (σ 0 7 - 1) := by rw [up_s, up_n (by omega), up_n (by omega), up_n (by omega)]
  generalize up (up (up (up σ (40 + j) 0 (-1)) (40 + j) 5 (-1)) (40 + j) 8 (-1)) 0 7 (σ 0 7 - 1) = τ at hr hj' h0' ⊢
  have eN : ∀ k, k < g.2.2.1 → τ (10 + k) = σ (10 + k) := fun k hk => hr _ (by omega) (by omega)
  have eJ : ∀ k, k ≠ j → τ (40 + k) = σ (40 + k) := fun k hk => hr _ (by omega) (by omega)
  have eR : ∀ n, n ≠ 12 → up ρ 12 j (-1) n = ρ n := fun n hn => up_n hn
  obtain ⟨a1, a2, a3, ⟨n1, n2, n3, n4⟩, ⟨j1, j2, j3⟩, a6⟩ := h
  refine ⟨?_, ?_, ?_, ⟨?_, ?_, ?_, ?_⟩, ⟨?_, ?_, ?_⟩, a6.row (by rw [eR 0 (by decide)]) (eR 21 (by decide))⟩
  · unfold RS; rw [eR 0 (by decide), h0', zup_n (by decide), zup_n (by decide)]; exact a1
  · rw [eR 5 (by decide), hr 4 (by decide) (by omega)]; exact a2
  · intro k hk; rw [eR 4 (by decide)]; exact a3 k hk
  · rw [eR 11 (by decide)]; exact n1
  · intro y hy; rw [eR 6 (by decide), eN y hy]; exact n2 y hy
  · rw [eR 6 (by decide)]; exact n3
  · intro y hy hu
    rw [eN y hy] at hu
    exact (n4 y hy hu).row (fun k _ _ => by rw [eN y hy]) (fun n _ _ => by rw [eR n (by omega)]) (fun i _ e => by rw [eR 4 (by decide), hr 2 (by decide) (by omega)]; exact e)
  · intro i hi
    by_cases c : i = j
    · rw [c, up_s, zup_s, hj']
    · rw [up_s, zup_n c, eJ i c]; exact j1 i hi
  · intro i h1 h2; rw [up_s, zup_n (by omega)]; exact j2 i h1 h2
  · intro i hi hs
    have c : i ≠ j := fun e => by rw [e, hj'] at hs; omega
    rw [eJ i c] at hs
    exact (j3 i hi hs).row (fun k => by rw [eJ i c]) (fun n _ _ => by rw [eR n (by omega)])
/-- both begin anew -/
theorem REL.init (hg : GG g) (hnp : g.2.1 = 2 ^ g.1) (hs : RS g ρ ∧ ρ 0 3 = σ 0 5) (hI : INI g σ σ') (hB : BEG ρ ρ') : REL g σ' ρ' [] := by
  obtain ⟨σ1, ⟨r1, r4, r3⟩, rfl⟩ := hI
  obtain ⟨b5, b4, b6, b12, b0, bR⟩ := hB
  have hr : ∀ n, n ≠ 0 → (up (up (up (iniJ (iniN (up σ1 8 2 0) g.2.2.1) g.2.2.2) 0 6 0) 0 7 0) 0 8 0) n = iniJ (iniN (up σ1 8 2 0) g.2.2.1) g.2.2.2 n := fun n hn => by rw [up_n hn, up_n hn, up_n hn]
  have e4 : (up (up (up (iniJ (iniN (up σ1 8 2 0) g.2.2.1) g.2.2.2) 0 6 0) 0 7 0) 0 8 0) 4 = σ1 4 := by
    rw [hr 4 (by decide)]; unfold iniJ; rw [if_neg (by omega)]; unfold iniN; rw [if_neg (by omega), up_n (by decide)]
  have u0 : ∀ x, x < g.2.2.1 → (up (up (up (iniJ (iniN (up σ1 8 2 0) g.2.2.1) g.2.2.2) 0 6 0) 0 7 0) 0 8 0) (10 + x) 0 = 0 := fun x hx => by
    rw [hr _ (by omega)]; unfold iniJ; rw [if_neg (by omega)]; unfold iniN; rw [if_pos (by omega), zup_s]
  have j0 : ∀ j, j < g.2.2.2 → (up (up (up (iniJ (iniN (up σ1 8 2 0) g.2.2.1) g.2.2.2) 0 6 0) 0 7 0) 0 8 0) (40 + j) 0 = -1 := fun j hj => by
    rw [hr _ (by omega)]; unfold iniJ; rw [if_pos (by omega), zup_n (by decide), zup_n (by decide), zup_s]
  have e0 : (up (up (up (iniJ (iniN (up σ1 8 2 0) g.2.2.1) g.2.2.2) 0 6 0) 0 7 0) 0 8 0) 0 = zup (zup (zup (σ 0) 6 0) 7 0) 8 0 := by
    rw [up_s, up_s, up_s]; unfold iniJ; rw [if_neg (by omega)]; unfold iniN; rw [if_neg (by omega), up_n (by omega), r1 _ (by omega) (by omega)]
  generalize up (up (up (iniJ (iniN (up σ1 8 2 0) g.2.2.1) g.2.2.2) 0 6 0) 0 7 0) 0 8 0 = τ at e4 u0 j0 e0 ⊢
  clear hr
  have hp : 2 ^ g.1 ≤ 2048 := by rw [← hnp]; exact hg.2.2.2.1
  refine ⟨⟨?_, ?_, ?_⟩, ?_, ?_, ⟨fun x hx => Or.inl (b6 x hx).2.1, fun x hx => ?_, fun x h1 h2 => (b6 x h2).1, fun x hx hu => ?_⟩, ⟨fun j hj => ?_, fun j h1 h2 => b12 j h2, fun j hj hs => ?_⟩, ⟨?_, by simp, fun k hk => absurd hk (Nat.not_lt_zero k)⟩⟩
  · unfold RS; rw [b0, zup_n (by decide), zup_n (by decide), zup_n (by decide), zup_n (by decide), zup_n (by decide), zup_n (by decide)]; exact hs.1
  · rw [b0, e0, zup_n (by decide), zup_n (by decide), zup_n (by decide), zup_n (by decide), zup_n (by decide)]; exact hs.2
  · rw [b0, e0, zup_s, zup_s]
  · intro a ha
    rw [e4, b5 a (by omega), r4 a (by omega), hs.1.1]
  · intro k hk; rw [b4 k hk]; decide
  · rw [(b6 x (by omega)).1, u0 x hx]
  · have := u0 x hx; omega
  · rw [b12 j (by omega), j0 j hj]
  · have := j0 j hj; omega
  · rw [b0, zup_n (by decide), zup_s]; rfl
end RL
