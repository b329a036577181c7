/-! REL IS KEPT: a job starts -/
section RL
variable {g : Nat × Nat × Nat × Nat} {σ σ' ρ ρ' : St} {q : List Int}
/-- a job begins in both -/
theorem REL.beg (h : REL g σ ρ q) (hg : GG g) {j x : Nat} (hj : j < g.2.2.2) (hx : x < g.2.2.1) (hs : σ (40 + j) 0 = 0)
    (hr : ∀ n, n ≠ 3 → n ≠ 4 → n ≠ 10 + x → n ≠ 40 + j → σ' n = σ n) (nx : ∀ k, k ≠ 1 → k ≠ 5 → σ' (10 + x) k = σ (10 + x) k) (n1 : σ' (10 + x) 1 = 1) (n5 : σ' (10 + x) 5 = 1) (jx : ∀ k, k ≠ 0 → k ≠ 5 → k ≠ 8 → σ' (40 + j) k = σ (40 + j) k) (j0 : σ' (40 + j) 0 = 1) (j5 : σ' (40 + j) 5 = x)
    (rr : ∀ n, n ≠ 5 → n ≠ 10 → n ≠ 11 → n ≠ 12 → n ≠ 18 → n ≠ 19 → n ≠ 20 → ρ' n = ρ n) (r10 : ρ' 10 = zup (ρ 10) x 1) (r11 : ρ' 11 = zup (ρ 11) x 1) (r12 : ρ' 12 = zup (ρ 12) j 1) (r18 : ρ' 18 = zup (ρ 18) j x) (r19 : ∀ i, i ≠ j → ρ' 19 i = ρ 19 i) (r20 : ∀ i, i ≠ j → ρ' 20 i = ρ 20 i) (hA : AG g.1 (σ' 4) (ρ' 5)) (hm : RRm σ' ρ' j) : REL g σ' ρ' q := by
  have s0 : 0 ≤ σ (40 + j) 0 := by omega
  obtain ⟨a1, a2, a3, ⟨m1, m2, m3, m4⟩, ⟨q1, q2, q3⟩, a6⟩ := h
  have e0 : σ' 0 = σ 0 := hr 0 (by decide) (by decide) (by omega) (by omega)
  have e2 : σ' 2 = σ 2 := hr 2 (by decide) (by decide) (by omega) (by omega)
  have eN : ∀ k, k < g.2.2.1 → k ≠ x → σ' (10 + k) = σ (10 + k) := fun k hk c => hr _ (by omega) (by omega) (by omega) (by omega)
  have eJ : ∀ i, i ≠ j → σ' (40 + i) = σ (40 + i) := fun i c => hr _ (by omega) (by omega) (by omega) (by omega)
  have R : ∀ n, (n < 5 ∨ n = 6 ∨ n = 7 ∨ n = 8 ∨ n = 9 ∨ (12 < n ∧ n < 18) ∨ 20 < n) → ρ' n = ρ n := fun n hn => rr n (by omega) (by omega) (by omega) (by omega) (by omega) (by omega) (by omega)
  refine ⟨?_, hA, ?_, ⟨?_, ?_, ?_, ?_⟩, ⟨?_, ?_, ?_⟩, a6.row (by rw [R 0 (by omega)]) (R 21 (by omega))⟩
  · unfold RS; rw [R 0 (by omega), e0]; exact a1
  · intro k hk; rw [R 4 (by omega)]; exact a3 k hk
  · intro y hy
    rw [r11]
    by_cases c : y = x
    · rw [c, zup_s]; exact Or.inr rfl
    · rw [zup_n c]; exact m1 y hy
  · intro y hy
    rw [R 6 (by omega)]
    by_cases c : y = x
    · rw [c, nx 0 (by decide) (by decide)]; exact m2 x hx
    · rw [eN y hy c]; exact m2 y hy
  · rw [R 6 (by omega)]; exact m3
  · intro y hy hu
    by_cases c : y = x
    · subst c
      rw [nx 0 (by decide) (by decide)] at hu
      obtain ⟨t1, t2, t3, t4, t5, t6⟩ := m4 y hy hu
      unfold RNm
      rw [nx 2 (by decide) (by decide), nx 3 (by decide) (by decide), nx 4 (by decide) (by decide), n1, n5, R 7 (by omega), R 8 (by omega), R 9 (by omega), r10, r11, zup_s, zup_s, R 4 (by omega), e2]
      exact ⟨t1, t2, t3, rfl, rfl, t6⟩
    · rw [eN y hy c] at hu
      refine (m4 y hy hu).row (fun k _ _ => by rw [eN y hy c]) (fun n k1 k2 => ?_) (fun i _ e => by rw [R 4 (by omega), e2]; exact e)
      by_cases d : n = 10
      · rw [d, r10, zup_n c]
      · by_cases d2 : n = 11
        · rw [d2, r11, zup_n c]
        · rw [R n (by omega)]
  · intro i hi
    rw [r12]
    by_cases c : i = j
    · rw [c, zup_s, j0]
    · rw [zup_n c, eJ i c]; exact q1 i hi
  · intro i h1 h2; rw [r12, zup_n (by omega)]; exact q2 i h1 h2
  · intro i hi hsi
    by_cases c : i = j
    · subst c
      obtain ⟨b1, b2, b3⟩ := q3 i hi s0
      obtain ⟨d1, d2, d3, d4, d5⟩ := b3 (by omega)
      refine ⟨by rw [r18, zup_s, j5], hm, fun _ => ⟨?_, ?_, ?_, ?_, ?_⟩⟩
      · rw [R 13 (by omega), jx 1 (by decide) (by decide) (by decide)]; exact d1
      · rw [R 14 (by omega), jx 2 (by decide) (by decide) (by decide)]; exact d2
      · rw [R 15 (by omega), jx 3 (by decide) (by decide) (by decide)]; exact d3
      · rw [R 16 (by omega), jx 4 (by decide) (by decide) (by decide)]; exact d4
      · rw [R 17 (by omega), jx 10 (by decide) (by decide) (by decide)]; exact d5
    · rw [eJ i c] at hsi
      refine (q3 i hi hsi).row (fun k => by rw [eJ i c]) (fun n k1 k2 => ?_)
      by_cases d : n = 18
      · rw [d, r18, zup_n c]
      · by_cases d2 : n = 19
        · rw [d2]; exact r19 i c
        · by_cases d3 : n = 20
          · rw [d3]; exact r20 i c
          · rw [R n (by omega)]
/-- the rows of the reference's begin -/
theorem stF_10 (ρ : St) (x j : Nat) : stF ρ x j 10 = zup (ρ 10) x 1 := by unfold stF; rw [up_n (by decide), up_n (by decide), up_s, up_n (by decide)]
theorem stF_11 (ρ : St) (x j : Nat) : stF ρ x j 11 = zup (ρ 11) x 1 := by unfold stF; rw [up_n (by decide), up_n (by decide), up_n (by decide), up_s]
theorem stF_12 (ρ : St) (x j : Nat) : stF ρ x j 12 = zup (ρ 12) j 1 := by unfold stF; rw [up_s, up_n (by decide), up_n (by decide), up_n (by decide)]
theorem stF_18 (ρ : St) (x j : Nat) : stF ρ x j 18 = zup (ρ 18) j x := by unfold stF; rw [up_n (by decide), up_s, up_n (by decide), up_n (by decide)]
theorem MAK_ext {ρ ρ' : St} {x n A o k : Nat} (h4 : ρ' 4 = ρ 4) (hk : ρ' k = ρ k) : MAK ρ' x n A o k = MAK ρ x n A o k := by
  unfold MAK
  by_cases c : k = 4
  · rw [c, upr_s, upr_s, h4]
  · rw [upr_n c, upr_n c]
    have : ∀ (f f' : St) (a b c : Nat) (z : Int), f a = f' a → up f b c z a = up f' b c z a := fun f f' a b c z e => by
      by_cases d : a = b
      · subst d; rw [up_s, up_s, e]
      · rw [up_n d, up_n d, e]
    unfold mkF
    exact this _ _ _ _ _ _ (this _ _ _ _ _ _ (this _ _ _ _ _ _ (this _ _ _ _ _ _ (this _ _ _ _ _ _ (this _ _ _ _ _ _ hk)))))
theorem REL.start (h : REL g σ ρ q) (hI : IN g σ) (hg : GG g) (hnp : g.2.1 = 2 ^ g.1) {j n o : Nat} {n' room : Int} (hj : j < g.2.2.2) (hs : σ (40 + j) 0 = 0) (hn' : n' = n) (hon : ordP n o) (hon17 : o ≤ 17) (hrm : rmP room (σ (40 + j) 9)) (hroom : 0 ≤ room) (hA : STA g σ σ' j n o) (hR : STR g ρ ρ' j n' room) : REL g σ' ρ' q := by
  subst hn'
  have u6 := h.u6
  have hMr : MI g.1 (ρ 5) := h.ag.mi hg.2.1 hI.mi
  have hJ := hI.jq j hj (Or.inl hs)
  rcases hA with ⟨rfl, hno⟩ | ⟨hcg, x, A, σ1, σ2, ⟨hx, hu, hl⟩, hv, hAn, hO, hcase⟩
  · -- nothing happens in the class
    rcases hR with ⟨-, rfl⟩ | ⟨x, o', hx, hu, hl, ho', -, ⟨-, rfl⟩ | ⟨hog, r, ρ1, hv', ⟨-, rfl⟩ | ⟨A, rfl, hR⟩⟩⟩
    · exact h
    · exact h
    · exact h
    · obtain rfl := ord_u hon ho'
      have hcg : ¬ cgP σ g.1 o (σ (40 + j) 9) := by
        rcases hno with c | c
        · exact absurd (by rw [← u6 x hx]; exact hu) (c x hx)
        · exact c
      have hv0 := hv'
      rcases hv' with ⟨e, -⟩ | ⟨a, d, e, ha, hf, hmin, hfst, rfl⟩
      · omega
      obtain rfl : A = a := by omega
      have hag : ∀ b, b < g.2.1 → ρ 5 b = σ 4 b := fun b hb => h.ag b (by omega)
      have hiff := cg_iff hnp hI.mi hI.cn (k := o) (a := A) (d := d) (k2 := σ (40 + j) 9) ha (by rw [← hag A ha]; exact hf) (fun b hb hb2 => by rw [← hag b hb]; exact hmin b hb (by rw [hag b hb]; exact hb2)) (by rcases hrm with ⟨-, e⟩ | ⟨-, r, e, -⟩ <;> omega)
      have hspl : AG g.1 (splF (zup (σ 4) A (-1)) A o d) (splF (zup (ρ 5) A (-1)) A o d) := (h.ag.z _ _).spl
      rcases hR with ⟨e0, -⟩ | ⟨hpos, o2, ho2, -, ⟨hf2, rfl⟩ | ⟨hog2, b, ρ2, hv2, -⟩⟩
      · exfalso
        apply hcg
        rw [hiff]
        rcases hrm with ⟨-, e⟩ | ⟨e, -⟩
        · exact Or.inl e
        · exact absurd e0 e
      · -- both were tried: the first goes back
        have : upr (upr ρ 5 (splF (zup (ρ 5) A (-1)) A o d)) 5 (jnF g.1 12 (upr ρ 5 (splF (zup (ρ 5) A (-1)) A o d) 5) A o) = ρ := by
          rw [upr_s, give_back hg.2.1 hMr (by omega) (by omega) hf]
          funext k
          by_cases c : k = 5
          · rw [c, upr_s]
          · rw [upr_n c, upr_n c]
        rw [this]; exact h
      · exfalso
        apply hcg
        rw [hiff]
        refine Or.inr ?_
        rcases hrm with ⟨e, -⟩ | ⟨-, r2, e9, hr2, -⟩
        · omega
        · obtain rfl := ord_u ho2 hr2
          rcases hv2 with ⟨e, -⟩ | ⟨b', d', e, hb', hf', -⟩
          · omega
          · rw [upr_s] at hf'
            refine ⟨b', hb', ?_⟩
            rw [← hspl b' (by omega), hf', e9]; omega
  · -- it starts in the class
    obtain ⟨m1, m2, m3, m4, m5⟩ := hv.mi hg.2.1 hnp hI.mi
    have hkd : o ≤ g.1 := m2.lt.2
    rcases hR with ⟨c, -⟩ | ⟨x', o', hx', hu', hl', ho', -, ⟨c, -⟩ | ⟨-, r, ρ1, hv', ⟨c, -⟩ | ⟨A', rfl, hR⟩⟩⟩
    · exact absurd (by rw [u6 x hx]; exact hu) (c x hx)
    · obtain rfl := ord_u hon ho'
      exact absurd hkd c
    · obtain rfl := ord_u hon ho'
      have := (give_eq hnp h.ag hv hv').1
      omega
    obtain rfl := ord_u hon ho'
    obtain rfl : x = x' := by
      rcases Nat.lt_trichotomy x x' with c | c | c
      · exact absurd (by rw [u6 x hx]; exact hu) (hl' x c)
      · exact c
      · exact absurd (by rw [← u6 x' hx']; exact hu') (hl x' c)
    obtain ⟨e, hAG1⟩ := give_eq hnp h.ag hv hv'
    obtain rfl : A = A' := by omega
    have hP := hg.2.2.2.1
    have h2 := h.occ hI hg hnp hx hu hv hv' hO (by omega)
    have hO0 := hO
    obtain ⟨o0, o1, o2', o3, o4, o5, e2, e0, hr⟩ := hO
    have eJ : ∀ k, σ2 (40 + k) = σ (40 + k) := fun k => by rw [hr _ (by omega) (by omega) (by omega), m5 _ (by omega) (by omega)]
    have e24 : σ2 4 = σ1 4 := hr 4 (by decide) (by decide) (by omega)
    have hr8 : σ (40 + j) 8 = -1 := by
      obtain ⟨_, _, _, _, _, _, hJ⟩ := hJ
      rcases hJ.2.2.2.2.2.2.2.2 with ⟨-, -, c⟩ | ⟨c, -⟩
      · exact c
      · omega
    have hb2 := (h.jb j hj (by omega)).2.1
    have hρ20 : ρ 20 j = -1 := by
      rcases hb2 with ⟨-, c⟩ | ⟨c, -⟩
      · exact c
      · omega
    rw [Int.toNat_natCast] at hR
    rcases hcase with ⟨e9, rfl⟩ | ⟨p2, r2, σ4, e9, hv2, rfl⟩
    · -- without a ROOM
      have hroom0 : room = 0 := by
        rcases hrm with ⟨c, -⟩ | ⟨-, r, c, -⟩
        · exact c
        · omega
      rcases hR with ⟨-, rfl⟩ | ⟨c, -⟩
      · have R : ∀ k, k ≠ 10 → k ≠ 11 → k ≠ 12 → k ≠ 18 → stF (MAK ρ1 x n A o) x j k = MAK ρ1 x n A o k := fun k h1 h2 h3 h4 => stF.row h1 h2 h3 h4
        refine h2.beg hg hj hx (by rw [eJ]; exact hs) (fun k k3 k4 kx kj => ?_) (fun k k1 k5 => ?_) ?_ ?_ (fun k k0 k5 k8 => ?_) ?_ ?_ (fun k k5 k10 k11 k12 k18 k19 k20 => R k k10 k11 k12 k18) (stF_10 _ _ _) (stF_11 _ _ _) (stF_12 _ _ _) (stF_18 _ _ _) (fun i _ => by rw [R 19 (by decide) (by decide) (by decide) (by decide)]) (fun i _ => by rw [R 20 (by decide) (by decide) (by decide) (by decide)]) ?_ ?_
        · rw [up_n kj, up_n kj, up_n kx, up_n kx]
        · rw [up_n (by omega), up_n (by omega), up_s, zup_n k5, up_s, zup_n k1]
        · rw [up_n (by omega), up_n (by omega), up_s, zup_n (by decide), up_s, zup_s]
        · rw [up_n (by omega), up_n (by omega), up_s, zup_s]
        · rw [up_s, zup_n k0, up_s, zup_n k5, up_n (by omega), up_n (by omega)]
        · rw [up_s, zup_s]
        · rw [up_s, zup_n (by decide), up_s, zup_s]
        · rw [up_n (by omega), up_n (by omega), up_n (by omega), up_n (by omega), R 5 (by decide) (by decide) (by decide) (by decide)]; exact h2.ag
        · refine Or.inl ⟨?_, ?_⟩
          · rw [up_s, zup_n (by decide), up_s, zup_n (by decide), up_n (by omega), up_n (by omega), eJ]; exact hr8
          · rw [R 20 (by decide) (by decide) (by decide) (by decide), MAK.row (by decide) (by decide) (by decide) (by decide) (by decide) (by decide) (by decide), hv'.row (by decide)]; exact hρ20
      · omega
    · -- with a ROOM
      have hpos : room ≠ 0 := by
        rcases hrm with ⟨-, c⟩ | ⟨c, -⟩
        · omega
        · exact c
      have w : ∀ k, k ≠ 10 + x → k ≠ 40 + j → (up (up (up σ2 (10 + x) 1 1) (10 + x) 5 1) (40 + j) 5 (x : Int)) k = σ2 k := fun n h1 h2 => by rw [up_n h2, up_n h1, up_n h1]
      have wx : (up (up (up σ2 (10 + x) 1 1) (10 + x) 5 1) (40 + j) 5 (x : Int)) (10 + x) = zup (zup (σ2 (10 + x)) 1 1) 5 1 := by rw [up_n (by omega), up_s, up_s]
      have wj : (up (up (up σ2 (10 + x) 1 1) (10 + x) 5 1) (40 + j) 5 (x : Int)) (40 + j) = zup (σ2 (40 + j)) 5 (x : Int) := by rw [up_s, up_n (by omega), up_n (by omega)]
      generalize up (up (up σ2 (10 + x) 1 1) (10 + x) 5 1) (40 + j) 5 (x : Int) = σ3 at hv2 w wx wj
      have w4 : σ3 4 = σ1 4 := by rw [w 4 (by omega) (by omega), e24]
      have hM3 : MI g.1 (σ3 4) := by rw [w4]; exact m1
      -- the second can be given
      have hex : ∃ b, b < g.2.1 ∧ (p2 : Int) ≤ σ1 4 b := by
        rcases hv with ⟨e, -⟩ | ⟨a', d', e, ha', hf', hmin', -, e4', -, -⟩
        · omega
        · rw [e9] at hcg
          rcases (cg_iff hnp hI.mi hI.cn ha' hf' hmin' (by omega)).mp hcg with c | ⟨y, y1, y2⟩
          · omega
          · exact ⟨y, y1, by rw [e4']; exact y2⟩
      obtain ⟨y, y1, y2⟩ := hex
      obtain ⟨B, hB⟩ : ∃ B : Nat, r2 = B := by
        rcases hv2 with ⟨-, -, hno⟩ | ⟨B, d, e, -⟩
        · exact absurd (by rw [w4]; exact y2) (hno y y1)
        · exact ⟨B, e⟩
      subst hB
      obtain ⟨k1, k2, k3, k4, k5⟩ := hv2.mi hg.2.1 hnp hM3
      have hyg := (m1.1 y (by omega)).2
      rcases hR with ⟨c, -⟩ | ⟨-, o2, ho2, -, ⟨hf2, -⟩ | ⟨-, b, ρ2, hv2', rfl⟩⟩
      · exact absurd c hpos
      · exfalso
        obtain rfl : o2 = p2 := by
          rcases hrm with ⟨c, -⟩ | ⟨-, r, c, hr2, -⟩
          · exact absurd c hpos
          · have := ord_u ho2 hr2; omega
        rcases hf2 with c | c
        · omega
        · exact c y y1 (by rw [hAG1 y (by omega)]; exact y2)
      · obtain rfl : o2 = p2 := by
          rcases hrm with ⟨c, -⟩ | ⟨-, r, c, hr2, -⟩
          · exact absurd c hpos
          · have := ord_u ho2 hr2; omega
        obtain ⟨eb, hAG2⟩ := give_eq hnp (σ := σ3) (ρ := ρ1) (by rw [w4]; exact hAG1) hv2 hv2'
        obtain rfl : B = b := by omega
        have t : ∀ k, k ≠ 5 → k ≠ 19 → k ≠ 20 → (up (up ρ2 19 j (B : Int)) 20 j (o2 : Int)) k = ρ1 k := fun k h5 h19 h20 => by rw [up_n h20, up_n h19, hv2'.row h5]
        have M : ∀ k, k ≠ 5 → k ≠ 19 → k ≠ 20 → MAK (up (up ρ2 19 j (B : Int)) 20 j (o2 : Int)) x n A o k = MAK ρ1 x n A o k := fun k h5 h19 h20 => MAK_ext (t 4 (by decide) (by decide) (by decide)) (t k h5 h19 h20)
        have R : ∀ k, k ≠ 10 → k ≠ 11 → k ≠ 12 → k ≠ 18 → stF (MAK (up (up ρ2 19 j (B : Int)) 20 j (o2 : Int)) x n A o) x j k = MAK (up (up ρ2 19 j (B : Int)) 20 j (o2 : Int)) x n A o k := fun k h1 h2 h3 h4 => stF.row h1 h2 h3 h4
        have M19 : ∀ i, MAK (up (up ρ2 19 j (B : Int)) 20 j (o2 : Int)) x n A o 19 i = zup (ρ1 19) j B i := fun i => by rw [MAK.row (by decide) (by decide) (by decide) (by decide) (by decide) (by decide) (by decide), up_n (by decide), up_s, hv2'.row (by decide)]
        have M20 : ∀ i, MAK (up (up ρ2 19 j (B : Int)) 20 j (o2 : Int)) x n A o 20 i = zup (ρ1 20) j o2 i := fun i => by rw [MAK.row (by decide) (by decide) (by decide) (by decide) (by decide) (by decide) (by decide), up_s, up_n (by decide), hv2'.row (by decide)]
        have M5 : MAK (up (up ρ2 19 j (B : Int)) 20 j (o2 : Int)) x n A o 5 = ρ2 5 := by rw [MAK.row (by decide) (by decide) (by decide) (by decide) (by decide) (by decide) (by decide), up_n (by decide), up_n (by decide)]
        have Mo : ∀ k, k = 19 ∨ k = 20 → MAK ρ1 x n A o k = ρ1 k := fun k hk => MAK.row (by omega) (by omega) (by omega) (by omega) (by omega) (by omega) (by omega)
        refine h2.beg hg hj hx (by rw [eJ]; exact hs) (fun k k3 k4 kx kj => ?_) (fun k i1 i5 => ?_) ?_ ?_ (fun k i0 i5 i8 => ?_) ?_ ?_ (fun k k5 k10 k11 k12 k18 k19 k20 => by rw [R k k10 k11 k12 k18, M k k5 k19 k20]) (by rw [stF_10, M 10 (by decide) (by decide) (by decide)]) (by rw [stF_11, M 11 (by decide) (by decide) (by decide)]) (by rw [stF_12, M 12 (by decide) (by decide) (by decide)]) (by rw [stF_18, M 18 (by decide) (by decide) (by decide)]) (fun i hi => by rw [R 19 (by decide) (by decide) (by decide) (by decide), M19, zup_n hi, Mo 19 (Or.inl rfl)]) (fun i hi => by rw [R 20 (by decide) (by decide) (by decide) (by decide), M20, zup_n hi, Mo 20 (Or.inr rfl)]) ?_ ?_
        · rw [up_n kj, up_n kj, k5 _ k3 k4, w _ kx kj]
        · rw [up_n (by omega), up_n (by omega), k5 _ (by omega) (by omega), wx, zup_n i5, zup_n i1]
        · rw [up_n (by omega), up_n (by omega), k5 _ (by omega) (by omega), wx, zup_n (by decide), zup_s]
        · rw [up_n (by omega), up_n (by omega), k5 _ (by omega) (by omega), wx, zup_s]
        · rw [up_s, zup_n i0, up_s, zup_n i8, k5 _ (by omega) (by omega), wj, zup_n i5]
        · rw [up_s, zup_s]
        · rw [up_s, zup_n (by decide), up_s, zup_n (by decide), k5 _ (by omega) (by omega), wj, zup_s]
        · rw [up_n (by omega), up_n (by omega), R 5 (by decide) (by decide) (by decide) (by decide), M5]; exact hAG2
        · have q8 : (up (up σ4 (40 + j) 8 (B : Int)) (40 + j) 0 1) (40 + j) 8 = B := by rw [up_s, zup_n (by decide), up_s, zup_s]
          have q9 : (up (up σ4 (40 + j) 8 (B : Int)) (40 + j) 0 1) (40 + j) 9 = o2 := by rw [up_s, zup_n (by decide), up_s, zup_n (by decide), k5 _ (by omega) (by omega), wj, zup_n (by decide), eJ]; exact e9
          refine Or.inr ⟨by rw [q8]; omega, ?_, ?_⟩
          · rw [R 19 (by decide) (by decide) (by decide) (by decide), M19, zup_s, q8]
          · rw [R 20 (by decide) (by decide) (by decide) (by decide), M20, zup_s, q9]
end RL
