/-! REL IS KEPT: a turn -/
section RL
variable {g : Nat × Nat × Nat × Nat} {σ σ' ρ ρ' : St} {q : List Int}
theorem bp_le {a b : Nat} (h : a ≤ b) : (2147483648 : Int) ^ a ≤ 2147483648 ^ b := by
  induction b with
  | zero => rw [show a = 0 by omega]; exact Int.le_refl _
  | succ b ih =>
    by_cases c : a = b + 1
    · rw [c]; exact Int.le_refl _
    · have h1 := ih (by omega)
      have h2 := bp_pos b
      rw [bp_s]; omega
theorem bp_add (a : Nat) : ∀ b : Nat, (2147483648 : Int) ^ (a + b) = 2147483648 ^ a * 2147483648 ^ b
  | 0 => by rw [Nat.add_zero, show (2147483648 : Int) ^ 0 = 1 from rfl, Int.mul_one]
  | b + 1 => by rw [show a + (b + 1) = (a + b) + 1 by omega, bp_s, bp_add a b, bp_s, Int.mul_assoc]
theorem opV_fit {op x y z : Int} {na nb nm nr : Nat} (ho : 0 ≤ op ∧ op ≤ 3) (hx : 0 ≤ x ∧ x < 2147483648 ^ na) (hy : 0 ≤ y ∧ y < 2147483648 ^ nb) (hz : op = 3 → 0 < z ∧ z < 2147483648 ^ nm) (h1 : op = 1 → 0 < y) (hn : (nr : Int) = plL op na nb nm) : opV op x y z < 2147483648 ^ nr := by
  rcases (show op = 0 ∨ op = 1 ∨ op = 2 ∨ op = 3 by omega) with e | e | e | e
  · subst e
    have e1 : nr = na + nb := by rw [plL_0] at hn; omega
    show x * y < _
    rw [e1, bp_add]
    have := bp_pos nb
    have h2 : x * y ≤ x * 2147483648 ^ nb := Int.mul_le_mul_of_nonneg_left (by omega) hx.1
    have h3 : x * 2147483648 ^ nb < 2147483648 ^ na * 2147483648 ^ nb := Int.mul_lt_mul_of_pos_right hx.2 this
    exact Int.lt_of_le_of_lt h2 h3
  · subst e
    have e1 : nr = na := by rw [plL_1] at hn; omega
    show x / y < _
    rw [e1]
    have := Int.ediv_le_self y hx.1
    omega
  · subst e
    have e1 : nr = max na nb := by rw [plL_2] at hn; omega
    show gd x y < _
    rw [e1]
    have a1 := bp_le (Nat.le_max_left na nb)
    have a2 := bp_le (Nat.le_max_right na nb)
    unfold gd
    by_cases c : x.toNat = 0
    · rw [c, Nat.gcd_zero_left]; omega
    · have := Nat.gcd_le_left y.toNat (show 0 < x.toNat by omega)
      omega
  · subst e
    have e1 : nr = nm := by rw [plL_3] at hn; omega
    show x ^ y.toNat % z < _
    rw [e1]
    obtain ⟨z1, z2⟩ := hz rfl
    have := Int.emod_lt_of_pos (x ^ y.toNat) z1
    omega
theorem RNm.nv {x A n : Nat} (h : RNm σ ρ x) (hA : σ (10 + x) 3 = A) (hn : σ (10 + x) 2 = n) : nv (ρ 4) A n = nv (σ 2) A n := by
  have := h.2.2.2.2.2
  rw [hA, hn, Int.toNat_natCast, Int.toNat_natCast] at this
  exact nv_ext this
/-- a job that runs, in the reference -/
theorem RKr.of (h : REL g σ ρ q) (hI : IN g σ) (hg : GG g) (hnp : g.2.1 = 2 ^ g.1) {j : Nat} (hj : j < g.2.2.2) (hs : σ (40 + j) 0 = 1) : ∃ a b m h Aa na Ab nb Am nm Ar nr : Nat, RKr ρ j a b m h Aa na Ab nb Am nm Ar nr := by
  obtain ⟨a, b, m, sa, sb, sm, r, Aa, Ab, Am, Ar, hJ, e5, hR, hK⟩ := hI.run hg hnp hj hs
  obtain ⟨b1, b2, b3⟩ := h.jb j hj (by omega)
  obtain ⟨d1, d2, d3, d4, -⟩ := b3 (by omega)
  obtain ⟨ho, e2, e3, fa, fb, hm, -⟩ := hJ
  obtain ⟨-, -, -, ⟨la, ka, ka2, ka3⟩, ⟨lb, kb, kb2, kb3⟩, ⟨lr, kr, kr2, kr3⟩, -, -, -, -, enr, hK3, hK1, -⟩ := hK
  have hp : 2 ^ g.1 ≤ 2048 := by rw [← hnp]; exact hg.2.2.2.1
  have hH := hg.2.2.2.2.2.1
  have hP := hg.2.2.2.1
  have na := h.nm a la fa.2.1
  have nb := h.nm b lb fb.2.1
  have nr := h.nm r lr hR.2.1
  have vb := nb.nv kb kb2
  have va := na.nv ka ka2
  have hm24 : m < 24 := by
    rcases hm with ⟨-, -, fm, -⟩ | ⟨-, -, -, e⟩
    · have := fm.1; omega
    · omega
  have lim : ∀ {A s : Nat}, A + s ≤ g.2.1 → lim (σ 2) A s := fun hA i hi => hI.lm _ (by omega)
  refine ⟨a, b, m, r, Aa, sa, Ab, sb, Am, sm, Ar, (plL (σ (40 + j) 1) sa sb sm).toNat, by rw [d1]; exact ho, by omega, by omega, by omega, ⟨by omega, by omega, hm24, by omega⟩, ⟨by have := na.2.1; omega, by have := na.1; omega, by omega⟩, ⟨by have := nb.2.1; omega, by have := nb.1; omega, by omega⟩, ⟨by have := nr.2.1; omega, by have := nr.1; omega, by omega⟩, ?_, ?_, ?_, ?_, ?_⟩
  · rw [d1, d4]
    rcases hm with ⟨x1, x2, fm, -⟩ | ⟨x1, x2, -⟩
    · obtain ⟨-, ⟨lm, km, km2, km3⟩, -, y4⟩ := hK3 x1
      have nm := h.nm m lm fm.2.1
      exact Or.inl ⟨x1, x2, by have := nm.2.1; omega, by have := nm.1; omega, by omega, by rw [nm.nv km km2]; omega⟩
    · exact Or.inr ⟨x1, x2⟩
  · rw [d1, vb]; intro e; have := hK1 e; omega
  · rw [d1]; intro e; rw [e, plL_0]; omega
  · rw [d1]; intro e; rw [e, plL_1]; omega
  · rw [d1, va, vb]
    have hz : σ (40 + j) 1 = 3 → (0 < nv (ρ 4) Am sm ∧ nv (ρ 4) Am sm < 2147483648 ^ sm) := fun e => by
      obtain ⟨-, ⟨lm, km, km2, km3⟩, -, y4⟩ := hK3 e
      rcases hm with ⟨x1, x2, fm, -⟩ | ⟨x1, -⟩
      · have nm := h.nm m lm fm.2.1
        rw [nm.nv km km2]
        exact ⟨y4, nv_lt (lim km3)⟩
      · exact absurd e x1
    exact opV_fit ho ⟨nv_ge (lim ka3), nv_lt (lim ka3)⟩ ⟨nv_ge (lim kb3), nv_lt (lim kb3)⟩ hz hK1 enr
theorem JFr.of (h : REL g σ ρ q) (hI : IN g σ) (hg : GG g) (hnp : g.2.1 = 2 ^ g.1) {j : Nat} (hj : j < g.2.2.2) (hs : qd σ j) : ∃ a b m sa sb sm : Nat, JFr ρ j a b m sa sb sm ∧ JQ g σ j a b m sa sb sm := by
  obtain ⟨a, b, m, sa, sb, sm, hJ⟩ := hI.jq j hj hs
  have hJ0 := hJ
  obtain ⟨b1, b2, b3⟩ := h.jb j hj (by unfold qd at hs; omega)
  obtain ⟨d1, d2, d3, d4, -⟩ := b3 (by unfold qd at hs; omega)
  obtain ⟨ho, e2, e3, fa, fb, hm, -⟩ := hJ
  have hH := hg.2.2.2.2.2.1
  have na := (h.nm a fa.1 fa.2.1).1
  have nb := (h.nm b fb.1 fb.2.1).1
  have hsz : ∀ {x s : Nat}, FN g σ x s → s ≤ 2048 := fun hF => by
    obtain ⟨A, n, o, c1, c2, -, -, -, -, -, ⟨-, -, -, c6⟩, -⟩ := hI.num hnp hF.1 hF.2.1
    have := hF.2.2.2
    have := hg.2.2.2.1
    omega
  have l1 := fa.1
  have l2 := fb.1
  have z1 := fa.2.2.2
  have z2 := fb.2.2.2
  have hmm : m < 24 ∧ sm ≤ 2048 ∧ ((ρ 13 j = 3 ∧ ρ 16 j = m ∧ ρ 7 m = sm) ∨ (ρ 13 j ≠ 3 ∧ ρ 16 j = -1 ∧ sm = 0)) := by
    rcases hm with ⟨x1, x2, fm, -⟩ | ⟨x1, x2, x3, x4⟩
    · have nm := (h.nm m fm.1 fm.2.1).1
      have l3 := fm.1
      have z3 := fm.2.2.2
      exact ⟨by omega, hsz fm, Or.inl ⟨by omega, by omega, by omega⟩⟩
    · exact ⟨by omega, by omega, Or.inr ⟨by omega, by omega, x3⟩⟩
  exact ⟨a, b, m, sa, sb, sm, ⟨by rw [d1]; exact ho, ⟨by omega, by omega, hmm.1, hsz fa, hsz fb, hmm.2.1⟩, by omega, by omega, by omega, by omega, hmm.2.2⟩, hJ0⟩
theorem TPr.of (h : REL g σ ρ q) (hI : INV g σ q) (hg : GG g) (hnp : g.2.1 = 2 ^ g.1) : TPr g ρ q := by
  refine ⟨h.rs, h.rf hI.1, h.lm, h.ag.mi hg.2.1 hI.1.mi, h.ql, hI.qr hg, by rw [h.1.2.1]; exact hI.1.qu, fun x q' e => ?_⟩
  obtain ⟨j, rfl, hj, hq⟩ := hI.2.2.2.1 x (by rw [e]; exact List.mem_cons_self)
  have hJ12 := hg.2.2.2.2.2.2.2
  refine ⟨j, rfl, by omega, ?_⟩
  have hs := h.st j hj
  rcases hq with s0 | s1
  · obtain ⟨a, b, m, sa, sb, sm, hJ, -⟩ := JFr.of h hI.1 hg hnp hj (Or.inl s0)
    exact Or.inl ⟨by omega, a, b, m, sa, sb, sm, hJ, plL_ge _ _ _ _⟩
  · refine Or.inr ⟨by omega, ?_, RKr.of h hI.1 hg hnp hj s1, ?_⟩
    · obtain ⟨_, _, _, _, _, _, hJ⟩ := hI.1.jq j hj (Or.inr s1)
      have hw := hJ.2.2.2.2.2.2.2.1.2.2.2
      have := ((h.jb j hj (by omega)).2.2 (by omega)).2.2.2.2
      omega
    · have b2 := (h.jb j hj (by omega)).2.1
      rcases hI.1.rm hj with c | ⟨r, o, c1, c2, hB, -⟩
      · rcases b2 with ⟨-, x⟩ | ⟨x, -⟩
        · exact Or.inl x
        · omega
      · rcases b2 with ⟨x, -⟩ | ⟨x1, x2, x3⟩
        · omega
        · have hB' := h.ag.hb hB
          exact Or.inr ⟨r, o, by omega, by omega, hB'.lt.2, hB'.1, hB'.2.1, hB'.2.2.1⟩
/-- the queue and the count of turns alone -/
theorem REL.queue (h : REL g σ ρ q) {q1 : List Int} (hr : ∀ n, n ≠ 0 → n ≠ 8 → n ≠ 9 → σ' n = σ n) (h5 : σ' 0 5 = σ 0 5) (rr : ∀ n, n ≠ 0 → n ≠ 21 → ρ' n = ρ n) (r0 : ∀ k, k < 4 → ρ' 0 k = ρ 0 k) (ht : ρ' 0 23 = σ' 0 8) (hQ : QL ρ' q1) : REL g σ' ρ' q1 := by
  obtain ⟨⟨a1, a1', a1''⟩, a2, a3, ⟨n1, n2, n3, n4⟩, ⟨q1, q2, q3⟩, -⟩ := h
  have eN : ∀ k, σ' (10 + k) = σ (10 + k) := fun k => hr _ (by omega) (by omega) (by omega)
  have eJ : ∀ k, σ' (40 + k) = σ (40 + k) := fun k => hr _ (by omega) (by omega) (by omega)
  refine ⟨⟨⟨by rw [r0 0 (by decide)]; exact a1.1, by rw [r0 1 (by decide)]; exact a1.2.1, by rw [r0 2 (by decide)]; exact a1.2.2⟩, by rw [r0 3 (by decide), h5]; exact a1', ht⟩, ?_, ?_, ⟨?_, ?_, ?_, ?_⟩, ⟨?_, ?_, ?_⟩, hQ⟩
  · rw [rr 5 (by decide) (by decide), hr 4 (by decide) (by decide) (by decide)]; exact a2
  · intro k hk; rw [rr 4 (by decide) (by decide)]; exact a3 k hk
  · rw [rr 11 (by decide) (by decide)]; exact n1
  · intro y hy; rw [rr 6 (by decide) (by decide), eN]; exact n2 y hy
  · rw [rr 6 (by decide) (by decide)]; exact n3
  · intro y hy hu
    rw [eN] at hu
    exact (n4 y hy hu).row (fun k _ _ => by rw [eN]) (fun n _ _ => by rw [rr n (by omega) (by omega)]) (fun i _ e => by rw [rr 4 (by decide) (by decide), hr 2 (by decide) (by decide) (by decide)]; exact e)
  · intro i hi; rw [rr 12 (by decide) (by decide), eJ]; exact q1 i hi
  · rw [rr 12 (by decide) (by decide)]; exact q2
  · intro i hi hs
    rw [eJ] at hs
    exact (q3 i hi hs).row (fun k => by rw [eJ]) (fun n _ _ => by rw [rr n (by omega) (by omega)])
theorem REL.work (h : REL g σ ρ q) {j : Nat} {w : Int} (hg : GG g) : REL g (up σ (40 + j) 10 w) (up ρ 17 j w) q := by
  obtain ⟨a1, a2, a3, ⟨n1, n2, n3, n4⟩, ⟨q1, q2, q3⟩, a6⟩ := h
  have eN : ∀ k, k < g.2.2.1 → up σ (40 + j) 10 w (10 + k) = σ (10 + k) := fun k hk => up_n (by omega)
  have eJ : ∀ i k, k ≠ 10 → up σ (40 + j) 10 w (40 + i) k = σ (40 + i) k := fun i k hk => by
    by_cases c : i = j
    · rw [c, up_s, zup_n hk]
    · rw [up_n (by omega)]
  have eR : ∀ n, n ≠ 17 → up ρ 17 j w n = ρ n := fun n hn => up_n hn
  refine ⟨?_, ?_, ?_, ⟨?_, ?_, ?_, ?_⟩, ⟨?_, ?_, ?_⟩, a6.row (by rw [eR 0 (by decide)]) (eR 21 (by decide))⟩
  · unfold RS; rw [eR 0 (by decide), up_n (by omega)]; exact a1
  · rw [eR 5 (by decide), up_n (by omega)]; exact a2
  · intro k hk; rw [eR 4 (by decide)]; exact a3 k hk
  · rw [eR 11 (by decide)]; exact n1
  · intro y hy; rw [eR 6 (by decide), eN y hy]; exact n2 y hy
  · rw [eR 6 (by decide)]; exact n3
  · intro y hy hu
    rw [eN y hy] at hu
    exact (n4 y hy hu).row (fun k _ _ => by rw [eN y hy]) (fun n _ _ => by rw [eR n (by omega)]) (fun i _ e => by rw [eR 4 (by decide), up_n (by omega)]; exact e)
  · intro i hi; rw [eR 12 (by decide), eJ i 0 (by decide)]; exact q1 i hi
  · rw [eR 12 (by decide)]; exact q2
  · intro i hi hs
    rw [eJ i 0 (by decide)] at hs
    obtain ⟨b1, b2, b3⟩ := q3 i hi hs
    unfold RJb RRm at *
    rw [eJ i 0 (by decide), eJ i 1 (by decide), eJ i 2 (by decide), eJ i 3 (by decide), eJ i 4 (by decide), eJ i 5 (by decide), eJ i 8 (by decide), eJ i 9 (by decide), eR 13 (by decide), eR 14 (by decide), eR 15 (by decide), eR 16 (by decide), eR 18 (by decide), eR 19 (by decide), eR 20 (by decide)]
    refine ⟨b1, b2, fun e => ?_⟩
    obtain ⟨d1, d2, d3, d4, d5⟩ := b3 e
    refine ⟨d1, d2, d3, d4, ?_⟩
    by_cases c : i = j
    · rw [c, up_s, zup_s, up_s, zup_s]
    · rw [up_s, zup_n c, up_n (by omega)]; exact d5
end RL
