/-! REL IS KEPT: cancel -/
section RL
variable {g : Nat × Nat × Nat × Nat} {σ σ' ρ ρ' : St} {q : List Int}
theorem dn_at (ρ : St) (h x : Nat) : dn ρ h 10 x = ρ 10 x - (if h = x then 1 else 0) := by
  unfold dn
  rw [up_s]
  by_cases c : h = x
  · rw [c, zup_s, if_pos rfl]
  · rw [zup_n (fun e => c e.symm), if_neg c]; omega
theorem UNP.at {op : Int} {a b m : Nat} (h : UNP ρ ρ' op a b m) (x : Nat) : ρ' 10 x = ρ 10 x - ((if a = x then 1 else 0) + (if b = x then 1 else 0) + (if op = 3 ∧ m = x then 1 else 0)) := by
  rcases h with ⟨e, rfl⟩ | ⟨e, rfl⟩
  · rw [dn_at, dn_at, dn_at]
    by_cases c : m = x
    · rw [if_pos c, if_pos (show op = 3 ∧ m = x from ⟨e, c⟩)]; omega
    · rw [if_neg c, if_neg (show ¬ (op = 3 ∧ m = x) from fun q => c q.2)]; omega
  · rw [dn_at, dn_at, if_neg (show ¬ (op = 3 ∧ m = x) from fun q => e q.1)]; omega
theorem LEV.more {j a b m : Nat} (h : LEV g ρ ρ' q j a b m) : (∀ x, ρ' 10 x = ρ 10 x - ((if a = x then 1 else 0) + (if b = x then 1 else 0) + (if ρ 13 j = 3 ∧ m = x then 1 else 0))) ∧ (∀ i, i ≠ j → ρ' 20 i = ρ 20 i) ∧ ((ρ 20 j = -1 ∧ ρ' 5 = ρ 5) ∨ ∃ r o : Nat, ρ 19 j = r ∧ ρ 20 j = o ∧ ρ' 5 = jnF g.1 12 (ρ 5) r o) := by
  obtain ⟨ρ1, ρ2, ⟨hQ, h1, h2⟩, hU, h3⟩ := h
  have r2 : ∀ n, n ≠ 0 → n ≠ 10 → n ≠ 21 → ρ2 n = ρ n := fun n n0 n10 n21 => by rw [hU.row n10, h1 n n0 n21]
  have p2 : ∀ x, ρ2 10 x = ρ 10 x - ((if a = x then 1 else 0) + (if b = x then 1 else 0) + (if ρ 13 j = 3 ∧ m = x then 1 else 0)) := fun x => by rw [hU.at x, h1 10 (by decide) (by decide)]
  rcases h3 with ⟨e, rfl⟩ | ⟨r, o, e1, e2, rfl⟩
  · exact ⟨p2, fun i _ => by rw [r2 20 (by decide) (by decide) (by decide)], Or.inl ⟨e, r2 5 (by decide) (by decide) (by decide)⟩⟩
  · refine ⟨fun x => by rw [up_n (by decide), upr_n (by decide)]; exact p2 x, fun i hi => by rw [up_s, zup_n hi, upr_n (by decide), r2 20 (by decide) (by decide) (by decide)], Or.inr ⟨r, o, e1, e2, by rw [up_n (by decide), upr_s]⟩⟩
/-- the ROOM goes back in both -/
theorem room_eq {σ2 σ3 ρ1 : St} {j a b m : Nat} (hA : AG g.1 (σ2 4) (ρ 5)) (hR : RRm σ2 ρ j) (hB : ∀ r : Nat, σ2 (40 + j) 8 = r → r < 2 ^ g.1) (hG : GUR g σ2 σ3 j) (hL : LEV g ρ ρ1 q j a b m) : AG g.1 (σ3 4) (ρ1 5) := by
  have h5 := hL.more.2.2
  rcases hG with ⟨e8, rfl⟩ | ⟨r, o, e8, e9, e4, -, -, -⟩
  · rcases h5 with ⟨-, e5⟩ | ⟨r', o', f1, f2, -⟩
    · rw [e5]; exact hA
    · rcases hR with ⟨-, x⟩ | ⟨x, -⟩ <;> omega
  · rcases h5 with ⟨f, -⟩ | ⟨r', o', f1, f2, e5⟩
    · rcases hR with ⟨x, -⟩ | ⟨-, -, x⟩ <;> omega
    · obtain rfl : r = r' := by rcases hR with ⟨x, -⟩ | ⟨-, x, -⟩ <;> omega
      obtain rfl : o = o' := by rcases hR with ⟨x, -⟩ | ⟨-, -, x⟩ <;> omega
      rw [e4, e5]
      exact hA.jn (hB r e8)
theorem CPr.of (h : REL g σ ρ q) (hI : IN g σ) (hg : GG g) (hnp : g.2.1 = 2 ^ g.1) : ∀ j, j < g.2.2.2 → (ρ 12 j = 0 ∨ ρ 12 j = 1) → ∃ a b m, CPr g ρ j a b m := by
  intro j hj hs
  rw [h.st j hj] at hs
  obtain ⟨b1, b2, b3⟩ := h.jb j hj (by omega)
  obtain ⟨d1, d2, d3, d4, -⟩ := b3 (by omega)
  obtain ⟨a, b, m, sa, sb, sm, ho, e2, e3, fa, fb, hm, -, -, hst⟩ := hI.jq j hj hs
  have hH := hg.2.2.2.2.2.1
  have hm24 : m < 24 := by
    rcases hm with ⟨-, -, fm, -⟩ | ⟨-, -, -, e⟩
    · have := fm.1; omega
    · omega
  have hap : ∀ r o2 : Nat, ρ 19 j = r → ρ 20 j = o2 → hold g σ (40 + j) r o2 := fun r o2 e1 e2 => by
    rcases b2 with ⟨-, x⟩ | ⟨x1, x2, x3⟩
    · omega
    · exact Or.inr ⟨j, rfl, hj, by omega, by omega⟩
  refine ⟨a, b, m, ⟨by have := fa.1; omega, by have := fb.1; omega, hm24⟩, by omega, by omega, ?_, ?_, ?_⟩
  · rw [d1, d4]
    rcases hm with ⟨x1, x2, -⟩ | ⟨x1, x2, -⟩
    · exact Or.inl ⟨x1, x2⟩
    · exact Or.inr ⟨x1, x2⟩
  · rcases hI.rm hj with c | ⟨r, o, c1, c2, hB, -⟩
    · rcases b2 with ⟨-, x⟩ | ⟨x, -⟩
      · exact Or.inl x
      · omega
    · rcases b2 with ⟨x, -⟩ | ⟨x1, x2, x3⟩
      · omega
      · exact Or.inr ⟨r, o, by omega, by omega, h.ag.hb hB⟩
  · rcases hst with ⟨-, c, -⟩ | ⟨-, ⟨r, e5, r1, r2, -⟩, -⟩
    · exact Or.inl (by omega)
    · obtain ⟨A, n, o, c1, c2, c3, -, -, -, c6, -, c8⟩ := hI.num hnp r1 r2
      obtain ⟨-, k2, k3, -⟩ := h.nm r r1 r2
      refine Or.inr ⟨r, A, o, by omega, by omega, by omega, by omega, h.ag.hb c6, fun rm o2 e19 e20 => ?_⟩
      exact hI.hld.2 r (40 + j) _ _ _ _ (by omega) c8 (hap rm o2 e19 e20)
theorem REL.r18 (h : REL g σ ρ q) (hI : IN g σ) (hg : GG g) : ∀ j, j < 12 → 0 ≤ ρ 12 j → -1 ≤ ρ 18 j ∧ ρ 18 j ≤ 23 := by
  intro j hj hs
  by_cases c : j < g.2.2.2
  · rw [h.st j c] at hs
    rw [(h.jb j c hs).1]
    exact hI.r5 hg j c
  · have := h.2.2.2.2.1.2.1 j (by omega) hj; omega
def CMM (g : Nat × Nat × Nat × Nat) (σ σ' σ3 : St) (j : Nat) : Prop := (σ (40 + j) 5 = -1 ∧ σ' 4 = σ3 4) ∨ ∃ h A o : Nat, σ (40 + j) 5 = h ∧ h < g.2.2.1 ∧ σ (10 + h) 0 = 1 ∧ σ (10 + h) 3 = A ∧ σ (10 + h) 4 = o ∧ σ' 4 = jnF g.1 12 (σ3 4) A o
def CND (g : Nat × Nat × Nat × Nat) (ρ ρ1 ρ' : St) (j : Nat) : Prop := (ρ 18 j = -1 ∧ ρ' = up (up ρ1 12 j 3) 18 j (-1)) ∨ ∃ h A o : Nat, ρ 18 j = h ∧ ρ 8 h = A ∧ ρ 9 h = o ∧ ρ' = up (GO g (up (up ρ1 12 j 3) 10 h 0) h A o) 18 j (-1)
/-- the class's rows when a job was called off -/
theorem CAN.rows (hI : IN g σ) (hg : GG g) {j a b m : Nat} (hj : j < g.2.2.2) (hq : qd σ j) (hC : CPj g σ j a b m) (hX : CAN g σ σ' q j a b m) : (∀ k, k ≠ 6 → σ' 0 k = σ 0 k) ∧ (∀ x : Nat, x < g.2.2.1 → σ (40 + j) 5 ≠ x → (∀ k, k ≠ 5 → σ' (10 + x) k = σ (10 + x) k) ∧ σ' (10 + x) 5 = σ (10 + x) 5 - pl1 σ j x) ∧ (∀ x : Nat, x < g.2.2.1 → σ (40 + j) 5 = x → σ' (10 + x) 0 = 0) ∧ (∀ i, i < g.2.2.2 → i ≠ j → σ' (40 + i) = σ (40 + i)) ∧ (σ' (40 + j) 0 = 3 ∧ σ' (40 + j) 5 = -1 ∧ σ' (40 + j) 8 = -1) ∧ σ' 2 = σ 2 ∧ ∃ σ2 σ3 : St, σ2 4 = σ 4 ∧ σ2 (40 + j) = σ (40 + j) ∧ GUR g σ2 σ3 j ∧ CMM g σ σ' σ3 j := by
  obtain ⟨ha, hb, e2, e3, ho, hm, -, -⟩ := hC
  obtain ⟨σ1, σ2, σ3, σ4, ⟨hQ1, r1⟩, hc, hG, hV, rfl⟩ := hX
  have eJ1 : ∀ i, σ1 (40 + i) = σ (40 + i) := fun i => r1 _ (by omega) (by omega)
  have eN1 : ∀ i, i < g.2.2.1 → σ1 (10 + i) = σ (10 + i) := fun i hi => r1 _ (by omega) (by omega)
  have hq1 : qd σ1 j := (qd_row (by rw [eJ1])).mpr hq
  have hcc : cpP σ1 σ2 (σ1 (40 + j) 1) a b m (-1) := by rw [eJ1]; exact hc
  have hpl1 : ∀ x, pl1 σ1 j x = pl1 σ j x := fun x => pl1_row (by rw [eJ1]) (by rw [eJ1]) (by rw [eJ1]) (by rw [eJ1]) (by rw [eJ1])
  have hp : ∀ x, x < g.2.2.1 → σ2 (10 + x) 5 = σ (10 + x) 5 - pl1 σ j x := fun x hx => by
    rw [hcc.pl hq1 (by rw [eJ1]; exact e2) (by rw [eJ1]; exact e3) (fun e => by rw [eJ1] at e ⊢; exact (hm e).2) x, hpl1, eN1 x hx]; omega
  have hlo : ∀ n, n < 10 ∨ 34 ≤ n → σ2 n = σ1 n := fun n hn => hc.lo hg.2.2.2.2.2.1 ha hb (fun e => (hm e).1) hn
  have r4 : ∀ n, n ≠ 40 + j → up (up (up σ4 (40 + j) 5 (-1)) (40 + j) 10 0) (40 + j) 0 3 n = σ4 n := fun n hn => by rw [up_n hn, up_n hn, up_n hn]
  have rj4 : up (up (up σ4 (40 + j) 5 (-1)) (40 + j) 10 0) (40 + j) 0 3 (40 + j) = zup (zup (zup (σ4 (40 + j)) 5 (-1)) 10 0) 0 3 := by rw [up_s, up_s, up_s]
  generalize up (up (up σ4 (40 + j) 5 (-1)) (40 + j) 10 0) (40 + j) 0 3 = τ at r4 rj4 ⊢
  have g8 := hG.lvm.1
  have row3 : ∀ n, n ≠ 3 → n ≠ 4 → n ≠ 40 + j → σ3 n = σ2 n := fun n h1 h2 h3 => hG.row h1 h2 h3
  have row4 : ∀ n, n ≠ 0 → n ≠ 3 → n ≠ 4 → (∀ x : Nat, x < g.2.2.1 → σ (40 + j) 5 = x → n ≠ 10 + x) → σ4 n = σ3 n := fun n h0 h1 h2 h3 => by
    rcases hV with ⟨-, rfl⟩ | ⟨x, A, o, e5, hx, -, -, -, hV⟩
    · rfl
    · exact hV.2.2.2.2 n h0 h1 h2 (h3 x hx e5)
  refine ⟨fun k hk => ?_, fun x hx hne => ⟨fun k hk => ?_, ?_⟩, fun x hx e5 => ?_, fun i hi hne => ?_, ⟨?_, ?_, ?_⟩, ?_, σ2, σ3, ?_, ?_, hG, ?_⟩
  · rw [r4 0 (by omega)]
    have : σ4 0 k = σ3 0 k := by
      rcases hV with ⟨-, rfl⟩ | ⟨x, A, o, e5, hx, -, -, -, hV⟩
      · rfl
      · rw [hV.2.2.2.1, zup_n hk]
    rw [this, row3 0 (by decide) (by decide) (by omega), hlo 0 (by decide), r1 0 (by decide) (by decide)]
  · rw [r4 _ (by omega), row4 _ (by omega) (by omega) (by omega) (fun y _ e c => hne (by rw [e]; omega)), row3 _ (by omega) (by omega) (by omega), hc.fld hk, eN1 x hx]
  · rw [r4 _ (by omega), row4 _ (by omega) (by omega) (by omega) (fun y _ e c => hne (by rw [e]; omega)), row3 _ (by omega) (by omega) (by omega), hp x hx]
  · rw [r4 _ (by omega)]
    rcases hV with ⟨c, -⟩ | ⟨y, A, o, f5, hy, -, -, -, hV⟩
    · omega
    · obtain rfl : x = y := by omega
      rw [hV.2.2.1, zup_s]
  · rw [r4 _ (by omega), row4 _ (by omega) (by omega) (by omega) (fun y _ e c => by omega), row3 _ (by omega) (by omega) (by omega), hlo _ (by omega), eJ1]
  · rw [rj4, zup_s]
  · rw [rj4, zup_n (by decide), zup_n (by decide), zup_s]
  · rw [rj4, zup_n (by decide), zup_n (by decide), zup_n (by decide), row4 _ (by omega) (by omega) (by omega) (fun y _ e c => by omega)]; exact g8
  · rw [r4 2 (by omega), row4 2 (by decide) (by decide) (by decide) (fun y _ e c => by omega), row3 2 (by decide) (by decide) (by omega), hlo 2 (by decide), r1 2 (by decide) (by decide)]
  · rw [hlo 4 (by decide), r1 4 (by decide) (by decide)]
  · rw [hlo _ (by omega), eJ1]
  · unfold CMM
    rw [r4 4 (by omega)]
    rcases hV with ⟨c, rfl⟩ | ⟨y, A, o, f5, hy, hu, hA, hO, hV⟩
    · exact Or.inl ⟨c, rfl⟩
    · exact Or.inr ⟨y, A, o, f5, hy, hu, hA, hO, hV.1⟩
theorem REL.cancel (h : REL g σ ρ q) (hI : IN g σ) (hg : GG g) (hnp : g.2.1 = 2 ^ g.1) {j a b m a' b' m' : Nat} (hj : j < g.2.2.2) (hq : qd σ j) (hC : CPj g σ j a b m) (hX : CAN g σ σ' q j a b m) (hC' : CPr g ρ j a' b' m') (hX' : CNR g ρ ρ' q j a' b' m') : REL g σ' ρ' (q.filter (fun x => !decide (x = (j : Int)))) := by
  obtain ⟨z0, zN, zx, zJ, ⟨zj0, zj5, zj8⟩, z2, σ2, σ3, w4, wj, hG, hmem⟩ := CAN.rows hI hg hj hq hC hX
  have hs := h.st j hj
  have hs0 : 0 ≤ σ (40 + j) 0 := by unfold qd at hq; omega
  obtain ⟨b1, b2, b3⟩ := h.jb j hj hs0
  obtain ⟨d1, d2, d3, d4, -⟩ := b3 (by unfold qd at hq; omega)
  obtain ⟨ha, hb, e2, e3, ho, hm, -, -⟩ := hC
  obtain ⟨hlt, e14, e15, hm', -, -⟩ := hC'
  obtain rfl : a = a' := by omega
  obtain rfl : b = b' := by omega
  obtain ⟨ρ1, hL, hD0⟩ := hX'
  have hD : CND g ρ ρ1 ρ' j := hD0
  clear hD0
  obtain ⟨l1, l2, ⟨ρq, lq0, lq1, lQ⟩, l20⟩ := hL.row
  obtain ⟨lp, l20i, -⟩ := hL.more
  have hAG1 : AG g.1 (σ3 4) (ρ1 5) := room_eq (σ2 := σ2) (by rw [w4]; exact h.ag) (by unfold RRm at *; rw [wj]; exact b2) (fun r e => by
    rw [wj] at e
    rcases hI.rm hj with c | ⟨r1, o1, c1, -, hB, -⟩
    · omega
    · have := hB.lt.1; have : r = r1 := by omega
      omega) hG hL
  have hpl : ∀ x : Nat, pl1 σ j x = (if a = x then 1 else 0) + (if b = x then 1 else 0) + (if ρ 13 j = 3 ∧ m' = x then 1 else 0) := fun x => by
    rw [pl1_at (m := m') hq e2 e3 (fun e => by rcases hm' with ⟨-, c⟩ | ⟨c, -⟩ <;> omega) x, d1]
  -- both of the reference's ends, in rows
  have hE : (∀ n, n ≠ 0 → n ≠ 5 → n ≠ 6 → n ≠ 10 → n ≠ 11 → n ≠ 12 → n ≠ 18 → n ≠ 20 → n ≠ 21 → ρ' n = ρ n) ∧ (∀ k, k ≠ 22 → ρ' 0 k = ρ 0 k) ∧ QL ρ' (q.filter (fun x => !decide (x = (j : Int)))) ∧ (∀ i, i ≠ j → ρ' 12 i = ρ 12 i) ∧ ρ' 12 j = 3 ∧ ρ' 18 j = -1 ∧ (∀ i, i < g.2.2.2 → i ≠ j → 0 ≤ ρ 12 i → ρ' 18 i = ρ 18 i) ∧ (∀ i, i ≠ j → ρ' 20 i = ρ 20 i) ∧ ρ' 20 j = -1 ∧ (∀ x : Nat, σ (40 + j) 5 ≠ x → ρ' 6 x = ρ 6 x ∧ ρ' 11 x = ρ 11 x ∧ ρ' 10 x = ρ 10 x - pl1 σ j x) ∧ (∀ x : Nat, σ (40 + j) 5 = x → ρ' 6 x = 0 ∧ ρ' 11 x = 0) ∧ AG g.1 (σ' 4) (ρ' 5) := by
    rcases hD with ⟨c18, rfl⟩ | ⟨x, A, o, c18, c8, c9, rfl⟩
    · have c5 : σ (40 + j) 5 = -1 := by omega
      have r : ∀ n, n ≠ 12 → n ≠ 18 → up (up ρ1 12 j 3) 18 j (-1) n = ρ1 n := fun n h1 h2 => by rw [up_n h2, up_n h1]
      refine ⟨fun n n0 n5 n6 n10 n11 n12 n18 n20 n21 => by rw [r n n12 n18, l1 n n0 n5 n10 n20 n21], fun k hk => by rw [r 0 (by decide) (by decide), l2 k hk], lQ.row (by rw [r 0 (by decide) (by decide), lq0]) (by rw [r 21 (by decide) (by decide), lq1]), fun i hi => ?_, ?_, ?_, fun i hi1 hi _ => ?_, fun i hi => by rw [r 20 (by decide) (by decide), l20i i hi], by rw [r 20 (by decide) (by decide)]; exact l20, fun x _ => ⟨?_, ?_, ?_⟩, fun x hx => by omega, ?_⟩
      · rw [up_n (by decide), up_s, zup_n hi, l1 12 (by decide) (by decide) (by decide) (by decide) (by decide)]
      · rw [up_n (by decide), up_s, zup_s]
      · rw [up_s, zup_s]
      · rw [up_s, zup_n hi, up_n (by decide), l1 18 (by decide) (by decide) (by decide) (by decide) (by decide)]
      · rw [r 6 (by decide) (by decide), l1 6 (by decide) (by decide) (by decide) (by decide) (by decide)]
      · rw [r 11 (by decide) (by decide), l1 11 (by decide) (by decide) (by decide) (by decide) (by decide)]
      · rw [r 10 (by decide) (by decide), lp x, hpl x]
      · rw [r 5 (by decide) (by decide)]
        rcases hmem with ⟨-, e4⟩ | ⟨y, A, o, c, -⟩
        · rw [e4]; exact hAG1
        · omega
    · have c5 : σ (40 + j) 5 = x := by omega
      obtain ⟨y, A', o', f5, hy, hu, fA, fO, e4⟩ : ∃ h A o : Nat, σ (40 + j) 5 = h ∧ h < g.2.2.1 ∧ σ (10 + h) 0 = 1 ∧ σ (10 + h) 3 = A ∧ σ (10 + h) 4 = o ∧ σ' 4 = jnF g.1 12 (σ3 4) A o := by
        rcases hmem with ⟨c, -⟩ | c
        · omega
        · exact c
      obtain rfl : x = y := by omega
      obtain ⟨-, k2, k3, -⟩ := h.nm x hy hu
      obtain rfl : A = A' := by omega
      obtain rfl : o = o' := by omega
      obtain ⟨A2, n2, o2, t1, -, t3, -, -, -, hB, -, -⟩ := hI.num hnp hy hu
      obtain rfl : A = A2 := by omega
      have r : ∀ n, n ≠ 5 → n ≠ 6 → n ≠ 10 → n ≠ 11 → n ≠ 12 → n ≠ 18 → up (GO g (up (up ρ1 12 j 3) 10 x 0) x A o) 18 j (-1) n = ρ1 n := fun n h5 h6 h10 h11 h12 h18 => by
        rw [up_n h18]; unfold GO; rw [upr_n h18, upr_n h5, up_n h11, up_n h6, up_n h10, up_n h12]
      have x5 : up (GO g (up (up ρ1 12 j 3) 10 x 0) x A o) 18 j (-1) 5 = jnF g.1 12 (ρ1 5) A o := by
        rw [up_n (by decide)]; unfold GO; rw [upr_n (by decide), upr_s, up_n (by decide), up_n (by decide)]
      have x6 : up (GO g (up (up ρ1 12 j 3) 10 x 0) x A o) 18 j (-1) 6 = zup (ρ 6) x 0 := by
        rw [up_n (by decide)]; unfold GO; rw [upr_n (by decide), upr_n (by decide), up_n (by decide), up_s, up_n (by decide), up_n (by decide), l1 6 (by decide) (by decide) (by decide) (by decide) (by decide)]
      have x10 : up (GO g (up (up ρ1 12 j 3) 10 x 0) x A o) 18 j (-1) 10 = zup (ρ1 10) x 0 := by
        rw [up_n (by decide)]; unfold GO; rw [upr_n (by decide), upr_n (by decide), up_n (by decide), up_n (by decide), up_s, up_n (by decide)]
      have x11 : up (GO g (up (up ρ1 12 j 3) 10 x 0) x A o) 18 j (-1) 11 = zup (ρ 11) x 0 := by
        rw [up_n (by decide)]; unfold GO; rw [upr_n (by decide), upr_n (by decide), up_s, up_n (by decide), up_n (by decide), up_n (by decide), l1 11 (by decide) (by decide) (by decide) (by decide) (by decide)]
      have x12 : up (GO g (up (up ρ1 12 j 3) 10 x 0) x A o) 18 j (-1) 12 = zup (ρ 12) j 3 := by
        rw [up_n (by decide)]; unfold GO; rw [upr_n (by decide), upr_n (by decide), up_n (by decide), up_n (by decide), up_n (by decide), up_s, l1 12 (by decide) (by decide) (by decide) (by decide) (by decide)]
      have x18 : up (GO g (up (up ρ1 12 j 3) 10 x 0) x A o) 18 j (-1) 18 = zup (clr (zup (ρ 12) j 3) (ρ 18) x 12) j (-1) := by
        rw [up_s]; unfold GO; rw [upr_s, up_n (by decide), up_s, up_n (by decide), up_n (by decide), l1 12 (by decide) (by decide) (by decide) (by decide) (by decide), l1 18 (by decide) (by decide) (by decide) (by decide) (by decide)]
      generalize up (GO g (up (up ρ1 12 j 3) 10 x 0) x A o) 18 j (-1) = τ at r x5 x6 x10 x11 x12 x18 ⊢
      refine ⟨fun n n0 n5 n6 n10 n11 n12 n18 n20 n21 => by rw [r n n5 n6 n10 n11 n12 n18, l1 n n0 n5 n10 n20 n21], fun k hk => by rw [r 0 (by decide) (by decide) (by decide) (by decide) (by decide) (by decide), l2 k hk], lQ.row (by rw [r 0 (by decide) (by decide) (by decide) (by decide) (by decide) (by decide), lq0]) (by rw [r 21 (by decide) (by decide) (by decide) (by decide) (by decide) (by decide), lq1]), fun i hi => by rw [x12, zup_n hi], by rw [x12, zup_s], by rw [x18, zup_s], fun i hi1 hi hi2 => ?_, fun i hi => by rw [r 20 (by decide) (by decide) (by decide) (by decide) (by decide) (by decide), l20i i hi], by rw [r 20 (by decide) (by decide) (by decide) (by decide) (by decide) (by decide)]; exact l20, fun y hy => ?_, fun y hy => ?_, ?_⟩
      · rw [x18, zup_n hi]
        unfold clr
        rw [if_neg]
        rintro ⟨-, q2, q3⟩
        have h1 := h.st i hi1
        have h2 := (h.jb i hi1 (by omega)).1
        have h3 := hI.dst i j hi1 hj hi (by omega)
        omega
      · have c : y ≠ x := fun e => hy (by rw [c5, e])
        exact ⟨by rw [x6, zup_n c], by rw [x11, zup_n c], by rw [x10, zup_n c, lp y, hpl y]⟩
      · obtain rfl : x = y := by omega
        exact ⟨by rw [x6, zup_s], by rw [x11, zup_s]⟩
      · rw [x5, e4]; exact hAG1.jn hB.lt.1
  obtain ⟨eR, e0, eQ, k12, k12j, k18j, k18, k20, k20j, kN, kx, kA⟩ := hE
  obtain ⟨a1, a2, a3, ⟨n1, n2, n3, n4⟩, ⟨q1, q2, q3⟩, -⟩ := h
  have i4 : ρ' 4 = ρ 4 := eR 4 (by decide) (by decide) (by decide) (by decide) (by decide) (by decide) (by decide) (by decide) (by decide)
  refine ⟨?_, kA, ?_, ⟨?_, ?_, ?_, ?_⟩, ⟨?_, ?_, ?_⟩, eQ⟩
  · unfold RS; rw [e0 0 (by decide), e0 1 (by decide), e0 2 (by decide), e0 3 (by decide), e0 23 (by decide), z0 5 (by decide), z0 8 (by decide)]; exact a1
  · intro k hk; rw [i4]; exact a3 k hk
  · intro y hy
    by_cases c : σ (40 + j) 5 = y
    · exact Or.inl (kx y c).2
    · rw [(kN y c).2.1]; exact n1 y hy
  · intro y hy
    by_cases c : σ (40 + j) 5 = y
    · rw [(kx y c).1, zx y hy c]
    · rw [(kN y c).1, (zN y hy c).1 0 (by decide)]; exact n2 y hy
  · intro y h1 h2
    by_cases c : σ (40 + j) 5 = y
    · exact (kx y c).1
    · rw [(kN y c).1]; exact n3 y h1 h2
  · intro y hy hyu
    have c : σ (40 + j) 5 ≠ y := fun e => by rw [zx y hy e] at hyu; omega
    obtain ⟨zk, z5⟩ := zN y hy c
    rw [zk 0 (by decide)] at hyu
    obtain ⟨r1, r2, r3, r4, r5, r6⟩ := n4 y hy hyu
    unfold RNm
    rw [zk 1 (by decide), zk 2 (by decide), zk 3 (by decide), zk 4 (by decide), z5, (kN y c).2.1, (kN y c).2.2, i4, z2, eR 7 (by decide) (by decide) (by decide) (by decide) (by decide) (by decide) (by decide) (by decide) (by decide), eR 8 (by decide) (by decide) (by decide) (by decide) (by decide) (by decide) (by decide) (by decide) (by decide), eR 9 (by decide) (by decide) (by decide) (by decide) (by decide) (by decide) (by decide) (by decide) (by decide), r4]
    exact ⟨r1, r2, r3, rfl, r5, r6⟩
  · intro i hi
    by_cases c : i = j
    · rw [c, k12j, zj0]
    · rw [k12 i c, zJ i hi c]; exact q1 i hi
  · intro i h1 h2; rw [k12 i (by omega)]; exact q2 i h1 h2
  · intro i hi hsi
    by_cases c : i = j
    · subst c
      exact ⟨by rw [k18j, zj5], Or.inl ⟨zj8, k20j⟩, fun e => by omega⟩
    · rw [zJ i hi c] at hsi
      refine (q3 i hi hsi).row (fun k => by rw [zJ i hi c]) (fun n n1 n2 => ?_)
      by_cases d : n = 18
      · rw [d]; exact k18 i hi c (by rw [q1 i hi]; exact hsi)
      · by_cases d2 : n = 20
        · rw [d2]; exact k20 i c
        · rw [eR n (by omega) (by omega) (by omega) (by omega) (by omega) (by omega) d d2 (by omega)]
end RL
