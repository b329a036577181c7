/-! WHAT INV GIVES TO A TURN, TO CANCELLING -/
section IV
variable {g : Nat × Nat × Nat × Nat} {σ : St} {q : List Int}
theorem plL_ge (op : Int) (a b m : Nat) : 0 ≤ plL op a b m := by
  unfold plL
  split
  · omega
  · split
    · omega
    · split <;> omega
theorem plR_pos {op : Int} {a b m : Nat} (ha : 1 ≤ a) (hop : op ≠ 0) : 0 < plR op a b m := by
  unfold plR
  rw [if_neg hop]
  split
  · omega
  · split <;> omega
theorem plR_ge (op : Int) (a b m : Nat) : 0 ≤ plR op a b m := by
  unfold plR
  split
  · omega
  · split
    · omega
    · split <;> omega
theorem ordP.nat {n : Int} {o : Nat} (h : ordP n o) : n.toNat ≤ 2 ^ o := by
  have h1 := h.1
  have h2 : ((2 ^ o : Nat) : Int) = (2 : Int) ^ o := by rw [Int.natCast_pow]; rfl
  have h3 : (0 : Int) ≤ 2 ^ o := by rw [← h2]; exact Int.natCast_nonneg _
  omega
theorem FN.num (h : IN g σ) (hnp : g.2.1 = 2 ^ g.1) {k s : Nat} (hF : FN g σ k s) : ∃ A o : Nat, σ (10 + k) 3 = A ∧ σ (10 + k) 4 = o ∧ 1 ≤ s ∧ s ≤ 2 ^ o ∧ ordP s o ∧ HB g.1 (σ 4) A o ∧ NM g σ k A s ∧ hold g σ k A o ∧ nval σ k = nv (σ 2) A s := by
  obtain ⟨h1, h2, h3, h4⟩ := hF
  obtain ⟨A, n, o, e1, e2, e3, a1, a2, a3, a4, a5, a6⟩ := h.num hnp h1 h2
  obtain rfl : n = s := by omega
  refine ⟨A, o, e1, e3, a1, a2, a3, a4, a5, a6, ?_⟩
  unfold nval
  rw [e1, e2, Int.toNat_natCast, Int.toNat_natCast]
theorem dsj.sub {a n b m a' n' b' m' : Nat} (h : dsj a n b m) (h1 : a ≤ a') (h2 : a' + n' ≤ a + n) (h3 : b ≤ b') (h4 : b' + m' ≤ b + m) : dsj a' n' b' m' := by
  unfold dsj at *; omega
/-- a job that waits -/
theorem IN.wait (h : IN g σ) {j : Nat} (hj : j < g.2.2.2) (hs : σ (40 + j) 0 = 0) : ∃ n o, TP0 g σ j n o := by
  obtain ⟨a, b, m, sa, sb, sm, -, -, -, -, -, -, -, ⟨e6, ⟨o, e7, ho, ho2⟩, hr, -⟩, -⟩ := h.jq j hj (Or.inl hs)
  have h0 := plL_ge (σ (40 + j) 1) sa sb sm
  refine ⟨(plL (σ (40 + j) 1) sa sb sm).toNat, o, by omega, e7, ho2, ho.nat, ?_⟩
  rcases hr with ⟨-, e⟩ | ⟨-, r, e, -, h2⟩
  · exact Or.inl e
  · exact Or.inr ⟨r, e, h2⟩
/-- a job's ROOM -/
def RMB (g : Nat × Nat × Nat × Nat) (σ : St) (j : Nat) : Prop := σ (40 + j) 8 = -1 ∨ ∃ r o : Nat, σ (40 + j) 8 = r ∧ σ (40 + j) 9 = o ∧ HB g.1 (σ 4) r o ∧ hold g σ (40 + j) r o
theorem IN.rm (h : IN g σ) {j : Nat} (hj : j < g.2.2.2) : RMB g σ j := by
  by_cases hq : qd σ j
  · obtain ⟨a, b, m, sa, sb, sm, -, -, -, -, -, -, -, -, hJ⟩ := h.jq j hj hq
    rcases hJ with ⟨-, -, e⟩ | ⟨-, -, ⟨-, e⟩ | ⟨e9, e8⟩⟩
    · exact Or.inl e
    · exact Or.inl e
    · have hh : hold g σ (40 + j) (σ (40 + j) 8).toNat (σ (40 + j) 9).toNat := Or.inr ⟨j, rfl, hj, by omega, by omega⟩
      exact Or.inr ⟨_, _, by omega, by omega, h.hld.1 _ _ _ hh, hh⟩
  · exact Or.inl ((h.res j hj).2.2.1 hq)
/-- a job that runs -/
theorem IN.run (h : IN g σ) (hg : GG g) (hnp : g.2.1 = 2 ^ g.1) {j : Nat} (hj : j < g.2.2.2) (hs : σ (40 + j) 0 = 1) : ∃ a b m sa sb sm r Aa Ab Am Ar : Nat, JQ g σ j a b m sa sb sm ∧ σ (40 + j) 5 = r ∧ JRS g σ j r ∧ RKP g σ j a b m r Aa sa Ab sb Am sm Ar (plL (σ (40 + j) 1) sa sb sm).toNat := by
  obtain ⟨a, b, m, sa, sb, sm, hJ⟩ := h.jq j hj (Or.inr hs)
  have hJ0 := hJ
  obtain ⟨ho, e2, e3, fa, fb, hm, hd, ⟨e6, -, hrm, -⟩, hst⟩ := hJ
  have h0 := plL_ge (σ (40 + j) 1) sa sb sm
  obtain ⟨r, e5, hR⟩ : ∃ r : Nat, σ (40 + j) 5 = r ∧ JRS g σ j r := by
    rcases hst with ⟨e, -⟩ | ⟨-, e, -⟩
    · omega
    · exact e
  have hR0 := hR
  obtain ⟨r1, r2, r3, r4, r5⟩ := hR
  obtain ⟨Aa, oa, a1, a2, a3, a4, -, -, a7, a8, a9⟩ := fa.num h hnp
  obtain ⟨Ab, ob, b1, b2, b3, b4, -, -, b7, b8, b9⟩ := fb.num h hnp
  obtain ⟨Ar, nr, or, c1, c2, c3, c4, c5, -, -, c7, c8⟩ := h.num hnp r1 r2
  have enr : (plL (σ (40 + j) 1) sa sb sm).toNat = nr := by omega
  have hra : r ≠ a := fun e => by rw [e, fa.2.2.1] at r3; omega
  have hrb : r ≠ b := fun e => by rw [e, fb.2.2.1] at r3; omega
  have hroom : ∀ {x A o n : Nat}, x < g.2.2.1 → hold g σ x A o → n ≤ 2 ^ o → ∀ rm o2 L : Nat, hold g σ (40 + j) rm o2 → L ≤ 2 ^ o2 → dsj rm L A n := by
    intro x A o n hx hh hn rm o2 L hh2 hL
    exact (h.hld.2 _ _ _ _ _ _ (show 40 + j ≠ x by omega) hh2 hh).sub (Nat.le_refl _) (by omega) (Nat.le_refl _) (by omega)
  have hrmx : σ (40 + j) 1 ≠ 0 → ∃ rm L o2 : Nat, σ (40 + j) 8 = rm ∧ (L : Int) = plR (σ (40 + j) 1) sa sb sm ∧ hold g σ (40 + j) rm o2 ∧ L ≤ 2 ^ o2 ∧ rm + L ≤ g.2.1 := by
    intro hop
    have hp := plR_pos (b := sb) (m := sm) a3 hop
    have h9 : 0 ≤ σ (40 + j) 9 := by
      rcases hrm with ⟨e, -⟩ | ⟨-, x, e, -⟩ <;> omega
    rcases h.rm hj with e | ⟨rm, o2, e8, e9, hB, hh⟩
    · rcases hst with ⟨q, -⟩ | ⟨-, -, ⟨q, -⟩ | ⟨-, q⟩⟩ <;> omega
    · rcases hrm with ⟨e, -⟩ | ⟨-, x, ex, hox, -⟩
      · omega
      · obtain rfl : x = o2 := by omega
        have hL := hox.nat
        have := hB.2.1
        exact ⟨rm, (plR (σ (40 + j) 1) sa sb sm).toNat, x, e8, by omega, hh, hL, by omega⟩
  have hM3 : ∃ Am : Nat, σ (40 + j) 1 = 3 → σ (40 + j) 4 = m ∧ NM g σ m Am sm ∧ dsj Ar nr Am sm ∧ 0 < nv (σ 2) Am sm ∧ ∀ rm L o2 : Nat, hold g σ (40 + j) rm o2 → L ≤ 2 ^ o2 → dsj rm L Am sm := by
    by_cases hop3 : σ (40 + j) 1 = 3
    · obtain ⟨-, m2, fm, m4⟩ : σ (40 + j) 1 = 3 ∧ σ (40 + j) 4 = m ∧ FN g σ m sm ∧ 0 < nval σ m := by
        rcases hm with e | ⟨e, -⟩
        · exact e
        · exact absurd hop3 e
      obtain ⟨Am, om, n1, n2, n3, n4, -, -, n7, n8, n9⟩ := fm.num h hnp
      have hrm' : r ≠ m := fun e => by rw [e, fm.2.2.1] at r3; omega
      exact ⟨Am, fun _ => ⟨m2, n7, (h.hld.2 _ _ _ _ _ _ hrm' c8 n8).sub (Nat.le_refl _) (by omega) (Nat.le_refl _) (by omega), by rw [← n9]; exact m4, fun rm L o2 x3 x4 => hroom fm.1 n8 n4 rm o2 L x3 x4⟩⟩
    · exact ⟨0, fun e => absurd e hop3⟩
  obtain ⟨Am, hM3⟩ := hM3
  refine ⟨a, b, m, sa, sb, sm, r, Aa, Ab, Am, Ar, hJ0, e5, hR0, e2, e3, e5, a7, b7, by rw [enr]; exact c7, ⟨a3, b3⟩, ?_, ?_, ?_, by omega, ?_, ?_, ?_⟩
  · intro x x1 x2
    have := r5 (x - Ar) (by rw [c2, Int.toNat_natCast]; omega)
    rwa [c1, Int.toNat_natCast, show Ar + (x - Ar) = x by omega] at this
  · exact (h.hld.2 _ _ _ _ _ _ hra c8 a8).sub (Nat.le_refl _) (by omega) (Nat.le_refl _) (by omega)
  · exact (h.hld.2 _ _ _ _ _ _ hrb c8 b8).sub (Nat.le_refl _) (by omega) (Nat.le_refl _) (by omega)
  · intro e
    obtain ⟨y1, y2, y3, y4, -⟩ := hM3 e
    exact ⟨y1, y2, by rw [enr]; exact y3, y4⟩
  · intro e; rw [← b9]; exact hd e
  · intro hop
    obtain ⟨rm, L, o2, x1, x2, x3, x4, x5⟩ := hrmx hop
    exact ⟨rm, L, x1, x2, x5, hroom fa.1 a8 a4 rm o2 L x3 x4, hroom fb.1 b8 b4 rm o2 L x3 x4, hroom r1 c8 (by omega) rm o2 L x3 x4, fun e => (hM3 e).2.2.2.2 rm L o2 x3 x4⟩
theorem INV.tpre (h : INV g σ q) (hg : GG g) (hnp : g.2.1 = 2 ^ g.1) : TPre g σ q := by
  have hq0 := h
  obtain ⟨h, hQ, hqo⟩ := h
  refine ⟨h.mi, h.cn, h.lm, h.flg, h.c6r, h.all, hQ, h.qu, fun x q' e => ?_⟩
  obtain ⟨j, rfl, hj, hq⟩ := hqo.2.1 x (by rw [e]; exact List.mem_cons_self)
  refine ⟨j, rfl, hj, ?_⟩
  rcases hq with hs | hs
  · exact Or.inl ⟨hs, h.wait hj hs⟩
  · obtain ⟨a, b, m, sa, sb, sm, r, Aa, Ab, Am, Ar, hJ, e5, hR, hK⟩ := h.run hg hnp hj hs
    refine Or.inr ⟨hs, a, b, m, r, Aa, sa, Ab, sb, Am, sm, Ar, _, hK, hJ.1, ⟨by have := hJ.2.2.2.2.2.2.2.1.2.2.2; omega, hJ.2.2.2.2.2.2.2.1.2.2.2.2⟩, ?_⟩
    rcases h.rm hj with e | ⟨r1, o1, e1, e2, hB, -⟩
    · exact Or.inl e
    · have := hB.lt.1
      have h2 : 2 ^ g.1 ≤ 2048 := Nat.pow_le_pow_right (n := 2) (by decide) hg.2.1
      exact Or.inr ⟨r1, o1, e1, by omega, e2, hB.blk⟩
theorem IN.cp (h : IN g σ) (hg : GG g) (hnp : g.2.1 = 2 ^ g.1) : ∀ j, j < g.2.2.2 → qd σ j → ∃ a b m, CPj g σ j a b m := by
  intro j hj hq
  obtain ⟨a, b, m, sa, sb, sm, ho, e2, e3, fa, fb, hm, -, -, hst⟩ := h.jq j hj hq
  refine ⟨a, b, m, fa.1, fb.1, e2, e3, ho, ?_, ?_, ?_⟩
  · intro e
    rcases hm with ⟨-, m2, fm, -⟩ | ⟨e', -⟩
    · exact ⟨fm.1, m2⟩
    · exact absurd e e'
  · rcases h.rm hj with e | ⟨r1, o1, e1, e2, hB, -⟩
    · exact Or.inl e
    · exact Or.inr ⟨r1, o1, e1, e2, hB⟩
  · rcases hst with ⟨-, e, -⟩ | ⟨-, ⟨r, e5, r1, r2, -⟩, -⟩
    · exact Or.inl e
    · obtain ⟨A, n, o, c1, c2, c3, -, -, -, c6, -, c8⟩ := h.num hnp r1 r2
      refine Or.inr ⟨r, A, o, e5, r1, r2, c1, c3, c6, fun rm o2 e8 e9 => ?_⟩
      exact h.hld.2 r (40 + j) _ _ _ _ (by omega) c8 (Or.inr ⟨j, rfl, hj, e8, e9⟩)
end IV
