/-! MORE STEPS: a job leaves, begins, comes, is forgotten -/
section ST
variable {g : Nat × Nat × Nat × Nat} {σ σ' : St}
theorem pinF_at (σ : St) (h x : Nat) (z : Int) : pinF σ h z (10 + x) 5 = σ (10 + x) 5 + (if h = x then z else 0) := by
  unfold pinF
  by_cases c : h = x
  · rw [c, up_s, zup_s, if_pos rfl]
  · rw [up_n (by omega), if_neg c]; omega
theorem cpP.at {op : Int} {a b m : Nat} {z : Int} (hc : cpP σ σ' op a b m z) (x : Nat) : σ' (10 + x) 5 = σ (10 + x) 5 + (if a = x then z else 0) + (if b = x then z else 0) + (if op = 3 ∧ m = x then z else 0) := by
  rcases hc with ⟨e, rfl⟩ | ⟨e, rfl⟩
  · rw [pinF_at, pinF_at, pinF_at]
    by_cases c : m = x
    · rw [if_pos c, if_pos (show op = 3 ∧ m = x from ⟨e, c⟩)]
    · rw [if_neg c, if_neg (show ¬ (op = 3 ∧ m = x) from fun q => c q.2)]
  · rw [pinF_at, pinF_at, if_neg (show ¬ (op = 3 ∧ m = x) from fun q => e q.1)]; omega
theorem pl1_at {j a b m : Nat} (hq : qd σ j) (e2 : σ (40 + j) 2 = a) (e3 : σ (40 + j) 3 = b) (e4 : σ (40 + j) 1 = 3 → σ (40 + j) 4 = m) (x : Nat) : pl1 σ j x = (if a = x then 1 else 0) + (if b = x then 1 else 0) + (if σ (40 + j) 1 = 3 ∧ m = x then 1 else 0) := by
  unfold pl1
  rw [if_pos hq, e2, e3]
  have c1 : ((a : Int) = x) = (a = x) := by apply propext; omega
  have c2 : ((b : Int) = x) = (b = x) := by apply propext; omega
  have c3 : (σ (40 + j) 1 = 3 ∧ σ (40 + j) 4 = x) = (σ (40 + j) 1 = 3 ∧ m = x) := by
    apply propext
    constructor
    · rintro ⟨q1, q2⟩; have := e4 q1; exact ⟨q1, by omega⟩
    · rintro ⟨q1, q2⟩; have := e4 q1; exact ⟨q1, by omega⟩
  simp only [c1, c2, c3]
theorem cpP.pl {j a b m : Nat} {z : Int} (hc : cpP σ σ' (σ (40 + j) 1) a b m z) (hq : qd σ j) (e2 : σ (40 + j) 2 = a) (e3 : σ (40 + j) 3 = b) (e4 : σ (40 + j) 1 = 3 → σ (40 + j) 4 = m) (x : Nat) : σ' (10 + x) 5 = σ (10 + x) 5 + z * pl1 σ j x := by
  rw [hc.at x, pl1_at hq e2 e3 e4 x, Int.mul_add, Int.mul_add]
  have f : ∀ (P : Prop) [Decidable P], (if P then z else 0) = z * (if P then 1 else 0) := fun P _ => by split <;> omega
  rw [f, f, f]; omega
def LVM (g : Nat × Nat × Nat × Nat) (σ σ' : St) (j : Nat) : Prop := (σ (40 + j) 8 = -1 ∧ σ' 4 = σ 4) ∨ ∃ r o : Nat, σ (40 + j) 8 = r ∧ σ (40 + j) 9 = o ∧ σ' 4 = jnF g.1 12 (σ 4) r o
/-- a job leaves the queue -/
def LVE (g : Nat × Nat × Nat × Nat) (σ σ' : St) (j : Nat) (s1 : Int) : Prop :=
  (∀ x k, x < g.2.2.1 → k < 5 → k ≠ 1 → σ' (10 + x) k = σ (10 + x) k) ∧ FLG g σ' ∧ (∀ x : Nat, x < g.2.2.1 → σ (40 + j) 5 ≠ x → σ' (10 + x) 1 = σ (10 + x) 1) ∧
  (∀ x : Nat, x < g.2.2.1 → σ' (10 + x) 5 - σ' (10 + x) 1 = σ (10 + x) 5 - σ (10 + x) 1 - pl1 σ j x) ∧ LM g σ' ∧
  (∀ x : Nat, x < g.2.2.1 → σ (10 + x) 0 = 1 → σ (40 + j) 5 ≠ x → ∀ i : Nat, i < (σ (10 + x) 2).toNat → σ' 2 ((σ (10 + x) 3).toNat + i) = σ 2 ((σ (10 + x) 3).toNat + i)) ∧
  (σ' (40 + j) 0 = s1 ∧ σ' (40 + j) 8 = -1 ∧ σ' (40 + j) 10 = 0 ∧ (σ' (40 + j) 5 = -1 ∨ (σ' (40 + j) 5 = σ (40 + j) 5 ∧ s1 = 2))) ∧
  (∀ i, i < g.2.2.2 → i ≠ j → σ' (40 + i) = σ (40 + i)) ∧ (∀ k, 5 ≤ k → k ≤ 7 → σ' 0 k = σ 0 k) ∧ CN g σ' ∧ LVM g σ σ' j
theorem IN.own (h : IN g σ) {i j x : Nat} (hi : i < g.2.2.2) (hj : j < g.2.2.2) (hij : i ≠ j) (hqi : qd σ i) (hqj : qd σ j) (ht : tch σ i x) : σ (40 + j) 5 ≠ x := by
  intro e
  obtain ⟨a, b, m, sa, sb, sm, hJ⟩ := h.jq i hi hqi
  obtain ⟨a', b', m', sa', sb', sm', hJ'⟩ := h.jq j hj hqj
  have h1 : σ (10 + x) 1 = 1 := by
    rcases hJ'.2.2.2.2.2.2.2.2 with ⟨-, e5, -⟩ | ⟨-, ⟨r, e5, r1, r2, r3, -⟩, -⟩
    · omega
    · obtain rfl : x = r := by omega
      exact r3
  rcases ht with t | t | t | ⟨t1, t2⟩
  · have := (FN.pl hJ hqi (Or.inl t)).2.2.1; omega
  · have := (FN.pl hJ hqi (Or.inr (Or.inl t))).2.2.1; omega
  · have := (FN.pl hJ hqi (Or.inr (Or.inr t))).2.2.1; omega
  · have := h.dst i j hi hj hij (by omega); omega
theorem IN.leave (h : IN g σ) (hg : GG g) {j : Nat} {s1 : Int} (hj : j < g.2.2.2) (hq : qd σ j) (hs1 : s1 = 2 ∨ s1 = 3) (hL : LVE g σ σ' j s1) : IN g σ' := by
  obtain ⟨eN, hF, eF, eP, hLM, e2, ⟨j0, j8, j10, j5⟩, eJ, e0, hC, hmem⟩ := hL
  have hnq : ¬ qd σ' j := by unfold qd; omega
  have hst := h.stt j hj
  have hqi : ∀ i, i < g.2.2.2 → qd σ' i → i ≠ j ∧ qd σ i := fun i hi q => by
    have c : i ≠ j := fun e => hnq (e ▸ q)
    refine ⟨c, ?_⟩
    unfold qd at *; rw [eJ i hi c] at q; exact q
  have hsub : ∀ i A o, hold g σ' i A o → i ≠ 40 + j ∧ hold g σ i A o := by
    intro i A o q
    rcases q with ⟨q1, q2, q3, q4⟩ | ⟨k, q1, q2, q3, q4⟩
    · rw [eN i _ q1 (by decide) (by decide)] at q2 q3 q4
      exact ⟨by omega, Or.inl ⟨q1, q2, q3, q4⟩⟩
    · have c : k ≠ j := fun e => by rw [e, j8] at q3; omega
      rw [eJ k q2 c] at q3 q4
      exact ⟨by omega, Or.inr ⟨k, q1, q2, q3, q4⟩⟩
  have hM : HLD g σ' ∧ MI g.1 (σ' 4) := by
    rcases hmem with ⟨-, e4⟩ | ⟨r, o, m1, m2, e4⟩
    · exact ⟨h.hld.ext e4 (fun i A o q => (hsub i A o q).2), by rw [e4]; exact h.mi⟩
    · exact h.hld.rem hg.2.1 h.mi (i0 := 40 + j) (Or.inr ⟨j, rfl, hj, m1, m2⟩) e4 hsub
  refine ⟨⟨hM.2, hC, hLM, hF, fun y hy => ?_, ?_, ?_, by rw [e0 5 (by decide) (by decide)]; exact h.qu⟩, hM.1, ?_, ?_, ?_, ?_, ?_⟩
  · by_cases c : y = j
    · rw [c]; omega
    · rw [eJ y hy c]; exact h.stt y hy
  · rw [e0 6 (by decide) (by decide), h.c6]
    exact (cnt_ext 1 (fun b hb => by unfold usd; rw [eN b 0 hb (by decide) (by decide)])).symm
  · rw [e0 7 (by decide) (by decide), h.c7]
    exact (cnt_ext 1 (fun b hb => by
      unfold ths
      by_cases c : b = j
      · rw [c, if_pos (by omega), if_pos (by unfold qd at hq; omega)]
      · rw [eJ b hb c])).symm
  · intro y hy hyu
    rw [eN y 0 hy (by decide) (by decide)] at hyu
    unfold NOK
    rw [eN y 2 hy (by decide) (by decide), eN y 3 hy (by decide) (by decide), eN y 4 hy (by decide) (by decide)]; exact h.nok y hy hyu
  · intro y hy hyu
    rw [eN y 0 hy (by decide) (by decide)] at hyu
    have h1 := h.pin y hy hyu
    have h2 := eP y hy
    rw [pns_one (σ := σ) (i := j) hj (fun i hi c => by
      have e := eJ i hi c
      exact pl1_row (by rw [e]) (by rw [e]) (by rw [e]) (by rw [e]) (by rw [e])), pl1_no hnq]
    omega
  · intro i hi hqq
    obtain ⟨c, hq0⟩ := hqi i hi hqq
    refine (h.jq i hi hq0).keep (fun k _ => by rw [eJ i hi c]) (fun y ht => ?_)
    obtain ⟨t1, t2, t3⟩ := h.tq hi hq0 ht
    have hne := h.own hi hj c hq0 hq ht
    refine ⟨fun k hk => ?_, e2 y t1 t2 hne⟩
    by_cases c1 : k = 1
    · rw [c1]; exact eF y t1 hne
    · exact eN y k t1 hk c1
  · intro i hi
    obtain ⟨r1, r2, r3, r4⟩ := h.res i hi
    unfold RES
    have key : ∀ y : Nat, y < g.2.2.1 → σ (10 + y) 0 = 1 → σ' (10 + y) 0 = 1 := fun y hy hu => by rw [eN y 0 hy (by decide) (by decide)]; exact hu
    by_cases c : i = j
    · subst c
      refine ⟨?_, ?_, fun _ => j8, fun _ => j10⟩
      · rcases j5 with e | ⟨e, -⟩
        · exact Or.inl e
        · rw [e]
          rcases r1 with r1 | ⟨y, r1, r2, r3⟩
          · exact Or.inl r1
          · exact Or.inr ⟨y, r1, r2, key y r2 r3⟩
      · intro _ n2
        rcases j5 with e | ⟨e, e'⟩
        · exact e
        · omega
    · unfold qd at *
      rw [eJ i hi c]
      refine ⟨?_, r2, r3, r4⟩
      rcases r1 with r1 | ⟨y, r1, r2, r3⟩
      · exact Or.inl r1
      · exact Or.inr ⟨y, r1, r2, key y r2 r3⟩
  · intro i i' hi hi' hne e
    have key : ∀ k, k < g.2.2.2 → σ' (40 + k) 5 = -1 ∨ σ' (40 + k) 5 = σ (40 + k) 5 := fun k hk => by
      by_cases c : k = j
      · subst c
        rcases j5 with e | ⟨e, -⟩
        · exact Or.inl e
        · exact Or.inr e
      · rw [eJ k hk c]; exact Or.inr rfl
    rcases key i hi with k1 | k1
    · exact k1
    · rcases key i' hi' with k2 | k2
      · rw [e, k2]
      · rw [k1]; exact h.dst i i' hi hi' hne (by rw [← k1, ← k2]; exact e)
theorem JQ.keep0 {j a b m sa sb sm : Nat} (h : JQ g σ j a b m sa sb sm) (hrow : ∀ k, k = 1 ∨ k = 2 ∨ k = 3 ∨ k = 4 ∨ k = 6 ∨ k = 7 ∨ k = 9 ∨ k = 10 → σ' (40 + j) k = σ (40 + j) k) (hs : ∀ x : Nat, σ (40 + j) 2 = x ∨ σ (40 + j) 3 = x ∨ (σ (40 + j) 1 = 3 ∧ σ (40 + j) 4 = x) → SAM σ σ' x) (hJ : JST g σ' j) : JQ g σ' j a b m sa sb sm := by
  obtain ⟨h1, h2, h3, h4, h5, h6, h7, ⟨p1, p2, p3, p4⟩, -⟩ := h
  have sA := hs a (Or.inl h2)
  have sB := hs b (Or.inr (Or.inl h3))
  refine ⟨?_, ?_, ?_, sA.fn h4, sB.fn h5, ?_, ?_, ⟨?_, ?_, ?_, ?_⟩, hJ⟩
  · rw [hrow 1 (by omega)]; exact h1
  · rw [hrow 2 (by omega)]; exact h2
  · rw [hrow 3 (by omega)]; exact h3
  · unfold JOM
    rw [hrow 1 (by omega), hrow 4 (by omega)]
    rcases h6 with ⟨m1, m2, m3, m4⟩ | h6
    · have sM := hs m (Or.inr (Or.inr ⟨m1, m2⟩))
      exact Or.inl ⟨m1, m2, sM.fn m3, by rw [sM.val]; exact m4⟩
    · exact Or.inr h6
  · rw [hrow 1 (by omega), sB.val]; exact h7
  · rw [hrow 6 (by omega), hrow 1 (by omega)]; exact p1
  · rw [hrow 7 (by omega), hrow 1 (by omega)]; exact p2
  · rw [hrow 9 (by omega), hrow 1 (by omega)]; exact p3
  · rw [hrow 10 (by omega)]; exact p4
def BGM (g : Nat × Nat × Nat × Nat) (σ σ' : St) (j : Nat) : Prop := (σ' (40 + j) 8 = -1 ∧ σ (40 + j) 9 = -1 ∧ σ' 4 = σ 4) ∨ ∃ B o2 : Nat, σ' (40 + j) 8 = B ∧ σ (40 + j) 9 = o2 ∧ MI g.1 (σ' 4) ∧ HB g.1 (σ' 4) B o2 ∧ ∀ x y, HB g.1 (σ 4) x y → HB g.1 (σ' 4) x y ∧ dsj x (2 ^ y) B (2 ^ o2)
/-- a job begins: its result is x, a number that none names -/
theorem IN.beg (h : IN g σ) (hg : GG g) {j x : Nat} (hj : j < g.2.2.2) (hs : σ (40 + j) 0 = 0) (hx : x < g.2.2.1) (hu : σ (10 + x) 0 = 1) (hf : σ (10 + x) 1 = 0) (hp : σ (10 + x) 5 = 0) (hnr : ∀ i, i < g.2.2.2 → σ (40 + i) 5 ≠ x) (hsz : σ (10 + x) 2 = σ (40 + j) 6) (hz : ∀ i : Nat, i < (σ (10 + x) 2).toNat → σ 2 ((σ (10 + x) 3).toNat + i) = 0)
    (hr : ∀ n, n ≠ 3 → n ≠ 4 → n ≠ 10 + x → n ≠ 40 + j → σ' n = σ n) (nx : ∀ k, k ≠ 1 → k ≠ 5 → σ' (10 + x) k = σ (10 + x) k) (n1 : σ' (10 + x) 1 = 1) (n5 : σ' (10 + x) 5 = 1) (jx : ∀ k, k ≠ 0 → k ≠ 5 → k ≠ 8 → σ' (40 + j) k = σ (40 + j) k) (j0 : σ' (40 + j) 0 = 1) (j5 : σ' (40 + j) 5 = x) (hC : CN g σ')
    (hm : BGM g σ σ' j) : IN g σ' := by
  have e2 : σ' 2 = σ 2 := hr 2 (by decide) (by decide) (by omega) (by omega)
  have e0 : σ' 0 = σ 0 := hr 0 (by decide) (by decide) (by omega) (by omega)
  have eN : ∀ k, k < g.2.2.1 → k ≠ x → σ' (10 + k) = σ (10 + k) := fun k hk c => hr _ (by omega) (by omega) (by omega) (by omega)
  have eN0 : ∀ y k, y < g.2.2.1 → k ≠ 1 → k ≠ 5 → σ' (10 + y) k = σ (10 + y) k := fun y k hy k1 k5 => by
    by_cases c : y = x
    · rw [c]; exact nx k k1 k5
    · rw [eN y hy c]
  have eJ : ∀ i, i ≠ j → σ' (40 + i) = σ (40 + i) := fun i c => hr _ (by omega) (by omega) (by omega) (by omega)
  have hqj : qd σ j := Or.inl hs
  have hq' : ∀ i, qd σ' i → qd σ i := fun i q => by
    by_cases c : i = j
    · rw [c]; exact hqj
    · unfold qd at *; rw [eJ i c] at q; exact q
  have hnt : ∀ i, i < g.2.2.2 → qd σ i → ¬ tch σ i x := fun i hi q t => by
    have := (h.tq hi q t).2.2; omega
  have hpl : ∀ i y, pl1 σ' i y = pl1 σ i y := fun i y => by
    by_cases c : i = j
    · subst c
      unfold pl1 qd
      rw [j0, hs, jx 1 (by decide) (by decide) (by decide), jx 2 (by decide) (by decide) (by decide), jx 3 (by decide) (by decide) (by decide), jx 4 (by decide) (by decide) (by decide), if_pos (show (1 : Int) = 0 ∨ (1 : Int) = 1 from Or.inr rfl), if_pos (show (0 : Int) = 0 ∨ (0 : Int) = 1 from Or.inl rfl)]
    · exact pl1_row (by rw [eJ i c]) (by rw [eJ i c]) (by rw [eJ i c]) (by rw [eJ i c]) (by rw [eJ i c])
  have hM : HLD g σ' ∧ MI g.1 (σ' 4) := by
    rcases hm with ⟨m1, m2, e4⟩ | ⟨B, o2, m1, m2, m3, m4, m5⟩
    · refine ⟨h.hld.ext e4 (fun i A o q => ?_), by rw [e4]; exact h.mi⟩
      rcases q with ⟨q1, q2, q3, q4⟩ | ⟨k, q1, q2, q3, q4⟩
      · rw [eN0 i _ q1 (by decide) (by decide)] at q2 q3 q4
        exact Or.inl ⟨q1, q2, q3, q4⟩
      · have c : k ≠ j := fun e => by rw [e, m1] at q3; omega
        rw [eJ k c] at q3 q4
        exact Or.inr ⟨k, q1, q2, q3, q4⟩
    · refine ⟨h.hld.add (i0 := 40 + j) m4 m5 rfl (fun i A o q => ?_), m3⟩
      rcases q with ⟨q1, q2, q3, q4⟩ | ⟨k, q1, q2, q3, q4⟩
      · rw [eN0 i _ q1 (by decide) (by decide)] at q2 q3 q4
        exact Or.inr ⟨by omega, Or.inl ⟨q1, q2, q3, q4⟩⟩
      · by_cases c : k = j
        · subst c
          rw [jx 9 (by decide) (by decide) (by decide)] at q4
          exact Or.inl ⟨q1, by omega, by omega⟩
        · rw [eJ k c] at q3 q4
          exact Or.inr ⟨by omega, Or.inr ⟨k, q1, q2, q3, q4⟩⟩
  refine ⟨⟨hM.2, hC, fun k hk => by rw [e2]; exact h.lm k hk, fun y hy => ?_, fun y hy => ?_, ?_, ?_, by rw [e0]; exact h.qu⟩, hM.1, ?_, ?_, ?_, ?_, ?_⟩
  · by_cases c : y = x
    · rw [c, nx 0 (by decide) (by decide), n1]; exact ⟨Or.inr hu, Or.inr rfl⟩
    · rw [eN y hy c]; exact h.flg y hy
  · by_cases c : y = j
    · rw [c]; omega
    · rw [eJ y c]; exact h.stt y hy
  · rw [e0, h.c6]
    exact (cnt_ext 1 (fun b hb => by unfold usd; rw [eN0 b 0 hb (by decide) (by decide)])).symm
  · rw [e0, h.c7]
    exact (cnt_ext 1 (fun b hb => by
      unfold ths
      by_cases c : b = j
      · rw [c, j0, hs]; rfl
      · rw [eJ b c])).symm
  · intro y hy hyu
    rw [eN0 y 0 hy (by decide) (by decide)] at hyu
    unfold NOK
    rw [eN0 y 2 hy (by decide) (by decide), eN0 y 3 hy (by decide) (by decide), eN0 y 4 hy (by decide) (by decide)]; exact h.nok y hy hyu
  · intro y hy hyu
    rw [eN0 y 0 hy (by decide) (by decide)] at hyu
    have h1 := h.pin y hy hyu
    rw [pns_ext (σ := σ) (fun i _ => hpl i y)]
    by_cases c : y = x
    · subst c; rw [n5, n1]; omega
    · rw [eN y hy c]; exact h1
  · intro i hi hqq
    have hq0 := hq' i hqq
    by_cases c : i = j
    · subst c
      obtain ⟨a, b, m, sa, sb, sm, hJ⟩ := h.jq i hi hq0
      refine ⟨a, b, m, sa, sb, sm, hJ.keep0 (fun k hk => jx k (by omega) (by omega) (by omega)) (fun y ht => ?_) ?_⟩
      · have ht' : tch σ i y := by
          rcases ht with t | t | t
          · exact Or.inl t
          · exact Or.inr (Or.inl t)
          · exact Or.inr (Or.inr (Or.inl t))
        obtain ⟨t1, t2, t3⟩ := h.tq hi hq0 ht'
        have c : y ≠ x := fun e => hnt i hi hq0 (e ▸ ht')
        exact ⟨fun k _ => by rw [eN y t1 c], fun k _ => by rw [e2]⟩
      · refine Or.inr ⟨j0, ⟨x, j5, hx, ?_, n1, ?_, ?_⟩, ?_⟩
        · rw [nx 0 (by decide) (by decide)]; exact hu
        · rw [nx 2 (by decide) (by decide), jx 6 (by decide) (by decide) (by decide)]; exact hsz
        · rw [nx 2 (by decide) (by decide), nx 3 (by decide) (by decide), e2]; exact hz
        · rw [jx 9 (by decide) (by decide) (by decide)]
          rcases hm with ⟨m1, m2, -⟩ | ⟨B, o2, m1, m2, -⟩
          · exact Or.inl ⟨m2, m1⟩
          · exact Or.inr ⟨by omega, by omega⟩
    · refine (h.jq i hi hq0).keep (fun k _ => by rw [eJ i c]) (fun y ht => ?_)
      obtain ⟨t1, t2, t3⟩ := h.tq hi hq0 ht
      have c : y ≠ x := fun e => hnt i hi hq0 (e ▸ ht)
      exact ⟨fun k _ => by rw [eN y t1 c], fun k _ => by rw [e2]⟩
  · intro i hi
    obtain ⟨r1, r2, r3, r4⟩ := h.res i hi
    unfold RES
    have key : ∀ y : Nat, y < g.2.2.1 → σ (10 + y) 0 = 1 → σ' (10 + y) 0 = 1 := fun y hy hu => by rw [eN0 y 0 hy (by decide) (by decide)]; exact hu
    by_cases c : i = j
    · subst c
      exact ⟨Or.inr ⟨x, j5, hx, key x hx hu⟩, fun q => absurd j0 q, fun q => absurd (Or.inr j0) q, fun q => by omega⟩
    · unfold qd at *
      rw [eJ i c]
      refine ⟨?_, r2, r3, r4⟩
      rcases r1 with r1 | ⟨y, r1, r2, r3⟩
      · exact Or.inl r1
      · exact Or.inr ⟨y, r1, r2, key y r2 r3⟩
  · intro i i' hi hi' hne e
    by_cases c : i = j
    · by_cases c' : i' = j
      · omega
      · rw [c, j5, eJ i' c'] at e
        exact absurd e.symm (hnr i' hi')
    · by_cases c' : i' = j
      · rw [c', j5, eJ i c] at e
        exact absurd e (hnr i hi)
      · rw [eJ i c, eJ i' c'] at e
        rw [eJ i c]; exact h.dst i i' hi hi' hne e
/-- a job comes -/
theorem IN.sub (h : IN g σ) (hg : GG g) {j : Nat} (hj : j < g.2.2.2) (hs : σ (40 + j) 0 = -1) (j0 : σ' (40 + j) 0 = 0) (j5 : σ' (40 + j) 5 = σ (40 + j) 5) (j8 : σ' (40 + j) 8 = σ (40 + j) 8) (eJ : ∀ i, i < g.2.2.2 → i ≠ j → σ' (40 + i) = σ (40 + i)) (hJ : JQX g σ' j) (eN : ∀ x k, x < g.2.2.1 → k ≠ 5 → σ' (10 + x) k = σ (10 + x) k) (eP : ∀ x : Nat, x < g.2.2.1 → σ' (10 + x) 5 = σ (10 + x) 5 + pl1 σ' j x) (e2 : σ' 2 = σ 2) (e3 : σ' 3 = σ 3) (e4 : σ' 4 = σ 4) (e05 : σ' 0 5 = σ 0 5) (e06 : σ' 0 6 = σ 0 6) (e07 : σ' 0 7 = σ 0 7 + 1) : IN g σ' := by
  obtain ⟨-, s2, s3, -⟩ := h.res j hj
  have s5 := s2 (by omega) (by omega)
  have s8 := s3 (by unfold qd; omega)
  have hnq : ¬ qd σ j := by unfold qd; omega
  refine ⟨⟨by rw [e4]; exact h.mi, fun k hk => by rw [e3, e4]; exact h.cn k hk, fun k hk => by rw [e2]; exact h.lm k hk, fun y hy => ?_, fun y hy => ?_, ?_, ?_, by rw [e05]; exact h.qu⟩, ?_, ?_, ?_, ?_, ?_, ?_⟩
  · rw [eN y 0 hy (by decide), eN y 1 hy (by decide)]; exact h.flg y hy
  · by_cases c : y = j
    · rw [c]; omega
    · rw [eJ y hy c]; exact h.stt y hy
  · rw [e06, h.c6]
    exact (cnt_ext 1 (fun b hb => by unfold usd; rw [eN b 0 hb (by decide)])).symm
  · have : cnt (ths σ') 1 g.2.2.2 = cnt (zup (ths σ) j 1) 1 g.2.2.2 := cnt_ext 1 (fun b hb => by
      by_cases c : b = j
      · rw [c, zup_s]; unfold ths; rw [if_pos (by omega)]
      · rw [zup_n c]; unfold ths; rw [eJ b hb c])
    rw [this, cnt_up _ _ _ _ hj, if_neg (show ¬ ths σ j = 1 by unfold ths; rw [if_neg (by omega)]; decide), if_pos rfl, e07, h.c7]; omega
  · refine h.hld.ext e4 (fun i A o q => ?_)
    rcases q with ⟨q1, q2, q3, q4⟩ | ⟨k, q1, q2, q3, q4⟩
    · rw [eN i _ q1 (by decide)] at q2 q3 q4
      exact Or.inl ⟨q1, q2, q3, q4⟩
    · have c : k ≠ j := fun e => by rw [e, j8, s8] at q3; omega
      rw [eJ k q2 c] at q3 q4
      exact Or.inr ⟨k, q1, q2, q3, q4⟩
  · intro y hy hyu
    rw [eN y 0 hy (by decide)] at hyu
    unfold NOK
    rw [eN y 2 hy (by decide), eN y 3 hy (by decide), eN y 4 hy (by decide)]; exact h.nok y hy hyu
  · intro y hy hyu
    rw [eN y 0 hy (by decide)] at hyu
    have h1 := h.pin y hy hyu
    rw [pns_one (σ := σ) (i := j) hj (fun i hi c => by
      have e := eJ i hi c
      exact pl1_row (by rw [e]) (by rw [e]) (by rw [e]) (by rw [e]) (by rw [e])), pl1_no hnq, eP y hy, eN y 1 hy (by decide)]
    omega
  · intro i hi hqq
    by_cases c : i = j
    · rw [c]; exact hJ
    · have hq0 : qd σ i := by unfold qd at *; rw [eJ i hi c] at hqq; exact hqq
      refine (h.jq i hi hq0).keep (fun k _ => by rw [eJ i hi c]) (fun y ht => ?_)
      obtain ⟨t1, t2, t3⟩ := h.tq hi hq0 ht
      exact ⟨fun k hk => eN y k t1 (by omega), fun k _ => by rw [e2]⟩
  · intro i hi
    obtain ⟨r1, r2, r3, r4⟩ := h.res i hi
    unfold RES
    by_cases c : i = j
    · subst c
      exact ⟨Or.inl (by omega), fun _ _ => by omega, fun _ => by omega, fun q => by omega⟩
    · unfold qd at *
      rw [eJ i hi c]
      refine ⟨?_, r2, r3, r4⟩
      rcases r1 with r1 | ⟨y, r1, r2, r3⟩
      · exact Or.inl r1
      · exact Or.inr ⟨y, r1, r2, by rw [eN y 0 r2 (by decide)]; exact r3⟩
  · intro i i' hi hi' hne e
    have key : ∀ k, k < g.2.2.2 → σ' (40 + k) 5 = σ (40 + k) 5 := fun k hk => by
      by_cases c : k = j
      · rw [c]; exact j5
      · rw [eJ k hk c]
    rw [key i hi, key i' hi'] at e
    rw [key i hi]; exact h.dst i i' hi hi' hne e
/-- a job is forgotten -/
theorem IN.forget (h : IN g σ) (hg : GG g) {j : Nat} (hj : j < g.2.2.2) (hs : 2 ≤ σ (40 + j) 0) : IN g (up (up (up (up σ (40 + j) 0 (-1)) (40 + j) 5 (-1)) (40 + j) 8 (-1)) 0 7 (σ 0 7 - 1)) := by
  have hr : ∀ n, n ≠ 0 → n ≠ 40 + j → up (up (up (up σ (40 + j) 0 (-1)) (40 + j) 5 (-1)) (40 + j) 8 (-1)) 0 7 (σ 0 7 - 1) n = σ n := fun n h0 h1 => by rw [up_n h0, up_n h1, up_n h1, up_n h1]
  have hj' : up (up (up (up σ (40 + j) 0 (-1)) (40 + j) 5 (-1)) (40 + j) 8 (-1)) 0 7 (σ 0 7 - 1) (40 + j) = zup (zup (zup (σ (40 + j)) 0 (-1)) 5 (-1)) 8 (-1) := by rw [up_n (by omega), up_s, up_s, up_s]
  have h0' : up (up (up (up σ (40 + j) 0 (-1)) (40 + j) 5 (-1)) (40 + j) 8 (-1)) 0 7 (σ 0 7 - 1) 0 = zup (σ 0) 7 (σ 0 7 - 1) := by rw [up_s, up_n (by omega), up_n (by omega), up_n (by omega)]
  generalize up (up (up (up σ (40 + j) 0 (-1)) (40 + j) 5 (-1)) (40 + j) 8 (-1)) 0 7 (σ 0 7 - 1) = σ' at hr hj' h0' ⊢
  have eN : ∀ k, k < g.2.2.1 → σ' (10 + k) = σ (10 + k) := fun k hk => hr _ (by omega) (by omega)
  have eJ : ∀ i, i ≠ j → σ' (40 + i) = σ (40 + i) := fun i c => hr _ (by omega) (by omega)
  have j0 : σ' (40 + j) 0 = -1 := by rw [hj', zup_n (by decide), zup_n (by decide), zup_s]
  have j5 : σ' (40 + j) 5 = -1 := by rw [hj', zup_n (by decide), zup_s]
  have j8 : σ' (40 + j) 8 = -1 := by rw [hj', zup_s]
  have hnq : ¬ qd σ j := by unfold qd; omega
  have hnq' : ¬ qd σ' j := by unfold qd; omega
  have e2 : σ' 2 = σ 2 := hr 2 (by decide) (by omega)
  have e3 : σ' 3 = σ 3 := hr 3 (by decide) (by omega)
  have e4 : σ' 4 = σ 4 := hr 4 (by decide) (by omega)
  refine ⟨⟨by rw [e4]; exact h.mi, fun k hk => by rw [e3, e4]; exact h.cn k hk, fun k hk => by rw [e2]; exact h.lm k hk, fun y hy => by rw [eN y hy]; exact h.flg y hy, fun y hy => ?_, ?_, ?_, by rw [h0', zup_n (by decide)]; exact h.qu⟩, ?_, ?_, ?_, ?_, ?_, ?_⟩
  · by_cases c : y = j
    · rw [c]; omega
    · rw [eJ y c]; exact h.stt y hy
  · rw [h0', zup_n (by decide), h.c6]
    exact (cnt_ext 1 (fun b hb => by unfold usd; rw [eN b hb])).symm
  · have : cnt (ths σ') 1 g.2.2.2 = cnt (zup (ths σ) j 0) 1 g.2.2.2 := cnt_ext 1 (fun b hb => by
      by_cases c : b = j
      · rw [c, zup_s]; unfold ths; rw [if_neg (by omega)]
      · rw [zup_n c]; unfold ths; rw [eJ b c])
    rw [this, cnt_up _ _ _ _ hj, if_pos (show ths σ j = 1 by unfold ths; rw [if_pos (by omega)]), if_neg (by decide), h0', zup_s, h.c7]; omega
  · refine h.hld.ext e4 (fun i A o q => ?_)
    rcases q with ⟨q1, q2, q3, q4⟩ | ⟨k, q1, q2, q3, q4⟩
    · rw [eN i q1] at q2 q3 q4
      exact Or.inl ⟨q1, q2, q3, q4⟩
    · have c : k ≠ j := fun e => by rw [e, j8] at q3; omega
      rw [eJ k c] at q3 q4
      exact Or.inr ⟨k, q1, q2, q3, q4⟩
  · intro y hy hyu
    rw [eN y hy] at hyu
    unfold NOK
    rw [eN y hy]; exact h.nok y hy hyu
  · intro y hy hyu
    rw [eN y hy] at hyu ⊢
    have h1 := h.pin y hy hyu
    rw [pns_one (σ := σ) (i := j) hj (fun i hi c => by
      have e := eJ i c
      exact pl1_row (by rw [e]) (by rw [e]) (by rw [e]) (by rw [e]) (by rw [e])), pl1_no hnq, pl1_no hnq']
    omega
  · intro i hi hqq
    have c : i ≠ j := fun e => hnq' (e ▸ hqq)
    have hq0 : qd σ i := by unfold qd at *; rw [eJ i c] at hqq; exact hqq
    refine (h.jq i hi hq0).keep (fun k _ => by rw [eJ i c]) (fun y ht => ?_)
    obtain ⟨t1, t2, t3⟩ := h.tq hi hq0 ht
    exact ⟨fun k hk => by rw [eN y t1], fun k _ => by rw [e2]⟩
  · intro i hi
    obtain ⟨r1, r2, r3, r4⟩ := h.res i hi
    unfold RES
    by_cases c : i = j
    · subst c
      exact ⟨Or.inl j5, fun _ _ => j5, fun _ => j8, fun q => by omega⟩
    · unfold qd at *
      rw [eJ i c]
      refine ⟨?_, r2, r3, r4⟩
      rcases r1 with r1 | ⟨y, r1, r2, r3⟩
      · exact Or.inl r1
      · exact Or.inr ⟨y, r1, r2, by rw [eN y r2]; exact r3⟩
  · intro i i' hi hi' hne e
    have key : ∀ k, k < g.2.2.2 → σ' (40 + k) 5 = -1 ∨ σ' (40 + k) 5 = σ (40 + k) 5 := fun k hk => by
      by_cases c : k = j
      · rw [c]; exact Or.inl j5
      · rw [eJ k c]; exact Or.inr rfl
    rcases key i hi with k1 | k1
    · exact k1
    · rcases key i' hi' with k2 | k2
      · rw [e, k2]
      · rw [k1]; exact h.dst i i' hi hi' hne (by rw [← k1, ← k2]; exact e)
end ST
