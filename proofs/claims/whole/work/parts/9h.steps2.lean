/-! MORE STEPS: a number comes, goes; a job leaves, begins, comes -/
section ST
variable {g : Nat × Nat × Nat × Nat} {σ σ' : St}
theorem IN.pl0 (h : IN g σ) {x : Nat} (hx : ¬ (σ (10 + x) 0 = 1 ∧ 1 ≤ σ (10 + x) 5)) {j : Nat} (hj : j < g.2.2.2) : pl1 σ j x = 0 := by
  by_cases hq : qd σ j
  · have key : ¬ tch σ j x := fun ht => by
      obtain ⟨-, t2, t3⟩ := h.tq hj hq ht
      exact hx ⟨t2, t3⟩
    unfold pl1
    rw [if_pos hq, if_neg (fun e => key (Or.inl e)), if_neg (fun e => key (Or.inr (Or.inl e))), if_neg (fun e => key (Or.inr (Or.inr (Or.inl e))))]
    rfl
  · exact pl1_no hq
theorem pns_0 {x : Int} : ∀ {n : Nat}, (∀ j, j < n → pl1 σ j x = 0) → pns σ x n = 0
  | 0, _ => rfl
  | n + 1, h => by
    show pns σ x n + pl1 σ n x = 0
    rw [pns_0 (fun j hj => h j (by omega)), h n (by omega)]; rfl
/-- a number comes -/
theorem IN.occ (h : IN g σ) (hg : GG g) (hnp : g.2.1 = 2 ^ g.1) {σ1 : St} {x n o A : Nat} (hx : x < g.2.2.1) (hu : σ (10 + x) 0 = 0) (hv : gvP g σ σ1 o A) (ho : ordP n o) (hn : 1 ≤ n) (hO : OCC σ1 σ' x n o A) : IN g σ' := by
  obtain ⟨m1, m2, m3, m4, m5⟩ := hv.mi hg.2.1 hnp h.mi
  obtain ⟨o0, o1, o2, o3, o4, o5, e2, e0, hr⟩ := hO
  have hno : n ≤ 2 ^ o := by have := ho.nat; rwa [Int.toNat_natCast] at this
  have e3 : σ' 3 = σ1 3 := hr 3 (by decide) (by decide) (by omega)
  have e4 : σ' 4 = σ1 4 := hr 4 (by decide) (by decide) (by omega)
  have eN : ∀ k, k ≠ x → σ' (10 + k) = σ (10 + k) := fun k hk => by rw [hr _ (by omega) (by omega) (by omega), m5 _ (by omega) (by omega)]
  have eJ : ∀ k, σ' (40 + k) = σ (40 + k) := fun k => by rw [hr _ (by omega) (by omega) (by omega), m5 _ (by omega) (by omega)]
  have e22 : σ' 2 = fl (σ 2) A (A + n) 0 := by rw [e2, m5 2 (by decide) (by decide)]
  have e00 : σ' 0 = zup (σ 0) 6 (σ 0 6 + 1) := by rw [e0, m5 0 (by decide) (by decide)]
  have hne : ∀ {y : Nat}, σ (10 + y) 0 = 1 → y ≠ x := fun hy e => by rw [e, hu] at hy; omega
  have hS : ∀ y, y < g.2.2.1 → σ (10 + y) 0 = 1 → SAM σ σ' y := by
    intro y hy hyu
    obtain ⟨A', n', o', d1, d2, d3, -, d5, -, d7, -, d8⟩ := h.num hnp hy hyu
    refine ⟨fun k _ => by rw [eN y (hne hyu)], fun k hk => ?_⟩
    have := (m4 A' o' d7).2
    unfold dsj at this
    rw [d1, Int.toNat_natCast]
    rw [d2, Int.toNat_natCast] at hk
    rw [e22]
    unfold fl
    rw [if_neg (by omega)]
  refine ⟨⟨by rw [e4]; exact m1, fun k hk => by rw [e3, e4]; exact m3 k hk, fun k hk => ?_, fun y hy => ?_, fun y hy => by rw [eJ]; exact h.stt y hy, ?_, ?_, by rw [e00, zup_n (by decide)]; exact h.qu⟩, ?_, ?_, ?_, ?_, ?_, ?_⟩
  · rw [e22]; unfold fl
    split
    · decide
    · exact h.lm k hk
  · by_cases c : y = x
    · rw [c]; exact ⟨Or.inr o0, Or.inl o1⟩
    · rw [eN y c]; exact h.flg y hy
  · have : cnt (usd σ') 1 g.2.2.1 = cnt (zup (usd σ) x 1) 1 g.2.2.1 := cnt_ext 1 (fun b _ => by
      by_cases c : b = x
      · rw [c, zup_s]; exact o0
      · rw [zup_n c]; unfold usd; rw [eN b c])
    rw [this, cnt_up _ _ _ _ hx, if_neg (show ¬ usd σ x = 1 by unfold usd; omega), if_pos rfl, e00, zup_s, h.c6]; omega
  · rw [e00, zup_n (by decide), h.c7]
    exact (cnt_ext 1 (fun b _ => by unfold ths; rw [eJ])).symm
  · refine h.hld.add (i0 := x) m2 m4 e4 (fun i A' o' q => ?_)
    rcases q with ⟨q1, q2, q3, q4⟩ | ⟨j, q1, q2, q3, q4⟩
    · by_cases c : i = x
      · subst c
        exact Or.inl ⟨rfl, by omega, by omega⟩
      · rw [eN i c] at q2 q3 q4
        exact Or.inr ⟨c, Or.inl ⟨q1, q2, q3, q4⟩⟩
    · rw [eJ] at q3 q4
      exact Or.inr ⟨by omega, Or.inr ⟨j, q1, q2, q3, q4⟩⟩
  · intro y hy hyu
    by_cases c : y = x
    · rw [c]; exact ⟨A, n, o, o3, o2, o4, hn, ho⟩
    · rw [eN y c] at hyu
      unfold NOK
      rw [eN y c]; exact h.nok y hy hyu
  · intro y hy hyu
    rw [pns_ext (σ := σ) (fun j _ => pl1_row (by rw [eJ]) (by rw [eJ]) (by rw [eJ]) (by rw [eJ]) (by rw [eJ]))]
    by_cases c : y = x
    · rw [c, o5, o1, pns_0 (fun j hj => h.pl0 (x := x) (by omega) hj)]; rfl
    · rw [eN y c] at hyu ⊢
      exact h.pin y hy hyu
  · intro j hj hq
    have hq0 : qd σ j := by unfold qd at *; rw [eJ] at hq; exact hq
    refine (h.jq j hj hq0).keep (fun k _ => by rw [eJ]) (fun y ht => ?_)
    obtain ⟨t1, t2, t3⟩ := h.tq hj hq0 ht
    exact hS y t1 t2
  · intro j hj
    obtain ⟨r1, r2, r3, r4⟩ := h.res j hj
    unfold RES qd at *
    rw [eJ]
    refine ⟨?_, r2, r3, r4⟩
    rcases r1 with r1 | ⟨y, r1, r2, r3⟩
    · exact Or.inl r1
    · exact Or.inr ⟨y, r1, r2, by rw [eN y (hne r3)]; exact r3⟩
  · intro j j' hj hj' hne e
    rw [eJ, eJ] at e
    rw [eJ]; exact h.dst j j' hj hj' hne e
/-- a number goes -/
theorem IN.vac (h : IN g σ) (hg : GG g) {x A o : Nat} (hx : x < g.2.2.1) (hu : σ (10 + x) 0 = 1) (hA : σ (10 + x) 3 = A) (ho : σ (10 + x) 4 = o) (hnt : ∀ j, j < g.2.2.2 → qd σ j → ¬ tch σ j x) (hnr : ∀ j, j < g.2.2.2 → σ (40 + j) 5 ≠ x) (hV : VAC g σ σ' x A o) : IN g σ' := by
  obtain ⟨v4, vC, vx, v0, hr⟩ := hV
  have e2 : σ' 2 = σ 2 := hr 2 (by decide) (by decide) (by decide) (by omega)
  have eN : ∀ k, k ≠ x → σ' (10 + k) = σ (10 + k) := fun k hk => hr _ (by omega) (by omega) (by omega) (by omega)
  have eJ : ∀ k, σ' (40 + k) = σ (40 + k) := fun k => hr _ (by omega) (by omega) (by omega) (by omega)
  have ux : σ' (10 + x) 0 = 0 := by rw [vx, zup_s]
  have hne : ∀ {y : Nat}, σ' (10 + y) 0 = 1 → y ≠ x := fun hy e => by rw [e, ux] at hy; omega
  obtain ⟨H1, H2⟩ := h.hld.rem (σ' := σ') hg.2.1 h.mi (i0 := x) (A0 := A) (o0 := o) (Or.inl ⟨hx, hu, hA, ho⟩) v4 (fun i A' o' q => by
    rcases q with ⟨q1, q2, q3, q4⟩ | ⟨j, q1, q2, q3, q4⟩
    · have c := hne q2
      rw [eN i c] at q2 q3 q4
      exact ⟨c, Or.inl ⟨q1, q2, q3, q4⟩⟩
    · rw [eJ] at q3 q4
      exact ⟨by omega, Or.inr ⟨j, q1, q2, q3, q4⟩⟩)
  refine ⟨⟨H2, vC, fun k hk => by rw [e2]; exact h.lm k hk, fun y hy => ?_, fun y hy => by rw [eJ]; exact h.stt y hy, ?_, ?_, by rw [v0, zup_n (by decide)]; exact h.qu⟩, H1, ?_, ?_, ?_, ?_, ?_⟩
  · by_cases c : y = x
    · rw [c, ux]
      refine ⟨Or.inl rfl, ?_⟩
      rw [vx, zup_n (by decide)]; exact (h.flg x hx).2
    · rw [eN y c]; exact h.flg y hy
  · have : cnt (usd σ') 1 g.2.2.1 = cnt (zup (usd σ) x 0) 1 g.2.2.1 := cnt_ext 1 (fun b _ => by
      by_cases c : b = x
      · rw [c, zup_s]; exact ux
      · rw [zup_n c]; unfold usd; rw [eN b c])
    rw [this, cnt_up _ _ _ _ hx, if_pos (show usd σ x = 1 from hu), if_neg (by decide), v0, zup_s, h.c6]; omega
  · rw [v0, zup_n (by decide), h.c7]
    exact (cnt_ext 1 (fun b _ => by unfold ths; rw [eJ])).symm
  · intro y hy hyu
    have c := hne hyu
    rw [eN y c] at hyu
    unfold NOK
    rw [eN y c]; exact h.nok y hy hyu
  · intro y hy hyu
    rw [pns_ext (σ := σ) (fun j _ => pl1_row (by rw [eJ]) (by rw [eJ]) (by rw [eJ]) (by rw [eJ]) (by rw [eJ]))]
    have c := hne hyu
    rw [eN y c] at hyu ⊢
    exact h.pin y hy hyu
  · intro j hj hq
    have hq0 : qd σ j := by unfold qd at *; rw [eJ] at hq; exact hq
    refine (h.jq j hj hq0).keep (fun k _ => by rw [eJ]) (fun y ht => ?_)
    have c : y ≠ x := fun e => hnt j hj hq0 (e ▸ ht)
    exact ⟨fun k _ => by rw [eN y c], fun k _ => by rw [e2]⟩
  · intro j hj
    obtain ⟨r1, r2, r3, r4⟩ := h.res j hj
    unfold RES qd at *
    rw [eJ]
    refine ⟨?_, r2, r3, r4⟩
    rcases r1 with r1 | ⟨y, r1, r2, r3⟩
    · exact Or.inl r1
    · exact Or.inr ⟨y, r1, r2, by rw [eN y (fun e => hnr j hj (by omega))]; exact r3⟩
  · intro j j' hj hj' hne e
    rw [eJ, eJ] at e
    rw [eJ]; exact h.dst j j' hj hj' hne e
/-- the results that are x are none now -/
theorem IN.clr (h : IN g σ) {x : Nat} (hnt : ∀ j, j < g.2.2.2 → qd σ j → ¬ tch σ j x) (hx : x < g.2.2.1) (hH : g.2.2.1 ≤ 24) : IN g (clrU σ x g.2.2.2) := by
  have eN : ∀ k, k < g.2.2.1 → clrU σ x g.2.2.2 (10 + k) = σ (10 + k) := fun k hk => clrU_lo (by omega)
  have eJ : ∀ j k, k ≠ 5 → clrU σ x g.2.2.2 (40 + j) k = σ (40 + j) k := fun j k hk => by
    unfold clrU
    split
    · rw [zup_n hk]
    · rfl
  have e5 : ∀ j, j < g.2.2.2 → (σ (40 + j) 5 = x ∧ clrU σ x g.2.2.2 (40 + j) 5 = -1) ∨ (σ (40 + j) 5 ≠ x ∧ clrU σ x g.2.2.2 (40 + j) 5 = σ (40 + j) 5) := fun j hj => by
    by_cases c : σ (40 + j) 5 = x
    · refine Or.inl ⟨c, ?_⟩
      unfold clrU
      rw [if_pos ⟨by omega, by omega, c⟩, zup_s]
    · refine Or.inr ⟨c, ?_⟩
      unfold clrU
      rw [if_neg (fun q => c q.2.2)]
  have hpl : ∀ j y, pl1 (clrU σ x g.2.2.2) j y = pl1 σ j y := fun j y => pl1_row (eJ j 0 (by decide)) (eJ j 1 (by decide)) (eJ j 2 (by decide)) (eJ j 3 (by decide)) (eJ j 4 (by decide))
  have l0 : clrU σ x g.2.2.2 0 = σ 0 := clrU_lo (by omega)
  have l2 : clrU σ x g.2.2.2 2 = σ 2 := clrU_lo (by omega)
  have l3 : clrU σ x g.2.2.2 3 = σ 3 := clrU_lo (by omega)
  have l4 : clrU σ x g.2.2.2 4 = σ 4 := clrU_lo (by omega)
  refine ⟨⟨by rw [l4]; exact h.mi, fun k hk => by rw [l3, l4]; exact h.cn k hk, fun k hk => by rw [l2]; exact h.lm k hk, fun y hy => by rw [eN y hy]; exact h.flg y hy, fun y hy => by rw [eJ y 0 (by decide)]; exact h.stt y hy, ?_, ?_, by rw [l0]; exact h.qu⟩, ?_, ?_, ?_, ?_, ?_, ?_⟩
  · rw [l0, h.c6]
    exact (cnt_ext 1 (fun b hb => by unfold usd; rw [eN b hb])).symm
  · rw [l0, h.c7]
    exact (cnt_ext 1 (fun b _ => by unfold ths; rw [eJ b 0 (by decide)])).symm
  · refine h.hld.ext l4 (fun i A o q => ?_)
    rcases q with ⟨q1, q2, q3, q4⟩ | ⟨j, q1, q2, q3, q4⟩
    · rw [eN i q1] at q2 q3 q4
      exact Or.inl ⟨q1, q2, q3, q4⟩
    · rw [eJ j 8 (by decide)] at q3
      rw [eJ j 9 (by decide)] at q4
      exact Or.inr ⟨j, q1, q2, q3, q4⟩
  · intro y hy hyu
    rw [eN y hy] at hyu
    unfold NOK
    rw [eN y hy]; exact h.nok y hy hyu
  · intro y hy hyu
    rw [pns_ext (σ := σ) (fun j _ => hpl j y)]
    rw [eN y hy] at hyu ⊢
    exact h.pin y hy hyu
  · intro j hj hq
    have hq0 : qd σ j := by unfold qd at *; rw [eJ j 0 (by decide)] at hq; exact hq
    have h5 : clrU σ x g.2.2.2 (40 + j) 5 = σ (40 + j) 5 := by
      rcases e5 j hj with ⟨c, -⟩ | ⟨-, c⟩
      · exfalso
        rcases hq0 with s0 | s1
        · have := (h.res j hj).2.1 (by omega) (by omega); omega
        · exact hnt j hj (Or.inr s1) (Or.inr (Or.inr (Or.inr ⟨s1, c⟩)))
      · exact c
    refine (h.jq j hj hq0).keep (fun k _ => ?_) (fun y ht => ?_)
    · by_cases c : k = 5
      · rw [c]; exact h5
      · exact eJ j k c
    · obtain ⟨t1, t2, t3⟩ := h.tq hj hq0 ht
      exact ⟨fun k _ => by rw [eN y t1], fun k _ => by rw [l2]⟩
  · intro j hj
    obtain ⟨r1, r2, r3, r4⟩ := h.res j hj
    unfold RES qd at *
    rw [eJ j 0 (by decide), eJ j 8 (by decide), eJ j 10 (by decide)]
    refine ⟨?_, ?_, r3, r4⟩
    · rcases e5 j hj with ⟨-, c⟩ | ⟨-, c⟩
      · exact Or.inl c
      · rw [c]
        rcases r1 with r1 | ⟨y, r1, r2, r3⟩
        · exact Or.inl r1
        · exact Or.inr ⟨y, r1, r2, by rw [eN y r2]; exact r3⟩
    · intro s1 s2
      have := r2 s1 s2
      rcases e5 j hj with ⟨-, c⟩ | ⟨-, c⟩
      · exact c
      · rw [c]; exact this
  · intro j j' hj hj' hne e
    rcases e5 j hj with ⟨-, c⟩ | ⟨c1, c⟩
    · exact c
    · rcases e5 j' hj' with ⟨-, d⟩ | ⟨d1, d⟩
      · rw [e, d]
      · rw [c, d] at e
        rw [c]; exact h.dst j j' hj hj' hne e
/-- a job's work goes down -/
theorem IN.work (h : IN g σ) {j : Nat} {w : Int} (hj : j < g.2.2.2) (hs : σ (40 + j) 0 = 1) (hw : 0 ≤ w ∧ w ≤ 1000000000000000) (hH : g.2.2.1 ≤ 24) : IN g (up σ (40 + j) 10 w) := by
  have eN : ∀ k, k < g.2.2.1 → up σ (40 + j) 10 w (10 + k) = σ (10 + k) := fun k hk => up_n (by omega)
  have eJ : ∀ i k, k ≠ 10 → up σ (40 + j) 10 w (40 + i) k = σ (40 + i) k := fun i k hk => by
    by_cases c : i = j
    · rw [c, up_s, zup_n hk]
    · rw [up_n (by omega)]
  have e10 : ∀ i, i ≠ j → up σ (40 + j) 10 w (40 + i) = σ (40 + i) := fun i c => up_n (by omega)
  have hpl : ∀ i y, pl1 (up σ (40 + j) 10 w) i y = pl1 σ i y := fun i y => pl1_row (eJ i 0 (by decide)) (eJ i 1 (by decide)) (eJ i 2 (by decide)) (eJ i 3 (by decide)) (eJ i 4 (by decide))
  have lo : ∀ n, n < 10 → up σ (40 + j) 10 w n = σ n := fun n hn => up_n (by omega)
  refine ⟨⟨by rw [lo 4 (by decide)]; exact h.mi, fun k hk => by rw [lo 3 (by decide), lo 4 (by decide)]; exact h.cn k hk, fun k hk => by rw [lo 2 (by decide)]; exact h.lm k hk, fun y hy => by rw [eN y hy]; exact h.flg y hy, fun y hy => by rw [eJ y 0 (by decide)]; exact h.stt y hy, ?_, ?_, by rw [lo 0 (by decide)]; exact h.qu⟩, ?_, ?_, ?_, ?_, ?_, ?_⟩
  · rw [lo 0 (by decide), h.c6]
    exact (cnt_ext 1 (fun b hb => by unfold usd; rw [eN b hb])).symm
  · rw [lo 0 (by decide), h.c7]
    exact (cnt_ext 1 (fun b _ => by unfold ths; rw [eJ b 0 (by decide)])).symm
  · refine h.hld.ext (lo 4 (by decide)) (fun i A o q => ?_)
    rcases q with ⟨q1, q2, q3, q4⟩ | ⟨j, q1, q2, q3, q4⟩
    · rw [eN i q1] at q2 q3 q4
      exact Or.inl ⟨q1, q2, q3, q4⟩
    · rw [eJ j 8 (by decide)] at q3
      rw [eJ j 9 (by decide)] at q4
      exact Or.inr ⟨j, q1, q2, q3, q4⟩
  · intro y hy hyu
    rw [eN y hy] at hyu
    unfold NOK
    rw [eN y hy]; exact h.nok y hy hyu
  · intro y hy hyu
    rw [pns_ext (σ := σ) (fun j _ => hpl j y)]
    rw [eN y hy] at hyu ⊢
    exact h.pin y hy hyu
  · intro i hi hq
    have hq0 : qd σ i := by unfold qd at *; rw [eJ i 0 (by decide)] at hq; exact hq
    obtain ⟨a, b, m, sa, sb, sm, hJ⟩ := h.jq i hi hq0
    have hw0 := hJ.2.2.2.2.2.2.2.1.2.2.2
    refine ⟨a, b, m, sa, sb, sm, hJ.keep (fun k hk => eJ i k (by omega)) ?_ (fun y ht => ?_)⟩
    · by_cases c : i = j
      · rw [c, up_s, zup_s]; exact hw
      · rw [e10 i c]; exact hw0
    · obtain ⟨t1, t2, t3⟩ := h.tq hi hq0 ht
      exact ⟨fun k _ => by rw [eN y t1], fun k _ => by rw [lo 2 (by decide)]⟩
  · intro i hi
    obtain ⟨r1, r2, r3, r4⟩ := h.res i hi
    unfold RES qd at *
    rw [eJ i 0 (by decide), eJ i 8 (by decide), eJ i 5 (by decide)]
    refine ⟨?_, r2, r3, fun s2 => ?_⟩
    · rcases r1 with r1 | ⟨y, r1, r2, r3⟩
      · exact Or.inl r1
      · exact Or.inr ⟨y, r1, r2, by rw [eN y r2]; exact r3⟩
    · rw [e10 i (fun e => by rw [e] at s2; omega)]; exact r4 s2
  · intro i i' hi hi' hne e
    rw [eJ i 5 (by decide), eJ i' 5 (by decide)] at e
    rw [eJ i 5 (by decide)]; exact h.dst i i' hi hi' hne e
end ST
