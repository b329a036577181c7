/-! BOTH BEGIN: the first states, their worlds -/
def sg0 (qn : Int) (f3 f4 : Nat → Int) : St := fun n k => if n = 0 then (if k = 5 then qn else 0) else if n = 3 then f3 k else if n = 4 then f4 k else if 40 ≤ n then (if k = 0 ∨ k = 5 ∨ k = 8 ∨ k = 9 then -1 else 0) else 0
theorem up_same {σ : St} {n k : Nat} {z : Int} (h : σ n k = z) : up σ n k z = σ := by
  funext a
  by_cases c : a = n
  · rw [c, up_s, zup_same h]
  · rw [up_n c]
theorem sg0_ini {g : Nat × Nat × Nat × Nat} {qn : Int} {f3 f4 : Nat → Int} (hg : GG g) (h4 : ∀ b, b < g.2.1 → f4 b = if b = 0 then (g.1 : Int) else -1) (h3 : ∀ k, k ≤ g.1 → f3 k = if k = g.1 then 1 else 0) : INI g (sg0 qn f3 f4) (sg0 qn f3 f4) := by
  refine ⟨sg0 qn f3 f4, ⟨fun _ _ _ => rfl, h4, h3⟩, ?_⟩
  have e1 : up (sg0 qn f3 f4) 8 2 0 = sg0 qn f3 f4 := up_same rfl
  have e2 : iniN (sg0 qn f3 f4) g.2.2.1 = sg0 qn f3 f4 := by
    funext q
    unfold iniN
    split
    · refine zup_same ?_
      unfold sg0
      rw [if_neg (by omega), if_neg (by omega), if_neg (by omega), if_neg (by omega)]
    · rfl
  have e3 : iniJ (sg0 qn f3 f4) g.2.2.2 = sg0 qn f3 f4 := by
    funext q
    unfold iniJ
    split
    · have e : ∀ k, k = 0 ∨ k = 5 ∨ k = 8 ∨ k = 9 → sg0 qn f3 f4 q k = -1 := fun k hk => by
        unfold sg0
        rw [if_neg (by omega), if_neg (by omega), if_neg (by omega), if_pos (by omega), if_pos hk]
      rw [zup_same (e 0 (by omega)), zup_same (e 5 (by omega)), zup_same (e 8 (by omega))]
    · rfl
  rw [e1, e2, e3, up_same (show sg0 qn f3 f4 0 6 = 0 from rfl), up_same (show sg0 qn f3 f4 0 7 = 0 from rfl), up_same (show sg0 qn f3 f4 0 8 = 0 from rfl)]
theorem sg0_inv {g : Nat × Nat × Nat × Nat} {qn : Int} {f3 f4 : Nat → Int} (hg : GG g) (hnp : g.2.1 = 2 ^ g.1) (hq : 1 ≤ qn ∧ qn ≤ 2000) (h4 : ∀ b, b < g.2.1 → f4 b = if b = 0 then (g.1 : Int) else -1) (h3 : ∀ k, k ≤ g.1 → f3 k = if k = g.1 then 1 else 0) : INV g (sg0 qn f3 f4) [] := by
  refine INV.init hg hnp hq (fun i hi => ?_) (fun x hx => Or.inl ?_) ⟨Int.le_refl 0, ?_⟩ (sg0_ini hg h4 h3)
  · show (0 : Int) ≤ 0 ∧ (0 : Int) < 2147483648
    decide
  · unfold sg0
    rw [if_neg (by omega), if_neg (by omega), if_neg (by omega), if_neg (by omega)]
  · show (0 : Int) < _
    omega
theorem rel_0 {g : Nat × Nat × Nat × Nat} {qn : Int} {f3 f4 : Nat → Int} {ρ : St} (hg : GG g) (hnp : g.2.1 = 2 ^ g.1) (h4 : ∀ b, b < g.2.1 → f4 b = if b = 0 then (g.1 : Int) else -1) (h3 : ∀ k, k ≤ g.1 → f3 k = if k = g.1 then 1 else 0) (hB : BEG (rho0 (g.1 : Int) (g.2.2.2 : Int) (g.2.2.1 : Int) qn) ρ) : REL g (sg0 qn f3 f4) ρ [] :=
  REL.init hg hnp ⟨⟨rfl, rfl, rfl⟩, rfl⟩ (sg0_ini hg h4 h3) hB
theorem arrV_ext {cA : ClassId} {N : Nat} {f f' : Nat → Value} (h : ∀ j, j < N → f j = f' j) : arrV cA N f = arrV cA N f' := by
  unfold arrV
  congr 1
  congr 1
  funext j
  exact h j.val j.isLt
theorem kfin_lt {D : va_G} {ad : Nat → Nat} {pl J Hn n : Nat} {qn : Int} {f3 f4 : Nat → Int} {x : va_E} (hJ : J ≤ 12) (hH : Hn ≤ 24) (h : kfin D ad pl J Hn qn f3 f4 n = some x) : n < 10 ∨ (10 ≤ n ∧ n < 10 + Hn) ∨ (40 ≤ n ∧ n < 40 + J) := by
  unfold kfin kq at h
  by_cases c : n < 10
  · exact Or.inl c
  · rw [if_neg (by omega), if_neg (by omega), if_neg (by omega), if_neg (by omega), if_neg (by omega)] at h
    by_cases d : 10 ≤ n ∧ n < 10 + Hn
    · exact Or.inr (Or.inl d)
    · rw [if_neg d] at h
      by_cases e : 40 ≤ n ∧ n < 40 + J
      · exact Or.inr (Or.inr e)
      · rw [if_neg e] at h; cases h
/-- the kernel's world out of what its constructor left -/
theorem kfin_hw {D : va_G} {a sz pl J Hn : Nat} {qn : Int} {f3 f4 : Nat → Int} {cs : Nat → va_E} {H : Heap} (ha : a < sz) (hJ : J ≤ 12) (hH : Hn ≤ 24) (h0 : kfin D (adKr a sz J Hn) pl J Hn qn f3 f4 0 = some (cs 0)) (h1 : ∀ i, i < 9 + J + Hn → ∃ n, kfin D (adKr a sz J Hn) pl J Hn qn f3 f4 n = some (cs (i + 1)) ∧ adKr a sz J Hn n = sz + i) (c0 : va_at D vwCl (a, cs 0) H) (c1 : ∀ i, i < 9 + J + Hn → va_at D vwCl (sz + i, cs (i + 1)) H) : hw D (adKr a sz J Hn) (kfin D (adKr a sz J Hn) pl J Hn qn f3 f4) H := by
  obtain ⟨⟨hin, -, hA0, -⟩, hA, hA7, hA6, hA8, hA9, hAj, hAh⟩ := ad_ker a sz J Hn ha hJ hH
  intro n x hx
  have hlt := kfin_lt hJ hH hx
  refine ⟨by omega, ?_⟩
  by_cases c : n = 0
  · subst c
    rw [h0] at hx
    cases hx
    rw [hA0]; exact c0
  · obtain ⟨i, hi, hai⟩ : ∃ i, i < 9 + J + Hn ∧ adKr a sz J Hn n = sz + i := by
      rcases (show (1 ≤ n ∧ n ≤ 5) ∨ n = 7 ∨ n = 6 ∨ n = 8 ∨ n = 9 ∨ (10 ≤ n ∧ n < 10 + Hn) ∨ (40 ≤ n ∧ n < 40 + J) by omega) with d | d | d | d | d | d | d
      · exact ⟨n - 1, by omega, hA n d.1 d.2⟩
      · exact ⟨5, by omega, by rw [d]; exact hA7⟩
      · exact ⟨6 + J, by omega, by rw [d, hA6]; omega⟩
      · exact ⟨7 + J + Hn, by omega, by rw [d, hA8]; omega⟩
      · exact ⟨8 + J + Hn, by omega, by rw [d, hA9]; omega⟩
      · exact ⟨7 + J + (n - 10), by omega, by rw [show n = 10 + (n - 10) by omega, hAh (n - 10) (by omega)]; omega⟩
      · exact ⟨6 + (n - 40), by omega, by rw [show n = 40 + (n - 40) by omega, hAj (n - 40) (by omega)]; omega⟩
    obtain ⟨n', e1, e2⟩ := h1 i hi
    have hlt' := kfin_lt hJ hH e1
    obtain rfl : n' = n := hin n' n (by omega) (by omega) (by rw [e2, hai])
    rw [e1] at hx
    cases hx
    rw [hai]
    exact c1 i hi
theorem kc_hw {D : va_G} {ad : Nat → Nat} {pl J Hn : Nat} {qn : Int} {f3 f4 : Nat → Int} {H : Heap} (hJ : J ≤ 12) (hH : Hn ≤ 24) (h : hw D ad (kfin D ad pl J Hn qn f3 f4) H) : hw D ad (kc D ad (pl, 2 ^ pl, Hn, J) (sg0 qn f3 f4)) H := by
  intro n x hx
  by_cases c : n < 10
  · rcases (show n = 0 ∨ n = 1 ∨ n = 2 ∨ n = 3 ∨ n = 4 ∨ n = 5 ∨ n = 6 ∨ n = 7 ∨ n = 8 ∨ n = 9 by omega) with rfl | rfl | rfl | rfl | rfl | rfl | rfl | rfl | rfl | rfl
    · cases hx; exact h 0 _ rfl
    · cases hx; exact h 1 _ rfl
    · cases hx; exact h 2 _ rfl
    · cases hx; exact h 3 _ rfl
    · cases hx; exact h 4 _ rfl
    · cases hx; exact h 5 _ rfl
    · cases hx
      obtain ⟨q1, q2⟩ := h 6 (nrr D ad Hn Hn) rfl
      refine ⟨q1, ?_⟩
      have q2' : H[ad 6]? = some (arrV (D.1 14) Hn (fun j => va_rf (if j < Hn then some (ad (10 + j)) else none))) := q2
      show H[ad 6]? = some (arrV (D.1 14) Hn (fun j => va_rf (some (ad (10 + j)))))
      rw [q2', arrV_ext (f' := fun j => va_rf (some (ad (10 + j)))) (fun j hj => by rw [if_pos hj])]
    · cases hx
      obtain ⟨q1, q2⟩ := h 7 (jrr D ad J J) rfl
      refine ⟨q1, ?_⟩
      have q2' : H[ad 7]? = some (arrV (D.1 13) J (fun j => va_rf (if j < J then some (ad (40 + j)) else none))) := q2
      show H[ad 7]? = some (arrV (D.1 13) J (fun j => va_rf (some (ad (40 + j)))))
      rw [q2', arrV_ext (f' := fun j => va_rf (some (ad (40 + j)))) (fun j hj => by rw [if_pos hj])]
    · cases hx; exact h 8 _ rfl
    · cases hx; exact h 9 _ rfl
  · rw [kc_hi (by omega)] at hx
    by_cases d : 10 ≤ n ∧ n < 10 + Hn
    · rw [if_pos d] at hx
      cases hx
      refine h n _ ?_
      unfold kfin kq
      rw [if_neg (by omega), if_neg (by omega), if_neg (by omega), if_neg (by omega), if_neg (by omega), if_pos d]
      have e : ∀ k, sg0 qn f3 f4 n k = 0 := fun k => by
        unfold sg0
        rw [if_neg (by omega), if_neg (by omega), if_neg (by omega), if_neg (by omega)]
      simp only [numF, e]
    · rw [if_neg d] at hx
      by_cases f : 40 ≤ n ∧ n < 40 + J
      · rw [if_pos f] at hx
        cases hx
        refine h n _ ?_
        unfold kfin kq
        rw [if_neg (by omega), if_neg (by omega), if_neg (by omega), if_neg (by omega), if_neg (by omega), if_neg (by omega), if_pos f]
        have e : ∀ k, sg0 qn f3 f4 n k = if k = 0 ∨ k = 5 ∨ k = 8 ∨ k = 9 then -1 else 0 := fun k => by
          unfold sg0
          rw [if_neg (by omega), if_neg (by omega), if_neg (by omega), if_pos (by omega)]
        simp [jobF, e]
      · rw [if_neg f] at hx; cases hx
theorem rc_hw {D : va_G} {a sz : Nat} {ρ : St} {cs : Nat → va_E} {H : Heap} (ha : a < sz) (h0 : rc D (adRr a sz) ρ 0 = some (cs 0)) (h1 : ∀ n, 4 ≤ n → n ≤ 21 → rc D (adRr a sz) ρ n = some (cs (n - 3))) (h2 : ∀ n, 24 ≤ n → n ≤ 28 → rc D (adRr a sz) ρ n = some (cs (n - 5))) (c0 : va_at D vwCl (a, cs 0) H) (c1 : ∀ i, i < 23 → va_at D vwCl (sz + i, cs (i + 1)) H) : hw D (adRr a sz) (rc D (adRr a sz) ρ) H := by
  obtain ⟨⟨-, -, hA0, -⟩, hA1, hA2⟩ := ad_r a sz ha
  intro n x hx
  have hn : n = 0 ∨ (4 ≤ n ∧ n ≤ 21) ∨ (24 ≤ n ∧ n ≤ 28) := by
    by_cases c : n < 29
    · rcases (show n = 1 ∨ n = 2 ∨ n = 3 ∨ n = 22 ∨ n = 23 ∨ (n = 0 ∨ (4 ≤ n ∧ n ≤ 21) ∨ (24 ≤ n ∧ n ≤ 28)) by omega) with rfl | rfl | rfl | rfl | rfl | d
      · cases hx
      · cases hx
      · cases hx
      · cases hx
      · cases hx
      · exact d
    · obtain ⟨k, rfl⟩ : ∃ k, n = k + 29 := ⟨n - 29, by omega⟩
      cases hx
  refine ⟨by omega, ?_⟩
  rcases hn with d | d | d
  · subst d
    rw [h0] at hx
    cases hx
    rw [hA0]; exact c0
  · rw [h1 n d.1 d.2] at hx
    cases hx
    rw [hA1 n d.1 d.2, show n - 3 = (n - 4) + 1 by omega]
    exact c1 (n - 4) (by omega)
  · rw [h2 n d.1 d.2] at hx
    cases hx
    rw [hA2 n d.1 d.2, show n - 5 = (18 + (n - 24)) + 1 by omega, show sz + 18 + (n - 24) = sz + (18 + (n - 24)) by omega]
    exact c1 (18 + (n - 24)) (by omega)
