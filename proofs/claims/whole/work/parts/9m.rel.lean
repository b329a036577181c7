/-! A TURN keeps INV; REL: both states agree -/
section ST
variable {g : Nat × Nat × Nat × Nat} {σ σ' : St} {q : List Int}
theorem RKP.row {j a b m r Aa na Ab nb Am nm Ar nr : Nat} (h : RKP g σ j a b m r Aa na Ab nb Am nm Ar nr) (hr : ∀ n, n ≠ 0 → n ≠ 8 → σ' n = σ n) : RKP g σ' j a b m r Aa na Ab nb Am nm Ar nr := by
  unfold RKP NM at *
  have e : ∀ k, σ' (40 + k) = σ (40 + k) := fun k => hr _ (by omega) (by omega)
  have e1 : ∀ k, σ' (10 + k) = σ (10 + k) := fun k => hr _ (by omega) (by omega)
  simp only [e, e1, hr 2 (by decide) (by decide)]
  exact h
theorem TP0.row {j n o : Nat} (h : TP0 g σ j n o) (hr : ∀ n, n ≠ 0 → n ≠ 8 → σ' n = σ n) : TP0 g σ' j n o := by
  unfold TP0 at *
  rw [hr (40 + j) (by omega) (by omega)]; exact h
theorem INV.turn {j : Nat} {q' : List Int} (h : INV g σ ((j : Int) :: q')) (hg : GG g) (hnp : g.2.1 = 2 ^ g.1) (hj : j < g.2.2.2) (hT : TTj g σ σ' j q') : (INV g σ' (q' ++ [(j : Int)]) ∧ (σ (40 + j) 0 = 0 ∨ (σ (40 + j) 0 = 1 ∧ 0 < σ (40 + j) 10 - σ 0 5))) ∨ (INV g σ' q' ∧ σ (40 + j) 0 = 1 ∧ ¬ 0 < σ (40 + j) 10 - σ 0 5) := by
  obtain ⟨hI, hQ, hK⟩ := h
  obtain ⟨σa, hQa, a0, ar, hT⟩ := hT
  have hIa : IN g σa := hI.same (fun n n0 _ n8 _ => ar n n0 n8) (by rw [a0, zup_n (by decide)]) (by rw [a0, zup_n (by decide)]) (by rw [a0, zup_n (by decide)])
  have eJ : ∀ k, σa (40 + k) = σ (40 + k) := fun k => ar _ (by omega) (by omega)
  have fin : ∀ τ : St, IN g τ → (∀ k, k ≠ 8 → k ≠ 9 → σ' k = τ k) → IN g σ' := fun τ hτ hr => hτ.same (fun n _ _ n8 n9 => hr n n8 n9) (by rw [hr 0 (by decide) (by decide)]) (by rw [hr 0 (by decide) (by decide)]) (by rw [hr 0 (by decide) (by decide)])
  rcases hT with ⟨s0, n, o, σb, hP, hS, hQ', hr⟩ | ⟨s1, hw, hQ', hr⟩ | ⟨s1, hw, hQ', a, b, m, r, Aa, na, Ab, nb, Am, nm, Ar, nr, σc, hP, hR, hS⟩
  · obtain ⟨h1, h2⟩ := hIa.start hg hnp hj (by rw [eJ]; exact s0) (hP.row ar) hS
    refine Or.inl ⟨⟨fin σb h1 hr, hQ', hK.turn (fun i hi => ?_)⟩, Or.inl s0⟩
    rw [qd_row (σ := σb) (by rw [hr _ (by omega) (by omega)]), h2 i hi]
    exact qd_row (by rw [eJ])
  · obtain ⟨_, _, _, _, _, _, hJ⟩ := hI.jq j hj (Or.inr s1)
    have hwr := hJ.2.2.2.2.2.2.2.1.2.2.2
    have hqu := hI.qu
    have h1 := hIa.work (w := σ (40 + j) 10 - σ 0 5) hj (by rw [eJ]; exact s1) (by omega) hg.2.2.2.2.2.1
    refine Or.inl ⟨⟨fin _ h1 hr, hQ', hK.turn (fun i hi => qd_row ?_)⟩, Or.inr ⟨s1, hw⟩⟩
    rw [hr _ (by omega) (by omega)]
    by_cases c : i = j
    · rw [c, up_s, zup_n (by decide), eJ]
    · rw [up_n (by omega), eJ]
  · have hL := hIa.finish hg hnp hj (by rw [eJ]; exact s1) (hP.1.row ar) (by rw [eJ]; exact hP.2.1) hR hS
    refine Or.inr ⟨⟨hIa.leave hg hj (Or.inr (by rw [eJ]; exact s1)) (Or.inl rfl) hL, hQ', hK.drop ?_ (fun i hi hne => qd_row ?_)⟩, s1, hw⟩
    · have := hL.2.2.2.2.2.2.1.1
      unfold qd; omega
    · rw [hL.2.2.2.2.2.2.2.1 i hi hne, eJ]
/-- a number in both -/
def RNm (σ ρ : St) (x : Nat) : Prop := ρ 7 x = σ (10 + x) 2 ∧ ρ 8 x = σ (10 + x) 3 ∧ ρ 9 x = σ (10 + x) 4 ∧ ρ 10 x = σ (10 + x) 5 ∧ ρ 11 x = σ (10 + x) 1 ∧ ∀ i : Nat, i < (σ (10 + x) 2).toNat → ρ 4 ((σ (10 + x) 3).toNat + i) = σ 2 ((σ (10 + x) 3).toNat + i)
/-- a job's ROOM in both -/
def RRm (σ ρ : St) (j : Nat) : Prop := (σ (40 + j) 8 = -1 ∧ ρ 20 j = -1) ∨ (0 ≤ σ (40 + j) 8 ∧ ρ 19 j = σ (40 + j) 8 ∧ ρ 20 j = σ (40 + j) 9)
/-- a job in both -/
def RJb (σ ρ : St) (j : Nat) : Prop := ρ 18 j = σ (40 + j) 5 ∧ RRm σ ρ j ∧ (σ (40 + j) 0 ≤ 1 → ρ 13 j = σ (40 + j) 1 ∧ ρ 14 j = σ (40 + j) 2 ∧ ρ 15 j = σ (40 + j) 3 ∧ ρ 16 j = σ (40 + j) 4 ∧ ρ 17 j = σ (40 + j) 10)
def REL (g : Nat × Nat × Nat × Nat) (σ ρ : St) (q : List Int) : Prop := (RS g ρ ∧ ρ 0 3 = σ 0 5 ∧ ρ 0 23 = σ 0 8) ∧ AG g.1 (σ 4) (ρ 5) ∧ LMr ρ ∧ ((∀ x, x < 24 → ρ 11 x = 0 ∨ ρ 11 x = 1) ∧ (∀ x, x < g.2.2.1 → ρ 6 x = σ (10 + x) 0) ∧ (∀ x, g.2.2.1 ≤ x → x < 24 → ρ 6 x = 0) ∧ ∀ x, x < g.2.2.1 → σ (10 + x) 0 = 1 → RNm σ ρ x) ∧
  ((∀ j, j < g.2.2.2 → ρ 12 j = σ (40 + j) 0) ∧ (∀ j, g.2.2.2 ≤ j → j < 12 → ρ 12 j = -1) ∧ ∀ j, j < g.2.2.2 → 0 ≤ σ (40 + j) 0 → RJb σ ρ j) ∧ QL ρ q
end ST
section RL
variable {g : Nat × Nat × Nat × Nat} {σ σ' ρ ρ' : St} {q : List Int}
theorem REL.rf (h : REL g σ ρ q) (hI : IN g σ) : RF ρ := by
  obtain ⟨-, -, -, ⟨n1, n2, n3, -⟩, ⟨j1, j2, -⟩, -⟩ := h
  refine ⟨fun x hx => ?_, n1, fun j hj => ?_⟩
  · by_cases c : x < g.2.2.1
    · rw [n2 x c]; exact (hI.flg x c).1
    · exact Or.inl (n3 x (by omega) hx)
  · by_cases c : j < g.2.2.2
    · rw [j1 j c]; exact hI.stt j c
    · have := j2 j (by omega) hj; omega
theorem REL.rs (h : REL g σ ρ q) : RS g ρ := h.1.1
theorem REL.ag (h : REL g σ ρ q) : AG g.1 (σ 4) (ρ 5) := h.2.1
theorem REL.lm (h : REL g σ ρ q) : LMr ρ := h.2.2.1
theorem REL.u6 (h : REL g σ ρ q) : ∀ x, x < g.2.2.1 → ρ 6 x = σ (10 + x) 0 := h.2.2.2.1.2.1
theorem REL.nm (h : REL g σ ρ q) : ∀ x, x < g.2.2.1 → σ (10 + x) 0 = 1 → RNm σ ρ x := h.2.2.2.1.2.2.2
theorem REL.st (h : REL g σ ρ q) : ∀ j, j < g.2.2.2 → ρ 12 j = σ (40 + j) 0 := h.2.2.2.2.1.1
theorem REL.jb (h : REL g σ ρ q) : ∀ j, j < g.2.2.2 → 0 ≤ σ (40 + j) 0 → RJb σ ρ j := h.2.2.2.2.1.2.2
theorem REL.ql (h : REL g σ ρ q) : QL ρ q := h.2.2.2.2.2
theorem REL.rn (h : REL g σ ρ q) (hI : IN g σ) (hg : GG g) (hnp : g.2.1 = 2 ^ g.1) : RN_ ρ := by
  intro x hx hu
  obtain ⟨-, -, -, ⟨n1, n2, n3, n4⟩, -, -⟩ := h
  have c : x < g.2.2.1 := by
    by_cases c : x < g.2.2.1
    · exact c
    · have := n3 x (by omega) hx; omega
  rw [n2 x c] at hu
  obtain ⟨A, n, o, c1, c2, -, -, -, -, -, ⟨-, -, -, c6⟩, -⟩ := hI.num hnp c hu
  obtain ⟨r1, r2, -, r4, -, -⟩ := n4 x c hu
  have := hI.pinr hg c hu
  exact ⟨A, n, by omega, by omega, by omega, by omega, by omega⟩
theorem REL.nm_iff (h : REL g σ ρ q) {x : Int} : rNd g ρ x ↔ isNm g σ x := by
  constructor
  · rintro ⟨a, b, c⟩
    exact ⟨a, b, by rw [← h.u6 _ (by omega)]; exact c⟩
  · rintro ⟨a, b, c⟩
    exact ⟨a, b, by rw [h.u6 _ (by omega)]; exact c⟩
theorem REL.jb_iff (h : REL g σ ρ q) (hI : IN g σ) {j : Int} : rJd g ρ j ↔ isJb g σ j := by
  constructor
  · rintro ⟨a, b, c⟩
    rw [h.st _ (by omega)] at c
    exact ⟨a, b, by omega⟩
  · rintro ⟨a, b, c⟩
    refine ⟨a, b, ?_⟩
    rw [h.st _ (by omega)]
    have := hI.stt j.toNat (by omega)
    omega
/-! the same answers of what reads alone -/
theorem eq_size (h : REL g σ ρ q) (x : Int) : aSize g σ x = bSize g ρ x := by
  unfold aSize bSize
  by_cases c : isNm g σ x
  · rw [if_pos c, if_pos (h.nm_iff.mpr c)]
    exact (h.nm _ (by have := c.1; have := c.2.1; omega) c.2.2).1.symm
  · rw [if_neg c, if_neg (fun d => c (h.nm_iff.mp d))]
theorem eq_number (h : REL g σ ρ q) (x w : Int) : aNumber g σ x w = bNumber g ρ x w := by
  unfold aNumber bNumber
  by_cases c : isNm g σ x
  · rw [if_pos c, if_pos (h.nm_iff.mpr c)]
    obtain ⟨-, r2, r3, r4, -⟩ := h.nm _ (by have := c.1; have := c.2.1; omega) c.2.2
    rw [r2, r3, r4]
  · rw [if_neg c, if_neg (fun d => c (h.nm_iff.mp d))]
theorem eq_limb (h : REL g σ ρ q) (hI : IN g σ) (hnp : g.2.1 = 2 ^ g.1) (x i : Int) : aLimb g σ x i = bLimb g ρ x i := by
  unfold aLimb bLimb
  by_cases c : isNm g σ x
  · have hx : x.toNat < g.2.2.1 := by have := c.1; have := c.2.1; omega
    obtain ⟨r1, r2, r3, r4, r5, r6⟩ := h.nm _ hx c.2.2
    obtain ⟨A, n, o, c1, c2, -⟩ := hI.num hnp hx c.2.2
    rw [r1, r2, r5]
    by_cases d : σ (10 + x.toNat) 1 = 0 ∧ 0 ≤ i ∧ i < σ (10 + x.toNat) 2
    · rw [if_pos ⟨c, d⟩, if_pos ⟨h.nm_iff.mpr c, d⟩]
      have := r6 i.toNat (by omega)
      rw [show (σ (10 + x.toNat) 3 + i).toNat = (σ (10 + x.toNat) 3).toNat + i.toNat by omega]
      exact this.symm
    · rw [if_neg (fun e => d e.2), if_neg (fun e => d e.2)]
  · rw [if_neg (fun d => c d.1), if_neg (fun d => c (h.nm_iff.mp d.1))]
theorem eq_state (h : REL g σ ρ q) (hI : IN g σ) (j : Int) : aState g σ j = bState g ρ j := by
  unfold aState bState
  by_cases c : isJb g σ j
  · rw [if_pos c, if_pos ((h.jb_iff hI).mpr c)]
    exact (h.st _ (by have := c.1; have := c.2.1; omega)).symm
  · rw [if_neg c, if_neg (fun d => c ((h.jb_iff hI).mp d))]
theorem eq_result (h : REL g σ ρ q) (hI : IN g σ) (j : Int) : aResult g σ j = bResult g ρ j := by
  unfold aResult bResult
  by_cases c : isJb g σ j
  · have hj : j.toNat < g.2.2.2 := by have := c.1; have := c.2.1; omega
    have hst := hI.stt _ hj
    have c3 := c.2.2
    have e := h.st _ hj
    rw [if_pos c]
    by_cases d : ρ 12 j.toNat = 1 ∨ ρ 12 j.toNat = 2
    · rw [if_pos ⟨(h.jb_iff hI).mpr c, d⟩]
      exact (h.jb _ hj (by omega)).1.symm
    · rw [if_neg (fun e => d e.2)]
      exact (hI.res _ hj).2.1 (by omega) (by omega)
  · rw [if_neg c, if_neg (fun d => c ((h.jb_iff hI).mp d.1))]
theorem eq_work (h : REL g σ ρ q) (hI : IN g σ) (j : Int) : aWork g σ j = bWork g ρ j := by
  unfold aWork bWork
  by_cases c : isJb g σ j
  · have hj : j.toNat < g.2.2.2 := by have := c.1; have := c.2.1; omega
    have hst := hI.stt _ hj
    have c3 := c.2.2
    rw [if_pos c, if_pos ((h.jb_iff hI).mpr c), h.st _ hj]
    by_cases d : σ (40 + j.toNat) 0 ≤ 1
    · rw [if_pos d]
      exact ((h.jb _ hj (by omega)).2.2 d).2.2.2.2.symm
    · rw [if_neg d]
      exact (hI.res _ hj).2.2.2 (by omega)
  · rw [if_neg c, if_neg (fun d => c ((h.jb_iff hI).mp d))]
theorem cnt_tail {f : Nat → Int} {o : Int} {m : Nat} : ∀ {n : Nat}, m ≤ n → (∀ b, m ≤ b → b < n → f b ≠ o) → cnt f o n = cnt f o m := fun h hf => cnt_gap f o h hf
theorem eq_c6 (h : REL g σ ρ q) (hI : IN g σ) (hg : GG g) : σ 0 6 = cnt (ρ 6) 1 24 := by
  obtain ⟨-, -, -, ⟨n1, n2, n3, n4⟩, -, -⟩ := h
  rw [hI.c6, cnt_tail hg.2.2.2.2.2.1 (fun b b1 b2 => by rw [n3 b b1 b2]; decide)]
  exact (cnt_ext 1 (fun b hb => n2 b hb)).symm
theorem eq_c7 (h : REL g σ ρ q) (hI : IN g σ) (hg : GG g) : σ 0 7 = cnt (isg (ρ 12)) 1 12 := by
  obtain ⟨-, -, -, -, ⟨j1, j2, -⟩, -⟩ := h
  rw [hI.c7, cnt_tail hg.2.2.2.2.2.2.2 (fun b b1 b2 => by unfold isg; rw [j2 b b1 b2]; decide)]
  exact (cnt_ext 1 (fun b hb => by unfold isg ths; rw [j1 b hb])).symm
theorem eq_count (h : REL g σ ρ q) (hI : IN g σ) (hg : GG g) (w k : Int) : aCount σ q w k = bCount ρ w k := by
  unfold aCount bCount
  have hQ := h.ql
  have hk : (if 0 ≤ k ∧ k < q.length then q.getD k.toNat 0 else -1) = (if 0 ≤ k ∧ k < (q.length : Int) then ρ 21 k.toNat else -1) := by
    by_cases c : 0 ≤ k ∧ k < q.length
    · have := hQ.2.2 k.toNat (by omega)
      rw [if_pos c, if_pos c, List.getD_eq_getElem?_getD, this]; rfl
    · rw [if_neg c, if_neg c]
  rw [eq_c6 h hI hg, eq_c7 h hI hg, hQ.1, h.1.2.2, hk]
end RL
