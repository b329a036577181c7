/-! BOTH DO THE SAME: method by method -/
def LI (g : Nat × Nat × Nat × Nat) (σ ρ : St) : Prop := ∃ q, INV g σ q ∧ REL g σ ρ q
section PR
variable {g : Nat × Nat × Nat × Nat} {σ σ' ρ ρ' : St} {q : List Int}
theorem pr_init (hI : INV g σ q) (hR : REL g σ ρ q) (hg : GG g) (hnp : g.2.1 = 2 ^ g.1) (h1 : INI g σ σ') (h2 : BEG ρ ρ') : σ 0 7 + σ 0 6 = cnt (ρ 6) 1 24 + cnt (isg (ρ 12)) 1 12 ∧ LI g σ' ρ' := by
  refine ⟨by rw [eq_c6 hR hI.1 hg, eq_c7 hR hI.1 hg, Int.add_comm], [], ?_, ?_⟩
  · exact INV.init hg hnp hI.1.qu hI.1.lm (fun x hx => (hI.1.flg x hx).2) hI.2.1.1 h1
  · exact REL.init hg hnp ⟨hR.1.1, hR.1.2.1⟩ h1 h2
def setK (g : Nat × Nat × Nat × Nat) (σ σ' : St) (h i w z : Int) : Prop := (setOk g σ h i w ∧ z = 1 ∧ σ' = up σ 2 (σ (10 + h.toNat) 3 + i).toNat w) ∨ (¬ setOk g σ h i w ∧ z = 0 ∧ σ = σ')
def setR (g : Nat × Nat × Nat × Nat) (ρ ρ' : St) (h i w z : Int) : Prop := (bSet g ρ h i w ∧ z = 1 ∧ ρ' = up ρ 4 (ρ 8 h.toNat + i).toNat w) ∨ (¬ bSet g ρ h i w ∧ z = 0 ∧ ρ = ρ')
theorem pr_set (hI : INV g σ q) (hR : REL g σ ρ q) (hg : GG g) (hnp : g.2.1 = 2 ^ g.1) {h i w z z' : Int} (hw : w < 2147483648) (h1 : setK g σ σ' h i w z) (h2 : setR g ρ ρ' h i w z') : z = z' ∧ LI g σ' ρ' := by
  have hi := set_iff hR hI.1 hg h i w
  rcases h1 with ⟨a, rfl, rfl⟩ | ⟨a, rfl, rfl⟩ <;> rcases h2 with ⟨b, rfl, rfl⟩ | ⟨b, rfl, rfl⟩
  · exact ⟨rfl, q, hI.setLimb hnp hw a, hR.setLimb hw a⟩
  · exact absurd (hi.mpr a) b
  · exact absurd (hi.mp b) a
  · exact ⟨rfl, q, hI, hR⟩
def relK (g : Nat × Nat × Nat × Nat) (σ σ' : St) (h z : Int) : Prop := (¬ (isNm g σ h ∧ ¬ 0 < σ (10 + h.toNat) 5) ∧ z = 0 ∧ σ = σ') ∨ (z = 1 ∧ ∃ n A o : Nat, h = n ∧ n < g.2.2.1 ∧ σ (10 + n) 0 = 1 ∧ ¬ 0 < σ (10 + n) 5 ∧ σ (10 + n) 3 = A ∧ σ (10 + n) 4 = o ∧ VAC g (clrU σ n g.2.2.2) σ' n A o)
def relR (g : Nat × Nat × Nat × Nat) (ρ ρ' : St) (h z : Int) : Prop := (¬ (rNm g ρ h ∧ ¬ 0 < ρ 10 h.toNat) ∧ z = 0 ∧ ρ = ρ') ∨ (z = 1 ∧ ∃ n A o : Nat, h = n ∧ n < g.2.2.1 ∧ ρ 6 n = 1 ∧ ¬ 0 < ρ 10 n ∧ ρ 8 n = A ∧ ρ 9 n = o ∧ ρ' = GO g ρ n A o)
theorem pr_release (hI : INV g σ q) (hR : REL g σ ρ q) (hg : GG g) (hnp : g.2.1 = 2 ^ g.1) {h z z' : Int} (h1 : relK g σ σ' h z) (h2 : relR g ρ ρ' h z') : z = z' ∧ LI g σ' ρ' := by
  rcases h1 with ⟨a, rfl, rfl⟩ | ⟨rfl, n, A, o, rfl, hn, hu, hp, hA, ho, hV⟩ <;> rcases h2 with ⟨b, rfl, rfl⟩ | ⟨rfl, n', A', o', e, hn', hu', hp', hA', ho', rfl⟩
  · exact ⟨rfl, q, hI, hR⟩
  · exfalso
    subst e
    have hu : σ (10 + n') 0 = 1 := by rw [← hR.u6 n' hn']; exact hu'
    refine a ⟨isN.pos hn' hu, ?_⟩
    rw [Int.toNat_natCast, ← (hR.nm n' hn' hu).2.2.2.1]; exact hp'
  · exfalso
    have hN := hR.nm n hn hu
    refine b ⟨⟨n, rfl, hn, by rw [hR.u6 n hn]; exact hu⟩, ?_⟩
    rw [Int.toNat_natCast, hN.2.2.2.1]; exact hp
  · obtain rfl : n = n' := by omega
    have hN := hR.nm n hn hu
    obtain rfl : A = A' := by have := hN.2.1; omega
    obtain rfl : o = o' := by have := hN.2.2.1; omega
    exact ⟨rfl, q, hI.release hg hn hu hp hA ho hV, hR.release hI.1 hg hnp hn hu hA ho hV⟩
def forK (g : Nat × Nat × Nat × Nat) (σ σ' : St) (j z : Int) : Prop := (¬ (isJb g σ j ∧ 2 ≤ σ (40 + j.toNat) 0) ∧ z = 0 ∧ σ = σ') ∨ (z = 1 ∧ ∃ n : Nat, j = n ∧ n < g.2.2.2 ∧ 2 ≤ σ (40 + n) 0 ∧ σ' = up (up (up (up σ (40 + n) 0 (-1)) (40 + n) 5 (-1)) (40 + n) 8 (-1)) 0 7 (σ 0 7 - 1))
def forR (g : Nat × Nat × Nat × Nat) (ρ ρ' : St) (j z : Int) : Prop := (¬ (rJb g ρ j ∧ 2 ≤ ρ 12 j.toNat) ∧ z = 0 ∧ ρ = ρ') ∨ (z = 1 ∧ ∃ n : Nat, j = n ∧ n < g.2.2.2 ∧ 2 ≤ ρ 12 n ∧ ρ' = up ρ 12 n (-1))
theorem pr_forget (hI : INV g σ q) (hR : REL g σ ρ q) (hg : GG g) {j z z' : Int} (h1 : forK g σ σ' j z) (h2 : forR g ρ ρ' j z') : z = z' ∧ LI g σ' ρ' := by
  rcases h1 with ⟨a, rfl, rfl⟩ | ⟨rfl, n, rfl, hn, hs, rfl⟩ <;> rcases h2 with ⟨b, rfl, rfl⟩ | ⟨rfl, n', e, hn', hs', rfl⟩
  · exact ⟨rfl, q, hI, hR⟩
  · exfalso
    subst e
    rw [hR.st n' hn'] at hs'
    refine a ⟨isJ.pos hn' (by omega), ?_⟩
    rw [Int.toNat_natCast]; exact hs'
  · exfalso
    have := hR.st n hn
    refine b ⟨⟨n, rfl, hn, by omega⟩, ?_⟩
    rw [Int.toNat_natCast, this]; exact hs
  · obtain rfl : n = n' := by omega
    exact ⟨rfl, q, hI.forget hg hn hs, hR.forget hg hn⟩
def canK (g : Nat × Nat × Nat × Nat) (σ σ' : St) (q : List Int) (j z : Int) : Prop := (¬ (isJb g σ j ∧ σ (40 + j.toNat) 0 ≤ 1) ∧ z = 0 ∧ σ = σ') ∨ (z = 1 ∧ ∃ n a b m : Nat, j = n ∧ n < g.2.2.2 ∧ (σ (40 + n) 0 = 0 ∨ σ (40 + n) 0 = 1) ∧ CPj g σ n a b m ∧ CAN g σ σ' q n a b m)
def canR (g : Nat × Nat × Nat × Nat) (ρ ρ' : St) (q : List Int) (j z : Int) : Prop := (¬ (rJb g ρ j ∧ ρ 12 j.toNat ≤ 1) ∧ z = 0 ∧ ρ = ρ') ∨ (z = 1 ∧ ∃ n a b m : Nat, j = n ∧ n < g.2.2.2 ∧ (ρ 12 n = 0 ∨ ρ 12 n = 1) ∧ CPr g ρ n a b m ∧ CNR g ρ ρ' q n a b m)
theorem pr_cancel (hI : INV g σ q) (hR : REL g σ ρ q) (hg : GG g) (hnp : g.2.1 = 2 ^ g.1) {j z z' : Int} (h1 : canK g σ σ' q j z) (h2 : canR g ρ ρ' q j z') : z = z' ∧ LI g σ' ρ' := by
  rcases h1 with ⟨a, rfl, rfl⟩ | ⟨rfl, n, a, b, m, rfl, hn, hs, hC, hX⟩ <;> rcases h2 with ⟨d, rfl, rfl⟩ | ⟨rfl, n', a', b', m', e, hn', hs', hC', hX'⟩
  · exact ⟨rfl, q, hI, hR⟩
  · exfalso
    subst e
    rw [hR.st n' hn'] at hs'
    refine a ⟨isJ.pos hn' (by omega), ?_⟩
    rw [Int.toNat_natCast]; omega
  · exfalso
    have := hR.st n hn
    refine d ⟨⟨n, rfl, hn, by omega⟩, ?_⟩
    rw [Int.toNat_natCast, this]; omega
  · obtain rfl : n = n' := by omega
    exact ⟨rfl, _, hI.cancel hg hn hs hC hX, hR.cancel hI.1 hg hnp hn hs hC hX hC' hX'⟩
theorem Qs.uniq {q1 q2 : List Int} (h1 : Qs g σ q1) (h2 : Qs g σ q2) : q1 = q2 := by
  have hl : q1.length = q2.length := by
    have := h1.2.1
    have := h2.2.1
    omega
  apply List.ext_getElem?
  intro k
  by_cases c : k < q1.length
  · rw [h1.2.2.2 k c, h2.2.2.2 k (by omega)]
  · rw [List.getElem?_eq_none (by omega), List.getElem?_eq_none (by omega)]
/-- the invariant of the reference's run, by the class's turns -/
def JR (g : Nat × Nat × Nat × Nat) (τ : St) (D : Int) (N k : Nat) (ρ : St) (q : List Int) : Prop := ∃ (σ : St) (d : Int), INV g σ q ∧ REL g σ ρ q ∧ RN g (fun σ q => INV g σ q) k σ q τ d ∧ D = (N : Int) - k + d
theorem JR.step (hg : GG g) (hnp : g.2.1 = 2 ^ g.1) {τ : St} {D : Int} {N k : Nat} {r : Int} (h : JR g τ D N (k + 1) ρ q) (hT : TR g ρ ρ' q r) (hr : r ≠ -1) : ∃ q', JR g τ D N k ρ' q' := by
  obtain ⟨σ, d, hI, hR, hN, hD⟩ := h
  rcases hN with ⟨rfl, -, -⟩ | ⟨σ1, q1, r1, d1, hTT, hr1, hJ, hN1, hd⟩
  · rcases hT with ⟨-, e, -⟩ | ⟨j, q', e, -⟩
    · exact absurd e hr
    · cases e
  · obtain ⟨-, q2, hI2, hR2⟩ := hR.turn hI hg hnp hTT hT
    have hJ' : INV g σ1 q1 := hJ
    obtain rfl : q2 = q1 := Qs.uniq hI2.2.1 hJ'.2.1
    exact ⟨q2, σ1, d1, hI2, hR2, hN1, by rw [hD, hd]; omega⟩
theorem JR.end_ {τ : St} {D : Int} {N k : Nat} (h : JR g τ D N k ρ q) (he : k = 0 ∨ q = []) : D = (N : Int) - k ∧ LI g τ ρ := by
  obtain ⟨σ, d, hI, hR, hN, hD⟩ := h
  have hend : σ = τ ∧ d = 0 := by
    cases k with
    | zero => exact ⟨hN.1, hN.2⟩
    | succ k =>
      rcases he with e | e
      · omega
      · rcases hN with ⟨-, e1, e2⟩ | ⟨σ1, q1, r1, d1, hTT, hr1, -⟩
        · exact ⟨e1, e2⟩
        · rcases hTT with ⟨-, e3, -⟩ | ⟨j, q', e3, -⟩
          · exact absurd e3 hr1
          · rw [e] at e3; cases e3
  obtain ⟨rfl, rfl⟩ := hend
  exact ⟨by omega, q, hI, hR⟩
theorem inv_step (hg : GG g) (hnp : g.2.1 = 2 ^ g.1) {r : Int} (h : INV g σ q) (hT : TT g σ σ' q r) (hr : r ≠ -1) : ∃ q', INV g σ' q' := by
  rcases hT with ⟨-, e, -⟩ | ⟨j, q', rfl, -, hj, hT⟩
  · exact absurd e hr
  · rcases h.turn hg hnp hj hT with ⟨h1, -⟩ | ⟨h1, -⟩
    · exact ⟨_, h1⟩
    · exact ⟨_, h1⟩
def runK (g : Nat × Nat × Nat × Nat) (σ σ' : St) (q : List Int) (n z : Int) : Prop := (¬ (0 ≤ n ∧ n ≤ 5000) ∧ z = -1 ∧ σ = σ') ∨ ((0 ≤ n ∧ n ≤ 5000) ∧ RN g (fun σ q => INV g σ q) n.toNat σ q σ' z)
end PR
