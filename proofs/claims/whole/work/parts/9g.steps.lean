/-! HOW INV IS KEPT: the steps -/
section ST
variable {g : Nat × Nat × Nat × Nat} {σ σ' : St}
/-- a job names h: an operand of it, or its result while it runs -/
def tch (σ : St) (j h : Nat) : Prop := σ (40 + j) 2 = h ∨ σ (40 + j) 3 = h ∨ (σ (40 + j) 1 = 3 ∧ σ (40 + j) 4 = h) ∨ (σ (40 + j) 0 = 1 ∧ σ (40 + j) 5 = h)
/-- a number that stays as it is but for its pins -/
def SAM (σ σ' : St) (h : Nat) : Prop := (∀ k, k < 5 → σ' (10 + h) k = σ (10 + h) k) ∧ ∀ i : Nat, i < (σ (10 + h) 2).toNat → σ' 2 ((σ (10 + h) 3).toNat + i) = σ 2 ((σ (10 + h) 3).toNat + i)
theorem SAM.fn {h s : Nat} (hs : SAM σ σ' h) (hF : FN g σ h s) : FN g σ' h s := by
  unfold FN
  rw [hs.1 0 (by decide), hs.1 1 (by decide), hs.1 2 (by decide)]
  exact hF
theorem SAM.val {h : Nat} (hs : SAM σ σ' h) : nval σ' h = nval σ h := by
  unfold nval
  rw [hs.1 2 (by decide), hs.1 3 (by decide)]
  exact nv_ext hs.2
theorem JST.keep {j : Nat} (h : JST g σ j) (hrow : ∀ k, k ≤ 9 → σ' (40 + j) k = σ (40 + j) k) (hs : ∀ x, tch σ j x → SAM σ σ' x) : JST g σ' j := by
  unfold JST
  rw [hrow 0 (by decide), hrow 5 (by decide), hrow 8 (by decide), hrow 9 (by decide)]
  rcases h with h | ⟨e, ⟨r, e5, r1, r2, r3, r4, r5⟩, h2⟩
  · exact Or.inl h
  · have hS := hs r (Or.inr (Or.inr (Or.inr ⟨e, e5⟩)))
    refine Or.inr ⟨e, ⟨r, e5, r1, ?_, ?_, ?_, ?_⟩, h2⟩
    · rw [hS.1 0 (by decide)]; exact r2
    · rw [hS.1 1 (by decide)]; exact r3
    · rw [hS.1 2 (by decide), hrow 6 (by decide)]; exact r4
    · intro i hi
      rw [hS.1 2 (by decide)] at hi
      rw [hS.1 3 (by decide), hS.2 i hi]
      exact r5 i hi
/-- what is planned of a job, and its operands, but for its work and state -/
theorem JQ.keep {j a b m sa sb sm : Nat} (h : JQ g σ j a b m sa sb sm) (hrow : ∀ k, k ≤ 9 → σ' (40 + j) k = σ (40 + j) k) (hw : 0 ≤ σ' (40 + j) 10 ∧ σ' (40 + j) 10 ≤ 1000000000000000) (hs : ∀ x, tch σ j x → SAM σ σ' x) : JQ g σ' j a b m sa sb sm := by
  obtain ⟨h1, h2, h3, h4, h5, h6, h7, ⟨p1, p2, p3, -⟩, h9⟩ := h
  have sA := hs a (Or.inl h2)
  have sB := hs b (Or.inr (Or.inl h3))
  refine ⟨?_, ?_, ?_, sA.fn h4, sB.fn h5, ?_, ?_, ⟨?_, ?_, ?_, hw⟩, h9.keep hrow hs⟩
  · rw [hrow 1 (by decide)]; exact h1
  · rw [hrow 2 (by decide)]; exact h2
  · rw [hrow 3 (by decide)]; exact h3
  · unfold JOM
    rw [hrow 1 (by decide), hrow 4 (by decide)]
    rcases h6 with ⟨m1, m2, m3, m4⟩ | h6
    · have sM := hs m (Or.inr (Or.inr (Or.inl ⟨m1, m2⟩)))
      exact Or.inl ⟨m1, m2, sM.fn m3, by rw [sM.val]; exact m4⟩
    · exact Or.inr h6
  · rw [hrow 1 (by decide), sB.val]; exact h7
  · rw [hrow 6 (by decide), hrow 1 (by decide)]; exact p1
  · rw [hrow 7 (by decide), hrow 1 (by decide)]; exact p2
  · rw [hrow 9 (by decide), hrow 1 (by decide)]; exact p3
theorem JQX.keep {j : Nat} (h : JQX g σ j) (hrow : ∀ k, k ≤ 10 → σ' (40 + j) k = σ (40 + j) k) (hs : ∀ x, tch σ j x → SAM σ σ' x) : JQX g σ' j := by
  obtain ⟨a, b, m, sa, sb, sm, h⟩ := h
  have hw := h.2.2.2.2.2.2.2.1.2.2.2
  exact ⟨a, b, m, sa, sb, sm, h.keep (fun k hk => hrow k (by omega)) (by rw [hrow 10 (by decide)]; exact hw) hs⟩
theorem FN.pl {j a b m sa sb sm : Nat} (h : JQ g σ j a b m sa sb sm) (hq : qd σ j) {x : Nat} (hx : σ (40 + j) 2 = x ∨ σ (40 + j) 3 = x ∨ (σ (40 + j) 1 = 3 ∧ σ (40 + j) 4 = x)) : x < g.2.2.1 ∧ σ (10 + x) 0 = 1 ∧ σ (10 + x) 1 = 0 ∧ 1 ≤ pl1 σ j x := by
  obtain ⟨h1, h2, h3, h4, h5, h6, -⟩ := h
  have key : ∀ {y s : Nat}, FN g σ y s → y = x → x < g.2.2.1 ∧ σ (10 + x) 0 = 1 ∧ σ (10 + x) 1 = 0 := by
    intro y s hF e
    subst e
    exact ⟨hF.1, hF.2.1, hF.2.2.1⟩
  have hp : 1 ≤ pl1 σ j x := by
    unfold pl1
    rw [if_pos hq]
    rcases hx with e | e | e
    · rw [if_pos e]; split <;> split <;> omega
    · rw [if_pos e]; split <;> split <;> omega
    · rw [if_pos e]; split <;> split <;> omega
  rcases hx with e | e | ⟨e1, e2⟩
  · obtain ⟨q1, q2, q3⟩ := key h4 (by omega)
    exact ⟨q1, q2, q3, hp⟩
  · obtain ⟨q1, q2, q3⟩ := key h5 (by omega)
    exact ⟨q1, q2, q3, hp⟩
  · rcases h6 with ⟨m1, m2, m3, m4⟩ | ⟨n1, -⟩
    · obtain ⟨q1, q2, q3⟩ := key m3 (by omega)
      exact ⟨q1, q2, q3, hp⟩
    · exact absurd e1 n1
theorem IN.tq (h : IN g σ) {j x : Nat} (hj : j < g.2.2.2) (hq : qd σ j) (ht : tch σ j x) : x < g.2.2.1 ∧ σ (10 + x) 0 = 1 ∧ 1 ≤ σ (10 + x) 5 := by
  obtain ⟨a, b, m, sa, sb, sm, hJ⟩ := h.jq j hj hq
  have key : (σ (40 + j) 2 = x ∨ σ (40 + j) 3 = x ∨ (σ (40 + j) 1 = 3 ∧ σ (40 + j) 4 = x)) → x < g.2.2.1 ∧ σ (10 + x) 0 = 1 ∧ 1 ≤ σ (10 + x) 5 := by
    intro hx
    obtain ⟨q1, q2, q3, q4⟩ := FN.pl hJ hq hx
    have := h.pin x q1 q2
    have h2 := pl1_le (σ := σ) (h := x) hj
    exact ⟨q1, q2, by omega⟩
  rcases ht with e | e | e | ⟨e1, e2⟩
  · exact key (Or.inl e)
  · exact key (Or.inr (Or.inl e))
  · exact key (Or.inr (Or.inr e))
  · rcases hJ.2.2.2.2.2.2.2.2 with ⟨e, -⟩ | ⟨-, ⟨r, e5, r1, r2, r3, -⟩, -⟩
    · omega
    · obtain rfl : x = r := by omega
      have := h.pin x r1 r2
      have h2 := pns_rg σ x g.2.2.2
      exact ⟨r1, r2, by omega⟩
/-! what is held -/
theorem HLD.ext (h : HLD g σ) (h4 : σ' 4 = σ 4) (hh : ∀ i A o, hold g σ' i A o → hold g σ i A o) : HLD g σ' :=
  ⟨fun i A o q => by rw [h4]; exact h.1 i A o (hh i A o q), fun i i' A o A' o' hi q q' => h.2 i i' A o A' o' hi (hh _ _ _ q) (hh _ _ _ q')⟩
theorem gvP.mi {σ1 : St} {k A : Nat} (hpl : g.1 ≤ 11) (hnp : g.2.1 = 2 ^ g.1) (hM : MI g.1 (σ 4)) (hv : gvP g σ σ1 k A) : MI g.1 (σ1 4) ∧ HB g.1 (σ1 4) A k ∧ CN g σ1 ∧ (∀ x y, HB g.1 (σ 4) x y → HB g.1 (σ1 4) x y ∧ dsj x (2 ^ y) A (2 ^ k)) ∧ ∀ q, q ≠ 3 → q ≠ 4 → σ1 q = σ q := by
  rcases hv with ⟨e, -⟩ | ⟨a, d, e, ha, hf, -, -, e4, hC, hr⟩
  · omega
  · obtain rfl : A = a := by omega
    have ha' : A < 2 ^ g.1 := by omega
    have h1 := HB.spl hpl (hM.rem (a := A)) (HB.take hM ha' hf)
    rw [e4]
    refine ⟨h1.1, h1.2, hC, fun x y hx => ?_, hr⟩
    have h2 := hx.2.2.2 A (k + d) ha' hf
    have h3 : 2 ^ k ≤ 2 ^ (k + d) := Nat.pow_le_pow_right (by decide) (by omega)
    exact ⟨HB.splO hx.rem (by omega), by unfold dsj; omega⟩
theorem HLD.add (h : HLD g σ) {f : Nat → Int} {i0 A0 o0 : Nat} (hB : HB g.1 f A0 o0) (hk : ∀ x y, HB g.1 (σ 4) x y → HB g.1 f x y ∧ dsj x (2 ^ y) A0 (2 ^ o0)) (h4 : σ' 4 = f) (hh : ∀ i A o, hold g σ' i A o → (i = i0 ∧ A = A0 ∧ o = o0) ∨ (i ≠ i0 ∧ hold g σ i A o)) : HLD g σ' := by
  constructor
  · intro i A o q
    rw [h4]
    rcases hh i A o q with ⟨-, rfl, rfl⟩ | ⟨-, q⟩
    · exact hB
    · exact (hk A o (h.1 i A o q)).1
  · intro i i' A o A' o' hi q q'
    rcases hh i A o q with ⟨e, rfl, rfl⟩ | ⟨e, q⟩ <;> rcases hh i' A' o' q' with ⟨e', rfl, rfl⟩ | ⟨e', q'⟩
    · omega
    · have := (hk A' o' (h.1 i' A' o' q')).2
      unfold dsj at *; omega
    · exact (hk A o (h.1 i A o q)).2
    · exact h.2 i i' A o A' o' hi q q'
theorem HLD.rem (h : HLD g σ) (hpl : g.1 ≤ 11) (hM : MI g.1 (σ 4)) {i0 A0 o0 : Nat} (h0 : hold g σ i0 A0 o0) (h4 : σ' 4 = jnF g.1 12 (σ 4) A0 o0) (hh : ∀ i A o, hold g σ' i A o → i ≠ i0 ∧ hold g σ i A o) : HLD g σ' ∧ MI g.1 (σ' 4) := by
  have hB := h.1 _ _ _ h0
  have hj := HB.join hpl (n := 12) (by omega) hM hB
  refine ⟨⟨fun i A o q => ?_, fun i i' A o A' o' hi q q' => h.2 i i' A o A' o' hi (hh _ _ _ q).2 (hh _ _ _ q').2⟩, by rw [h4]; exact hj.1⟩
  obtain ⟨q1, q2⟩ := hh i A o q
  rw [h4]
  exact hj.2 A o (h.1 _ _ _ q2) (by have := h.2 _ _ _ _ _ _ q1 q2 h0; unfold dsj at this; omega)
/-! the steps -/
theorem IN.same (h : IN g σ) (hr : ∀ n, n ≠ 0 → n ≠ 5 → n ≠ 8 → n ≠ 9 → σ' n = σ n) (h5 : σ' 0 5 = σ 0 5) (h6 : σ' 0 6 = σ 0 6) (h7 : σ' 0 7 = σ 0 7) : IN g σ' := by
  have e2 := hr 2 (by decide) (by decide) (by decide) (by decide)
  have e3 := hr 3 (by decide) (by decide) (by decide) (by decide)
  have e4 := hr 4 (by decide) (by decide) (by decide) (by decide)
  have eN : ∀ k, σ' (10 + k) = σ (10 + k) := fun k => hr _ (by omega) (by omega) (by omega) (by omega)
  have eJ : ∀ k, σ' (40 + k) = σ (40 + k) := fun k => hr _ (by omega) (by omega) (by omega) (by omega)
  have hS : ∀ x, SAM σ σ' x := fun x => ⟨fun k _ => by rw [eN], fun i _ => by rw [e2]⟩
  have hu : usd σ' = usd σ := by funext x; unfold usd; rw [eN]
  have ht : ths σ' = ths σ := by funext x; unfold ths; rw [eJ]
  refine ⟨⟨by rw [e4]; exact h.mi, fun k hk => by rw [e3, e4]; exact h.cn k hk, fun i hi => by rw [e2]; exact h.lm i hi, fun x hx => by rw [eN]; exact h.flg x hx, fun x hx => by rw [eJ]; exact h.stt x hx, by rw [h6, hu]; exact h.c6, by rw [h7, ht]; exact h.c7, by rw [h5]; exact h.qu⟩, ?_, ?_, ?_, ?_, ?_, ?_⟩
  · refine h.hld.ext e4 (fun i A o q => ?_)
    unfold hold at *
    simp only [eN, eJ] at q
    exact q
  · intro x hx hu
    rw [eN] at hu
    unfold NOK
    rw [eN]; exact h.nok x hx hu
  · intro x hx hu
    rw [eN] at hu ⊢
    rw [pns_ext (σ := σ) (fun j _ => pl1_row (by rw [eJ]) (by rw [eJ]) (by rw [eJ]) (by rw [eJ]) (by rw [eJ]))]
    exact h.pin x hx hu
  · intro j hj hq
    refine (h.jq j hj (by unfold qd at *; rw [eJ] at hq; exact hq)).keep (fun k _ => by rw [eJ]) (fun x _ => hS x)
  · intro j hj
    have := h.res j hj
    unfold RES qd at *
    simp only [eN, eJ]; exact this
  · intro j j' hj hj' hne e
    rw [eJ, eJ] at e
    rw [eJ]; exact h.dst j j' hj hj' hne e
/-- limbs of a number that no job holds fast -/
theorem IN.limb (h : IN g σ) (hnp : g.2.1 = 2 ^ g.1) {x i : Nat} {w : Int} (hx : x < g.2.2.1) (hu : σ (10 + x) 0 = 1) (hp : ¬ 0 < σ (10 + x) 5) (hi : i < (σ (10 + x) 2).toNat) (hw : 0 ≤ w ∧ w < 2147483648) : IN g (up σ 2 ((σ (10 + x) 3).toNat + i) w) := by
  have eN : ∀ k, up σ 2 ((σ (10 + x) 3).toNat + i) w (10 + k) = σ (10 + k) := fun k => up_n (by omega)
  have eJ : ∀ k, up σ 2 ((σ (10 + x) 3).toNat + i) w (40 + k) = σ (40 + k) := fun k => up_n (by omega)
  obtain ⟨A, n, o, c1, c2, c3, -, c5, -, -, -, c8⟩ := h.num hnp hx hu
  have hS : ∀ y, y < g.2.2.1 → σ (10 + y) 0 = 1 → y ≠ x → SAM σ (up σ 2 ((σ (10 + x) 3).toNat + i) w) y := by
    intro y hy hyu hne
    refine ⟨fun k _ => by rw [eN], fun k hk => ?_⟩
    obtain ⟨A', n', o', d1, d2, d3, -, d5, -, -, -, d8⟩ := h.num hnp hy hyu
    have := h.hld.2 _ _ _ _ _ _ hne d8 c8
    unfold dsj at this
    rw [up_s, zup_n]
    rw [d1, c1, Int.toNat_natCast, Int.toNat_natCast]
    rw [d2, Int.toNat_natCast] at hk
    rw [c2, Int.toNat_natCast] at hi
    omega
  refine ⟨⟨by rw [up_n (by decide)]; exact h.mi, fun k hk => by rw [up_n (by decide), up_n (by decide)]; exact h.cn k hk, fun k hk => ?_, fun y hy => by rw [eN]; exact h.flg y hy, fun y hy => by rw [eJ]; exact h.stt y hy, ?_, ?_, by rw [up_n (by decide)]; exact h.qu⟩, ?_, ?_, ?_, ?_, ?_, ?_⟩
  · rw [up_s]
    by_cases c : k = (σ (10 + x) 3).toNat + i
    · rw [c, zup_s]; exact hw
    · rw [zup_n c]; exact h.lm k hk
  · rw [up_n (by decide), h.c6]
    exact (cnt_ext 1 (fun b _ => by unfold usd; rw [eN])).symm
  · rw [up_n (by decide), h.c7]
    exact (cnt_ext 1 (fun b _ => by unfold ths; rw [eJ])).symm
  · refine h.hld.ext (up_n (by decide)) (fun i A o q => ?_)
    unfold hold at *
    simp only [eN, eJ] at q
    exact q
  · intro y hy hu
    rw [eN] at hu
    unfold NOK
    rw [eN]; exact h.nok y hy hu
  · intro y hy hu
    rw [eN] at hu ⊢
    rw [pns_ext (σ := σ) (fun j _ => pl1_row (by rw [eJ]) (by rw [eJ]) (by rw [eJ]) (by rw [eJ]) (by rw [eJ]))]
    exact h.pin y hy hu
  · intro j hj hq
    have hq0 : qd σ j := by unfold qd at *; rw [eJ] at hq; exact hq
    refine (h.jq j hj hq0).keep (fun k _ => by rw [eJ]) (fun y ht => ?_)
    obtain ⟨t1, t2, t3⟩ := h.tq hj hq0 ht
    exact hS y t1 t2 (fun e => by rw [e] at t3; omega)
  · intro j hj
    have := h.res j hj
    unfold RES qd at *
    simp only [eN, eJ]; exact this
  · intro j j' hj hj' hne e
    rw [eJ, eJ] at e
    rw [eJ]; exact h.dst j j' hj hj' hne e
end ST
