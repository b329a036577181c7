/-! INV IS KEPT by every method of the class -/
section ST
variable {g : Nat × Nat × Nat × Nat} {σ σ' : St} {q : List Int}
theorem QOK.same (h : QOK g σ q) (hq : ∀ j, j < g.2.2.2 → (qd σ' j ↔ qd σ j)) : QOK g σ' q := by
  refine ⟨h.1, fun x hx => ?_, fun j hj hqj => h.2.2 j hj ((hq j hj).mp hqj)⟩
  obtain ⟨j, e, hj, hqj⟩ := h.2.1 x hx
  exact ⟨j, e, hj, (hq j hj).mpr hqj⟩
theorem qd_row {j : Nat} (e : σ' (40 + j) 0 = σ (40 + j) 0) : qd σ' j ↔ qd σ j := by unfold qd; rw [e]
theorem INV.newNumber (h : INV g σ q) (hg : GG g) (hnp : g.2.1 = 2 ^ g.1) {n v : Int} (hP : nnP g σ σ' n v) : INV g σ' q := by
  rcases hP with ⟨-, -, rfl⟩ | ⟨hn, ⟨-, -, rfl⟩ | ⟨x, o, ⟨hx, hu, -⟩, ho, ⟨-, -, rfl⟩ | ⟨A, σ1, hv, hA, hO, -⟩⟩⟩
  · exact h
  · exact h
  · exact h
  · obtain ⟨hI, hQ, hK⟩ := h
    have m5 := (hv.mi hg.2.1 hnp hI.mi).2.2.2.2
    have hr := hO.2.2.2.2.2.2.2.2
    refine ⟨hI.occ hg hnp hx hu hv (by rw [show ((n.toNat : Nat) : Int) = n by omega]; exact ho) (by omega) hO, hQ.row ?_ ?_, hK.same (fun j hj => qd_row ?_)⟩
    · rw [hr 8 (by decide) (by decide) (by omega), m5 8 (by decide) (by decide)]
    · rw [hr 9 (by decide) (by decide) (by omega), m5 9 (by decide) (by decide)]
    · rw [hr _ (by omega) (by omega) (by omega), m5 _ (by omega) (by omega)]
theorem INV.setLimb (h : INV g σ q) (hnp : g.2.1 = 2 ^ g.1) {x i w : Int} (hw : w < 2147483648) (hP : setOk g σ x i w) : INV g (up σ 2 (σ (10 + x.toNat) 3 + i).toNat w) q := by
  obtain ⟨⟨x1, x2, x3⟩, p, ⟨i1, i2⟩, w1⟩ := hP
  obtain ⟨hI, hQ, hK⟩ := h
  obtain ⟨A, n, o, c1, c2, -⟩ := hI.num hnp (show x.toNat < g.2.2.1 by omega) x3
  have e : (σ (10 + x.toNat) 3 + i).toNat = (σ (10 + x.toNat) 3).toNat + i.toNat := by omega
  rw [e]
  exact ⟨hI.limb hnp (by omega) x3 p (by omega) ⟨w1, hw⟩, hQ.row (up_n (by decide)) (up_n (by decide)), hK.same (fun j _ => qd_row (by rw [up_n (by omega)]))⟩
theorem INV.untouched (h : IN g σ) {x : Nat} (hp : ¬ 0 < σ (10 + x) 5) : ∀ j, j < g.2.2.2 → qd σ j → ¬ tch σ j x := fun j hj hq ht => by
  have := (h.tq hj hq ht).2.2; omega
theorem INV.release (h : INV g σ q) (hg : GG g) {x A o : Nat} (hx : x < g.2.2.1) (hu : σ (10 + x) 0 = 1) (hp : ¬ 0 < σ (10 + x) 5) (hA : σ (10 + x) 3 = A) (ho : σ (10 + x) 4 = o) (hV : VAC g (clrU σ x g.2.2.2) σ' x A o) : INV g σ' q := by
  obtain ⟨hI, hQ, hK⟩ := h
  have hnt := INV.untouched hI hp
  have hI2 := hI.clr hnt hx hg.2.2.2.2.2.1
  have eN : clrU σ x g.2.2.2 (10 + x) = σ (10 + x) := clrU_lo (by omega)
  have eJ : ∀ j k, k ≠ 5 → clrU σ x g.2.2.2 (40 + j) k = σ (40 + j) k := fun j k hk => by
    unfold clrU
    split
    · rw [zup_n hk]
    · rfl
  have hr := hV.2.2.2.2
  have h5 : ∀ j, j < g.2.2.2 → clrU σ x g.2.2.2 (40 + j) 5 ≠ x := fun j hj e => by
    by_cases c : σ (40 + j) 5 = x
    · unfold clrU at e
      rw [if_pos ⟨by omega, by omega, c⟩, zup_s] at e; omega
    · unfold clrU at e
      rw [if_neg (fun q => c q.2.2)] at e; exact c e
  refine ⟨hI2.vac hg hx (by rw [eN]; exact hu) (by rw [eN]; exact hA) (by rw [eN]; exact ho) (fun j hj hq ht => ?_) h5 hV, hQ.row ?_ ?_, hK.same (fun j hj => qd_row ?_)⟩
  · have hq0 : qd σ j := by unfold qd at *; rw [eJ j 0 (by decide)] at hq; exact hq
    rcases ht with t | t | t | ⟨-, t⟩
    · rw [eJ j 2 (by decide)] at t; exact hnt j hj hq0 (Or.inl t)
    · rw [eJ j 3 (by decide)] at t; exact hnt j hj hq0 (Or.inr (Or.inl t))
    · rw [eJ j 1 (by decide), eJ j 4 (by decide)] at t; exact hnt j hj hq0 (Or.inr (Or.inr (Or.inl t)))
    · exact h5 j hj t
  · rw [hr 8 (by decide) (by decide) (by decide) (by omega), clrU_lo (by omega)]
  · rw [hr 9 (by decide) (by decide) (by decide) (by omega), clrU_lo (by omega)]
  · rw [hr _ (by omega) (by omega) (by omega) (by omega), eJ j 0 (by decide)]
theorem INV.forget (h : INV g σ q) (hg : GG g) {j : Nat} (hj : j < g.2.2.2) (hs : 2 ≤ σ (40 + j) 0) : INV g (up (up (up (up σ (40 + j) 0 (-1)) (40 + j) 5 (-1)) (40 + j) 8 (-1)) 0 7 (σ 0 7 - 1)) q := by
  obtain ⟨hI, hQ, hK⟩ := h
  refine ⟨hI.forget hg hj hs, hQ.row ?_ ?_, hK.same (fun i hi => ?_)⟩
  · rw [up_n (by decide), up_n (by omega), up_n (by omega), up_n (by omega)]
  · rw [up_n (by decide), up_n (by omega), up_n (by omega), up_n (by omega)]
  · by_cases c : i = j
    · subst c
      unfold qd
      rw [up_n (by omega), up_s, zup_n (by decide), up_s, zup_n (by decide), up_s, zup_s]
      omega
    · exact qd_row (by rw [up_n (by omega), up_n (by omega), up_n (by omega), up_n (by omega)])
theorem cnt_0 {f : Nat → Int} {o : Int} : ∀ {n : Nat}, (∀ b, b < n → f b ≠ o) → cnt f o n = 0
  | 0, _ => rfl
  | n + 1, h => by rw [cnt_s, cnt_0 (fun b hb => h b (by omega)), if_neg (h n (by omega))]; rfl
/-- a memory of which all is free -/
theorem MI_new {pl : Nat} {f : Nat → Int} (h : ∀ a, a < 2 ^ pl → f a = if a = 0 then (pl : Int) else -1) : MI pl f := by
  have hp : 0 < 2 ^ pl := Nat.two_pow_pos pl
  refine ⟨fun a ha => ?_, fun a o ha e => ?_, fun a o ha ho e => ?_⟩
  · rw [h a ha]; split <;> omega
  · rw [h a ha] at e
    split at e
    · obtain rfl : pl = o := by omega
      rename_i c
      subst c
      exact ⟨Nat.dvd_zero _, by omega, fun b b1 b2 => by rw [h b (by omega), if_neg (by omega)]⟩
    · omega
  · rw [h a ha] at e
    split at e <;> omega
theorem INV.init (hg : GG g) (hnp : g.2.1 = 2 ^ g.1) (h5 : 1 ≤ σ 0 5 ∧ σ 0 5 ≤ 2000) (hL : LM g σ) (hF : ∀ x, x < g.2.2.1 → σ (10 + x) 1 = 0 ∨ σ (10 + x) 1 = 1) (h8 : 0 ≤ σ 8 1 ∧ σ 8 1 < g.2.2.2) (hI : INI g σ σ') : INV g σ' [] := by
  obtain ⟨σ1, ⟨r1, r4, r3⟩, rfl⟩ := hI
  have hr : ∀ n, n ≠ 0 → (up (up (up (iniJ (iniN (up σ1 8 2 0) g.2.2.1) g.2.2.2) 0 6 0) 0 7 0) 0 8 0) n = iniJ (iniN (up σ1 8 2 0) g.2.2.1) g.2.2.2 n := fun n hn => by rw [up_n hn, up_n hn, up_n hn]
  have lo : ∀ n, n ≠ 0 → n < 10 → (up (up (up (iniJ (iniN (up σ1 8 2 0) g.2.2.1) g.2.2.2) 0 6 0) 0 7 0) 0 8 0) n = up σ1 8 2 0 n := fun n hn h10 => by
    rw [hr n hn]; unfold iniJ; rw [if_neg (by omega)]; unfold iniN; rw [if_neg (by omega)]
  have eN : ∀ x, x < g.2.2.1 → (up (up (up (iniJ (iniN (up σ1 8 2 0) g.2.2.1) g.2.2.2) 0 6 0) 0 7 0) 0 8 0) (10 + x) = zup (σ (10 + x)) 0 0 := fun x hx => by
    rw [hr _ (by omega)]; unfold iniJ; rw [if_neg (by omega)]; unfold iniN; rw [if_pos (by omega), up_n (by omega), r1 _ (by omega) (by omega)]
  have eJ : ∀ j, j < g.2.2.2 → (up (up (up (iniJ (iniN (up σ1 8 2 0) g.2.2.1) g.2.2.2) 0 6 0) 0 7 0) 0 8 0) (40 + j) = zup (zup (zup (σ (40 + j)) 0 (-1)) 5 (-1)) 8 (-1) := fun j hj => by
    rw [hr _ (by omega)]; unfold iniJ; rw [if_pos (by omega)]; unfold iniN; rw [if_neg (by omega), up_n (by omega), r1 _ (by omega) (by omega)]
  have e0 : (up (up (up (iniJ (iniN (up σ1 8 2 0) g.2.2.1) g.2.2.2) 0 6 0) 0 7 0) 0 8 0) 0 = zup (zup (zup (σ 0) 6 0) 7 0) 8 0 := by
    rw [up_s, up_s, up_s]; unfold iniJ; rw [if_neg (by omega)]; unfold iniN; rw [if_neg (by omega), up_n (by omega), r1 _ (by omega) (by omega)]
  generalize up (up (up (iniJ (iniN (up σ1 8 2 0) g.2.2.1) g.2.2.2) 0 6 0) 0 7 0) 0 8 0 = τ at lo eN eJ e0 ⊢
  clear hr
  have e2 : τ 2 = σ 2 := by rw [lo 2 (by decide) (by decide), up_n (by decide), r1 2 (by decide) (by decide)]
  have e3 : τ 3 = σ1 3 := by rw [lo 3 (by decide) (by decide), up_n (by decide)]
  have e4 : τ 4 = σ1 4 := by rw [lo 4 (by decide) (by decide), up_n (by decide)]
  have e8 : τ 8 = zup (σ 8) 2 0 := by rw [lo 8 (by decide) (by decide), up_s, r1 8 (by decide) (by decide)]
  have u0 : ∀ x, x < g.2.2.1 → τ (10 + x) 0 = 0 := fun x hx => by rw [eN x hx, zup_s]
  have j0 : ∀ j, j < g.2.2.2 → τ (40 + j) 0 = -1 := fun j hj => by rw [eJ j hj, zup_n (by decide), zup_n (by decide), zup_s]
  have j5 : ∀ j, j < g.2.2.2 → τ (40 + j) 5 = -1 := fun j hj => by rw [eJ j hj, zup_n (by decide), zup_s]
  have j8 : ∀ j, j < g.2.2.2 → τ (40 + j) 8 = -1 := fun j hj => by rw [eJ j hj, zup_s]
  have nq : ∀ j, j < g.2.2.2 → ¬ qd τ j := fun j hj q => by have := j0 j hj; unfold qd at q; omega
  have hM : MI g.1 (τ 4) := by rw [e4]; exact MI_new (fun a ha => r4 a (by omega))
  have nh : ∀ i A o, ¬ hold g τ i A o := by
    rintro i A o (⟨q1, q2, -⟩ | ⟨j, q1, q2, q3, -⟩)
    · have := u0 i q1; omega
    · have := j8 j q2; omega
  refine ⟨⟨⟨hM, fun k hk => ?_, fun k hk => by rw [e2]; exact hL k hk, fun x hx => ⟨Or.inl (u0 x hx), by rw [eN x hx, zup_n (by decide)]; exact hF x hx⟩, fun j hj => by have := j0 j hj; omega, ?_, ?_, by rw [e0, zup_n (by decide), zup_n (by decide), zup_n (by decide)]; exact h5⟩, ⟨fun i A o q => absurd q (nh i A o), fun i i' A o A' o' _ q => absurd q (nh i A o)⟩, fun x hx hu => by have := u0 x hx; omega, fun x hx hu => by have := u0 x hx; omega, fun j hj q => absurd q (nq j hj), fun j hj => ⟨Or.inl (j5 j hj), fun _ _ => j5 j hj, fun _ => j8 j hj, fun q => by have := j0 j hj; omega⟩, fun j j' hj hj' _ _ => j5 j hj⟩, ?_, ?_⟩
  · rw [e3, e4, r3 k hk]
    have hp : 0 < 2 ^ g.1 := Nat.two_pow_pos g.1
    by_cases c : k = g.1
    · rw [if_pos c, c]
      have : cnt (σ1 4) (g.1 : Int) g.2.1 = cnt (zup (fun _ => -1) 0 (g.1 : Int)) (g.1 : Int) g.2.1 := cnt_ext _ (fun b hb => by
        rw [r4 b hb]
        by_cases c : b = 0
        · rw [if_pos c, c, zup_s]
        · rw [if_neg c, zup_n c])
      rw [this, cnt_up _ _ _ _ (by omega), cnt_0 (fun b _ => by omega), if_neg (by omega), if_pos rfl]; rfl
    · rw [if_neg c, cnt_0 (fun b hb => by rw [r4 b hb]; split <;> omega)]
  · rw [e0, zup_n (by decide), zup_n (by decide), zup_s, cnt_0 (fun b hb => by unfold usd; rw [u0 b hb]; decide)]
  · rw [e0, zup_n (by decide), zup_s, cnt_0 (fun b hb => by unfold ths; rw [if_neg (by have := j0 b hb; omega)]; decide)]
  · refine ⟨by rw [e8, zup_n (by decide)]; exact h8, by rw [e8, zup_s]; rfl, by simp, fun k hk => absurd hk (Nat.not_lt_zero k)⟩
  · exact ⟨List.nodup_nil, fun x hx => absurd hx (List.not_mem_nil), fun j hj q => absurd q (nq j hj)⟩
end ST
