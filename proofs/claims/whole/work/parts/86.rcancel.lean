/-! THE REFERENCE'S CANCEL -/
theorem UNP.row {ρ ρ' : St} {op : Int} {a b m : Nat} (h : UNP ρ ρ' op a b m) {n : Nat} (hn : n ≠ 10) : ρ' n = ρ n := by
  rcases h with ⟨-, rfl⟩ | ⟨-, rfl⟩ <;> simp only [dn, up_n hn]
theorem LEV.row {g : Nat × Nat × Nat × Nat} {ρ ρ' : St} {q : List Int} {j a b m : Nat} (h : LEV g ρ ρ' q j a b m) : (∀ n, n ≠ 0 → n ≠ 5 → n ≠ 10 → n ≠ 20 → n ≠ 21 → ρ' n = ρ n) ∧ (∀ k, k ≠ 22 → ρ' 0 k = ρ 0 k) ∧ (∃ ρ2 : St, ρ' 0 = ρ2 0 ∧ ρ' 21 = ρ2 21 ∧ QL ρ2 (q.filter (fun x => !decide (x = (j : Int))))) ∧ ρ' 20 j = -1 := by
  obtain ⟨ρ1, ρ2, ⟨hQ, h1, h2⟩, hU, h3⟩ := h
  have hr : ∀ n, n ≠ 5 → n ≠ 20 → ρ' n = ρ2 n := by
    intro n h5 h20
    rcases h3 with ⟨-, rfl⟩ | ⟨r, o, -, -, rfl⟩
    · rfl
    · rw [up_n h20, upr_n h5]
  refine ⟨fun n n0 n5 n10 n20 n21 => by rw [hr n n5 n20, hU.row n10, h1 n n0 n21], fun k hk => by rw [hr 0 (by decide) (by decide), hU.row (by decide), h2 k hk], ⟨ρ1, by rw [hr 0 (by decide) (by decide), hU.row (by decide)], by rw [hr 21 (by decide) (by decide), hU.row (by decide)], hQ⟩, ?_⟩
  rcases h3 with ⟨e, rfl⟩ | ⟨r, o, -, -, rfl⟩
  · rw [hU.row (by decide), h1 _ (by decide) (by decide)]; exact e
  · rw [up_s, zup_s]
def ROM (g : Nat × Nat × Nat × Nat) (ρ : St) (j : Nat) : Prop := ρ 20 j = -1 ∨ ∃ r o : Nat, ρ 19 j = r ∧ ρ 20 j = o ∧ HB g.1 (ρ 5) r o
def apt (ρ : St) (j A o : Nat) : Prop := ∀ r o2 : Nat, ρ 19 j = r → ρ 20 j = o2 → A + 2 ^ o ≤ r ∨ r + 2 ^ o2 ≤ A
theorem ROM.bl {g : Nat × Nat × Nat × Nat} {ρ : St} {j : Nat} (h : ROM g ρ j) : ρ 20 j = -1 ∨ ∃ r o : Nat, ρ 19 j = r ∧ ρ 20 j = o ∧ BLr g (ρ 5) r o := by
  rcases h with h | ⟨r, o, h1, h2, h3⟩
  · exact Or.inl h
  · exact Or.inr ⟨r, o, h1, h2, h3.lt.2, h3.1, h3.2.1, h3.2.2.1⟩
theorem LEV.mi {g : Nat × Nat × Nat × Nat} {ρ ρ' : St} {q : List Int} {j a b m : Nat} (hpl : g.1 ≤ 11) (hM : MI g.1 (ρ 5)) (hR : ROM g ρ j) (h : LEV g ρ ρ' q j a b m) : MI g.1 (ρ' 5) ∧ ∀ x y, HB g.1 (ρ 5) x y → apt ρ j x y → HB g.1 (ρ' 5) x y := by
  obtain ⟨ρ1, ρ2, ⟨hQ, h1, h2⟩, hU, h3⟩ := h
  rcases h3 with ⟨-, rfl⟩ | ⟨r, o, e19, e20, rfl⟩
  · rw [hU.row (by decide), h1 _ (by decide) (by decide)]
    exact ⟨hM, fun x y hx _ => hx⟩
  · rw [up_n (by decide), upr_s]
    have hB : HB g.1 (ρ 5) r o := by
      rcases hR with q | ⟨r1, o1, q1, q2, q3⟩
      · omega
      · obtain rfl : r = r1 := by omega
        obtain rfl : o = o1 := by omega
        exact q3
    have := HB.join hpl (n := 12) (by omega) hM hB
    exact ⟨this.1, fun x y hx ha => this.2 x y hx (by have := ha r o e19 e20; omega)⟩
def CNR (g : Nat × Nat × Nat × Nat) (ρ ρ' : St) (q : List Int) (j a b m : Nat) : Prop := ∃ ρ1 : St, LEV g ρ ρ1 q j a b m ∧ ((ρ 18 j = -1 ∧ ρ' = up (up ρ1 12 j 3) 18 j (-1)) ∨ ∃ h A o : Nat, ρ 18 j = h ∧ ρ 8 h = A ∧ ρ 9 h = o ∧ ρ' = up (GO g (up (up ρ1 12 j 3) 10 h 0) h A o) 18 j (-1))
def CPr (g : Nat × Nat × Nat × Nat) (ρ : St) (j a b m : Nat) : Prop := (a < 24 ∧ b < 24 ∧ m < 24) ∧ ρ 14 j = a ∧ ρ 15 j = b ∧ ((ρ 13 j = 3 ∧ ρ 16 j = m) ∨ (ρ 13 j ≠ 3 ∧ ρ 16 j = -1)) ∧ ROM g ρ j ∧ (ρ 18 j = -1 ∨ ∃ h A o : Nat, ρ 18 j = h ∧ h < 24 ∧ ρ 8 h = A ∧ ρ 9 h = o ∧ HB g.1 (ρ 5) A o ∧ apt ρ j A o)
theorem gs12 {f : Nat → Int} {n : Nat} (h : ∀ j, j < 12 → -1 ≤ f j ∧ f j ≤ 3) : ∀ j, j < 12 → -1 ≤ zup f n 3 j ∧ zup f n 3 j ≤ 3 := by
  intro j hj
  by_cases c : j = n
  · rw [c, zup_s]; decide
  · rw [zup_n c]; exact h j hj
theorem gs18 {f s : Nat → Int} {n : Nat} (h : ∀ j, j < 12 → 0 ≤ f j → -1 ≤ s j ∧ s j ≤ 23) (hn : -1 ≤ s n ∧ s n ≤ 23) : ∀ j, j < 12 → 0 ≤ zup f n 3 j → -1 ≤ s j ∧ s j ≤ 23 := by
  intro j hj
  by_cases c : j = n
  · rw [c]; exact fun _ => hn
  · rw [zup_n c]; exact h j hj
set_option maxHeartbeats 4000000 in
set_option maxRecDepth 100000 in
theorem r_cancel {l : Launch} {D : va_G} {ad : Nat → Nat} {g : Nat × Nat × Nat × Nat} (hg : 3 ≤ g.1 ∧ g.1 ≤ 11 ∧ 8 ≤ g.2.1 ∧ g.2.1 ≤ 2048 ∧ 1 ≤ g.2.2.1 ∧ g.2.2.1 ≤ 24 ∧ 1 ≤ g.2.2.2 ∧ g.2.2.2 ≤ 12) (hnp : g.2.1 = 2 ^ g.1) (ρ : St) (hs : RS g ρ) (hF : RF ρ) (hR18 : ∀ j, j < 12 → 0 ≤ ρ 12 j → -1 ≤ ρ 18 j ∧ ρ 18 j ≤ 23) (hM : MI g.1 (ρ 5)) (q : List Int) (hq : QL ρ q) (hqr : ∀ x ∈ q, 0 ≤ x ∧ x < 12) (hJ : ∀ j, j < g.2.2.2 → (ρ 12 j = 0 ∨ ρ 12 j = 1) → ∃ a b m, CPr g ρ j a b m) (j : Int) (rg_j : -2147483648 ≤ j ∧ j < 2147483648) : Rt l D ad yX6_cancel (Cond.code yX6_cancel cX6_cancel 3 (some .boolean) :: tb) 2 80 [.ref (ad 0), vi j] ρ (fun v ρ' => (¬ (rJb g ρ j ∧ ρ 12 j.toNat ≤ 1) ∧ v = some (vi 0) ∧ ρ = ρ') ∨ (v = some (vi 1) ∧ ∃ n a b m : Nat, j = n ∧ n < g.2.2.2 ∧ (ρ 12 n = 0 ∨ ρ 12 n = 1) ∧ CPr g ρ n a b m ∧ CNR g ρ ρ' q n a b m)) := by
  refine ct_of (by decide) rfl (Nat.le_of_ble_eq_true rfl) ?_
  intro p e s m below meth c C
  change X _ _ _ _ _ _ _ _ _ _ _ _ _ _ _ _ [(0, .ref (ad 0)), (1, vi j)] _
  refine x_aload_n C dX6_cancel_0 rfl rfl ?_
  refine x_iload_n C dX6_cancel_1 rfl rfl ?_
  refine x_callV C (ci := 6) (nn := 1) (r_isJob hg ρ hs hF j rg_j) g_RX6_174 rfl (by decide +kernel) ⟨by first | decide | omega, by first | decide | omega⟩ rfl rfl rfl rfl rfl (Nat.le_of_ble_eq_true rfl) dX6_cancel_2 (fun v h1 hp => ?_)
  obtain ⟨ρ1, rfl, rfl, x, rfl, hx⟩ := hp
  have hxr : 0 ≤ x ∧ x ≤ 1 := by rcases hx with ⟨h, -⟩ | ⟨h, -⟩ <;> omega
  refine x_if_eq (tgt := 18) C dX6_cancel_5 (by decide) (by omega) (fun c_5 => ?_) (fun c_5 => ?_)
  · rcases hx with ⟨h1, -⟩ | ⟨-, hN⟩
    · omega
    refine x_iconst C dX6_cancel_18 ?_
    exact x_zret C dX6_cancel_19 (by omega) ⟨_, rfl, Or.inl ⟨fun q => hN q.1, rfl, rfl⟩⟩
  · rcases hx with ⟨-, hN⟩ | ⟨h0, -⟩
    rotate_left
    · exact absurd h0 c_5
    obtain ⟨n, rfl, hn, h6⟩ := id hN
    have hf := hF.2.2 n (by omega)
    refine x_aload_n C dX6_cancel_8 rfl rfl ?_
    refine x_get C (Cn := RX6) (T := TX6) (N := 33) (ci := 6) 12 dX6_cancel_9 m_w_6 m_f_RX6_35 rfl (by decide) rfl rfl ?_
    refine x_iload_n C dX6_cancel_12 rfl rfl ?_
    refine x_iald C dX6_cancel_13 rfl (by omega) (by omega) ?_
    refine x_iconst C dX6_cancel_14 ?_
    rw [Int.toNat_natCast]
    refine x_icmp_le (tgt := 20) C dX6_cancel_15 (by decide) (by omega) (by omega) (fun c_15 => ?_) (fun c_15 => ?_)
    · obtain ⟨a, b, m0, hC⟩ := hJ n hn (by omega)
      have hC0 := hC
      obtain ⟨hlt, e14, e15, hm, hRo, hRe⟩ := hC
      have h18 := hR18 n (by omega) h6
      refine x_aload_n C dX6_cancel_20 rfl rfl ?_
      refine x_iload_n C dX6_cancel_21 rfl rfl ?_
      refine x_callV C (ci := 6) (nn := 1) (r_leave hg hnp ρ hs hM q hq hqr n a b m0 (by omega) hlt e14 e15 hm hRo.bl) g_RX6_168 rfl (by decide +kernel) ⟨by first | decide | omega, by first | decide | omega⟩ rfl rfl rfl rfl rfl (Nat.le_of_ble_eq_true rfl) dX6_cancel_22 (fun v h1 hp => ?_)
      obtain ⟨ρ1, rfl, rfl, hL⟩ := hp
      obtain ⟨w1, w2, -, -⟩ := hL.row
      obtain ⟨k1, k2⟩ := hL.mi (by omega) hM hRo
      refine x_aload_n C dX6_cancel_25 rfl rfl ?_
      refine x_get C (Cn := RX6) (T := TX6) (N := 33) (ci := 6) 18 dX6_cancel_26 m_w_6 m_f_RX6_54 rfl (by decide) rfl rfl ?_
      refine x_iload_n C dX6_cancel_29 rfl rfl ?_
      refine x_iald C dX6_cancel_30 rfl (by omega) (by omega) ?_
      rw [Int.toNat_natCast, w1 18 (by decide) (by decide) (by decide) (by decide) (by decide)]
      refine x_istore_n C (lv' := [(2, _), (0, _), (1, _)]) dX6_cancel_31 rfl (by decide) rfl ?_
      refine x_aload_n C dX6_cancel_32 rfl rfl ?_
      refine x_get C (Cn := RX6) (T := TX6) (N := 33) (ci := 6) 12 dX6_cancel_33 m_w_6 m_f_RX6_35 rfl (by decide) rfl rfl ?_
      refine x_iload_n C dX6_cancel_36 rfl rfl ?_
      refine x_iconst C dX6_cancel_37 ?_
      refine r_ast C dX6_cancel_38 (fun _ => rfl) (by omega) (by omega) ?_
      rw [Int.toNat_natCast]
      refine x_iload_n C dX6_cancel_39 rfl rfl ?_
      refine x_if_lt (tgt := 55) C dX6_cancel_40 (by decide) (by omega) (fun c_40 => ?_) (fun c_40 => ?_)
      · refine x_aload_n C dX6_cancel_55 rfl rfl ?_
        refine x_get C (Cn := RX6) (T := TX6) (N := 33) (ci := 6) 18 dX6_cancel_56 m_w_6 m_f_RX6_54 rfl (by decide) rfl rfl ?_
        refine x_iload_n C dX6_cancel_59 rfl rfl ?_
        refine x_iconst C dX6_cancel_60 ?_
        refine r_ast C dX6_cancel_61 (fun _ => rfl) (by omega) (by omega) ?_
        rw [Int.toNat_natCast]
        refine x_iconst C dX6_cancel_62 ?_
        exact x_zret C dX6_cancel_63 (by omega) ⟨_, rfl, Or.inr ⟨rfl, n, a, b, m0, rfl, hn, by omega, hC0, ρ1, hL, Or.inl ⟨by omega, rfl⟩⟩⟩
      · obtain ⟨h, A, o, e18, hh, eA, eO, hB, hap⟩ : ∃ h A o : Nat, ρ 18 n = h ∧ h < 24 ∧ ρ 8 h = A ∧ ρ 9 h = o ∧ HB g.1 (ρ 5) A o ∧ apt ρ n A o := by
          rcases hRe with q | q
          · omega
          · exact q
        rw [e18]
        have hB1 := k2 A o hB hap
        refine x_aload_n C dX6_cancel_43 rfl rfl ?_
        refine x_get C (Cn := RX6) (T := TX6) (N := 33) (ci := 6) 10 dX6_cancel_44 m_w_6 m_f_RX6_29 rfl (by decide) rfl rfl ?_
        refine x_iload_n C dX6_cancel_47 rfl rfl ?_
        refine x_iconst C dX6_cancel_48 ?_
        refine r_ast C dX6_cancel_49 (fun _ => rfl) (by omega) (by omega) ?_
        rw [Int.toNat_natCast]
        refine x_aload_n C dX6_cancel_50 rfl rfl ?_
        refine x_iload_n C dX6_cancel_51 rfl rfl ?_
        refine x_callV C (ci := 6) (nn := 1) (r_go hg hnp (up (up ρ1 12 n 3) 10 h 0) (by unfold RS; rw [up_n (by decide), up_n (by decide), w2 0 (by decide), w2 1 (by decide), w2 2 (by decide)]; exact hs) (by rw [up_n (by decide), up_s, w1 12 (by decide) (by decide) (by decide) (by decide) (by decide)]; exact gs12 hF.2.2) (by rw [up_n (by decide), up_s, up_n (by decide), up_n (by decide), w1 12 (by decide) (by decide) (by decide) (by decide) (by decide), w1 18 (by decide) (by decide) (by decide) (by decide) (by decide)]; exact gs18 hR18 h18) (by rw [up_n (by decide), up_n (by decide)]; exact k1) h A o hh (by rw [up_n (by decide), up_n (by decide), w1 8 (by decide) (by decide) (by decide) (by decide) (by decide)]; exact eA) (by rw [up_n (by decide), up_n (by decide), w1 9 (by decide) (by decide) (by decide) (by decide) (by decide)]; exact eO) hB1.lt.2 hB1.1 hB1.2.1 (by rw [up_n (by decide), up_n (by decide)]; exact hB1.2.2.1)) g_RX6_139 rfl (by decide +kernel) ⟨by first | decide | omega, by first | decide | omega⟩ rfl rfl rfl rfl rfl (Nat.le_of_ble_eq_true rfl) dX6_cancel_52 (fun v h1 hp => ?_)
        obtain ⟨ρ2, rfl, rfl, rfl⟩ := hp
        refine x_aload_n C dX6_cancel_55 rfl rfl ?_
        refine x_get C (Cn := RX6) (T := TX6) (N := 33) (ci := 6) 18 dX6_cancel_56 m_w_6 m_f_RX6_54 rfl (by decide) rfl rfl ?_
        refine x_iload_n C dX6_cancel_59 rfl rfl ?_
        refine x_iconst C dX6_cancel_60 ?_
        refine r_ast C dX6_cancel_61 (fun _ => rfl) (by omega) (by omega) ?_
        rw [Int.toNat_natCast]
        refine x_iconst C dX6_cancel_62 ?_
        exact x_zret C dX6_cancel_63 (by omega) ⟨_, rfl, Or.inr ⟨rfl, n, a, b, m0, rfl, hn, by omega, hC0, ρ1, hL, Or.inr ⟨h, A, o, e18, eA, eO, rfl⟩⟩⟩
    · refine x_iconst C dX6_cancel_18 ?_
      exact x_zret C dX6_cancel_19 (by omega) ⟨_, rfl, Or.inl ⟨fun q => by have := q.2; (try rw [Int.toNat_natCast] at this); omega, rfl, rfl⟩⟩
