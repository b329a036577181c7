/-! LEAVES of the class: memory, numeral, job -/
set_option maxHeartbeats 4000000 in
set_option maxRecDepth 100000 in
theorem c_addFree {l : Launch} {D : va_G} {ad : Nat → Nat} {g : Nat × Nat × Nat × Nat} (hg : 3 ≤ g.1 ∧ g.1 ≤ 11 ∧ 8 ≤ g.2.1 ∧ g.2.1 ≤ 2048 ∧ 1 ≤ g.2.2.1 ∧ g.2.2.1 ≤ 24 ∧ 1 ≤ g.2.2.2 ∧ g.2.2.2 ≤ 12) (σ : St) (a k : Int) (ha : 0 ≤ a ∧ a < g.2.1) (hk : 0 ≤ k ∧ k ≤ g.1) : Kt l D ad g yX1_addFree (Cond.code yX1_addFree cX1_addFree 3 none :: tb) 0 0 [.ref (ad 1), vi a, vi k] σ (fun v σ' => v = none ∧ σ' = up (up σ 4 a.toNat k) 3 k.toNat (σ 3 k.toNat + 1)) := by
  refine ct_of (by decide) rfl (Nat.le_of_ble_eq_true rfl) ?_
  intro p e s m below meth c C
  change X _ _ _ _ _ _ _ _ _ _ _ _ _ _ _ _ [(0, .ref (ad 1)), (1, vi a), (2, vi k)] _
  refine x_aload_n C dX1_addFree_0 rfl rfl ?_
  refine x_get C (Cn := RX1) (T := TX1) (N := 4) (ci := 1) 3 dX1_addFree_1 m_w_1 m_f_RX1_22 rfl (by decide) rfl rfl ?_
  refine x_iload_n C dX1_addFree_4 rfl rfl ?_
  refine x_iload_n C dX1_addFree_5 rfl rfl ?_
  refine k_ast C dX1_addFree_6 (fun _ => rfl) (by omega) (by omega) ?_
  refine x_aload_n C dX1_addFree_7 rfl rfl ?_
  refine x_get C (Cn := RX1) (T := TX1) (N := 4) (ci := 1) 2 dX1_addFree_8 m_w_1 m_f_RX1_19 rfl (by decide) rfl rfl ?_
  refine x_iload_n C dX1_addFree_11 rfl rfl ?_
  refine x_dup2 C dX1_addFree_12 rfl rfl ?_
  refine x_iald C dX1_addFree_13 rfl (by omega) (by omega) ?_
  refine x_iconst C dX1_addFree_14 ?_
  refine x_iadd C dX1_addFree_15 ?_
  refine k_ast C dX1_addFree_16 (fun _ => rfl) (by omega) (by omega) ?_
  exact x_vret C dX1_addFree_17 ⟨_, rfl, rfl, rfl⟩
set_option maxHeartbeats 4000000 in
set_option maxRecDepth 100000 in
theorem c_removeFree {l : Launch} {D : va_G} {ad : Nat → Nat} {g : Nat × Nat × Nat × Nat} (hg : 3 ≤ g.1 ∧ g.1 ≤ 11 ∧ 8 ≤ g.2.1 ∧ g.2.1 ≤ 2048 ∧ 1 ≤ g.2.2.1 ∧ g.2.2.1 ≤ 24 ∧ 1 ≤ g.2.2.2 ∧ g.2.2.2 ≤ 12) (σ : St) (a k : Int) (ha : 0 ≤ a ∧ a < g.2.1) (hk : 0 ≤ k ∧ k ≤ g.1) : Kt l D ad g yX1_removeFree (Cond.code yX1_removeFree cX1_removeFree 3 none :: tb) 0 0 [.ref (ad 1), vi a, vi k] σ (fun v σ' => v = none ∧ σ' = up (up σ 4 a.toNat (-1)) 3 k.toNat (σ 3 k.toNat - 1)) := by
  refine ct_of (by decide) rfl (Nat.le_of_ble_eq_true rfl) ?_
  intro p e s m below meth c C
  change X _ _ _ _ _ _ _ _ _ _ _ _ _ _ _ _ [(0, .ref (ad 1)), (1, vi a), (2, vi k)] _
  refine x_aload_n C dX1_removeFree_0 rfl rfl ?_
  refine x_get C (Cn := RX1) (T := TX1) (N := 4) (ci := 1) 3 dX1_removeFree_1 m_w_1 m_f_RX1_22 rfl (by decide) rfl rfl ?_
  refine x_iload_n C dX1_removeFree_4 rfl rfl ?_
  refine x_iconst C dX1_removeFree_5 ?_
  refine k_ast C dX1_removeFree_6 (fun _ => rfl) (by omega) (by omega) ?_
  refine x_aload_n C dX1_removeFree_7 rfl rfl ?_
  refine x_get C (Cn := RX1) (T := TX1) (N := 4) (ci := 1) 2 dX1_removeFree_8 m_w_1 m_f_RX1_19 rfl (by decide) rfl rfl ?_
  refine x_iload_n C dX1_removeFree_11 rfl rfl ?_
  refine x_dup2 C dX1_removeFree_12 rfl rfl ?_
  refine x_iald C dX1_removeFree_13 rfl (by omega) (by omega) ?_
  refine x_iconst C dX1_removeFree_14 ?_
  refine x_isub C dX1_removeFree_15 ?_
  refine k_ast C dX1_removeFree_16 (fun _ => rfl) (by omega) (by omega) ?_
  exact x_vret C dX1_removeFree_17 ⟨_, rfl, rfl, rfl⟩
def lfo (σ : St) (pl : Nat) (a r : Int) : Prop := (r = -1 ∧ ∀ k : Int, a ≤ k → k ≤ pl → ¬ 0 < σ 3 k.toNat) ∨ (a ≤ r ∧ r ≤ pl ∧ 0 < σ 3 r.toNat ∧ ∀ k : Int, a ≤ k → k < r → ¬ 0 < σ 3 k.toNat)
set_option maxHeartbeats 4000000 in
set_option maxRecDepth 100000 in
theorem lp_leastFreeOrder {p : Program} {l : Launch} {e : Env} {R : Room} {s : State} {m : MethodId} {args : Array Value} {below : List Frame} {meth : Method} {c : Code} {D : va_G} {ad : Nat → Nat} {g : Nat × Nat × Nat × Nat} {Q : State → Prop} (C : Fx p s m args meth c D ad cX1_leastFreeOrder 3 (some .int) yX1_leastFreeOrder.cls tb) (hg : 3 ≤ g.1 ∧ g.1 ≤ 11 ∧ 8 ≤ g.2.1 ∧ g.2.1 ≤ 2048 ∧ 1 ≤ g.2.2.1 ∧ g.2.2.1 ≤ 24 ∧ 1 ≤ g.2.2.2 ∧ g.2.2.2 ≤ 12) (σ : St) (hF : ∀ k : Nat, k ≤ g.1 → 0 ≤ σ 3 k ∧ σ 3 k ≤ 2048) (a : Int) (ha : 0 ≤ a ∧ a ≤ 64) (K : ∀ r : Int, lfo σ g.1 a r → ∀ pc lv, (pc = 20 ∨ pc = 28) → X p l e R s m args below meth c D ad 3 Q (kc D ad g σ) pc lv [vi r]) (n : Nat) (z : Int) (hz : a ≤ z ∧ z ≤ 65) (hn : 66 - z ≤ n) (hb : ∀ k : Int, a ≤ k → k < z → ¬ 0 < σ 3 k.toNat) : X p l e R s m args below meth c D ad 3 Q (kc D ad g σ) 2 [(2, vi z), (0, .ref (ad 1)), (1, vi a)] [] := by
  induction n generalizing z with
  | zero => omega
  | succ n ih =>
  refine x_iload_n C dX1_leastFreeOrder_2 rfl rfl ?_
  refine x_aload_n C dX1_leastFreeOrder_3 rfl rfl ?_
  refine x_get C (Cn := RX1) (T := TX1) (N := 4) (ci := 1) 0 dX1_leastFreeOrder_4 m_w_1 m_f_RX1_9 rfl (by decide) rfl rfl ?_
  refine x_icmp_gt (tgt := 27) C dX1_leastFreeOrder_7 (by decide) (by omega) (by omega) (fun c_7 => ?_) (fun c_7 => ?_)
  · refine x_iconst C dX1_leastFreeOrder_27 ?_
    exact K _ (Or.inl ⟨rfl, fun k h1 h2 => hb k h1 (by omega)⟩) _ _ (Or.inr rfl)
  · refine x_aload_n C dX1_leastFreeOrder_10 rfl rfl ?_
    refine x_get C (Cn := RX1) (T := TX1) (N := 4) (ci := 1) 2 dX1_leastFreeOrder_11 m_w_1 m_f_RX1_19 rfl (by decide) rfl rfl ?_
    refine x_iload_n C dX1_leastFreeOrder_14 rfl rfl ?_
    refine x_iald C dX1_leastFreeOrder_15 rfl (by omega) (by omega) ?_
    have hFz := hF z.toNat (by omega)
    refine x_if_le (tgt := 21) C dX1_leastFreeOrder_16 (by decide) (by omega) (fun c_16 => ?_) (fun c_16 => ?_)
    · refine x_iinc C (lv' := [(2, _), (0, _), (1, _)]) dX1_leastFreeOrder_21 rfl (by decide) rfl ?_
      refine x_goto (tgt := 2) C dX1_leastFreeOrder_24 (by decide) ?_
      exact ih _ (by omega) (by omega) (fun k h1 h2 => if q : k < z then hb k h1 q else by rw [show k = z by omega]; omega)
    · refine x_iload_n C dX1_leastFreeOrder_19 rfl rfl ?_
      exact K _ (Or.inr ⟨by omega, by omega, by omega, hb⟩) _ _ (Or.inl rfl)
set_option maxHeartbeats 4000000 in
set_option maxRecDepth 100000 in
theorem c_leastFreeOrder {l : Launch} {D : va_G} {ad : Nat → Nat} {g : Nat × Nat × Nat × Nat} (hg : 3 ≤ g.1 ∧ g.1 ≤ 11 ∧ 8 ≤ g.2.1 ∧ g.2.1 ≤ 2048 ∧ 1 ≤ g.2.2.1 ∧ g.2.2.1 ≤ 24 ∧ 1 ≤ g.2.2.2 ∧ g.2.2.2 ≤ 12) (σ : St) (hF : ∀ k : Nat, k ≤ g.1 → 0 ≤ σ 3 k ∧ σ 3 k ≤ 2048) (a : Int) (ha : 0 ≤ a ∧ a ≤ 64) : Kt l D ad g yX1_leastFreeOrder (Cond.code yX1_leastFreeOrder cX1_leastFreeOrder 3 (some .int) :: tb) 0 0 [.ref (ad 1), vi a] σ (fun v σ' => σ = σ' ∧ ∃ r : Int, v = some (vi r) ∧ lfo σ g.1 a r) := by
  refine ct_of (by decide) rfl (Nat.le_of_ble_eq_true rfl) ?_
  intro p e s m below meth c C
  change X _ _ _ _ _ _ _ _ _ _ _ _ _ _ _ _ [(0, .ref (ad 1)), (1, vi a)] _
  refine x_iload_n C dX1_leastFreeOrder_0 rfl rfl ?_
  refine x_istore_n C (lv' := [(2, _), (0, _), (1, _)]) dX1_leastFreeOrder_1 rfl (by decide) rfl ?_
  refine lp_leastFreeOrder C hg σ hF a ha ?_ 66 a (by omega) (by omega) (fun k h1 h2 => by omega)
  intro r hr pc lv hpc
  rcases hpc with rfl | rfl
  · exact x_iret C dX1_leastFreeOrder_20 ⟨_, rfl, rfl, _, rfl, hr⟩
  · exact x_iret C dX1_leastFreeOrder_28 ⟨_, rfl, rfl, _, rfl, hr⟩
set_option maxHeartbeats 4000000 in
set_option maxRecDepth 100000 in
theorem c_hasLimb {l : Launch} {D : va_G} {ad : Nat → Nat} {g : Nat × Nat × Nat × Nat} (hg : 3 ≤ g.1 ∧ g.1 ≤ 11 ∧ 8 ≤ g.2.1 ∧ g.2.1 ≤ 2048 ∧ 1 ≤ g.2.2.1 ∧ g.2.2.1 ≤ 24 ∧ 1 ≤ g.2.2.2 ∧ g.2.2.2 ≤ 12) (σ : St) (h : Nat) (hh : h < g.2.2.1) (i : Int) (hi : -2147483648 ≤ i ∧ i < 2147483648) (hs : 0 ≤ σ (10 + h) 2 ∧ σ (10 + h) 2 ≤ 2048) : Kt l D ad g yX2_hasLimb (Cond.code yX2_hasLimb cX2_hasLimb 2 (some .boolean) :: tb) 0 0 [.ref (ad (10 + h)), vi i] σ (fun v σ' => σ = σ' ∧ v = some (vi (if 0 ≤ i ∧ i < σ (10 + h) 2 then 1 else 0))) := by
  refine ct_of (by decide) rfl (Nat.le_of_ble_eq_true rfl) ?_
  intro p e s m below meth c C
  change X _ _ _ _ _ _ _ _ _ _ _ _ _ _ _ _ [(0, .ref (ad (10 + h))), (1, vi i)] _
  refine x_iload_n C dX2_hasLimb_0 rfl rfl ?_
  refine x_if_lt (tgt := 16) C dX2_hasLimb_1 (by decide) (by omega) (fun c_1 => ?_) (fun c_1 => ?_)
  · refine x_iconst C dX2_hasLimb_16 ?_
    exact x_zret C dX2_hasLimb_17 (by decide) ⟨_, rfl, rfl, by first | rw [if_pos (by omega)] | rw [if_neg (by omega)]⟩
  · refine x_iload_n C dX2_hasLimb_4 rfl rfl ?_
    refine x_aload_n C dX2_hasLimb_5 rfl rfl ?_
    refine x_get C (Cn := RX2) (T := TX2) (N := 6) (ci := 2) 2 dX2_hasLimb_6 m_w_2 m_f_RX2_7 rfl (by decide) (kc_num (by omega)) rfl ?_
    refine x_icmp_ge (tgt := 16) C dX2_hasLimb_9 (by decide) (by omega) (by omega) (fun c_9 => ?_) (fun c_9 => ?_)
    · refine x_iconst C dX2_hasLimb_16 ?_
      exact x_zret C dX2_hasLimb_17 (by decide) ⟨_, rfl, rfl, by first | rw [if_pos (by omega)] | rw [if_neg (by omega)]⟩
    · refine x_iconst C dX2_hasLimb_12 ?_
      refine x_goto (tgt := 17) C dX2_hasLimb_13 (by decide) ?_
      exact x_zret C dX2_hasLimb_17 (by decide) ⟨_, rfl, rfl, by first | rw [if_pos (by omega)] | rw [if_neg (by omega)]⟩
set_option maxHeartbeats 4000000 in
set_option maxRecDepth 100000 in
theorem c_isQueued {l : Launch} {D : va_G} {ad : Nat → Nat} {g : Nat × Nat × Nat × Nat} (hg : 3 ≤ g.1 ∧ g.1 ≤ 11 ∧ 8 ≤ g.2.1 ∧ g.2.1 ≤ 2048 ∧ 1 ≤ g.2.2.1 ∧ g.2.2.1 ≤ 24 ∧ 1 ≤ g.2.2.2 ∧ g.2.2.2 ≤ 12) (σ : St) (j : Nat) (hj : j < g.2.2.2) (hs : -1 ≤ σ (40 + j) 0 ∧ σ (40 + j) 0 ≤ 3) : Kt l D ad g yX0_isQueued (Cond.code yX0_isQueued cX0_isQueued 1 (some .boolean) :: tb) 0 0 [.ref (ad (40 + j))] σ (fun v σ' => σ = σ' ∧ v = some (vi (if σ (40 + j) 0 = 0 ∨ σ (40 + j) 0 = 1 then 1 else 0))) := by
  refine ct_of (by decide) rfl (Nat.le_of_ble_eq_true rfl) ?_
  intro p e s m below meth c C
  change X _ _ _ _ _ _ _ _ _ _ _ _ _ _ _ _ [(0, .ref (ad (40 + j)))] _
  refine x_aload_n C dX0_isQueued_0 rfl rfl ?_
  refine x_get C (Cn := RX0) (T := TX0) (N := 11) (ci := 0) 0 dX0_isQueued_1 m_w_0 m_f_RX0_9 rfl (by decide) (kc_job (by omega) (by omega)) rfl ?_
  refine x_if_eq (tgt := 15) C dX0_isQueued_4 (by decide) (by omega) (fun c_4 => ?_) (fun c_4 => ?_)
  · refine x_iconst C dX0_isQueued_15 ?_
    refine x_goto (tgt := 20) C dX0_isQueued_16 (by decide) ?_
    exact x_zret C dX0_isQueued_20 (by decide) ⟨_, rfl, rfl, by first | rw [if_pos (by omega)] | rw [if_neg (by omega)]⟩
  · refine x_aload_n C dX0_isQueued_7 rfl rfl ?_
    refine x_get C (Cn := RX0) (T := TX0) (N := 11) (ci := 0) 0 dX0_isQueued_8 m_w_0 m_f_RX0_9 rfl (by decide) (kc_job (by omega) (by omega)) rfl ?_
    refine x_iconst C dX0_isQueued_11 ?_
    refine x_icmp_ne (tgt := 19) C dX0_isQueued_12 (by decide) (by omega) (by omega) (fun c_12 => ?_) (fun c_12 => ?_)
    · refine x_iconst C dX0_isQueued_19 ?_
      exact x_zret C dX0_isQueued_20 (by decide) ⟨_, rfl, rfl, by first | rw [if_pos (by omega)] | rw [if_neg (by omega)]⟩
    · refine x_iconst C dX0_isQueued_15 ?_
      refine x_goto (tgt := 20) C dX0_isQueued_16 (by decide) ?_
      exact x_zret C dX0_isQueued_20 (by decide) ⟨_, rfl, rfl, by first | rw [if_pos (by omega)] | rw [if_neg (by omega)]⟩
set_option maxHeartbeats 4000000 in
set_option maxRecDepth 100000 in
theorem c_jobClear {l : Launch} {D : va_G} {ad : Nat → Nat} {g : Nat × Nat × Nat × Nat} (hg : 3 ≤ g.1 ∧ g.1 ≤ 11 ∧ 8 ≤ g.2.1 ∧ g.2.1 ≤ 2048 ∧ 1 ≤ g.2.2.1 ∧ g.2.2.1 ≤ 24 ∧ 1 ≤ g.2.2.2 ∧ g.2.2.2 ≤ 12) (σ : St) (j : Nat) (hj : j < g.2.2.2) : Kt l D ad g yX0_clear (Cond.code yX0_clear cX0_clear 1 none :: tb) 0 0 [.ref (ad (40 + j))] σ (fun v σ' => v = none ∧ σ' = up (up (up σ (40 + j) 0 (-1)) (40 + j) 5 (-1)) (40 + j) 8 (-1)) := by
  refine ct_of (by decide) rfl (Nat.le_of_ble_eq_true rfl) ?_
  intro p e s m below meth c C
  change X _ _ _ _ _ _ _ _ _ _ _ _ _ _ _ _ [(0, .ref (ad (40 + j)))] _
  refine x_aload_n C dX0_clear_0 rfl rfl ?_
  refine x_iconst C dX0_clear_1 ?_
  refine k_putJ C 0 (by decide) dX0_clear_2 m_f_RX0_9 rfl (by decide +kernel) (by omega) (by omega) ?_
  refine x_aload_n C dX0_clear_5 rfl rfl ?_
  refine x_iconst C dX0_clear_6 ?_
  refine k_putJ C 5 (by decide) dX0_clear_7 m_f_RX0_15 rfl (by decide +kernel) (by omega) (by omega) ?_
  refine x_aload_n C dX0_clear_10 rfl rfl ?_
  refine x_iconst C dX0_clear_11 ?_
  refine k_putJ C 8 (by decide) dX0_clear_12 m_f_RX0_18 rfl (by decide +kernel) (by omega) (by omega) ?_
  exact x_vret C dX0_clear_15 ⟨_, rfl, rfl, rfl⟩
set_option maxHeartbeats 4000000 in
set_option maxRecDepth 100000 in
theorem c_queueClear {l : Launch} {D : va_G} {ad : Nat → Nat} {g : Nat × Nat × Nat × Nat} (hg : 3 ≤ g.1 ∧ g.1 ≤ 11 ∧ 8 ≤ g.2.1 ∧ g.2.1 ≤ 2048 ∧ 1 ≤ g.2.2.1 ∧ g.2.2.1 ≤ 24 ∧ 1 ≤ g.2.2.2 ∧ g.2.2.2 ≤ 12) (σ : St) : Kt l D ad g yX3_clear (Cond.code yX3_clear cX3_clear 1 none :: tb) 0 0 [.ref (ad 8)] σ (fun v σ' => v = none ∧ σ' = up σ 8 2 0) := by
  refine ct_of (by decide) rfl (Nat.le_of_ble_eq_true rfl) ?_
  intro p e s m below meth c C
  change X _ _ _ _ _ _ _ _ _ _ _ _ _ _ _ _ [(0, .ref (ad 8))] _
  refine x_aload_n C dX3_clear_0 rfl rfl ?_
  refine x_iconst C dX3_clear_1 ?_
  refine k_putS C (Cn := RX3) (T := TX3) (N := 3) (ci := 3) (ty := .int) 2 dX3_clear_2 m_w_3 m_f_RX3_15 rfl (by decide) tyX3 tyX3_ok nmX3 rfl (by decide +kernel) rfl rfl rfl (Nat.le_of_ble_eq_true rfl) rfl ?_
  exact x_vret C dX3_clear_5 ⟨_, rfl, rfl, rfl⟩
def qx (g : Nat × Nat × Nat × Nat) (σ : St) (k : Int) : Int := if σ 8 1 + k < g.2.2.2 then σ 8 1 + k else σ 8 1 + k - g.2.2.2
theorem qx_def (g : Nat × Nat × Nat × Nat) (σ : St) (k : Int) : qx g σ k = if σ 8 1 + k < g.2.2.2 then σ 8 1 + k else σ 8 1 + k - g.2.2.2 := rfl
set_option maxHeartbeats 4000000 in
set_option maxRecDepth 100000 in
theorem c_slot {l : Launch} {D : va_G} {ad : Nat → Nat} {g : Nat × Nat × Nat × Nat} (hg : 3 ≤ g.1 ∧ g.1 ≤ 11 ∧ 8 ≤ g.2.1 ∧ g.2.1 ≤ 2048 ∧ 1 ≤ g.2.2.1 ∧ g.2.2.1 ≤ 24 ∧ 1 ≤ g.2.2.2 ∧ g.2.2.2 ≤ 12) (σ : St) (k : Int) (hk : 0 ≤ k ∧ k ≤ g.2.2.2) (hq : 0 ≤ σ 8 1 ∧ σ 8 1 < g.2.2.2) : Kt l D ad g yX3_slot (Cond.code yX3_slot cX3_slot 3 (some .int) :: tb) 0 0 [.ref (ad 8), vi k] σ (fun v σ' => σ = σ' ∧ v = some (vi (qx g σ k))) := by
  refine ct_of (by decide) rfl (Nat.le_of_ble_eq_true rfl) ?_
  intro p e s m below meth c C
  change X _ _ _ _ _ _ _ _ _ _ _ _ _ _ _ _ [(0, .ref (ad 8)), (1, vi k)] _
  refine x_aload_n C dX3_slot_0 rfl rfl ?_
  refine x_get C (Cn := RX3) (T := TX3) (N := 3) (ci := 3) 1 dX3_slot_1 m_w_3 m_f_RX3_23 rfl (by decide) rfl rfl ?_
  refine x_iload_n C dX3_slot_4 rfl rfl ?_
  refine x_iadd C dX3_slot_5 ?_
  refine x_istore_n C (lv' := [(2, _), (0, _), (1, _)]) dX3_slot_6 rfl (by decide) rfl ?_
  refine x_iload_n C dX3_slot_7 rfl rfl ?_
  refine x_aload_n C dX3_slot_8 rfl rfl ?_
  refine x_get C (Cn := RX3) (T := TX3) (N := 3) (ci := 3) 0 dX3_slot_9 m_w_3 m_f_RX3_9 rfl (by decide) rfl rfl ?_
  refine x_alen C 0 dX3_slot_12 rfl rfl ?_
  refine x_icmp_ge (tgt := 20) C dX3_slot_13 (by decide) (by omega) (by omega) (fun c_13 => ?_) (fun c_13 => ?_)
  · refine x_iload_n C dX3_slot_20 rfl rfl ?_
    refine x_aload_n C dX3_slot_21 rfl rfl ?_
    refine x_get C (Cn := RX3) (T := TX3) (N := 3) (ci := 3) 0 dX3_slot_22 m_w_3 m_f_RX3_9 rfl (by decide) rfl rfl ?_
    refine x_alen C 0 dX3_slot_25 rfl rfl ?_
    refine x_isub C dX3_slot_26 ?_
    exact x_iret C dX3_slot_27 ⟨_, rfl, rfl, by rw [qx_def]; first | rw [if_pos (by omega)] | rw [if_neg (by omega)]⟩
  · refine x_iload_n C dX3_slot_16 rfl rfl ?_
    refine x_goto (tgt := 27) C dX3_slot_17 (by decide) ?_
    exact x_iret C dX3_slot_27 ⟨_, rfl, rfl, by rw [qx_def]; first | rw [if_pos (by omega)] | rw [if_neg (by omega)]⟩
