/-! THE QUEUE: Qs: the ring holds the list q -/
def Qs (g : Nat × Nat × Nat × Nat) (σ : St) (q : List Int) : Prop := (0 ≤ σ 8 1 ∧ σ 8 1 < g.2.2.2) ∧ σ 8 2 = q.length ∧ q.length ≤ g.2.2.2 ∧ ∀ k : Nat, k < q.length → q[k]? = some (σ 9 (qx g σ k).toNat)
theorem qx_in {g : Nat × Nat × Nat × Nat} {σ : St} {k : Int} (h : 0 ≤ σ 8 1 ∧ σ 8 1 < g.2.2.2) (hk : 0 ≤ k ∧ k ≤ g.2.2.2) : 0 ≤ qx g σ k ∧ qx g σ k < g.2.2.2 := by
  unfold qx; split <;> omega
theorem Qs.row {g : Nat × Nat × Nat × Nat} {σ σ' : St} {q : List Int} (h : Qs g σ q) (h8 : σ' 8 = σ 8) (h9 : σ' 9 = σ 9) : Qs g σ' q := by
  unfold Qs qx at *; rw [h8, h9]; exact h
theorem Qs.take {g : Nat × Nat × Nat × Nat} {σ : St} {j : Int} {q : List Int} (h : Qs g σ (j :: q)) : j = σ 9 (σ 8 1).toNat ∧ Qs g (up (up σ 8 1 (qx g σ 1)) 8 2 (σ 8 2 - 1)) q := by
  obtain ⟨h1, h2, h3, h4⟩ := h
  simp only [List.length_cons] at h2 h3 h4
  have h0 := h4 0 (by omega)
  refine ⟨by simp [qx, h1.2] at h0; exact h0, ?_⟩
  have hq := qx_in (g := g) (σ := σ) (k := 1) h1 (by omega)
  have e1 : up (up σ 8 1 (qx g σ 1)) 8 2 (σ 8 2 - 1) 8 1 = qx g σ 1 := by simp [up, zup]
  have e2 : up (up σ 8 1 (qx g σ 1)) 8 2 (σ 8 2 - 1) 8 2 = σ 8 2 - 1 := by simp [up, zup]
  have e3 : up (up σ 8 1 (qx g σ 1)) 8 2 (σ 8 2 - 1) 9 = σ 9 := by simp [up]
  refine ⟨by rw [e1]; exact hq, by rw [e2]; omega, by omega, fun k hk => ?_⟩
  have := h4 (k + 1) (by omega)
  rw [List.getElem?_cons_succ] at this
  rw [this, e3]
  have e4 : qx g σ ((k + 1 : Nat) : Int) = qx g (up (up σ 8 1 (qx g σ 1)) 8 2 (σ 8 2 - 1)) k := by
    rw [qx_def g σ ((k + 1 : Nat) : Int), qx_def g (up (up σ 8 1 (qx g σ 1)) 8 2 (σ 8 2 - 1)) k, e1, qx_def g σ 1]
    split <;> split <;> split <;> omega
  rw [e4]
theorem Qs.add {g : Nat × Nat × Nat × Nat} {σ : St} {j : Int} {q : List Int} (h : Qs g σ q) (hl : q.length < g.2.2.2) : Qs g (up (up σ 9 (qx g σ (σ 8 2)).toNat j) 8 2 (σ 8 2 + 1)) (q ++ [j]) := by
  obtain ⟨h1, h2, h3, h4⟩ := h
  have e1 : up (up σ 9 (qx g σ (σ 8 2)).toNat j) 8 2 (σ 8 2 + 1) 8 1 = σ 8 1 := by simp [up, zup]
  have e2 : up (up σ 9 (qx g σ (σ 8 2)).toNat j) 8 2 (σ 8 2 + 1) 8 2 = σ 8 2 + 1 := by simp [up, zup]
  have e3 : up (up σ 9 (qx g σ (σ 8 2)).toNat j) 8 2 (σ 8 2 + 1) 9 = zup (σ 9) (qx g σ (σ 8 2)).toNat j := by simp [up]
  have e4 : ∀ k : Int, qx g (up (up σ 9 (qx g σ (σ 8 2)).toNat j) 8 2 (σ 8 2 + 1)) k = qx g σ k := by intro k; rw [qx_def g (up (up σ 9 (qx g σ (σ 8 2)).toNat j) 8 2 (σ 8 2 + 1)) k, e1, ← qx_def]
  refine ⟨by rw [e1]; exact h1, by rw [e2]; simp; omega, by simp; omega, fun k hk => ?_⟩
  rw [e3, e4]
  simp at hk
  rcases Nat.lt_or_ge k q.length with c | c
  · rw [List.getElem?_append_left c, h4 k c, zup_n]
    have a1 := qx_in (g := g) (σ := σ) (k := (k : Int)) h1 (by omega)
    have a2 := qx_in (g := g) (σ := σ) (k := σ 8 2) h1 (by omega)
    have : qx g σ (k : Int) ≠ qx g σ (σ 8 2) := by unfold qx; split <;> split <;> omega
    omega
  · have e : k = q.length := by omega
    subst e
    rw [List.getElem?_append_right (Nat.le_refl _), ← h2, zup_s]
    simp
set_option maxHeartbeats 4000000 in
set_option maxRecDepth 100000 in
theorem c_takeFirst {l : Launch} {D : va_G} {ad : Nat → Nat} {g : Nat × Nat × Nat × Nat} (hg : 3 ≤ g.1 ∧ g.1 ≤ 11 ∧ 8 ≤ g.2.1 ∧ g.2.1 ≤ 2048 ∧ 1 ≤ g.2.2.1 ∧ g.2.2.1 ≤ 24 ∧ 1 ≤ g.2.2.2 ∧ g.2.2.2 ≤ 12) (σ : St) (q : List Int) (hq : Qs g σ q) : Kt l D ad g yX3_takeFirst (Cond.code yX3_takeFirst cX3_takeFirst 2 (some .int) :: tb) 1 40 [.ref (ad 8)] σ (fun v σ' => (q = [] ∧ v = some (vi (-1)) ∧ σ = σ') ∨ ∃ j q', q = j :: q' ∧ v = some (vi j) ∧ Qs g σ' q' ∧ ∀ n, n ≠ 8 → σ' n = σ n) := by
  refine ct_of (by decide) rfl (Nat.le_of_ble_eq_true rfl) ?_
  intro p e s m below meth c C
  change X _ _ _ _ _ _ _ _ _ _ _ _ _ _ _ _ [(0, .ref (ad 8))] _
  have hq0 := hq
  obtain ⟨h1, h2, h3, h4⟩ := hq0
  refine x_aload_n C dX3_takeFirst_0 rfl rfl ?_
  refine x_get C (Cn := RX3) (T := TX3) (N := 3) (ci := 3) 2 dX3_takeFirst_1 m_w_3 m_f_RX3_15 rfl (by decide) rfl rfl ?_
  refine x_if_ne (tgt := 9) C dX3_takeFirst_4 (by decide) (by omega) (fun c_4 => ?_) (fun c_4 => ?_)
  · obtain ⟨j, q', rfl⟩ : ∃ j q', q = j :: q' := by
      cases q with
      | nil => simp at h2; omega
      | cons j q' => exact ⟨j, q', rfl⟩
    obtain ⟨t1, t2⟩ := hq.take
    refine x_aload_n C dX3_takeFirst_9 rfl rfl ?_
    refine x_get C (Cn := RX3) (T := TX3) (N := 3) (ci := 3) 0 dX3_takeFirst_10 m_w_3 m_f_RX3_9 rfl (by decide) rfl rfl ?_
    refine x_aload_n C dX3_takeFirst_13 rfl rfl ?_
    refine x_get C (Cn := RX3) (T := TX3) (N := 3) (ci := 3) 1 dX3_takeFirst_14 m_w_3 m_f_RX3_23 rfl (by decide) rfl rfl ?_
    refine x_iald C dX3_takeFirst_17 rfl (by omega) (by omega) ?_
    refine x_istore_n C (lv' := [(1, _), (0, _)]) dX3_takeFirst_18 rfl (by decide) rfl ?_
    refine x_aload_n C dX3_takeFirst_19 rfl rfl ?_
    refine x_aload_n C dX3_takeFirst_20 rfl rfl ?_
    refine x_iconst C dX3_takeFirst_21 ?_
    refine x_callV C (ci := 3) (nn := 1) (c_slot hg σ 1 (by omega) h1) g_RX3_19 rfl (by decide +kernel) ⟨by first | decide | omega, by first | decide | omega⟩ rfl rfl rfl rfl rfl (Nat.le_of_ble_eq_true rfl) dX3_takeFirst_22 (fun v h1 hp => ?_)
    obtain ⟨σ1, rfl, rfl, rfl⟩ := hp
    try dsimp only [Option.toList, List.cons_append, List.nil_append]
    refine k_putS C (Cn := RX3) (T := TX3) (N := 3) (ci := 3) (ty := .int) 1 dX3_takeFirst_25 m_w_3 m_f_RX3_23 rfl (by decide) tyX3 tyX3_ok nmX3 rfl (by decide +kernel) rfl rfl rfl (Nat.le_of_ble_eq_true rfl) rfl ?_
    refine x_aload_n C dX3_takeFirst_28 rfl rfl ?_
    refine x_dup C dX3_takeFirst_29 rfl ?_
    refine x_get C (Cn := RX3) (T := TX3) (N := 3) (ci := 3) 2 dX3_takeFirst_30 m_w_3 m_f_RX3_15 rfl (by decide) rfl rfl ?_
    refine x_iconst C dX3_takeFirst_33 ?_
    refine x_isub C dX3_takeFirst_34 ?_
    refine k_putS C (Cn := RX3) (T := TX3) (N := 3) (ci := 3) (ty := .int) 2 dX3_takeFirst_35 m_w_3 m_f_RX3_15 rfl (by decide) tyX3 tyX3_ok nmX3 rfl (by decide +kernel) rfl rfl rfl (Nat.le_of_ble_eq_true rfl) rfl ?_
    refine x_iload_n C dX3_takeFirst_38 rfl rfl ?_
    exact x_iret C dX3_takeFirst_39 ⟨_, rfl, Or.inr ⟨_, _, rfl, by rw [t1], by exact t2, fun n hn => by rw [up_n hn, up_n hn]⟩⟩
  · refine x_iconst C dX3_takeFirst_7 ?_
    exact x_iret C dX3_takeFirst_8 ⟨_, rfl, Or.inl ⟨List.length_eq_zero_iff.mp (by omega), rfl, rfl⟩⟩
set_option maxHeartbeats 4000000 in
set_option maxRecDepth 100000 in
theorem c_append {l : Launch} {D : va_G} {ad : Nat → Nat} {g : Nat × Nat × Nat × Nat} (hg : 3 ≤ g.1 ∧ g.1 ≤ 11 ∧ 8 ≤ g.2.1 ∧ g.2.1 ≤ 2048 ∧ 1 ≤ g.2.2.1 ∧ g.2.2.1 ≤ 24 ∧ 1 ≤ g.2.2.2 ∧ g.2.2.2 ≤ 12) (σ : St) (q : List Int) (hq : Qs g σ q) (hl : q.length < g.2.2.2) (j : Int) : Kt l D ad g yX3_append (Cond.code yX3_append cX3_append 2 none :: tb) 1 40 [.ref (ad 8), vi j] σ (fun v σ' => v = none ∧ Qs g σ' (q ++ [j]) ∧ ∀ n, n ≠ 8 → n ≠ 9 → σ' n = σ n) := by
  refine ct_of (by decide) rfl (Nat.le_of_ble_eq_true rfl) ?_
  intro p e s m below meth c C
  change X _ _ _ _ _ _ _ _ _ _ _ _ _ _ _ _ [(0, .ref (ad 8)), (1, vi j)] _
  have hq0 := hq
  obtain ⟨h1, h2, h3, h4⟩ := hq0
  refine x_aload_n C dX3_append_0 rfl rfl ?_
  refine x_get C (Cn := RX3) (T := TX3) (N := 3) (ci := 3) 2 dX3_append_1 m_w_3 m_f_RX3_15 rfl (by decide) rfl rfl ?_
  refine x_aload_n C dX3_append_4 rfl rfl ?_
  refine x_get C (Cn := RX3) (T := TX3) (N := 3) (ci := 3) 0 dX3_append_5 m_w_3 m_f_RX3_9 rfl (by decide) rfl rfl ?_
  refine x_alen C 0 dX3_append_8 rfl rfl ?_
  refine x_icmp_ge (tgt := 36) C dX3_append_9 (by decide) (by omega) (by omega) (fun c_9 => ?_) (fun c_9 => ?_)
  · omega
  · refine x_aload_n C dX3_append_12 rfl rfl ?_
    refine x_get C (Cn := RX3) (T := TX3) (N := 3) (ci := 3) 0 dX3_append_13 m_w_3 m_f_RX3_9 rfl (by decide) rfl rfl ?_
    refine x_aload_n C dX3_append_16 rfl rfl ?_
    refine x_aload_n C dX3_append_17 rfl rfl ?_
    refine x_get C (Cn := RX3) (T := TX3) (N := 3) (ci := 3) 2 dX3_append_18 m_w_3 m_f_RX3_15 rfl (by decide) rfl rfl ?_
    refine x_callV C (ci := 3) (nn := 1) (c_slot hg σ (σ 8 2) (by omega) h1) g_RX3_19 rfl (by decide +kernel) ⟨by first | decide | omega, by first | decide | omega⟩ rfl rfl rfl rfl rfl (Nat.le_of_ble_eq_true rfl) dX3_append_21 (fun v h1 hp => ?_)
    obtain ⟨σ1, rfl, rfl, rfl⟩ := hp
    try dsimp only [Option.toList, List.cons_append, List.nil_append]
    have hx := qx_in (g := g) (σ := σ) (k := σ 8 2) h1 (by omega)
    refine x_iload_n C dX3_append_24 rfl rfl ?_
    refine k_ast C dX3_append_25 (fun _ => rfl) hx (by omega) ?_
    refine x_aload_n C dX3_append_26 rfl rfl ?_
    refine x_dup C dX3_append_27 rfl ?_
    refine x_get C (Cn := RX3) (T := TX3) (N := 3) (ci := 3) 2 dX3_append_28 m_w_3 m_f_RX3_15 rfl (by decide) rfl rfl ?_
    refine x_iconst C dX3_append_31 ?_
    refine x_iadd C dX3_append_32 ?_
    refine k_putS C (Cn := RX3) (T := TX3) (N := 3) (ci := 3) (ty := .int) 2 dX3_append_33 m_w_3 m_f_RX3_15 rfl (by decide) tyX3 tyX3_ok nmX3 rfl (by decide +kernel) rfl rfl rfl (Nat.le_of_ble_eq_true rfl) rfl ?_
    exact x_vret C dX3_append_36 ⟨_, rfl, rfl, by exact hq.add hl, fun n h8 h9 => by rw [up_n h8, up_n h9]⟩
set_option maxHeartbeats 4000000 in
set_option maxRecDepth 100000 in
theorem c_queueAt {l : Launch} {D : va_G} {ad : Nat → Nat} {g : Nat × Nat × Nat × Nat} (hg : 3 ≤ g.1 ∧ g.1 ≤ 11 ∧ 8 ≤ g.2.1 ∧ g.2.1 ≤ 2048 ∧ 1 ≤ g.2.2.1 ∧ g.2.2.1 ≤ 24 ∧ 1 ≤ g.2.2.2 ∧ g.2.2.2 ≤ 12) (σ : St) (q : List Int) (hq : Qs g σ q) (k : Int) (hk : -2147483648 ≤ k ∧ k < 2147483648) : Kt l D ad g yX3_at (Cond.code yX3_at cX3_at 2 (some .int) :: tb) 1 40 [.ref (ad 8), vi k] σ (fun v σ' => σ = σ' ∧ v = some (vi (if 0 ≤ k ∧ k < q.length then q.getD k.toNat 0 else -1))) := by
  refine ct_of (by decide) rfl (Nat.le_of_ble_eq_true rfl) ?_
  intro p e s m below meth c C
  change X _ _ _ _ _ _ _ _ _ _ _ _ _ _ _ _ [(0, .ref (ad 8)), (1, vi k)] _
  have hq0 := hq
  obtain ⟨h1, h2, h3, h4⟩ := hq0
  refine x_iload_n C dX3_at_0 rfl rfl ?_
  refine x_if_lt (tgt := 25) C dX3_at_1 (by decide) (by omega) (fun c_1 => ?_) (fun c_1 => ?_)
  · refine x_iconst C dX3_at_25 ?_
    exact x_iret C dX3_at_26 ⟨_, rfl, rfl, by first | (rw [if_pos (by omega), List.getD_eq_getElem?_getD, h5]; rfl) | rw [if_neg (by omega)]⟩
  · refine x_iload_n C dX3_at_4 rfl rfl ?_
    refine x_aload_n C dX3_at_5 rfl rfl ?_
    refine x_get C (Cn := RX3) (T := TX3) (N := 3) (ci := 3) 2 dX3_at_6 m_w_3 m_f_RX3_15 rfl (by decide) rfl rfl ?_
    refine x_icmp_ge (tgt := 25) C dX3_at_9 (by decide) (by omega) (by omega) (fun c_9 => ?_) (fun c_9 => ?_)
    · refine x_iconst C dX3_at_25 ?_
      exact x_iret C dX3_at_26 ⟨_, rfl, rfl, by first | (rw [if_pos (by omega), List.getD_eq_getElem?_getD, h5]; rfl) | rw [if_neg (by omega)]⟩
    · refine x_aload_n C dX3_at_12 rfl rfl ?_
      refine x_get C (Cn := RX3) (T := TX3) (N := 3) (ci := 3) 0 dX3_at_13 m_w_3 m_f_RX3_9 rfl (by decide) rfl rfl ?_
      refine x_aload_n C dX3_at_16 rfl rfl ?_
      refine x_iload_n C dX3_at_17 rfl rfl ?_
      refine x_callV C (ci := 3) (nn := 1) (c_slot hg σ k (by omega) h1) g_RX3_19 rfl (by decide +kernel) ⟨by first | decide | omega, by first | decide | omega⟩ rfl rfl rfl rfl rfl (Nat.le_of_ble_eq_true rfl) dX3_at_18 (fun v h1 hp => ?_)
      obtain ⟨σ1, rfl, rfl, rfl⟩ := hp
      try dsimp only [Option.toList, List.cons_append, List.nil_append]
      have hx := qx_in (g := g) (σ := σ) (k := k) h1 (by omega)
      have h5 := h4 k.toNat (by omega)
      rw [show ((k.toNat : Nat) : Int) = k by omega] at h5
      refine x_iald C dX3_at_21 rfl hx (by omega) ?_
      refine x_goto (tgt := 26) C dX3_at_22 (by decide) ?_
      exact x_iret C dX3_at_26 ⟨_, rfl, rfl, by first | (rw [if_pos (by omega), List.getD_eq_getElem?_getD, h5]; rfl) | rw [if_neg (by omega)]⟩
set_option maxHeartbeats 4000000 in
set_option maxRecDepth 100000 in
theorem lp_drop {p : Program} {l : Launch} {e : Env} {R : Room} {s : State} {m : MethodId} {args : Array Value} {below : List Frame} {meth : Method} {c : Code} {D : va_G} {ad : Nat → Nat} {g : Nat × Nat × Nat × Nat} {Q : State → Prop} (C : Fx p s m args meth c D ad cX3_drop 5 none yX3_drop.cls tb) (hg : 3 ≤ g.1 ∧ g.1 ≤ 11 ∧ 8 ≤ g.2.1 ∧ g.2.1 ≤ 2048 ∧ 1 ≤ g.2.2.1 ∧ g.2.2.1 ≤ 24 ∧ 1 ≤ g.2.2.2 ∧ g.2.2.2 ≤ 12) (σ : St) (hR : 2 ≤ R.frames ∧ 100 ≤ R.locals) (j : Int) (hj : -2147483648 ≤ j ∧ j < 2147483648) (q : List Int) (hqr : ∀ x ∈ q, 0 ≤ x ∧ x < 12) (hl : q.length ≤ 12) (K : ∀ (σ' : St) (lv : List (Nat × Value)), Qs g σ' (q.filter (fun x => !decide (x = j))) → (∀ n, n ≠ 8 → n ≠ 9 → σ' n = σ n) → X p l e R s m args below meth c D ad 5 Q (kc D ad g σ') 36 lv []) (n : Nat) (σ1 : St) (dn rs : List Int) (hdr : q = dn ++ rs) (hn : rs.length < n) (hq : Qs g σ1 (rs ++ dn.filter (fun x => !decide (x = j)))) (hrow : ∀ n, n ≠ 8 → n ≠ 9 → σ1 n = σ n) : X p l e R s m args below meth c D ad 5 Q (kc D ad g σ1) 7 [(3, vi (dn.length : Int)), (2, vi (q.length : Int)), (0, .ref (ad 8)), (1, vi j)] [] := by
  induction n generalizing σ1 dn rs with
  | zero => omega
  | succ n ih =>
  have hlen : q.length = dn.length + rs.length := by rw [hdr]; simp
  refine x_iload_n C dX3_drop_7 rfl rfl ?_
  refine x_iload_n C dX3_drop_8 rfl rfl ?_
  refine x_icmp_ge (tgt := 36) C dX3_drop_9 (by decide) (by omega) (by omega) (fun c_9 => ?_) (fun c_9 => ?_)
  · have hrs : rs = [] := List.length_eq_zero_iff.mp (by omega)
    subst hrs
    simp only [List.append_nil] at hdr
    subst hdr
    exact K σ1 _ (by simpa using hq) hrow
  · refine x_aload_n C dX3_drop_12 rfl rfl ?_
    obtain ⟨x, rs1, rfl⟩ : ∃ x rs1, rs = x :: rs1 := by
      cases rs with
      | nil => simp at hlen; omega
      | cons x r => exact ⟨x, r, rfl⟩
    have hxr := hqr x (by rw [hdr]; simp)
    have hfl := List.length_filter_le (fun x => !decide (x = j)) dn
    simp only [List.length_cons] at hlen hn
    have hl2 := hq.2.2.1
    simp only [List.cons_append, List.length_cons, List.length_append] at hl2
    refine x_callV C (ci := 3) (nn := 0) (c_takeFirst hg σ1 _ hq) g_RX3_26 rfl (by decide +kernel) ⟨by first | decide | omega, by first | decide | omega⟩ rfl rfl rfl rfl rfl (Nat.le_of_ble_eq_true rfl) dX3_drop_13 (fun v h1 hp => ?_)
    obtain ⟨σ2, rfl, hp⟩ := hp
    rcases hp with ⟨hp, -⟩ | ⟨j', q', hp, rfl, hq2, hr2⟩
    · simp at hp
    simp only [List.cons_append, List.cons.injEq] at hp
    obtain ⟨rfl, rfl⟩ := hp
    try dsimp only [Option.toList, List.cons_append, List.nil_append]
    refine x_istore C (lv' := [(4, _), (3, _), (2, _), (0, _), (1, _)]) dX3_drop_16 (by decide) rfl ?_
    refine x_iload C dX3_drop_18 rfl ?_
    refine x_iload_n C dX3_drop_20 rfl rfl ?_
    refine x_icmp_eq (tgt := 30) C dX3_drop_21 (by decide) (by omega) (by omega) (fun c_21 => ?_) (fun c_21 => ?_)
    · skip
      refine x_iinc C (lv' := [(3, _), (4, _), (2, _), (0, _), (1, _)]) dX3_drop_30 rfl (by decide) rfl ?_
      refine x_goto (tgt := 7) C dX3_drop_33 (by decide) ?_
      have e1 : (dn ++ [x]).filter (fun x => !decide (x = j)) = dn.filter (fun x => !decide (x = j)) := by simp [List.filter_append, c_21]
      have e2 : vi ((dn.length : Int) + 1) = vi (((dn ++ [x]).length : Nat) : Int) := by simp
      rw [e2]
      refine X.sub [0, 2, 3, 4] rfl ?_
      exact ih σ2 (dn ++ [x]) rs1 (by rw [hdr]; simp) (by omega) (by rw [e1]; exact hq2) (fun n h8 h9 => by rw [hr2 n h8]; exact hrow n h8 h9)
    · refine x_aload_n C dX3_drop_24 rfl rfl ?_
      refine x_iload C dX3_drop_25 rfl ?_
      refine x_callV C (ci := 3) (nn := 1) (c_append hg σ2 _ hq2 (by simp only [List.length_append]; omega) x) g_RX3_30 rfl (by decide +kernel) ⟨by first | decide | omega, by first | decide | omega⟩ rfl rfl rfl rfl rfl (Nat.le_of_ble_eq_true rfl) dX3_drop_27 (fun v h1 hp => ?_)
      obtain ⟨σ3, rfl, rfl, hq3, hr3⟩ := hp
      try dsimp only [Option.toList, List.cons_append, List.nil_append]
      skip
      refine x_iinc C (lv' := [(3, _), (4, _), (2, _), (0, _), (1, _)]) dX3_drop_30 rfl (by decide) rfl ?_
      refine x_goto (tgt := 7) C dX3_drop_33 (by decide) ?_
      have e1 : (dn ++ [x]).filter (fun x => !decide (x = j)) = dn.filter (fun x => !decide (x = j)) ++ [x] := by simp [List.filter_append, c_21]
      have e2 : vi ((dn.length : Int) + 1) = vi (((dn ++ [x]).length : Nat) : Int) := by simp
      rw [e2]
      refine X.sub [0, 2, 3, 4] rfl ?_
      exact ih σ3 (dn ++ [x]) rs1 (by rw [hdr]; simp) (by omega) (by rw [e1, ← List.append_assoc]; exact hq3) (fun n h8 h9 => by rw [hr3 n h8 h9, hr2 n h8]; exact hrow n h8 h9)
set_option maxHeartbeats 4000000 in
set_option maxRecDepth 100000 in
theorem c_drop {l : Launch} {D : va_G} {ad : Nat → Nat} {g : Nat × Nat × Nat × Nat} (hg : 3 ≤ g.1 ∧ g.1 ≤ 11 ∧ 8 ≤ g.2.1 ∧ g.2.1 ≤ 2048 ∧ 1 ≤ g.2.2.1 ∧ g.2.2.1 ≤ 24 ∧ 1 ≤ g.2.2.2 ∧ g.2.2.2 ≤ 12) (σ : St) (q : List Int) (hq : Qs g σ q) (hqr : ∀ x ∈ q, 0 ≤ x ∧ x < 12) (j : Int) (hj : -2147483648 ≤ j ∧ j < 2147483648) : Kt l D ad g yX3_drop (Cond.code yX3_drop cX3_drop 5 none :: tb) 2 100 [.ref (ad 8), vi j] σ (fun v σ' => v = none ∧ Qs g σ' (q.filter (fun x => !decide (x = j))) ∧ ∀ n, n ≠ 8 → n ≠ 9 → σ' n = σ n) := by
  refine ct_of (by decide) rfl (Nat.le_of_ble_eq_true rfl) ?_
  intro p e s m below meth c C
  change X _ _ _ _ _ _ _ _ _ _ _ _ _ _ _ _ [(0, .ref (ad 8)), (1, vi j)] _
  refine x_aload_n C dX3_drop_0 rfl rfl ?_
  refine x_get C (Cn := RX3) (T := TX3) (N := 3) (ci := 3) 2 dX3_drop_1 m_w_3 m_f_RX3_15 rfl (by decide) rfl rfl ?_
  refine x_istore_n C (lv' := [(2, _), (0, _), (1, _)]) dX3_drop_4 rfl (by decide) rfl ?_
  refine x_iconst C dX3_drop_5 ?_
  refine x_istore_n C (lv' := [(3, _), (2, _), (0, _), (1, _)]) dX3_drop_6 rfl (by decide) rfl ?_
  rw [hq.2.1]
  refine lp_drop C hg σ ⟨by decide, by decide⟩ j hj q hqr (by have := hq.2.2.1; omega) ?_ (q.length + 1) σ [] q rfl (by omega) (by simpa using hq) (fun _ _ _ => rfl)
  intro σ' lv h1 h2
  exact x_vret C dX3_drop_36 ⟨_, rfl, rfl, h1, h2⟩
