/-! FILLING a row, and what the machine's library does -/
def upr (σ : St) (n : Nat) (f : Nat → Int) : St := fun a => if a = n then f else σ a
theorem upr_s (σ : St) (n : Nat) (f : Nat → Int) : upr σ n f n = f := by simp [upr]
theorem upr_n {σ : St} {n q : Nat} {f : Nat → Int} (h : q ≠ n) : upr σ n f q = σ q := by simp [upr, h]
def fl (f : Nat → Int) (a b : Nat) (z : Int) : Nat → Int := fun j => if a ≤ j ∧ j < b then z else f j
theorem fl_0 (σ : St) (n a : Nat) (z : Int) : upr σ n (fl (σ n) a a z) = σ := by
  funext q
  by_cases hq : q = n
  · subst hq; rw [upr_s]; funext j; simp [fl]; intro h1 h2; omega
  · rw [upr_n hq]
theorem fl_step (σ : St) (n a i : Nat) (z : Int) (h : a ≤ i) : up (upr σ n (fl (σ n) a i z)) n i z = upr σ n (fl (σ n) a (i + 1) z) := by
  funext q
  by_cases hq : q = n
  · subst hq; rw [up_s, upr_s, upr_s]; funext j
    unfold zup fl
    by_cases c : j = i
    · rw [if_pos c, if_pos (by omega)]
    · rw [if_neg c]; by_cases c2 : a ≤ j ∧ j < i
      · rw [if_pos c2, if_pos (by omega)]
      · rw [if_neg c2, if_neg (by omega)]
  · rw [up_n hq, upr_n hq, upr_n hq]
set_option maxHeartbeats 4000000 in
set_option maxRecDepth 100000 in
theorem lp_fill {p : Program} {l : Launch} {e : Env} {R : Room} {s : State} {m : MethodId} {args : Array Value} {below : List Frame} {meth : Method} {c : Code} {D : va_G} {ad : Nat → Nat} {g : Nat × Nat × Nat × Nat} {Q : State → Prop} (C : Fx p s m args meth c D ad cJ7_fill_53178 4 none yJ7_fill_53178.cls tb) (hg : 3 ≤ g.1 ∧ g.1 ≤ 11 ∧ 8 ≤ g.2.1 ∧ g.2.1 ≤ 2048 ∧ 1 ≤ g.2.2.1 ∧ g.2.2.1 ≤ 24 ∧ 1 ≤ g.2.2.2 ∧ g.2.2.2 ≤ 12) (σ : St) (na N : Nat) (hN : N ≤ 2048) (he : ∀ σ : St, kc D ad g σ na = some (.inl (D.1 10, N, .inl (fun j => iI (σ na j))))) (z : Int) (K : ∀ lv, X p l e R s m args below meth c D ad 4 Q (kc D ad g (upr σ na (fl (σ na) 0 N z))) 20 lv []) (n : Nat) (i : Nat) (hi : i ≤ N) (hn : N - i < n) : X p l e R s m args below meth c D ad 4 Q (kc D ad g (upr σ na (fl (σ na) 0 i z))) 5 [(2, vi (i : Int)), (3, vi (N : Int)), (0, .ref (ad na)), (1, vi z)] [] := by
  induction n generalizing i with
  | zero => omega
  | succ n ih =>
  refine x_iload_n C dJ7_fill_53178_5 rfl rfl ?_
  refine x_iload_n C dJ7_fill_53178_6 rfl rfl ?_
  refine x_icmp_ge (tgt := 20) C dJ7_fill_53178_7 (by decide) (by omega) (by omega) (fun c_7 => ?_) (fun c_7 => ?_)
  · rw [show i = N by omega]
    exact K _
  · refine x_aload_n C dJ7_fill_53178_10 rfl rfl ?_
    refine x_iload_n C dJ7_fill_53178_11 rfl rfl ?_
    refine x_iload_n C dJ7_fill_53178_12 rfl rfl ?_
    refine k_ast C dJ7_fill_53178_13 he (by omega) (by omega) ?_
    refine x_iinc C (lv' := [(2, _), (3, _), (0, _), (1, _)]) dJ7_fill_53178_14 rfl (by decide) rfl ?_
    refine x_goto (tgt := 5) C dJ7_fill_53178_17 (by decide) ?_
    refine X.eqh (by rw [show ((i : Int)).toNat = i by omega, fl_step _ _ _ _ _ (Nat.zero_le i)]) ?_
    rw [show (i : Int) + 1 = ((i + 1 : Nat) : Int) by omega]
    exact ih (i + 1) (by omega) (by omega)
set_option maxHeartbeats 4000000 in
set_option maxRecDepth 100000 in
theorem c_fill {l : Launch} {D : va_G} {ad : Nat → Nat} {g : Nat × Nat × Nat × Nat} (hg : 3 ≤ g.1 ∧ g.1 ≤ 11 ∧ 8 ≤ g.2.1 ∧ g.2.1 ≤ 2048 ∧ 1 ≤ g.2.2.1 ∧ g.2.2.1 ≤ 24 ∧ 1 ≤ g.2.2.2 ∧ g.2.2.2 ≤ 12) (σ : St) (na N : Nat) (hN : N ≤ 2048) (he : ∀ σ : St, kc D ad g σ na = some (.inl (D.1 10, N, .inl (fun j => iI (σ na j))))) (z : Int) : Kt l D ad g yJ7_fill_53178 (Cond.code yJ7_fill_53178 cJ7_fill_53178 4 none :: tb) 0 0 [.ref (ad na), vi z] σ (fun v σ' => v = none ∧ σ' = upr σ na (fl (σ na) 0 N z)) := by
  refine ct_of (by decide) rfl (Nat.le_of_ble_eq_true rfl) ?_
  intro p e s m below meth c C
  change X _ _ _ _ _ _ _ _ _ _ _ _ _ _ _ _ [(0, .ref (ad na)), (1, vi z)] _
  refine x_iconst C dJ7_fill_53178_0 ?_
  refine x_istore_n C (lv' := [(2, _), (0, _), (1, _)]) dJ7_fill_53178_1 rfl (by decide) rfl ?_
  refine x_aload_n C dJ7_fill_53178_2 rfl rfl ?_
  refine x_alen C 0 dJ7_fill_53178_3 (he σ) rfl ?_
  refine x_istore_n C (lv' := [(3, _), (2, _), (0, _), (1, _)]) dJ7_fill_53178_4 rfl (by decide) rfl ?_
  refine X.sub [1, 0, 2, 3] rfl ?_
  refine X.eqh (congrArg (kc D ad g) (fl_0 σ na 0 z).symm) ?_
  refine (lp_fill C hg σ na N hN he z ?_ (N + 1) 0 (by omega) (by omega))
  intro lv
  exact x_vret C dJ7_fill_53178_20 ⟨_, rfl, rfl, rfl⟩
set_option maxHeartbeats 4000000 in
set_option maxRecDepth 100000 in
theorem c_rangeCheck {l : Launch} {D : va_G} {ad : Nat → Nat} {g : Nat × Nat × Nat × Nat} (hg : 3 ≤ g.1 ∧ g.1 ≤ 11 ∧ 8 ≤ g.2.1 ∧ g.2.1 ≤ 2048 ∧ 1 ≤ g.2.2.1 ∧ g.2.2.1 ≤ 24 ∧ 1 ≤ g.2.2.2 ∧ g.2.2.2 ≤ 12) (σ : St) (N a b : Int) (h : 0 ≤ a ∧ a ≤ b ∧ b ≤ N ∧ N ≤ 2048) : Kt l D ad g yJ7_rangeCheck_23922 (Cond.code yJ7_rangeCheck_23922 cJ7_rangeCheck_23922 3 none :: tb) 0 0 [vi N, vi a, vi b] σ (fun v σ' => v = none ∧ σ = σ') := by
  refine ct_of (by decide) rfl (Nat.le_of_ble_eq_true rfl) ?_
  intro p e s m below meth c C
  change X _ _ _ _ _ _ _ _ _ _ _ _ _ _ _ _ [(0, vi N), (1, vi a), (2, vi b)] _
  refine x_iload_n C dJ7_rangeCheck_23922_0 rfl rfl ?_
  refine x_iload_n C dJ7_rangeCheck_23922_1 rfl rfl ?_
  refine x_icmp_le (tgt := 46) C dJ7_rangeCheck_23922_2 (by decide) (by omega) (by omega) (fun c_2 => ?_) (fun c_2 => ?_)
  · refine x_iload_n C dJ7_rangeCheck_23922_46 rfl rfl ?_
    refine x_if_ge (tgt := 59) C dJ7_rangeCheck_23922_47 (by decide) (by omega) (fun c_47 => ?_) (fun c_47 => ?_)
    · refine x_iload_n C dJ7_rangeCheck_23922_59 rfl rfl ?_
      refine x_iload_n C dJ7_rangeCheck_23922_60 rfl rfl ?_
      refine x_icmp_le (tgt := 73) C dJ7_rangeCheck_23922_61 (by decide) (by omega) (by omega) (fun c_61 => ?_) (fun c_61 => ?_)
      · exact x_vret C dJ7_rangeCheck_23922_73 ⟨_, rfl, rfl, rfl⟩
      · omega
    · omega
  · omega
set_option maxHeartbeats 4000000 in
set_option maxRecDepth 100000 in
theorem lp_fillR {p : Program} {l : Launch} {e : Env} {R : Room} {s : State} {m : MethodId} {args : Array Value} {below : List Frame} {meth : Method} {c : Code} {D : va_G} {ad : Nat → Nat} {g : Nat × Nat × Nat × Nat} {Q : State → Prop} (C : Fx p s m args meth c D ad cJ7_fill_fda19 5 none yJ7_fill_fda19.cls tb) (hg : 3 ≤ g.1 ∧ g.1 ≤ 11 ∧ 8 ≤ g.2.1 ∧ g.2.1 ≤ 2048 ∧ 1 ≤ g.2.2.1 ∧ g.2.2.1 ≤ 24 ∧ 1 ≤ g.2.2.2 ∧ g.2.2.2 ≤ 12) (σ : St) (na N a b : Nat) (hab : a ≤ b ∧ b ≤ N) (hN : N ≤ 2048) (he : ∀ σ : St, kc D ad g σ na = some (.inl (D.1 10, N, .inl (fun j => iI (σ na j))))) (z : Int) (K : ∀ lv, X p l e R s m args below meth c D ad 5 Q (kc D ad g (upr σ na (fl (σ na) a b z))) 27 lv []) (n : Nat) (i : Nat) (hi : a ≤ i ∧ i ≤ b) (hn : b - i < n) : X p l e R s m args below meth c D ad 5 Q (kc D ad g (upr σ na (fl (σ na) a i z))) 10 [(4, vi (i : Int)), (0, .ref (ad na)), (1, vi (a : Int)), (2, vi (b : Int)), (3, vi z)] [] := by
  induction n generalizing i with
  | zero => omega
  | succ n ih =>
  refine x_iload C dJ7_fill_fda19_10 rfl ?_
  refine x_iload_n C dJ7_fill_fda19_12 rfl rfl ?_
  refine x_icmp_ge (tgt := 27) C dJ7_fill_fda19_13 (by decide) (by omega) (by omega) (fun c_13 => ?_) (fun c_13 => ?_)
  · rw [show i = b by omega]
    exact K _
  · refine x_aload_n C dJ7_fill_fda19_16 rfl rfl ?_
    refine x_iload C dJ7_fill_fda19_17 rfl ?_
    refine x_iload_n C dJ7_fill_fda19_19 rfl rfl ?_
    refine k_ast C dJ7_fill_fda19_20 he (by omega) (by omega) ?_
    refine x_iinc C (lv' := [(4, _), (0, _), (1, _), (2, _), (3, _)]) dJ7_fill_fda19_21 rfl (by decide) rfl ?_
    refine x_goto (tgt := 10) C dJ7_fill_fda19_24 (by decide) ?_
    refine X.eqh (by rw [show ((i : Int)).toNat = i by omega, fl_step _ _ _ _ _ hi.1]) ?_
    rw [show (i : Int) + 1 = ((i + 1 : Nat) : Int) by omega]
    exact ih (i + 1) (by omega) (by omega)
set_option maxHeartbeats 4000000 in
set_option maxRecDepth 100000 in
theorem c_fillR {l : Launch} {D : va_G} {ad : Nat → Nat} {g : Nat × Nat × Nat × Nat} (hg : 3 ≤ g.1 ∧ g.1 ≤ 11 ∧ 8 ≤ g.2.1 ∧ g.2.1 ≤ 2048 ∧ 1 ≤ g.2.2.1 ∧ g.2.2.1 ≤ 24 ∧ 1 ≤ g.2.2.2 ∧ g.2.2.2 ≤ 12) (σ : St) (na N a b : Nat) (hab : a ≤ b ∧ b ≤ N) (hN : N ≤ 2048) (he : ∀ σ : St, kc D ad g σ na = some (.inl (D.1 10, N, .inl (fun j => iI (σ na j))))) (z : Int) : Kt l D ad g yJ7_fill_fda19 (Cond.code yJ7_fill_fda19 cJ7_fill_fda19 5 none :: tb) 1 40 [.ref (ad na), vi (a : Int), vi (b : Int), vi z] σ (fun v σ' => v = none ∧ σ' = upr σ na (fl (σ na) a b z)) := by
  refine ct_of (by decide) rfl (Nat.le_of_ble_eq_true rfl) ?_
  intro p e s m below meth c C
  change X _ _ _ _ _ _ _ _ _ _ _ _ _ _ _ _ [(0, .ref (ad na)), (1, vi (a : Int)), (2, vi (b : Int)), (3, vi z)] _
  refine x_aload_n C dJ7_fill_fda19_0 rfl rfl ?_
  refine x_alen C 0 dJ7_fill_fda19_1 (he σ) rfl ?_
  refine x_iload_n C dJ7_fill_fda19_2 rfl rfl ?_
  refine x_iload_n C dJ7_fill_fda19_3 rfl rfl ?_
  refine x_callS C (nn := 3) (c_rangeCheck hg σ (N : Int) (a : Int) (b : Int) (by omega)) g_RJ7_13 rfl (by decide +kernel) ⟨by first | decide | omega, by first | decide | omega⟩ rfl rfl (Nat.le_of_ble_eq_true rfl) dJ7_fill_fda19_4 (fun v h1 hp => ?_)
  obtain ⟨σ1, rfl, rfl, rfl⟩ := hp
  refine x_iload_n C dJ7_fill_fda19_7 rfl rfl ?_
  refine x_istore C (lv' := [(4, _), (0, _), (1, _), (2, _), (3, _)]) dJ7_fill_fda19_8 (by decide) rfl ?_
  refine X.eqh (congrArg (kc D ad g) (fl_0 σ na a z).symm) ?_
  refine (lp_fillR C hg σ na N a b hab hN he z ?_ (b + 1) a (by omega) (by omega))
  intro lv
  exact x_vret C dJ7_fill_fda19_27 ⟨_, rfl, rfl, rfl⟩
set_option maxHeartbeats 4000000 in
set_option maxRecDepth 100000 in
theorem c_within {l : Launch} {D : va_G} {ad : Nat → Nat} {g : Nat × Nat × Nat × Nat} (σ : St) (a b d : Int) (ha : -2147483648 ≤ a ∧ a < 2147483648) (hb : 0 ≤ b ∧ b < 4096) (hd : 0 ≤ d ∧ d < 4096) : Kt l D ad g yX5_within (Cond.code yX5_within cX5_within 3 (some .int) :: tb) 1 40 [vi a, vi b, vi d] σ (fun v σ' => σ = σ' ∧ v = some (vi (max b (min d a)))) := by
  refine ct_of (by decide) rfl (Nat.le_of_ble_eq_true rfl) ?_
  intro p e s m below meth c C
  change X _ _ _ _ _ _ _ _ _ _ _ _ _ _ _ _ [(0, vi a), (1, vi b), (2, vi d)] _
  refine x_iload_n C dX5_within_0 rfl rfl ?_
  refine x_iload_n C dX5_within_1 rfl rfl ?_
  refine x_iload_n C dX5_within_2 rfl rfl ?_
  refine x_mmin C dX5_within_3 m_l_RX5_196 (by omega) (by omega) (by decide) (Nat.le_of_ble_eq_true rfl) ?_
  refine x_mmax C dX5_within_6 m_l_RX5_201 (by omega) (by omega) (by decide) (Nat.le_of_ble_eq_true rfl) ?_
  exact x_iret C dX5_within_9 ⟨_, rfl, rfl, rfl⟩
set_option maxHeartbeats 4000000 in
set_option maxRecDepth 100000 in
theorem c_memClear {l : Launch} {D : va_G} {ad : Nat → Nat} {g : Nat × Nat × Nat × Nat} (hg : 3 ≤ g.1 ∧ g.1 ≤ 11 ∧ 8 ≤ g.2.1 ∧ g.2.1 ≤ 2048 ∧ 1 ≤ g.2.2.1 ∧ g.2.2.1 ≤ 24 ∧ 1 ≤ g.2.2.2 ∧ g.2.2.2 ≤ 12) (σ : St) : Kt l D ad g yX1_clear (Cond.code yX1_clear cX1_clear 1 none :: tb) 1 40 [.ref (ad 1)] σ (fun v σ' => v = none ∧ (∀ q, q ≠ 3 → q ≠ 4 → σ' q = σ q) ∧ (∀ a, a < g.2.1 → σ' 4 a = if a = 0 then (g.1 : Int) else -1) ∧ ∀ k, k ≤ g.1 → σ' 3 k = if k = g.1 then 1 else 0) := by
  refine ct_of (by decide) rfl (Nat.le_of_ble_eq_true rfl) ?_
  intro p e s m below meth c C
  change X _ _ _ _ _ _ _ _ _ _ _ _ _ _ _ _ [(0, .ref (ad 1))] _
  refine x_aload_n C dX1_clear_0 rfl rfl ?_
  refine x_get C (Cn := RX1) (T := TX1) (N := 4) (ci := 1) 3 dX1_clear_1 m_w_1 m_f_RX1_22 rfl (by decide) rfl rfl ?_
  refine x_iconst C dX1_clear_4 ?_
  refine x_callS C (nn := 2) (c_fill hg σ 4 g.2.1 (by omega) (fun _ => rfl) (-1)) g_RX1_28 rfl (by decide +kernel) ⟨by first | decide | omega, by first | decide | omega⟩ rfl rfl (Nat.le_of_ble_eq_true rfl) dX1_clear_5 (fun v h1 hp => ?_)
  obtain ⟨σ1, rfl, rfl, rfl⟩ := hp
  refine x_aload_n C dX1_clear_8 rfl rfl ?_
  refine x_get C (Cn := RX1) (T := TX1) (N := 4) (ci := 1) 2 dX1_clear_9 m_w_1 m_f_RX1_19 rfl (by decide) rfl rfl ?_
  refine x_iconst C dX1_clear_12 ?_
  refine x_callS C (nn := 2) (c_fill hg _ 3 (g.1 + 1) (by omega) (fun _ => rfl) 0) g_RX1_28 rfl (by decide +kernel) ⟨by first | decide | omega, by first | decide | omega⟩ rfl rfl (Nat.le_of_ble_eq_true rfl) dX1_clear_13 (fun v h1 hp => ?_)
  obtain ⟨σ1, rfl, rfl, rfl⟩ := hp
  refine x_aload_n C dX1_clear_16 rfl rfl ?_
  refine x_iconst C dX1_clear_17 ?_
  refine x_aload_n C dX1_clear_18 rfl rfl ?_
  refine x_get C (Cn := RX1) (T := TX1) (N := 4) (ci := 1) 0 dX1_clear_19 m_w_1 m_f_RX1_9 rfl (by decide) rfl rfl ?_
  refine x_callV C (ci := 1) (nn := 2) (c_addFree hg _ 0 (g.1 : Int) (by omega) (by omega)) g_RX1_34 rfl (by decide +kernel) ⟨by first | decide | omega, by first | decide | omega⟩ rfl rfl rfl rfl rfl (Nat.le_of_ble_eq_true rfl) dX1_clear_22 (fun v h1 hp => ?_)
  obtain ⟨σ1, rfl, rfl, rfl⟩ := hp
  exact x_vret C dX1_clear_25 ⟨_, rfl, rfl, fun q h3 h4 => by rw [up_n h3, up_n h4, upr_n h3, upr_n h4], fun a ha => by
      rw [up_n (by decide), up_s, upr_n (by decide), upr_s]
      unfold zup fl
      by_cases c : a = 0
      · simp [c]
      · simp [c, ha], fun k hk => by
      rw [up_s, upr_s]
      unfold zup fl
      by_cases c : k = g.1
      · simp [c]
      · rw [if_neg (by simpa using c), if_neg c, up_n (by decide), upr_s, if_pos (by omega)]⟩
